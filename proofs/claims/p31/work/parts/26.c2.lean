def sq_put (σ : sg_S) (i : Nat) (s p : Int) : sg_S := if p = -1 then sq_rem σ i (aq_ix σ i s) else if aq_ix σ i s = -1 then sq_add σ i s p else st σ 23 (200 * i + (aq_ix σ i s).toNat) p
def aq_put (σ : sg_S) (i : Nat) (s p : Int) : Int := if p = -1 then 1 else if aq_ix σ i s = -1 then aq_add σ i else 1
set_option maxRecDepth 100000 in
set_option maxHeartbeats 4000000 in
theorem c_X1_put {G : am_G} {m x : sg_S} {T : Int} (hW : md_wb T x) {i : Nat} (hi : i < 3) {s p : Int} (hr_s : -2147483648 ≤ s ∧ s < 2147483648) (hr_p : -2147483648 ≤ p ∧ p < 2147483648) : am_Con G yX1_put wX1_put 2 0 0 [am_R (1, i), am_I s, am_I p] (en_h m x) (am_is (am_I (aq_put x i s p)) (en_h m (sq_put x i s p))) := by
  refine am_of2 (Y := mX1_put) (by decide +kernel) rfl (fun z => by cases z) rfl rfl (Nat.le_of_ble_eq_true rfl) fun X => ?_
  refine am_aload_n eX1_put_0 rfl ?_
  refine am_iload_n eX1_put_1 rfl ?_
  refine am_cV eX1_put_2 kX1_22 (c_X1_indexOf (m := m) hW (i := i) (s := s) (by omega) ⟨by omega, by omega⟩) rfl rfl (en_c1 (m := m) (x := x) (i := i) (by omega)) (by decide) (by decide) (Nat.le_of_ble_eq_true rfl) (Nat.zero_le _) (Nat.zero_le _) ?_
  obtain ⟨f1, hf1⟩ : ∃ z, z = aq_ix x i s := ⟨_, rfl⟩
  rw [← hf1]
  have qf1 := sq_ix_in (σ := x) (b := i) (s := s) (x 21 i).toNat 0
  rw [show sq_ix x i s (x 21 i).toNat 0 = aq_ix x i s from rfl, ← hf1] at qf1
  have b2 := wb21 hW i
  refine am_istore_n eX1_put_5 (by decide) ?_
  refine am_iload_n eX1_put_6 rfl ?_
  refine am_iconst eX1_put_7 ?_
  refine am_icmp_ne ⟨by omega, by omega⟩ ⟨by omega, by omega⟩ eX1_put_8 (fun c3 => ?_) (fun c3 => ?_)
  · refine am_iload_n eX1_put_18 rfl ?_
    refine am_iconst eX1_put_19 ?_
    refine am_icmp_ne ⟨by omega, by omega⟩ ⟨by omega, by omega⟩ eX1_put_20 (fun c4 => ?_) (fun c4 => ?_)
    · refine am_aload_n eX1_put_30 rfl ?_
      refine am_getf eX1_put_31 fX1_15 (en_c1 (m := m) (x := x) (i := i) (by omega)) rfl ?_
      refine am_iload_n eX1_put_34 rfl ?_
      refine am_iload_n eX1_put_35 rfl ?_
      refine cx_ast (j := f1.toNat) eX1_put_36 (en_c217 (m := m) (x := x) (i := i) (by omega)) (by omega) (by decide) (by omega) (am_heq (cx_bp (by omega) (by omega)) ?_)
      refine am_iconst eX1_put_37 ?_
      refine am_ireturn eX1_put_38 rfl (Or.inr rfl) (Nat.zero_le _) (Nat.zero_le _) ?_
      exact cx_is (by unfold aq_put; (try rw [← hf1]); (repeat' split) <;> first | rfl | omega) (by unfold sq_put; (try rw [← hf1]); (repeat' split) <;> first | rfl | (exfalso; omega))
    · refine am_aload_n eX1_put_23 rfl ?_
      refine am_iload_n eX1_put_24 rfl ?_
      refine am_iload_n eX1_put_25 rfl ?_
      refine am_cV eX1_put_26 kX1_30 (c_X1_add (m := m) (x := x) hW (i := i) (s := s) (p := p) (by omega) ⟨by omega, by omega⟩ ⟨by omega, by omega⟩) rfl rfl (en_c1 (m := m) (x := x) (i := i) (by omega)) (by decide) (by decide) (Nat.le_of_ble_eq_true rfl) (Nat.zero_le _) (Nat.zero_le _) ?_
      have qf5 : aq_add x i = 0 ∨ aq_add x i = 1 := by unfold aq_add; split <;> simp
      obtain ⟨m6, hm6⟩ : ∃ z, z = sq_add x i s p := ⟨_, rfl⟩
      rw [← hm6]
      refine am_ireturn eX1_put_29 rfl (by show _ = (0 : Int) ∨ _ = (1 : Int); omega) (Nat.zero_le _) (Nat.zero_le _) ?_
      exact cx_is (by unfold aq_put; (try rw [← hf1]); (repeat' split) <;> first | rfl | omega) (by rw [hm6]; unfold sq_put; (try rw [← hf1]); (repeat' split) <;> first | rfl | (exfalso; omega))
  · refine am_aload_n eX1_put_11 rfl ?_
    refine am_iload_n eX1_put_12 rfl ?_
    refine am_cV_v eX1_put_13 kX1_26 (c_X1_remove (m := m) (x := x) hW (i := i) (a := f1) (by omega) ⟨by omega, by omega⟩) rfl rfl (en_c1 (m := m) (x := x) (i := i) (by omega)) (by decide) (by decide) (Nat.le_of_ble_eq_true rfl) (Nat.zero_le _) (Nat.zero_le _) ?_
    obtain ⟨m7, hm7⟩ : ∃ z, z = sq_rem x i f1 := ⟨_, rfl⟩
    rw [← hm7]
    refine am_iconst eX1_put_16 ?_
    refine am_ireturn eX1_put_17 rfl (Or.inr rfl) (Nat.zero_le _) (Nat.zero_le _) ?_
    exact cx_is (by unfold aq_put; (try rw [← hf1]); (repeat' split) <;> first | rfl | omega) (by rw [hm7]; unfold sq_put; (try rw [← hf1]); (repeat' split) <;> first | rfl | (exfalso; omega))
/-- signs of an arm copied within its row; from the dispatch row -/
def sq_cp (σ : sg_S) (i sp dp n : Nat) : sg_S := fun f j => if f = 14 ∧ 220 * i + dp ≤ j ∧ j < 220 * i + dp + n then σ 14 (220 * i + sp + (j - (220 * i + dp))) else σ f j
def sq_cr (σ : sg_S) (i dp n : Nat) : sg_S := fun f j => if f = 14 ∧ 220 * i + dp ≤ j ∧ j < 220 * i + dp + n then σ 50 (j - (220 * i + dp)) else σ f j
theorem sq_cp_f {σ : sg_S} {i sp dp n f j : Nat} (h : f ≠ 14) : sq_cp σ i sp dp n f j = σ f j := by simp [sq_cp, h]
theorem sq_cr_f {σ : sg_S} {i dp n f j : Nat} (h : f ≠ 14) : sq_cr σ i dp n f j = σ f j := by simp [sq_cr, h]
theorem cx_cp0 {m x x' : sg_S} {i dp n : Nat} {F : Nat → Int} (hi : ((i / 2 : Nat) : Int) < x 3 0) (hd : dp + n ≤ 200) (hx : ∀ f j, f ≠ 14 → x' f j = x f j) (hx1 : ∀ j, j < 220 * i + dp ∨ 220 * i + dp + n ≤ j → x' 14 j = x 14 j) (hx2 : ∀ z, z < n → x' 14 (220 * i + dp + z) = F z) : am_up (en_h m x) (210, i) (am_A 0 200 (fun j => am_I (if dp ≤ j ∧ j < dp + n then F (j - dp) else tr 200 (fun z => x 14 (220 * i + z)) j))) = en_h m x' := by
  refine cx_of2 (by decide) (hx 49 0 (by decide)) ?_ (fun k j h => ?_)
  · show (if _ then some _ else none) = _
    rw [hx 3 0 (by decide), if_pos hi]
    refine congrArg some (congrArg (am_A 0 200) (funext fun z => congrArg am_I ?_))
    by_cases c : dp ≤ z ∧ z < dp + n
    · rw [if_pos c]
      simp only [tr]
      rw [if_pos (by omega), ← hx2 (z - dp) (by omega)]
      congr 1
      omega
    · rw [if_neg c]
      simp only [tr]
      split
      · exact hx1 _ (by omega)
      · rfl
  · unfold en_x
    have e := fun f j h => hx f j h
    split <;> first
      | rfl
      | (simp only [hx _ _ (show (3 : Nat) ≠ 14 by decide)]; done)
      | skip
    all_goals simp (disch := decide) only [hx]
    have hj := cx_ne h
    rename_i j
    split
    · refine congrArg some (congrArg (am_A 0 200) (funext fun z => congrArg am_I ?_))
      simp only [tr]
      split
      · refine hx1 _ ?_
        rcases Nat.lt_or_gt_of_ne hj with g | g <;> omega
      · rfl
    · rfl
theorem cx_cpA {m x : sg_S} {i sp dp n : Nat} (hi : ((i / 2 : Nat) : Int) < x 3 0) (h1 : sp + n ≤ 200) (h2 : dp + n ≤ 200) : am_up (en_h m x) (210, i) (am_A 0 200 (fun j => am_I (am_cpy (tr 200 fun z => x 14 (220 * i + z)) (tr 200 fun z => x 14 (220 * i + z)) sp dp n j))) = en_h m (sq_cp x i sp dp n) := by
  refine (congrArg (fun F => am_up (en_h m x) (210, i) (am_A 0 200 F)) (funext fun j => congrArg am_I ?_)).trans (cx_cp0 (F := fun z => x 14 (220 * i + sp + z)) (dp := dp) (n := n) hi h2 (fun f j h => sq_cp_f h) (fun j h => ?_) (fun z h => ?_))
  · simp only [am_cpy, tr]
    by_cases c : dp ≤ j ∧ j < dp + n
    · rw [if_pos c, if_pos c, if_pos (by omega)]
      congr 1
      omega
    · rw [if_neg c, if_neg c]
  · simp only [sq_cp]
    rw [if_neg (by omega)]
  · simp only [sq_cp]
    rw [if_pos ⟨trivial, by omega, by omega⟩]
    congr 1
    omega
theorem cx_cpB {m x : sg_S} {i dp n : Nat} (hi : ((i / 2 : Nat) : Int) < x 3 0) (h2 : dp + n ≤ 200) : am_up (en_h m x) (210, i) (am_A 0 200 (fun j => am_I (am_cpy (fun z => x 50 z) (tr 200 fun z => x 14 (220 * i + z)) 0 dp n j))) = en_h m (sq_cr x i dp n) := by
  refine (congrArg (fun F => am_up (en_h m x) (210, i) (am_A 0 200 F)) (funext fun j => congrArg am_I ?_)).trans (cx_cp0 (F := fun z => x 50 z) (dp := dp) (n := n) hi h2 (fun f j h => sq_cr_f h) (fun j h => ?_) (fun z h => ?_))
  · simp only [am_cpy]
    by_cases c : dp ≤ j ∧ j < dp + n
    · rw [if_pos c, if_pos c]
      congr 1
      omega
    · rw [if_neg c, if_neg c]
  · simp only [sq_cr]
    rw [if_neg (by omega)]
  · simp only [sq_cr]
    rw [if_pos ⟨trivial, by omega, by omega⟩]
    congr 1
    omega
def sq_blk (σ : sg_S) (i at_ n : Nat) (R : Nat → Int) : sg_S := fun f j => if f = 14 ∧ 220 * i + at_ ≤ j ∧ j < 220 * i + at_ + n then R (j - (220 * i + at_)) else if f = 14 ∧ 220 * i + at_ + n ≤ j ∧ j < 220 * i + (σ 12 i).toNat + n then σ 14 (j - n) else σ f j
theorem sq_blk_f {σ : sg_S} {i a n f j : Nat} {R : Nat → Int} (h : f ≠ 14) : sq_blk σ i a n R f j = σ f j := by simp [sq_blk, h]
theorem sq_blk_cp {σ : sg_S} {i a n c : Nat} (hc : c = (σ 12 i).toNat) (ha : a ≤ c) : sq_cr (sq_cp σ i a (a + n) (c - a)) i a n = sq_blk σ i a n (σ 50) := by
  funext f j
  simp only [sq_cr, sq_blk]
  by_cases c1 : f = 14 ∧ 220 * i + a ≤ j ∧ j < 220 * i + a + n
  · rw [if_pos c1, if_pos c1, sq_cp_f (by decide)]
  · rw [if_neg c1, if_neg c1]
    simp only [sq_cp]
    by_cases c2 : f = 14 ∧ 220 * i + a + n ≤ j ∧ j < 220 * i + (σ 12 i).toNat + n
    · rw [if_pos c2, if_pos (by omega)]
      congr 1
      omega
    · rw [if_neg c2, if_neg (by omega)]
def sq_all (σ : sg_S) (i : Nat) (n u : Int) : sg_S :=
  if 200 < σ 12 i + n then σ
  else if u = 0 then st (sq_blk σ i (σ 12 i).toNat n.toNat (σ 50)) 12 i (σ 12 i + n)
  else st (st (sq_blk σ i (σ 13 i).toNat n.toNat (σ 50)) 12 i (σ 12 i + n)) 13 i (σ 13 i + n)
def aq_all (σ : sg_S) (i : Nat) (n : Int) : Int := if 200 < σ 12 i + n then 0 else 1
set_option maxRecDepth 100000 in
set_option maxHeartbeats 4000000 in
theorem c_X0_keepAll {G : am_G} {m x : sg_S} {T : Int} (hW : md_wb T x) {i : Nat} (hi : ((i / 2 : Nat) : Int) < x 3 0) (hU : x 13 i ≤ x 12 i) {n u : Int} (hn : 0 ≤ n ∧ n ≤ 27) (hb_u : u = 0 ∨ u = 1) : am_Con G yX0_keepAll wX0_keepAll 2 0 0 [am_R (0, i), am_R (204, 0), am_I n, am_I u] (en_h m x) (am_is (am_I (aq_all x i n)) (en_h m (sq_all x i n u))) := by
  refine am_of2 (Y := mX0_keepAll) (by decide +kernel) rfl (fun z => by cases z) rfl rfl (Nat.le_of_ble_eq_true rfl) fun X => ?_
  rcases hb_u with rfl | rfl
  · refine am_aload_n eX0_keepAll_0 rfl ?_
    refine am_getf eX0_keepAll_1 fX0_26 (en_c0 (m := m) (x := x) (i := i) (by omega)) rfl ?_
    have b1 := wb12 hW i
    refine am_iload_n eX0_keepAll_4 rfl ?_
    refine am_iadd eX0_keepAll_5 ?_
    refine am_sipush eX0_keepAll_6 (by decide) ?_
    refine am_icmp_le ⟨by omega, by omega⟩ ⟨by omega, by omega⟩ eX0_keepAll_9 (fun c2 => ?_) (fun c2 => ?_)
    · refine am_iload_n eX0_keepAll_14 rfl ?_
      refine am_if_eq ⟨by omega, by omega⟩ eX0_keepAll_15 (fun _ => ?_) (fun z => absurd z (by decide))
      refine am_aload_n eX0_keepAll_25 rfl ?_
      refine am_getf eX0_keepAll_26 fX0_26 (en_c0 (m := m) (x := x) (i := i) (by omega)) rfl ?_
      have b4 := wb12 hW i
      refine am_istore eX0_keepAll_29 (by decide) ?_
      refine am_aload_n eX0_keepAll_31 rfl ?_
      refine am_getf eX0_keepAll_32 fX0_9 (en_c0 (m := m) (x := x) (i := i) (by omega)) rfl ?_
      refine am_iload eX0_keepAll_35 rfl ?_
      refine am_aload_n eX0_keepAll_37 rfl ?_
      refine am_getf eX0_keepAll_38 fX0_9 (en_c0 (m := m) (x := x) (i := i) (by omega)) rfl ?_
      refine am_iload eX0_keepAll_41 rfl ?_
      refine am_iload_n eX0_keepAll_43 rfl ?_
      refine am_iadd eX0_keepAll_44 ?_
      refine am_aload_n eX0_keepAll_45 rfl ?_
      refine am_getf eX0_keepAll_46 fX0_26 (en_c0 (m := m) (x := x) (i := i) (by omega)) rfl ?_
      have b5 := wb12 hW i
      refine am_iload eX0_keepAll_49 rfl ?_
      refine am_isub eX0_keepAll_51 ?_
      refine am_copy eX0_keepAll_52 gX0_32 x_ac1 x_ac2 x_ac3 (en_c210 (m := m) (x := x) (i := i) (by omega)) (en_c210 (m := m) (x := x) (i := i) (by omega)) (by omega) (by omega) (by omega) (by omega) (by omega) (by decide) (by decide) (by decide) (by simp) ?_
      refine am_heq (h' := en_h m (sq_cp x i (x 12 i).toNat ((x 12 i).toNat + n.toNat) ((x 12 i).toNat - (x 12 i).toNat))) (by rw [← cx_cpA (x := x) (i := i) (sp := (x 12 i).toNat) (dp := ((x 12 i).toNat + n.toNat)) (n := ((x 12 i).toNat - (x 12 i).toNat)) (by omega) (by omega) (by omega)]; first | rfl | (congr 4; funext z; congr 3 <;> omega)) ?_
      obtain ⟨m6, hm6⟩ : ∃ z, z = sq_cp x i (x 12 i).toNat ((x 12 i).toNat + n.toNat) ((x 12 i).toNat - (x 12 i).toNat) := ⟨_, rfl⟩
      rw [← hm6]
      refine am_aload_n eX0_keepAll_55 rfl ?_
      refine am_iconst eX0_keepAll_56 ?_
      refine am_aload_n eX0_keepAll_57 rfl ?_
      refine am_getf eX0_keepAll_58 fX0_9 (en_c0 (m := m) (x := m6) (i := i) (by rw [((congrFun (congrFun hm6 3) 0).trans ((sq_cp_f (by decide)).trans rfl))]; omega)) rfl ?_
      refine am_iload eX0_keepAll_61 rfl ?_
      refine am_iload_n eX0_keepAll_63 rfl ?_
      refine am_copy eX0_keepAll_64 gX0_32 x_ac1 x_ac2 x_ac3 (en_c204 (m := m) (x := m6)) (en_c210 (m := m) (x := m6) (i := i) (by rw [((congrFun (congrFun hm6 3) 0).trans ((sq_cp_f (by decide)).trans rfl))]; omega)) (by omega) (by omega) (by omega) (by omega) (by omega) (by decide) (by decide) (by decide) (by simp) ?_
      refine am_heq (h' := en_h m (sq_cr m6 i (x 12 i).toNat n.toNat)) (by rw [← cx_cpB (x := m6) (i := i) (dp := (x 12 i).toNat) (n := n.toNat) (by rw [((congrFun (congrFun hm6 3) 0).trans ((sq_cp_f (by decide)).trans rfl))]; omega) (by omega)]; first | rfl | (congr 4; funext z; congr 3 <;> omega)) ?_
      obtain ⟨m7, hm7⟩ : ∃ z, z = sq_cr m6 i (x 12 i).toNat n.toNat := ⟨_, rfl⟩
      rw [← hm7]
      refine am_aload_n eX0_keepAll_67 rfl ?_
      refine am_dup (by simp) eX0_keepAll_68 ?_
      refine am_getf eX0_keepAll_69 fX0_26 (en_c0 (m := m) (x := m7) (i := i) (by rw [((congrFun (congrFun hm7 3) 0).trans ((sq_cr_f (by decide)).trans ((congrFun (congrFun hm6 3) 0).trans ((sq_cp_f (by decide)).trans rfl))))]; omega)) rfl ?_
      refine am_topI (w := x 12 i) ((congrFun (congrFun hm7 12) i).trans ((sq_cr_f (by decide)).trans ((congrFun (congrFun hm6 12) i).trans ((sq_cp_f (by decide)).trans rfl)))) ?_
      have b8 := wb12 hW i
      refine am_iload_n eX0_keepAll_72 rfl ?_
      refine am_iadd eX0_keepAll_73 ?_
      refine am_putf eX0_keepAll_74 fX0_26 rfl (en_c0 (m := m) (x := m7) (i := i) (by rw [((congrFun (congrFun hm7 3) 0).trans ((sq_cr_f (by decide)).trans ((congrFun (congrFun hm6 3) 0).trans ((sq_cp_f (by decide)).trans rfl))))]; omega)) (Nat.le_of_ble_eq_true rfl) trivial (am_heq (cx_count (by rw [((congrFun (congrFun hm7 3) 0).trans ((sq_cr_f (by decide)).trans ((congrFun (congrFun hm6 3) 0).trans ((sq_cp_f (by decide)).trans rfl))))]; omega)) ?_)
      refine am_iload_n eX0_keepAll_77 rfl ?_
      refine am_if_eq ⟨by omega, by omega⟩ eX0_keepAll_78 (fun _ => ?_) (fun z => absurd z (by decide))
      refine am_iconst eX0_keepAll_91 ?_
      refine am_ireturn eX0_keepAll_92 rfl (Or.inr rfl) (Nat.zero_le _) (Nat.zero_le _) ?_
      exact cx_is (by unfold aq_all; (repeat' split) <;> first | rfl | omega) (by rw [hm7]; rw [hm6]; unfold sq_all; (repeat' split) <;> first | rfl | (exfalso; omega) | (first | rw [← sq_blk_cp (a := (x 12 i).toNat) rfl (by omega)] | rw [← sq_blk_cp (a := (x 13 i).toNat) rfl (by omega)]) <;> (congr 3 <;> omega))
    · refine am_iconst eX0_keepAll_12 ?_
      refine am_ireturn eX0_keepAll_13 rfl (Or.inl rfl) (Nat.zero_le _) (Nat.zero_le _) ?_
      exact cx_is (by unfold aq_all; (repeat' split) <;> first | rfl | omega) (by unfold sq_all; (repeat' split) <;> first | rfl | (exfalso; omega) | (first | rw [← sq_blk_cp (a := (x 12 i).toNat) rfl (by omega)] | rw [← sq_blk_cp (a := (x 13 i).toNat) rfl (by omega)]) <;> (congr 3 <;> omega))
  · refine am_aload_n eX0_keepAll_0 rfl ?_
    refine am_getf eX0_keepAll_1 fX0_26 (en_c0 (m := m) (x := x) (i := i) (by omega)) rfl ?_
    have b1 := wb12 hW i
    refine am_iload_n eX0_keepAll_4 rfl ?_
    refine am_iadd eX0_keepAll_5 ?_
    refine am_sipush eX0_keepAll_6 (by decide) ?_
    refine am_icmp_le ⟨by omega, by omega⟩ ⟨by omega, by omega⟩ eX0_keepAll_9 (fun c2 => ?_) (fun c2 => ?_)
    · refine am_iload_n eX0_keepAll_14 rfl ?_
      refine am_if_eq ⟨by omega, by omega⟩ eX0_keepAll_15 (fun z => absurd z (by decide)) (fun _ => ?_)
      refine am_aload_n eX0_keepAll_18 rfl ?_
      refine am_getf eX0_keepAll_19 fX0_29 (en_c0 (m := m) (x := x) (i := i) (by omega)) rfl ?_
      have b4 := wb13 hW i
      refine am_goto eX0_keepAll_22 ?_
      refine am_istore eX0_keepAll_29 (by decide) ?_
      refine am_aload_n eX0_keepAll_31 rfl ?_
      refine am_getf eX0_keepAll_32 fX0_9 (en_c0 (m := m) (x := x) (i := i) (by omega)) rfl ?_
      refine am_iload eX0_keepAll_35 rfl ?_
      refine am_aload_n eX0_keepAll_37 rfl ?_
      refine am_getf eX0_keepAll_38 fX0_9 (en_c0 (m := m) (x := x) (i := i) (by omega)) rfl ?_
      refine am_iload eX0_keepAll_41 rfl ?_
      refine am_iload_n eX0_keepAll_43 rfl ?_
      refine am_iadd eX0_keepAll_44 ?_
      refine am_aload_n eX0_keepAll_45 rfl ?_
      refine am_getf eX0_keepAll_46 fX0_26 (en_c0 (m := m) (x := x) (i := i) (by omega)) rfl ?_
      have b5 := wb12 hW i
      refine am_iload eX0_keepAll_49 rfl ?_
      refine am_isub eX0_keepAll_51 ?_
      refine am_copy eX0_keepAll_52 gX0_32 x_ac1 x_ac2 x_ac3 (en_c210 (m := m) (x := x) (i := i) (by omega)) (en_c210 (m := m) (x := x) (i := i) (by omega)) (by omega) (by omega) (by omega) (by omega) (by omega) (by decide) (by decide) (by decide) (by simp) ?_
      refine am_heq (h' := en_h m (sq_cp x i (x 13 i).toNat ((x 13 i).toNat + n.toNat) ((x 12 i).toNat - (x 13 i).toNat))) (by rw [← cx_cpA (x := x) (i := i) (sp := (x 13 i).toNat) (dp := ((x 13 i).toNat + n.toNat)) (n := ((x 12 i).toNat - (x 13 i).toNat)) (by omega) (by omega) (by omega)]; first | rfl | (congr 4; funext z; congr 3 <;> omega)) ?_
      obtain ⟨m6, hm6⟩ : ∃ z, z = sq_cp x i (x 13 i).toNat ((x 13 i).toNat + n.toNat) ((x 12 i).toNat - (x 13 i).toNat) := ⟨_, rfl⟩
      rw [← hm6]
      refine am_aload_n eX0_keepAll_55 rfl ?_
      refine am_iconst eX0_keepAll_56 ?_
      refine am_aload_n eX0_keepAll_57 rfl ?_
      refine am_getf eX0_keepAll_58 fX0_9 (en_c0 (m := m) (x := m6) (i := i) (by rw [((congrFun (congrFun hm6 3) 0).trans ((sq_cp_f (by decide)).trans rfl))]; omega)) rfl ?_
      refine am_iload eX0_keepAll_61 rfl ?_
      refine am_iload_n eX0_keepAll_63 rfl ?_
      refine am_copy eX0_keepAll_64 gX0_32 x_ac1 x_ac2 x_ac3 (en_c204 (m := m) (x := m6)) (en_c210 (m := m) (x := m6) (i := i) (by rw [((congrFun (congrFun hm6 3) 0).trans ((sq_cp_f (by decide)).trans rfl))]; omega)) (by omega) (by omega) (by omega) (by omega) (by omega) (by decide) (by decide) (by decide) (by simp) ?_
      refine am_heq (h' := en_h m (sq_cr m6 i (x 13 i).toNat n.toNat)) (by rw [← cx_cpB (x := m6) (i := i) (dp := (x 13 i).toNat) (n := n.toNat) (by rw [((congrFun (congrFun hm6 3) 0).trans ((sq_cp_f (by decide)).trans rfl))]; omega) (by omega)]; first | rfl | (congr 4; funext z; congr 3 <;> omega)) ?_
      obtain ⟨m7, hm7⟩ : ∃ z, z = sq_cr m6 i (x 13 i).toNat n.toNat := ⟨_, rfl⟩
      rw [← hm7]
      refine am_aload_n eX0_keepAll_67 rfl ?_
      refine am_dup (by simp) eX0_keepAll_68 ?_
      refine am_getf eX0_keepAll_69 fX0_26 (en_c0 (m := m) (x := m7) (i := i) (by rw [((congrFun (congrFun hm7 3) 0).trans ((sq_cr_f (by decide)).trans ((congrFun (congrFun hm6 3) 0).trans ((sq_cp_f (by decide)).trans rfl))))]; omega)) rfl ?_
      refine am_topI (w := x 12 i) ((congrFun (congrFun hm7 12) i).trans ((sq_cr_f (by decide)).trans ((congrFun (congrFun hm6 12) i).trans ((sq_cp_f (by decide)).trans rfl)))) ?_
      have b8 := wb12 hW i
      refine am_iload_n eX0_keepAll_72 rfl ?_
      refine am_iadd eX0_keepAll_73 ?_
      refine am_putf eX0_keepAll_74 fX0_26 rfl (en_c0 (m := m) (x := m7) (i := i) (by rw [((congrFun (congrFun hm7 3) 0).trans ((sq_cr_f (by decide)).trans ((congrFun (congrFun hm6 3) 0).trans ((sq_cp_f (by decide)).trans rfl))))]; omega)) (Nat.le_of_ble_eq_true rfl) trivial (am_heq (cx_count (by rw [((congrFun (congrFun hm7 3) 0).trans ((sq_cr_f (by decide)).trans ((congrFun (congrFun hm6 3) 0).trans ((sq_cp_f (by decide)).trans rfl))))]; omega)) ?_)
      refine am_iload_n eX0_keepAll_77 rfl ?_
      refine am_if_eq ⟨by omega, by omega⟩ eX0_keepAll_78 (fun z => absurd z (by decide)) (fun _ => ?_)
      refine am_aload_n eX0_keepAll_81 rfl ?_
      refine am_dup (by simp) eX0_keepAll_82 ?_
      refine am_getf eX0_keepAll_83 fX0_29 (en_c0 (m := m) (x := (st m7 12 i ((x 12 i) + n))) (i := i) (by rw [((st_nf (by decide)).trans ((congrFun (congrFun hm7 3) 0).trans ((sq_cr_f (by decide)).trans ((congrFun (congrFun hm6 3) 0).trans ((sq_cp_f (by decide)).trans rfl)))))]; omega)) rfl ?_
      refine am_topI (w := x 13 i) ((st_nf (by decide)).trans ((congrFun (congrFun hm7 13) i).trans ((sq_cr_f (by decide)).trans ((congrFun (congrFun hm6 13) i).trans ((sq_cp_f (by decide)).trans rfl))))) ?_
      have b10 := wb13 hW i
      refine am_iload_n eX0_keepAll_86 rfl ?_
      refine am_iadd eX0_keepAll_87 ?_
      refine am_putf eX0_keepAll_88 fX0_29 rfl (en_c0 (m := m) (x := (st m7 12 i ((x 12 i) + n))) (i := i) (by rw [((st_nf (by decide)).trans ((congrFun (congrFun hm7 3) 0).trans ((sq_cr_f (by decide)).trans ((congrFun (congrFun hm6 3) 0).trans ((sq_cp_f (by decide)).trans rfl)))))]; omega)) (Nat.le_of_ble_eq_true rfl) trivial (am_heq (cx_urg (by rw [((st_nf (by decide)).trans ((congrFun (congrFun hm7 3) 0).trans ((sq_cr_f (by decide)).trans ((congrFun (congrFun hm6 3) 0).trans ((sq_cp_f (by decide)).trans rfl)))))]; omega)) ?_)
      refine am_iconst eX0_keepAll_91 ?_
      refine am_ireturn eX0_keepAll_92 rfl (Or.inr rfl) (Nat.zero_le _) (Nat.zero_le _) ?_
      exact cx_is (by unfold aq_all; (repeat' split) <;> first | rfl | omega) (by rw [hm7]; rw [hm6]; unfold sq_all; (repeat' split) <;> first | rfl | (exfalso; omega) | (first | rw [← sq_blk_cp (a := (x 12 i).toNat) rfl (by omega)] | rw [← sq_blk_cp (a := (x 13 i).toNat) rfl (by omega)]) <;> (congr 3 <;> omega))
    · refine am_iconst eX0_keepAll_12 ?_
      refine am_ireturn eX0_keepAll_13 rfl (Or.inl rfl) (Nat.zero_le _) (Nat.zero_le _) ?_
      exact cx_is (by unfold aq_all; (repeat' split) <;> first | rfl | omega) (by unfold sq_all; (repeat' split) <;> first | rfl | (exfalso; omega) | (first | rw [← sq_blk_cp (a := (x 12 i).toNat) rfl (by omega)] | rw [← sq_blk_cp (a := (x 13 i).toNat) rfl (by omega)]) <;> (congr 3 <;> omega))

