theorem st_shl {σ : sg_S} {w i f j : Nat} {v : Int} (h : f ≠ 14) : st (sp_shl σ w i) f j v = sp_shl (st σ f j v) w i := by
  funext g z
  simp only [st, sp_shl]
  by_cases e : g = f ∧ z = j
  · rw [if_pos e, if_neg (by omega), if_pos e]
  · rw [if_neg e]
    split
    · rw [if_neg (by omega)]
    · rfl
theorem sq_cp_shl {σ : sg_S} {i n : Nat} : sq_cp σ i 1 0 n = sp_shl σ i n := by
  funext f j
  simp only [sq_cp, sp_shl]
  by_cases c : f = 14 ∧ 220 * i ≤ j ∧ j < 220 * i + n
  · rw [if_pos c, if_pos (by omega)]
    congr 1
    omega
  · rw [if_neg c, if_neg (by omega)]
def sq_rf (σ : sg_S) (i : Nat) : sg_S := if σ 12 i = 0 then σ else sp_shl (st (st σ 12 i (σ 12 i - 1)) 13 i (σ 13 i - (if 0 < σ 13 i then 1 else 0))) i (σ 12 i - 1).toNat
def aq_rf (σ : sg_S) (i : Nat) : Int := if σ 12 i = 0 then -1 else σ 14 (220 * i)
theorem st_id {σ : sg_S} {f j : Nat} : st σ f j (σ f j) = σ := by
  funext g z
  by_cases e : g = f ∧ z = j
  · obtain ⟨rfl, rfl⟩ := e; rw [st_eq]
  · simp only [st, if_neg e]
set_option maxRecDepth 100000 in
set_option maxHeartbeats 4000000 in
theorem c_X0_removeFirst {G : am_G} {m x : sg_S} {T : Int} (hW : md_wb T x) {i : Nat} (hi : ((i / 2 : Nat) : Int) < x 3 0) : am_Con G yX0_removeFirst wX0_removeFirst 2 0 0 [am_R (0, i)] (en_h m x) (am_is (am_I (aq_rf x i)) (en_h m (sq_rf x i))) := by
  refine am_of2 (Y := mX0_removeFirst) (by decide +kernel) rfl (fun z => by cases z) rfl rfl (Nat.le_of_ble_eq_true rfl) fun X => ?_
  refine am_aload_n eX0_removeFirst_0 rfl ?_
  refine am_getf eX0_removeFirst_1 fX0_26 (en_c0 (m := m) (x := x) (i := i) (by omega)) rfl ?_
  have b1 := wb12 hW i
  refine am_if_ne ⟨by omega, by omega⟩ eX0_removeFirst_4 (fun c2 => ?_) (fun c2 => ?_)
  · refine am_aload_n eX0_removeFirst_9 rfl ?_
    refine am_getf eX0_removeFirst_10 fX0_9 (en_c0 (m := m) (x := x) (i := i) (by omega)) rfl ?_
    refine am_iconst eX0_removeFirst_13 ?_
    refine cx_ald (j := 0) (v := x 14 (220 * i + 0)) eX0_removeFirst_14 (en_c210 (m := m) (x := x) (i := i) (by omega)) (by omega) (by decide) (by omega) rfl ?_
    have b3 := wb14 hW (220 * i + 0)
    refine am_istore_n eX0_removeFirst_15 (by decide) ?_
    refine am_aload_n eX0_removeFirst_16 rfl ?_
    refine am_dup (by simp) eX0_removeFirst_17 ?_
    refine am_getf eX0_removeFirst_18 fX0_26 (en_c0 (m := m) (x := x) (i := i) (by omega)) rfl ?_
    have b4 := wb12 hW i
    refine am_iconst eX0_removeFirst_21 ?_
    refine am_isub eX0_removeFirst_22 ?_
    refine am_putf eX0_removeFirst_23 fX0_26 rfl (en_c0 (m := m) (x := x) (i := i) (by omega)) (Nat.le_of_ble_eq_true rfl) trivial (am_heq (cx_count (by omega)) ?_)
    refine am_aload_n eX0_removeFirst_26 rfl ?_
    refine am_getf eX0_removeFirst_27 fX0_9 (en_c0 (m := m) (x := (st x 12 i ((x 12 i) - 1))) (i := i) (by rw [((st_nf (by decide)).trans rfl)]; omega)) rfl ?_
    refine am_iconst eX0_removeFirst_30 ?_
    refine am_aload_n eX0_removeFirst_31 rfl ?_
    refine am_getf eX0_removeFirst_32 fX0_9 (en_c0 (m := m) (x := (st x 12 i ((x 12 i) - 1))) (i := i) (by rw [((st_nf (by decide)).trans rfl)]; omega)) rfl ?_
    refine am_iconst eX0_removeFirst_35 ?_
    refine am_aload_n eX0_removeFirst_36 rfl ?_
    refine am_getf eX0_removeFirst_37 fX0_26 (en_c0 (m := m) (x := (st x 12 i ((x 12 i) - 1))) (i := i) (by rw [((st_nf (by decide)).trans rfl)]; omega)) rfl ?_
    refine am_topI (w := ((x 12 i) - 1)) st_eq ?_
    refine am_copy eX0_removeFirst_40 gX0_32 x_ac1 x_ac2 x_ac3 (en_c210 (m := m) (x := (st x 12 i ((x 12 i) - 1))) (i := i) (by rw [((st_nf (by decide)).trans rfl)]; omega)) (en_c210 (m := m) (x := (st x 12 i ((x 12 i) - 1))) (i := i) (by rw [((st_nf (by decide)).trans rfl)]; omega)) (by omega) (by omega) (by omega) (by omega) (by omega) (by decide) (by decide) (by decide) (by simp) ?_
    refine am_heq (h' := en_h m (sq_cp (st x 12 i ((x 12 i) - 1)) i 1 0 (((x 12 i) - 1)).toNat)) (by rw [← cx_cpA (x := (st x 12 i ((x 12 i) - 1))) (i := i) (sp := 1) (dp := 0) (n := (((x 12 i) - 1)).toNat) (by rw [((st_nf (by decide)).trans rfl)]; omega) (by omega) (by omega)]; first | rfl | (congr 4; funext z; congr 3 <;> omega)) ?_
    obtain ⟨m5, hm5⟩ : ∃ z, z = sq_cp (st x 12 i ((x 12 i) - 1)) i 1 0 (((x 12 i) - 1)).toNat := ⟨_, rfl⟩
    rw [← hm5]
    refine am_aload_n eX0_removeFirst_43 rfl ?_
    refine am_getf eX0_removeFirst_44 fX0_29 (en_c0 (m := m) (x := m5) (i := i) (by rw [((congrFun (congrFun hm5 3) 0).trans ((sq_cp_f (by decide)).trans ((st_nf (by decide)).trans rfl)))]; omega)) rfl ?_
    refine am_topI (w := x 13 i) ((congrFun (congrFun hm5 13) i).trans ((sq_cp_f (by decide)).trans ((st_nf (by decide)).trans rfl))) ?_
    have b6 := wb13 hW i
    refine am_if_le ⟨by omega, by omega⟩ eX0_removeFirst_47 (fun c7 => ?_) (fun c7 => ?_)
    · refine am_iload_n eX0_removeFirst_60 rfl ?_
      refine am_ireturn eX0_removeFirst_61 rfl trivial (Nat.zero_le _) (Nat.zero_le _) ?_
      exact cx_is (by unfold aq_rf; (repeat' split) <;> first | rfl | omega) (by rw [hm5]; unfold sq_rf; first | rw [if_pos (by omega)] | (rw [if_neg (by omega)]; first | (rw [if_pos (by omega), sq_cp_shl, st_shl (by decide)]; done) | (rw [if_neg (by omega), sq_cp_shl, Int.sub_zero]; refine congrArg (fun z => sp_shl z i (x 12 i - 1).toNat) ?_; have z := st_id (σ := st x 12 i (x 12 i - 1)) (f := 13) (j := i); rw [st_nf (by decide)] at z; exact z.symm)))
    · refine am_aload_n eX0_removeFirst_50 rfl ?_
      refine am_dup (by simp) eX0_removeFirst_51 ?_
      refine am_getf eX0_removeFirst_52 fX0_29 (en_c0 (m := m) (x := m5) (i := i) (by rw [((congrFun (congrFun hm5 3) 0).trans ((sq_cp_f (by decide)).trans ((st_nf (by decide)).trans rfl)))]; omega)) rfl ?_
      refine am_topI (w := x 13 i) ((congrFun (congrFun hm5 13) i).trans ((sq_cp_f (by decide)).trans ((st_nf (by decide)).trans rfl))) ?_
      have b8 := wb13 hW i
      refine am_iconst eX0_removeFirst_55 ?_
      refine am_isub eX0_removeFirst_56 ?_
      refine am_putf eX0_removeFirst_57 fX0_29 rfl (en_c0 (m := m) (x := m5) (i := i) (by rw [((congrFun (congrFun hm5 3) 0).trans ((sq_cp_f (by decide)).trans ((st_nf (by decide)).trans rfl)))]; omega)) (Nat.le_of_ble_eq_true rfl) trivial (am_heq (cx_urg (by rw [((congrFun (congrFun hm5 3) 0).trans ((sq_cp_f (by decide)).trans ((st_nf (by decide)).trans rfl)))]; omega)) ?_)
      refine am_iload_n eX0_removeFirst_60 rfl ?_
      refine am_ireturn eX0_removeFirst_61 rfl trivial (Nat.zero_le _) (Nat.zero_le _) ?_
      exact cx_is (by unfold aq_rf; (repeat' split) <;> first | rfl | omega) (by rw [hm5]; unfold sq_rf; first | rw [if_pos (by omega)] | (rw [if_neg (by omega)]; first | (rw [if_pos (by omega), sq_cp_shl, st_shl (by decide)]; done) | (rw [if_neg (by omega), sq_cp_shl, Int.sub_zero]; refine congrArg (fun z => sp_shl z i (x 12 i - 1).toNat) ?_; have z := st_id (σ := st x 12 i (x 12 i - 1)) (f := 13) (j := i); rw [st_nf (by decide)] at z; exact z.symm)))
  · refine am_iconst eX0_removeFirst_7 ?_
    refine am_ireturn eX0_removeFirst_8 rfl trivial (Nat.zero_le _) (Nat.zero_le _) ?_
    exact cx_is (by unfold aq_rf; (repeat' split) <;> first | rfl | omega) (by unfold sq_rf; first | rw [if_pos (by omega)] | (rw [if_neg (by omega)]; first | (rw [if_pos (by omega), sq_cp_shl, st_shl (by decide)]; done) | (rw [if_neg (by omega), sq_cp_shl, Int.sub_zero]; refine congrArg (fun z => sp_shl z i (x 12 i - 1).toNat) ?_; have z := st_id (σ := st x 12 i (x 12 i - 1)) (f := 13) (j := i); rw [st_nf (by decide)] at z; exact z.symm)))
theorem md_mulc {a b : Int} (h1 : -99 ≤ a ∧ a ≤ 99) (h2 : 0 ≤ b ∧ b ≤ 20) : -1980 ≤ a * b ∧ a * b ≤ 1980 := by
  have h3 : a * b ≤ 99 * b := Int.mul_le_mul_of_nonneg_right h1.2 h2.1
  have h4 : (-99) * b ≤ a * b := Int.mul_le_mul_of_nonneg_right h1.1 h2.1
  omega
/-- whether air and the first n hills let be seen -/
def sq_cl (σ : sg_S) (s : Nat) (a b : Int) : Nat → Int
  | 0 => bz (decide (¬ (σ 7 s = 2 ∨ σ 7 s = 1 ∧ 10 < σ 5 (s + 1))))
  | n + 1 => bz (decide (sq_cl σ s a b n = 1 ∧ (σ 9 (3 * s + n) - a) * σ 5 (s + 1) ≤ (b - a) * σ 10 (3 * s + n)))
theorem sq_cl_01 {σ : sg_S} {s : Nat} {a b : Int} : ∀ n, sq_cl σ s a b n = 0 ∨ sq_cl σ s a b n = 1
  | 0 => bz_01 _
  | _ + 1 => bz_01 _
theorem sq_cl_0 {σ : sg_S} {s : Nat} {a b : Int} {j : Nat} (h : sq_cl σ s a b j = 0) : ∀ n, sq_cl σ s a b (j + n) = 0
  | 0 => h
  | n + 1 => by
    have := sq_cl_0 h n
    show bz _ = 0
    rw [bz_0]
    intro z
    have z1 : sq_cl σ s a b (j + n) = 1 := z.1
    omega
set_option maxRecDepth 100000 in
set_option maxHeartbeats 4000000 in
theorem lq_X5_isClear {G : am_G} {m x : sg_S} {T : Int} (hW : md_wb T x) {i : Nat} (hi : (i : Int) + 1 < x 3 0) {a b : Int} (ha : 0 ≤ a ∧ a ≤ 99) (hb : 0 ≤ b ∧ b ≤ 99) (X : am_X): ∀ (n : Nat) (j : Nat) (jv : Int), (jv = (j : Int)) → (sq_cl x i a b j = 1) → (j + n = (x 8 i).toNat) → am_W G X mX5_isClear 1 0 0 (am_end G X 0 0 (am_is (am_I (sq_cl x i a b (x 8 i).toNat)) (en_h m x))) 29 [some (am_R (5, i)), some (am_I a), some (am_I b), some (am_I jv)] [] (en_h m x) 0 0 := by
  intro n
  induction n with
  | zero =>
    intro j jv hj hf hn
    have bb := wb8 hW i
    have b5 := wb5 hW (i + 1)
    refine am_iload_n eX5_isClear_29 rfl ?_
    refine am_aload_n eX5_isClear_30 rfl ?_
    refine am_getf eX5_isClear_31 fX5_22 (en_c5 (m := m) (x := x) (i := i) (by omega)) rfl ?_
    have b1 := wb8 hW i
    refine am_icmp_ge ⟨by omega, by omega⟩ ⟨by omega, by omega⟩ eX5_isClear_34 (fun c2 => ?_) (fun c2 => absurd c2 (by omega))
    refine am_iconst eX5_isClear_71 ?_
    refine am_ireturn eX5_isClear_72 rfl (Or.inr rfl) (Nat.zero_le _) (Nat.zero_le _) ?_
    exact cx_is (by rw [← hn]; exact hf.symm) rfl
  | succ n ih =>
    intro j jv hj hf hn
    have bb := wb8 hW i
    have b5 := wb5 hW (i + 1)
    have q1 := md_mulc (a := x 9 (3 * i + j) - a) (b := x 5 (i + 1)) (by have := wb9 hW (3 * i + j); omega) b5
    have q2 := md_mulc (a := b - a) (b := x 10 (3 * i + j)) (by omega) (by have := wb10 hW (3 * i + j); omega)
    refine am_iload_n eX5_isClear_29 rfl ?_
    refine am_aload_n eX5_isClear_30 rfl ?_
    refine am_getf eX5_isClear_31 fX5_22 (en_c5 (m := m) (x := x) (i := i) (by omega)) rfl ?_
    have b1 := wb8 hW i
    refine am_icmp_ge ⟨by omega, by omega⟩ ⟨by omega, by omega⟩ eX5_isClear_34 (fun c2 => absurd c2 (by omega)) (fun c2 => ?_)
    refine am_aload_n eX5_isClear_37 rfl ?_
    refine am_getf eX5_isClear_38 fX5_15 (en_c5 (m := m) (x := x) (i := i) (by omega)) rfl ?_
    refine am_iload_n eX5_isClear_41 rfl ?_
    refine cx_ald (j := j) (v := x 9 (3 * i + j)) eX5_isClear_42 (en_c214 (m := m) (x := x) (i := i) (by omega)) (by omega) (by decide) (by omega) rfl ?_
    have b3 := wb9 hW (3 * i + j)
    refine am_iload_n eX5_isClear_43 rfl ?_
    refine am_isub eX5_isClear_44 ?_
    refine am_aload_n eX5_isClear_45 rfl ?_
    refine am_getf eX5_isClear_46 fX5_9 (en_c5 (m := m) (x := x) (i := i) (by omega)) rfl ?_
    have b4 := wb5 hW (i + 1)
    refine am_imul eX5_isClear_49 ?_
    refine am_iload_n eX5_isClear_50 rfl ?_
    refine am_iload_n eX5_isClear_51 rfl ?_
    refine am_isub eX5_isClear_52 ?_
    refine am_aload_n eX5_isClear_53 rfl ?_
    refine am_getf eX5_isClear_54 fX5_19 (en_c5 (m := m) (x := x) (i := i) (by omega)) rfl ?_
    refine am_iload_n eX5_isClear_57 rfl ?_
    refine cx_ald (j := j) (v := x 10 (3 * i + j)) eX5_isClear_58 (en_c215 (m := m) (x := x) (i := i) (by omega)) (by omega) (by decide) (by omega) rfl ?_
    have b5 := wb10 hW (3 * i + j)
    refine am_imul eX5_isClear_59 ?_
    refine am_icmp_le ⟨by omega, by omega⟩ ⟨by omega, by omega⟩ eX5_isClear_60 (fun c6 => ?_) (fun c6 => ?_)
    · refine am_iinc eX5_isClear_65 rfl (by decide) ?_
      refine am_goto eX5_isClear_68 ?_
      exact ih (j + 1) _ (by omega) (by show bz _ = 1; exact bz_1 (by omega)) (by omega)
    · refine am_iconst eX5_isClear_63 ?_
      refine am_ireturn eX5_isClear_64 rfl (Or.inl rfl) (Nat.zero_le _) (Nat.zero_le _) ?_
      exact cx_is (by first | (rw [← hn]; exact hf.symm) | (rw [← hn]; refine (show sq_cl x i a b (j + (n + 1)) = 0 from ?_).symm; rw [show j + (n + 1) = (j + 1) + n by omega]; refine sq_cl_0 ?_ n; show bz _ = 0; rw [bz_0]; omega)) rfl
set_option maxRecDepth 100000 in
set_option maxHeartbeats 4000000 in
theorem c_X5_isClear {G : am_G} {m x : sg_S} {T : Int} (hW : md_wb T x) {i : Nat} (hi : (i : Int) + 1 < x 3 0) {a b : Int} (ha : 0 ≤ a ∧ a ≤ 99) (hb : 0 ≤ b ∧ b ≤ 99) : am_Con G yX5_isClear wX5_isClear 1 0 0 [am_R (5, i), am_I a, am_I b] (en_h m x) (am_is (am_I (sq_cl x i a b (x 8 i).toNat)) (en_h m x)) := by
  refine am_of2 (Y := mX5_isClear) (by decide +kernel) rfl (fun z => by cases z) rfl rfl (Nat.le_of_ble_eq_true rfl) fun X => ?_
  refine am_aload_n eX5_isClear_0 rfl ?_
  refine am_getf eX5_isClear_1 fX5_25 (en_c5 (m := m) (x := x) (i := i) (by omega)) rfl ?_
  have b1 := wb7 hW i
  refine am_iconst eX5_isClear_4 ?_
  refine am_icmp_eq ⟨by omega, by omega⟩ ⟨by omega, by omega⟩ eX5_isClear_5 (fun c2 => ?_) (fun c2 => ?_)
  · refine am_iconst eX5_isClear_25 ?_
    refine am_ireturn eX5_isClear_26 rfl (Or.inl rfl) (Nat.zero_le _) (Nat.zero_le _) ?_
    exact cx_is (by refine (show sq_cl x i a b (x 8 i).toNat = 0 from ?_).symm; rw [show (x 8 i).toNat = 0 + (x 8 i).toNat by omega]; refine sq_cl_0 ?_ _; show bz _ = 0; rw [bz_0]; omega) rfl
  · refine am_aload_n eX5_isClear_8 rfl ?_
    refine am_getf eX5_isClear_9 fX5_25 (en_c5 (m := m) (x := x) (i := i) (by omega)) rfl ?_
    have b3 := wb7 hW i
    refine am_iconst eX5_isClear_12 ?_
    refine am_icmp_ne ⟨by omega, by omega⟩ ⟨by omega, by omega⟩ eX5_isClear_13 (fun c4 => ?_) (fun c4 => ?_)
    · refine am_iconst eX5_isClear_27 ?_
      refine am_istore_n eX5_isClear_28 (by decide) ?_
      exact lq_X5_isClear hW hi ha hb X _ 0 _ rfl (by show bz _ = 1; exact bz_1 (by omega)) (Nat.zero_add _)
    · refine am_aload_n eX5_isClear_16 rfl ?_
      refine am_getf eX5_isClear_17 fX5_9 (en_c5 (m := m) (x := x) (i := i) (by omega)) rfl ?_
      have b5 := wb5 hW (i + 1)
      refine am_bipush eX5_isClear_20 (by decide) ?_
      refine am_icmp_le ⟨by omega, by omega⟩ ⟨by omega, by omega⟩ eX5_isClear_22 (fun c6 => ?_) (fun c6 => ?_)
      · refine am_iconst eX5_isClear_27 ?_
        refine am_istore_n eX5_isClear_28 (by decide) ?_
        exact lq_X5_isClear hW hi ha hb X _ 0 _ rfl (by show bz _ = 1; exact bz_1 (by omega)) (Nat.zero_add _)
      · refine am_iconst eX5_isClear_25 ?_
        refine am_ireturn eX5_isClear_26 rfl (Or.inl rfl) (Nat.zero_le _) (Nat.zero_le _) ?_
        exact cx_is (by refine (show sq_cl x i a b (x 8 i).toNat = 0 from ?_).symm; rw [show (x 8 i).toNat = 0 + (x 8 i).toNat by omega]; refine sq_cl_0 ?_ _; show bz _ = 0; rw [bz_0]; omega) rfl
def sq_dadd (σ : sg_S) (i : Nat) (s : Int) : sg_S := if σ 63 i < 60 then st (st σ 65 (60 * i + (σ 63 i).toNat) s) 63 i (σ 63 i + 1) else σ
def aq_dtell (σ : sg_S) (i : Nat) (a : Int) : Int := if a = 0 then σ 61 i else if a = 1 then σ 60 i else if a = 2 then σ 63 i / 2 else σ 62 i
set_option maxRecDepth 100000 in
set_option maxHeartbeats 4000000 in
theorem c_X2_add {G : am_G} {m x : sg_S} {T : Int} (hW : md_wb T x) {i : Nat} (hi : (i : Int) < x 51 0) (hc : 0 ≤ x 63 i ∧ x 63 i ≤ 60) {s : Int} (hr_s : -2147483648 ≤ s ∧ s < 2147483648) : am_Con G yX2_add wX2_add 1 0 0 [am_R (2, i), am_I s] (en_h m x) (am_vd (en_h m (sq_dadd x i s))) := by
  refine am_of2 (Y := mX2_add) (by decide +kernel) rfl (fun z => by cases z) rfl rfl (Nat.le_of_ble_eq_true rfl) fun X => ?_
  refine am_aload_n eX2_add_0 rfl ?_
  refine am_getf eX2_add_1 fX2_27 (en_c2 (m := m) (x := x) (i := i) (by omega)) rfl ?_
  refine am_bipush eX2_add_4 (by decide) ?_
  refine am_icmp_ge ⟨by omega, by omega⟩ ⟨by omega, by omega⟩ eX2_add_6 (fun c1 => ?_) (fun c1 => ?_)
  · refine am_return eX2_add_29 rfl (Nat.zero_le _) (Nat.zero_le _) ?_
    exact cx_vd (by first | rfl | (unfold sq_dadd; (repeat' split) <;> first | rfl | (exfalso; omega)))
  · refine am_aload_n eX2_add_9 rfl ?_
    refine am_getf eX2_add_10 fX2_23 (en_c2 (m := m) (x := x) (i := i) (by omega)) rfl ?_
    refine am_aload_n eX2_add_13 rfl ?_
    refine am_getf eX2_add_14 fX2_27 (en_c2 (m := m) (x := x) (i := i) (by omega)) rfl ?_
    refine am_iload_n eX2_add_17 rfl ?_
    refine cx_ast (j := (x 63 i).toNat) eX2_add_18 (en_c219 (m := m) (x := x) (i := i) (by omega)) (by omega) (by decide) (by omega) (am_heq (cx_ds (by omega) (by omega)) ?_)
    refine am_aload_n eX2_add_19 rfl ?_
    refine am_dup (by simp) eX2_add_20 ?_
    refine am_getf eX2_add_21 fX2_27 (en_c2 (m := m) (x := (st x 65 (60 * i + (x 63 i).toNat) s)) (i := i) (by rw [((st_nf (by decide)).trans rfl)]; omega)) rfl ?_
    refine am_topI (w := x 63 i) ((st_nf (by decide)).trans rfl) ?_
    refine am_iconst eX2_add_24 ?_
    refine am_iadd eX2_add_25 ?_
    refine am_putf eX2_add_26 fX2_27 rfl (en_c2 (m := m) (x := (st x 65 (60 * i + (x 63 i).toNat) s)) (i := i) (by rw [((st_nf (by decide)).trans rfl)]; omega)) (Nat.le_of_ble_eq_true rfl) trivial (am_heq (cx_dcount (by rw [((st_nf (by decide)).trans rfl)]; omega)) ?_)
    refine am_return eX2_add_29 rfl (Nat.zero_le _) (Nat.zero_le _) ?_
    exact cx_vd (by first | rfl | (unfold sq_dadd; (repeat' split) <;> first | rfl | (exfalso; omega)))
set_option maxRecDepth 100000 in
set_option maxHeartbeats 4000000 in
theorem c_X2_spots {G : am_G} {m x : sg_S} {T : Int} (hW : md_wb T x) {i : Nat} (hi : (i : Int) < x 51 0) (hc : 0 ≤ x 63 i ∧ x 63 i ≤ 60) : am_Con G yX2_spots wX2_spots 1 0 0 [am_R (2, i)] (en_h m x) (am_is (am_I (x 63 i / 2)) (en_h m x)) := by
  refine am_of2 (Y := mX2_spots) (by decide +kernel) rfl (fun z => by cases z) rfl rfl (Nat.le_of_ble_eq_true rfl) fun X => ?_
  refine am_aload_n eX2_spots_0 rfl ?_
  refine am_getf eX2_spots_1 fX2_27 (en_c2 (m := m) (x := x) (i := i) (by omega)) rfl ?_
  refine am_iconst eX2_spots_4 ?_
  refine am_idiv ⟨by omega, by omega⟩ (by omega) ⟨by omega, by omega⟩ (by omega) eX2_spots_5 ?_
  refine am_ireturn eX2_spots_6 rfl trivial (Nat.zero_le _) (Nat.zero_le _) ?_
  exact cx_is rfl rfl
set_option maxRecDepth 100000 in
set_option maxHeartbeats 4000000 in
theorem c_X2_tell {G : am_G} {m x : sg_S} {T : Int} (hW : md_wb T x) {i : Nat} (hi : (i : Int) < x 51 0) (hc : 0 ≤ x 63 i ∧ x 63 i ≤ 60) (hu : x 62 i = 0 ∨ x 62 i = 1) {a : Int} (hr_a : -2147483648 ≤ a ∧ a < 2147483648) : am_Con G yX2_tell wX2_tell 2 0 0 [am_R (2, i), am_I a] (en_h m x) (am_is (am_I (aq_dtell x i a)) (en_h m x)) := by
  refine am_of2 (Y := mX2_tell) (by decide +kernel) rfl (fun z => by cases z) rfl rfl (Nat.le_of_ble_eq_true rfl) fun X => ?_
  refine am_iload_n eX2_tell_0 rfl ?_
  refine am_if_ne ⟨by omega, by omega⟩ eX2_tell_1 (fun c1 => ?_) (fun c1 => ?_)
  · refine am_iload_n eX2_tell_9 rfl ?_
    refine am_iconst eX2_tell_10 ?_
    refine am_icmp_ne ⟨by omega, by omega⟩ ⟨by omega, by omega⟩ eX2_tell_11 (fun c2 => ?_) (fun c2 => ?_)
    · refine am_iload_n eX2_tell_19 rfl ?_
      refine am_iconst eX2_tell_20 ?_
      refine am_icmp_ne ⟨by omega, by omega⟩ ⟨by omega, by omega⟩ eX2_tell_21 (fun c3 => ?_) (fun c3 => ?_)
      · refine am_aload_n eX2_tell_29 rfl ?_
        refine am_getf eX2_tell_30 fX2_15 (en_c2 (m := m) (x := x) (i := i) (by omega)) rfl ?_
        refine am_if_eq ⟨by omega, by omega⟩ eX2_tell_33 (fun c4 => ?_) (fun c4 => ?_)
        · refine am_iconst eX2_tell_40 ?_
          refine am_ireturn eX2_tell_41 rfl trivial (Nat.zero_le _) (Nat.zero_le _) ?_
          exact cx_is (by unfold aq_dtell; (repeat' split) <;> first | rfl | omega) rfl
        · refine am_iconst eX2_tell_36 ?_
          refine am_goto eX2_tell_37 ?_
          refine am_ireturn eX2_tell_41 rfl trivial (Nat.zero_le _) (Nat.zero_le _) ?_
          exact cx_is (by unfold aq_dtell; (repeat' split) <;> first | rfl | omega) rfl
      · refine am_aload_n eX2_tell_24 rfl ?_
        refine am_cV eX2_tell_25 kX2_33 (c_X2_spots (m := m) (x := x) hW (i := i) hi hc) rfl rfl (en_c2 (m := m) (x := x) (i := i) (by omega)) (by decide) (by decide) (Nat.le_of_ble_eq_true rfl) (Nat.zero_le _) (Nat.zero_le _) ?_
        refine am_ireturn eX2_tell_28 rfl trivial (Nat.zero_le _) (Nat.zero_le _) ?_
        exact cx_is (by unfold aq_dtell; (repeat' split) <;> first | rfl | omega) rfl
    · refine am_aload_n eX2_tell_14 rfl ?_
      refine am_getf eX2_tell_15 fX2_9 (en_c2 (m := m) (x := x) (i := i) (by omega)) rfl ?_
      refine am_ireturn eX2_tell_18 rfl trivial (Nat.zero_le _) (Nat.zero_le _) ?_
      exact cx_is (by unfold aq_dtell; (repeat' split) <;> first | rfl | omega) rfl
  · refine am_aload_n eX2_tell_4 rfl ?_
    refine am_getf eX2_tell_5 fX2_30 (en_c2 (m := m) (x := x) (i := i) (by omega)) rfl ?_
    refine am_ireturn eX2_tell_8 rfl trivial (Nat.zero_le _) (Nat.zero_le _) ?_
    exact cx_is (by unfold aq_dtell; (repeat' split) <;> first | rfl | omega) rfl
set_option maxRecDepth 100000 in
set_option maxHeartbeats 4000000 in
theorem c_X7_armFor {G : am_G} {m x : sg_S} {T : Int} (hW : md_wb T x) {i : Nat} (hi : (i : Int) < x 3 0) {u : Int} (hb_u : u = 0 ∨ u = 1) : am_Con G yX7_armFor wX7_armFor 1 0 0 [am_R (7, i), am_I u] (en_h m x) (am_is (am_R (0, 2 * i + u.toNat)) (en_h m x)) := by
  refine am_of2 (Y := mX7_armFor) (by decide +kernel) rfl (fun z => by cases z) rfl rfl (Nat.le_of_ble_eq_true rfl) fun X => ?_
  rcases hb_u with rfl | rfl
  · refine am_iload_n eX7_armFor_0 rfl ?_
    refine am_if_eq ⟨by omega, by omega⟩ eX7_armFor_1 (fun _ => ?_) (fun z => absurd z (by decide))
    refine am_aload_n eX7_armFor_11 rfl ?_
    refine am_getf eX7_armFor_12 fX7_20 (en_c7 (m := m) (x := x) (i := i) (by omega)) rfl ?_
    refine am_areturn eX7_armFor_15 rfl (Nat.zero_le _) (Nat.zero_le _) ?_
    exact ⟨rfl, rfl⟩
  · refine am_iload_n eX7_armFor_0 rfl ?_
    refine am_if_eq ⟨by omega, by omega⟩ eX7_armFor_1 (fun z => absurd z (by decide)) (fun _ => ?_)
    refine am_aload_n eX7_armFor_4 rfl ?_
    refine am_getf eX7_armFor_5 fX7_16 (en_c7 (m := m) (x := x) (i := i) (by omega)) rfl ?_
    refine am_goto eX7_armFor_8 ?_
    refine am_areturn eX7_armFor_15 rfl (Nat.zero_le _) (Nat.zero_le _) ?_
    exact ⟨rfl, rfl⟩

