def sp_nx (σ : sg_S) (w e : Nat) : Nat := sp_nxt σ w ((σ 17 w).toNat - e) e
theorem c_X9_nextReadN {G : am_G} {m x : sg_S} {T : Int} (hW : md_wb T m) {w v : Int} {wn a : Nat} (ew : w = (wn : Int)) (hw : wn < 24) (hv : v = (a : Int)) (ha : a ≤ 301) : am_Con G yX9_nextRead wX9_nextRead 1 0 0 [am_R (9, 0), am_I w, am_I v] (en_h m x) (am_is (am_I ((sp_nx m wn a : Nat) : Int)) (en_h m x)) := by
  subst ew
  have h := c_X9_nextRead (G := G) (x := x) hW (w := (wn : Int)) (v := v) (by omega) hv ha
  rwa [Int.toNat_natCast] at h
theorem sp_nx_in {T : Int} {σ : sg_S} (hW : md_wb T σ) {w e : Nat} (he : e ≤ 301) : e ≤ sp_nx σ w e ∧ sp_nx σ w e ≤ 301 := by
  have h := sp_nxt_in (σ := σ) (w := w) ((σ 17 w).toNat - e) e
  have b := wb17 hW w
  unfold sp_nx
  omega
theorem sp_nxt_st {σ : sg_S} {f j : Nat} {v : Int} (h : f ≠ 20) {w : Nat} : ∀ n e, sp_nxt (st σ f j v) w n e = sp_nxt σ w n e
  | 0, _ => rfl
  | n + 1, e => by simp only [sp_nxt, sp_nxt_st h n, st_nf (Ne.symm h)]
theorem sp_nx_st {σ : sg_S} {f j : Nat} {v : Int} (h : f ≠ 20) (h2 : f ≠ 17) {w e : Nat} : sp_nx (st σ f j v) w e = sp_nx σ w e := by
  unfold sp_nx
  rw [sp_nxt_st h, st_nf (Ne.symm h2)]
def sp_df (σ : sg_S) (w v : Nat) : Nat → Nat → Nat → Int → Int
  | 0, _, _, _ => -1
  | n + 1, a, b, p => if (a : Int) < σ 17 w ∧ (b : Int) < σ 17 v then (if σ 19 (300 * w + a) ≠ σ 19 (300 * v + b) then p else sp_df σ w v n (sp_nx σ w (a + 1)) (sp_nx σ v (b + 1)) (p + 1)) else -1
set_option maxRecDepth 100000 in
set_option maxHeartbeats 4000000 in
theorem lp_X9_differs {G : am_G} {m x : sg_S} {T : Int} (hW : md_wb T m) {t o u wv vv : Int} {w v : Nat} (ew : wv = (w : Int)) (ev : vv = (v : Int)) (hw : w < 24) (hv : v < 24) {R9 : Int} (X : am_X) : ∀ (n : Nat) (a : Nat) (b : Nat) (av : Int) (bv : Int) (pv : Int), (av = a) → (bv = b) → (pv = 300 - (n : Int)) → (pv ≤ a ∧ pv ≤ b ∧ 0 ≤ pv) → (a ≤ 301 ∧ b ≤ 301) → (sp_df m w v n a b pv = R9) → am_W G X mX9_differs 3 0 0 (am_end G X 0 0 (am_is (am_I R9) (en_h (st m 0 0 0) x))) 69 [some (am_R (9, 0)), some (am_I t), some (am_I o), some (am_I u), some (am_I wv), some (am_I vv), some (am_I av), some (am_I bv), some (am_I pv)] [] (en_h (st m 0 0 0) x) 0 0 := by
  intro n
  induction n with
  | zero =>
    intro a b av bv pv ha hb hp hq hz hA
    have bb := wb17 hW w
    refine am_iload eX9_differs_69 rfl ?_
    refine am_aload_n eX9_differs_71 rfl ?_
    refine md_getA eX9_differs_72 fX9_51 (by decide) (by decide) ?_
    refine am_iload eX9_differs_75 rfl ?_
    refine md_ald (f := 17) (j := w) (v := m 17 w) eX9_differs_77 (by show _ < 24; omega) rfl (by omega) ((st_nf (by decide)).trans rfl) ?_
    have b1 := wb17 hW w
    refine am_icmp_ge ⟨by omega, by omega⟩ ⟨by omega, by omega⟩ eX9_differs_78 (fun c2 => ?_) (fun c2 => absurd c2 (by omega))
    refine am_iconst eX9_differs_157 ?_
    refine am_ireturn eX9_differs_158 rfl trivial (Nat.zero_le _) (Nat.zero_le _) ?_
    exact am_is_m (by rw [← hA]; simp only [sp_df] <;> first | rfl | (rw [if_neg (by omega)]) | (rw [if_pos (by omega), if_pos (by omega)])) rfl
  | succ n ih =>
    intro a b av bv pv ha hb hp hq hz hA
    have bb := wb17 hW w
    refine am_iload eX9_differs_69 rfl ?_
    refine am_aload_n eX9_differs_71 rfl ?_
    refine md_getA eX9_differs_72 fX9_51 (by decide) (by decide) ?_
    refine am_iload eX9_differs_75 rfl ?_
    refine md_ald (f := 17) (j := w) (v := m 17 w) eX9_differs_77 (by show _ < 24; omega) rfl (by omega) ((st_nf (by decide)).trans rfl) ?_
    have b1 := wb17 hW w
    refine am_icmp_ge ⟨by omega, by omega⟩ ⟨by omega, by omega⟩ eX9_differs_78 (fun c2 => ?_) (fun c2 => ?_)
    · refine am_iconst eX9_differs_157 ?_
      refine am_ireturn eX9_differs_158 rfl trivial (Nat.zero_le _) (Nat.zero_le _) ?_
      exact am_is_m (by rw [← hA]; simp only [sp_df] <;> first | rfl | (rw [if_neg (by omega)]) | (rw [if_pos (by omega), if_pos (by omega)])) rfl
    · refine am_iload eX9_differs_81 rfl ?_
      refine am_aload_n eX9_differs_83 rfl ?_
      refine md_getA eX9_differs_84 fX9_51 (by decide) (by decide) ?_
      refine am_iload eX9_differs_87 rfl ?_
      refine md_ald (f := 17) (j := v) (v := m 17 v) eX9_differs_89 (by show _ < 24; omega) rfl (by omega) ((st_nf (by decide)).trans rfl) ?_
      have b3 := wb17 hW v
      refine am_icmp_ge ⟨by omega, by omega⟩ ⟨by omega, by omega⟩ eX9_differs_90 (fun c4 => ?_) (fun c4 => ?_)
      · refine am_iconst eX9_differs_157 ?_
        refine am_ireturn eX9_differs_158 rfl trivial (Nat.zero_le _) (Nat.zero_le _) ?_
        exact am_is_m (by rw [← hA]; simp only [sp_df] <;> first | rfl | (rw [if_neg (by omega)]) | (rw [if_pos (by omega), if_pos (by omega)])) rfl
      · refine am_aload_n eX9_differs_93 rfl ?_
        refine md_getA eX9_differs_94 fX9_57 (by decide) (by decide) ?_
        refine am_sipush eX9_differs_97 (by decide) ?_
        refine am_iload eX9_differs_100 rfl ?_
        refine am_imul eX9_differs_102 ?_
        refine am_iload eX9_differs_103 rfl ?_
        refine am_iadd eX9_differs_105 ?_
        refine md_ald (f := 19) (j := ((300 * w) + a)) (v := m 19 ((300 * w) + a)) eX9_differs_106 (by show _ < 7200; omega) rfl (by omega) ((st_nf (by decide)).trans rfl) ?_
        have b5 := wb19 hW ((300 * w) + a)
        refine am_aload_n eX9_differs_107 rfl ?_
        refine md_getA eX9_differs_108 fX9_57 (by decide) (by decide) ?_
        refine am_sipush eX9_differs_111 (by decide) ?_
        refine am_iload eX9_differs_114 rfl ?_
        refine am_imul eX9_differs_116 ?_
        refine am_iload eX9_differs_117 rfl ?_
        refine am_iadd eX9_differs_119 ?_
        refine md_ald (f := 19) (j := ((300 * v) + b)) (v := m 19 ((300 * v) + b)) eX9_differs_120 (by show _ < 7200; omega) rfl (by omega) ((st_nf (by decide)).trans rfl) ?_
        have b6 := wb19 hW ((300 * v) + b)
        refine am_icmp_eq ⟨by omega, by omega⟩ ⟨by omega, by omega⟩ eX9_differs_121 (fun c7 => ?_) (fun c7 => ?_)
        · refine am_aload_n eX9_differs_127 rfl ?_
          refine am_iload eX9_differs_128 rfl ?_
          refine am_iload eX9_differs_130 rfl ?_
          refine am_iconst eX9_differs_132 ?_
          refine am_iadd eX9_differs_133 ?_
          refine am_cV eX9_differs_134 kX9_217 (c_X9_nextReadN (m := (st m 0 0 0)) (x := x) (T := T) (wb_st (f := 0) hW (by show (0 : Int) ≤ _; omega) (by show _ ≤ (3 : Int); omega)) (w := wv) (v := (av + 1)) (wn := w) (a := (a + 1)) (by omega) (by omega) (by omega) (by omega)) rfl rfl en_9 (by decide) (by decide) (Nat.le_of_ble_eq_true rfl) (Nat.zero_le _) (Nat.zero_le _) ?_
          rw [sp_nx_st (by decide) (by decide)]
          have bn8 := sp_nx_in hW (w := w) (e := (a + 1)) (by omega)
          refine am_istore eX9_differs_137 (by decide) ?_
          refine am_aload_n eX9_differs_139 rfl ?_
          refine am_iload eX9_differs_140 rfl ?_
          refine am_iload eX9_differs_142 rfl ?_
          refine am_iconst eX9_differs_144 ?_
          refine am_iadd eX9_differs_145 ?_
          refine am_cV eX9_differs_146 kX9_217 (c_X9_nextReadN (m := (st m 0 0 0)) (x := x) (T := T) (wb_st (f := 0) hW (by show (0 : Int) ≤ _; omega) (by show _ ≤ (3 : Int); omega)) (w := vv) (v := (bv + 1)) (wn := v) (a := (b + 1)) (by omega) (by omega) (by omega) (by omega)) rfl rfl en_9 (by decide) (by decide) (Nat.le_of_ble_eq_true rfl) (Nat.zero_le _) (Nat.zero_le _) ?_
          rw [sp_nx_st (by decide) (by decide)]
          have bn9 := sp_nx_in hW (w := v) (e := (b + 1)) (by omega)
          refine am_istore eX9_differs_149 (by decide) ?_
          refine am_iinc eX9_differs_151 rfl (by decide) ?_
          refine am_goto eX9_differs_154 ?_
          exact ih _ _ _ _ _ rfl rfl (by omega) (by omega) (by omega) (by rw [← hA]; simp only [sp_df]; rw [if_pos (by omega), if_neg (by omega)])
        · refine am_iload eX9_differs_124 rfl ?_
          refine am_ireturn eX9_differs_126 rfl trivial (Nat.zero_le _) (Nat.zero_le _) ?_
          exact am_is_m (by rw [← hA]; simp only [sp_df] <;> first | rfl | (rw [if_neg (by omega)]) | (rw [if_pos (by omega), if_pos (by omega)])) rfl
def sp_differs (σ : sg_S) (t o u : Int) : sg_S := if ¬ (0 ≤ t ∧ t ≤ σ 3 0 - 1) ∨ ¬ (0 ≤ o ∧ o ≤ σ 3 0 - 1) then st σ 0 0 1 else st σ 0 0 0
def an_differs (σ : sg_S) (t o u : Int) : Int := if ¬ (0 ≤ t ∧ t ≤ σ 3 0 - 1) ∨ ¬ (0 ≤ o ∧ o ≤ σ 3 0 - 1) then 0 else sp_df σ (2 * t.toNat + u.toNat) (2 * o.toNat + u.toNat) 300 (sp_nx σ (2 * t.toNat + u.toNat) 0) (sp_nx σ (2 * o.toNat + u.toNat) 0) 0
set_option maxRecDepth 100000 in
set_option maxHeartbeats 4000000 in
theorem c_X9_differs {G : am_G} {m x : sg_S} {T : Int} (hW : md_wb T m) {t o u : Int} (hr_t : -2147483648 ≤ t ∧ t < 2147483648) (hr_o : -2147483648 ≤ o ∧ o < 2147483648) (hb_u : u = 0 ∨ u = 1)  : am_Con G yX9_differs wX9_differs 3 0 0 [am_R (9, 0), am_I t, am_I o, am_I u] (en_h m x) (am_is (am_I (an_differs m t o u)) (en_h (sp_differs m t o u) x)) := by
  refine am_of2 (Y := mX9_differs) (by decide +kernel) rfl (fun z => by cases z) rfl rfl (Nat.le_of_ble_eq_true rfl) fun X => ?_
  refine am_aload_n eX9_differs_0 rfl ?_
  refine am_aload_n eX9_differs_1 rfl ?_
  refine am_iload_n eX9_differs_2 rfl ?_
  refine am_cV eX9_differs_3 kX9_141 (c_X9_isTower (m := m) (x := x) (T := T) hW (a := t) ⟨by omega, by omega⟩) rfl rfl en_9 (by decide) (by decide) (Nat.le_of_ble_eq_true rfl) (Nat.zero_le _) (Nat.zero_le _) ?_
  have b1 := wb3 hW 0
  refine am_bz_eq eX9_differs_6 (fun c2 => ?_) (fun c2 => ?_)
  · refine am_iconst eX9_differs_21 ?_
    refine md_put eX9_differs_22 fX9_123 rfl rfl (by decide) trivial ?_
    refine am_aload_n eX9_differs_25 rfl ?_
    refine md_getI (v := 1) eX9_differs_26 fX9_123 rfl (by decide) st_eq ?_
    refine am_if_le ⟨by omega, by omega⟩ eX9_differs_29 (fun z => absurd z (by decide)) (fun _ => ?_)
    refine am_iconst eX9_differs_32 ?_
    refine am_ireturn eX9_differs_33 rfl trivial (Nat.zero_le _) (Nat.zero_le _) ?_
    exact am_is_m (by first | rfl | (unfold an_differs; (try simp only [Int.toNat_zero, Int.toNat_one]); (repeat' split) <;> first | rfl | omega | (simp only [Nat.mul_zero, Nat.mul_one] at *; omega))) (by first | rfl | (unfold sp_differs; (try simp only [Int.toNat_zero, Int.toNat_one]); (repeat' split) <;> first | rfl | (exfalso; omega)))
  · refine am_aload_n eX9_differs_9 rfl ?_
    refine am_iload_n eX9_differs_10 rfl ?_
    refine am_cV eX9_differs_11 kX9_141 (c_X9_isTower (m := m) (x := x) (T := T) hW (a := o) ⟨by omega, by omega⟩) rfl rfl en_9 (by decide) (by decide) (Nat.le_of_ble_eq_true rfl) (Nat.zero_le _) (Nat.zero_le _) ?_
    have b4 := wb3 hW 0
    refine am_bz_eq eX9_differs_14 (fun c5 => ?_) (fun c5 => ?_)
    · refine am_iconst eX9_differs_21 ?_
      refine md_put eX9_differs_22 fX9_123 rfl rfl (by decide) trivial ?_
      refine am_aload_n eX9_differs_25 rfl ?_
      refine md_getI (v := 1) eX9_differs_26 fX9_123 rfl (by decide) st_eq ?_
      refine am_if_le ⟨by omega, by omega⟩ eX9_differs_29 (fun z => absurd z (by decide)) (fun _ => ?_)
      refine am_iconst eX9_differs_32 ?_
      refine am_ireturn eX9_differs_33 rfl trivial (Nat.zero_le _) (Nat.zero_le _) ?_
      exact am_is_m (by first | rfl | (unfold an_differs; (try simp only [Int.toNat_zero, Int.toNat_one]); (repeat' split) <;> first | rfl | omega | (simp only [Nat.mul_zero, Nat.mul_one] at *; omega))) (by first | rfl | (unfold sp_differs; (try simp only [Int.toNat_zero, Int.toNat_one]); (repeat' split) <;> first | rfl | (exfalso; omega)))
    · refine am_iconst eX9_differs_17 ?_
      refine am_goto eX9_differs_18 ?_
      refine md_put eX9_differs_22 fX9_123 rfl rfl (by decide) trivial ?_
      refine am_aload_n eX9_differs_25 rfl ?_
      refine md_getI (v := 0) eX9_differs_26 fX9_123 rfl (by decide) st_eq ?_
      refine am_if_le ⟨by omega, by omega⟩ eX9_differs_29 (fun _ => ?_) (fun z => absurd z (by decide))
      refine am_iload_n eX9_differs_34 rfl ?_
      refine am_iload_n eX9_differs_35 rfl ?_
      refine am_cS eX9_differs_36 kX9_171 (c_X9_at (a := t) (u := u) (by omega)) rfl rfl (by decide) (by decide) (Nat.le_of_ble_eq_true rfl) (Nat.zero_le _) (Nat.zero_le _) ?_
      refine am_istore eX9_differs_39 (by decide) ?_
      refine am_iload_n eX9_differs_41 rfl ?_
      refine am_iload_n eX9_differs_42 rfl ?_
      refine am_cS eX9_differs_43 kX9_171 (c_X9_at (a := o) (u := u) (by omega)) rfl rfl (by decide) (by decide) (Nat.le_of_ble_eq_true rfl) (Nat.zero_le _) (Nat.zero_le _) ?_
      refine am_istore eX9_differs_46 (by decide) ?_
      refine am_aload_n eX9_differs_48 rfl ?_
      refine am_iload eX9_differs_49 rfl ?_
      refine am_iconst eX9_differs_51 ?_
      refine am_cV eX9_differs_52 kX9_217 (c_X9_nextReadN (m := (st m 0 0 0)) (x := x) (T := T) (wb_st (f := 0) hW (by show (0 : Int) ≤ _; omega) (by show _ ≤ (3 : Int); omega)) (w := (2 * t + u)) (v := 0) (wn := (2 * t.toNat + u.toNat)) (a := 0) (by omega) (by omega) (by omega) (by omega)) rfl rfl en_9 (by decide) (by decide) (Nat.le_of_ble_eq_true rfl) (Nat.zero_le _) (Nat.zero_le _) ?_
      rw [sp_nx_st (by decide) (by decide)]
      have bn8 := sp_nx_in hW (w := (2 * t.toNat + u.toNat)) (e := 0) (by omega)
      refine am_istore eX9_differs_55 (by decide) ?_
      refine am_aload_n eX9_differs_57 rfl ?_
      refine am_iload eX9_differs_58 rfl ?_
      refine am_iconst eX9_differs_60 ?_
      refine am_cV eX9_differs_61 kX9_217 (c_X9_nextReadN (m := (st m 0 0 0)) (x := x) (T := T) (wb_st (f := 0) hW (by show (0 : Int) ≤ _; omega) (by show _ ≤ (3 : Int); omega)) (w := (2 * o + u)) (v := 0) (wn := (2 * o.toNat + u.toNat)) (a := 0) (by omega) (by omega) (by omega) (by omega)) rfl rfl en_9 (by decide) (by decide) (Nat.le_of_ble_eq_true rfl) (Nat.zero_le _) (Nat.zero_le _) ?_
      rw [sp_nx_st (by decide) (by decide)]
      have bn9 := sp_nx_in hW (w := (2 * o.toNat + u.toNat)) (e := 0) (by omega)
      refine am_istore eX9_differs_64 (by decide) ?_
      refine am_iconst eX9_differs_66 ?_
      refine am_istore eX9_differs_67 (by decide) ?_
      rw [show sp_differs m t o u = st m 0 0 0 by unfold sp_differs; rw [if_neg (by omega)]]
      exact lp_X9_differs hW (R9 := an_differs m t o u) (t := t) (o := o) (u := u) (wv := 2 * t + u) (vv := 2 * o + u) (w := 2 * t.toNat + u.toNat) (v := 2 * o.toNat + u.toNat) (by omega) (by omega) (by omega) (by omega) X 300 (sp_nx m (2 * t.toNat + u.toNat) 0) (sp_nx m (2 * o.toNat + u.toNat) 0) _ _ 0 rfl rfl (by omega) (by omega) (by omega) (by unfold an_differs; rw [if_neg (by omega)])
def sp_tc (σ : sg_S) (b s : Nat) : Nat → Int
  | 0 => 0
  | i + 1 => sp_tc σ b s i + (if sp_fnd σ b (92 * σ 42 (200 * s + 2 * i) + σ 42 (200 * s + 2 * i + 1)) (σ 21 b).toNat = -1 then 0 else 1)
theorem sp_tc_in {σ : sg_S} {b s : Nat} : ∀ i : Nat, 0 ≤ sp_tc σ b s i ∧ sp_tc σ b s i ≤ i
  | 0 => by simp [sp_tc]
  | i + 1 => by
    have := sp_tc_in (σ := σ) (b := b) (s := s) i
    simp only [sp_tc]
    split <;> omega
set_option maxRecDepth 100000 in
set_option maxHeartbeats 4000000 in
theorem lp_X9_tries {G : am_G} {m x : sg_S} {T : Int} (hW : md_wb T m) {a b : Int} (ha : 0 ≤ a ∧ a ≤ m 39 0 - 1) (hb : 0 ≤ b ∧ b ≤ 2) (X : am_X) : ∀ (n : Nat) (i : Nat) (cv : Int) (kv : Int), (kv = 2 * (i : Int)) → (cv = sp_tc m b.toNat a.toNat i) → (i + n = (m 41 a.toNat / 2).toNat) → am_W G X mX9_tries 3 0 0 (am_end G X 0 0 (am_is (am_I (sp_tc m b.toNat a.toNat (m 41 a.toNat / 2).toNat)) (en_h (st m 0 0 0) x))) 35 [some (am_R (9, 0)), some (am_I a), some (am_I b), some (am_I cv), some (am_I kv)] [] (en_h (st m 0 0 0) x) 0 0 := by
  intro n
  induction n with
  | zero =>
    intro i cv kv hk hc hn
    have b39 := wb39 hW 0
    have b41 := wb41 hW a.toNat
    have bc := sp_tc_in (σ := m) (b := b.toNat) (s := a.toNat) i
    refine am_aload_n eX9_tries_35 rfl ?_
    refine md_getI (v := 0) eX9_tries_36 fX9_123 rfl (by decide) st_eq ?_
    refine am_if_ne ⟨by omega, by omega⟩ eX9_tries_39 (fun z => absurd z (by decide)) (fun _ => ?_)
    refine am_iload eX9_tries_42 rfl ?_
    refine am_iconst eX9_tries_44 ?_
    refine am_iadd eX9_tries_45 ?_
    refine am_aload_n eX9_tries_46 rfl ?_
    refine md_getA eX9_tries_47 fX9_117 (by decide) (by decide) ?_
    refine am_iload_n eX9_tries_50 rfl ?_
    refine md_ald (f := 41) (j := a.toNat) (v := m 41 a.toNat) eX9_tries_51 (by show _ < 6; omega) rfl (by omega) ((st_nf (by decide)).trans rfl) ?_
    have b2 := wb41 hW a.toNat
    refine am_icmp_ge ⟨by omega, by omega⟩ ⟨by omega, by omega⟩ eX9_tries_52 (fun c3 => ?_) (fun c3 => absurd c3 (by omega))
    refine am_iload_n eX9_tries_110 rfl ?_
    refine am_ireturn eX9_tries_111 rfl trivial (Nat.zero_le _) (Nat.zero_le _) ?_
    exact am_is_m (by rw [hc, ← hn]; rfl) rfl
  | succ n ih =>
    intro i cv kv hk hc hn
    have b39 := wb39 hW 0
    have b41 := wb41 hW a.toNat
    have bc := sp_tc_in (σ := m) (b := b.toNat) (s := a.toNat) i
    refine am_aload_n eX9_tries_35 rfl ?_
    refine md_getI (v := 0) eX9_tries_36 fX9_123 rfl (by decide) st_eq ?_
    refine am_if_ne ⟨by omega, by omega⟩ eX9_tries_39 (fun z => absurd z (by decide)) (fun _ => ?_)
    refine am_iload eX9_tries_42 rfl ?_
    refine am_iconst eX9_tries_44 ?_
    refine am_iadd eX9_tries_45 ?_
    refine am_aload_n eX9_tries_46 rfl ?_
    refine md_getA eX9_tries_47 fX9_117 (by decide) (by decide) ?_
    refine am_iload_n eX9_tries_50 rfl ?_
    refine md_ald (f := 41) (j := a.toNat) (v := m 41 a.toNat) eX9_tries_51 (by show _ < 6; omega) rfl (by omega) ((st_nf (by decide)).trans rfl) ?_
    have b2 := wb41 hW a.toNat
    refine am_icmp_ge ⟨by omega, by omega⟩ ⟨by omega, by omega⟩ eX9_tries_52 (fun c3 => absurd c3 (by omega)) (fun c3 => ?_)
    refine am_iload_n eX9_tries_55 rfl ?_
    refine am_aload_n eX9_tries_56 rfl ?_
    refine am_iload_n eX9_tries_57 rfl ?_
    refine am_bipush eX9_tries_58 (by decide) ?_
    refine am_aload_n eX9_tries_60 rfl ?_
    refine md_getA eX9_tries_61 fX9_120 (by decide) (by decide) ?_
    refine am_sipush eX9_tries_64 (by decide) ?_
    refine am_iload_n eX9_tries_67 rfl ?_
    refine am_imul eX9_tries_68 ?_
    refine am_iload eX9_tries_69 rfl ?_
    refine am_iadd eX9_tries_71 ?_
    refine md_ald (f := 42) (j := ((200 * a.toNat) + (2 * i))) (v := m 42 ((200 * a.toNat) + (2 * i))) eX9_tries_72 (by show _ < 1200; omega) rfl (by omega) ((st_nf (by decide)).trans rfl) ?_
    have b4 := wb42 hW ((200 * a.toNat) + (2 * i))
    refine am_imul eX9_tries_73 ?_
    refine am_aload_n eX9_tries_74 rfl ?_
    refine md_getA eX9_tries_75 fX9_120 (by decide) (by decide) ?_
    refine am_sipush eX9_tries_78 (by decide) ?_
    refine am_iload_n eX9_tries_81 rfl ?_
    refine am_imul eX9_tries_82 ?_
    refine am_iload eX9_tries_83 rfl ?_
    refine am_iadd eX9_tries_85 ?_
    refine am_iconst eX9_tries_86 ?_
    refine am_iadd eX9_tries_87 ?_
    refine md_ald (f := 42) (j := (((200 * a.toNat) + (2 * i)) + 1)) (v := m 42 (((200 * a.toNat) + (2 * i)) + 1)) eX9_tries_88 (by show _ < 1200; omega) rfl (by omega) ((st_nf (by decide)).trans rfl) ?_
    have b5 := wb42 hW (((200 * a.toNat) + (2 * i)) + 1)
    refine am_iadd eX9_tries_89 ?_
    refine am_cV eX9_tries_90 kX9_158 (c_X9_spotOf (m := (st m 0 0 0)) (x := x) (T := T) (wb_st (f := 0) hW (by show (0 : Int) ≤ _; omega) (by show _ ≤ (3 : Int); omega)) (b := b) (s := ((92 * (m 42 ((200 * a.toNat) + (2 * i)))) + (m 42 (((200 * a.toNat) + (2 * i)) + 1)))) (by omega) ⟨by omega, by omega⟩) rfl rfl en_9 (by decide) (by decide) (Nat.le_of_ble_eq_true rfl) (Nat.zero_le _) (Nat.zero_le _) ?_
    rw [sp_fnd_st (by decide), show (st m 0 0 0) 21 b.toNat = m 21 b.toNat from st_nf (by decide)]
    obtain ⟨f6, hf6⟩ : ∃ z, z = sp_fnd m b.toNat ((92 * (m 42 ((200 * a.toNat) + (2 * i)))) + (m 42 (((200 * a.toNat) + (2 * i)) + 1))) (m 21 b.toNat).toNat := ⟨_, rfl⟩
    rw [← hf6]
    have b7 := wb21 hW b.toNat
    have qf6 := sp_fnd_in (σ := m) (b := b.toNat) (s := ((92 * (m 42 ((200 * a.toNat) + (2 * i)))) + (m 42 (((200 * a.toNat) + (2 * i)) + 1)))) (m 21 b.toNat).toNat
    rw [← hf6] at qf6
    refine am_iconst eX9_tries_93 ?_
    refine am_icmp_ne ⟨by omega, by omega⟩ ⟨by omega, by omega⟩ eX9_tries_94 (fun c8 => ?_) (fun c8 => ?_)
    · refine am_iconst eX9_tries_101 ?_
      refine am_iadd eX9_tries_102 ?_
      refine am_istore_n eX9_tries_103 (by decide) ?_
      refine am_iinc eX9_tries_104 rfl (by decide) ?_
      refine am_goto eX9_tries_107 ?_
      exact ih (i + 1) _ _ (by omega) (by simp only [sp_tc]; rw [← hf6]; first | (rw [if_pos (by omega)]; omega) | (rw [if_neg (by omega)]; omega)) (by omega)
    · refine am_iconst eX9_tries_97 ?_
      refine am_goto eX9_tries_98 ?_
      refine am_iadd eX9_tries_102 ?_
      refine am_istore_n eX9_tries_103 (by decide) ?_
      refine am_iinc eX9_tries_104 rfl (by decide) ?_
      refine am_goto eX9_tries_107 ?_
      exact ih (i + 1) _ _ (by omega) (by simp only [sp_tc]; rw [← hf6]; first | (rw [if_pos (by omega)]; omega) | (rw [if_neg (by omega)]; omega)) (by omega)
def sp_tries (σ : sg_S) (a b : Int) : sg_S := if ¬ (0 ≤ a ∧ a ≤ σ 39 0 - 1) ∨ ¬ (0 ≤ b ∧ b ≤ 2) then st σ 0 0 1 else st σ 0 0 0
def an_tries (σ : sg_S) (a b : Int) : Int := if ¬ (0 ≤ a ∧ a ≤ σ 39 0 - 1) ∨ ¬ (0 ≤ b ∧ b ≤ 2) then 0 else sp_tc σ b.toNat a.toNat (σ 41 a.toNat / 2).toNat
set_option maxRecDepth 100000 in
set_option maxHeartbeats 4000000 in
theorem c_X9_tries {G : am_G} {m x : sg_S} {T : Int} (hW : md_wb T m) {a b : Int} (hr_a : -2147483648 ≤ a ∧ a < 2147483648) (hr_b : -2147483648 ≤ b ∧ b < 2147483648)   : am_Con G yX9_tries wX9_tries 3 0 0 [am_R (9, 0), am_I a, am_I b] (en_h m x) (am_is (am_I (an_tries m a b)) (en_h (sp_tries m a b) x)) := by
  refine am_of2 (Y := mX9_tries) (by decide +kernel) rfl (fun z => by cases z) rfl rfl (Nat.le_of_ble_eq_true rfl) fun X => ?_
  refine am_aload_n eX9_tries_0 rfl ?_
  refine am_iload_n eX9_tries_1 rfl ?_
  refine am_iconst eX9_tries_2 ?_
  refine am_aload_n eX9_tries_3 rfl ?_
  refine md_getI (v := m 39 0) eX9_tries_4 fX9_186 rfl (by decide) rfl ?_
  have b1 := wb39 hW 0
  refine am_iconst eX9_tries_7 ?_
  refine am_isub eX9_tries_8 ?_
  refine am_cS eX9_tries_9 kX9_129 (c_X9_in (v := a) (lo := 0) (hi := ((m 39 0) - 1)) ⟨by omega, by omega⟩ ⟨by omega, by omega⟩ ⟨by omega, by omega⟩) rfl rfl (by decide) (by decide) (Nat.le_of_ble_eq_true rfl) (Nat.zero_le _) (Nat.zero_le _) ?_
  refine am_bz_eq eX9_tries_12 (fun c2 => ?_) (fun c2 => ?_)
  · refine am_iconst eX9_tries_26 ?_
    refine md_put eX9_tries_27 fX9_123 rfl rfl (by decide) trivial ?_
    refine am_iconst eX9_tries_30 ?_
    refine am_istore_n eX9_tries_31 (by decide) ?_
    refine am_iconst eX9_tries_32 ?_
    refine am_istore eX9_tries_33 (by decide) ?_
    refine am_aload_n eX9_tries_35 rfl ?_
    refine md_getI (v := 1) eX9_tries_36 fX9_123 rfl (by decide) st_eq ?_
    refine am_if_ne ⟨by omega, by omega⟩ eX9_tries_39 (fun _ => ?_) (fun z => absurd z (by decide))
    refine am_iload_n eX9_tries_110 rfl ?_
    refine am_ireturn eX9_tries_111 rfl trivial (Nat.zero_le _) (Nat.zero_le _) ?_
    exact am_is_m (by first | rfl | (unfold an_tries; (try simp only [Int.toNat_zero, Int.toNat_one]); (repeat' split) <;> first | rfl | omega | (simp only [Nat.mul_zero, Nat.mul_one] at *; omega))) (by first | rfl | (unfold sp_tries; (try simp only [Int.toNat_zero, Int.toNat_one]); (repeat' split) <;> first | rfl | (exfalso; omega)))
  · refine am_iload_n eX9_tries_15 rfl ?_
    refine am_cS eX9_tries_16 kX9_155 (c_X9_isBook (a := b) ⟨by omega, by omega⟩) rfl rfl (by decide) (by decide) (Nat.le_of_ble_eq_true rfl) (Nat.zero_le _) (Nat.zero_le _) ?_
    refine am_bz_eq eX9_tries_19 (fun c4 => ?_) (fun c4 => ?_)
    · refine am_iconst eX9_tries_26 ?_
      refine md_put eX9_tries_27 fX9_123 rfl rfl (by decide) trivial ?_
      refine am_iconst eX9_tries_30 ?_
      refine am_istore_n eX9_tries_31 (by decide) ?_
      refine am_iconst eX9_tries_32 ?_
      refine am_istore eX9_tries_33 (by decide) ?_
      refine am_aload_n eX9_tries_35 rfl ?_
      refine md_getI (v := 1) eX9_tries_36 fX9_123 rfl (by decide) st_eq ?_
      refine am_if_ne ⟨by omega, by omega⟩ eX9_tries_39 (fun _ => ?_) (fun z => absurd z (by decide))
      refine am_iload_n eX9_tries_110 rfl ?_
      refine am_ireturn eX9_tries_111 rfl trivial (Nat.zero_le _) (Nat.zero_le _) ?_
      exact am_is_m (by first | rfl | (unfold an_tries; (try simp only [Int.toNat_zero, Int.toNat_one]); (repeat' split) <;> first | rfl | omega | (simp only [Nat.mul_zero, Nat.mul_one] at *; omega))) (by first | rfl | (unfold sp_tries; (try simp only [Int.toNat_zero, Int.toNat_one]); (repeat' split) <;> first | rfl | (exfalso; omega)))
    · refine am_iconst eX9_tries_22 ?_
      refine am_goto eX9_tries_23 ?_
      refine md_put eX9_tries_27 fX9_123 rfl rfl (by decide) trivial ?_
      refine am_iconst eX9_tries_30 ?_
      refine am_istore_n eX9_tries_31 (by decide) ?_
      refine am_iconst eX9_tries_32 ?_
      refine am_istore eX9_tries_33 (by decide) ?_
      have z1 : sp_tries m a b = st m 0 0 0 := by unfold sp_tries; rw [if_neg (by omega)]
      have z2 : an_tries m a b = sp_tc m b.toNat a.toNat (m 41 a.toNat / 2).toNat := by unfold an_tries; rw [if_neg (by omega)]
      rw [z1, z2]
      exact lp_X9_tries hW (by omega) (by omega) X _ 0 _ _ rfl rfl (Nat.zero_add _)
def sp_mark (σ : sg_S) (t u e : Int) : sg_S := if ¬ (0 ≤ t ∧ t ≤ σ 3 0 - 1) then st σ 0 0 1 else if (t = if u = 0 then 0 else σ 3 0 - 1) ∨ 200 ≤ σ 12 (2 * t.toNat + u.toNat) then st σ 0 0 2 else sp_writes (sp_kp (st (st σ 0 0 0) 2 0 1) (2 * t.toNat + u.toNat) (σ 12 (2 * t.toNat + u.toNat)).toNat (if e = 0 then 95 else 94)) (2 * t + u) (if e = 0 then 95 else 94) 1
def an_mark (σ : sg_S) (t u e : Int) : Int := if ¬ (0 ≤ t ∧ t ≤ σ 3 0 - 1) then 0 else if (t = if u = 0 then 0 else σ 3 0 - 1) ∨ 200 ≤ σ 12 (2 * t.toNat + u.toNat) then 0 else σ 12 (2 * t.toNat + u.toNat) + 1
set_option maxRecDepth 100000 in
set_option maxHeartbeats 4000000 in
theorem c_X9_mark {G : am_G} {m x : sg_S} {T : Int} (hW : md_wb T m) {t u e : Int} (hr_t : -2147483648 ≤ t ∧ t < 2147483648) (hb_u : u = 0 ∨ u = 1) (hb_e : e = 0 ∨ e = 1)  : am_Con G yX9_mark wX9_mark 3 0 0 [am_R (9, 0), am_I t, am_I u, am_I e] (en_h m x) (am_is (am_I (an_mark m t u e)) (en_h (sp_mark m t u e) x)) := by
  refine am_of2 (Y := mX9_mark) (by decide +kernel) rfl (fun z => by cases z) rfl rfl (Nat.le_of_ble_eq_true rfl) fun X => ?_
  refine am_aload_n eX9_mark_0 rfl ?_
  refine am_aload_n eX9_mark_1 rfl ?_
  refine am_iload_n eX9_mark_2 rfl ?_
  refine am_cV eX9_mark_3 kX9_141 (c_X9_isTower (m := m) (x := x) (T := T) hW (a := t) ⟨by omega, by omega⟩) rfl rfl en_9 (by decide) (by decide) (Nat.le_of_ble_eq_true rfl) (Nat.zero_le _) (Nat.zero_le _) ?_
  have b1 := wb3 hW 0
  refine am_bz_eq eX9_mark_6 (fun c2 => ?_) (fun c2 => ?_)
  · refine am_iconst eX9_mark_13 ?_
    refine md_put eX9_mark_14 fX9_123 rfl rfl (by decide) trivial ?_
    refine am_aload_n eX9_mark_17 rfl ?_
    refine md_getI (v := 1) eX9_mark_18 fX9_123 rfl (by decide) st_eq ?_
    refine am_if_le ⟨by omega, by omega⟩ eX9_mark_21 (fun z => absurd z (by decide)) (fun _ => ?_)
    refine am_iconst eX9_mark_24 ?_
    refine am_ireturn eX9_mark_25 rfl trivial (Nat.zero_le _) (Nat.zero_le _) ?_
    exact am_is_m (by unfold an_mark; (repeat' split) <;> first | rfl | omega) (by unfold sp_mark; (repeat' split) <;> first | rfl | (exfalso; omega))
  · refine am_iconst eX9_mark_9 ?_
    refine am_goto eX9_mark_10 ?_
    refine md_put eX9_mark_14 fX9_123 rfl rfl (by decide) trivial ?_
    refine am_aload_n eX9_mark_17 rfl ?_
    refine md_getI (v := 0) eX9_mark_18 fX9_123 rfl (by decide) st_eq ?_
    refine am_if_le ⟨by omega, by omega⟩ eX9_mark_21 (fun _ => ?_) (fun z => absurd z (by decide))
    refine am_iload_n eX9_mark_26 rfl ?_
    refine am_iload_n eX9_mark_27 rfl ?_
    refine am_cS eX9_mark_28 kX9_171 (c_X9_at (a := t) (u := u) (by omega)) rfl rfl (by decide) (by decide) (Nat.le_of_ble_eq_true rfl) (Nat.zero_le _) (Nat.zero_le _) ?_
    refine am_istore eX9_mark_31 (by decide) ?_
    refine am_aload_n eX9_mark_33 rfl ?_
    refine am_aload_n eX9_mark_34 rfl ?_
    refine am_iload_n eX9_mark_35 rfl ?_
    refine am_iload_n eX9_mark_36 rfl ?_
    refine am_cV eX9_mark_37 kX9_178 (c_X9_isEnd (m := (st m 0 0 0)) (x := x) (T := T) (wb_st (f := 0) hW (by show (0 : Int) ≤ _; omega) (by show _ ≤ (3 : Int); omega)) (a := t) (u := u) ⟨by omega, by omega⟩ (by omega)) rfl rfl en_9 (by decide) (by decide) (Nat.le_of_ble_eq_true rfl) (Nat.zero_le _) (Nat.zero_le _) ?_
    refine am_topI (w := bz (decide (t = if u = 0 then 0 else m 3 0 - 1))) (by simp [st]) ?_
    have b5 := wb3 hW 0
    refine am_bz_ne eX9_mark_40 (fun c6 => ?_) (fun c6 => ?_)
    · refine am_iconst eX9_mark_56 ?_
      refine am_goto eX9_mark_57 ?_
      refine md_put eX9_mark_61 fX9_123 rfl rfl (by decide) trivial ?_
      refine am_heq (congrArg (fun z => en_h z x) st_st) ?_
      refine am_aload_n eX9_mark_64 rfl ?_
      refine md_getI (v := 2) eX9_mark_65 fX9_123 rfl (by decide) st_eq ?_
      refine am_if_le ⟨by omega, by omega⟩ eX9_mark_68 (fun z => absurd z (by decide)) (fun _ => ?_)
      refine am_iconst eX9_mark_71 ?_
      refine am_ireturn eX9_mark_72 rfl trivial (Nat.zero_le _) (Nat.zero_le _) ?_
      exact am_is_m (by unfold an_mark; (repeat' split) <;> first | rfl | omega) (by unfold sp_mark; (repeat' split) <;> first | rfl | (exfalso; omega))
    · refine am_aload_n eX9_mark_43 rfl ?_
      refine md_getA eX9_mark_44 fX9_35 (by decide) (by decide) ?_
      refine am_iload eX9_mark_47 rfl ?_
      refine md_ald (f := 12) (j := (2 * t.toNat + u.toNat)) (v := m 12 (2 * t.toNat + u.toNat)) eX9_mark_49 (by show _ < 24; omega) rfl (by omega) ((st_nf (by decide)).trans rfl) ?_
      have b8 := wb12 hW (2 * t.toNat + u.toNat)
      refine am_sipush eX9_mark_50 (by decide) ?_
      refine am_icmp_lt ⟨by omega, by omega⟩ ⟨by omega, by omega⟩ eX9_mark_53 (fun c9 => ?_) (fun c9 => ?_)
      · refine am_iconst eX9_mark_60 ?_
        refine md_put eX9_mark_61 fX9_123 rfl rfl (by decide) trivial ?_
        refine am_heq (congrArg (fun z => en_h z x) st_st) ?_
        refine am_aload_n eX9_mark_64 rfl ?_
        refine md_getI (v := 0) eX9_mark_65 fX9_123 rfl (by decide) st_eq ?_
        refine am_if_le ⟨by omega, by omega⟩ eX9_mark_68 (fun _ => ?_) (fun z => absurd z (by decide))
        refine am_aload_n eX9_mark_73 rfl ?_
        refine am_iconst eX9_mark_74 ?_
        refine md_put eX9_mark_75 fX9_133 rfl rfl (by decide) (Or.inr rfl) ?_
        refine am_iload_n eX9_mark_78 rfl ?_
        refine am_if_eq ⟨by omega, by omega⟩ eX9_mark_79 (fun c11 => ?_) (fun c11 => ?_)
        · refine am_bipush eX9_mark_87 (by decide) ?_
          refine am_istore eX9_mark_89 (by decide) ?_
          refine am_aload_n eX9_mark_91 rfl ?_
          refine am_iload eX9_mark_92 rfl ?_
          refine am_aload_n eX9_mark_94 rfl ?_
          refine md_getA eX9_mark_95 fX9_35 (by decide) (by decide) ?_
          refine am_iload eX9_mark_98 rfl ?_
          refine md_ald (f := 12) (j := (2 * t.toNat + u.toNat)) (v := m 12 (2 * t.toNat + u.toNat)) eX9_mark_100 (by show _ < 24; omega) rfl (by omega) ((st_nf (by decide)).trans ((st_nf (by decide)).trans rfl)) ?_
          have b12 := wb12 hW (2 * t.toNat + u.toNat)
          refine am_iload eX9_mark_101 rfl ?_
          refine am_cV_v eX9_mark_103 kX9_174 (c_X9_keepsAtN (m := (st (st m 0 0 0) 2 0 1)) (x := x) (T := T) (wb_st (f := 2) (wb_st (f := 0) hW (by show (0 : Int) ≤ _; omega) (by show _ ≤ (3 : Int); omega)) (by show (0 : Int) ≤ _; omega) (by show _ ≤ (1 : Int); omega)) (w := (2 * t + u)) (p := (m 12 (2 * t.toNat + u.toNat))) (s := 95) (wn := (2 * t.toNat + u.toNat)) (pn := (m 12 (2 * t.toNat + u.toNat)).toNat) (by omega) (by omega) (by omega) (by rw [((st_nf (by decide)).trans ((st_nf (by decide)).trans rfl))]; omega) (by rw [((st_nf (by decide)).trans ((st_nf (by decide)).trans rfl))]; omega) ⟨by omega, by omega⟩) rfl rfl en_9 (by decide) (by decide) (Nat.le_of_ble_eq_true rfl) (Nat.zero_le _) (Nat.zero_le _) ?_
          obtain ⟨m13, hm13⟩ : ∃ z, z = sp_kp (st (st m 0 0 0) 2 0 1) (2 * t.toNat + u.toNat) (m 12 (2 * t.toNat + u.toNat)).toNat 95 := ⟨_, rfl⟩
          rw [← hm13]
          have hWm13 : md_wb T m13 := by rw [hm13]; exact sp_kp_wb (wb_st (f := 2) (wb_st (f := 0) hW (by show (0 : Int) ≤ _; omega) (by show _ ≤ (3 : Int); omega)) (by show (0 : Int) ≤ _; omega) (by show _ ≤ (1 : Int); omega)) (by omega) (by rw [((st_nf (by decide)).trans ((st_nf (by decide)).trans rfl))]; omega)
          refine am_aload_n eX9_mark_106 rfl ?_
          refine am_iload eX9_mark_107 rfl ?_
          refine am_iload eX9_mark_109 rfl ?_
          refine am_iconst eX9_mark_111 ?_
          refine am_cV_v eX9_mark_112 kX9_182 (c_X9_writes (m := m13) (x := x) (T := T) hWm13 (w := (2 * t + u)) (sg := 95) (ow := 1) (by omega) ⟨by omega, by omega⟩ (Or.inr rfl)) rfl rfl en_9 (by decide) (by decide) (Nat.le_of_ble_eq_true rfl) (Nat.zero_le _) (Nat.zero_le _) ?_
          obtain ⟨m14, hm14⟩ : ∃ z, z = sp_writes m13 (2 * t + u) 95 1 := ⟨_, rfl⟩
          rw [← hm14]
          have hWm14 : md_wb T m14 := by rw [hm14]; exact sp_writes_wb hWm13 (by omega) (Or.inr rfl)
          refine am_aload_n eX9_mark_115 rfl ?_
          refine md_getA eX9_mark_116 fX9_35 (by decide) (by decide) ?_
          refine am_iload eX9_mark_119 rfl ?_
          refine md_ald (f := 12) (j := (2 * t.toNat + u.toNat)) (v := (m 12 (2 * t.toNat + u.toNat) + 1)) eX9_mark_121 (by show _ < 24; omega) rfl (by omega) ((congrFun (congrFun hm14 12) (2 * t.toNat + u.toNat)).trans ((sp_writes_f (by decide)).trans ((congrFun (congrFun hm13 12) (2 * t.toNat + u.toNat)).trans (sp_kp_12.trans (congrArg (fun z => z + 1) ((st_nf (by decide)).trans ((st_nf (by decide)).trans rfl))))))) ?_
          refine am_ireturn eX9_mark_122 rfl trivial (Nat.zero_le _) (Nat.zero_le _) ?_
          exact am_is_m (by unfold an_mark; (repeat' split) <;> first | rfl | omega) (by rw [hm14]; rw [hm13]; unfold sp_mark; (repeat' split) <;> first | rfl | (exfalso; omega))
        · refine am_bipush eX9_mark_82 (by decide) ?_
          refine am_goto eX9_mark_84 ?_
          refine am_istore eX9_mark_89 (by decide) ?_
          refine am_aload_n eX9_mark_91 rfl ?_
          refine am_iload eX9_mark_92 rfl ?_
          refine am_aload_n eX9_mark_94 rfl ?_
          refine md_getA eX9_mark_95 fX9_35 (by decide) (by decide) ?_
          refine am_iload eX9_mark_98 rfl ?_
          refine md_ald (f := 12) (j := (2 * t.toNat + u.toNat)) (v := m 12 (2 * t.toNat + u.toNat)) eX9_mark_100 (by show _ < 24; omega) rfl (by omega) ((st_nf (by decide)).trans ((st_nf (by decide)).trans rfl)) ?_
          have b15 := wb12 hW (2 * t.toNat + u.toNat)
          refine am_iload eX9_mark_101 rfl ?_
          refine am_cV_v eX9_mark_103 kX9_174 (c_X9_keepsAtN (m := (st (st m 0 0 0) 2 0 1)) (x := x) (T := T) (wb_st (f := 2) (wb_st (f := 0) hW (by show (0 : Int) ≤ _; omega) (by show _ ≤ (3 : Int); omega)) (by show (0 : Int) ≤ _; omega) (by show _ ≤ (1 : Int); omega)) (w := (2 * t + u)) (p := (m 12 (2 * t.toNat + u.toNat))) (s := 94) (wn := (2 * t.toNat + u.toNat)) (pn := (m 12 (2 * t.toNat + u.toNat)).toNat) (by omega) (by omega) (by omega) (by rw [((st_nf (by decide)).trans ((st_nf (by decide)).trans rfl))]; omega) (by rw [((st_nf (by decide)).trans ((st_nf (by decide)).trans rfl))]; omega) ⟨by omega, by omega⟩) rfl rfl en_9 (by decide) (by decide) (Nat.le_of_ble_eq_true rfl) (Nat.zero_le _) (Nat.zero_le _) ?_
          obtain ⟨m16, hm16⟩ : ∃ z, z = sp_kp (st (st m 0 0 0) 2 0 1) (2 * t.toNat + u.toNat) (m 12 (2 * t.toNat + u.toNat)).toNat 94 := ⟨_, rfl⟩
          rw [← hm16]
          have hWm16 : md_wb T m16 := by rw [hm16]; exact sp_kp_wb (wb_st (f := 2) (wb_st (f := 0) hW (by show (0 : Int) ≤ _; omega) (by show _ ≤ (3 : Int); omega)) (by show (0 : Int) ≤ _; omega) (by show _ ≤ (1 : Int); omega)) (by omega) (by rw [((st_nf (by decide)).trans ((st_nf (by decide)).trans rfl))]; omega)
          refine am_aload_n eX9_mark_106 rfl ?_
          refine am_iload eX9_mark_107 rfl ?_
          refine am_iload eX9_mark_109 rfl ?_
          refine am_iconst eX9_mark_111 ?_
          refine am_cV_v eX9_mark_112 kX9_182 (c_X9_writes (m := m16) (x := x) (T := T) hWm16 (w := (2 * t + u)) (sg := 94) (ow := 1) (by omega) ⟨by omega, by omega⟩ (Or.inr rfl)) rfl rfl en_9 (by decide) (by decide) (Nat.le_of_ble_eq_true rfl) (Nat.zero_le _) (Nat.zero_le _) ?_
          obtain ⟨m17, hm17⟩ : ∃ z, z = sp_writes m16 (2 * t + u) 94 1 := ⟨_, rfl⟩
          rw [← hm17]
          have hWm17 : md_wb T m17 := by rw [hm17]; exact sp_writes_wb hWm16 (by omega) (Or.inr rfl)
          refine am_aload_n eX9_mark_115 rfl ?_
          refine md_getA eX9_mark_116 fX9_35 (by decide) (by decide) ?_
          refine am_iload eX9_mark_119 rfl ?_
          refine md_ald (f := 12) (j := (2 * t.toNat + u.toNat)) (v := (m 12 (2 * t.toNat + u.toNat) + 1)) eX9_mark_121 (by show _ < 24; omega) rfl (by omega) ((congrFun (congrFun hm17 12) (2 * t.toNat + u.toNat)).trans ((sp_writes_f (by decide)).trans ((congrFun (congrFun hm16 12) (2 * t.toNat + u.toNat)).trans (sp_kp_12.trans (congrArg (fun z => z + 1) ((st_nf (by decide)).trans ((st_nf (by decide)).trans rfl))))))) ?_
          refine am_ireturn eX9_mark_122 rfl trivial (Nat.zero_le _) (Nat.zero_le _) ?_
          exact am_is_m (by unfold an_mark; (repeat' split) <;> first | rfl | omega) (by rw [hm17]; rw [hm16]; unfold sp_mark; (repeat' split) <;> first | rfl | (exfalso; omega))
      · refine am_iconst eX9_mark_56 ?_
        refine am_goto eX9_mark_57 ?_
        refine md_put eX9_mark_61 fX9_123 rfl rfl (by decide) trivial ?_
        refine am_heq (congrArg (fun z => en_h z x) st_st) ?_
        refine am_aload_n eX9_mark_64 rfl ?_
        refine md_getI (v := 2) eX9_mark_65 fX9_123 rfl (by decide) st_eq ?_
        refine am_if_le ⟨by omega, by omega⟩ eX9_mark_68 (fun z => absurd z (by decide)) (fun _ => ?_)
        refine am_iconst eX9_mark_71 ?_
        refine am_ireturn eX9_mark_72 rfl trivial (Nat.zero_le _) (Nat.zero_le _) ?_
        exact am_is_m (by unfold an_mark; (repeat' split) <;> first | rfl | omega) (by unfold sp_mark; (repeat' split) <;> first | rfl | (exfalso; omega))
