theorem sp_nx_le {T : Int} {σ : sg_S} (hW : md_wb T σ) {w e : Nat} (he : e ≤ (σ 17 w).toNat) : e ≤ sp_nx σ w e ∧ sp_nx σ w e ≤ (σ 17 w).toNat := by
  have h : ∀ n e, e ≤ sp_nxt σ w n e ∧ sp_nxt σ w n e ≤ e + n := by
    intro n
    induction n with
    | zero => intro e; simp [sp_nxt]
    | succ n ih =>
      intro e
      have := ih (e + 1)
      simp only [sp_nxt]
      split <;> omega
  have := h ((σ 17 w).toNat - e) e
  unfold sp_nx
  omega
set_option maxRecDepth 100000 in
set_option maxHeartbeats 4000000 in
theorem lq_X8_firstUnlike {G : am_G} {m x : sg_S} {T : Int} (hW : md_wb T x) {w v : Nat} (hw : ((w / 2 : Nat) : Int) < x 3 0) (hv : ((v / 2 : Nat) : Int) < x 3 0) {R9 : Int} (X : am_X): ∀ (n : Nat) (a : Nat) (b : Nat) (av : Int) (bv : Int) (pv : Int), (av = (a : Int)) → (bv = (b : Int)) → (0 ≤ pv ∧ pv + n = 300) → (sp_df x w v n a b pv = R9) → (a ≤ (x 17 w).toNat) → (b ≤ (x 17 v).toNat) → am_W G X mX8_firstUnlike 2 0 0 (am_end G X 0 0 (am_is (am_I R9) (en_h m x))) 15 [some (am_R (3, w)), some (am_R (3, v)), some (am_I av), some (am_I bv), some (am_I pv)] [] (en_h m x) 0 0 := by
  intro n
  induction n with
  | zero =>
    intro a b av bv pv ha hb hp hA h1 h2
    have bw := wb17 hW w
    have bv9 := wb17 hW v
    refine am_iload eX8_firstUnlike_15 rfl ?_
    refine am_sipush eX8_firstUnlike_17 (by decide) ?_
    refine am_icmp_ge ⟨by omega, by omega⟩ ⟨by omega, by omega⟩ eX8_firstUnlike_20 (fun c1 => ?_) (fun c1 => absurd c1 (by omega))
    refine am_iconst eX8_firstUnlike_81 ?_
    refine am_ireturn eX8_firstUnlike_82 rfl trivial (Nat.zero_le _) (Nat.zero_le _) ?_
    exact cx_is (by rw [← hA]; first | rfl | (simp only [sp_df]; first | (rw [if_neg (by omega)]; done) | (rw [if_pos (by omega), if_pos (by omega)]; done))) rfl
  | succ n ih =>
    intro a b av bv pv ha hb hp hA h1 h2
    have bw := wb17 hW w
    have bv9 := wb17 hW v
    refine am_iload eX8_firstUnlike_15 rfl ?_
    refine am_sipush eX8_firstUnlike_17 (by decide) ?_
    refine am_icmp_ge ⟨by omega, by omega⟩ ⟨by omega, by omega⟩ eX8_firstUnlike_20 (fun c1 => absurd c1 (by omega)) (fun c1 => ?_)
    refine am_iload_n eX8_firstUnlike_23 rfl ?_
    refine am_aload_n eX8_firstUnlike_24 rfl ?_
    refine am_getf eX8_firstUnlike_25 fX8_220 (en_c3 (m := m) (x := x) (i := w) hw) rfl ?_
    have b2 := wb17 hW w
    refine am_icmp_ge ⟨by omega, by omega⟩ ⟨by omega, by omega⟩ eX8_firstUnlike_28 (fun c3 => ?_) (fun c3 => ?_)
    · refine am_iconst eX8_firstUnlike_39 ?_
      refine am_ireturn eX8_firstUnlike_40 rfl trivial (Nat.zero_le _) (Nat.zero_le _) ?_
      exact cx_is (by rw [← hA]; first | rfl | (simp only [sp_df]; first | (rw [if_neg (by omega)]; done) | (rw [if_pos (by omega), if_pos (by omega)]; done))) rfl
    · refine am_iload_n eX8_firstUnlike_31 rfl ?_
      refine am_aload_n eX8_firstUnlike_32 rfl ?_
      refine am_getf eX8_firstUnlike_33 fX8_220 (en_c3 (m := m) (x := x) (i := v) hv) rfl ?_
      have b4 := wb17 hW v
      refine am_icmp_lt ⟨by omega, by omega⟩ ⟨by omega, by omega⟩ eX8_firstUnlike_36 (fun c5 => ?_) (fun c5 => ?_)
      · refine am_aload_n eX8_firstUnlike_41 rfl ?_
        refine am_getf eX8_firstUnlike_42 fX8_331 (en_c3 (m := m) (x := x) (i := w) hw) rfl ?_
        refine am_iload_n eX8_firstUnlike_45 rfl ?_
        refine cx_ald (j := a) (v := x 19 (300 * w + a)) eX8_firstUnlike_46 (en_c212 (m := m) (x := x) (i := w) hw) (by omega) (by decide) (by omega) rfl ?_
        have b6 := wb19 hW (300 * w + a)
        refine am_aload_n eX8_firstUnlike_47 rfl ?_
        refine am_getf eX8_firstUnlike_48 fX8_331 (en_c3 (m := m) (x := x) (i := v) hv) rfl ?_
        refine am_iload_n eX8_firstUnlike_51 rfl ?_
        refine cx_ald (j := b) (v := x 19 (300 * v + b)) eX8_firstUnlike_52 (en_c212 (m := m) (x := x) (i := v) hv) (by omega) (by decide) (by omega) rfl ?_
        have b7 := wb19 hW (300 * v + b)
        refine am_icmp_eq ⟨by omega, by omega⟩ ⟨by omega, by omega⟩ eX8_firstUnlike_53 (fun c8 => ?_) (fun c8 => ?_)
        · refine am_aload_n eX8_firstUnlike_59 rfl ?_
          refine am_iload_n eX8_firstUnlike_60 rfl ?_
          refine am_iconst eX8_firstUnlike_61 ?_
          refine am_iadd eX8_firstUnlike_62 ?_
          refine am_cV eX8_firstUnlike_63 kX8_328 (c_X3_nextTaken (m := m) (x := x) hW (i := w) hw (v := (av + 1)) (a := (a + 1)) (by omega) (by omega)) rfl rfl (en_c3 (m := m) (x := x) (i := w) hw) (by decide) (by decide) (Nat.le_of_ble_eq_true rfl) (Nat.zero_le _) (Nat.zero_le _) ?_
          have qnw := sp_nx_le hW (w := w) (e := (a + 1)) (by omega)
          refine am_istore_n eX8_firstUnlike_66 (by decide) ?_
          refine am_aload_n eX8_firstUnlike_67 rfl ?_
          refine am_iload_n eX8_firstUnlike_68 rfl ?_
          refine am_iconst eX8_firstUnlike_69 ?_
          refine am_iadd eX8_firstUnlike_70 ?_
          refine am_cV eX8_firstUnlike_71 kX8_328 (c_X3_nextTaken (m := m) (x := x) hW (i := v) hv (v := (bv + 1)) (a := (b + 1)) (by omega) (by omega)) rfl rfl (en_c3 (m := m) (x := x) (i := v) hv) (by decide) (by decide) (Nat.le_of_ble_eq_true rfl) (Nat.zero_le _) (Nat.zero_le _) ?_
          have qnv := sp_nx_le hW (w := v) (e := (b + 1)) (by omega)
          refine am_istore_n eX8_firstUnlike_74 (by decide) ?_
          refine am_iinc eX8_firstUnlike_75 rfl (by decide) ?_
          refine am_goto eX8_firstUnlike_78 ?_
          exact ih _ _ _ _ _ rfl rfl (by omega) (by rw [← hA]; simp only [sp_df]; rw [if_pos (by omega), if_neg (by omega)]) (by omega) (by omega)
        · refine am_iload eX8_firstUnlike_56 rfl ?_
          refine am_ireturn eX8_firstUnlike_58 rfl trivial (Nat.zero_le _) (Nat.zero_le _) ?_
          exact cx_is (by rw [← hA]; first | rfl | (simp only [sp_df]; first | (rw [if_neg (by omega)]; done) | (rw [if_pos (by omega), if_pos (by omega)]; done))) rfl
      · refine am_iconst eX8_firstUnlike_39 ?_
        refine am_ireturn eX8_firstUnlike_40 rfl trivial (Nat.zero_le _) (Nat.zero_le _) ?_
        exact cx_is (by rw [← hA]; first | rfl | (simp only [sp_df]; first | (rw [if_neg (by omega)]; done) | (rw [if_pos (by omega), if_pos (by omega)]; done))) rfl
set_option maxRecDepth 100000 in
set_option maxHeartbeats 4000000 in
theorem c_X8_firstUnlike {G : am_G} {m x : sg_S} {T : Int} (hW : md_wb T x) {w v : Nat} (hw : ((w / 2 : Nat) : Int) < x 3 0) (hv : ((v / 2 : Nat) : Int) < x 3 0) : am_Con G yX8_firstUnlike wX8_firstUnlike 2 0 0 [am_R (3, w), am_R (3, v)] (en_h m x) (am_is (am_I (sp_df x w v 300 (sp_nx x w 0) (sp_nx x v 0) 0)) (en_h m x)) := by
  refine am_of2 (Y := mX8_firstUnlike) (by decide +kernel) rfl (fun z => by cases z) rfl rfl (Nat.le_of_ble_eq_true rfl) fun X => ?_
  have bw := wb17 hW w
  have bv9 := wb17 hW v
  refine am_aload_n eX8_firstUnlike_0 rfl ?_
  refine am_iconst eX8_firstUnlike_1 ?_
  refine am_cV eX8_firstUnlike_2 kX8_328 (c_X3_nextTaken (m := m) (x := x) hW (i := w) hw (v := 0) (a := 0) (by omega) (by omega)) rfl rfl (en_c3 (m := m) (x := x) (i := w) hw) (by decide) (by decide) (Nat.le_of_ble_eq_true rfl) (Nat.zero_le _) (Nat.zero_le _) ?_
  have qnw := sp_nx_le hW (w := w) (e := 0) (by omega)
  refine am_istore_n eX8_firstUnlike_5 (by decide) ?_
  refine am_aload_n eX8_firstUnlike_6 rfl ?_
  refine am_iconst eX8_firstUnlike_7 ?_
  refine am_cV eX8_firstUnlike_8 kX8_328 (c_X3_nextTaken (m := m) (x := x) hW (i := v) hv (v := 0) (a := 0) (by omega) (by omega)) rfl rfl (en_c3 (m := m) (x := x) (i := v) hv) (by decide) (by decide) (Nat.le_of_ble_eq_true rfl) (Nat.zero_le _) (Nat.zero_le _) ?_
  have qnv := sp_nx_le hW (w := v) (e := 0) (by omega)
  refine am_istore_n eX8_firstUnlike_11 (by decide) ?_
  refine am_iconst eX8_firstUnlike_12 ?_
  refine am_istore eX8_firstUnlike_13 (by decide) ?_
  exact lq_X8_firstUnlike hW hw hv X 300 _ _ _ _ _ rfl rfl (by omega) rfl (by omega) (by omega)
theorem sp_df_st {σ : sg_S} {c : Int} {w v : Nat} : ∀ n a b p, sp_df (st σ 0 0 c) w v n a b p = sp_df σ w v n a b p
  | 0, _, _, _ => rfl
  | n + 1, a, b, p => by
    simp only [sp_df, sp_df_st n, sp_nx_st (show (0 : Nat) ≠ 20 by decide) (show (0 : Nat) ≠ 17 by decide), st_nf (show (17 : Nat) ≠ 0 by decide), st_nf (show (19 : Nat) ≠ 0 by decide)]
set_option maxRecDepth 100000 in
set_option maxHeartbeats 4000000 in
theorem c_X8_differs {G : am_G} {m x : sg_S} {T : Int} (hW : md_wb T x) {t o u : Int} (hr_t : -2147483648 ≤ t ∧ t < 2147483648) (hr_o : -2147483648 ≤ o ∧ o < 2147483648) (hb_u : u = 0 ∨ u = 1)  : am_Con G yX8_differs wX8_differs 7 4 24 [am_R (8, 0), am_I t, am_I o, am_I u] (en_h m x) (am_tx [0] (sp_differs x t o u 0 0) (an_differs x t o u) (en_h m (sp_differs x t o u))) := by
  refine am_of2 (Y := mX8_differs) (by decide +kernel) rfl (fun z => by cases z) rfl rfl (Nat.le_of_ble_eq_true rfl) fun X => ?_
  have b3 := wb3 hW 0
  obtain ⟨y, hy⟩ : ∃ z, z = st x 0 0 0 := ⟨_, rfl⟩
  refine am_heq (h' := en_h m y) (by rw [hy]; exact (cx_no (Or.inl rfl)).symm) ?_
  have hWy : md_wb T y := by rw [hy]; exact wb_st hW (by show (0 : Int) ≤ _; decide) (by show _ ≤ (3 : Int); decide)
  refine am_aload_n eX8_differs_0 rfl ?_
  refine am_iload_n eX8_differs_1 rfl ?_
  refine am_cT eX8_differs_2 kX8_105 (c_X8_towerAt (m := m) (x := y) (T := T) hWy (a := t) ⟨by omega, by omega⟩) rfl rfl (en_c8 (m := m) (x := y)) (by decide) (by decide) (Nat.le_of_ble_eq_true rfl) (by omega) (by omega) rfl (fun hp => (tx_thr (i := 0) rfl rfl hy (by rw [((congrFun (congrFun hy 3) 0).trans ((st_nf (by decide)).trans rfl))] at hp; unfold sp_differs; (try simp only [if_true, if_false, Int.toNat_zero, Int.toNat_one, show ¬ (1 : Int) = 0 by decide]); (repeat' split) <;> first | rfl | (exfalso; omega)))) (fun hp => ?_)
  rw [((congrFun (congrFun hy 3) 0).trans ((st_nf (by decide)).trans rfl))] at hp
  have hp1 := hp
  refine am_iload_n eX8_differs_5 rfl ?_
  refine am_cV eX8_differs_6 kX8_171 (c_X7_armFor (m := m) (x := y) (T := T) hWy (i := t.toNat) (by rw [((congrFun (congrFun hy 3) 0).trans ((st_nf (by decide)).trans rfl))]; omega) (u := u) (by omega)) rfl rfl (en_c7 (m := m) (x := y) (i := t.toNat) (by rw [((congrFun (congrFun hy 3) 0).trans ((st_nf (by decide)).trans rfl))]; omega)) (by decide) (by decide) (Nat.le_of_ble_eq_true rfl) (by omega) (by omega) ?_
  refine am_getf eX8_differs_9 fX8_185 (en_c0 (m := m) (x := y) (i := (2 * t.toNat + u.toNat)) (by rw [((congrFun (congrFun hy 3) 0).trans ((st_nf (by decide)).trans rfl))]; omega)) rfl ?_
  refine am_astore eX8_differs_12 (by decide) ?_
  refine am_aload_n eX8_differs_14 rfl ?_
  refine am_iload_n eX8_differs_15 rfl ?_
  refine am_cT eX8_differs_16 kX8_105 (c_X8_towerAt (m := m) (x := y) (T := T) hWy (a := o) ⟨by omega, by omega⟩) rfl rfl (en_c8 (m := m) (x := y)) (by decide) (by decide) (Nat.le_of_ble_eq_true rfl) (by omega) (by omega) rfl (fun hp => (tx_thr (i := 0) rfl rfl hy (by rw [((congrFun (congrFun hy 3) 0).trans ((st_nf (by decide)).trans rfl))] at hp; unfold sp_differs; (try simp only [if_true, if_false, Int.toNat_zero, Int.toNat_one, show ¬ (1 : Int) = 0 by decide]); (repeat' split) <;> first | rfl | (exfalso; omega)))) (fun hp => ?_)
  rw [((congrFun (congrFun hy 3) 0).trans ((st_nf (by decide)).trans rfl))] at hp
  have hp2 := hp
  refine am_iload_n eX8_differs_19 rfl ?_
  refine am_cV eX8_differs_20 kX8_171 (c_X7_armFor (m := m) (x := y) (T := T) hWy (i := o.toNat) (by rw [((congrFun (congrFun hy 3) 0).trans ((st_nf (by decide)).trans rfl))]; omega) (u := u) (by omega)) rfl rfl (en_c7 (m := m) (x := y) (i := o.toNat) (by rw [((congrFun (congrFun hy 3) 0).trans ((st_nf (by decide)).trans rfl))]; omega)) (by decide) (by decide) (Nat.le_of_ble_eq_true rfl) (by omega) (by omega) ?_
  refine am_getf eX8_differs_23 fX8_185 (en_c0 (m := m) (x := y) (i := (2 * o.toNat + u.toNat)) (by rw [((congrFun (congrFun hy 3) 0).trans ((st_nf (by decide)).trans rfl))]; omega)) rfl ?_
  refine am_astore eX8_differs_26 (by decide) ?_
  refine am_aload eX8_differs_28 rfl ?_
  refine am_aload eX8_differs_30 rfl ?_
  refine am_cS eX8_differs_32 kX8_228 (c_X8_firstUnlike (m := m) (x := y) hWy (w := (2 * t.toNat + u.toNat)) (v := (2 * o.toNat + u.toNat)) (by rw [((congrFun (congrFun hy 3) 0).trans ((st_nf (by decide)).trans rfl))]; omega) (by rw [((congrFun (congrFun hy 3) 0).trans ((st_nf (by decide)).trans rfl))]; omega)) rfl rfl (by decide) (by decide) (Nat.le_of_ble_eq_true rfl) (by omega) (by omega) ?_
  refine am_topI (w := (sp_df x (2 * t.toNat + u.toNat) (2 * o.toNat + u.toNat) 300 (sp_nx x (2 * t.toNat + u.toNat) 0) (sp_nx x (2 * o.toNat + u.toNat) 0) 0)) (by rw [hy, sp_nx_st (by decide) (by decide), sp_nx_st (by decide) (by decide), sp_df_st]) ?_
  refine am_ireturn eX8_differs_35 rfl trivial (by omega) (by omega) ?_
  exact tx_ret (by rw [hy]; unfold sp_differs; (try simp only [if_true, if_false, Int.toNat_zero, Int.toNat_one, show ¬ (1 : Int) = 0 by decide]); (repeat' split) <;> first | rfl | (exfalso; omega)) (by unfold sp_differs; (try simp only [if_true, if_false, Int.toNat_zero, Int.toNat_one, show ¬ (1 : Int) = 0 by decide]); (repeat' split) <;> first | (simp [st]; done) | rfl | (exfalso; omega)) (by unfold an_differs; (try simp only [if_true, if_false, Int.toNat_zero, Int.toNat_one, show ¬ (1 : Int) = 0 by decide]); (repeat' split) <;> first | rfl | omega)
theorem sp_ph_iff {T : Int} {σ : sg_S} (hW : md_wb T σ) {b : Nat} {s : Int} : sp_ph σ b s = -1 ↔ sp_fnd σ b s (σ 21 b).toNat = -1 := by
  unfold sp_ph
  have := wb23 hW (sp_fnd σ b s (σ 21 b).toNat).toNat
  split
  · rename_i h; exact ⟨fun _ => h, fun _ => rfl⟩
  · rename_i h; exact ⟨fun z => by omega, fun z => absurd z h⟩
theorem sp_tc_st {σ : sg_S} {f j : Nat} {v : Int} (h1 : f ≠ 22) (h2 : f ≠ 42) (h3 : f ≠ 21) {b s : Nat} : ∀ i, sp_tc (st σ f j v) b s i = sp_tc σ b s i
  | 0 => rfl
  | i + 1 => by simp only [sp_tc, sp_tc_st h1 h2 h3 i, sp_fnd_st h1, st_nf (Ne.symm h2), st_nf (Ne.symm h3)]
