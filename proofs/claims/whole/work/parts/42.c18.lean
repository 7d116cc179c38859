def bs_pass (σ : sg_S) (a : Int) : sg_S := if ¬ (1 ≤ a ∧ a ≤ 200) then st σ 0 0 1 else bs_mins (st σ 0 0 0) a.toNat
theorem bs_min_st2 {σ : sg_S} : bs_min (st σ 2 0 1) = bs_min σ := by
  unfold bs_min sp_tick
  rw [st_st, st_nf (f := 2) (g := 1) (by decide), st_nf (f := 2) (g := 3) (by decide)]
theorem bs_mins_st2 {σ : sg_S} : ∀ n, bs_mins (st σ 2 0 1) (n + 1) = bs_mins σ (n + 1)
  | 0 => bs_min_st2
  | n + 1 => by
    show bs_min (bs_mins (st σ 2 0 1) (n + 1)) = bs_min (bs_mins σ (n + 1))
    rw [bs_mins_st2 n]
theorem bs_mins_f {σ : sg_S} {f j : Nat} (h0 : f ≠ 1 ∧ f ≠ 2) (h1 : f < 12 ∨ 20 < f) (h2 : f < 27 ∨ 38 < f) (h3 : f < 41 ∨ 42 < f) (h5 : f ≤ 48) : ∀ n, bs_mins σ n f j = σ f j
  | 0 => rfl
  | n + 1 => by simp only [bs_mins]; rw [bs_min_f h0 h1 h2 h3 h5]; exact bs_mins_f h0 h1 h2 h3 h5 n
set_option maxRecDepth 100000 in
set_option maxHeartbeats 4000000 in
theorem c_X8_pass {G : am_G} {J : sg_S → Prop} (hJ : md_L J) {m x : sg_S} {T : Int} (hW : md_wb T x) (h0 : J x) {a : Int} (hr_a : -2147483648 ≤ a ∧ a < 2147483648) (hT : x 1 0 + 200 ≤ T) {mc ms : Nat} (h1 : 1 ≤ mc ∧ 6 ≤ ms) (hmc : 2 * (bs_pass x a 51 0 - x 51 0).toNat ≤ mc ∧ 66 * (bs_pass x a 51 0 - x 51 0).toNat ≤ ms) : am_Con G yX8_pass wX8_pass 7 mc ms [am_R (8, 0), am_I a] (en_h m x) (am_tx [1] (bs_pass x a 0 0) (an_pass x a) (en_h m (bs_pass x a))) := by
  refine am_of2 (Y := mX8_pass) (by decide +kernel) rfl (fun z => by cases z) rfl rfl (Nat.le_of_ble_eq_true rfl) fun X => ?_
  have b3 := wb3 hW 0
  obtain ⟨y, hy⟩ : ∃ z, z = st x 0 0 0 := ⟨_, rfl⟩
  refine am_heq (h' := en_h m y) (by rw [hy]; exact (cx_no (Or.inl rfl)).symm) ?_
  have hWy : md_wb T y := by rw [hy]; exact wb_st hW (by show (0 : Int) ≤ _; decide) (by show _ ≤ (3 : Int); decide)
  refine am_iload_n eX8_pass_0 rfl ?_
  refine am_iconst eX8_pass_1 ?_
  refine am_sipush eX8_pass_2 (by decide) ?_
  refine am_cS eX8_pass_5 kX8_55 (c_X8_isOutside (v := a) (lo := 1) (hi := 200) ⟨by omega, by omega⟩ ⟨by omega, by omega⟩ ⟨by omega, by omega⟩) rfl rfl (by decide) (by decide) (Nat.le_of_ble_eq_true rfl) (by omega) (by omega) ?_
  refine am_bz_eq eX8_pass_8 (fun c1 => ?_) (fun c1 => ?_)
  · refine am_aload_n eX8_pass_21 rfl ?_
    refine am_iconst eX8_pass_22 ?_
    refine am_putf eX8_pass_23 fX8_69 rfl (en_c8 (m := m) (x := y)) (Nat.le_of_ble_eq_true rfl) (Or.inr rfl) (am_heq (cx_begun) ?_)
    refine am_iconst eX8_pass_26 ?_
    refine am_istore_n eX8_pass_27 (by decide) ?_
    have hJy : J (st y 2 0 1) := hJ.2.2.2.2.2 _ (by rw [hy]; exact hJ.2.2.2.2.1 _ h0)
    have hWz : md_wb T (st y 2 0 1) := wb_st hWy (by show (0 : Int) ≤ _; decide) (by show _ ≤ (1 : Int); decide)
    obtain ⟨N, hN⟩ : ∃ N : Nat, a = ((N + 1 : Nat) : Int) := ⟨a.toNat - 1, by omega⟩
    have hp : bs_pass x a = bs_mins y (N + 1) := by unfold bs_pass; rw [if_neg (by omega), ← hy, show a.toNat = N + 1 by omega]
    have hz : bs_mins (st y 2 0 1) (N + 1) = bs_mins y (N + 1) := bs_mins_st2 N
    have e51 : (st y 2 0 1) 51 0 = x 51 0 := by rw [hy]; simp [st]
    have e1 : (st y 2 0 1) 1 0 = x 1 0 := by rw [hy]; simp [st]
    refine lq_X8_pass hJ hWz hJy st_eq hN (by omega) (by rw [e1]; omega) (by rw [hz, e51, ← hp]; exact hmc) ?_ _ 0 _ _ 0 0 rfl rfl (Nat.zero_add _) (by simp [bs_mins]) (by simp [bs_mins])
    rw [hz, e1, hp]
    exact tx_ret rfl (by rw [bs_mins_f (by decide) (by decide) (by decide) (by decide) (by decide), hy, st_eq]) (by unfold an_pass; rw [if_neg (by omega)])
  · exact am_throw x_thr1 rfl x_tx201 (by decide) rfl (by simp) eX8_pass_11 eX8_pass_14 eX8_pass_15 eX8_pass_17 eX8_pass_20 (by omega) (by omega) (tx_thr (i := 0) rfl rfl hy (by unfold bs_pass; rw [if_pos (by omega)]; rfl))
theorem sp_kp_st2 {σ : sg_S} {w p : Nat} {s v : Int} {f j : Nat} (hf : f ≠ 12 ∧ f ≠ 14) : st (sp_kp σ w p s) f j v = sp_kp (st σ f j v) w p s := by
  funext g z
  have e12 : st σ f j v 12 w = σ 12 w := st_nf (by omega)
  by_cases c : g = f ∧ z = j
  · have l : st (sp_kp σ w p s) f j v g z = v := if_pos c
    have r : sp_kp (st σ f j v) w p s g z = v := by
      unfold sp_kp
      rw [if_neg (by omega), if_neg (by omega)]
      exact if_pos c
    rw [l, r]
  · have l : st (sp_kp σ w p s) f j v g z = sp_kp σ w p s g z := if_neg c
    rw [l]
    unfold sp_kp
    rw [e12]
    by_cases c1 : g = 12 ∧ z = w
    · rw [if_pos c1, if_pos c1]
    · rw [if_neg c1, if_neg c1]
      by_cases c2 : g = 14 ∧ 220 * w + p ≤ z ∧ z ≤ 220 * w + (σ 12 w).toNat
      · rw [if_pos c2, if_pos c2, st_nf (g := 14) (by omega)]
      · rw [if_neg c2, if_neg c2]
        exact (if_neg c).symm
theorem sp_writes_st2 {σ : sg_S} {w s o v : Int} {j : Nat} : st (sp_writes σ w s o) 2 j v = sp_writes (st σ 2 j v) w s o := by
  unfold sp_writes
  rw [st_nf (f := 2) (g := 17) (by decide), st_nf (f := 2) (g := 1) (by decide)]
  split
  · rw [st_cm (f := 17) (g := 2) (by decide), st_cm (f := 20) (g := 2) (by decide), st_cm (f := 19) (g := 2) (by decide), st_cm (f := 18) (g := 2) (by decide)]
  · rfl
set_option maxRecDepth 100000 in
set_option maxHeartbeats 4000000 in
theorem c_X8_mark {G : am_G} {m x : sg_S} {T : Int} (hW : md_wb T x) {t u e : Int} (hr_t : -2147483648 ≤ t ∧ t < 2147483648) (hb_u : u = 0 ∨ u = 1) (hb_e : e = 0 ∨ e = 1)  : am_Con G yX8_mark wX8_mark 7 4 24 [am_R (8, 0), am_I t, am_I u, am_I e] (en_h m x) (am_tx [0, 2] (sp_mark x t u e 0 0) (an_mark x t u e) (en_h m (sp_mark x t u e))) := by
  refine am_of2 (Y := mX8_mark) (by decide +kernel) rfl (fun z => by cases z) rfl rfl (Nat.le_of_ble_eq_true rfl) fun X => ?_
  have b3 := wb3 hW 0
  have b12 := wb12 hW (2 * t.toNat + u.toNat)
  obtain ⟨y, hy⟩ : ∃ z, z = st x 0 0 0 := ⟨_, rfl⟩
  refine am_heq (h' := en_h m y) (by rw [hy]; exact (cx_no (Or.inl rfl)).symm) ?_
  have hWy : md_wb T y := by rw [hy]; exact wb_st hW (by show (0 : Int) ≤ _; decide) (by show _ ≤ (3 : Int); decide)
  by_cases cL : x 12 (2 * t.toNat + u.toNat) < 200
  · skip
    rcases hb_u with rfl | rfl
    · rcases hb_e with rfl | rfl
      · have cM : x 12 (2 * t.toNat + 0) < 200 := cL
        have b12x := wb12 hW (2 * t.toNat + 0)
        refine am_aload_n eX8_mark_0 rfl ?_
        refine am_iload_n eX8_mark_1 rfl ?_
        refine am_cT eX8_mark_2 kX8_105 (c_X8_towerAt (m := m) (x := y) (T := T) hWy (a := t) ⟨by omega, by omega⟩) rfl rfl (en_c8 (m := m) (x := y)) (by decide) (by decide) (Nat.le_of_ble_eq_true rfl) (by omega) (by omega) rfl (fun hp => (tx_thr (i := 0) rfl rfl hy (by rw [((congrFun (congrFun hy 3) 0).trans ((st_nf (by decide)).trans rfl))] at hp; unfold sp_mark; (try simp only [if_true, if_false, Int.toNat_zero, Int.toNat_one, show ¬ (1 : Int) = 0 by decide]); (repeat' split) <;> first | rfl | (exfalso; omega)))) (fun hp => ?_)
        rw [((congrFun (congrFun hy 3) 0).trans ((st_nf (by decide)).trans rfl))] at hp
        have hp1 := hp
        refine am_iload_n eX8_mark_5 rfl ?_
        refine am_cV eX8_mark_6 kX8_171 (c_X7_armFor (m := m) (x := y) (T := T) hWy (i := t.toNat) (by rw [((congrFun (congrFun hy 3) 0).trans ((st_nf (by decide)).trans rfl))]; omega) (u := 0) (Or.inl rfl)) rfl rfl (en_c7 (m := m) (x := y) (i := t.toNat) (by rw [((congrFun (congrFun hy 3) 0).trans ((st_nf (by decide)).trans rfl))]; omega)) (by decide) (by decide) (Nat.le_of_ble_eq_true rfl) (by omega) (by omega) ?_
        refine am_steq (st' := am_R (0, 2 * t.toNat + 0) :: _) rfl ?_
        refine am_astore eX8_mark_9 (by decide) ?_
        refine am_iload_n eX8_mark_11 rfl ?_
        refine am_if_eq ⟨by omega, by omega⟩ eX8_mark_12 (fun _ => ?_) (fun z => absurd z (by decide))
        refine am_bipush eX8_mark_20 (by decide) ?_
        refine am_istore eX8_mark_22 (by decide) ?_
        refine am_aload_n eX8_mark_24 rfl ?_
        refine am_iload_n eX8_mark_25 rfl ?_
        refine am_iload_n eX8_mark_26 rfl ?_
        refine am_cV eX8_mark_27 kX8_175 (c_X8_isEnd (m := m) (x := y) (T := T) hWy (a := t) (u := 0) ⟨by omega, by omega⟩ (Or.inl rfl)) rfl rfl (en_c8 (m := m) (x := y)) (by decide) (by decide) (Nat.le_of_ble_eq_true rfl) (by omega) (by omega) ?_
        refine am_topI (w := bz (decide (t = 0))) (by first | rfl | (simp [st]; done) | (simp [hy, st]; done) | simp [show _ = x 3 0 from ((congrFun (congrFun hy 3) 0).trans ((st_nf (by decide)).trans rfl))]) ?_
        refine am_bz_ne eX8_mark_30 (fun c3 => ?_) (fun c3 => ?_)
        · exact am_throw x_thr2 rfl x_tx183 (by decide) rfl (by simp) eX8_mark_43 eX8_mark_46 eX8_mark_47 eX8_mark_49 eX8_mark_52 (by omega) (by omega) (tx_thr (i := 1) rfl rfl hy (by unfold sp_mark; (try simp only [if_true, if_false, Int.toNat_zero, Int.toNat_one, show ¬ (1 : Int) = 0 by decide]); (repeat' split) <;> first | rfl | (exfalso; omega)))
        · refine am_aload eX8_mark_33 rfl ?_
          refine am_iload eX8_mark_35 rfl ?_
          refine am_cV eX8_mark_37 kX8_179 (c_X0_keepOneK (m := m) (x := y) hWy (i := (2 * t.toNat + 0)) (by rw [((congrFun (congrFun hy 3) 0).trans ((st_nf (by decide)).trans rfl))]; omega) (s := 95) ⟨by omega, by omega⟩ (c := (x 12 (2 * t.toNat + 0)).toNat) (by rw [((congrFun (congrFun hy 12) (2 * t.toNat + 0)).trans ((st_nf (by decide)).trans rfl))]; omega) (by rw [((congrFun (congrFun hy 12) (2 * t.toNat + 0)).trans ((st_nf (by decide)).trans rfl))]; omega)) rfl rfl (en_c0 (m := m) (x := y) (i := (2 * t.toNat + 0)) (by rw [((congrFun (congrFun hy 3) 0).trans ((st_nf (by decide)).trans rfl))]; omega)) (by decide) (by decide) (Nat.le_of_ble_eq_true rfl) (by omega) (by omega) ?_
          obtain ⟨m4, hm4⟩ : ∃ z, z = sp_kp y (2 * t.toNat + 0) (x 12 (2 * t.toNat + 0)).toNat 95 := ⟨_, rfl⟩
          rw [← hm4]
          have hWm4 : md_wb T m4 := by rw [hm4]; exact sp_kp_wb hWy (by omega) (by rw [((congrFun (congrFun hy 12) (2 * t.toNat + 0)).trans ((st_nf (by decide)).trans rfl))]; omega)
          refine am_if_ne ⟨by omega, by omega⟩ eX8_mark_40 (fun _ => ?_) (fun z => absurd z (by decide))
          refine am_aload eX8_mark_53 rfl ?_
          refine am_getf eX8_mark_55 fX8_185 (en_c0 (m := m) (x := m4) (i := (2 * t.toNat + 0)) (by rw [((congrFun (congrFun hm4 3) 0).trans ((sp_kp_f (by decide) (by decide)).trans ((congrFun (congrFun hy 3) 0).trans ((st_nf (by decide)).trans rfl))))]; omega)) rfl ?_
          refine am_aload_n eX8_mark_58 rfl ?_
          refine am_getf eX8_mark_59 fX8_21 (en_c8 (m := m) (x := m4)) rfl ?_
          refine am_topI (w := x 1 0) ((congrFun (congrFun hm4 1) 0).trans ((sp_kp_f (by decide) (by decide)).trans ((congrFun (congrFun hy 1) 0).trans ((st_nf (by decide)).trans rfl)))) ?_
          have b6 := wb1 hW 0
          refine am_iload eX8_mark_62 rfl ?_
          refine am_iconst eX8_mark_64 ?_
          refine am_cV_v eX8_mark_65 kX8_189 (c_X3_enterW (m := m) (x := m4) (T := T) hWm4 (w := 2 * t + 0) (i := (2 * t.toNat + 0)) (by omega) (by rw [((congrFun (congrFun hm4 3) 0).trans ((sp_kp_f (by decide) (by decide)).trans ((congrFun (congrFun hy 3) 0).trans ((st_nf (by decide)).trans rfl))))]; omega) (t := (x 1 0)) (s := 95) (o := 1) (((congrFun (congrFun hm4 1) 0).trans ((sp_kp_f (by decide) (by decide)).trans ((congrFun (congrFun hy 1) 0).trans ((st_nf (by decide)).trans rfl))))).symm ⟨by omega, by omega⟩ ⟨by omega, by omega⟩ (Or.inr rfl)) rfl rfl (en_c3 (m := m) (x := m4) (i := (2 * t.toNat + 0)) (by rw [((congrFun (congrFun hm4 3) 0).trans ((sp_kp_f (by decide) (by decide)).trans ((congrFun (congrFun hy 3) 0).trans ((st_nf (by decide)).trans rfl))))]; omega)) (by decide) (by decide) (Nat.le_of_ble_eq_true rfl) (by omega) (by omega) ?_
          obtain ⟨m7, hm7⟩ : ∃ z, z = sp_writes m4 (2 * t + 0) 95 1 := ⟨_, rfl⟩
          rw [← hm7]
          have hWm7 : md_wb T m7 := by rw [hm7]; exact sp_writes_wb hWm4 (by omega) (Or.inr rfl)
          refine am_aload_n eX8_mark_68 rfl ?_
          refine am_iconst eX8_mark_69 ?_
          refine am_putf eX8_mark_70 fX8_69 rfl (en_c8 (m := m) (x := m7)) (Nat.le_of_ble_eq_true rfl) (Or.inr rfl) (am_heq (cx_begun) ?_)
          refine am_aload eX8_mark_73 rfl ?_
          refine am_getf eX8_mark_75 fX8_168 (en_c0 (m := m) (x := (st m7 2 0 1)) (i := (2 * t.toNat + 0)) (by rw [((st_nf (by decide)).trans ((congrFun (congrFun hm7 3) 0).trans ((sp_writes_f (by decide)).trans ((congrFun (congrFun hm4 3) 0).trans ((sp_kp_f (by decide) (by decide)).trans ((congrFun (congrFun hy 3) 0).trans ((st_nf (by decide)).trans rfl)))))))]; omega)) rfl ?_
          refine am_topI (w := (x 12 (2 * t.toNat + 0) + 1)) ((st_nf (by decide)).trans ((congrFun (congrFun hm7 12) (2 * t.toNat + 0)).trans ((sp_writes_f (by decide)).trans ((congrFun (congrFun hm4 12) (2 * t.toNat + 0)).trans (sp_kp_12.trans (congrArg (fun z => z + 1) ((congrFun (congrFun hy 12) (2 * t.toNat + 0)).trans ((st_nf (by decide)).trans rfl)))))))) ?_
          refine am_ireturn eX8_mark_78 rfl trivial (by omega) (by omega) ?_
          exact tx_ret (by rw [hm7]; rw [hm4]; unfold sp_mark; (try simp only [if_true, if_false, Int.toNat_zero, Int.toNat_one, show ¬ (1 : Int) = 0 by decide]); rw [if_neg (by omega), if_neg (by omega), sp_writes_st2, sp_kp_st2 (by decide), hy]) (by unfold sp_mark; (try simp only [if_true, if_false, Int.toNat_zero, Int.toNat_one, show ¬ (1 : Int) = 0 by decide]); rw [if_neg (by omega), if_neg (by omega), sp_writes_f (by decide), sp_kp_f (by decide) (by decide)]; simp [st]) (by unfold an_mark; (try simp only [if_true, if_false, Int.toNat_zero, Int.toNat_one, show ¬ (1 : Int) = 0 by decide]); rw [if_neg (by omega), if_neg (by omega)])
      · have cM : x 12 (2 * t.toNat + 0) < 200 := cL
        have b12x := wb12 hW (2 * t.toNat + 0)
        refine am_aload_n eX8_mark_0 rfl ?_
        refine am_iload_n eX8_mark_1 rfl ?_
        refine am_cT eX8_mark_2 kX8_105 (c_X8_towerAt (m := m) (x := y) (T := T) hWy (a := t) ⟨by omega, by omega⟩) rfl rfl (en_c8 (m := m) (x := y)) (by decide) (by decide) (Nat.le_of_ble_eq_true rfl) (by omega) (by omega) rfl (fun hp => (tx_thr (i := 0) rfl rfl hy (by rw [((congrFun (congrFun hy 3) 0).trans ((st_nf (by decide)).trans rfl))] at hp; unfold sp_mark; (try simp only [if_true, if_false, Int.toNat_zero, Int.toNat_one, show ¬ (1 : Int) = 0 by decide]); (repeat' split) <;> first | rfl | (exfalso; omega)))) (fun hp => ?_)
        rw [((congrFun (congrFun hy 3) 0).trans ((st_nf (by decide)).trans rfl))] at hp
        have hp1 := hp
        refine am_iload_n eX8_mark_5 rfl ?_
        refine am_cV eX8_mark_6 kX8_171 (c_X7_armFor (m := m) (x := y) (T := T) hWy (i := t.toNat) (by rw [((congrFun (congrFun hy 3) 0).trans ((st_nf (by decide)).trans rfl))]; omega) (u := 0) (Or.inl rfl)) rfl rfl (en_c7 (m := m) (x := y) (i := t.toNat) (by rw [((congrFun (congrFun hy 3) 0).trans ((st_nf (by decide)).trans rfl))]; omega)) (by decide) (by decide) (Nat.le_of_ble_eq_true rfl) (by omega) (by omega) ?_
        refine am_steq (st' := am_R (0, 2 * t.toNat + 0) :: _) rfl ?_
        refine am_astore eX8_mark_9 (by decide) ?_
        refine am_iload_n eX8_mark_11 rfl ?_
        refine am_if_eq ⟨by omega, by omega⟩ eX8_mark_12 (fun z => absurd z (by decide)) (fun _ => ?_)
        refine am_bipush eX8_mark_15 (by decide) ?_
        refine am_goto eX8_mark_17 ?_
        refine am_istore eX8_mark_22 (by decide) ?_
        refine am_aload_n eX8_mark_24 rfl ?_
        refine am_iload_n eX8_mark_25 rfl ?_
        refine am_iload_n eX8_mark_26 rfl ?_
        refine am_cV eX8_mark_27 kX8_175 (c_X8_isEnd (m := m) (x := y) (T := T) hWy (a := t) (u := 0) ⟨by omega, by omega⟩ (Or.inl rfl)) rfl rfl (en_c8 (m := m) (x := y)) (by decide) (by decide) (Nat.le_of_ble_eq_true rfl) (by omega) (by omega) ?_
        refine am_topI (w := bz (decide (t = 0))) (by first | rfl | (simp [st]; done) | (simp [hy, st]; done) | simp [show _ = x 3 0 from ((congrFun (congrFun hy 3) 0).trans ((st_nf (by decide)).trans rfl))]) ?_
        refine am_bz_ne eX8_mark_30 (fun c3 => ?_) (fun c3 => ?_)
        · exact am_throw x_thr2 rfl x_tx183 (by decide) rfl (by simp) eX8_mark_43 eX8_mark_46 eX8_mark_47 eX8_mark_49 eX8_mark_52 (by omega) (by omega) (tx_thr (i := 1) rfl rfl hy (by unfold sp_mark; (try simp only [if_true, if_false, Int.toNat_zero, Int.toNat_one, show ¬ (1 : Int) = 0 by decide]); (repeat' split) <;> first | rfl | (exfalso; omega)))
        · refine am_aload eX8_mark_33 rfl ?_
          refine am_iload eX8_mark_35 rfl ?_
          refine am_cV eX8_mark_37 kX8_179 (c_X0_keepOneK (m := m) (x := y) hWy (i := (2 * t.toNat + 0)) (by rw [((congrFun (congrFun hy 3) 0).trans ((st_nf (by decide)).trans rfl))]; omega) (s := 94) ⟨by omega, by omega⟩ (c := (x 12 (2 * t.toNat + 0)).toNat) (by rw [((congrFun (congrFun hy 12) (2 * t.toNat + 0)).trans ((st_nf (by decide)).trans rfl))]; omega) (by rw [((congrFun (congrFun hy 12) (2 * t.toNat + 0)).trans ((st_nf (by decide)).trans rfl))]; omega)) rfl rfl (en_c0 (m := m) (x := y) (i := (2 * t.toNat + 0)) (by rw [((congrFun (congrFun hy 3) 0).trans ((st_nf (by decide)).trans rfl))]; omega)) (by decide) (by decide) (Nat.le_of_ble_eq_true rfl) (by omega) (by omega) ?_
          obtain ⟨m4, hm4⟩ : ∃ z, z = sp_kp y (2 * t.toNat + 0) (x 12 (2 * t.toNat + 0)).toNat 94 := ⟨_, rfl⟩
          rw [← hm4]
          have hWm4 : md_wb T m4 := by rw [hm4]; exact sp_kp_wb hWy (by omega) (by rw [((congrFun (congrFun hy 12) (2 * t.toNat + 0)).trans ((st_nf (by decide)).trans rfl))]; omega)
          refine am_if_ne ⟨by omega, by omega⟩ eX8_mark_40 (fun _ => ?_) (fun z => absurd z (by decide))
          refine am_aload eX8_mark_53 rfl ?_
          refine am_getf eX8_mark_55 fX8_185 (en_c0 (m := m) (x := m4) (i := (2 * t.toNat + 0)) (by rw [((congrFun (congrFun hm4 3) 0).trans ((sp_kp_f (by decide) (by decide)).trans ((congrFun (congrFun hy 3) 0).trans ((st_nf (by decide)).trans rfl))))]; omega)) rfl ?_
          refine am_aload_n eX8_mark_58 rfl ?_
          refine am_getf eX8_mark_59 fX8_21 (en_c8 (m := m) (x := m4)) rfl ?_
          refine am_topI (w := x 1 0) ((congrFun (congrFun hm4 1) 0).trans ((sp_kp_f (by decide) (by decide)).trans ((congrFun (congrFun hy 1) 0).trans ((st_nf (by decide)).trans rfl)))) ?_
          have b6 := wb1 hW 0
          refine am_iload eX8_mark_62 rfl ?_
          refine am_iconst eX8_mark_64 ?_
          refine am_cV_v eX8_mark_65 kX8_189 (c_X3_enterW (m := m) (x := m4) (T := T) hWm4 (w := 2 * t + 0) (i := (2 * t.toNat + 0)) (by omega) (by rw [((congrFun (congrFun hm4 3) 0).trans ((sp_kp_f (by decide) (by decide)).trans ((congrFun (congrFun hy 3) 0).trans ((st_nf (by decide)).trans rfl))))]; omega) (t := (x 1 0)) (s := 94) (o := 1) (((congrFun (congrFun hm4 1) 0).trans ((sp_kp_f (by decide) (by decide)).trans ((congrFun (congrFun hy 1) 0).trans ((st_nf (by decide)).trans rfl))))).symm ⟨by omega, by omega⟩ ⟨by omega, by omega⟩ (Or.inr rfl)) rfl rfl (en_c3 (m := m) (x := m4) (i := (2 * t.toNat + 0)) (by rw [((congrFun (congrFun hm4 3) 0).trans ((sp_kp_f (by decide) (by decide)).trans ((congrFun (congrFun hy 3) 0).trans ((st_nf (by decide)).trans rfl))))]; omega)) (by decide) (by decide) (Nat.le_of_ble_eq_true rfl) (by omega) (by omega) ?_
          obtain ⟨m7, hm7⟩ : ∃ z, z = sp_writes m4 (2 * t + 0) 94 1 := ⟨_, rfl⟩
          rw [← hm7]
          have hWm7 : md_wb T m7 := by rw [hm7]; exact sp_writes_wb hWm4 (by omega) (Or.inr rfl)
          refine am_aload_n eX8_mark_68 rfl ?_
          refine am_iconst eX8_mark_69 ?_
          refine am_putf eX8_mark_70 fX8_69 rfl (en_c8 (m := m) (x := m7)) (Nat.le_of_ble_eq_true rfl) (Or.inr rfl) (am_heq (cx_begun) ?_)
          refine am_aload eX8_mark_73 rfl ?_
          refine am_getf eX8_mark_75 fX8_168 (en_c0 (m := m) (x := (st m7 2 0 1)) (i := (2 * t.toNat + 0)) (by rw [((st_nf (by decide)).trans ((congrFun (congrFun hm7 3) 0).trans ((sp_writes_f (by decide)).trans ((congrFun (congrFun hm4 3) 0).trans ((sp_kp_f (by decide) (by decide)).trans ((congrFun (congrFun hy 3) 0).trans ((st_nf (by decide)).trans rfl)))))))]; omega)) rfl ?_
          refine am_topI (w := (x 12 (2 * t.toNat + 0) + 1)) ((st_nf (by decide)).trans ((congrFun (congrFun hm7 12) (2 * t.toNat + 0)).trans ((sp_writes_f (by decide)).trans ((congrFun (congrFun hm4 12) (2 * t.toNat + 0)).trans (sp_kp_12.trans (congrArg (fun z => z + 1) ((congrFun (congrFun hy 12) (2 * t.toNat + 0)).trans ((st_nf (by decide)).trans rfl)))))))) ?_
          refine am_ireturn eX8_mark_78 rfl trivial (by omega) (by omega) ?_
          exact tx_ret (by rw [hm7]; rw [hm4]; unfold sp_mark; (try simp only [if_true, if_false, Int.toNat_zero, Int.toNat_one, show ¬ (1 : Int) = 0 by decide]); rw [if_neg (by omega), if_neg (by omega), sp_writes_st2, sp_kp_st2 (by decide), hy]) (by unfold sp_mark; (try simp only [if_true, if_false, Int.toNat_zero, Int.toNat_one, show ¬ (1 : Int) = 0 by decide]); rw [if_neg (by omega), if_neg (by omega), sp_writes_f (by decide), sp_kp_f (by decide) (by decide)]; simp [st]) (by unfold an_mark; (try simp only [if_true, if_false, Int.toNat_zero, Int.toNat_one, show ¬ (1 : Int) = 0 by decide]); rw [if_neg (by omega), if_neg (by omega)])
    · rcases hb_e with rfl | rfl
      · have cM : x 12 (2 * t.toNat + 1) < 200 := cL
        have b12x := wb12 hW (2 * t.toNat + 1)
        refine am_aload_n eX8_mark_0 rfl ?_
        refine am_iload_n eX8_mark_1 rfl ?_
        refine am_cT eX8_mark_2 kX8_105 (c_X8_towerAt (m := m) (x := y) (T := T) hWy (a := t) ⟨by omega, by omega⟩) rfl rfl (en_c8 (m := m) (x := y)) (by decide) (by decide) (Nat.le_of_ble_eq_true rfl) (by omega) (by omega) rfl (fun hp => (tx_thr (i := 0) rfl rfl hy (by rw [((congrFun (congrFun hy 3) 0).trans ((st_nf (by decide)).trans rfl))] at hp; unfold sp_mark; (try simp only [if_true, if_false, Int.toNat_zero, Int.toNat_one, show ¬ (1 : Int) = 0 by decide]); (repeat' split) <;> first | rfl | (exfalso; omega)))) (fun hp => ?_)
        rw [((congrFun (congrFun hy 3) 0).trans ((st_nf (by decide)).trans rfl))] at hp
        have hp1 := hp
        refine am_iload_n eX8_mark_5 rfl ?_
        refine am_cV eX8_mark_6 kX8_171 (c_X7_armFor (m := m) (x := y) (T := T) hWy (i := t.toNat) (by rw [((congrFun (congrFun hy 3) 0).trans ((st_nf (by decide)).trans rfl))]; omega) (u := 1) (Or.inr rfl)) rfl rfl (en_c7 (m := m) (x := y) (i := t.toNat) (by rw [((congrFun (congrFun hy 3) 0).trans ((st_nf (by decide)).trans rfl))]; omega)) (by decide) (by decide) (Nat.le_of_ble_eq_true rfl) (by omega) (by omega) ?_
        refine am_steq (st' := am_R (0, 2 * t.toNat + 1) :: _) rfl ?_
        refine am_astore eX8_mark_9 (by decide) ?_
        refine am_iload_n eX8_mark_11 rfl ?_
        refine am_if_eq ⟨by omega, by omega⟩ eX8_mark_12 (fun _ => ?_) (fun z => absurd z (by decide))
        refine am_bipush eX8_mark_20 (by decide) ?_
        refine am_istore eX8_mark_22 (by decide) ?_
        refine am_aload_n eX8_mark_24 rfl ?_
        refine am_iload_n eX8_mark_25 rfl ?_
        refine am_iload_n eX8_mark_26 rfl ?_
        refine am_cV eX8_mark_27 kX8_175 (c_X8_isEnd (m := m) (x := y) (T := T) hWy (a := t) (u := 1) ⟨by omega, by omega⟩ (Or.inr rfl)) rfl rfl (en_c8 (m := m) (x := y)) (by decide) (by decide) (Nat.le_of_ble_eq_true rfl) (by omega) (by omega) ?_
        refine am_topI (w := bz (decide (t = x 3 0 - 1))) (by first | rfl | (simp [st]; done) | (simp [hy, st]; done) | simp [show _ = x 3 0 from ((congrFun (congrFun hy 3) 0).trans ((st_nf (by decide)).trans rfl))]) ?_
        refine am_bz_ne eX8_mark_30 (fun c3 => ?_) (fun c3 => ?_)
        · exact am_throw x_thr2 rfl x_tx183 (by decide) rfl (by simp) eX8_mark_43 eX8_mark_46 eX8_mark_47 eX8_mark_49 eX8_mark_52 (by omega) (by omega) (tx_thr (i := 1) rfl rfl hy (by unfold sp_mark; (try simp only [if_true, if_false, Int.toNat_zero, Int.toNat_one, show ¬ (1 : Int) = 0 by decide]); (repeat' split) <;> first | rfl | (exfalso; omega)))
        · refine am_aload eX8_mark_33 rfl ?_
          refine am_iload eX8_mark_35 rfl ?_
          refine am_cV eX8_mark_37 kX8_179 (c_X0_keepOneK (m := m) (x := y) hWy (i := (2 * t.toNat + 1)) (by rw [((congrFun (congrFun hy 3) 0).trans ((st_nf (by decide)).trans rfl))]; omega) (s := 95) ⟨by omega, by omega⟩ (c := (x 12 (2 * t.toNat + 1)).toNat) (by rw [((congrFun (congrFun hy 12) (2 * t.toNat + 1)).trans ((st_nf (by decide)).trans rfl))]; omega) (by rw [((congrFun (congrFun hy 12) (2 * t.toNat + 1)).trans ((st_nf (by decide)).trans rfl))]; omega)) rfl rfl (en_c0 (m := m) (x := y) (i := (2 * t.toNat + 1)) (by rw [((congrFun (congrFun hy 3) 0).trans ((st_nf (by decide)).trans rfl))]; omega)) (by decide) (by decide) (Nat.le_of_ble_eq_true rfl) (by omega) (by omega) ?_
          obtain ⟨m4, hm4⟩ : ∃ z, z = sp_kp y (2 * t.toNat + 1) (x 12 (2 * t.toNat + 1)).toNat 95 := ⟨_, rfl⟩
          rw [← hm4]
          have hWm4 : md_wb T m4 := by rw [hm4]; exact sp_kp_wb hWy (by omega) (by rw [((congrFun (congrFun hy 12) (2 * t.toNat + 1)).trans ((st_nf (by decide)).trans rfl))]; omega)
          refine am_if_ne ⟨by omega, by omega⟩ eX8_mark_40 (fun _ => ?_) (fun z => absurd z (by decide))
          refine am_aload eX8_mark_53 rfl ?_
          refine am_getf eX8_mark_55 fX8_185 (en_c0 (m := m) (x := m4) (i := (2 * t.toNat + 1)) (by rw [((congrFun (congrFun hm4 3) 0).trans ((sp_kp_f (by decide) (by decide)).trans ((congrFun (congrFun hy 3) 0).trans ((st_nf (by decide)).trans rfl))))]; omega)) rfl ?_
          refine am_aload_n eX8_mark_58 rfl ?_
          refine am_getf eX8_mark_59 fX8_21 (en_c8 (m := m) (x := m4)) rfl ?_
          refine am_topI (w := x 1 0) ((congrFun (congrFun hm4 1) 0).trans ((sp_kp_f (by decide) (by decide)).trans ((congrFun (congrFun hy 1) 0).trans ((st_nf (by decide)).trans rfl)))) ?_
          have b6 := wb1 hW 0
          refine am_iload eX8_mark_62 rfl ?_
          refine am_iconst eX8_mark_64 ?_
          refine am_cV_v eX8_mark_65 kX8_189 (c_X3_enterW (m := m) (x := m4) (T := T) hWm4 (w := 2 * t + 1) (i := (2 * t.toNat + 1)) (by omega) (by rw [((congrFun (congrFun hm4 3) 0).trans ((sp_kp_f (by decide) (by decide)).trans ((congrFun (congrFun hy 3) 0).trans ((st_nf (by decide)).trans rfl))))]; omega) (t := (x 1 0)) (s := 95) (o := 1) (((congrFun (congrFun hm4 1) 0).trans ((sp_kp_f (by decide) (by decide)).trans ((congrFun (congrFun hy 1) 0).trans ((st_nf (by decide)).trans rfl))))).symm ⟨by omega, by omega⟩ ⟨by omega, by omega⟩ (Or.inr rfl)) rfl rfl (en_c3 (m := m) (x := m4) (i := (2 * t.toNat + 1)) (by rw [((congrFun (congrFun hm4 3) 0).trans ((sp_kp_f (by decide) (by decide)).trans ((congrFun (congrFun hy 3) 0).trans ((st_nf (by decide)).trans rfl))))]; omega)) (by decide) (by decide) (Nat.le_of_ble_eq_true rfl) (by omega) (by omega) ?_
          obtain ⟨m7, hm7⟩ : ∃ z, z = sp_writes m4 (2 * t + 1) 95 1 := ⟨_, rfl⟩
          rw [← hm7]
          have hWm7 : md_wb T m7 := by rw [hm7]; exact sp_writes_wb hWm4 (by omega) (Or.inr rfl)
          refine am_aload_n eX8_mark_68 rfl ?_
          refine am_iconst eX8_mark_69 ?_
          refine am_putf eX8_mark_70 fX8_69 rfl (en_c8 (m := m) (x := m7)) (Nat.le_of_ble_eq_true rfl) (Or.inr rfl) (am_heq (cx_begun) ?_)
          refine am_aload eX8_mark_73 rfl ?_
          refine am_getf eX8_mark_75 fX8_168 (en_c0 (m := m) (x := (st m7 2 0 1)) (i := (2 * t.toNat + 1)) (by rw [((st_nf (by decide)).trans ((congrFun (congrFun hm7 3) 0).trans ((sp_writes_f (by decide)).trans ((congrFun (congrFun hm4 3) 0).trans ((sp_kp_f (by decide) (by decide)).trans ((congrFun (congrFun hy 3) 0).trans ((st_nf (by decide)).trans rfl)))))))]; omega)) rfl ?_
          refine am_topI (w := (x 12 (2 * t.toNat + 1) + 1)) ((st_nf (by decide)).trans ((congrFun (congrFun hm7 12) (2 * t.toNat + 1)).trans ((sp_writes_f (by decide)).trans ((congrFun (congrFun hm4 12) (2 * t.toNat + 1)).trans (sp_kp_12.trans (congrArg (fun z => z + 1) ((congrFun (congrFun hy 12) (2 * t.toNat + 1)).trans ((st_nf (by decide)).trans rfl)))))))) ?_
          refine am_ireturn eX8_mark_78 rfl trivial (by omega) (by omega) ?_
          exact tx_ret (by rw [hm7]; rw [hm4]; unfold sp_mark; (try simp only [if_true, if_false, Int.toNat_zero, Int.toNat_one, show ¬ (1 : Int) = 0 by decide]); rw [if_neg (by omega), if_neg (by omega), sp_writes_st2, sp_kp_st2 (by decide), hy]) (by unfold sp_mark; (try simp only [if_true, if_false, Int.toNat_zero, Int.toNat_one, show ¬ (1 : Int) = 0 by decide]); rw [if_neg (by omega), if_neg (by omega), sp_writes_f (by decide), sp_kp_f (by decide) (by decide)]; simp [st]) (by unfold an_mark; (try simp only [if_true, if_false, Int.toNat_zero, Int.toNat_one, show ¬ (1 : Int) = 0 by decide]); rw [if_neg (by omega), if_neg (by omega)])
      · have cM : x 12 (2 * t.toNat + 1) < 200 := cL
        have b12x := wb12 hW (2 * t.toNat + 1)
        refine am_aload_n eX8_mark_0 rfl ?_
        refine am_iload_n eX8_mark_1 rfl ?_
        refine am_cT eX8_mark_2 kX8_105 (c_X8_towerAt (m := m) (x := y) (T := T) hWy (a := t) ⟨by omega, by omega⟩) rfl rfl (en_c8 (m := m) (x := y)) (by decide) (by decide) (Nat.le_of_ble_eq_true rfl) (by omega) (by omega) rfl (fun hp => (tx_thr (i := 0) rfl rfl hy (by rw [((congrFun (congrFun hy 3) 0).trans ((st_nf (by decide)).trans rfl))] at hp; unfold sp_mark; (try simp only [if_true, if_false, Int.toNat_zero, Int.toNat_one, show ¬ (1 : Int) = 0 by decide]); (repeat' split) <;> first | rfl | (exfalso; omega)))) (fun hp => ?_)
        rw [((congrFun (congrFun hy 3) 0).trans ((st_nf (by decide)).trans rfl))] at hp
        have hp1 := hp
        refine am_iload_n eX8_mark_5 rfl ?_
        refine am_cV eX8_mark_6 kX8_171 (c_X7_armFor (m := m) (x := y) (T := T) hWy (i := t.toNat) (by rw [((congrFun (congrFun hy 3) 0).trans ((st_nf (by decide)).trans rfl))]; omega) (u := 1) (Or.inr rfl)) rfl rfl (en_c7 (m := m) (x := y) (i := t.toNat) (by rw [((congrFun (congrFun hy 3) 0).trans ((st_nf (by decide)).trans rfl))]; omega)) (by decide) (by decide) (Nat.le_of_ble_eq_true rfl) (by omega) (by omega) ?_
        refine am_steq (st' := am_R (0, 2 * t.toNat + 1) :: _) rfl ?_
        refine am_astore eX8_mark_9 (by decide) ?_
        refine am_iload_n eX8_mark_11 rfl ?_
        refine am_if_eq ⟨by omega, by omega⟩ eX8_mark_12 (fun z => absurd z (by decide)) (fun _ => ?_)
        refine am_bipush eX8_mark_15 (by decide) ?_
        refine am_goto eX8_mark_17 ?_
        refine am_istore eX8_mark_22 (by decide) ?_
        refine am_aload_n eX8_mark_24 rfl ?_
        refine am_iload_n eX8_mark_25 rfl ?_
        refine am_iload_n eX8_mark_26 rfl ?_
        refine am_cV eX8_mark_27 kX8_175 (c_X8_isEnd (m := m) (x := y) (T := T) hWy (a := t) (u := 1) ⟨by omega, by omega⟩ (Or.inr rfl)) rfl rfl (en_c8 (m := m) (x := y)) (by decide) (by decide) (Nat.le_of_ble_eq_true rfl) (by omega) (by omega) ?_
        refine am_topI (w := bz (decide (t = x 3 0 - 1))) (by first | rfl | (simp [st]; done) | (simp [hy, st]; done) | simp [show _ = x 3 0 from ((congrFun (congrFun hy 3) 0).trans ((st_nf (by decide)).trans rfl))]) ?_
        refine am_bz_ne eX8_mark_30 (fun c3 => ?_) (fun c3 => ?_)
        · exact am_throw x_thr2 rfl x_tx183 (by decide) rfl (by simp) eX8_mark_43 eX8_mark_46 eX8_mark_47 eX8_mark_49 eX8_mark_52 (by omega) (by omega) (tx_thr (i := 1) rfl rfl hy (by unfold sp_mark; (try simp only [if_true, if_false, Int.toNat_zero, Int.toNat_one, show ¬ (1 : Int) = 0 by decide]); (repeat' split) <;> first | rfl | (exfalso; omega)))
        · refine am_aload eX8_mark_33 rfl ?_
          refine am_iload eX8_mark_35 rfl ?_
          refine am_cV eX8_mark_37 kX8_179 (c_X0_keepOneK (m := m) (x := y) hWy (i := (2 * t.toNat + 1)) (by rw [((congrFun (congrFun hy 3) 0).trans ((st_nf (by decide)).trans rfl))]; omega) (s := 94) ⟨by omega, by omega⟩ (c := (x 12 (2 * t.toNat + 1)).toNat) (by rw [((congrFun (congrFun hy 12) (2 * t.toNat + 1)).trans ((st_nf (by decide)).trans rfl))]; omega) (by rw [((congrFun (congrFun hy 12) (2 * t.toNat + 1)).trans ((st_nf (by decide)).trans rfl))]; omega)) rfl rfl (en_c0 (m := m) (x := y) (i := (2 * t.toNat + 1)) (by rw [((congrFun (congrFun hy 3) 0).trans ((st_nf (by decide)).trans rfl))]; omega)) (by decide) (by decide) (Nat.le_of_ble_eq_true rfl) (by omega) (by omega) ?_
          obtain ⟨m4, hm4⟩ : ∃ z, z = sp_kp y (2 * t.toNat + 1) (x 12 (2 * t.toNat + 1)).toNat 94 := ⟨_, rfl⟩
          rw [← hm4]
          have hWm4 : md_wb T m4 := by rw [hm4]; exact sp_kp_wb hWy (by omega) (by rw [((congrFun (congrFun hy 12) (2 * t.toNat + 1)).trans ((st_nf (by decide)).trans rfl))]; omega)
          refine am_if_ne ⟨by omega, by omega⟩ eX8_mark_40 (fun _ => ?_) (fun z => absurd z (by decide))
          refine am_aload eX8_mark_53 rfl ?_
          refine am_getf eX8_mark_55 fX8_185 (en_c0 (m := m) (x := m4) (i := (2 * t.toNat + 1)) (by rw [((congrFun (congrFun hm4 3) 0).trans ((sp_kp_f (by decide) (by decide)).trans ((congrFun (congrFun hy 3) 0).trans ((st_nf (by decide)).trans rfl))))]; omega)) rfl ?_
          refine am_aload_n eX8_mark_58 rfl ?_
          refine am_getf eX8_mark_59 fX8_21 (en_c8 (m := m) (x := m4)) rfl ?_
          refine am_topI (w := x 1 0) ((congrFun (congrFun hm4 1) 0).trans ((sp_kp_f (by decide) (by decide)).trans ((congrFun (congrFun hy 1) 0).trans ((st_nf (by decide)).trans rfl)))) ?_
          have b6 := wb1 hW 0
          refine am_iload eX8_mark_62 rfl ?_
          refine am_iconst eX8_mark_64 ?_
          refine am_cV_v eX8_mark_65 kX8_189 (c_X3_enterW (m := m) (x := m4) (T := T) hWm4 (w := 2 * t + 1) (i := (2 * t.toNat + 1)) (by omega) (by rw [((congrFun (congrFun hm4 3) 0).trans ((sp_kp_f (by decide) (by decide)).trans ((congrFun (congrFun hy 3) 0).trans ((st_nf (by decide)).trans rfl))))]; omega) (t := (x 1 0)) (s := 94) (o := 1) (((congrFun (congrFun hm4 1) 0).trans ((sp_kp_f (by decide) (by decide)).trans ((congrFun (congrFun hy 1) 0).trans ((st_nf (by decide)).trans rfl))))).symm ⟨by omega, by omega⟩ ⟨by omega, by omega⟩ (Or.inr rfl)) rfl rfl (en_c3 (m := m) (x := m4) (i := (2 * t.toNat + 1)) (by rw [((congrFun (congrFun hm4 3) 0).trans ((sp_kp_f (by decide) (by decide)).trans ((congrFun (congrFun hy 3) 0).trans ((st_nf (by decide)).trans rfl))))]; omega)) (by decide) (by decide) (Nat.le_of_ble_eq_true rfl) (by omega) (by omega) ?_
          obtain ⟨m7, hm7⟩ : ∃ z, z = sp_writes m4 (2 * t + 1) 94 1 := ⟨_, rfl⟩
          rw [← hm7]
          have hWm7 : md_wb T m7 := by rw [hm7]; exact sp_writes_wb hWm4 (by omega) (Or.inr rfl)
          refine am_aload_n eX8_mark_68 rfl ?_
          refine am_iconst eX8_mark_69 ?_
          refine am_putf eX8_mark_70 fX8_69 rfl (en_c8 (m := m) (x := m7)) (Nat.le_of_ble_eq_true rfl) (Or.inr rfl) (am_heq (cx_begun) ?_)
          refine am_aload eX8_mark_73 rfl ?_
          refine am_getf eX8_mark_75 fX8_168 (en_c0 (m := m) (x := (st m7 2 0 1)) (i := (2 * t.toNat + 1)) (by rw [((st_nf (by decide)).trans ((congrFun (congrFun hm7 3) 0).trans ((sp_writes_f (by decide)).trans ((congrFun (congrFun hm4 3) 0).trans ((sp_kp_f (by decide) (by decide)).trans ((congrFun (congrFun hy 3) 0).trans ((st_nf (by decide)).trans rfl)))))))]; omega)) rfl ?_
          refine am_topI (w := (x 12 (2 * t.toNat + 1) + 1)) ((st_nf (by decide)).trans ((congrFun (congrFun hm7 12) (2 * t.toNat + 1)).trans ((sp_writes_f (by decide)).trans ((congrFun (congrFun hm4 12) (2 * t.toNat + 1)).trans (sp_kp_12.trans (congrArg (fun z => z + 1) ((congrFun (congrFun hy 12) (2 * t.toNat + 1)).trans ((st_nf (by decide)).trans rfl)))))))) ?_
          refine am_ireturn eX8_mark_78 rfl trivial (by omega) (by omega) ?_
          exact tx_ret (by rw [hm7]; rw [hm4]; unfold sp_mark; (try simp only [if_true, if_false, Int.toNat_zero, Int.toNat_one, show ¬ (1 : Int) = 0 by decide]); rw [if_neg (by omega), if_neg (by omega), sp_writes_st2, sp_kp_st2 (by decide), hy]) (by unfold sp_mark; (try simp only [if_true, if_false, Int.toNat_zero, Int.toNat_one, show ¬ (1 : Int) = 0 by decide]); rw [if_neg (by omega), if_neg (by omega), sp_writes_f (by decide), sp_kp_f (by decide) (by decide)]; simp [st]) (by unfold an_mark; (try simp only [if_true, if_false, Int.toNat_zero, Int.toNat_one, show ¬ (1 : Int) = 0 by decide]); rw [if_neg (by omega), if_neg (by omega)])
  · skip
    rcases hb_u with rfl | rfl
    · rcases hb_e with rfl | rfl
      · have cM : ¬ x 12 (2 * t.toNat + 0) < 200 := cL
        have b12x := wb12 hW (2 * t.toNat + 0)
        refine am_aload_n eX8_mark_0 rfl ?_
        refine am_iload_n eX8_mark_1 rfl ?_
        refine am_cT eX8_mark_2 kX8_105 (c_X8_towerAt (m := m) (x := y) (T := T) hWy (a := t) ⟨by omega, by omega⟩) rfl rfl (en_c8 (m := m) (x := y)) (by decide) (by decide) (Nat.le_of_ble_eq_true rfl) (by omega) (by omega) rfl (fun hp => (tx_thr (i := 0) rfl rfl hy (by rw [((congrFun (congrFun hy 3) 0).trans ((st_nf (by decide)).trans rfl))] at hp; unfold sp_mark; (try simp only [if_true, if_false, Int.toNat_zero, Int.toNat_one, show ¬ (1 : Int) = 0 by decide]); (repeat' split) <;> first | rfl | (exfalso; omega)))) (fun hp => ?_)
        rw [((congrFun (congrFun hy 3) 0).trans ((st_nf (by decide)).trans rfl))] at hp
        have hp1 := hp
        refine am_iload_n eX8_mark_5 rfl ?_
        refine am_cV eX8_mark_6 kX8_171 (c_X7_armFor (m := m) (x := y) (T := T) hWy (i := t.toNat) (by rw [((congrFun (congrFun hy 3) 0).trans ((st_nf (by decide)).trans rfl))]; omega) (u := 0) (Or.inl rfl)) rfl rfl (en_c7 (m := m) (x := y) (i := t.toNat) (by rw [((congrFun (congrFun hy 3) 0).trans ((st_nf (by decide)).trans rfl))]; omega)) (by decide) (by decide) (Nat.le_of_ble_eq_true rfl) (by omega) (by omega) ?_
        refine am_steq (st' := am_R (0, 2 * t.toNat + 0) :: _) rfl ?_
        refine am_astore eX8_mark_9 (by decide) ?_
        refine am_iload_n eX8_mark_11 rfl ?_
        refine am_if_eq ⟨by omega, by omega⟩ eX8_mark_12 (fun _ => ?_) (fun z => absurd z (by decide))
        refine am_bipush eX8_mark_20 (by decide) ?_
        refine am_istore eX8_mark_22 (by decide) ?_
        refine am_aload_n eX8_mark_24 rfl ?_
        refine am_iload_n eX8_mark_25 rfl ?_
        refine am_iload_n eX8_mark_26 rfl ?_
        refine am_cV eX8_mark_27 kX8_175 (c_X8_isEnd (m := m) (x := y) (T := T) hWy (a := t) (u := 0) ⟨by omega, by omega⟩ (Or.inl rfl)) rfl rfl (en_c8 (m := m) (x := y)) (by decide) (by decide) (Nat.le_of_ble_eq_true rfl) (by omega) (by omega) ?_
        refine am_topI (w := bz (decide (t = 0))) (by first | rfl | (simp [st]; done) | (simp [hy, st]; done) | simp [show _ = x 3 0 from ((congrFun (congrFun hy 3) 0).trans ((st_nf (by decide)).trans rfl))]) ?_
        refine am_bz_ne eX8_mark_30 (fun c3 => ?_) (fun c3 => ?_)
        · exact am_throw x_thr2 rfl x_tx183 (by decide) rfl (by simp) eX8_mark_43 eX8_mark_46 eX8_mark_47 eX8_mark_49 eX8_mark_52 (by omega) (by omega) (tx_thr (i := 1) rfl rfl hy (by unfold sp_mark; (try simp only [if_true, if_false, Int.toNat_zero, Int.toNat_one, show ¬ (1 : Int) = 0 by decide]); (repeat' split) <;> first | rfl | (exfalso; omega)))
        · refine am_aload eX8_mark_33 rfl ?_
          refine am_iload eX8_mark_35 rfl ?_
          have e12 : y 12 (2 * t.toNat + 0) = x 12 (2 * t.toNat + 0) := ((congrFun (congrFun hy 12) (2 * t.toNat + 0)).trans ((st_nf (by decide)).trans rfl))
          refine am_cV eX8_mark_37 kX8_179 (c_X0_keepOne (m := m) (x := y) hWy (i := (2 * t.toNat + 0)) (by rw [((congrFun (congrFun hy 3) 0).trans ((st_nf (by decide)).trans rfl))]; omega) (s := 95) ⟨by omega, by omega⟩) rfl rfl (en_c0 (m := m) (x := y) (i := (2 * t.toNat + 0)) (by rw [((congrFun (congrFun hy 3) 0).trans ((st_nf (by decide)).trans rfl))]; omega)) (by decide) (by decide) (Nat.le_of_ble_eq_true rfl) (by omega) (by omega) ?_
          refine am_heq (h' := en_h m y) (by unfold sq_one; rw [e12, if_neg cM]) ?_
          refine am_topI (w := 0) (by unfold aq_one; rw [e12]; exact if_neg cM) ?_
          refine am_if_ne ⟨by omega, by omega⟩ eX8_mark_40 (fun z => absurd z (by decide)) (fun _ => ?_)
          exact am_throw x_thr2 rfl x_tx183 (by decide) rfl (by simp) eX8_mark_43 eX8_mark_46 eX8_mark_47 eX8_mark_49 eX8_mark_52 (by omega) (by omega) (tx_thr (i := 1) rfl rfl hy (by unfold sp_mark; (try simp only [if_true, if_false, Int.toNat_zero, Int.toNat_one, show ¬ (1 : Int) = 0 by decide]); (repeat' split) <;> first | rfl | (exfalso; omega)))
      · have cM : ¬ x 12 (2 * t.toNat + 0) < 200 := cL
        have b12x := wb12 hW (2 * t.toNat + 0)
        refine am_aload_n eX8_mark_0 rfl ?_
        refine am_iload_n eX8_mark_1 rfl ?_
        refine am_cT eX8_mark_2 kX8_105 (c_X8_towerAt (m := m) (x := y) (T := T) hWy (a := t) ⟨by omega, by omega⟩) rfl rfl (en_c8 (m := m) (x := y)) (by decide) (by decide) (Nat.le_of_ble_eq_true rfl) (by omega) (by omega) rfl (fun hp => (tx_thr (i := 0) rfl rfl hy (by rw [((congrFun (congrFun hy 3) 0).trans ((st_nf (by decide)).trans rfl))] at hp; unfold sp_mark; (try simp only [if_true, if_false, Int.toNat_zero, Int.toNat_one, show ¬ (1 : Int) = 0 by decide]); (repeat' split) <;> first | rfl | (exfalso; omega)))) (fun hp => ?_)
        rw [((congrFun (congrFun hy 3) 0).trans ((st_nf (by decide)).trans rfl))] at hp
        have hp1 := hp
        refine am_iload_n eX8_mark_5 rfl ?_
        refine am_cV eX8_mark_6 kX8_171 (c_X7_armFor (m := m) (x := y) (T := T) hWy (i := t.toNat) (by rw [((congrFun (congrFun hy 3) 0).trans ((st_nf (by decide)).trans rfl))]; omega) (u := 0) (Or.inl rfl)) rfl rfl (en_c7 (m := m) (x := y) (i := t.toNat) (by rw [((congrFun (congrFun hy 3) 0).trans ((st_nf (by decide)).trans rfl))]; omega)) (by decide) (by decide) (Nat.le_of_ble_eq_true rfl) (by omega) (by omega) ?_
        refine am_steq (st' := am_R (0, 2 * t.toNat + 0) :: _) rfl ?_
        refine am_astore eX8_mark_9 (by decide) ?_
        refine am_iload_n eX8_mark_11 rfl ?_
        refine am_if_eq ⟨by omega, by omega⟩ eX8_mark_12 (fun z => absurd z (by decide)) (fun _ => ?_)
        refine am_bipush eX8_mark_15 (by decide) ?_
        refine am_goto eX8_mark_17 ?_
        refine am_istore eX8_mark_22 (by decide) ?_
        refine am_aload_n eX8_mark_24 rfl ?_
        refine am_iload_n eX8_mark_25 rfl ?_
        refine am_iload_n eX8_mark_26 rfl ?_
        refine am_cV eX8_mark_27 kX8_175 (c_X8_isEnd (m := m) (x := y) (T := T) hWy (a := t) (u := 0) ⟨by omega, by omega⟩ (Or.inl rfl)) rfl rfl (en_c8 (m := m) (x := y)) (by decide) (by decide) (Nat.le_of_ble_eq_true rfl) (by omega) (by omega) ?_
        refine am_topI (w := bz (decide (t = 0))) (by first | rfl | (simp [st]; done) | (simp [hy, st]; done) | simp [show _ = x 3 0 from ((congrFun (congrFun hy 3) 0).trans ((st_nf (by decide)).trans rfl))]) ?_
        refine am_bz_ne eX8_mark_30 (fun c3 => ?_) (fun c3 => ?_)
        · exact am_throw x_thr2 rfl x_tx183 (by decide) rfl (by simp) eX8_mark_43 eX8_mark_46 eX8_mark_47 eX8_mark_49 eX8_mark_52 (by omega) (by omega) (tx_thr (i := 1) rfl rfl hy (by unfold sp_mark; (try simp only [if_true, if_false, Int.toNat_zero, Int.toNat_one, show ¬ (1 : Int) = 0 by decide]); (repeat' split) <;> first | rfl | (exfalso; omega)))
        · refine am_aload eX8_mark_33 rfl ?_
          refine am_iload eX8_mark_35 rfl ?_
          have e12 : y 12 (2 * t.toNat + 0) = x 12 (2 * t.toNat + 0) := ((congrFun (congrFun hy 12) (2 * t.toNat + 0)).trans ((st_nf (by decide)).trans rfl))
          refine am_cV eX8_mark_37 kX8_179 (c_X0_keepOne (m := m) (x := y) hWy (i := (2 * t.toNat + 0)) (by rw [((congrFun (congrFun hy 3) 0).trans ((st_nf (by decide)).trans rfl))]; omega) (s := 94) ⟨by omega, by omega⟩) rfl rfl (en_c0 (m := m) (x := y) (i := (2 * t.toNat + 0)) (by rw [((congrFun (congrFun hy 3) 0).trans ((st_nf (by decide)).trans rfl))]; omega)) (by decide) (by decide) (Nat.le_of_ble_eq_true rfl) (by omega) (by omega) ?_
          refine am_heq (h' := en_h m y) (by unfold sq_one; rw [e12, if_neg cM]) ?_
          refine am_topI (w := 0) (by unfold aq_one; rw [e12]; exact if_neg cM) ?_
          refine am_if_ne ⟨by omega, by omega⟩ eX8_mark_40 (fun z => absurd z (by decide)) (fun _ => ?_)
          exact am_throw x_thr2 rfl x_tx183 (by decide) rfl (by simp) eX8_mark_43 eX8_mark_46 eX8_mark_47 eX8_mark_49 eX8_mark_52 (by omega) (by omega) (tx_thr (i := 1) rfl rfl hy (by unfold sp_mark; (try simp only [if_true, if_false, Int.toNat_zero, Int.toNat_one, show ¬ (1 : Int) = 0 by decide]); (repeat' split) <;> first | rfl | (exfalso; omega)))
    · rcases hb_e with rfl | rfl
      · have cM : ¬ x 12 (2 * t.toNat + 1) < 200 := cL
        have b12x := wb12 hW (2 * t.toNat + 1)
        refine am_aload_n eX8_mark_0 rfl ?_
        refine am_iload_n eX8_mark_1 rfl ?_
        refine am_cT eX8_mark_2 kX8_105 (c_X8_towerAt (m := m) (x := y) (T := T) hWy (a := t) ⟨by omega, by omega⟩) rfl rfl (en_c8 (m := m) (x := y)) (by decide) (by decide) (Nat.le_of_ble_eq_true rfl) (by omega) (by omega) rfl (fun hp => (tx_thr (i := 0) rfl rfl hy (by rw [((congrFun (congrFun hy 3) 0).trans ((st_nf (by decide)).trans rfl))] at hp; unfold sp_mark; (try simp only [if_true, if_false, Int.toNat_zero, Int.toNat_one, show ¬ (1 : Int) = 0 by decide]); (repeat' split) <;> first | rfl | (exfalso; omega)))) (fun hp => ?_)
        rw [((congrFun (congrFun hy 3) 0).trans ((st_nf (by decide)).trans rfl))] at hp
        have hp1 := hp
        refine am_iload_n eX8_mark_5 rfl ?_
        refine am_cV eX8_mark_6 kX8_171 (c_X7_armFor (m := m) (x := y) (T := T) hWy (i := t.toNat) (by rw [((congrFun (congrFun hy 3) 0).trans ((st_nf (by decide)).trans rfl))]; omega) (u := 1) (Or.inr rfl)) rfl rfl (en_c7 (m := m) (x := y) (i := t.toNat) (by rw [((congrFun (congrFun hy 3) 0).trans ((st_nf (by decide)).trans rfl))]; omega)) (by decide) (by decide) (Nat.le_of_ble_eq_true rfl) (by omega) (by omega) ?_
        refine am_steq (st' := am_R (0, 2 * t.toNat + 1) :: _) rfl ?_
        refine am_astore eX8_mark_9 (by decide) ?_
        refine am_iload_n eX8_mark_11 rfl ?_
        refine am_if_eq ⟨by omega, by omega⟩ eX8_mark_12 (fun _ => ?_) (fun z => absurd z (by decide))
        refine am_bipush eX8_mark_20 (by decide) ?_
        refine am_istore eX8_mark_22 (by decide) ?_
        refine am_aload_n eX8_mark_24 rfl ?_
        refine am_iload_n eX8_mark_25 rfl ?_
        refine am_iload_n eX8_mark_26 rfl ?_
        refine am_cV eX8_mark_27 kX8_175 (c_X8_isEnd (m := m) (x := y) (T := T) hWy (a := t) (u := 1) ⟨by omega, by omega⟩ (Or.inr rfl)) rfl rfl (en_c8 (m := m) (x := y)) (by decide) (by decide) (Nat.le_of_ble_eq_true rfl) (by omega) (by omega) ?_
        refine am_topI (w := bz (decide (t = x 3 0 - 1))) (by first | rfl | (simp [st]; done) | (simp [hy, st]; done) | simp [show _ = x 3 0 from ((congrFun (congrFun hy 3) 0).trans ((st_nf (by decide)).trans rfl))]) ?_
        refine am_bz_ne eX8_mark_30 (fun c3 => ?_) (fun c3 => ?_)
        · exact am_throw x_thr2 rfl x_tx183 (by decide) rfl (by simp) eX8_mark_43 eX8_mark_46 eX8_mark_47 eX8_mark_49 eX8_mark_52 (by omega) (by omega) (tx_thr (i := 1) rfl rfl hy (by unfold sp_mark; (try simp only [if_true, if_false, Int.toNat_zero, Int.toNat_one, show ¬ (1 : Int) = 0 by decide]); (repeat' split) <;> first | rfl | (exfalso; omega)))
        · refine am_aload eX8_mark_33 rfl ?_
          refine am_iload eX8_mark_35 rfl ?_
          have e12 : y 12 (2 * t.toNat + 1) = x 12 (2 * t.toNat + 1) := ((congrFun (congrFun hy 12) (2 * t.toNat + 1)).trans ((st_nf (by decide)).trans rfl))
          refine am_cV eX8_mark_37 kX8_179 (c_X0_keepOne (m := m) (x := y) hWy (i := (2 * t.toNat + 1)) (by rw [((congrFun (congrFun hy 3) 0).trans ((st_nf (by decide)).trans rfl))]; omega) (s := 95) ⟨by omega, by omega⟩) rfl rfl (en_c0 (m := m) (x := y) (i := (2 * t.toNat + 1)) (by rw [((congrFun (congrFun hy 3) 0).trans ((st_nf (by decide)).trans rfl))]; omega)) (by decide) (by decide) (Nat.le_of_ble_eq_true rfl) (by omega) (by omega) ?_
          refine am_heq (h' := en_h m y) (by unfold sq_one; rw [e12, if_neg cM]) ?_
          refine am_topI (w := 0) (by unfold aq_one; rw [e12]; exact if_neg cM) ?_
          refine am_if_ne ⟨by omega, by omega⟩ eX8_mark_40 (fun z => absurd z (by decide)) (fun _ => ?_)
          exact am_throw x_thr2 rfl x_tx183 (by decide) rfl (by simp) eX8_mark_43 eX8_mark_46 eX8_mark_47 eX8_mark_49 eX8_mark_52 (by omega) (by omega) (tx_thr (i := 1) rfl rfl hy (by unfold sp_mark; (try simp only [if_true, if_false, Int.toNat_zero, Int.toNat_one, show ¬ (1 : Int) = 0 by decide]); (repeat' split) <;> first | rfl | (exfalso; omega)))
      · have cM : ¬ x 12 (2 * t.toNat + 1) < 200 := cL
        have b12x := wb12 hW (2 * t.toNat + 1)
        refine am_aload_n eX8_mark_0 rfl ?_
        refine am_iload_n eX8_mark_1 rfl ?_
        refine am_cT eX8_mark_2 kX8_105 (c_X8_towerAt (m := m) (x := y) (T := T) hWy (a := t) ⟨by omega, by omega⟩) rfl rfl (en_c8 (m := m) (x := y)) (by decide) (by decide) (Nat.le_of_ble_eq_true rfl) (by omega) (by omega) rfl (fun hp => (tx_thr (i := 0) rfl rfl hy (by rw [((congrFun (congrFun hy 3) 0).trans ((st_nf (by decide)).trans rfl))] at hp; unfold sp_mark; (try simp only [if_true, if_false, Int.toNat_zero, Int.toNat_one, show ¬ (1 : Int) = 0 by decide]); (repeat' split) <;> first | rfl | (exfalso; omega)))) (fun hp => ?_)
        rw [((congrFun (congrFun hy 3) 0).trans ((st_nf (by decide)).trans rfl))] at hp
        have hp1 := hp
        refine am_iload_n eX8_mark_5 rfl ?_
        refine am_cV eX8_mark_6 kX8_171 (c_X7_armFor (m := m) (x := y) (T := T) hWy (i := t.toNat) (by rw [((congrFun (congrFun hy 3) 0).trans ((st_nf (by decide)).trans rfl))]; omega) (u := 1) (Or.inr rfl)) rfl rfl (en_c7 (m := m) (x := y) (i := t.toNat) (by rw [((congrFun (congrFun hy 3) 0).trans ((st_nf (by decide)).trans rfl))]; omega)) (by decide) (by decide) (Nat.le_of_ble_eq_true rfl) (by omega) (by omega) ?_
        refine am_steq (st' := am_R (0, 2 * t.toNat + 1) :: _) rfl ?_
        refine am_astore eX8_mark_9 (by decide) ?_
        refine am_iload_n eX8_mark_11 rfl ?_
        refine am_if_eq ⟨by omega, by omega⟩ eX8_mark_12 (fun z => absurd z (by decide)) (fun _ => ?_)
        refine am_bipush eX8_mark_15 (by decide) ?_
        refine am_goto eX8_mark_17 ?_
        refine am_istore eX8_mark_22 (by decide) ?_
        refine am_aload_n eX8_mark_24 rfl ?_
        refine am_iload_n eX8_mark_25 rfl ?_
        refine am_iload_n eX8_mark_26 rfl ?_
        refine am_cV eX8_mark_27 kX8_175 (c_X8_isEnd (m := m) (x := y) (T := T) hWy (a := t) (u := 1) ⟨by omega, by omega⟩ (Or.inr rfl)) rfl rfl (en_c8 (m := m) (x := y)) (by decide) (by decide) (Nat.le_of_ble_eq_true rfl) (by omega) (by omega) ?_
        refine am_topI (w := bz (decide (t = x 3 0 - 1))) (by first | rfl | (simp [st]; done) | (simp [hy, st]; done) | simp [show _ = x 3 0 from ((congrFun (congrFun hy 3) 0).trans ((st_nf (by decide)).trans rfl))]) ?_
        refine am_bz_ne eX8_mark_30 (fun c3 => ?_) (fun c3 => ?_)
        · exact am_throw x_thr2 rfl x_tx183 (by decide) rfl (by simp) eX8_mark_43 eX8_mark_46 eX8_mark_47 eX8_mark_49 eX8_mark_52 (by omega) (by omega) (tx_thr (i := 1) rfl rfl hy (by unfold sp_mark; (try simp only [if_true, if_false, Int.toNat_zero, Int.toNat_one, show ¬ (1 : Int) = 0 by decide]); (repeat' split) <;> first | rfl | (exfalso; omega)))
        · refine am_aload eX8_mark_33 rfl ?_
          refine am_iload eX8_mark_35 rfl ?_
          have e12 : y 12 (2 * t.toNat + 1) = x 12 (2 * t.toNat + 1) := ((congrFun (congrFun hy 12) (2 * t.toNat + 1)).trans ((st_nf (by decide)).trans rfl))
          refine am_cV eX8_mark_37 kX8_179 (c_X0_keepOne (m := m) (x := y) hWy (i := (2 * t.toNat + 1)) (by rw [((congrFun (congrFun hy 3) 0).trans ((st_nf (by decide)).trans rfl))]; omega) (s := 94) ⟨by omega, by omega⟩) rfl rfl (en_c0 (m := m) (x := y) (i := (2 * t.toNat + 1)) (by rw [((congrFun (congrFun hy 3) 0).trans ((st_nf (by decide)).trans rfl))]; omega)) (by decide) (by decide) (Nat.le_of_ble_eq_true rfl) (by omega) (by omega) ?_
          refine am_heq (h' := en_h m y) (by unfold sq_one; rw [e12, if_neg cM]) ?_
          refine am_topI (w := 0) (by unfold aq_one; rw [e12]; exact if_neg cM) ?_
          refine am_if_ne ⟨by omega, by omega⟩ eX8_mark_40 (fun z => absurd z (by decide)) (fun _ => ?_)
          exact am_throw x_thr2 rfl x_tx183 (by decide) rfl (by simp) eX8_mark_43 eX8_mark_46 eX8_mark_47 eX8_mark_49 eX8_mark_52 (by omega) (by omega) (tx_thr (i := 1) rfl rfl hy (by unfold sp_mark; (try simp only [if_true, if_false, Int.toNat_zero, Int.toNat_one, show ¬ (1 : Int) = 0 by decide]); (repeat' split) <;> first | rfl | (exfalso; omega)))
