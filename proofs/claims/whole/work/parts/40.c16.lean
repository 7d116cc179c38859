set_option maxRecDepth 100000 in
set_option maxHeartbeats 4000000 in
theorem c_X8_came {G : am_G} {m x : sg_S} {T : Int} (hW : md_wb T x) {u : Int}  (hb_u : u = 0 ∨ u = 1)  : am_Con G yX8_came wX8_came 7 0 0 [am_R (8, 0), am_I u] (en_h m x) (am_is (am_I (an_came x u)) (en_h m (sp_came x u))) := by
  refine am_of2 (Y := mX8_came) (by decide +kernel) rfl (fun z => by cases z) rfl rfl (Nat.le_of_ble_eq_true rfl) fun X => ?_
  have b3 := wb3 hW 0
  obtain ⟨y, hy⟩ : ∃ z, z = st x 0 0 0 := ⟨_, rfl⟩
  refine am_heq (h' := en_h m y) (by rw [hy]; exact (cx_no (Or.inl rfl)).symm) ?_
  have hWy : md_wb T y := by rw [hy]; exact wb_st hW (by show (0 : Int) ≤ _; decide) (by show _ ≤ (3 : Int); decide)
  refine am_aload_n eX8_came_0 rfl ?_
  refine am_iload_n eX8_came_1 rfl ?_
  refine am_cV eX8_came_2 kX8_232 (c_X8_tapeOf (m := m) (x := y) (T := T) hWy (u := u) (by omega)) rfl rfl (en_c8 (m := m) (x := y)) (by decide) (by decide) (Nat.le_of_ble_eq_true rfl) (Nat.zero_le _) (Nat.zero_le _) ?_
  refine am_getf eX8_came_5 fX8_236 (en_c6 (m := m) (x := y) (i := u.toNat) (by omega)) rfl ?_
  refine am_topI (w := x 33 u.toNat) ((congrFun (congrFun hy 33) u.toNat).trans ((st_nf (by decide)).trans rfl)) ?_
  have b1 := wb33 hW u.toNat
  refine am_ireturn eX8_came_8 rfl trivial (Nat.zero_le _) (Nat.zero_le _) ?_
  exact cx_is (by unfold an_came; first | rfl | omega) (by rw [hy]; unfold sp_came; rfl)
set_option maxRecDepth 100000 in
set_option maxHeartbeats 4000000 in
theorem c_X8_open {G : am_G} {m x : sg_S} {T : Int} (hW : md_wb T x) {u : Int}  (hb_u : u = 0 ∨ u = 1)  : am_Con G yX8_open wX8_open 7 0 0 [am_R (8, 0), am_I u] (en_h m x) (am_is (am_I (an_open x u)) (en_h m (sp_open x u))) := by
  refine am_of2 (Y := mX8_open) (by decide +kernel) rfl (fun z => by cases z) rfl rfl (Nat.le_of_ble_eq_true rfl) fun X => ?_
  have b3 := wb3 hW 0
  obtain ⟨y, hy⟩ : ∃ z, z = st x 0 0 0 := ⟨_, rfl⟩
  refine am_heq (h' := en_h m y) (by rw [hy]; exact (cx_no (Or.inl rfl)).symm) ?_
  have hWy : md_wb T y := by rw [hy]; exact wb_st hW (by show (0 : Int) ≤ _; decide) (by show _ ≤ (3 : Int); decide)
  refine am_aload_n eX8_open_0 rfl ?_
  refine am_iload_n eX8_open_1 rfl ?_
  refine am_cV eX8_open_2 kX8_232 (c_X8_tapeOf (m := m) (x := y) (T := T) hWy (u := u) (by omega)) rfl rfl (en_c8 (m := m) (x := y)) (by decide) (by decide) (Nat.le_of_ble_eq_true rfl) (Nat.zero_le _) (Nat.zero_le _) ?_
  refine am_getf eX8_open_5 fX8_256 (en_c6 (m := m) (x := y) (i := u.toNat) (by omega)) rfl ?_
  refine am_topI (w := x 28 u.toNat) ((congrFun (congrFun hy 28) u.toNat).trans ((st_nf (by decide)).trans rfl)) ?_
  have b1 := wb28 hW u.toNat
  refine am_ireturn eX8_open_8 rfl trivial (Nat.zero_le _) (Nat.zero_le _) ?_
  exact cx_is (by unfold an_open; first | rfl | omega) (by rw [hy]; unfold sp_open; rfl)
set_option maxRecDepth 100000 in
set_option maxHeartbeats 4000000 in
theorem c_X8_sees {G : am_G} {m x : sg_S} {T : Int} (hW : md_wb T x) {s : Int} (hr_s : -2147483648 ≤ s ∧ s < 2147483648)  (hF : ∀ t : Nat, (t : Int) < x 3 0 → 1 ≤ x 5 t) : am_Con G yX8_sees wX8_sees 7 4 24 [am_R (8, 0), am_I s] (en_h m x) (am_tx [0] (sp_sees x s 0 0) (an_sees x s) (en_h m (sp_sees x s))) := by
  refine am_of2 (Y := mX8_sees) (by decide +kernel) rfl (fun z => by cases z) rfl rfl (Nat.le_of_ble_eq_true rfl) fun X => ?_
  have b3 := wb3 hW 0
  obtain ⟨y, hy⟩ : ∃ z, z = st x 0 0 0 := ⟨_, rfl⟩
  refine am_heq (h' := en_h m y) (by rw [hy]; exact (cx_no (Or.inl rfl)).symm) ?_
  have hWy : md_wb T y := by rw [hy]; exact wb_st hW (by show (0 : Int) ≤ _; decide) (by show _ ≤ (3 : Int); decide)
  refine am_aload_n eX8_sees_0 rfl ?_
  refine am_iload_n eX8_sees_1 rfl ?_
  refine am_cT eX8_sees_2 kX8_82 (c_X8_stretchAt (m := m) (x := y) (T := T) hWy (a := s) ⟨by omega, by omega⟩) rfl rfl (en_c8 (m := m) (x := y)) (by decide) (by decide) (Nat.le_of_ble_eq_true rfl) (by omega) (by omega) rfl (fun hp => (tx_thr (i := 0) rfl rfl hy (by rw [((congrFun (congrFun hy 3) 0).trans ((st_nf (by decide)).trans rfl))] at hp; unfold sp_sees; (try simp only [if_true, if_false, Int.toNat_zero, Int.toNat_one, show ¬ (1 : Int) = 0 by decide]); (repeat' split) <;> first | rfl | (exfalso; omega)))) (fun hp => ?_)
  rw [((congrFun (congrFun hy 3) 0).trans ((st_nf (by decide)).trans rfl))] at hp
  have hp1 := hp
  refine am_pop (by simp) eX8_sees_5 ?_
  refine am_aload_n eX8_sees_6 rfl ?_
  refine am_iload_n eX8_sees_7 rfl ?_
  refine am_cV eX8_sees_8 kX8_206 (c_X8_isSeenAlongN (m := m) (x := y) hWy (s := s) (n := s.toNat) (by omega) (by rw [((congrFun (congrFun hy 3) 0).trans ((st_nf (by decide)).trans rfl))]; omega) (by rw [((congrFun (congrFun hy 5) (s.toNat + 1)).trans ((st_nf (by decide)).trans rfl))]; exact hF _ (by omega))) rfl rfl (en_c8 (m := m) (x := y)) (by decide) (by decide) (Nat.le_of_ble_eq_true rfl) (by omega) (by omega) ?_
  rw [show an_see y s.toNat = an_see x s.toNat by rw [hy]; exact an_see_st (by decide) (by decide) (by decide) (by decide) (by decide) (by decide) (by decide)]
  have q8 : an_see x s.toNat = 0 ∨ an_see x s.toNat = 1 := sp_sl_01 (σ := x) (s := s.toNat) (x 8 s.toNat).toNat
  refine am_ireturn eX8_sees_11 rfl (by show _ = (0 : Int) ∨ _ = (1 : Int); omega) (by omega) (by omega) ?_
  exact tx_ret (by rw [hy]; unfold sp_sees; (try simp only [if_true, if_false, Int.toNat_zero, Int.toNat_one, show ¬ (1 : Int) = 0 by decide]); (repeat' split) <;> first | rfl | (exfalso; omega)) (by unfold sp_sees; (try simp only [if_true, if_false, Int.toNat_zero, Int.toNat_one, show ¬ (1 : Int) = 0 by decide]); (repeat' split) <;> first | (simp [st]; done) | rfl | (exfalso; omega)) (by unfold an_sees; (try simp only [if_true, if_false, Int.toNat_zero, Int.toNat_one, show ¬ (1 : Int) = 0 by decide]); (repeat' split) <;> first | rfl | omega)
set_option maxRecDepth 100000 in
set_option maxHeartbeats 4000000 in
theorem c_X8_log {G : am_G} {m x : sg_S} {T : Int} (hW : md_wb T x) {t u n a : Int} (hr_t : -2147483648 ≤ t ∧ t < 2147483648) (hr_n : -2147483648 ≤ n ∧ n < 2147483648) (hr_a : -2147483648 ≤ a ∧ a < 2147483648) (hb_u : u = 0 ∨ u = 1)  : am_Con G yX8_log wX8_log 7 4 24 [am_R (8, 0), am_I t, am_I u, am_I n, am_I a] (en_h m x) (am_tx [0, 1] (sp_log x t u n a 0 0) (an_log x t u n a) (en_h m (sp_log x t u n a))) := by
  refine am_of2 (Y := mX8_log) (by decide +kernel) rfl (fun z => by cases z) rfl rfl (Nat.le_of_ble_eq_true rfl) fun X => ?_
  have b3 := wb3 hW 0
  have b17 := wb17 hW (2 * t.toNat + u.toNat)
  obtain ⟨y, hy⟩ : ∃ z, z = st x 0 0 0 := ⟨_, rfl⟩
  refine am_heq (h' := en_h m y) (by rw [hy]; exact (cx_no (Or.inl rfl)).symm) ?_
  have hWy : md_wb T y := by rw [hy]; exact wb_st hW (by show (0 : Int) ≤ _; decide) (by show _ ≤ (3 : Int); decide)
  refine am_aload_n eX8_log_0 rfl ?_
  refine am_iload_n eX8_log_1 rfl ?_
  refine am_cT eX8_log_2 kX8_105 (c_X8_towerAt (m := m) (x := y) (T := T) hWy (a := t) ⟨by omega, by omega⟩) rfl rfl (en_c8 (m := m) (x := y)) (by decide) (by decide) (Nat.le_of_ble_eq_true rfl) (by omega) (by omega) rfl (fun hp => (tx_thr (i := 0) rfl rfl hy (by rw [((congrFun (congrFun hy 3) 0).trans ((st_nf (by decide)).trans rfl))] at hp; unfold sp_log; (try simp only [if_true, if_false, Int.toNat_zero, Int.toNat_one, show ¬ (1 : Int) = 0 by decide]); (repeat' split) <;> first | rfl | (exfalso; omega)))) (fun hp => ?_)
  rw [((congrFun (congrFun hy 3) 0).trans ((st_nf (by decide)).trans rfl))] at hp
  have hp1 := hp
  refine am_iload_n eX8_log_5 rfl ?_
  refine am_cV eX8_log_6 kX8_171 (c_X7_armFor (m := m) (x := y) (T := T) hWy (i := t.toNat) (by rw [((congrFun (congrFun hy 3) 0).trans ((st_nf (by decide)).trans rfl))]; omega) (u := u) (by omega)) rfl rfl (en_c7 (m := m) (x := y) (i := t.toNat) (by rw [((congrFun (congrFun hy 3) 0).trans ((st_nf (by decide)).trans rfl))]; omega)) (by decide) (by decide) (Nat.le_of_ble_eq_true rfl) (by omega) (by omega) ?_
  refine am_getf eX8_log_9 fX8_185 (en_c0 (m := m) (x := y) (i := (2 * t.toNat + u.toNat)) (by rw [((congrFun (congrFun hy 3) 0).trans ((st_nf (by decide)).trans rfl))]; omega)) rfl ?_
  refine am_astore eX8_log_12 (by decide) ?_
  refine am_iload_n eX8_log_14 rfl ?_
  refine am_if_ge ⟨by omega, by omega⟩ eX8_log_15 (fun c2 => ?_) (fun c2 => ?_)
  · refine am_iload eX8_log_28 rfl ?_
    refine am_iconst eX8_log_30 ?_
    refine am_iconst eX8_log_31 ?_
    refine am_cS eX8_log_32 kX8_55 (c_X8_isOutside (v := a) (lo := 0) (hi := 2) ⟨by omega, by omega⟩ ⟨by omega, by omega⟩ ⟨by omega, by omega⟩) rfl rfl (by decide) (by decide) (Nat.le_of_ble_eq_true rfl) (by omega) (by omega) ?_
    refine am_bz_eq eX8_log_35 (fun c3 => ?_) (fun c3 => ?_)
    · refine am_iload_n eX8_log_48 rfl ?_
      refine am_aload eX8_log_49 rfl ?_
      refine am_getf eX8_log_51 fX8_220 (en_c3 (m := m) (x := y) (i := (2 * t.toNat + u.toNat)) (by rw [((congrFun (congrFun hy 3) 0).trans ((st_nf (by decide)).trans rfl))]; omega)) rfl ?_
      refine am_topI (w := x 17 (2 * t.toNat + u.toNat)) ((congrFun (congrFun hy 17) (2 * t.toNat + u.toNat)).trans ((st_nf (by decide)).trans rfl)) ?_
      have b4 := wb17 hW (2 * t.toNat + u.toNat)
      refine am_icmp_ge ⟨by omega, by omega⟩ ⟨by omega, by omega⟩ eX8_log_54 (fun c5 => ?_) (fun c5 => ?_)
      · refine am_iconst eX8_log_68 ?_
        refine am_ireturn eX8_log_69 rfl trivial (by omega) (by omega) ?_
        exact tx_ret (by rw [hy]; unfold sp_log; (try simp only [if_true, if_false, Int.toNat_zero, Int.toNat_one, show ¬ (1 : Int) = 0 by decide]); (repeat' split) <;> first | rfl | (exfalso; omega)) (by unfold sp_log; (try simp only [if_true, if_false, Int.toNat_zero, Int.toNat_one, show ¬ (1 : Int) = 0 by decide]); (repeat' split) <;> first | (simp [st]; done) | rfl | (exfalso; omega)) (by unfold an_log; (try unfold aq_ltell); (try simp only [if_true, if_false, Int.toNat_zero, Int.toNat_one, show ¬ (1 : Int) = 0 by decide]); (repeat' split) <;> first | rfl | omega)
      · refine am_aload eX8_log_57 rfl ?_
        refine am_iload_n eX8_log_59 rfl ?_
        refine am_iload eX8_log_60 rfl ?_
        refine am_cV eX8_log_62 kX8_225 (c_X3_tell (m := m) (x := y) hWy (i := (2 * t.toNat + u.toNat)) (by rw [((congrFun (congrFun hy 3) 0).trans ((st_nf (by decide)).trans rfl))]; omega) (n := n) (a := a) ⟨by omega, by omega⟩ (by rw [((congrFun (congrFun hy 17) (2 * t.toNat + u.toNat)).trans ((st_nf (by decide)).trans rfl))]; omega)) rfl rfl (en_c3 (m := m) (x := y) (i := (2 * t.toNat + u.toNat)) (by rw [((congrFun (congrFun hy 3) 0).trans ((st_nf (by decide)).trans rfl))]; omega)) (by decide) (by decide) (Nat.le_of_ble_eq_true rfl) (by omega) (by omega) ?_
        rw [show aq_ltell y (2 * t.toNat + u.toNat) n a = aq_ltell x (2 * t.toNat + u.toNat) n a by rw [hy]; simp [aq_ltell, st]]
        refine am_goto eX8_log_65 ?_
        refine am_ireturn eX8_log_69 rfl trivial (by omega) (by omega) ?_
        exact tx_ret (by rw [hy]; unfold sp_log; (try simp only [if_true, if_false, Int.toNat_zero, Int.toNat_one, show ¬ (1 : Int) = 0 by decide]); (repeat' split) <;> first | rfl | (exfalso; omega)) (by unfold sp_log; (try simp only [if_true, if_false, Int.toNat_zero, Int.toNat_one, show ¬ (1 : Int) = 0 by decide]); (repeat' split) <;> first | (simp [st]; done) | rfl | (exfalso; omega)) (by unfold an_log; (try unfold aq_ltell); (try simp only [if_true, if_false, Int.toNat_zero, Int.toNat_one, show ¬ (1 : Int) = 0 by decide]); (repeat' split) <;> first | rfl | omega)
    · exact am_throw x_thr1 rfl x_tx223 (by decide) rfl (by simp) eX8_log_38 eX8_log_41 eX8_log_42 eX8_log_44 eX8_log_47 (by omega) (by omega) (tx_thr (i := 1) rfl rfl hy (by unfold sp_log; (try simp only [if_true, if_false, Int.toNat_zero, Int.toNat_one, show ¬ (1 : Int) = 0 by decide]); (repeat' split) <;> first | rfl | (exfalso; omega)))
  · exact am_throw x_thr0 rfl x_tx221 (by decide) rfl (by simp) eX8_log_18 eX8_log_21 eX8_log_22 eX8_log_24 eX8_log_27 (by omega) (by omega) (tx_thr (i := 0) rfl rfl hy (by unfold sp_log; (try simp only [if_true, if_false, Int.toNat_zero, Int.toNat_one, show ¬ (1 : Int) = 0 by decide]); (repeat' split) <;> first | rfl | (exfalso; omega)))
theorem sq_hill_y {x y : sg_S} (hy : y = st x 0 0 0) {i : Nat} {a b : Int} (h : x 8 i < 3) : sq_hill y i a b = st (st (st y 9 (3 * i + (x 8 i).toNat) a) 10 (3 * i + (x 8 i).toNat) b) 8 i (x 8 i + 1) := by
  have e : y 8 i = x 8 i := by rw [hy]; exact st_nf (by decide)
  unfold sq_hill
  rw [e, if_pos h]
theorem sq_hill_n {x y : sg_S} (hy : y = st x 0 0 0) {i : Nat} {a b : Int} (h : ¬ x 8 i < 3) : sq_hill y i a b = y := by
  have e : y 8 i = x 8 i := by rw [hy]; exact st_nf (by decide)
  unfold sq_hill
  rw [e, if_neg h]
set_option maxRecDepth 100000 in
set_option maxHeartbeats 4000000 in
theorem c_X8_hill {G : am_G} {m x : sg_S} {T : Int} (hW : md_wb T x) {s a b : Int} (hr_s : -2147483648 ≤ s ∧ s < 2147483648) (hr_a : -2147483648 ≤ a ∧ a < 2147483648) (hr_b : -2147483648 ≤ b ∧ b < 2147483648)   : am_Con G yX8_hill wX8_hill 7 4 24 [am_R (8, 0), am_I s, am_I a, am_I b] (en_h m x) (am_tx [0, 1, 2] (sp_hill x s a b 0 0) (an_hill x s a b) (en_h m (sp_hill x s a b))) := by
  refine am_of2 (Y := mX8_hill) (by decide +kernel) rfl (fun z => by cases z) rfl rfl (Nat.le_of_ble_eq_true rfl) fun X => ?_
  have b3 := wb3 hW 0
  have b8 := wb8 hW s.toNat
  obtain ⟨y, hy⟩ : ∃ z, z = st x 0 0 0 := ⟨_, rfl⟩
  refine am_heq (h' := en_h m y) (by rw [hy]; exact (cx_no (Or.inl rfl)).symm) ?_
  have hWy : md_wb T y := by rw [hy]; exact wb_st hW (by show (0 : Int) ≤ _; decide) (by show _ ≤ (3 : Int); decide)
  by_cases cL : x 8 s.toNat < 3
  · skip
    refine am_aload_n eX8_hill_0 rfl ?_
    refine am_iload_n eX8_hill_1 rfl ?_
    refine am_cT eX8_hill_2 kX8_82 (c_X8_stretchAt (m := m) (x := y) (T := T) hWy (a := s) ⟨by omega, by omega⟩) rfl rfl (en_c8 (m := m) (x := y)) (by decide) (by decide) (Nat.le_of_ble_eq_true rfl) (by omega) (by omega) rfl (fun hp => (tx_thr (i := 0) rfl rfl hy (by rw [((congrFun (congrFun hy 3) 0).trans ((st_nf (by decide)).trans rfl))] at hp; unfold sp_hill; (try simp only [if_true, if_false, Int.toNat_zero, Int.toNat_one, show ¬ (1 : Int) = 0 by decide]); (repeat' split) <;> first | rfl | (exfalso; omega)))) (fun hp => ?_)
    rw [((congrFun (congrFun hy 3) 0).trans ((st_nf (by decide)).trans rfl))] at hp
    have hp1 := hp
    refine am_astore eX8_hill_5 (by decide) ?_
    refine am_iload_n eX8_hill_7 rfl ?_
    refine am_iconst eX8_hill_8 ?_
    refine am_bipush eX8_hill_9 (by decide) ?_
    refine am_cS eX8_hill_11 kX8_55 (c_X8_isOutside (v := a) (lo := 0) (hi := 99) ⟨by omega, by omega⟩ ⟨by omega, by omega⟩ ⟨by omega, by omega⟩) rfl rfl (by decide) (by decide) (Nat.le_of_ble_eq_true rfl) (by omega) (by omega) ?_
    refine am_bz_ne eX8_hill_14 (fun c2 => ?_) (fun c2 => ?_)
    · exact am_throw x_thr1 rfl x_tx89 (by decide) rfl (by simp) eX8_hill_32 eX8_hill_35 eX8_hill_36 eX8_hill_38 eX8_hill_41 (by omega) (by omega) (tx_thr (i := 1) rfl rfl hy (by unfold sp_hill; (try simp only [if_true, if_false, Int.toNat_zero, Int.toNat_one, show ¬ (1 : Int) = 0 by decide]); (repeat' split) <;> first | rfl | (exfalso; omega)))
    · refine am_iload_n eX8_hill_17 rfl ?_
      refine am_iconst eX8_hill_18 ?_
      refine am_aload eX8_hill_19 rfl ?_
      refine am_getf eX8_hill_21 fX8_86 (en_c5 (m := m) (x := y) (i := s.toNat) (by rw [((congrFun (congrFun hy 3) 0).trans ((st_nf (by decide)).trans rfl))]; omega)) rfl ?_
      refine am_topI (w := x 5 (s.toNat + 1)) ((congrFun (congrFun hy 5) (s.toNat + 1)).trans ((st_nf (by decide)).trans rfl)) ?_
      have b3 := wb5 hW (s.toNat + 1)
      refine am_iconst eX8_hill_24 ?_
      refine am_isub eX8_hill_25 ?_
      refine am_cS eX8_hill_26 kX8_55 (c_X8_isOutside (v := b) (lo := 1) (hi := ((x 5 (s.toNat + 1)) - 1)) ⟨by omega, by omega⟩ ⟨by omega, by omega⟩ ⟨by omega, by omega⟩) rfl rfl (by decide) (by decide) (Nat.le_of_ble_eq_true rfl) (by omega) (by omega) ?_
      refine am_bz_eq eX8_hill_29 (fun c4 => ?_) (fun c4 => ?_)
      · refine am_aload eX8_hill_42 rfl ?_
        refine am_iload_n eX8_hill_44 rfl ?_
        refine am_iload_n eX8_hill_45 rfl ?_
        have e8 : y 8 s.toNat = x 8 s.toNat := by rw [hy]; exact st_nf (by decide)
        refine am_cV eX8_hill_46 kX8_91 (c_X5_layHill (m := m) (x := y) hWy (i := s.toNat) (by rw [((congrFun (congrFun hy 3) 0).trans ((st_nf (by decide)).trans rfl))]; omega) (a := a) (b := b) ⟨by omega, by omega⟩ ⟨by omega, by omega⟩) rfl rfl (en_c5 (m := m) (x := y) (i := s.toNat) (by rw [((congrFun (congrFun hy 3) 0).trans ((st_nf (by decide)).trans rfl))]; omega)) (by decide) (by decide) (Nat.le_of_ble_eq_true rfl) (by omega) (by omega) ?_
        refine am_heq (h' := en_h m (st (st (st y 9 (3 * s.toNat + (x 8 s.toNat).toNat) a) 10 (3 * s.toNat + (x 8 s.toNat).toNat) b) 8 s.toNat (x 8 s.toNat + 1))) (congrArg (en_h m) (sq_hill_y hy cL)) ?_
        refine am_topI (w := 1) (by unfold aq_hill; rw [e8]; exact if_pos cL) ?_
        refine am_if_ne ⟨by omega, by omega⟩ eX8_hill_49 (fun _ => ?_) (fun z => absurd z (by decide))
        refine am_aload eX8_hill_62 rfl ?_
        refine am_getf eX8_hill_64 fX8_97 (en_c5 (m := m) (x := (st (st (st y 9 (3 * s.toNat + (x 8 s.toNat).toNat) a) 10 (3 * s.toNat + (x 8 s.toNat).toNat) b) 8 s.toNat (x 8 s.toNat + 1))) (i := s.toNat) (by rw [((st_nf (by decide)).trans ((st_nf (by decide)).trans ((st_nf (by decide)).trans ((congrFun (congrFun hy 3) 0).trans ((st_nf (by decide)).trans rfl)))))]; omega)) rfl ?_
        refine am_topI (w := (x 8 s.toNat + 1)) st_eq ?_
        refine am_ireturn eX8_hill_67 rfl trivial (by omega) (by omega) ?_
        exact tx_ret (by rw [hy]; unfold sp_hill; (try simp only [if_true, if_false, Int.toNat_zero, Int.toNat_one, show ¬ (1 : Int) = 0 by decide]); (repeat' split) <;> first | rfl | (exfalso; omega)) (by unfold sp_hill; (try simp only [if_true, if_false, Int.toNat_zero, Int.toNat_one, show ¬ (1 : Int) = 0 by decide]); (repeat' split) <;> first | (simp [st]; done) | rfl | (exfalso; omega)) (by unfold an_hill; (try simp only [if_true, if_false, Int.toNat_zero, Int.toNat_one, show ¬ (1 : Int) = 0 by decide]); (repeat' split) <;> first | rfl | omega)
      · exact am_throw x_thr1 rfl x_tx89 (by decide) rfl (by simp) eX8_hill_32 eX8_hill_35 eX8_hill_36 eX8_hill_38 eX8_hill_41 (by omega) (by omega) (tx_thr (i := 1) rfl rfl hy (by unfold sp_hill; (try simp only [if_true, if_false, Int.toNat_zero, Int.toNat_one, show ¬ (1 : Int) = 0 by decide]); (repeat' split) <;> first | rfl | (exfalso; omega)))
  · skip
    refine am_aload_n eX8_hill_0 rfl ?_
    refine am_iload_n eX8_hill_1 rfl ?_
    refine am_cT eX8_hill_2 kX8_82 (c_X8_stretchAt (m := m) (x := y) (T := T) hWy (a := s) ⟨by omega, by omega⟩) rfl rfl (en_c8 (m := m) (x := y)) (by decide) (by decide) (Nat.le_of_ble_eq_true rfl) (by omega) (by omega) rfl (fun hp => (tx_thr (i := 0) rfl rfl hy (by rw [((congrFun (congrFun hy 3) 0).trans ((st_nf (by decide)).trans rfl))] at hp; unfold sp_hill; (try simp only [if_true, if_false, Int.toNat_zero, Int.toNat_one, show ¬ (1 : Int) = 0 by decide]); (repeat' split) <;> first | rfl | (exfalso; omega)))) (fun hp => ?_)
    rw [((congrFun (congrFun hy 3) 0).trans ((st_nf (by decide)).trans rfl))] at hp
    have hp1 := hp
    refine am_astore eX8_hill_5 (by decide) ?_
    refine am_iload_n eX8_hill_7 rfl ?_
    refine am_iconst eX8_hill_8 ?_
    refine am_bipush eX8_hill_9 (by decide) ?_
    refine am_cS eX8_hill_11 kX8_55 (c_X8_isOutside (v := a) (lo := 0) (hi := 99) ⟨by omega, by omega⟩ ⟨by omega, by omega⟩ ⟨by omega, by omega⟩) rfl rfl (by decide) (by decide) (Nat.le_of_ble_eq_true rfl) (by omega) (by omega) ?_
    refine am_bz_ne eX8_hill_14 (fun c2 => ?_) (fun c2 => ?_)
    · exact am_throw x_thr1 rfl x_tx89 (by decide) rfl (by simp) eX8_hill_32 eX8_hill_35 eX8_hill_36 eX8_hill_38 eX8_hill_41 (by omega) (by omega) (tx_thr (i := 1) rfl rfl hy (by unfold sp_hill; (try simp only [if_true, if_false, Int.toNat_zero, Int.toNat_one, show ¬ (1 : Int) = 0 by decide]); (repeat' split) <;> first | rfl | (exfalso; omega)))
    · refine am_iload_n eX8_hill_17 rfl ?_
      refine am_iconst eX8_hill_18 ?_
      refine am_aload eX8_hill_19 rfl ?_
      refine am_getf eX8_hill_21 fX8_86 (en_c5 (m := m) (x := y) (i := s.toNat) (by rw [((congrFun (congrFun hy 3) 0).trans ((st_nf (by decide)).trans rfl))]; omega)) rfl ?_
      refine am_topI (w := x 5 (s.toNat + 1)) ((congrFun (congrFun hy 5) (s.toNat + 1)).trans ((st_nf (by decide)).trans rfl)) ?_
      have b3 := wb5 hW (s.toNat + 1)
      refine am_iconst eX8_hill_24 ?_
      refine am_isub eX8_hill_25 ?_
      refine am_cS eX8_hill_26 kX8_55 (c_X8_isOutside (v := b) (lo := 1) (hi := ((x 5 (s.toNat + 1)) - 1)) ⟨by omega, by omega⟩ ⟨by omega, by omega⟩ ⟨by omega, by omega⟩) rfl rfl (by decide) (by decide) (Nat.le_of_ble_eq_true rfl) (by omega) (by omega) ?_
      refine am_bz_eq eX8_hill_29 (fun c4 => ?_) (fun c4 => ?_)
      · refine am_aload eX8_hill_42 rfl ?_
        refine am_iload_n eX8_hill_44 rfl ?_
        refine am_iload_n eX8_hill_45 rfl ?_
        have e8 : y 8 s.toNat = x 8 s.toNat := by rw [hy]; exact st_nf (by decide)
        refine am_cV eX8_hill_46 kX8_91 (c_X5_layHill (m := m) (x := y) hWy (i := s.toNat) (by rw [((congrFun (congrFun hy 3) 0).trans ((st_nf (by decide)).trans rfl))]; omega) (a := a) (b := b) ⟨by omega, by omega⟩ ⟨by omega, by omega⟩) rfl rfl (en_c5 (m := m) (x := y) (i := s.toNat) (by rw [((congrFun (congrFun hy 3) 0).trans ((st_nf (by decide)).trans rfl))]; omega)) (by decide) (by decide) (Nat.le_of_ble_eq_true rfl) (by omega) (by omega) ?_
        refine am_heq (h' := en_h m y) (congrArg (en_h m) (sq_hill_n hy cL)) ?_
        refine am_topI (w := 0) (by unfold aq_hill; rw [e8]; exact if_neg cL) ?_
        refine am_if_ne ⟨by omega, by omega⟩ eX8_hill_49 (fun z => absurd z (by decide)) (fun _ => ?_)
        exact am_throw x_thr2 rfl x_tx95 (by decide) rfl (by simp) eX8_hill_52 eX8_hill_55 eX8_hill_56 eX8_hill_58 eX8_hill_61 (by omega) (by omega) (tx_thr (i := 2) rfl rfl hy (by unfold sp_hill; (try simp only [if_true, if_false, Int.toNat_zero, Int.toNat_one, show ¬ (1 : Int) = 0 by decide]); (repeat' split) <;> first | rfl | (exfalso; omega)))
      · exact am_throw x_thr1 rfl x_tx89 (by decide) rfl (by simp) eX8_hill_32 eX8_hill_35 eX8_hill_36 eX8_hill_38 eX8_hill_41 (by omega) (by omega) (tx_thr (i := 1) rfl rfl hy (by unfold sp_hill; (try simp only [if_true, if_false, Int.toNat_zero, Int.toNat_one, show ¬ (1 : Int) = 0 by decide]); (repeat' split) <;> first | rfl | (exfalso; omega)))
