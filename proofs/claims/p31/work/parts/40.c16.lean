set_option maxRecDepth 100000 in
set_option maxHeartbeats 4000000 in
theorem c_X8_came {G : am_G} {m x : sg_S} {T : Int} (hW : md_wb T x) {u : Int}  (hb_u : u = 0 ∨ u = 1)  : am_Con G yX8_came wX8_came 7 0 0 [am_R (8, 0), am_I u] (en_h m x) (am_is (am_I (an_came x u)) (en_h m (sp_came x u))) := by
  refine am_of2 (Y := mX8_came) (by decide +kernel) rfl (fun z => by cases z) rfl rfl (Nat.le_of_ble_eq_true rfl) fun X => ?_
  have b3 := wb3 hW 0
  obtain ⟨y, hy⟩ : ∃ z, z = st x 0 0 0 := ⟨_, rfl⟩
  refine am_heq (h' := en_h m y) (by rw [hy]; exact (cx_no (Or.inl rfl)).symm) ?_
  have hWy : md_wb T y := by rw [hy]; exact wb_st hW (by show (0 : Int) ≤ _; decide) (by show _ ≤ (3 : Int); decide)
  refine am_aload_n eX8_came_0 rfl ?_
  refine am_iload_n eX8_came_1 rfl ?_
  refine am_cV eX8_came_2 kX8_232 (c_X8_tapeOf (m := m) (x := y) (T := T) hWy (u := u) (by omega)) rfl rfl (en_c8 (m := m) (x := y)) (by decide) (by decide) (Nat.le_of_ble_eq_true rfl) (Nat.zero_le _) (Nat.zero_le _) ?_
  refine am_getf eX8_came_5 fX8_236 (en_c6 (m := m) (x := y) (i := u.toNat) (by omega)) rfl ?_
  refine am_topI (w := x 33 u.toNat) ((congrFun (congrFun hy 33) u.toNat).trans ((st_nf (by decide)).trans rfl)) ?_
  have b1 := wb33 hW u.toNat
  refine am_ireturn eX8_came_8 rfl trivial (Nat.zero_le _) (Nat.zero_le _) ?_
  exact cx_is (by unfold an_came; first | rfl | omega) (by rw [hy]; unfold sp_came; rfl)
set_option maxRecDepth 100000 in
set_option maxHeartbeats 4000000 in
theorem c_X8_open {G : am_G} {m x : sg_S} {T : Int} (hW : md_wb T x) {u : Int}  (hb_u : u = 0 ∨ u = 1)  : am_Con G yX8_open wX8_open 7 0 0 [am_R (8, 0), am_I u] (en_h m x) (am_is (am_I (an_open x u)) (en_h m (sp_open x u))) := by
  refine am_of2 (Y := mX8_open) (by decide +kernel) rfl (fun z => by cases z) rfl rfl (Nat.le_of_ble_eq_true rfl) fun X => ?_
  have b3 := wb3 hW 0
  obtain ⟨y, hy⟩ : ∃ z, z = st x 0 0 0 := ⟨_, rfl⟩
  refine am_heq (h' := en_h m y) (by rw [hy]; exact (cx_no (Or.inl rfl)).symm) ?_
  have hWy : md_wb T y := by rw [hy]; exact wb_st hW (by show (0 : Int) ≤ _; decide) (by show _ ≤ (3 : Int); decide)
  refine am_aload_n eX8_open_0 rfl ?_
  refine am_iload_n eX8_open_1 rfl ?_
  refine am_cV eX8_open_2 kX8_232 (c_X8_tapeOf (m := m) (x := y) (T := T) hWy (u := u) (by omega)) rfl rfl (en_c8 (m := m) (x := y)) (by decide) (by decide) (Nat.le_of_ble_eq_true rfl) (Nat.zero_le _) (Nat.zero_le _) ?_
  refine am_getf eX8_open_5 fX8_256 (en_c6 (m := m) (x := y) (i := u.toNat) (by omega)) rfl ?_
  refine am_topI (w := x 28 u.toNat) ((congrFun (congrFun hy 28) u.toNat).trans ((st_nf (by decide)).trans rfl)) ?_
  have b1 := wb28 hW u.toNat
  refine am_ireturn eX8_open_8 rfl trivial (Nat.zero_le _) (Nat.zero_le _) ?_
  exact cx_is (by unfold an_open; first | rfl | omega) (by rw [hy]; unfold sp_open; rfl)
theorem sq_hill_y {x y : sg_S} (hy : y = st x 0 0 0) {i : Nat} {a b : Int} (h : x 8 i < 3) : sq_hill y i a b = st (st (st y 9 (3 * i + (x 8 i).toNat) a) 10 (3 * i + (x 8 i).toNat) b) 8 i (x 8 i + 1) := by
  have e : y 8 i = x 8 i := by rw [hy]; exact st_nf (by decide)
  unfold sq_hill
  rw [e, if_pos h]
theorem sq_hill_n {x y : sg_S} (hy : y = st x 0 0 0) {i : Nat} {a b : Int} (h : ¬ x 8 i < 3) : sq_hill y i a b = y := by
  have e : y 8 i = x 8 i := by rw [hy]; exact st_nf (by decide)
  unfold sq_hill
  rw [e, if_neg h]
