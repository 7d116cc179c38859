/-! the law's helpers: a call of the class, its answer laid into the long, what it threw as a code -/
def lx_w (c : sg_S) (a : Int) : sg_S := if c 0 0 = 0 then st c 49 0 a else c
theorem cx_49 {m x : sg_S} {v : Int} : am_up (en_h m x) (98, 0) (am_A 2 1 (fun _ => am_J v)) = en_h m (st x 49 0 v) := by
  funext q
  obtain ⟨k, i⟩ := q
  simp only [am_up]
  by_cases e : ((k, i) : am_Nm) = (98, 0)
  · rw [if_pos e, e]
    show _ = some (am_A 2 1 (fun _ => am_J (st x 49 0 v 49 0)))
    rw [st_eq]
  · rw [if_neg e]
    simp only [en_h]
    by_cases k9 : k = 9
    · rw [if_pos k9, if_pos k9]
    · rw [if_neg k9, if_neg k9]
      by_cases k98 : k = 98
      · rw [if_pos k98, if_pos k98, if_neg (fun z => e (by rw [k98, z])), if_neg (fun z => e (by rw [k98, z]))]
      · rw [if_neg k98, if_neg k98]
        by_cases km : 100 ≤ k ∧ k < 143
        · rw [if_pos km, if_pos km]
        · rw [if_neg km, if_neg km]
          unfold en_x
          split <;> first | rfl | (simp [st]; done)
theorem en_98 {m x : sg_S} : en_h m x (98, 0) = some (am_A 2 1 (fun _ => am_J (x 49 0))) := rfl
theorem lx_ok {m c : sg_S} {a : Int} (h : c 0 0 = 0) : am_is (am_I (c 0 0)) (en_h m (lx_w c a)) (.inl (some (am_I 0))) (en_h m (st c 49 0 a)) := ⟨by rw [h], by unfold lx_w; rw [if_pos h]⟩
theorem lx_no {m c : sg_S} {a v : Int} (h : c 0 0 = v) (hv : v ≠ 0) : am_is (am_I (c 0 0)) (en_h m (lx_w c a)) (.inl (some (am_I v))) (en_h m c) := ⟨by rw [h], by unfold lx_w; rw [if_neg (by rw [h]; exact hv)]⟩
set_option maxRecDepth 100000 in
set_option maxHeartbeats 4000000 in
theorem c_L_tower {G : am_G} {m x c : sg_S} {p0 p1 a : Int} {mc ms : Nat} (hC : am_Con G yX8_tower wX8_tower 7 mc ms [am_R (8, 0), am_I p0, am_I p1] (en_h m x) (am_tx [1, 2] (c 0 0) a (en_h m c))) (hra : am_r a) : am_Con G yL_tower wL_tower 8 mc ms [am_R (8, 0), am_I p0, am_I p1, am_R (98, 0)] (en_h m x) (am_is (am_I (c 0 0)) (en_h m (lx_w c a))) := by
  refine am_ofH (Y := mL_tower) (by decide +kernel) rfl (fun z => by cases z) (fun v hv => List.all_eq_true.mp rfl v hv) (Nat.le_of_ble_eq_true rfl) fun X => ?_
  refine am_aload_n eL_tower_0 rfl ?_
  refine am_iconst eL_tower_1 ?_
  refine am_aload_n eL_tower_2 rfl ?_
  refine am_iload_n eL_tower_3 rfl ?_
  refine am_iload_n eL_tower_4 rfl ?_
  refine am_callV (st := [am_I 0, am_R (98, 0)]) eL_tower_5 kL_7 hC rfl rfl en_c8 (by decide) (Nat.le_of_ble_eq_true rfl) (by simp) (by omega) (by omega) (fun r h' hq => ?_) (fun e h' hq => ?_)
  · obtain ⟨rfl, ⟨h0, e1⟩ | ⟨i, e, -, -, e1⟩⟩ := hq
    · cases e1
      refine am_i2l hra eL_tower_8 ?_
      refine am_last (len := 1) eL_tower_9 en_98 (by decide) (by decide) (by decide) ?_
      refine am_aext (g := fun _ => am_J a) am_up_eq (fun j hj => by
          obtain rfl : j = 0 := by omega
          rfl) ?_
      refine am_heq (h' := en_h m (st c 49 0 a)) (am_up_up.trans cx_49) ?_
      refine am_goto eL_tower_10 ?_
      refine am_iconst eL_tower_21 ?_
      refine am_ireturn eL_tower_22 rfl trivial (by omega) (by omega) ?_
      exact lx_ok h0
    · cases e1
  · obtain ⟨rfl, ⟨h0, e1⟩ | ⟨i, e, hi, hc, e1⟩⟩ := hq
    · cases e1
    · cases e1
      rcases i with _ | _ | i
      · cases hi
        refine am_catch (i := 0) (x := 1) (j := 4) rfl (by decide) ⟨by decide, by decide⟩ (fun z hz => by cases hz) (by decide) (am_ux 205 (by decide +kernel) rfl) x_cst1 (Or.inl eL_tower_13) (by decide) ?_
        refine am_iconst eL_tower_15 ?_
        refine am_ireturn eL_tower_16 rfl trivial (by omega) (by omega) ?_
        exact lx_no (hc.trans (by decide)) (by decide)
      · cases hi
        refine am_catch (i := 1) (x := 2) (j := 4) rfl (by decide) ⟨by decide, by decide⟩ (fun z hz => by
            have hz' : z ∈ [(0, 10, 13, 13)] := hz
            simp only [List.mem_cons, List.not_mem_nil, or_false] at hz'
            rcases hz' with rfl
            · exact ⟨by decide, 1, by decide, by decide, am_ux 205 (by decide +kernel) rfl⟩) (by decide) (am_ux 206 (by decide +kernel) rfl) x_cst2 (Or.inl eL_tower_17) (by decide) ?_
        refine am_iconst eL_tower_19 ?_
        refine am_ireturn eL_tower_20 rfl trivial (by omega) (by omega) ?_
        exact lx_no (hc.trans (by decide)) (by decide)
      · simp at hi
set_option maxRecDepth 100000 in
set_option maxHeartbeats 4000000 in
theorem c_L_hill {G : am_G} {m x c : sg_S} {p0 p1 p2 a : Int} {mc ms : Nat} (hC : am_Con G yX8_hill wX8_hill 7 mc ms [am_R (8, 0), am_I p0, am_I p1, am_I p2] (en_h m x) (am_tx [0, 1, 2] (c 0 0) a (en_h m c))) (hra : am_r a) : am_Con G yL_hill wL_hill 8 mc ms [am_R (8, 0), am_I p0, am_I p1, am_I p2, am_R (98, 0)] (en_h m x) (am_is (am_I (c 0 0)) (en_h m (lx_w c a))) := by
  refine am_ofH (Y := mL_hill) (by decide +kernel) rfl (fun z => by cases z) (fun v hv => List.all_eq_true.mp rfl v hv) (Nat.le_of_ble_eq_true rfl) fun X => ?_
  refine am_aload eL_hill_0 rfl ?_
  refine am_iconst eL_hill_2 ?_
  refine am_aload_n eL_hill_3 rfl ?_
  refine am_iload_n eL_hill_4 rfl ?_
  refine am_iload_n eL_hill_5 rfl ?_
  refine am_iload_n eL_hill_6 rfl ?_
  refine am_callV (st := [am_I 0, am_R (98, 0)]) eL_hill_7 kL_17 hC rfl rfl en_c8 (by decide) (Nat.le_of_ble_eq_true rfl) (by simp) (by omega) (by omega) (fun r h' hq => ?_) (fun e h' hq => ?_)
  · obtain ⟨rfl, ⟨h0, e1⟩ | ⟨i, e, -, -, e1⟩⟩ := hq
    · cases e1
      refine am_i2l hra eL_hill_10 ?_
      refine am_last (len := 1) eL_hill_11 en_98 (by decide) (by decide) (by decide) ?_
      refine am_aext (g := fun _ => am_J a) am_up_eq (fun j hj => by
          obtain rfl : j = 0 := by omega
          rfl) ?_
      refine am_heq (h' := en_h m (st c 49 0 a)) (am_up_up.trans cx_49) ?_
      refine am_goto eL_hill_12 ?_
      refine am_iconst eL_hill_27 ?_
      refine am_ireturn eL_hill_28 rfl trivial (by omega) (by omega) ?_
      exact lx_ok h0
    · cases e1
  · obtain ⟨rfl, ⟨h0, e1⟩ | ⟨i, e, hi, hc, e1⟩⟩ := hq
    · cases e1
    · cases e1
      rcases i with _ | _ | _ | i
      · cases hi
        refine am_catch (i := 0) (x := 0) (j := 5) rfl (by decide) ⟨by decide, by decide⟩ (fun z hz => by cases hz) (by decide) (am_ux 394 (by decide +kernel) rfl) x_cst0 (Or.inl eL_hill_15) (by decide) ?_
        refine am_iconst eL_hill_17 ?_
        refine am_ireturn eL_hill_18 rfl trivial (by omega) (by omega) ?_
        exact lx_no (hc.trans (by decide)) (by decide)
      · cases hi
        refine am_catch (i := 1) (x := 1) (j := 5) rfl (by decide) ⟨by decide, by decide⟩ (fun z hz => by
            have hz' : z ∈ [(0, 12, 15, 21)] := hz
            simp only [List.mem_cons, List.not_mem_nil, or_false] at hz'
            rcases hz' with rfl
            · exact ⟨by decide, 0, by decide, by decide, am_ux 394 (by decide +kernel) rfl⟩) (by decide) (am_ux 205 (by decide +kernel) rfl) x_cst1 (Or.inl eL_hill_19) (by decide) ?_
        refine am_iconst eL_hill_21 ?_
        refine am_ireturn eL_hill_22 rfl trivial (by omega) (by omega) ?_
        exact lx_no (hc.trans (by decide)) (by decide)
      · cases hi
        refine am_catch (i := 2) (x := 2) (j := 5) rfl (by decide) ⟨by decide, by decide⟩ (fun z hz => by
            have hz' : z ∈ [(0, 12, 15, 21), (0, 12, 19, 13)] := hz
            simp only [List.mem_cons, List.not_mem_nil, or_false] at hz'
            rcases hz' with rfl | rfl
            · exact ⟨by decide, 0, by decide, by decide, am_ux 394 (by decide +kernel) rfl⟩
            · exact ⟨by decide, 1, by decide, by decide, am_ux 205 (by decide +kernel) rfl⟩) (by decide) (am_ux 206 (by decide +kernel) rfl) x_cst2 (Or.inl eL_hill_23) (by decide) ?_
        refine am_iconst eL_hill_25 ?_
        refine am_ireturn eL_hill_26 rfl trivial (by omega) (by omega) ?_
        exact lx_no (hc.trans (by decide)) (by decide)
      · simp at hi
set_option maxRecDepth 100000 in
set_option maxHeartbeats 4000000 in
theorem c_L_air {G : am_G} {m x c : sg_S} {p0 p1 a : Int} {mc ms : Nat} (hC : am_Con G yX8_air wX8_air 7 mc ms [am_R (8, 0), am_I p0, am_I p1] (en_h m x) (am_tx [0, 1] (c 0 0) a (en_h m c))) (hra : am_r a) : am_Con G yL_air wL_air 8 mc ms [am_R (8, 0), am_I p0, am_I p1, am_R (98, 0)] (en_h m x) (am_is (am_I (c 0 0)) (en_h m (lx_w c a))) := by
  refine am_ofH (Y := mL_air) (by decide +kernel) rfl (fun z => by cases z) (fun v hv => List.all_eq_true.mp rfl v hv) (Nat.le_of_ble_eq_true rfl) fun X => ?_
  refine am_aload_n eL_air_0 rfl ?_
  refine am_iconst eL_air_1 ?_
  refine am_aload_n eL_air_2 rfl ?_
  refine am_iload_n eL_air_3 rfl ?_
  refine am_iload_n eL_air_4 rfl ?_
  refine am_callV (st := [am_I 0, am_R (98, 0)]) eL_air_5 kL_23 hC rfl rfl en_c8 (by decide) (Nat.le_of_ble_eq_true rfl) (by simp) (by omega) (by omega) (fun r h' hq => ?_) (fun e h' hq => ?_)
  · obtain ⟨rfl, ⟨h0, e1⟩ | ⟨i, e, -, -, e1⟩⟩ := hq
    · cases e1
      refine am_i2l hra eL_air_8 ?_
      refine am_last (len := 1) eL_air_9 en_98 (by decide) (by decide) (by decide) ?_
      refine am_aext (g := fun _ => am_J a) am_up_eq (fun j hj => by
          obtain rfl : j = 0 := by omega
          rfl) ?_
      refine am_heq (h' := en_h m (st c 49 0 a)) (am_up_up.trans cx_49) ?_
      refine am_goto eL_air_10 ?_
      refine am_iconst eL_air_21 ?_
      refine am_ireturn eL_air_22 rfl trivial (by omega) (by omega) ?_
      exact lx_ok h0
    · cases e1
  · obtain ⟨rfl, ⟨h0, e1⟩ | ⟨i, e, hi, hc, e1⟩⟩ := hq
    · cases e1
    · cases e1
      rcases i with _ | _ | i
      · cases hi
        refine am_catch (i := 0) (x := 0) (j := 4) rfl (by decide) ⟨by decide, by decide⟩ (fun z hz => by cases hz) (by decide) (am_ux 394 (by decide +kernel) rfl) x_cst0 (Or.inl eL_air_13) (by decide) ?_
        refine am_iconst eL_air_15 ?_
        refine am_ireturn eL_air_16 rfl trivial (by omega) (by omega) ?_
        exact lx_no (hc.trans (by decide)) (by decide)
      · cases hi
        refine am_catch (i := 1) (x := 1) (j := 4) rfl (by decide) ⟨by decide, by decide⟩ (fun z hz => by
            have hz' : z ∈ [(0, 10, 13, 21)] := hz
            simp only [List.mem_cons, List.not_mem_nil, or_false] at hz'
            rcases hz' with rfl
            · exact ⟨by decide, 0, by decide, by decide, am_ux 394 (by decide +kernel) rfl⟩) (by decide) (am_ux 205 (by decide +kernel) rfl) x_cst1 (Or.inl eL_air_17) (by decide) ?_
        refine am_iconst eL_air_19 ?_
        refine am_ireturn eL_air_20 rfl trivial (by omega) (by omega) ?_
        exact lx_no (hc.trans (by decide)) (by decide)
      · simp at hi
set_option maxRecDepth 100000 in
set_option maxHeartbeats 4000000 in
theorem c_L_tire {G : am_G} {m x c : sg_S} {p0 p1 a : Int} {mc ms : Nat} (hC : am_Con G yX8_tire wX8_tire 7 mc ms [am_R (8, 0), am_I p0, am_I p1] (en_h m x) (am_tx [0, 1] (c 0 0) a (en_h m c))) (hra : am_r a) : am_Con G yL_tire wL_tire 8 mc ms [am_R (8, 0), am_I p0, am_I p1, am_R (98, 0)] (en_h m x) (am_is (am_I (c 0 0)) (en_h m (lx_w c a))) := by
  refine am_ofH (Y := mL_tire) (by decide +kernel) rfl (fun z => by cases z) (fun v hv => List.all_eq_true.mp rfl v hv) (Nat.le_of_ble_eq_true rfl) fun X => ?_
  refine am_aload_n eL_tire_0 rfl ?_
  refine am_iconst eL_tire_1 ?_
  refine am_aload_n eL_tire_2 rfl ?_
  refine am_iload_n eL_tire_3 rfl ?_
  refine am_iload_n eL_tire_4 rfl ?_
  refine am_callV (st := [am_I 0, am_R (98, 0)]) eL_tire_5 kL_26 hC rfl rfl en_c8 (by decide) (Nat.le_of_ble_eq_true rfl) (by simp) (by omega) (by omega) (fun r h' hq => ?_) (fun e h' hq => ?_)
  · obtain ⟨rfl, ⟨h0, e1⟩ | ⟨i, e, -, -, e1⟩⟩ := hq
    · cases e1
      refine am_i2l hra eL_tire_8 ?_
      refine am_last (len := 1) eL_tire_9 en_98 (by decide) (by decide) (by decide) ?_
      refine am_aext (g := fun _ => am_J a) am_up_eq (fun j hj => by
          obtain rfl : j = 0 := by omega
          rfl) ?_
      refine am_heq (h' := en_h m (st c 49 0 a)) (am_up_up.trans cx_49) ?_
      refine am_goto eL_tire_10 ?_
      refine am_iconst eL_tire_21 ?_
      refine am_ireturn eL_tire_22 rfl trivial (by omega) (by omega) ?_
      exact lx_ok h0
    · cases e1
  · obtain ⟨rfl, ⟨h0, e1⟩ | ⟨i, e, hi, hc, e1⟩⟩ := hq
    · cases e1
    · cases e1
      rcases i with _ | _ | i
      · cases hi
        refine am_catch (i := 0) (x := 0) (j := 4) rfl (by decide) ⟨by decide, by decide⟩ (fun z hz => by cases hz) (by decide) (am_ux 394 (by decide +kernel) rfl) x_cst0 (Or.inl eL_tire_13) (by decide) ?_
        refine am_iconst eL_tire_15 ?_
        refine am_ireturn eL_tire_16 rfl trivial (by omega) (by omega) ?_
        exact lx_no (hc.trans (by decide)) (by decide)
      · cases hi
        refine am_catch (i := 1) (x := 1) (j := 4) rfl (by decide) ⟨by decide, by decide⟩ (fun z hz => by
            have hz' : z ∈ [(0, 10, 13, 21)] := hz
            simp only [List.mem_cons, List.not_mem_nil, or_false] at hz'
            rcases hz' with rfl
            · exact ⟨by decide, 0, by decide, by decide, am_ux 394 (by decide +kernel) rfl⟩) (by decide) (am_ux 205 (by decide +kernel) rfl) x_cst1 (Or.inl eL_tire_17) (by decide) ?_
        refine am_iconst eL_tire_19 ?_
        refine am_ireturn eL_tire_20 rfl trivial (by omega) (by omega) ?_
        exact lx_no (hc.trans (by decide)) (by decide)
      · simp at hi
set_option maxRecDepth 100000 in
set_option maxHeartbeats 4000000 in
theorem c_L_seed {G : am_G} {m x c : sg_S} {p0 a : Int} {mc ms : Nat} (hC : am_Con G yX8_seed wX8_seed 7 mc ms [am_R (8, 0), am_I p0] (en_h m x) (am_tx [1] (c 0 0) a (en_h m c))) (hra : am_r a) : am_Con G yL_seed wL_seed 8 mc ms [am_R (8, 0), am_I p0, am_R (98, 0)] (en_h m x) (am_is (am_I (c 0 0)) (en_h m (lx_w c a))) := by
  refine am_ofH (Y := mL_seed) (by decide +kernel) rfl (fun z => by cases z) (fun v hv => List.all_eq_true.mp rfl v hv) (Nat.le_of_ble_eq_true rfl) fun X => ?_
  refine am_aload_n eL_seed_0 rfl ?_
  refine am_iconst eL_seed_1 ?_
  refine am_aload_n eL_seed_2 rfl ?_
  refine am_iload_n eL_seed_3 rfl ?_
  refine am_callV (st := [am_I 0, am_R (98, 0)]) eL_seed_4 kL_29 hC rfl rfl en_c8 (by decide) (Nat.le_of_ble_eq_true rfl) (by simp) (by omega) (by omega) (fun r h' hq => ?_) (fun e h' hq => ?_)
  · obtain ⟨rfl, ⟨h0, e1⟩ | ⟨i, e, -, -, e1⟩⟩ := hq
    · cases e1
      refine am_i2l hra eL_seed_7 ?_
      refine am_last (len := 1) eL_seed_8 en_98 (by decide) (by decide) (by decide) ?_
      refine am_aext (g := fun _ => am_J a) am_up_eq (fun j hj => by
          obtain rfl : j = 0 := by omega
          rfl) ?_
      refine am_heq (h' := en_h m (st c 49 0 a)) (am_up_up.trans cx_49) ?_
      refine am_goto eL_seed_9 ?_
      refine am_iconst eL_seed_15 ?_
      refine am_ireturn eL_seed_16 rfl trivial (by omega) (by omega) ?_
      exact lx_ok h0
    · cases e1
  · obtain ⟨rfl, ⟨h0, e1⟩ | ⟨i, e, hi, hc, e1⟩⟩ := hq
    · cases e1
    · cases e1
      rcases i with _ | i
      · cases hi
        refine am_catch (i := 0) (x := 1) (j := 3) rfl (by decide) ⟨by decide, by decide⟩ (fun z hz => by cases hz) (by decide) (am_ux 205 (by decide +kernel) rfl) x_cst1 (Or.inr ⟨3, rfl, eL_seed_12⟩) (by decide) ?_
        refine am_iconst eL_seed_13 ?_
        refine am_ireturn eL_seed_14 rfl trivial (by omega) (by omega) ?_
        exact lx_no (hc.trans (by decide)) (by decide)
      · simp at hi
set_option maxRecDepth 100000 in
set_option maxHeartbeats 4000000 in
theorem c_L_write {G : am_G} {m x c : sg_S} {p0 p1 p2 p3 a : Int} {mc ms : Nat} (hC : am_Con G yX8_write wX8_write 7 mc ms [am_R (8, 0), am_I p0, am_I p1, am_I p2, am_I p3] (en_h m x) (am_tx [0, 1, 2] (c 0 0) a (en_h m c))) (hra : am_r a) : am_Con G yL_write wL_write 8 mc ms [am_R (8, 0), am_I p0, am_I p1, am_I p2, am_I p3, am_R (98, 0)] (en_h m x) (am_is (am_I (c 0 0)) (en_h m (lx_w c a))) := by
  refine am_ofH (Y := mL_write) (by decide +kernel) rfl (fun z => by cases z) (fun v hv => List.all_eq_true.mp rfl v hv) (Nat.le_of_ble_eq_true rfl) fun X => ?_
  refine am_aload eL_write_0 rfl ?_
  refine am_iconst eL_write_2 ?_
  refine am_aload_n eL_write_3 rfl ?_
  refine am_iload_n eL_write_4 rfl ?_
  refine am_iload_n eL_write_5 rfl ?_
  refine am_iload_n eL_write_6 rfl ?_
  refine am_iload eL_write_7 rfl ?_
  refine am_callV (st := [am_I 0, am_R (98, 0)]) eL_write_9 kL_33 hC rfl rfl en_c8 (by decide) (Nat.le_of_ble_eq_true rfl) (by simp) (by omega) (by omega) (fun r h' hq => ?_) (fun e h' hq => ?_)
  · obtain ⟨rfl, ⟨h0, e1⟩ | ⟨i, e, -, -, e1⟩⟩ := hq
    · cases e1
      refine am_i2l hra eL_write_12 ?_
      refine am_last (len := 1) eL_write_13 en_98 (by decide) (by decide) (by decide) ?_
      refine am_aext (g := fun _ => am_J a) am_up_eq (fun j hj => by
          obtain rfl : j = 0 := by omega
          rfl) ?_
      refine am_heq (h' := en_h m (st c 49 0 a)) (am_up_up.trans cx_49) ?_
      refine am_goto eL_write_14 ?_
      refine am_iconst eL_write_29 ?_
      refine am_ireturn eL_write_30 rfl trivial (by omega) (by omega) ?_
      exact lx_ok h0
    · cases e1
  · obtain ⟨rfl, ⟨h0, e1⟩ | ⟨i, e, hi, hc, e1⟩⟩ := hq
    · cases e1
    · cases e1
      rcases i with _ | _ | _ | i
      · cases hi
        refine am_catch (i := 0) (x := 0) (j := 6) rfl (by decide) ⟨by decide, by decide⟩ (fun z hz => by cases hz) (by decide) (am_ux 394 (by decide +kernel) rfl) x_cst0 (Or.inl eL_write_17) (by decide) ?_
        refine am_iconst eL_write_19 ?_
        refine am_ireturn eL_write_20 rfl trivial (by omega) (by omega) ?_
        exact lx_no (hc.trans (by decide)) (by decide)
      · cases hi
        refine am_catch (i := 1) (x := 1) (j := 6) rfl (by decide) ⟨by decide, by decide⟩ (fun z hz => by
            have hz' : z ∈ [(0, 14, 17, 21)] := hz
            simp only [List.mem_cons, List.not_mem_nil, or_false] at hz'
            rcases hz' with rfl
            · exact ⟨by decide, 0, by decide, by decide, am_ux 394 (by decide +kernel) rfl⟩) (by decide) (am_ux 205 (by decide +kernel) rfl) x_cst1 (Or.inl eL_write_21) (by decide) ?_
        refine am_iconst eL_write_23 ?_
        refine am_ireturn eL_write_24 rfl trivial (by omega) (by omega) ?_
        exact lx_no (hc.trans (by decide)) (by decide)
      · cases hi
        refine am_catch (i := 2) (x := 2) (j := 6) rfl (by decide) ⟨by decide, by decide⟩ (fun z hz => by
            have hz' : z ∈ [(0, 14, 17, 21), (0, 14, 21, 13)] := hz
            simp only [List.mem_cons, List.not_mem_nil, or_false] at hz'
            rcases hz' with rfl | rfl
            · exact ⟨by decide, 0, by decide, by decide, am_ux 394 (by decide +kernel) rfl⟩
            · exact ⟨by decide, 1, by decide, by decide, am_ux 205 (by decide +kernel) rfl⟩) (by decide) (am_ux 206 (by decide +kernel) rfl) x_cst2 (Or.inl eL_write_25) (by decide) ?_
        refine am_iconst eL_write_27 ?_
        refine am_ireturn eL_write_28 rfl trivial (by omega) (by omega) ?_
        exact lx_no (hc.trans (by decide)) (by decide)
      · simp at hi
set_option maxRecDepth 100000 in
set_option maxHeartbeats 4000000 in
theorem c_L_type {G : am_G} {m x c : sg_S} {p0 a : Int} {mc ms : Nat} (hC : am_Con G yX8_type wX8_type 7 mc ms [am_R (8, 0), am_I p0] (en_h m x) (am_tx [1, 2] (c 0 0) a (en_h m c))) (hra : am_r a) : am_Con G yL_type wL_type 8 mc ms [am_R (8, 0), am_I p0, am_R (98, 0)] (en_h m x) (am_is (am_I (c 0 0)) (en_h m (lx_w c a))) := by
  refine am_ofH (Y := mL_type) (by decide +kernel) rfl (fun z => by cases z) (fun v hv => List.all_eq_true.mp rfl v hv) (Nat.le_of_ble_eq_true rfl) fun X => ?_
  refine am_aload_n eL_type_0 rfl ?_
  refine am_iconst eL_type_1 ?_
  refine am_aload_n eL_type_2 rfl ?_
  refine am_iload_n eL_type_3 rfl ?_
  refine am_callV (st := [am_I 0, am_R (98, 0)]) eL_type_4 kL_37 hC rfl rfl en_c8 (by decide) (Nat.le_of_ble_eq_true rfl) (by simp) (by omega) (by omega) (fun r h' hq => ?_) (fun e h' hq => ?_)
  · obtain ⟨rfl, ⟨h0, e1⟩ | ⟨i, e, -, -, e1⟩⟩ := hq
    · cases e1
      refine am_i2l hra eL_type_7 ?_
      refine am_last (len := 1) eL_type_8 en_98 (by decide) (by decide) (by decide) ?_
      refine am_aext (g := fun _ => am_J a) am_up_eq (fun j hj => by
          obtain rfl : j = 0 := by omega
          rfl) ?_
      refine am_heq (h' := en_h m (st c 49 0 a)) (am_up_up.trans cx_49) ?_
      refine am_goto eL_type_9 ?_
      refine am_iconst eL_type_18 ?_
      refine am_ireturn eL_type_19 rfl trivial (by omega) (by omega) ?_
      exact lx_ok h0
    · cases e1
  · obtain ⟨rfl, ⟨h0, e1⟩ | ⟨i, e, hi, hc, e1⟩⟩ := hq
    · cases e1
    · cases e1
      rcases i with _ | _ | i
      · cases hi
        refine am_catch (i := 0) (x := 1) (j := 3) rfl (by decide) ⟨by decide, by decide⟩ (fun z hz => by cases hz) (by decide) (am_ux 205 (by decide +kernel) rfl) x_cst1 (Or.inr ⟨3, rfl, eL_type_12⟩) (by decide) ?_
        refine am_iconst eL_type_13 ?_
        refine am_ireturn eL_type_14 rfl trivial (by omega) (by omega) ?_
        exact lx_no (hc.trans (by decide)) (by decide)
      · cases hi
        refine am_catch (i := 1) (x := 2) (j := 3) rfl (by decide) ⟨by decide, by decide⟩ (fun z hz => by
            have hz' : z ∈ [(0, 9, 12, 13)] := hz
            simp only [List.mem_cons, List.not_mem_nil, or_false] at hz'
            rcases hz' with rfl
            · exact ⟨by decide, 1, by decide, by decide, am_ux 205 (by decide +kernel) rfl⟩) (by decide) (am_ux 206 (by decide +kernel) rfl) x_cst2 (Or.inr ⟨3, rfl, eL_type_15⟩) (by decide) ?_
        refine am_iconst eL_type_16 ?_
        refine am_ireturn eL_type_17 rfl trivial (by omega) (by omega) ?_
        exact lx_no (hc.trans (by decide)) (by decide)
      · simp at hi
set_option maxRecDepth 100000 in
set_option maxHeartbeats 4000000 in
theorem c_L_send {G : am_G} {m x c : sg_S} {p0 p1 p2 a : Int} {mc ms : Nat} (hC : am_Con G yX8_send wX8_send 7 mc ms [am_R (8, 0), am_I p0, am_I p1, am_I p2] (en_h m x) (am_tx [0, 2] (c 0 0) a (en_h m c))) (hra : am_r a) : am_Con G yL_send wL_send 8 mc ms [am_R (8, 0), am_I p0, am_I p1, am_I p2, am_R (98, 0)] (en_h m x) (am_is (am_I (c 0 0)) (en_h m (lx_w c a))) := by
  refine am_ofH (Y := mL_send) (by decide +kernel) rfl (fun z => by cases z) (fun v hv => List.all_eq_true.mp rfl v hv) (Nat.le_of_ble_eq_true rfl) fun X => ?_
  refine am_aload eL_send_0 rfl ?_
  refine am_iconst eL_send_2 ?_
  refine am_aload_n eL_send_3 rfl ?_
  refine am_iload_n eL_send_4 rfl ?_
  refine am_iload_n eL_send_5 rfl ?_
  refine am_iload_n eL_send_6 rfl ?_
  refine am_callV (st := [am_I 0, am_R (98, 0)]) eL_send_7 kL_40 hC rfl rfl en_c8 (by decide) (Nat.le_of_ble_eq_true rfl) (by simp) (by omega) (by omega) (fun r h' hq => ?_) (fun e h' hq => ?_)
  · obtain ⟨rfl, ⟨h0, e1⟩ | ⟨i, e, -, -, e1⟩⟩ := hq
    · cases e1
      refine am_i2l hra eL_send_10 ?_
      refine am_last (len := 1) eL_send_11 en_98 (by decide) (by decide) (by decide) ?_
      refine am_aext (g := fun _ => am_J a) am_up_eq (fun j hj => by
          obtain rfl : j = 0 := by omega
          rfl) ?_
      refine am_heq (h' := en_h m (st c 49 0 a)) (am_up_up.trans cx_49) ?_
      refine am_goto eL_send_12 ?_
      refine am_iconst eL_send_23 ?_
      refine am_ireturn eL_send_24 rfl trivial (by omega) (by omega) ?_
      exact lx_ok h0
    · cases e1
  · obtain ⟨rfl, ⟨h0, e1⟩ | ⟨i, e, hi, hc, e1⟩⟩ := hq
    · cases e1
    · cases e1
      rcases i with _ | _ | i
      · cases hi
        refine am_catch (i := 0) (x := 0) (j := 5) rfl (by decide) ⟨by decide, by decide⟩ (fun z hz => by cases hz) (by decide) (am_ux 394 (by decide +kernel) rfl) x_cst0 (Or.inl eL_send_15) (by decide) ?_
        refine am_iconst eL_send_17 ?_
        refine am_ireturn eL_send_18 rfl trivial (by omega) (by omega) ?_
        exact lx_no (hc.trans (by decide)) (by decide)
      · cases hi
        refine am_catch (i := 1) (x := 2) (j := 5) rfl (by decide) ⟨by decide, by decide⟩ (fun z hz => by
            have hz' : z ∈ [(0, 12, 15, 21)] := hz
            simp only [List.mem_cons, List.not_mem_nil, or_false] at hz'
            rcases hz' with rfl
            · exact ⟨by decide, 0, by decide, by decide, am_ux 394 (by decide +kernel) rfl⟩) (by decide) (am_ux 206 (by decide +kernel) rfl) x_cst2 (Or.inl eL_send_19) (by decide) ?_
        refine am_iconst eL_send_21 ?_
        refine am_ireturn eL_send_22 rfl trivial (by omega) (by omega) ?_
        exact lx_no (hc.trans (by decide)) (by decide)
      · simp at hi
set_option maxRecDepth 100000 in
set_option maxHeartbeats 4000000 in
theorem c_L_mark {G : am_G} {m x c : sg_S} {p0 p1 p2 a : Int} {mc ms : Nat} (hC : am_Con G yX8_mark wX8_mark 7 mc ms [am_R (8, 0), am_I p0, am_I p1, am_I p2] (en_h m x) (am_tx [0, 2] (c 0 0) a (en_h m c))) (hra : am_r a) : am_Con G yL_mark wL_mark 8 mc ms [am_R (8, 0), am_I p0, am_I p1, am_I p2, am_R (98, 0)] (en_h m x) (am_is (am_I (c 0 0)) (en_h m (lx_w c a))) := by
  refine am_ofH (Y := mL_mark) (by decide +kernel) rfl (fun z => by cases z) (fun v hv => List.all_eq_true.mp rfl v hv) (Nat.le_of_ble_eq_true rfl) fun X => ?_
  refine am_aload eL_mark_0 rfl ?_
  refine am_iconst eL_mark_2 ?_
  refine am_aload_n eL_mark_3 rfl ?_
  refine am_iload_n eL_mark_4 rfl ?_
  refine am_iload_n eL_mark_5 rfl ?_
  refine am_iload_n eL_mark_6 rfl ?_
  refine am_callV (st := [am_I 0, am_R (98, 0)]) eL_mark_7 kL_44 hC rfl rfl en_c8 (by decide) (Nat.le_of_ble_eq_true rfl) (by simp) (by omega) (by omega) (fun r h' hq => ?_) (fun e h' hq => ?_)
  · obtain ⟨rfl, ⟨h0, e1⟩ | ⟨i, e, -, -, e1⟩⟩ := hq
    · cases e1
      refine am_i2l hra eL_mark_10 ?_
      refine am_last (len := 1) eL_mark_11 en_98 (by decide) (by decide) (by decide) ?_
      refine am_aext (g := fun _ => am_J a) am_up_eq (fun j hj => by
          obtain rfl : j = 0 := by omega
          rfl) ?_
      refine am_heq (h' := en_h m (st c 49 0 a)) (am_up_up.trans cx_49) ?_
      refine am_goto eL_mark_12 ?_
      refine am_iconst eL_mark_23 ?_
      refine am_ireturn eL_mark_24 rfl trivial (by omega) (by omega) ?_
      exact lx_ok h0
    · cases e1
  · obtain ⟨rfl, ⟨h0, e1⟩ | ⟨i, e, hi, hc, e1⟩⟩ := hq
    · cases e1
    · cases e1
      rcases i with _ | _ | i
      · cases hi
        refine am_catch (i := 0) (x := 0) (j := 5) rfl (by decide) ⟨by decide, by decide⟩ (fun z hz => by cases hz) (by decide) (am_ux 394 (by decide +kernel) rfl) x_cst0 (Or.inl eL_mark_15) (by decide) ?_
        refine am_iconst eL_mark_17 ?_
        refine am_ireturn eL_mark_18 rfl trivial (by omega) (by omega) ?_
        exact lx_no (hc.trans (by decide)) (by decide)
      · cases hi
        refine am_catch (i := 1) (x := 2) (j := 5) rfl (by decide) ⟨by decide, by decide⟩ (fun z hz => by
            have hz' : z ∈ [(0, 12, 15, 21)] := hz
            simp only [List.mem_cons, List.not_mem_nil, or_false] at hz'
            rcases hz' with rfl
            · exact ⟨by decide, 0, by decide, by decide, am_ux 394 (by decide +kernel) rfl⟩) (by decide) (am_ux 206 (by decide +kernel) rfl) x_cst2 (Or.inl eL_mark_19) (by decide) ?_
        refine am_iconst eL_mark_21 ?_
        refine am_ireturn eL_mark_22 rfl trivial (by omega) (by omega) ?_
        exact lx_no (hc.trans (by decide)) (by decide)
      · simp at hi
set_option maxRecDepth 100000 in
set_option maxHeartbeats 4000000 in
theorem c_L_spy {G : am_G} {m x c : sg_S} {p0 a : Int} {mc ms : Nat} (hC : am_Con G yX8_spy wX8_spy 7 mc ms [am_R (8, 0), am_I p0] (en_h m x) (am_tx [0, 2] (c 0 0) a (en_h m c))) (hra : am_r a) : am_Con G yL_spy wL_spy 8 mc ms [am_R (8, 0), am_I p0, am_R (98, 0)] (en_h m x) (am_is (am_I (c 0 0)) (en_h m (lx_w c a))) := by
  refine am_ofH (Y := mL_spy) (by decide +kernel) rfl (fun z => by cases z) (fun v hv => List.all_eq_true.mp rfl v hv) (Nat.le_of_ble_eq_true rfl) fun X => ?_
  refine am_aload_n eL_spy_0 rfl ?_
  refine am_iconst eL_spy_1 ?_
  refine am_aload_n eL_spy_2 rfl ?_
  refine am_iload_n eL_spy_3 rfl ?_
  refine am_callV (st := [am_I 0, am_R (98, 0)]) eL_spy_4 kL_48 hC rfl rfl en_c8 (by decide) (Nat.le_of_ble_eq_true rfl) (by simp) (by omega) (by omega) (fun r h' hq => ?_) (fun e h' hq => ?_)
  · obtain ⟨rfl, ⟨h0, e1⟩ | ⟨i, e, -, -, e1⟩⟩ := hq
    · cases e1
      refine am_i2l hra eL_spy_7 ?_
      refine am_last (len := 1) eL_spy_8 en_98 (by decide) (by decide) (by decide) ?_
      refine am_aext (g := fun _ => am_J a) am_up_eq (fun j hj => by
          obtain rfl : j = 0 := by omega
          rfl) ?_
      refine am_heq (h' := en_h m (st c 49 0 a)) (am_up_up.trans cx_49) ?_
      refine am_goto eL_spy_9 ?_
      refine am_iconst eL_spy_18 ?_
      refine am_ireturn eL_spy_19 rfl trivial (by omega) (by omega) ?_
      exact lx_ok h0
    · cases e1
  · obtain ⟨rfl, ⟨h0, e1⟩ | ⟨i, e, hi, hc, e1⟩⟩ := hq
    · cases e1
    · cases e1
      rcases i with _ | _ | i
      · cases hi
        refine am_catch (i := 0) (x := 0) (j := 3) rfl (by decide) ⟨by decide, by decide⟩ (fun z hz => by cases hz) (by decide) (am_ux 394 (by decide +kernel) rfl) x_cst0 (Or.inr ⟨3, rfl, eL_spy_12⟩) (by decide) ?_
        refine am_iconst eL_spy_13 ?_
        refine am_ireturn eL_spy_14 rfl trivial (by omega) (by omega) ?_
        exact lx_no (hc.trans (by decide)) (by decide)
      · cases hi
        refine am_catch (i := 1) (x := 2) (j := 3) rfl (by decide) ⟨by decide, by decide⟩ (fun z hz => by
            have hz' : z ∈ [(0, 9, 12, 21)] := hz
            simp only [List.mem_cons, List.not_mem_nil, or_false] at hz'
            rcases hz' with rfl
            · exact ⟨by decide, 0, by decide, by decide, am_ux 394 (by decide +kernel) rfl⟩) (by decide) (am_ux 206 (by decide +kernel) rfl) x_cst2 (Or.inr ⟨3, rfl, eL_spy_15⟩) (by decide) ?_
        refine am_iconst eL_spy_16 ?_
        refine am_ireturn eL_spy_17 rfl trivial (by omega) (by omega) ?_
        exact lx_no (hc.trans (by decide)) (by decide)
      · simp at hi
set_option maxRecDepth 100000 in
set_option maxHeartbeats 4000000 in
theorem c_L_pass {G : am_G} {m x c : sg_S} {p0 a : Int} {mc ms : Nat} (hC : am_Con G yX8_pass wX8_pass 7 mc ms [am_R (8, 0), am_I p0] (en_h m x) (am_tx [1] (c 0 0) a (en_h m c))) (hra : am_r a) : am_Con G yL_pass wL_pass 8 mc ms [am_R (8, 0), am_I p0, am_R (98, 0)] (en_h m x) (am_is (am_I (c 0 0)) (en_h m (lx_w c a))) := by
  refine am_ofH (Y := mL_pass) (by decide +kernel) rfl (fun z => by cases z) (fun v hv => List.all_eq_true.mp rfl v hv) (Nat.le_of_ble_eq_true rfl) fun X => ?_
  refine am_aload_n eL_pass_0 rfl ?_
  refine am_iconst eL_pass_1 ?_
  refine am_aload_n eL_pass_2 rfl ?_
  refine am_iload_n eL_pass_3 rfl ?_
  refine am_callV (st := [am_I 0, am_R (98, 0)]) eL_pass_4 kL_51 hC rfl rfl en_c8 (by decide) (Nat.le_of_ble_eq_true rfl) (by simp) (by omega) (by omega) (fun r h' hq => ?_) (fun e h' hq => ?_)
  · obtain ⟨rfl, ⟨h0, e1⟩ | ⟨i, e, -, -, e1⟩⟩ := hq
    · cases e1
      refine am_i2l hra eL_pass_7 ?_
      refine am_last (len := 1) eL_pass_8 en_98 (by decide) (by decide) (by decide) ?_
      refine am_aext (g := fun _ => am_J a) am_up_eq (fun j hj => by
          obtain rfl : j = 0 := by omega
          rfl) ?_
      refine am_heq (h' := en_h m (st c 49 0 a)) (am_up_up.trans cx_49) ?_
      refine am_goto eL_pass_9 ?_
      refine am_iconst eL_pass_15 ?_
      refine am_ireturn eL_pass_16 rfl trivial (by omega) (by omega) ?_
      exact lx_ok h0
    · cases e1
  · obtain ⟨rfl, ⟨h0, e1⟩ | ⟨i, e, hi, hc, e1⟩⟩ := hq
    · cases e1
    · cases e1
      rcases i with _ | i
      · cases hi
        refine am_catch (i := 0) (x := 1) (j := 3) rfl (by decide) ⟨by decide, by decide⟩ (fun z hz => by cases hz) (by decide) (am_ux 205 (by decide +kernel) rfl) x_cst1 (Or.inr ⟨3, rfl, eL_pass_12⟩) (by decide) ?_
        refine am_iconst eL_pass_13 ?_
        refine am_ireturn eL_pass_14 rfl trivial (by omega) (by omega) ?_
        exact lx_no (hc.trans (by decide)) (by decide)
      · simp at hi
set_option maxRecDepth 100000 in
set_option maxHeartbeats 4000000 in
theorem c_L_sees {G : am_G} {m x c : sg_S} {p0 a : Int} {mc ms : Nat} (hC : am_Con G yX8_sees wX8_sees 7 mc ms [am_R (8, 0), am_I p0] (en_h m x) (am_tx [0] (c 0 0) a (en_h m c))) (hra : a = 0 ∨ a = 1) : am_Con G yL_sees wL_sees 8 mc ms [am_R (8, 0), am_I p0, am_R (98, 0)] (en_h m x) (am_is (am_I (c 0 0)) (en_h m (lx_w c a))) := by
  refine am_ofH (Y := mL_sees) (by decide +kernel) rfl (fun z => by cases z) (fun v hv => List.all_eq_true.mp rfl v hv) (Nat.le_of_ble_eq_true rfl) fun X => ?_
  refine am_aload_n eL_sees_0 rfl ?_
  refine am_iconst eL_sees_1 ?_
  refine am_aload_n eL_sees_2 rfl ?_
  refine am_iload_n eL_sees_3 rfl ?_
  refine am_callV (st := [am_I 0, am_R (98, 0)]) eL_sees_4 kL_54 hC rfl rfl en_c8 (by decide) (Nat.le_of_ble_eq_true rfl) (by simp) (by omega) (by omega) (fun r h' hq => ?_) (fun e h' hq => ?_)
  · obtain ⟨rfl, ⟨h0, e1⟩ | ⟨i, e, -, -, e1⟩⟩ := hq
    · cases e1
      rcases hra with rfl | rfl
      · refine am_if_eq ⟨by decide, by decide⟩ eL_sees_7 (fun _ => ?_) (fun z => absurd rfl z)
        refine am_lconst (x := 0) eL_sees_14 ?_
        refine am_steq (st' := am_J 0 :: _) rfl ?_
        refine am_last (len := 1) eL_sees_15 en_98 (by decide) (by decide) (by decide) ?_
        refine am_aext (g := fun _ => am_J 0) am_up_eq (fun j hj => by
            obtain rfl : j = 0 := by omega
            rfl) ?_
        refine am_heq (h' := en_h m (st c 49 0 0)) (am_up_up.trans cx_49) ?_
        refine am_goto eL_sees_16 ?_
        refine am_iconst eL_sees_22 ?_
        refine am_ireturn eL_sees_23 rfl trivial (by omega) (by omega) ?_
        exact lx_ok h0
      · refine am_if_eq ⟨by decide, by decide⟩ eL_sees_7 (fun z => absurd z (by decide)) (fun _ => ?_)
        refine am_lconst (x := 1) eL_sees_10 ?_
        refine am_steq (st' := am_J 1 :: _) rfl ?_
        refine am_goto eL_sees_11 ?_
        refine am_last (len := 1) eL_sees_15 en_98 (by decide) (by decide) (by decide) ?_
        refine am_aext (g := fun _ => am_J 1) am_up_eq (fun j hj => by
            obtain rfl : j = 0 := by omega
            rfl) ?_
        refine am_heq (h' := en_h m (st c 49 0 1)) (am_up_up.trans cx_49) ?_
        refine am_goto eL_sees_16 ?_
        refine am_iconst eL_sees_22 ?_
        refine am_ireturn eL_sees_23 rfl trivial (by omega) (by omega) ?_
        exact lx_ok h0
    · cases e1
  · obtain ⟨rfl, ⟨h0, e1⟩ | ⟨i, e, hi, hc, e1⟩⟩ := hq
    · cases e1
    · cases e1
      rcases i with _ | i
      · cases hi
        refine am_catch (i := 0) (x := 0) (j := 3) rfl (by decide) ⟨by decide, by decide⟩ (fun z hz => by cases hz) (by decide) (am_ux 394 (by decide +kernel) rfl) x_cst0 (Or.inr ⟨3, rfl, eL_sees_19⟩) (by decide) ?_
        refine am_iconst eL_sees_20 ?_
        refine am_ireturn eL_sees_21 rfl trivial (by omega) (by omega) ?_
        exact lx_no (hc.trans (by decide)) (by decide)
      · simp at hi
set_option maxRecDepth 100000 in
set_option maxHeartbeats 4000000 in
theorem c_L_shows {G : am_G} {m x c : sg_S} {p0 p1 a : Int} {mc ms : Nat} (hC : am_Con G yX8_shows wX8_shows 7 mc ms [am_R (8, 0), am_I p0, am_I p1] (en_h m x) (am_tx [0] (c 0 0) a (en_h m c))) (hra : am_r a) : am_Con G yL_shows wL_shows 8 mc ms [am_R (8, 0), am_I p0, am_I p1, am_R (98, 0)] (en_h m x) (am_is (am_I (c 0 0)) (en_h m (lx_w c a))) := by
  refine am_ofH (Y := mL_shows) (by decide +kernel) rfl (fun z => by cases z) (fun v hv => List.all_eq_true.mp rfl v hv) (Nat.le_of_ble_eq_true rfl) fun X => ?_
  refine am_aload_n eL_shows_0 rfl ?_
  refine am_iconst eL_shows_1 ?_
  refine am_aload_n eL_shows_2 rfl ?_
  refine am_iload_n eL_shows_3 rfl ?_
  refine am_iload_n eL_shows_4 rfl ?_
  refine am_callV (st := [am_I 0, am_R (98, 0)]) eL_shows_5 kL_58 hC rfl rfl en_c8 (by decide) (Nat.le_of_ble_eq_true rfl) (by simp) (by omega) (by omega) (fun r h' hq => ?_) (fun e h' hq => ?_)
  · obtain ⟨rfl, ⟨h0, e1⟩ | ⟨i, e, -, -, e1⟩⟩ := hq
    · cases e1
      refine am_i2l hra eL_shows_8 ?_
      refine am_last (len := 1) eL_shows_9 en_98 (by decide) (by decide) (by decide) ?_
      refine am_aext (g := fun _ => am_J a) am_up_eq (fun j hj => by
          obtain rfl : j = 0 := by omega
          rfl) ?_
      refine am_heq (h' := en_h m (st c 49 0 a)) (am_up_up.trans cx_49) ?_
      refine am_goto eL_shows_10 ?_
      refine am_iconst eL_shows_17 ?_
      refine am_ireturn eL_shows_18 rfl trivial (by omega) (by omega) ?_
      exact lx_ok h0
    · cases e1
  · obtain ⟨rfl, ⟨h0, e1⟩ | ⟨i, e, hi, hc, e1⟩⟩ := hq
    · cases e1
    · cases e1
      rcases i with _ | i
      · cases hi
        refine am_catch (i := 0) (x := 0) (j := 4) rfl (by decide) ⟨by decide, by decide⟩ (fun z hz => by cases hz) (by decide) (am_ux 394 (by decide +kernel) rfl) x_cst0 (Or.inl eL_shows_13) (by decide) ?_
        refine am_iconst eL_shows_15 ?_
        refine am_ireturn eL_shows_16 rfl trivial (by omega) (by omega) ?_
        exact lx_no (hc.trans (by decide)) (by decide)
      · simp at hi
set_option maxRecDepth 100000 in
set_option maxHeartbeats 4000000 in
theorem c_L_keeps {G : am_G} {m x c : sg_S} {p0 p1 p2 a : Int} {mc ms : Nat} (hC : am_Con G yX8_keeps wX8_keeps 7 mc ms [am_R (8, 0), am_I p0, am_I p1, am_I p2] (en_h m x) (am_tx [0] (c 0 0) a (en_h m c))) (hra : am_r a) : am_Con G yL_keeps wL_keeps 8 mc ms [am_R (8, 0), am_I p0, am_I p1, am_I p2, am_R (98, 0)] (en_h m x) (am_is (am_I (c 0 0)) (en_h m (lx_w c a))) := by
  refine am_ofH (Y := mL_keeps) (by decide +kernel) rfl (fun z => by cases z) (fun v hv => List.all_eq_true.mp rfl v hv) (Nat.le_of_ble_eq_true rfl) fun X => ?_
  refine am_aload eL_keeps_0 rfl ?_
  refine am_iconst eL_keeps_2 ?_
  refine am_aload_n eL_keeps_3 rfl ?_
  refine am_iload_n eL_keeps_4 rfl ?_
  refine am_iload_n eL_keeps_5 rfl ?_
  refine am_iload_n eL_keeps_6 rfl ?_
  refine am_callV (st := [am_I 0, am_R (98, 0)]) eL_keeps_7 kL_62 hC rfl rfl en_c8 (by decide) (Nat.le_of_ble_eq_true rfl) (by simp) (by omega) (by omega) (fun r h' hq => ?_) (fun e h' hq => ?_)
  · obtain ⟨rfl, ⟨h0, e1⟩ | ⟨i, e, -, -, e1⟩⟩ := hq
    · cases e1
      refine am_i2l hra eL_keeps_10 ?_
      refine am_last (len := 1) eL_keeps_11 en_98 (by decide) (by decide) (by decide) ?_
      refine am_aext (g := fun _ => am_J a) am_up_eq (fun j hj => by
          obtain rfl : j = 0 := by omega
          rfl) ?_
      refine am_heq (h' := en_h m (st c 49 0 a)) (am_up_up.trans cx_49) ?_
      refine am_goto eL_keeps_12 ?_
      refine am_iconst eL_keeps_19 ?_
      refine am_ireturn eL_keeps_20 rfl trivial (by omega) (by omega) ?_
      exact lx_ok h0
    · cases e1
  · obtain ⟨rfl, ⟨h0, e1⟩ | ⟨i, e, hi, hc, e1⟩⟩ := hq
    · cases e1
    · cases e1
      rcases i with _ | i
      · cases hi
        refine am_catch (i := 0) (x := 0) (j := 5) rfl (by decide) ⟨by decide, by decide⟩ (fun z hz => by cases hz) (by decide) (am_ux 394 (by decide +kernel) rfl) x_cst0 (Or.inl eL_keeps_15) (by decide) ?_
        refine am_iconst eL_keeps_17 ?_
        refine am_ireturn eL_keeps_18 rfl trivial (by omega) (by omega) ?_
        exact lx_no (hc.trans (by decide)) (by decide)
      · simp at hi
set_option maxRecDepth 100000 in
set_option maxHeartbeats 4000000 in
theorem c_L_logs {G : am_G} {m x c : sg_S} {p0 p1 a : Int} {mc ms : Nat} (hC : am_Con G yX8_logs wX8_logs 7 mc ms [am_R (8, 0), am_I p0, am_I p1] (en_h m x) (am_tx [0] (c 0 0) a (en_h m c))) (hra : am_r a) : am_Con G yL_logs wL_logs 8 mc ms [am_R (8, 0), am_I p0, am_I p1, am_R (98, 0)] (en_h m x) (am_is (am_I (c 0 0)) (en_h m (lx_w c a))) := by
  refine am_ofH (Y := mL_logs) (by decide +kernel) rfl (fun z => by cases z) (fun v hv => List.all_eq_true.mp rfl v hv) (Nat.le_of_ble_eq_true rfl) fun X => ?_
  refine am_aload_n eL_logs_0 rfl ?_
  refine am_iconst eL_logs_1 ?_
  refine am_aload_n eL_logs_2 rfl ?_
  refine am_iload_n eL_logs_3 rfl ?_
  refine am_iload_n eL_logs_4 rfl ?_
  refine am_callV (st := [am_I 0, am_R (98, 0)]) eL_logs_5 kL_66 hC rfl rfl en_c8 (by decide) (Nat.le_of_ble_eq_true rfl) (by simp) (by omega) (by omega) (fun r h' hq => ?_) (fun e h' hq => ?_)
  · obtain ⟨rfl, ⟨h0, e1⟩ | ⟨i, e, -, -, e1⟩⟩ := hq
    · cases e1
      refine am_i2l hra eL_logs_8 ?_
      refine am_last (len := 1) eL_logs_9 en_98 (by decide) (by decide) (by decide) ?_
      refine am_aext (g := fun _ => am_J a) am_up_eq (fun j hj => by
          obtain rfl : j = 0 := by omega
          rfl) ?_
      refine am_heq (h' := en_h m (st c 49 0 a)) (am_up_up.trans cx_49) ?_
      refine am_goto eL_logs_10 ?_
      refine am_iconst eL_logs_17 ?_
      refine am_ireturn eL_logs_18 rfl trivial (by omega) (by omega) ?_
      exact lx_ok h0
    · cases e1
  · obtain ⟨rfl, ⟨h0, e1⟩ | ⟨i, e, hi, hc, e1⟩⟩ := hq
    · cases e1
    · cases e1
      rcases i with _ | i
      · cases hi
        refine am_catch (i := 0) (x := 0) (j := 4) rfl (by decide) ⟨by decide, by decide⟩ (fun z hz => by cases hz) (by decide) (am_ux 394 (by decide +kernel) rfl) x_cst0 (Or.inl eL_logs_13) (by decide) ?_
        refine am_iconst eL_logs_15 ?_
        refine am_ireturn eL_logs_16 rfl trivial (by omega) (by omega) ?_
        exact lx_no (hc.trans (by decide)) (by decide)
      · simp at hi
set_option maxRecDepth 100000 in
set_option maxHeartbeats 4000000 in
theorem c_L_log {G : am_G} {m x c : sg_S} {p0 p1 p2 p3 a : Int} {mc ms : Nat} (hC : am_Con G yX8_log wX8_log 7 mc ms [am_R (8, 0), am_I p0, am_I p1, am_I p2, am_I p3] (en_h m x) (am_tx [0, 1] (c 0 0) a (en_h m c))) (hra : am_r a) : am_Con G yL_log wL_log 8 mc ms [am_R (8, 0), am_I p0, am_I p1, am_I p2, am_I p3, am_R (98, 0)] (en_h m x) (am_is (am_I (c 0 0)) (en_h m (lx_w c a))) := by
  refine am_ofH (Y := mL_log) (by decide +kernel) rfl (fun z => by cases z) (fun v hv => List.all_eq_true.mp rfl v hv) (Nat.le_of_ble_eq_true rfl) fun X => ?_
  refine am_aload eL_log_0 rfl ?_
  refine am_iconst eL_log_2 ?_
  refine am_aload_n eL_log_3 rfl ?_
  refine am_iload_n eL_log_4 rfl ?_
  refine am_iload_n eL_log_5 rfl ?_
  refine am_iload_n eL_log_6 rfl ?_
  refine am_iload eL_log_7 rfl ?_
  refine am_callV (st := [am_I 0, am_R (98, 0)]) eL_log_9 kL_69 hC rfl rfl en_c8 (by decide) (Nat.le_of_ble_eq_true rfl) (by simp) (by omega) (by omega) (fun r h' hq => ?_) (fun e h' hq => ?_)
  · obtain ⟨rfl, ⟨h0, e1⟩ | ⟨i, e, -, -, e1⟩⟩ := hq
    · cases e1
      refine am_i2l hra eL_log_12 ?_
      refine am_last (len := 1) eL_log_13 en_98 (by decide) (by decide) (by decide) ?_
      refine am_aext (g := fun _ => am_J a) am_up_eq (fun j hj => by
          obtain rfl : j = 0 := by omega
          rfl) ?_
      refine am_heq (h' := en_h m (st c 49 0 a)) (am_up_up.trans cx_49) ?_
      refine am_goto eL_log_14 ?_
      refine am_iconst eL_log_25 ?_
      refine am_ireturn eL_log_26 rfl trivial (by omega) (by omega) ?_
      exact lx_ok h0
    · cases e1
  · obtain ⟨rfl, ⟨h0, e1⟩ | ⟨i, e, hi, hc, e1⟩⟩ := hq
    · cases e1
    · cases e1
      rcases i with _ | _ | i
      · cases hi
        refine am_catch (i := 0) (x := 0) (j := 6) rfl (by decide) ⟨by decide, by decide⟩ (fun z hz => by cases hz) (by decide) (am_ux 394 (by decide +kernel) rfl) x_cst0 (Or.inl eL_log_17) (by decide) ?_
        refine am_iconst eL_log_19 ?_
        refine am_ireturn eL_log_20 rfl trivial (by omega) (by omega) ?_
        exact lx_no (hc.trans (by decide)) (by decide)
      · cases hi
        refine am_catch (i := 1) (x := 1) (j := 6) rfl (by decide) ⟨by decide, by decide⟩ (fun z hz => by
            have hz' : z ∈ [(0, 14, 17, 21)] := hz
            simp only [List.mem_cons, List.not_mem_nil, or_false] at hz'
            rcases hz' with rfl
            · exact ⟨by decide, 0, by decide, by decide, am_ux 394 (by decide +kernel) rfl⟩) (by decide) (am_ux 205 (by decide +kernel) rfl) x_cst1 (Or.inl eL_log_21) (by decide) ?_
        refine am_iconst eL_log_23 ?_
        refine am_ireturn eL_log_24 rfl trivial (by omega) (by omega) ?_
        exact lx_no (hc.trans (by decide)) (by decide)
      · simp at hi
set_option maxRecDepth 100000 in
set_option maxHeartbeats 4000000 in
theorem c_L_differs {G : am_G} {m x c : sg_S} {p0 p1 p2 a : Int} {mc ms : Nat} (hC : am_Con G yX8_differs wX8_differs 7 mc ms [am_R (8, 0), am_I p0, am_I p1, am_I p2] (en_h m x) (am_tx [0] (c 0 0) a (en_h m c))) (hra : am_r a) : am_Con G yL_differs wL_differs 8 mc ms [am_R (8, 0), am_I p0, am_I p1, am_I p2, am_R (98, 0)] (en_h m x) (am_is (am_I (c 0 0)) (en_h m (lx_w c a))) := by
  refine am_ofH (Y := mL_differs) (by decide +kernel) rfl (fun z => by cases z) (fun v hv => List.all_eq_true.mp rfl v hv) (Nat.le_of_ble_eq_true rfl) fun X => ?_
  refine am_aload eL_differs_0 rfl ?_
  refine am_iconst eL_differs_2 ?_
  refine am_aload_n eL_differs_3 rfl ?_
  refine am_iload_n eL_differs_4 rfl ?_
  refine am_iload_n eL_differs_5 rfl ?_
  refine am_iload_n eL_differs_6 rfl ?_
  refine am_callV (st := [am_I 0, am_R (98, 0)]) eL_differs_7 kL_73 hC rfl rfl en_c8 (by decide) (Nat.le_of_ble_eq_true rfl) (by simp) (by omega) (by omega) (fun r h' hq => ?_) (fun e h' hq => ?_)
  · obtain ⟨rfl, ⟨h0, e1⟩ | ⟨i, e, -, -, e1⟩⟩ := hq
    · cases e1
      refine am_i2l hra eL_differs_10 ?_
      refine am_last (len := 1) eL_differs_11 en_98 (by decide) (by decide) (by decide) ?_
      refine am_aext (g := fun _ => am_J a) am_up_eq (fun j hj => by
          obtain rfl : j = 0 := by omega
          rfl) ?_
      refine am_heq (h' := en_h m (st c 49 0 a)) (am_up_up.trans cx_49) ?_
      refine am_goto eL_differs_12 ?_
      refine am_iconst eL_differs_19 ?_
      refine am_ireturn eL_differs_20 rfl trivial (by omega) (by omega) ?_
      exact lx_ok h0
    · cases e1
  · obtain ⟨rfl, ⟨h0, e1⟩ | ⟨i, e, hi, hc, e1⟩⟩ := hq
    · cases e1
    · cases e1
      rcases i with _ | i
      · cases hi
        refine am_catch (i := 0) (x := 0) (j := 5) rfl (by decide) ⟨by decide, by decide⟩ (fun z hz => by cases hz) (by decide) (am_ux 394 (by decide +kernel) rfl) x_cst0 (Or.inl eL_differs_15) (by decide) ?_
        refine am_iconst eL_differs_17 ?_
        refine am_ireturn eL_differs_18 rfl trivial (by omega) (by omega) ?_
        exact lx_no (hc.trans (by decide)) (by decide)
      · simp at hi
set_option maxRecDepth 100000 in
set_option maxHeartbeats 4000000 in
theorem c_L_told {G : am_G} {m x c : sg_S} {p0 p1 p2 a : Int} {mc ms : Nat} (hC : am_Con G yX8_told wX8_told 7 mc ms [am_R (8, 0), am_I p0, am_I p1, am_I p2] (en_h m x) (am_tx [0, 1] (c 0 0) a (en_h m c))) (hra : am_r a) : am_Con G yL_told wL_told 8 mc ms [am_R (8, 0), am_I p0, am_I p1, am_I p2, am_R (98, 0)] (en_h m x) (am_is (am_I (c 0 0)) (en_h m (lx_w c a))) := by
  refine am_ofH (Y := mL_told) (by decide +kernel) rfl (fun z => by cases z) (fun v hv => List.all_eq_true.mp rfl v hv) (Nat.le_of_ble_eq_true rfl) fun X => ?_
  refine am_aload eL_told_0 rfl ?_
  refine am_iconst eL_told_2 ?_
  refine am_aload_n eL_told_3 rfl ?_
  refine am_iload_n eL_told_4 rfl ?_
  refine am_iload_n eL_told_5 rfl ?_
  refine am_iload_n eL_told_6 rfl ?_
  refine am_callV (st := [am_I 0, am_R (98, 0)]) eL_told_7 kL_77 hC rfl rfl en_c8 (by decide) (Nat.le_of_ble_eq_true rfl) (by simp) (by omega) (by omega) (fun r h' hq => ?_) (fun e h' hq => ?_)
  · obtain ⟨rfl, ⟨h0, e1⟩ | ⟨i, e, -, -, e1⟩⟩ := hq
    · cases e1
      refine am_i2l hra eL_told_10 ?_
      refine am_last (len := 1) eL_told_11 en_98 (by decide) (by decide) (by decide) ?_
      refine am_aext (g := fun _ => am_J a) am_up_eq (fun j hj => by
          obtain rfl : j = 0 := by omega
          rfl) ?_
      refine am_heq (h' := en_h m (st c 49 0 a)) (am_up_up.trans cx_49) ?_
      refine am_goto eL_told_12 ?_
      refine am_iconst eL_told_23 ?_
      refine am_ireturn eL_told_24 rfl trivial (by omega) (by omega) ?_
      exact lx_ok h0
    · cases e1
  · obtain ⟨rfl, ⟨h0, e1⟩ | ⟨i, e, hi, hc, e1⟩⟩ := hq
    · cases e1
    · cases e1
      rcases i with _ | _ | i
      · cases hi
        refine am_catch (i := 0) (x := 0) (j := 5) rfl (by decide) ⟨by decide, by decide⟩ (fun z hz => by cases hz) (by decide) (am_ux 394 (by decide +kernel) rfl) x_cst0 (Or.inl eL_told_15) (by decide) ?_
        refine am_iconst eL_told_17 ?_
        refine am_ireturn eL_told_18 rfl trivial (by omega) (by omega) ?_
        exact lx_no (hc.trans (by decide)) (by decide)
      · cases hi
        refine am_catch (i := 1) (x := 1) (j := 5) rfl (by decide) ⟨by decide, by decide⟩ (fun z hz => by
            have hz' : z ∈ [(0, 12, 15, 21)] := hz
            simp only [List.mem_cons, List.not_mem_nil, or_false] at hz'
            rcases hz' with rfl
            · exact ⟨by decide, 0, by decide, by decide, am_ux 394 (by decide +kernel) rfl⟩) (by decide) (am_ux 205 (by decide +kernel) rfl) x_cst1 (Or.inl eL_told_19) (by decide) ?_
        refine am_iconst eL_told_21 ?_
        refine am_ireturn eL_told_22 rfl trivial (by omega) (by omega) ?_
        exact lx_no (hc.trans (by decide)) (by decide)
      · simp at hi
set_option maxRecDepth 100000 in
set_option maxHeartbeats 4000000 in
theorem c_L_phrase {G : am_G} {m x c : sg_S} {p0 p1 p2 p3 a : Int} {mc ms : Nat} (hC : am_Con G yX8_phrase wX8_phrase 7 mc ms [am_R (8, 0), am_I p0, am_I p1, am_I p2, am_I p3] (en_h m x) (am_tx [0] (c 0 0) a (en_h m c))) (hra : am_r a) : am_Con G yL_phrase wL_phrase 8 mc ms [am_R (8, 0), am_I p0, am_I p1, am_I p2, am_I p3, am_R (98, 0)] (en_h m x) (am_is (am_I (c 0 0)) (en_h m (lx_w c a))) := by
  refine am_ofH (Y := mL_phrase) (by decide +kernel) rfl (fun z => by cases z) (fun v hv => List.all_eq_true.mp rfl v hv) (Nat.le_of_ble_eq_true rfl) fun X => ?_
  refine am_aload eL_phrase_0 rfl ?_
  refine am_iconst eL_phrase_2 ?_
  refine am_aload_n eL_phrase_3 rfl ?_
  refine am_iload_n eL_phrase_4 rfl ?_
  refine am_iload_n eL_phrase_5 rfl ?_
  refine am_iload_n eL_phrase_6 rfl ?_
  refine am_iload eL_phrase_7 rfl ?_
  refine am_callV (st := [am_I 0, am_R (98, 0)]) eL_phrase_9 kL_81 hC rfl rfl en_c8 (by decide) (Nat.le_of_ble_eq_true rfl) (by simp) (by omega) (by omega) (fun r h' hq => ?_) (fun e h' hq => ?_)
  · obtain ⟨rfl, ⟨h0, e1⟩ | ⟨i, e, -, -, e1⟩⟩ := hq
    · cases e1
      refine am_i2l hra eL_phrase_12 ?_
      refine am_last (len := 1) eL_phrase_13 en_98 (by decide) (by decide) (by decide) ?_
      refine am_aext (g := fun _ => am_J a) am_up_eq (fun j hj => by
          obtain rfl : j = 0 := by omega
          rfl) ?_
      refine am_heq (h' := en_h m (st c 49 0 a)) (am_up_up.trans cx_49) ?_
      refine am_goto eL_phrase_14 ?_
      refine am_iconst eL_phrase_21 ?_
      refine am_ireturn eL_phrase_22 rfl trivial (by omega) (by omega) ?_
      exact lx_ok h0
    · cases e1
  · obtain ⟨rfl, ⟨h0, e1⟩ | ⟨i, e, hi, hc, e1⟩⟩ := hq
    · cases e1
    · cases e1
      rcases i with _ | i
      · cases hi
        refine am_catch (i := 0) (x := 0) (j := 6) rfl (by decide) ⟨by decide, by decide⟩ (fun z hz => by cases hz) (by decide) (am_ux 394 (by decide +kernel) rfl) x_cst0 (Or.inl eL_phrase_17) (by decide) ?_
        refine am_iconst eL_phrase_19 ?_
        refine am_ireturn eL_phrase_20 rfl trivial (by omega) (by omega) ?_
        exact lx_no (hc.trans (by decide)) (by decide)
      · simp at hi
set_option maxRecDepth 100000 in
set_option maxHeartbeats 4000000 in
theorem c_L_seen {G : am_G} {m x c : sg_S} {p0 a : Int} {mc ms : Nat} (hC : am_Con G yX8_seen wX8_seen 7 mc ms [am_R (8, 0), am_I p0] (en_h m x) (am_tx [0] (c 0 0) a (en_h m c))) (hra : am_r a) : am_Con G yL_seen wL_seen 8 mc ms [am_R (8, 0), am_I p0, am_R (98, 0)] (en_h m x) (am_is (am_I (c 0 0)) (en_h m (lx_w c a))) := by
  refine am_ofH (Y := mL_seen) (by decide +kernel) rfl (fun z => by cases z) (fun v hv => List.all_eq_true.mp rfl v hv) (Nat.le_of_ble_eq_true rfl) fun X => ?_
  refine am_aload_n eL_seen_0 rfl ?_
  refine am_iconst eL_seen_1 ?_
  refine am_aload_n eL_seen_2 rfl ?_
  refine am_iload_n eL_seen_3 rfl ?_
  refine am_callV (st := [am_I 0, am_R (98, 0)]) eL_seen_4 kL_85 hC rfl rfl en_c8 (by decide) (Nat.le_of_ble_eq_true rfl) (by simp) (by omega) (by omega) (fun r h' hq => ?_) (fun e h' hq => ?_)
  · obtain ⟨rfl, ⟨h0, e1⟩ | ⟨i, e, -, -, e1⟩⟩ := hq
    · cases e1
      refine am_i2l hra eL_seen_7 ?_
      refine am_last (len := 1) eL_seen_8 en_98 (by decide) (by decide) (by decide) ?_
      refine am_aext (g := fun _ => am_J a) am_up_eq (fun j hj => by
          obtain rfl : j = 0 := by omega
          rfl) ?_
      refine am_heq (h' := en_h m (st c 49 0 a)) (am_up_up.trans cx_49) ?_
      refine am_goto eL_seen_9 ?_
      refine am_iconst eL_seen_15 ?_
      refine am_ireturn eL_seen_16 rfl trivial (by omega) (by omega) ?_
      exact lx_ok h0
    · cases e1
  · obtain ⟨rfl, ⟨h0, e1⟩ | ⟨i, e, hi, hc, e1⟩⟩ := hq
    · cases e1
    · cases e1
      rcases i with _ | i
      · cases hi
        refine am_catch (i := 0) (x := 0) (j := 3) rfl (by decide) ⟨by decide, by decide⟩ (fun z hz => by cases hz) (by decide) (am_ux 394 (by decide +kernel) rfl) x_cst0 (Or.inr ⟨3, rfl, eL_seen_12⟩) (by decide) ?_
        refine am_iconst eL_seen_13 ?_
        refine am_ireturn eL_seen_14 rfl trivial (by omega) (by omega) ?_
        exact lx_no (hc.trans (by decide)) (by decide)
      · simp at hi
set_option maxRecDepth 100000 in
set_option maxHeartbeats 4000000 in
theorem c_L_tries {G : am_G} {m x c : sg_S} {p0 p1 a : Int} {mc ms : Nat} (hC : am_Con G yX8_tries wX8_tries 7 mc ms [am_R (8, 0), am_I p0, am_I p1] (en_h m x) (am_tx [0] (c 0 0) a (en_h m c))) (hra : am_r a) : am_Con G yL_tries wL_tries 8 mc ms [am_R (8, 0), am_I p0, am_I p1, am_R (98, 0)] (en_h m x) (am_is (am_I (c 0 0)) (en_h m (lx_w c a))) := by
  refine am_ofH (Y := mL_tries) (by decide +kernel) rfl (fun z => by cases z) (fun v hv => List.all_eq_true.mp rfl v hv) (Nat.le_of_ble_eq_true rfl) fun X => ?_
  refine am_aload_n eL_tries_0 rfl ?_
  refine am_iconst eL_tries_1 ?_
  refine am_aload_n eL_tries_2 rfl ?_
  refine am_iload_n eL_tries_3 rfl ?_
  refine am_iload_n eL_tries_4 rfl ?_
  refine am_callV (st := [am_I 0, am_R (98, 0)]) eL_tries_5 kL_88 hC rfl rfl en_c8 (by decide) (Nat.le_of_ble_eq_true rfl) (by simp) (by omega) (by omega) (fun r h' hq => ?_) (fun e h' hq => ?_)
  · obtain ⟨rfl, ⟨h0, e1⟩ | ⟨i, e, -, -, e1⟩⟩ := hq
    · cases e1
      refine am_i2l hra eL_tries_8 ?_
      refine am_last (len := 1) eL_tries_9 en_98 (by decide) (by decide) (by decide) ?_
      refine am_aext (g := fun _ => am_J a) am_up_eq (fun j hj => by
          obtain rfl : j = 0 := by omega
          rfl) ?_
      refine am_heq (h' := en_h m (st c 49 0 a)) (am_up_up.trans cx_49) ?_
      refine am_goto eL_tries_10 ?_
      refine am_iconst eL_tries_17 ?_
      refine am_ireturn eL_tries_18 rfl trivial (by omega) (by omega) ?_
      exact lx_ok h0
    · cases e1
  · obtain ⟨rfl, ⟨h0, e1⟩ | ⟨i, e, hi, hc, e1⟩⟩ := hq
    · cases e1
    · cases e1
      rcases i with _ | i
      · cases hi
        refine am_catch (i := 0) (x := 0) (j := 4) rfl (by decide) ⟨by decide, by decide⟩ (fun z hz => by cases hz) (by decide) (am_ux 394 (by decide +kernel) rfl) x_cst0 (Or.inl eL_tries_13) (by decide) ?_
        refine am_iconst eL_tries_15 ?_
        refine am_ireturn eL_tries_16 rfl trivial (by omega) (by omega) ?_
        exact lx_no (hc.trans (by decide)) (by decide)
      · simp at hi
set_option maxRecDepth 100000 in
set_option maxHeartbeats 4000000 in
theorem c_L_comes {G : am_G} {m x c : sg_S} {p0 a : Int} {mc ms : Nat} (hC : am_Con G yX8_comes wX8_comes 7 mc ms [am_R (8, 0), am_I p0] (en_h m x) (am_tx [1] (c 0 0) a (en_h m c))) (hra : am_r a) : am_Con G yL_comes wL_comes 8 mc ms [am_R (8, 0), am_I p0, am_R (98, 0)] (en_h m x) (am_is (am_I (c 0 0)) (en_h m (lx_w c a))) := by
  refine am_ofH (Y := mL_comes) (by decide +kernel) rfl (fun z => by cases z) (fun v hv => List.all_eq_true.mp rfl v hv) (Nat.le_of_ble_eq_true rfl) fun X => ?_
  refine am_aload_n eL_comes_0 rfl ?_
  refine am_iconst eL_comes_1 ?_
  refine am_aload_n eL_comes_2 rfl ?_
  refine am_iload_n eL_comes_3 rfl ?_
  refine am_callV (st := [am_I 0, am_R (98, 0)]) eL_comes_4 kL_91 hC rfl rfl en_c8 (by decide) (Nat.le_of_ble_eq_true rfl) (by simp) (by omega) (by omega) (fun r h' hq => ?_) (fun e h' hq => ?_)
  · obtain ⟨rfl, ⟨h0, e1⟩ | ⟨i, e, -, -, e1⟩⟩ := hq
    · cases e1
      refine am_i2l hra eL_comes_7 ?_
      refine am_last (len := 1) eL_comes_8 en_98 (by decide) (by decide) (by decide) ?_
      refine am_aext (g := fun _ => am_J a) am_up_eq (fun j hj => by
          obtain rfl : j = 0 := by omega
          rfl) ?_
      refine am_heq (h' := en_h m (st c 49 0 a)) (am_up_up.trans cx_49) ?_
      refine am_goto eL_comes_9 ?_
      refine am_iconst eL_comes_15 ?_
      refine am_ireturn eL_comes_16 rfl trivial (by omega) (by omega) ?_
      exact lx_ok h0
    · cases e1
  · obtain ⟨rfl, ⟨h0, e1⟩ | ⟨i, e, hi, hc, e1⟩⟩ := hq
    · cases e1
    · cases e1
      rcases i with _ | i
      · cases hi
        refine am_catch (i := 0) (x := 1) (j := 3) rfl (by decide) ⟨by decide, by decide⟩ (fun z hz => by cases hz) (by decide) (am_ux 205 (by decide +kernel) rfl) x_cst1 (Or.inr ⟨3, rfl, eL_comes_12⟩) (by decide) ?_
        refine am_iconst eL_comes_13 ?_
        refine am_ireturn eL_comes_14 rfl trivial (by omega) (by omega) ?_
        exact lx_no (hc.trans (by decide)) (by decide)
      · simp at hi
set_option maxRecDepth 100000 in
set_option maxHeartbeats 4000000 in
theorem c_L_comesAnew {G : am_G} {m x c : sg_S} {p0 a : Int} {mc ms : Nat} (hC : am_Con G yX8_comesAnew wX8_comesAnew 7 mc ms [am_R (8, 0), am_I p0] (en_h m x) (am_tx [1] (c 0 0) a (en_h m c))) (hra : am_r a) : am_Con G yL_comesAnew wL_comesAnew 8 mc ms [am_R (8, 0), am_I p0, am_R (98, 0)] (en_h m x) (am_is (am_I (c 0 0)) (en_h m (lx_w c a))) := by
  refine am_ofH (Y := mL_comesAnew) (by decide +kernel) rfl (fun z => by cases z) (fun v hv => List.all_eq_true.mp rfl v hv) (Nat.le_of_ble_eq_true rfl) fun X => ?_
  refine am_aload_n eL_comesAnew_0 rfl ?_
  refine am_iconst eL_comesAnew_1 ?_
  refine am_aload_n eL_comesAnew_2 rfl ?_
  refine am_iload_n eL_comesAnew_3 rfl ?_
  refine am_callV (st := [am_I 0, am_R (98, 0)]) eL_comesAnew_4 kL_94 hC rfl rfl en_c8 (by decide) (Nat.le_of_ble_eq_true rfl) (by simp) (by omega) (by omega) (fun r h' hq => ?_) (fun e h' hq => ?_)
  · obtain ⟨rfl, ⟨h0, e1⟩ | ⟨i, e, -, -, e1⟩⟩ := hq
    · cases e1
      refine am_i2l hra eL_comesAnew_7 ?_
      refine am_last (len := 1) eL_comesAnew_8 en_98 (by decide) (by decide) (by decide) ?_
      refine am_aext (g := fun _ => am_J a) am_up_eq (fun j hj => by
          obtain rfl : j = 0 := by omega
          rfl) ?_
      refine am_heq (h' := en_h m (st c 49 0 a)) (am_up_up.trans cx_49) ?_
      refine am_goto eL_comesAnew_9 ?_
      refine am_iconst eL_comesAnew_15 ?_
      refine am_ireturn eL_comesAnew_16 rfl trivial (by omega) (by omega) ?_
      exact lx_ok h0
    · cases e1
  · obtain ⟨rfl, ⟨h0, e1⟩ | ⟨i, e, hi, hc, e1⟩⟩ := hq
    · cases e1
    · cases e1
      rcases i with _ | i
      · cases hi
        refine am_catch (i := 0) (x := 1) (j := 3) rfl (by decide) ⟨by decide, by decide⟩ (fun z hz => by cases hz) (by decide) (am_ux 205 (by decide +kernel) rfl) x_cst1 (Or.inr ⟨3, rfl, eL_comesAnew_12⟩) (by decide) ?_
        refine am_iconst eL_comesAnew_13 ?_
        refine am_ireturn eL_comesAnew_14 rfl trivial (by omega) (by omega) ?_
        exact lx_no (hc.trans (by decide)) (by decide)
      · simp at hi
