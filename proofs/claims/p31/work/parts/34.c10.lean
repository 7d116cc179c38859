theorem st_cm {σ : sg_S} {f g i j : Nat} {a b : Int} (h : f ≠ g) : st (st σ f i a) g j b = st (st σ g j b) f i a := by
  funext k z
  simp only [st]
  by_cases e : k = g ∧ z = j
  · rw [if_pos e, if_neg (by omega), if_pos e]
  · rw [if_neg e]
    split
    · rfl
    · rfl
theorem sp_turn_c0 {σ : sg_S} {t : Int} {w : Nat} : sp_turn σ t 0 w = if t = 0 ∨ (σ 15 w ≠ -1 ∧ σ 16 w = 0) then σ else if σ 12 w ≤ 0 then st (st σ 16 w 0) 15 w (-1) else sp_turn1 σ w := by
  unfold sp_turn
  rw [if_pos (rfl : (0 : Int) = 0)]
  rfl
theorem sp_turn_c1 {σ : sg_S} {t : Int} {w : Nat} : sp_turn σ t 1 w = if t = σ 3 0 - 1 ∨ (σ 15 w ≠ -1 ∧ σ 16 w = 0) then σ else if σ 12 w ≤ 0 then st (st σ 16 w 0) 15 w (-1) else sp_spyl (sp_turn1 σ w) t (σ 14 (220 * w)) (σ 39 0).toNat := by
  unfold sp_turn
  rw [if_neg (show ¬ (1 : Int) = 0 by decide), if_neg (show ¬ (1 : Int) = 0 by decide)]
theorem sq_turn1 {σ : sg_S} {i : Nat} (h : ¬ σ 12 i ≤ 0) : st (st (sq_rf σ i) 16 i 0) 15 i (σ 14 (220 * i)) = sp_turn1 σ i := by
  unfold sq_rf sp_turn1 sp_turn0
  rw [if_neg (by omega), st_shl (by decide), st_shl (by decide)]
  congr 1
  rw [st_cm (f := 13) (g := 16) (by decide), st_cm (f := 12) (g := 16) (by decide), st_cm (f := 13) (g := 15) (by decide), st_cm (f := 12) (g := 15) (by decide)]
theorem sp_shl_i {σ : sg_S} {w i f j : Nat} (h : f ≠ 14) : sp_shl σ w i f j = σ f j := sp_shl_f h
theorem sq_rf_f {σ : sg_S} {i f j : Nat} (h : f ≠ 12 ∧ f ≠ 13 ∧ f ≠ 14) : sq_rf σ i f j = σ f j := by
  unfold sq_rf
  split
  · rfl
  · rw [sp_shl_f h.2.2, st_nf h.2.1, st_nf h.1]
set_option maxRecDepth 100000 in
set_option maxHeartbeats 4000000 in
theorem c_X8_showNext {G : am_G} {m x : sg_S} {T : Int} (hW : md_wb T x) (hZ : x 39 0 = 0) {t u : Int} {w : Nat} (ht : 0 ≤ t ∧ t < x 3 0) (hb_u : u = 0 ∨ u = 1) (ew : w = 2 * t.toNat + u.toNat) : am_Con G yX8_showNext wX8_showNext 3 0 0 [am_R (8, 0), am_I t, am_I u] (en_h m x) (am_vd (en_h m (sp_turn x t u w))) := by
  refine am_of2 (Y := mX8_showNext) (by decide +kernel) rfl (fun z => by cases z) rfl rfl (Nat.le_of_ble_eq_true rfl) fun X => ?_
  have b3 := wb3 hW 0
  rcases hb_u with rfl | rfl
  · obtain rfl : w = 2 * t.toNat + 0 := ew
    have b12 := wb12 hW (2 * t.toNat + 0)
    have b16 := wb16 hW (2 * t.toNat + 0)
    have b15 := wb15 hW (2 * t.toNat + 0)
    have b14 := wb14 hW (220 * (2 * t.toNat + 0))
    have hWt : ¬ x 12 (2 * t.toNat + 0) ≤ 0 → md_wb T (sp_turn1 x (2 * t.toNat + 0)) := fun z => sp_shl_wb (sp_turn0_wb hW (by omega))
    have hWe : md_wb T (st (st x 16 (2 * t.toNat + 0) 0) 15 (2 * t.toNat + 0) (-1)) := wb_st (wb_st hW (by show (0 : Int) ≤ _; omega) (by show _ ≤ (1 : Int); omega)) (by show (-1 : Int) ≤ _; omega) (by show _ ≤ (96 : Int); omega)
    by_cases cS : x 16 (2 * t.toNat + 0) = 0
    · by_cases c0 : x 12 (2 * t.toNat + 0) ≤ 0
      · have hWt := hWe
        refine am_aload_n eX8_showNext_0 rfl ?_
        refine am_getf eX8_showNext_1 fX8_11 (en_c8 (m := m) (x := x)) rfl ?_
        refine am_iload_n eX8_showNext_4 rfl ?_
        refine am_aald (kd := 3) (x := am_R (7, t.toNat)) eX8_showNext_5 (en_c200 (m := m) (x := x)) (by decide) (by decide) (by omega) (by omega) (by decide) (by rw [show ((t).toNat) = t.toNat by omega]; exact if_pos (by omega)) ?_
        refine am_iload_n eX8_showNext_6 rfl ?_
        refine am_cV eX8_showNext_7 kX8_171 (c_X7_armFor (m := m) (x := x) (T := T) hW (i := t.toNat) (by omega) (u := 0) (Or.inl rfl)) rfl rfl (en_c7 (m := m) (x := x) (i := t.toNat) (by omega)) (by decide) (by decide) (Nat.le_of_ble_eq_true rfl) (Nat.zero_le _) (Nat.zero_le _) ?_
        refine am_steq (st' := am_R (0, 2 * t.toNat + 0) :: _) rfl ?_
        refine am_astore_n eX8_showNext_10 (by decide) ?_
        refine am_aload_n eX8_showNext_11 rfl ?_
        refine am_iload_n eX8_showNext_12 rfl ?_
        refine am_iload_n eX8_showNext_13 rfl ?_
        refine am_cV eX8_showNext_14 kX8_175 (c_X8_isEnd (m := m) (x := x) (T := T) hW (a := t) (u := 0) ⟨by omega, by omega⟩ (Or.inl rfl)) rfl rfl (en_c8 (m := m) (x := x)) (by decide) (by decide) (Nat.le_of_ble_eq_true rfl) (Nat.zero_le _) (Nat.zero_le _) ?_
        refine am_topI (w := bz (decide (t = 0))) (by first | rfl | (simp [st]; done) | (simp [st, st]; done) | simp [show _ = x 3 0 from rfl]) ?_
        refine am_bz_ne eX8_showNext_17 (fun c1 => ?_) (fun c1 => ?_)
        · refine am_return eX8_showNext_28 rfl (Nat.zero_le _) (Nat.zero_le _) ?_
          exact ⟨rfl, congrArg (en_h m) (by rw [sp_turn_c0]; rw [if_pos (by omega)])⟩
        · refine am_aload_n eX8_showNext_20 rfl ?_
          refine am_getf eX8_showNext_21 fX8_209 (en_c0 (m := m) (x := x) (i := (2 * t.toNat + 0)) (by omega)) rfl ?_
          refine am_topI (w := x 15 (2 * t.toNat + 0)) (by exact if_pos cS) ?_
          have b2 := wb15 hW (2 * t.toNat + 0)
          refine am_iconst eX8_showNext_24 ?_
          refine am_icmp_eq ⟨by omega, by omega⟩ ⟨by omega, by omega⟩ eX8_showNext_25 (fun c3 => ?_) (fun c3 => ?_)
          · refine am_aload_n eX8_showNext_29 rfl ?_
            refine am_aload_n eX8_showNext_30 rfl ?_
            refine am_cV eX8_showNext_31 kX8_316 (c_X0_removeFirst (m := m) (x := x) (T := T) hW (i := (2 * t.toNat + 0)) (by omega)) rfl rfl (en_c0 (m := m) (x := x) (i := (2 * t.toNat + 0)) (by omega)) (by decide) (by decide) (Nat.le_of_ble_eq_true rfl) (Nat.zero_le _) (Nat.zero_le _) ?_
            obtain ⟨m4, hm4⟩ : ∃ z, z = sq_rf x (2 * t.toNat + 0) := ⟨_, rfl⟩
            rw [← hm4]
            refine am_topI (w := (-1)) (by unfold aq_rf; first | rw [if_pos (by omega)] | rw [if_neg (by omega)]) ?_
            refine am_putf eX8_showNext_34 fX8_209 rfl (en_c0 (m := m) (x := m4) (i := (2 * t.toNat + 0)) (by rw [hm4, sq_rf_f (by decide)]; omega)) (Nat.le_of_ble_eq_true rfl) trivial (am_heq (cx_show (by rw [hm4, sq_rf_f (by decide)]; omega)) ?_)
            refine am_heq (h' := en_h m (st (st x 16 (2 * t.toNat + 0) 0) 15 (2 * t.toNat + 0) (-1))) (congrArg (en_h m) (by rw [hm4]; unfold sq_rf; rw [if_pos (by omega)])) ?_
            obtain ⟨n5, hn5⟩ : ∃ z, z = st (st x 16 (2 * t.toNat + 0) 0) 15 (2 * t.toNat + 0) (-1) := ⟨_, rfl⟩
            rw [← hn5]
            have hWn5 : md_wb T n5 := by rw [hn5]; exact hWt
            refine am_iload_n eX8_showNext_37 rfl ?_
            refine am_if_eq ⟨by omega, by omega⟩ eX8_showNext_38 (fun _ => ?_) (fun z => absurd z (by decide))
            refine am_return eX8_showNext_58 rfl (Nat.zero_le _) (Nat.zero_le _) ?_
            exact ⟨rfl, congrArg (en_h m) (by first | (rw [hn5]; rw [sp_turn_c0]; rw [if_neg (by omega), if_pos (by omega)]; done) | (exfalso; omega))⟩
          · refine am_return eX8_showNext_28 rfl (Nat.zero_le _) (Nat.zero_le _) ?_
            exact ⟨rfl, congrArg (en_h m) (by rw [sp_turn_c0]; rw [if_pos (by omega)])⟩
      · have hWt := hWt c0
        refine am_aload_n eX8_showNext_0 rfl ?_
        refine am_getf eX8_showNext_1 fX8_11 (en_c8 (m := m) (x := x)) rfl ?_
        refine am_iload_n eX8_showNext_4 rfl ?_
        refine am_aald (kd := 3) (x := am_R (7, t.toNat)) eX8_showNext_5 (en_c200 (m := m) (x := x)) (by decide) (by decide) (by omega) (by omega) (by decide) (by rw [show ((t).toNat) = t.toNat by omega]; exact if_pos (by omega)) ?_
        refine am_iload_n eX8_showNext_6 rfl ?_
        refine am_cV eX8_showNext_7 kX8_171 (c_X7_armFor (m := m) (x := x) (T := T) hW (i := t.toNat) (by omega) (u := 0) (Or.inl rfl)) rfl rfl (en_c7 (m := m) (x := x) (i := t.toNat) (by omega)) (by decide) (by decide) (Nat.le_of_ble_eq_true rfl) (Nat.zero_le _) (Nat.zero_le _) ?_
        refine am_steq (st' := am_R (0, 2 * t.toNat + 0) :: _) rfl ?_
        refine am_astore_n eX8_showNext_10 (by decide) ?_
        refine am_aload_n eX8_showNext_11 rfl ?_
        refine am_iload_n eX8_showNext_12 rfl ?_
        refine am_iload_n eX8_showNext_13 rfl ?_
        refine am_cV eX8_showNext_14 kX8_175 (c_X8_isEnd (m := m) (x := x) (T := T) hW (a := t) (u := 0) ⟨by omega, by omega⟩ (Or.inl rfl)) rfl rfl (en_c8 (m := m) (x := x)) (by decide) (by decide) (Nat.le_of_ble_eq_true rfl) (Nat.zero_le _) (Nat.zero_le _) ?_
        refine am_topI (w := bz (decide (t = 0))) (by first | rfl | (simp [st]; done) | (simp [st, st]; done) | simp [show _ = x 3 0 from rfl]) ?_
        refine am_bz_ne eX8_showNext_17 (fun c1 => ?_) (fun c1 => ?_)
        · refine am_return eX8_showNext_28 rfl (Nat.zero_le _) (Nat.zero_le _) ?_
          exact ⟨rfl, congrArg (en_h m) (by rw [sp_turn_c0]; rw [if_pos (by omega)])⟩
        · refine am_aload_n eX8_showNext_20 rfl ?_
          refine am_getf eX8_showNext_21 fX8_209 (en_c0 (m := m) (x := x) (i := (2 * t.toNat + 0)) (by omega)) rfl ?_
          refine am_topI (w := x 15 (2 * t.toNat + 0)) (by exact if_pos cS) ?_
          have b2 := wb15 hW (2 * t.toNat + 0)
          refine am_iconst eX8_showNext_24 ?_
          refine am_icmp_eq ⟨by omega, by omega⟩ ⟨by omega, by omega⟩ eX8_showNext_25 (fun c3 => ?_) (fun c3 => ?_)
          · refine am_aload_n eX8_showNext_29 rfl ?_
            refine am_aload_n eX8_showNext_30 rfl ?_
            refine am_cV eX8_showNext_31 kX8_316 (c_X0_removeFirst (m := m) (x := x) (T := T) hW (i := (2 * t.toNat + 0)) (by omega)) rfl rfl (en_c0 (m := m) (x := x) (i := (2 * t.toNat + 0)) (by omega)) (by decide) (by decide) (Nat.le_of_ble_eq_true rfl) (Nat.zero_le _) (Nat.zero_le _) ?_
            obtain ⟨m4, hm4⟩ : ∃ z, z = sq_rf x (2 * t.toNat + 0) := ⟨_, rfl⟩
            rw [← hm4]
            refine am_topI (w := x 14 (220 * (2 * t.toNat + 0))) (by unfold aq_rf; first | rw [if_pos (by omega)] | rw [if_neg (by omega)]) ?_
            refine am_putf eX8_showNext_34 fX8_209 rfl (en_c0 (m := m) (x := m4) (i := (2 * t.toNat + 0)) (by rw [hm4, sq_rf_f (by decide)]; omega)) (Nat.le_of_ble_eq_true rfl) trivial (am_heq (cx_show (by rw [hm4, sq_rf_f (by decide)]; omega)) ?_)
            refine am_heq (h' := en_h m (sp_turn1 x (2 * t.toNat + 0))) (congrArg (en_h m) (by rw [hm4]; exact sq_turn1 (by omega))) ?_
            obtain ⟨n5, hn5⟩ : ∃ z, z = sp_turn1 x (2 * t.toNat + 0) := ⟨_, rfl⟩
            rw [← hn5]
            have hWn5 : md_wb T n5 := by rw [hn5]; exact hWt
            refine am_iload_n eX8_showNext_37 rfl ?_
            refine am_if_eq ⟨by omega, by omega⟩ eX8_showNext_38 (fun _ => ?_) (fun z => absurd z (by decide))
            refine am_return eX8_showNext_58 rfl (Nat.zero_le _) (Nat.zero_le _) ?_
            exact ⟨rfl, congrArg (en_h m) (by first | (rw [hn5]; rw [sp_turn_c0]; rw [if_neg (by omega), if_neg (by omega)]; done) | (exfalso; omega))⟩
          · refine am_return eX8_showNext_28 rfl (Nat.zero_le _) (Nat.zero_le _) ?_
            exact ⟨rfl, congrArg (en_h m) (by rw [sp_turn_c0]; rw [if_pos (by omega)])⟩
    · by_cases c0 : x 12 (2 * t.toNat + 0) ≤ 0
      · have hWt := hWe
        refine am_aload_n eX8_showNext_0 rfl ?_
        refine am_getf eX8_showNext_1 fX8_11 (en_c8 (m := m) (x := x)) rfl ?_
        refine am_iload_n eX8_showNext_4 rfl ?_
        refine am_aald (kd := 3) (x := am_R (7, t.toNat)) eX8_showNext_5 (en_c200 (m := m) (x := x)) (by decide) (by decide) (by omega) (by omega) (by decide) (by rw [show ((t).toNat) = t.toNat by omega]; exact if_pos (by omega)) ?_
        refine am_iload_n eX8_showNext_6 rfl ?_
        refine am_cV eX8_showNext_7 kX8_171 (c_X7_armFor (m := m) (x := x) (T := T) hW (i := t.toNat) (by omega) (u := 0) (Or.inl rfl)) rfl rfl (en_c7 (m := m) (x := x) (i := t.toNat) (by omega)) (by decide) (by decide) (Nat.le_of_ble_eq_true rfl) (Nat.zero_le _) (Nat.zero_le _) ?_
        refine am_steq (st' := am_R (0, 2 * t.toNat + 0) :: _) rfl ?_
        refine am_astore_n eX8_showNext_10 (by decide) ?_
        refine am_aload_n eX8_showNext_11 rfl ?_
        refine am_iload_n eX8_showNext_12 rfl ?_
        refine am_iload_n eX8_showNext_13 rfl ?_
        refine am_cV eX8_showNext_14 kX8_175 (c_X8_isEnd (m := m) (x := x) (T := T) hW (a := t) (u := 0) ⟨by omega, by omega⟩ (Or.inl rfl)) rfl rfl (en_c8 (m := m) (x := x)) (by decide) (by decide) (Nat.le_of_ble_eq_true rfl) (Nat.zero_le _) (Nat.zero_le _) ?_
        refine am_topI (w := bz (decide (t = 0))) (by first | rfl | (simp [st]; done) | (simp [st, st]; done) | simp [show _ = x 3 0 from rfl]) ?_
        refine am_bz_ne eX8_showNext_17 (fun c1 => ?_) (fun c1 => ?_)
        · refine am_return eX8_showNext_28 rfl (Nat.zero_le _) (Nat.zero_le _) ?_
          exact ⟨rfl, congrArg (en_h m) (by rw [sp_turn_c0]; rw [if_pos (by omega)])⟩
        · refine am_aload_n eX8_showNext_20 rfl ?_
          refine am_getf eX8_showNext_21 fX8_209 (en_c0 (m := m) (x := x) (i := (2 * t.toNat + 0)) (by omega)) rfl ?_
          refine am_topI (w := -1) (by exact if_neg cS) ?_
          refine am_iconst eX8_showNext_24 ?_
          refine am_icmp_eq ⟨by omega, by omega⟩ ⟨by omega, by omega⟩ eX8_showNext_25 (fun _ => ?_) (fun z => absurd z (by decide))
          refine am_aload_n eX8_showNext_29 rfl ?_
          refine am_aload_n eX8_showNext_30 rfl ?_
          refine am_cV eX8_showNext_31 kX8_316 (c_X0_removeFirst (m := m) (x := x) (T := T) hW (i := (2 * t.toNat + 0)) (by omega)) rfl rfl (en_c0 (m := m) (x := x) (i := (2 * t.toNat + 0)) (by omega)) (by decide) (by decide) (Nat.le_of_ble_eq_true rfl) (Nat.zero_le _) (Nat.zero_le _) ?_
          obtain ⟨m3, hm3⟩ : ∃ z, z = sq_rf x (2 * t.toNat + 0) := ⟨_, rfl⟩
          rw [← hm3]
          refine am_topI (w := (-1)) (by unfold aq_rf; first | rw [if_pos (by omega)] | rw [if_neg (by omega)]) ?_
          refine am_putf eX8_showNext_34 fX8_209 rfl (en_c0 (m := m) (x := m3) (i := (2 * t.toNat + 0)) (by rw [hm3, sq_rf_f (by decide)]; omega)) (Nat.le_of_ble_eq_true rfl) trivial (am_heq (cx_show (by rw [hm3, sq_rf_f (by decide)]; omega)) ?_)
          refine am_heq (h' := en_h m (st (st x 16 (2 * t.toNat + 0) 0) 15 (2 * t.toNat + 0) (-1))) (congrArg (en_h m) (by rw [hm3]; unfold sq_rf; rw [if_pos (by omega)])) ?_
          obtain ⟨n4, hn4⟩ : ∃ z, z = st (st x 16 (2 * t.toNat + 0) 0) 15 (2 * t.toNat + 0) (-1) := ⟨_, rfl⟩
          rw [← hn4]
          have hWn4 : md_wb T n4 := by rw [hn4]; exact hWt
          refine am_iload_n eX8_showNext_37 rfl ?_
          refine am_if_eq ⟨by omega, by omega⟩ eX8_showNext_38 (fun _ => ?_) (fun z => absurd z (by decide))
          refine am_return eX8_showNext_58 rfl (Nat.zero_le _) (Nat.zero_le _) ?_
          exact ⟨rfl, congrArg (en_h m) (by first | (rw [hn4]; rw [sp_turn_c0]; rw [if_neg (by omega), if_pos (by omega)]; done) | (exfalso; omega))⟩
      · have hWt := hWt c0
        refine am_aload_n eX8_showNext_0 rfl ?_
        refine am_getf eX8_showNext_1 fX8_11 (en_c8 (m := m) (x := x)) rfl ?_
        refine am_iload_n eX8_showNext_4 rfl ?_
        refine am_aald (kd := 3) (x := am_R (7, t.toNat)) eX8_showNext_5 (en_c200 (m := m) (x := x)) (by decide) (by decide) (by omega) (by omega) (by decide) (by rw [show ((t).toNat) = t.toNat by omega]; exact if_pos (by omega)) ?_
        refine am_iload_n eX8_showNext_6 rfl ?_
        refine am_cV eX8_showNext_7 kX8_171 (c_X7_armFor (m := m) (x := x) (T := T) hW (i := t.toNat) (by omega) (u := 0) (Or.inl rfl)) rfl rfl (en_c7 (m := m) (x := x) (i := t.toNat) (by omega)) (by decide) (by decide) (Nat.le_of_ble_eq_true rfl) (Nat.zero_le _) (Nat.zero_le _) ?_
        refine am_steq (st' := am_R (0, 2 * t.toNat + 0) :: _) rfl ?_
        refine am_astore_n eX8_showNext_10 (by decide) ?_
        refine am_aload_n eX8_showNext_11 rfl ?_
        refine am_iload_n eX8_showNext_12 rfl ?_
        refine am_iload_n eX8_showNext_13 rfl ?_
        refine am_cV eX8_showNext_14 kX8_175 (c_X8_isEnd (m := m) (x := x) (T := T) hW (a := t) (u := 0) ⟨by omega, by omega⟩ (Or.inl rfl)) rfl rfl (en_c8 (m := m) (x := x)) (by decide) (by decide) (Nat.le_of_ble_eq_true rfl) (Nat.zero_le _) (Nat.zero_le _) ?_
        refine am_topI (w := bz (decide (t = 0))) (by first | rfl | (simp [st]; done) | (simp [st, st]; done) | simp [show _ = x 3 0 from rfl]) ?_
        refine am_bz_ne eX8_showNext_17 (fun c1 => ?_) (fun c1 => ?_)
        · refine am_return eX8_showNext_28 rfl (Nat.zero_le _) (Nat.zero_le _) ?_
          exact ⟨rfl, congrArg (en_h m) (by rw [sp_turn_c0]; rw [if_pos (by omega)])⟩
        · refine am_aload_n eX8_showNext_20 rfl ?_
          refine am_getf eX8_showNext_21 fX8_209 (en_c0 (m := m) (x := x) (i := (2 * t.toNat + 0)) (by omega)) rfl ?_
          refine am_topI (w := -1) (by exact if_neg cS) ?_
          refine am_iconst eX8_showNext_24 ?_
          refine am_icmp_eq ⟨by omega, by omega⟩ ⟨by omega, by omega⟩ eX8_showNext_25 (fun _ => ?_) (fun z => absurd z (by decide))
          refine am_aload_n eX8_showNext_29 rfl ?_
          refine am_aload_n eX8_showNext_30 rfl ?_
          refine am_cV eX8_showNext_31 kX8_316 (c_X0_removeFirst (m := m) (x := x) (T := T) hW (i := (2 * t.toNat + 0)) (by omega)) rfl rfl (en_c0 (m := m) (x := x) (i := (2 * t.toNat + 0)) (by omega)) (by decide) (by decide) (Nat.le_of_ble_eq_true rfl) (Nat.zero_le _) (Nat.zero_le _) ?_
          obtain ⟨m3, hm3⟩ : ∃ z, z = sq_rf x (2 * t.toNat + 0) := ⟨_, rfl⟩
          rw [← hm3]
          refine am_topI (w := x 14 (220 * (2 * t.toNat + 0))) (by unfold aq_rf; first | rw [if_pos (by omega)] | rw [if_neg (by omega)]) ?_
          refine am_putf eX8_showNext_34 fX8_209 rfl (en_c0 (m := m) (x := m3) (i := (2 * t.toNat + 0)) (by rw [hm3, sq_rf_f (by decide)]; omega)) (Nat.le_of_ble_eq_true rfl) trivial (am_heq (cx_show (by rw [hm3, sq_rf_f (by decide)]; omega)) ?_)
          refine am_heq (h' := en_h m (sp_turn1 x (2 * t.toNat + 0))) (congrArg (en_h m) (by rw [hm3]; exact sq_turn1 (by omega))) ?_
          obtain ⟨n4, hn4⟩ : ∃ z, z = sp_turn1 x (2 * t.toNat + 0) := ⟨_, rfl⟩
          rw [← hn4]
          have hWn4 : md_wb T n4 := by rw [hn4]; exact hWt
          refine am_iload_n eX8_showNext_37 rfl ?_
          refine am_if_eq ⟨by omega, by omega⟩ eX8_showNext_38 (fun _ => ?_) (fun z => absurd z (by decide))
          refine am_return eX8_showNext_58 rfl (Nat.zero_le _) (Nat.zero_le _) ?_
          exact ⟨rfl, congrArg (en_h m) (by first | (rw [hn4]; rw [sp_turn_c0]; rw [if_neg (by omega), if_neg (by omega)]; done) | (exfalso; omega))⟩
  · obtain rfl : w = 2 * t.toNat + 1 := ew
    have b12 := wb12 hW (2 * t.toNat + 1)
    have b16 := wb16 hW (2 * t.toNat + 1)
    have b15 := wb15 hW (2 * t.toNat + 1)
    have b14 := wb14 hW (220 * (2 * t.toNat + 1))
    have hWt : ¬ x 12 (2 * t.toNat + 1) ≤ 0 → md_wb T (sp_turn1 x (2 * t.toNat + 1)) := fun z => sp_shl_wb (sp_turn0_wb hW (by omega))
    have hWe : md_wb T (st (st x 16 (2 * t.toNat + 1) 0) 15 (2 * t.toNat + 1) (-1)) := wb_st (wb_st hW (by show (0 : Int) ≤ _; omega) (by show _ ≤ (1 : Int); omega)) (by show (-1 : Int) ≤ _; omega) (by show _ ≤ (96 : Int); omega)
    by_cases cS : x 16 (2 * t.toNat + 1) = 0
    · by_cases c0 : x 12 (2 * t.toNat + 1) ≤ 0
      · have hWt := hWe
        refine am_aload_n eX8_showNext_0 rfl ?_
        refine am_getf eX8_showNext_1 fX8_11 (en_c8 (m := m) (x := x)) rfl ?_
        refine am_iload_n eX8_showNext_4 rfl ?_
        refine am_aald (kd := 3) (x := am_R (7, t.toNat)) eX8_showNext_5 (en_c200 (m := m) (x := x)) (by decide) (by decide) (by omega) (by omega) (by decide) (by rw [show ((t).toNat) = t.toNat by omega]; exact if_pos (by omega)) ?_
        refine am_iload_n eX8_showNext_6 rfl ?_
        refine am_cV eX8_showNext_7 kX8_171 (c_X7_armFor (m := m) (x := x) (T := T) hW (i := t.toNat) (by omega) (u := 1) (Or.inr rfl)) rfl rfl (en_c7 (m := m) (x := x) (i := t.toNat) (by omega)) (by decide) (by decide) (Nat.le_of_ble_eq_true rfl) (Nat.zero_le _) (Nat.zero_le _) ?_
        refine am_steq (st' := am_R (0, 2 * t.toNat + 1) :: _) rfl ?_
        refine am_astore_n eX8_showNext_10 (by decide) ?_
        refine am_aload_n eX8_showNext_11 rfl ?_
        refine am_iload_n eX8_showNext_12 rfl ?_
        refine am_iload_n eX8_showNext_13 rfl ?_
        refine am_cV eX8_showNext_14 kX8_175 (c_X8_isEnd (m := m) (x := x) (T := T) hW (a := t) (u := 1) ⟨by omega, by omega⟩ (Or.inr rfl)) rfl rfl (en_c8 (m := m) (x := x)) (by decide) (by decide) (Nat.le_of_ble_eq_true rfl) (Nat.zero_le _) (Nat.zero_le _) ?_
        refine am_topI (w := bz (decide (t = x 3 0 - 1))) (by first | rfl | (simp [st]; done) | (simp [st, st]; done) | simp [show _ = x 3 0 from rfl]) ?_
        refine am_bz_ne eX8_showNext_17 (fun c1 => ?_) (fun c1 => ?_)
        · refine am_return eX8_showNext_28 rfl (Nat.zero_le _) (Nat.zero_le _) ?_
          exact ⟨rfl, congrArg (en_h m) (by rw [sp_turn_c1]; rw [if_pos (by omega)])⟩
        · refine am_aload_n eX8_showNext_20 rfl ?_
          refine am_getf eX8_showNext_21 fX8_209 (en_c0 (m := m) (x := x) (i := (2 * t.toNat + 1)) (by omega)) rfl ?_
          refine am_topI (w := x 15 (2 * t.toNat + 1)) (by exact if_pos cS) ?_
          have b2 := wb15 hW (2 * t.toNat + 1)
          refine am_iconst eX8_showNext_24 ?_
          refine am_icmp_eq ⟨by omega, by omega⟩ ⟨by omega, by omega⟩ eX8_showNext_25 (fun c3 => ?_) (fun c3 => ?_)
          · refine am_aload_n eX8_showNext_29 rfl ?_
            refine am_aload_n eX8_showNext_30 rfl ?_
            refine am_cV eX8_showNext_31 kX8_316 (c_X0_removeFirst (m := m) (x := x) (T := T) hW (i := (2 * t.toNat + 1)) (by omega)) rfl rfl (en_c0 (m := m) (x := x) (i := (2 * t.toNat + 1)) (by omega)) (by decide) (by decide) (Nat.le_of_ble_eq_true rfl) (Nat.zero_le _) (Nat.zero_le _) ?_
            obtain ⟨m4, hm4⟩ : ∃ z, z = sq_rf x (2 * t.toNat + 1) := ⟨_, rfl⟩
            rw [← hm4]
            refine am_topI (w := (-1)) (by unfold aq_rf; first | rw [if_pos (by omega)] | rw [if_neg (by omega)]) ?_
            refine am_putf eX8_showNext_34 fX8_209 rfl (en_c0 (m := m) (x := m4) (i := (2 * t.toNat + 1)) (by rw [hm4, sq_rf_f (by decide)]; omega)) (Nat.le_of_ble_eq_true rfl) trivial (am_heq (cx_show (by rw [hm4, sq_rf_f (by decide)]; omega)) ?_)
            refine am_heq (h' := en_h m (st (st x 16 (2 * t.toNat + 1) 0) 15 (2 * t.toNat + 1) (-1))) (congrArg (en_h m) (by rw [hm4]; unfold sq_rf; rw [if_pos (by omega)])) ?_
            obtain ⟨n5, hn5⟩ : ∃ z, z = st (st x 16 (2 * t.toNat + 1) 0) 15 (2 * t.toNat + 1) (-1) := ⟨_, rfl⟩
            rw [← hn5]
            have hWn5 : md_wb T n5 := by rw [hn5]; exact hWt
            refine am_iload_n eX8_showNext_37 rfl ?_
            refine am_if_eq ⟨by omega, by omega⟩ eX8_showNext_38 (fun z => absurd z (by decide)) (fun _ => ?_)
            refine am_aload_n eX8_showNext_41 rfl ?_
            refine am_getf eX8_showNext_42 fX8_209 (en_c0 (m := m) (x := n5) (i := (2 * t.toNat + 1)) (by rw [((congrFun (congrFun hn5 3) 0).trans (((st_nf (by decide)).trans (st_nf (by decide))).trans rfl))]; omega)) rfl ?_
            refine am_topI (w := (-1)) (by rw [(show n5 16 (2 * t.toNat + 1) = 0 by rw [hn5]; simp [sp_turn1, sp_turn0, sp_shl, st]), (show n5 15 (2 * t.toNat + 1) = (-1) by rw [hn5]; simp [sp_turn1, sp_turn0, sp_shl, st])]; exact if_pos rfl) ?_
            refine am_iconst eX8_showNext_45 ?_
            refine am_icmp_eq ⟨by omega, by omega⟩ ⟨by omega, by omega⟩ eX8_showNext_46 (fun _ => ?_) (fun z => absurd z (by decide))
            refine am_return eX8_showNext_58 rfl (Nat.zero_le _) (Nat.zero_le _) ?_
            exact ⟨rfl, congrArg (en_h m) (by first | (rw [hn5]; rw [sp_turn_c1]; rw [if_neg (by omega), if_pos (by omega)]; done) | (exfalso; omega))⟩
          · refine am_return eX8_showNext_28 rfl (Nat.zero_le _) (Nat.zero_le _) ?_
            exact ⟨rfl, congrArg (en_h m) (by rw [sp_turn_c1]; rw [if_pos (by omega)])⟩
      · have hWt := hWt c0
        refine am_aload_n eX8_showNext_0 rfl ?_
        refine am_getf eX8_showNext_1 fX8_11 (en_c8 (m := m) (x := x)) rfl ?_
        refine am_iload_n eX8_showNext_4 rfl ?_
        refine am_aald (kd := 3) (x := am_R (7, t.toNat)) eX8_showNext_5 (en_c200 (m := m) (x := x)) (by decide) (by decide) (by omega) (by omega) (by decide) (by rw [show ((t).toNat) = t.toNat by omega]; exact if_pos (by omega)) ?_
        refine am_iload_n eX8_showNext_6 rfl ?_
        refine am_cV eX8_showNext_7 kX8_171 (c_X7_armFor (m := m) (x := x) (T := T) hW (i := t.toNat) (by omega) (u := 1) (Or.inr rfl)) rfl rfl (en_c7 (m := m) (x := x) (i := t.toNat) (by omega)) (by decide) (by decide) (Nat.le_of_ble_eq_true rfl) (Nat.zero_le _) (Nat.zero_le _) ?_
        refine am_steq (st' := am_R (0, 2 * t.toNat + 1) :: _) rfl ?_
        refine am_astore_n eX8_showNext_10 (by decide) ?_
        refine am_aload_n eX8_showNext_11 rfl ?_
        refine am_iload_n eX8_showNext_12 rfl ?_
        refine am_iload_n eX8_showNext_13 rfl ?_
        refine am_cV eX8_showNext_14 kX8_175 (c_X8_isEnd (m := m) (x := x) (T := T) hW (a := t) (u := 1) ⟨by omega, by omega⟩ (Or.inr rfl)) rfl rfl (en_c8 (m := m) (x := x)) (by decide) (by decide) (Nat.le_of_ble_eq_true rfl) (Nat.zero_le _) (Nat.zero_le _) ?_
        refine am_topI (w := bz (decide (t = x 3 0 - 1))) (by first | rfl | (simp [st]; done) | (simp [st, st]; done) | simp [show _ = x 3 0 from rfl]) ?_
        refine am_bz_ne eX8_showNext_17 (fun c1 => ?_) (fun c1 => ?_)
        · refine am_return eX8_showNext_28 rfl (Nat.zero_le _) (Nat.zero_le _) ?_
          exact ⟨rfl, congrArg (en_h m) (by rw [sp_turn_c1]; rw [if_pos (by omega)])⟩
        · refine am_aload_n eX8_showNext_20 rfl ?_
          refine am_getf eX8_showNext_21 fX8_209 (en_c0 (m := m) (x := x) (i := (2 * t.toNat + 1)) (by omega)) rfl ?_
          refine am_topI (w := x 15 (2 * t.toNat + 1)) (by exact if_pos cS) ?_
          have b2 := wb15 hW (2 * t.toNat + 1)
          refine am_iconst eX8_showNext_24 ?_
          refine am_icmp_eq ⟨by omega, by omega⟩ ⟨by omega, by omega⟩ eX8_showNext_25 (fun c3 => ?_) (fun c3 => ?_)
          · refine am_aload_n eX8_showNext_29 rfl ?_
            refine am_aload_n eX8_showNext_30 rfl ?_
            refine am_cV eX8_showNext_31 kX8_316 (c_X0_removeFirst (m := m) (x := x) (T := T) hW (i := (2 * t.toNat + 1)) (by omega)) rfl rfl (en_c0 (m := m) (x := x) (i := (2 * t.toNat + 1)) (by omega)) (by decide) (by decide) (Nat.le_of_ble_eq_true rfl) (Nat.zero_le _) (Nat.zero_le _) ?_
            obtain ⟨m4, hm4⟩ : ∃ z, z = sq_rf x (2 * t.toNat + 1) := ⟨_, rfl⟩
            rw [← hm4]
            refine am_topI (w := x 14 (220 * (2 * t.toNat + 1))) (by unfold aq_rf; first | rw [if_pos (by omega)] | rw [if_neg (by omega)]) ?_
            refine am_putf eX8_showNext_34 fX8_209 rfl (en_c0 (m := m) (x := m4) (i := (2 * t.toNat + 1)) (by rw [hm4, sq_rf_f (by decide)]; omega)) (Nat.le_of_ble_eq_true rfl) trivial (am_heq (cx_show (by rw [hm4, sq_rf_f (by decide)]; omega)) ?_)
            refine am_heq (h' := en_h m (sp_turn1 x (2 * t.toNat + 1))) (congrArg (en_h m) (by rw [hm4]; exact sq_turn1 (by omega))) ?_
            obtain ⟨n5, hn5⟩ : ∃ z, z = sp_turn1 x (2 * t.toNat + 1) := ⟨_, rfl⟩
            rw [← hn5]
            have hWn5 : md_wb T n5 := by rw [hn5]; exact hWt
            refine am_iload_n eX8_showNext_37 rfl ?_
            refine am_if_eq ⟨by omega, by omega⟩ eX8_showNext_38 (fun z => absurd z (by decide)) (fun _ => ?_)
            refine am_aload_n eX8_showNext_41 rfl ?_
            refine am_getf eX8_showNext_42 fX8_209 (en_c0 (m := m) (x := n5) (i := (2 * t.toNat + 1)) (by rw [((congrFun (congrFun hn5 3) 0).trans ((sp_turn1_f (by decide)).trans rfl))]; omega)) rfl ?_
            refine am_topI (w := x 14 (220 * (2 * t.toNat + 1))) (by rw [(show n5 16 (2 * t.toNat + 1) = 0 by rw [hn5]; simp [sp_turn1, sp_turn0, sp_shl, st]), (show n5 15 (2 * t.toNat + 1) = x 14 (220 * (2 * t.toNat + 1)) by rw [hn5]; simp [sp_turn1, sp_turn0, sp_shl, st])]; exact if_pos rfl) ?_
            refine am_iconst eX8_showNext_45 ?_
            refine am_icmp_eq ⟨by omega, by omega⟩ ⟨by omega, by omega⟩ eX8_showNext_46 (fun c7 => ?_) (fun c7 => ?_)
            · refine am_return eX8_showNext_58 rfl (Nat.zero_le _) (Nat.zero_le _) ?_
              exact ⟨rfl, congrArg (en_h m) (by first | (rw [hn5]; rw [sp_turn_c1]; rw [if_neg (by omega), if_neg (by omega)]; done) | (exfalso; omega))⟩
            · refine am_aload_n eX8_showNext_49 rfl ?_
              refine am_iload_n eX8_showNext_50 rfl ?_
              refine am_aload_n eX8_showNext_51 rfl ?_
              refine am_getf eX8_showNext_52 fX8_209 (en_c0 (m := m) (x := n5) (i := (2 * t.toNat + 1)) (by rw [((congrFun (congrFun hn5 3) 0).trans ((sp_turn1_f (by decide)).trans rfl))]; omega)) rfl ?_
              refine am_topI (w := x 14 (220 * (2 * t.toNat + 1))) (by rw [(show n5 16 (2 * t.toNat + 1) = 0 by rw [hn5]; simp [sp_turn1, sp_turn0, sp_shl, st]), (show n5 15 (2 * t.toNat + 1) = x 14 (220 * (2 * t.toNat + 1)) by rw [hn5]; simp [sp_turn1, sp_turn0, sp_shl, st])]; exact if_pos rfl) ?_
              refine am_cV_v eX8_showNext_55 kX8_319 (c_X8_tellSpies (m := m) (x := n5) (T := T) hWn5 (by rw [((congrFun (congrFun hn5 39) 0).trans ((sp_turn1_f (by decide)).trans rfl))]; exact hZ) (t := t) (sg := (x 14 (220 * (2 * t.toNat + 1)))) (by rw [((congrFun (congrFun hn5 3) 0).trans ((sp_turn1_f (by decide)).trans rfl))]; omega) (by omega)) rfl rfl (en_c8 (m := m) (x := n5)) (by decide) (by decide) (Nat.le_of_ble_eq_true rfl) (Nat.zero_le _) (Nat.zero_le _) ?_
              rw [show n5 39 0 = x 39 0 from ((congrFun (congrFun hn5 39) 0).trans ((sp_turn1_f (by decide)).trans rfl))]
              refine am_return eX8_showNext_58 rfl (Nat.zero_le _) (Nat.zero_le _) ?_
              exact ⟨rfl, congrArg (en_h m) (by first | (rw [hn5]; rw [sp_turn_c1]; rw [if_neg (by omega), if_neg (by omega)]; done) | (exfalso; omega))⟩
          · refine am_return eX8_showNext_28 rfl (Nat.zero_le _) (Nat.zero_le _) ?_
            exact ⟨rfl, congrArg (en_h m) (by rw [sp_turn_c1]; rw [if_pos (by omega)])⟩
    · by_cases c0 : x 12 (2 * t.toNat + 1) ≤ 0
      · have hWt := hWe
        refine am_aload_n eX8_showNext_0 rfl ?_
        refine am_getf eX8_showNext_1 fX8_11 (en_c8 (m := m) (x := x)) rfl ?_
        refine am_iload_n eX8_showNext_4 rfl ?_
        refine am_aald (kd := 3) (x := am_R (7, t.toNat)) eX8_showNext_5 (en_c200 (m := m) (x := x)) (by decide) (by decide) (by omega) (by omega) (by decide) (by rw [show ((t).toNat) = t.toNat by omega]; exact if_pos (by omega)) ?_
        refine am_iload_n eX8_showNext_6 rfl ?_
        refine am_cV eX8_showNext_7 kX8_171 (c_X7_armFor (m := m) (x := x) (T := T) hW (i := t.toNat) (by omega) (u := 1) (Or.inr rfl)) rfl rfl (en_c7 (m := m) (x := x) (i := t.toNat) (by omega)) (by decide) (by decide) (Nat.le_of_ble_eq_true rfl) (Nat.zero_le _) (Nat.zero_le _) ?_
        refine am_steq (st' := am_R (0, 2 * t.toNat + 1) :: _) rfl ?_
        refine am_astore_n eX8_showNext_10 (by decide) ?_
        refine am_aload_n eX8_showNext_11 rfl ?_
        refine am_iload_n eX8_showNext_12 rfl ?_
        refine am_iload_n eX8_showNext_13 rfl ?_
        refine am_cV eX8_showNext_14 kX8_175 (c_X8_isEnd (m := m) (x := x) (T := T) hW (a := t) (u := 1) ⟨by omega, by omega⟩ (Or.inr rfl)) rfl rfl (en_c8 (m := m) (x := x)) (by decide) (by decide) (Nat.le_of_ble_eq_true rfl) (Nat.zero_le _) (Nat.zero_le _) ?_
        refine am_topI (w := bz (decide (t = x 3 0 - 1))) (by first | rfl | (simp [st]; done) | (simp [st, st]; done) | simp [show _ = x 3 0 from rfl]) ?_
        refine am_bz_ne eX8_showNext_17 (fun c1 => ?_) (fun c1 => ?_)
        · refine am_return eX8_showNext_28 rfl (Nat.zero_le _) (Nat.zero_le _) ?_
          exact ⟨rfl, congrArg (en_h m) (by rw [sp_turn_c1]; rw [if_pos (by omega)])⟩
        · refine am_aload_n eX8_showNext_20 rfl ?_
          refine am_getf eX8_showNext_21 fX8_209 (en_c0 (m := m) (x := x) (i := (2 * t.toNat + 1)) (by omega)) rfl ?_
          refine am_topI (w := -1) (by exact if_neg cS) ?_
          refine am_iconst eX8_showNext_24 ?_
          refine am_icmp_eq ⟨by omega, by omega⟩ ⟨by omega, by omega⟩ eX8_showNext_25 (fun _ => ?_) (fun z => absurd z (by decide))
          refine am_aload_n eX8_showNext_29 rfl ?_
          refine am_aload_n eX8_showNext_30 rfl ?_
          refine am_cV eX8_showNext_31 kX8_316 (c_X0_removeFirst (m := m) (x := x) (T := T) hW (i := (2 * t.toNat + 1)) (by omega)) rfl rfl (en_c0 (m := m) (x := x) (i := (2 * t.toNat + 1)) (by omega)) (by decide) (by decide) (Nat.le_of_ble_eq_true rfl) (Nat.zero_le _) (Nat.zero_le _) ?_
          obtain ⟨m3, hm3⟩ : ∃ z, z = sq_rf x (2 * t.toNat + 1) := ⟨_, rfl⟩
          rw [← hm3]
          refine am_topI (w := (-1)) (by unfold aq_rf; first | rw [if_pos (by omega)] | rw [if_neg (by omega)]) ?_
          refine am_putf eX8_showNext_34 fX8_209 rfl (en_c0 (m := m) (x := m3) (i := (2 * t.toNat + 1)) (by rw [hm3, sq_rf_f (by decide)]; omega)) (Nat.le_of_ble_eq_true rfl) trivial (am_heq (cx_show (by rw [hm3, sq_rf_f (by decide)]; omega)) ?_)
          refine am_heq (h' := en_h m (st (st x 16 (2 * t.toNat + 1) 0) 15 (2 * t.toNat + 1) (-1))) (congrArg (en_h m) (by rw [hm3]; unfold sq_rf; rw [if_pos (by omega)])) ?_
          obtain ⟨n4, hn4⟩ : ∃ z, z = st (st x 16 (2 * t.toNat + 1) 0) 15 (2 * t.toNat + 1) (-1) := ⟨_, rfl⟩
          rw [← hn4]
          have hWn4 : md_wb T n4 := by rw [hn4]; exact hWt
          refine am_iload_n eX8_showNext_37 rfl ?_
          refine am_if_eq ⟨by omega, by omega⟩ eX8_showNext_38 (fun z => absurd z (by decide)) (fun _ => ?_)
          refine am_aload_n eX8_showNext_41 rfl ?_
          refine am_getf eX8_showNext_42 fX8_209 (en_c0 (m := m) (x := n4) (i := (2 * t.toNat + 1)) (by rw [((congrFun (congrFun hn4 3) 0).trans (((st_nf (by decide)).trans (st_nf (by decide))).trans rfl))]; omega)) rfl ?_
          refine am_topI (w := (-1)) (by rw [(show n4 16 (2 * t.toNat + 1) = 0 by rw [hn4]; simp [sp_turn1, sp_turn0, sp_shl, st]), (show n4 15 (2 * t.toNat + 1) = (-1) by rw [hn4]; simp [sp_turn1, sp_turn0, sp_shl, st])]; exact if_pos rfl) ?_
          refine am_iconst eX8_showNext_45 ?_
          refine am_icmp_eq ⟨by omega, by omega⟩ ⟨by omega, by omega⟩ eX8_showNext_46 (fun _ => ?_) (fun z => absurd z (by decide))
          refine am_return eX8_showNext_58 rfl (Nat.zero_le _) (Nat.zero_le _) ?_
          exact ⟨rfl, congrArg (en_h m) (by first | (rw [hn4]; rw [sp_turn_c1]; rw [if_neg (by omega), if_pos (by omega)]; done) | (exfalso; omega))⟩
      · have hWt := hWt c0
        refine am_aload_n eX8_showNext_0 rfl ?_
        refine am_getf eX8_showNext_1 fX8_11 (en_c8 (m := m) (x := x)) rfl ?_
        refine am_iload_n eX8_showNext_4 rfl ?_
        refine am_aald (kd := 3) (x := am_R (7, t.toNat)) eX8_showNext_5 (en_c200 (m := m) (x := x)) (by decide) (by decide) (by omega) (by omega) (by decide) (by rw [show ((t).toNat) = t.toNat by omega]; exact if_pos (by omega)) ?_
        refine am_iload_n eX8_showNext_6 rfl ?_
        refine am_cV eX8_showNext_7 kX8_171 (c_X7_armFor (m := m) (x := x) (T := T) hW (i := t.toNat) (by omega) (u := 1) (Or.inr rfl)) rfl rfl (en_c7 (m := m) (x := x) (i := t.toNat) (by omega)) (by decide) (by decide) (Nat.le_of_ble_eq_true rfl) (Nat.zero_le _) (Nat.zero_le _) ?_
        refine am_steq (st' := am_R (0, 2 * t.toNat + 1) :: _) rfl ?_
        refine am_astore_n eX8_showNext_10 (by decide) ?_
        refine am_aload_n eX8_showNext_11 rfl ?_
        refine am_iload_n eX8_showNext_12 rfl ?_
        refine am_iload_n eX8_showNext_13 rfl ?_
        refine am_cV eX8_showNext_14 kX8_175 (c_X8_isEnd (m := m) (x := x) (T := T) hW (a := t) (u := 1) ⟨by omega, by omega⟩ (Or.inr rfl)) rfl rfl (en_c8 (m := m) (x := x)) (by decide) (by decide) (Nat.le_of_ble_eq_true rfl) (Nat.zero_le _) (Nat.zero_le _) ?_
        refine am_topI (w := bz (decide (t = x 3 0 - 1))) (by first | rfl | (simp [st]; done) | (simp [st, st]; done) | simp [show _ = x 3 0 from rfl]) ?_
        refine am_bz_ne eX8_showNext_17 (fun c1 => ?_) (fun c1 => ?_)
        · refine am_return eX8_showNext_28 rfl (Nat.zero_le _) (Nat.zero_le _) ?_
          exact ⟨rfl, congrArg (en_h m) (by rw [sp_turn_c1]; rw [if_pos (by omega)])⟩
        · refine am_aload_n eX8_showNext_20 rfl ?_
          refine am_getf eX8_showNext_21 fX8_209 (en_c0 (m := m) (x := x) (i := (2 * t.toNat + 1)) (by omega)) rfl ?_
          refine am_topI (w := -1) (by exact if_neg cS) ?_
          refine am_iconst eX8_showNext_24 ?_
          refine am_icmp_eq ⟨by omega, by omega⟩ ⟨by omega, by omega⟩ eX8_showNext_25 (fun _ => ?_) (fun z => absurd z (by decide))
          refine am_aload_n eX8_showNext_29 rfl ?_
          refine am_aload_n eX8_showNext_30 rfl ?_
          refine am_cV eX8_showNext_31 kX8_316 (c_X0_removeFirst (m := m) (x := x) (T := T) hW (i := (2 * t.toNat + 1)) (by omega)) rfl rfl (en_c0 (m := m) (x := x) (i := (2 * t.toNat + 1)) (by omega)) (by decide) (by decide) (Nat.le_of_ble_eq_true rfl) (Nat.zero_le _) (Nat.zero_le _) ?_
          obtain ⟨m3, hm3⟩ : ∃ z, z = sq_rf x (2 * t.toNat + 1) := ⟨_, rfl⟩
          rw [← hm3]
          refine am_topI (w := x 14 (220 * (2 * t.toNat + 1))) (by unfold aq_rf; first | rw [if_pos (by omega)] | rw [if_neg (by omega)]) ?_
          refine am_putf eX8_showNext_34 fX8_209 rfl (en_c0 (m := m) (x := m3) (i := (2 * t.toNat + 1)) (by rw [hm3, sq_rf_f (by decide)]; omega)) (Nat.le_of_ble_eq_true rfl) trivial (am_heq (cx_show (by rw [hm3, sq_rf_f (by decide)]; omega)) ?_)
          refine am_heq (h' := en_h m (sp_turn1 x (2 * t.toNat + 1))) (congrArg (en_h m) (by rw [hm3]; exact sq_turn1 (by omega))) ?_
          obtain ⟨n4, hn4⟩ : ∃ z, z = sp_turn1 x (2 * t.toNat + 1) := ⟨_, rfl⟩
          rw [← hn4]
          have hWn4 : md_wb T n4 := by rw [hn4]; exact hWt
          refine am_iload_n eX8_showNext_37 rfl ?_
          refine am_if_eq ⟨by omega, by omega⟩ eX8_showNext_38 (fun z => absurd z (by decide)) (fun _ => ?_)
          refine am_aload_n eX8_showNext_41 rfl ?_
          refine am_getf eX8_showNext_42 fX8_209 (en_c0 (m := m) (x := n4) (i := (2 * t.toNat + 1)) (by rw [((congrFun (congrFun hn4 3) 0).trans ((sp_turn1_f (by decide)).trans rfl))]; omega)) rfl ?_
          refine am_topI (w := x 14 (220 * (2 * t.toNat + 1))) (by rw [(show n4 16 (2 * t.toNat + 1) = 0 by rw [hn4]; simp [sp_turn1, sp_turn0, sp_shl, st]), (show n4 15 (2 * t.toNat + 1) = x 14 (220 * (2 * t.toNat + 1)) by rw [hn4]; simp [sp_turn1, sp_turn0, sp_shl, st])]; exact if_pos rfl) ?_
          refine am_iconst eX8_showNext_45 ?_
          refine am_icmp_eq ⟨by omega, by omega⟩ ⟨by omega, by omega⟩ eX8_showNext_46 (fun c6 => ?_) (fun c6 => ?_)
          · refine am_return eX8_showNext_58 rfl (Nat.zero_le _) (Nat.zero_le _) ?_
            exact ⟨rfl, congrArg (en_h m) (by first | (rw [hn4]; rw [sp_turn_c1]; rw [if_neg (by omega), if_neg (by omega)]; done) | (exfalso; omega))⟩
          · refine am_aload_n eX8_showNext_49 rfl ?_
            refine am_iload_n eX8_showNext_50 rfl ?_
            refine am_aload_n eX8_showNext_51 rfl ?_
            refine am_getf eX8_showNext_52 fX8_209 (en_c0 (m := m) (x := n4) (i := (2 * t.toNat + 1)) (by rw [((congrFun (congrFun hn4 3) 0).trans ((sp_turn1_f (by decide)).trans rfl))]; omega)) rfl ?_
            refine am_topI (w := x 14 (220 * (2 * t.toNat + 1))) (by rw [(show n4 16 (2 * t.toNat + 1) = 0 by rw [hn4]; simp [sp_turn1, sp_turn0, sp_shl, st]), (show n4 15 (2 * t.toNat + 1) = x 14 (220 * (2 * t.toNat + 1)) by rw [hn4]; simp [sp_turn1, sp_turn0, sp_shl, st])]; exact if_pos rfl) ?_
            refine am_cV_v eX8_showNext_55 kX8_319 (c_X8_tellSpies (m := m) (x := n4) (T := T) hWn4 (by rw [((congrFun (congrFun hn4 39) 0).trans ((sp_turn1_f (by decide)).trans rfl))]; exact hZ) (t := t) (sg := (x 14 (220 * (2 * t.toNat + 1)))) (by rw [((congrFun (congrFun hn4 3) 0).trans ((sp_turn1_f (by decide)).trans rfl))]; omega) (by omega)) rfl rfl (en_c8 (m := m) (x := n4)) (by decide) (by decide) (Nat.le_of_ble_eq_true rfl) (Nat.zero_le _) (Nat.zero_le _) ?_
            rw [show n4 39 0 = x 39 0 from ((congrFun (congrFun hn4 39) 0).trans ((sp_turn1_f (by decide)).trans rfl))]
            refine am_return eX8_showNext_58 rfl (Nat.zero_le _) (Nat.zero_le _) ?_
            exact ⟨rfl, congrArg (en_h m) (by first | (rw [hn4]; rw [sp_turn_c1]; rw [if_neg (by omega), if_neg (by omega)]; done) | (exfalso; omega))⟩

