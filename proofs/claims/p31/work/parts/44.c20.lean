theorem wr_ok {T : Int} {x : sg_S} (hW : md_wb T x) (hN : sg_N x) {a p l v : Int} (ha : 0 ≤ a ∧ a ≤ 2) (hp : 0 ≤ p ∧ p ≤ 91) (hl : 0 ≤ l ∧ l ≤ 91) (hv : -1 ≤ v ∧ v ≤ 9999) (hf : ¬ (sp_fnd x a.toNat (92 * p + l) (x 21 a.toNat).toNat = -1 ∧ v ≠ -1 ∧ x 21 a.toNat = 200)) : sq_put (st x 0 0 0) a.toNat (92 * p + l) v = sp_write x a p l v ∧ aq_put (st x 0 0 0) a.toNat (92 * p + l) v = 1 := by
  have b21 := wb21 hW a.toNat
  have hNy : sg_N (st x 0 0 0) := sg_N_st (by decide) (by decide) hN
  have e21 : (st x 0 0 0) 21 a.toNat = x 21 a.toNat := st_nf (by decide)
  have h := ix_fnd hNy (b := a.toNat) (s := 92 * p + l)
  rw [e21, sp_fnd_st (by decide)] at h
  rcases h with ⟨h1, h2⟩ | ⟨i, h1, h2, h3, h4⟩
  · by_cases c : v = -1
    · have r : sp_write x a p l v = st x 0 0 0 := by
        unfold sp_write
        rw [if_neg (by omega), if_neg (by omega), if_neg hf, h2, if_neg (by omega), if_neg (by omega)]
      rw [r]
      unfold sq_put aq_put
      rw [h1, if_pos c, if_pos c]
      exact ⟨if_neg (by omega), rfl⟩
    · have r : sp_write x a p l v = st (st (st (st x 0 0 0) 21 a.toNat (x 21 a.toNat + 1)) 22 (200 * a.toNat + (x 21 a.toNat).toNat) (92 * p + l)) 23 (200 * a.toNat + (x 21 a.toNat).toNat) v := by
        unfold sp_write
        rw [if_neg (by omega), if_neg (by omega), if_neg hf, h2, if_pos c, if_pos rfl]
      rw [r]
      unfold sq_put aq_put
      rw [h1, if_neg c, if_neg c, if_pos rfl, if_pos rfl]
      unfold sq_add aq_add
      rw [e21, if_pos (by omega), if_pos (by omega)]
      refine ⟨?_, rfl⟩
      rw [st_cm (f := 23) (g := 21) (by decide), st_cm (f := 22) (g := 21) (by decide)]
  · by_cases c : v = -1
    · have r : sp_write x a p l v = st (st (st (st x 0 0 0) 21 a.toNat (x 21 a.toNat - 1)) 22 (200 * a.toNat + i) (x 22 (200 * a.toNat + (x 21 a.toNat - 1).toNat))) 23 (200 * a.toNat + i) (x 23 (200 * a.toNat + (x 21 a.toNat - 1).toNat)) := by
        unfold sp_write
        rw [if_neg (by omega), if_neg (by omega), if_neg hf, h4, if_neg (by omega), if_pos (by omega), Int.toNat_natCast]
      rw [r]
      unfold sq_put aq_put
      rw [h3, if_pos c, if_pos c]
      refine ⟨?_, rfl⟩
      unfold sq_rem
      rw [e21, if_pos (by omega), st_nf (f := 0) (g := 22) (by decide), st_nf (f := 0) (g := 23) (by decide), Int.toNat_natCast]
    · have r : sp_write x a p l v = st (st (st (st x 0 0 0) 21 a.toNat (x 21 a.toNat)) 22 (200 * a.toNat + i) (92 * p + l)) 23 (200 * a.toNat + i) v := by
        unfold sp_write
        rw [if_neg (by omega), if_neg (by omega), if_neg hf, h4, if_pos c, if_neg (by omega), Int.toNat_natCast, Int.add_zero]
      rw [r]
      unfold sq_put aq_put
      rw [h3, if_neg c, if_neg c, if_neg (by omega), if_neg (by omega)]
      refine ⟨?_, rfl⟩
      rw [Int.toNat_natCast]
      have z1 : st (st x 0 0 0) 21 a.toNat (x 21 a.toNat) = st x 0 0 0 := by
        have z := st_id (σ := st x 0 0 0) (f := 21) (j := a.toNat)
        rwa [e21] at z
      have z2 : st (st x 0 0 0) 22 (200 * a.toNat + i) (92 * p + l) = st x 0 0 0 := by
        have z := st_id (σ := st x 0 0 0) (f := 22) (j := 200 * a.toNat + i)
        rwa [h2] at z
      rw [z1, z2]
theorem wr_full {T : Int} {x : sg_S} (hW : md_wb T x) (hN : sg_N x) {b : Nat} {s v : Int} (hf : sp_fnd x b s (x 21 b).toNat = -1 ∧ v ≠ -1 ∧ x 21 b = 200) : sq_put (st x 0 0 0) b s v = st x 0 0 0 ∧ aq_put (st x 0 0 0) b s v = 0 := by
  have hNy : sg_N (st x 0 0 0) := sg_N_st (by decide) (by decide) hN
  have e21 : (st x 0 0 0) 21 b = x 21 b := st_nf (by decide)
  have h := ix_fnd hNy (b := b) (s := s)
  rw [e21, sp_fnd_st (by decide)] at h
  unfold sq_put aq_put
  rcases h with ⟨h1, h2⟩ | ⟨i, h1, h2, h3, h4⟩
  · rw [h1, if_neg hf.2.1, if_neg hf.2.1, if_pos rfl, if_pos rfl]
    unfold sq_add aq_add
    rw [e21, if_neg (by omega), if_neg (by omega)]
    exact ⟨rfl, rfl⟩
  · omega
set_option maxRecDepth 100000 in
set_option maxHeartbeats 4000000 in
theorem c_X8_write {G : am_G} {m x : sg_S} {T : Int} (hW : md_wb T x) {a p l v : Int} (hr_a : -2147483648 ≤ a ∧ a < 2147483648) (hr_p : -2147483648 ≤ p ∧ p < 2147483648) (hr_l : -2147483648 ≤ l ∧ l < 2147483648) (hr_v : -2147483648 ≤ v ∧ v < 2147483648)  (hN : sg_N x) : am_Con G yX8_write wX8_write 7 4 24 [am_R (8, 0), am_I a, am_I p, am_I l, am_I v] (en_h m x) (am_tx [0, 1, 2] (sp_write x a p l v 0 0) (an_write x a p l v) (en_h m (sp_write x a p l v))) := by
  refine am_of2 (Y := mX8_write) (by decide +kernel) rfl (fun z => by cases z) rfl rfl (Nat.le_of_ble_eq_true rfl) fun X => ?_
  have b3 := wb3 hW 0
  obtain ⟨y, hy⟩ : ∃ z, z = st x 0 0 0 := ⟨_, rfl⟩
  refine am_heq (h' := en_h m y) (by rw [hy]; exact (cx_no (Or.inl rfl)).symm) ?_
  have hWy : md_wb T y := by rw [hy]; exact wb_st hW (by show (0 : Int) ≤ _; decide) (by show _ ≤ (3 : Int); decide)
  by_cases cL : sp_fnd x a.toNat (92 * p + l) (x 21 a.toNat).toNat = -1 ∧ v ≠ -1 ∧ x 21 a.toNat = 200
  · skip
    refine am_aload_n eX8_write_0 rfl ?_
    refine am_iload_n eX8_write_1 rfl ?_
    refine am_cT eX8_write_2 kX8_119 (c_X8_bookAt (m := m) (x := y) (T := T) hWy (a := a) ⟨by omega, by omega⟩) rfl rfl (en_c8 (m := m) (x := y)) (by decide) (by decide) (Nat.le_of_ble_eq_true rfl) (by omega) (by omega) rfl (fun hp => (tx_thr (i := 0) rfl rfl hy (by unfold sp_write; (try simp only [if_true, if_false, Int.toNat_zero, Int.toNat_one, show ¬ (1 : Int) = 0 by decide]); (repeat' split) <;> first | rfl | (exfalso; omega)))) (fun hp => ?_)
    have hp1 := hp
    refine am_astore eX8_write_5 (by decide) ?_
    refine am_iload_n eX8_write_7 rfl ?_
    refine am_iconst eX8_write_8 ?_
    refine am_bipush eX8_write_9 (by decide) ?_
    refine am_cS eX8_write_11 kX8_55 (c_X8_isOutside (v := p) (lo := 0) (hi := 91) ⟨by omega, by omega⟩ ⟨by omega, by omega⟩ ⟨by omega, by omega⟩) rfl rfl (by decide) (by decide) (Nat.le_of_ble_eq_true rfl) (by omega) (by omega) ?_
    refine am_bz_ne eX8_write_14 (fun c2 => ?_) (fun c2 => ?_)
    · exact am_throw x_thr1 rfl x_tx123 (by decide) rfl (by simp) eX8_write_39 eX8_write_42 eX8_write_43 eX8_write_45 eX8_write_48 (by omega) (by omega) (tx_thr (i := 1) rfl rfl hy (by unfold sp_write; rw [if_neg (by omega), if_pos (by omega)]; rfl))
    · refine am_iload_n eX8_write_17 rfl ?_
      refine am_iconst eX8_write_18 ?_
      refine am_bipush eX8_write_19 (by decide) ?_
      refine am_cS eX8_write_21 kX8_55 (c_X8_isOutside (v := l) (lo := 0) (hi := 91) ⟨by omega, by omega⟩ ⟨by omega, by omega⟩ ⟨by omega, by omega⟩) rfl rfl (by decide) (by decide) (Nat.le_of_ble_eq_true rfl) (by omega) (by omega) ?_
      refine am_bz_ne eX8_write_24 (fun c3 => ?_) (fun c3 => ?_)
      · exact am_throw x_thr1 rfl x_tx123 (by decide) rfl (by simp) eX8_write_39 eX8_write_42 eX8_write_43 eX8_write_45 eX8_write_48 (by omega) (by omega) (tx_thr (i := 1) rfl rfl hy (by unfold sp_write; rw [if_neg (by omega), if_pos (by omega)]; rfl))
      · refine am_iload eX8_write_27 rfl ?_
        refine am_iconst eX8_write_29 ?_
        refine am_sipush eX8_write_30 (by decide) ?_
        refine am_cS eX8_write_33 kX8_55 (c_X8_isOutside (v := v) (lo := (-1)) (hi := 9999) ⟨by omega, by omega⟩ ⟨by omega, by omega⟩ ⟨by omega, by omega⟩) rfl rfl (by decide) (by decide) (Nat.le_of_ble_eq_true rfl) (by omega) (by omega) ?_
        refine am_bz_eq eX8_write_36 (fun c4 => ?_) (fun c4 => ?_)
        · refine am_iload_n eX8_write_49 rfl ?_
          refine am_iload_n eX8_write_50 rfl ?_
          refine am_cS eX8_write_51 kX8_125 (c_X8_spotOf (p := p) (l := l) ⟨by omega, by omega⟩ ⟨by omega, by omega⟩) rfl rfl (by decide) (by decide) (Nat.le_of_ble_eq_true rfl) (by omega) (by omega) ?_
          refine am_istore eX8_write_54 (by decide) ?_
          refine am_aload eX8_write_56 rfl ?_
          refine am_iload eX8_write_58 rfl ?_
          refine am_cV eX8_write_60 kX8_129 (c_X1_phraseAtF (m := m) (x := y) hWy (by rw [hy]; exact sg_N_st (by decide) (by decide) hN) (i := a.toNat) (by omega) (s := (92 * p + l)) ⟨by omega, by omega⟩) rfl rfl (en_c1 (m := m) (x := y) (i := a.toNat) (by omega)) (by decide) (by decide) (Nat.le_of_ble_eq_true rfl) (by omega) (by omega) ?_
          refine am_topI (w := (sp_ph x a.toNat (92 * p + l))) (by rw [hy]; exact sp_ph_st (by decide) (by decide) (by decide)) ?_
          have qph := sp_ph_in hW (b := a.toNat) (s := (92 * p + l))
          refine am_istore eX8_write_63 (by decide) ?_
          refine am_aload eX8_write_65 rfl ?_
          refine am_iload eX8_write_67 rfl ?_
          refine am_iload eX8_write_69 rfl ?_
          refine am_cV eX8_write_71 kX8_133 (c_X1_put (m := m) (x := y) hWy (i := a.toNat) (by omega) (s := (92 * p + l)) (p := v) ⟨by omega, by omega⟩ ⟨by omega, by omega⟩) rfl rfl (en_c1 (m := m) (x := y) (i := a.toNat) (by omega)) (by decide) (by decide) (Nat.le_of_ble_eq_true rfl) (by omega) (by omega) ?_
          have hz := wr_full hW hN cL
          rw [← hy] at hz
          rw [hz.1, hz.2]
          refine am_if_ne ⟨by omega, by omega⟩ eX8_write_74 (fun z => absurd z (by decide)) (fun _ => ?_)
          exact am_throw x_thr2 rfl x_tx136 (by decide) rfl (by simp) eX8_write_77 eX8_write_80 eX8_write_81 eX8_write_83 eX8_write_86 (by omega) (by omega) (tx_thr (i := 2) rfl rfl hy (by unfold sp_write; rw [if_neg (by omega), if_neg (by omega), if_pos cL]; rfl))
        · exact am_throw x_thr1 rfl x_tx123 (by decide) rfl (by simp) eX8_write_39 eX8_write_42 eX8_write_43 eX8_write_45 eX8_write_48 (by omega) (by omega) (tx_thr (i := 1) rfl rfl hy (by unfold sp_write; rw [if_neg (by omega), if_pos (by omega)]; rfl))
  · skip
    refine am_aload_n eX8_write_0 rfl ?_
    refine am_iload_n eX8_write_1 rfl ?_
    refine am_cT eX8_write_2 kX8_119 (c_X8_bookAt (m := m) (x := y) (T := T) hWy (a := a) ⟨by omega, by omega⟩) rfl rfl (en_c8 (m := m) (x := y)) (by decide) (by decide) (Nat.le_of_ble_eq_true rfl) (by omega) (by omega) rfl (fun hp => (tx_thr (i := 0) rfl rfl hy (by unfold sp_write; (try simp only [if_true, if_false, Int.toNat_zero, Int.toNat_one, show ¬ (1 : Int) = 0 by decide]); (repeat' split) <;> first | rfl | (exfalso; omega)))) (fun hp => ?_)
    have hp1 := hp
    refine am_astore eX8_write_5 (by decide) ?_
    refine am_iload_n eX8_write_7 rfl ?_
    refine am_iconst eX8_write_8 ?_
    refine am_bipush eX8_write_9 (by decide) ?_
    refine am_cS eX8_write_11 kX8_55 (c_X8_isOutside (v := p) (lo := 0) (hi := 91) ⟨by omega, by omega⟩ ⟨by omega, by omega⟩ ⟨by omega, by omega⟩) rfl rfl (by decide) (by decide) (Nat.le_of_ble_eq_true rfl) (by omega) (by omega) ?_
    refine am_bz_ne eX8_write_14 (fun c2 => ?_) (fun c2 => ?_)
    · exact am_throw x_thr1 rfl x_tx123 (by decide) rfl (by simp) eX8_write_39 eX8_write_42 eX8_write_43 eX8_write_45 eX8_write_48 (by omega) (by omega) (tx_thr (i := 1) rfl rfl hy (by unfold sp_write; rw [if_neg (by omega), if_pos (by omega)]; rfl))
    · refine am_iload_n eX8_write_17 rfl ?_
      refine am_iconst eX8_write_18 ?_
      refine am_bipush eX8_write_19 (by decide) ?_
      refine am_cS eX8_write_21 kX8_55 (c_X8_isOutside (v := l) (lo := 0) (hi := 91) ⟨by omega, by omega⟩ ⟨by omega, by omega⟩ ⟨by omega, by omega⟩) rfl rfl (by decide) (by decide) (Nat.le_of_ble_eq_true rfl) (by omega) (by omega) ?_
      refine am_bz_ne eX8_write_24 (fun c3 => ?_) (fun c3 => ?_)
      · exact am_throw x_thr1 rfl x_tx123 (by decide) rfl (by simp) eX8_write_39 eX8_write_42 eX8_write_43 eX8_write_45 eX8_write_48 (by omega) (by omega) (tx_thr (i := 1) rfl rfl hy (by unfold sp_write; rw [if_neg (by omega), if_pos (by omega)]; rfl))
      · refine am_iload eX8_write_27 rfl ?_
        refine am_iconst eX8_write_29 ?_
        refine am_sipush eX8_write_30 (by decide) ?_
        refine am_cS eX8_write_33 kX8_55 (c_X8_isOutside (v := v) (lo := (-1)) (hi := 9999) ⟨by omega, by omega⟩ ⟨by omega, by omega⟩ ⟨by omega, by omega⟩) rfl rfl (by decide) (by decide) (Nat.le_of_ble_eq_true rfl) (by omega) (by omega) ?_
        refine am_bz_eq eX8_write_36 (fun c4 => ?_) (fun c4 => ?_)
        · refine am_iload_n eX8_write_49 rfl ?_
          refine am_iload_n eX8_write_50 rfl ?_
          refine am_cS eX8_write_51 kX8_125 (c_X8_spotOf (p := p) (l := l) ⟨by omega, by omega⟩ ⟨by omega, by omega⟩) rfl rfl (by decide) (by decide) (Nat.le_of_ble_eq_true rfl) (by omega) (by omega) ?_
          refine am_istore eX8_write_54 (by decide) ?_
          refine am_aload eX8_write_56 rfl ?_
          refine am_iload eX8_write_58 rfl ?_
          refine am_cV eX8_write_60 kX8_129 (c_X1_phraseAtF (m := m) (x := y) hWy (by rw [hy]; exact sg_N_st (by decide) (by decide) hN) (i := a.toNat) (by omega) (s := (92 * p + l)) ⟨by omega, by omega⟩) rfl rfl (en_c1 (m := m) (x := y) (i := a.toNat) (by omega)) (by decide) (by decide) (Nat.le_of_ble_eq_true rfl) (by omega) (by omega) ?_
          refine am_topI (w := (sp_ph x a.toNat (92 * p + l))) (by rw [hy]; exact sp_ph_st (by decide) (by decide) (by decide)) ?_
          have qph := sp_ph_in hW (b := a.toNat) (s := (92 * p + l))
          refine am_istore eX8_write_63 (by decide) ?_
          refine am_aload eX8_write_65 rfl ?_
          refine am_iload eX8_write_67 rfl ?_
          refine am_iload eX8_write_69 rfl ?_
          refine am_cV eX8_write_71 kX8_133 (c_X1_put (m := m) (x := y) hWy (i := a.toNat) (by omega) (s := (92 * p + l)) (p := v) ⟨by omega, by omega⟩ ⟨by omega, by omega⟩) rfl rfl (en_c1 (m := m) (x := y) (i := a.toNat) (by omega)) (by decide) (by decide) (Nat.le_of_ble_eq_true rfl) (by omega) (by omega) ?_
          have hz := wr_ok hW hN (a := a) (p := p) (l := l) (v := v) (by omega) (by omega) (by omega) (by omega) cL
          rw [← hy] at hz
          rw [hz.1, hz.2]
          refine am_if_ne ⟨by omega, by omega⟩ eX8_write_74 (fun _ => ?_) (fun z => absurd z (by decide))
          refine am_iload eX8_write_87 rfl ?_
          refine am_ireturn eX8_write_89 rfl trivial (by omega) (by omega) ?_
          exact tx_ret rfl (by unfold sp_write; (repeat' split) <;> first | (simp [st]; done) | (exfalso; omega)) (by unfold an_write sp_ph; (repeat' split) <;> first | rfl | omega)
        · exact am_throw x_thr1 rfl x_tx123 (by decide) rfl (by simp) eX8_write_39 eX8_write_42 eX8_write_43 eX8_write_45 eX8_write_48 (by omega) (by omega) (tx_thr (i := 1) rfl rfl hy (by unfold sp_write; rw [if_neg (by omega), if_pos (by omega)]; rfl))

