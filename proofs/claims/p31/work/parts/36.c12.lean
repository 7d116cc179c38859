theorem bs_looks_c0 {σ : sg_S} {t : Int} : bs_looks σ t 0 = if ¬ (0 ≤ (t + 1) ∧ (t + 1) ≤ σ 3 0 - 1) then σ
  else if σ 15 (2 * (t.toNat + 1) + 0) ≠ -1 ∧ σ 16 (2 * (t.toNat + 1) + 0) = 0 ∧ (t = 0 ∨ σ 12 (2 * t.toNat + 0) < 10) ∧ an_see σ t.toNat = 1 then
    if t = 0 then bs_tapes (sp_writes (st σ 16 (2 * (t.toNat + 1) + 0) 1) (2 * t + 0) (an_reads σ t (σ 15 (2 * (t.toNat + 1) + 0))) 0) 0 (an_reads σ t (σ 15 (2 * (t.toNat + 1) + 0)))
    else sp_kp (sp_writes (st σ 16 (2 * (t.toNat + 1) + 0) 1) (2 * t + 0) (an_reads σ t (σ 15 (2 * (t.toNat + 1) + 0))) 0) (2 * t.toNat + 0) (σ 12 (2 * t.toNat + 0)).toNat (an_reads σ t (σ 15 (2 * (t.toNat + 1) + 0)))
  else σ := by
  unfold bs_looks sp_lk sp_ln
  simp only [if_true]
  rfl
theorem bs_looks_c1 {σ : sg_S} {t : Int} : bs_looks σ t 1 = if ¬ (0 ≤ (t - 1) ∧ (t - 1) ≤ σ 3 0 - 1) then σ
  else if σ 15 (2 * (t.toNat - 1) + 1) ≠ -1 ∧ σ 16 (2 * (t.toNat - 1) + 1) = 0 ∧ (t = σ 3 0 - 1 ∨ σ 12 (2 * t.toNat + 1) < 10) ∧ an_see σ (t.toNat - 1) = 1 then
    if t = σ 3 0 - 1 then bs_tapes (sp_writes (st σ 16 (2 * (t.toNat - 1) + 1) 1) (2 * t + 1) (an_reads σ t (σ 15 (2 * (t.toNat - 1) + 1))) 0) 1 (an_reads σ t (σ 15 (2 * (t.toNat - 1) + 1)))
    else sp_kp (sp_writes (st σ 16 (2 * (t.toNat - 1) + 1) 1) (2 * t + 1) (an_reads σ t (σ 15 (2 * (t.toNat - 1) + 1))) 0) (2 * t.toNat + 1) (σ 12 (2 * t.toNat + 1)).toNat (an_reads σ t (σ 15 (2 * (t.toNat - 1) + 1)))
  else σ := by
  unfold bs_looks sp_lk sp_ln
  simp only [show ¬ (1 : Int) = 0 by decide, if_false]
  rfl
set_option maxRecDepth 100000 in
set_option maxHeartbeats 4000000 in
theorem c_X8_look {G : am_G} {m x : sg_S} {T : Int} (hW : md_wb T x) (hD : sg_D x) {t u : Int} (ht : 0 ≤ t ∧ t < x 3 0) (hb_u : u = 0 ∨ u = 1) (hF : ∀ t : Nat, (t : Int) < x 3 0 → 1 ≤ x 5 t) (h8 : ∀ w, x 28 w ≤ 38) {mc ms : Nat} (hmc : x 51 0 < bs_looks x t u 51 0 → 2 ≤ mc ∧ 66 ≤ ms) : am_Con G yX8_look wX8_look 5 mc ms [am_R (8, 0), am_I t, am_I u] (en_h m x) (am_vd (en_h m (bs_looks x t u))) := by
  refine am_of2 (Y := mX8_look) (by decide +kernel) rfl (fun z => by cases z) rfl rfl (Nat.le_of_ble_eq_true rfl) fun X => ?_
  have b3 := wb3 hW 0
  have b1 := wb1 hW 0
  rcases hb_u with rfl | rfl
  · by_cases cS : x 16 (2 * (t.toNat + 1) + 0) = 0
    · refine am_iload_n eX8_look_0 rfl ?_
      refine am_if_eq ⟨by omega, by omega⟩ eX8_look_1 (fun _ => ?_) (fun z => absurd z (by decide))
      refine am_iload_n eX8_look_10 rfl ?_
      refine am_iconst eX8_look_11 ?_
      refine am_iadd eX8_look_12 ?_
      refine am_istore_n eX8_look_13 (by decide) ?_
      refine am_iload_n eX8_look_14 rfl ?_
      refine am_if_lt ⟨by omega, by omega⟩ eX8_look_15 (fun c2 => ?_) (fun c2 => ?_)
      · refine am_return eX8_look_26 rfl (by omega) (by omega) ?_
        exact ⟨rfl, congrArg (en_h m) (by rw [bs_looks_c0]; first | rw [if_pos (by omega)] | rw [if_neg (by omega), if_neg (by omega)] | (exfalso; omega))⟩
      · refine am_iload_n eX8_look_18 rfl ?_
        refine am_aload_n eX8_look_19 rfl ?_
        refine am_getf eX8_look_20 fX8_66 (en_c8 (m := m) (x := x)) rfl ?_
        have b3 := wb3 hW 0
        refine am_icmp_lt ⟨by omega, by omega⟩ ⟨by omega, by omega⟩ eX8_look_23 (fun c4 => ?_) (fun c4 => ?_)
        · refine am_aload_n eX8_look_27 rfl ?_
          refine am_getf eX8_look_28 fX8_11 (en_c8 (m := m) (x := x)) rfl ?_
          refine am_iload_n eX8_look_31 rfl ?_
          refine am_aald (kd := 3) (x := am_R (7, (t.toNat + 1))) eX8_look_32 (en_c200 (m := m) (x := x)) (by decide) (by decide) (by omega) (by omega) (by decide) (by rw [show (((t + 1)).toNat) = (t.toNat + 1) by omega]; exact if_pos (by omega)) ?_
          refine am_iload_n eX8_look_33 rfl ?_
          refine am_cV eX8_look_34 kX8_171 (c_X7_armFor (m := m) (x := x) (T := T) hW (i := (t.toNat + 1)) (by omega) (u := 0) (Or.inl rfl)) rfl rfl (en_c7 (m := m) (x := x) (i := (t.toNat + 1)) (by omega)) (by decide) (by decide) (Nat.le_of_ble_eq_true rfl) (by omega) (by omega) ?_
          refine am_steq (st' := am_R (0, 2 * (t.toNat + 1) + 0) :: _) rfl ?_
          refine am_astore eX8_look_37 (by decide) ?_
          refine am_aload_n eX8_look_39 rfl ?_
          refine am_getf eX8_look_40 fX8_11 (en_c8 (m := m) (x := x)) rfl ?_
          refine am_iload_n eX8_look_43 rfl ?_
          refine am_aald (kd := 3) (x := am_R (7, t.toNat)) eX8_look_44 (en_c200 (m := m) (x := x)) (by decide) (by decide) (by omega) (by omega) (by decide) (by rw [show ((t).toNat) = t.toNat by omega]; exact if_pos (by omega)) ?_
          refine am_iload_n eX8_look_45 rfl ?_
          refine am_cV eX8_look_46 kX8_171 (c_X7_armFor (m := m) (x := x) (T := T) hW (i := t.toNat) (by omega) (u := 0) (Or.inl rfl)) rfl rfl (en_c7 (m := m) (x := x) (i := t.toNat) (by omega)) (by decide) (by decide) (Nat.le_of_ble_eq_true rfl) (by omega) (by omega) ?_
          refine am_steq (st' := am_R (0, 2 * t.toNat + 0) :: _) rfl ?_
          refine am_astore eX8_look_49 (by decide) ?_
          refine am_aload_n eX8_look_51 rfl ?_
          refine am_iload_n eX8_look_52 rfl ?_
          refine am_iload_n eX8_look_53 rfl ?_
          refine am_cV eX8_look_54 kX8_175 (c_X8_isEnd (m := m) (x := x) (T := T) hW (a := t) (u := 0) ⟨by omega, by omega⟩ (Or.inl rfl)) rfl rfl (en_c8 (m := m) (x := x)) (by decide) (by decide) (Nat.le_of_ble_eq_true rfl) (by omega) (by omega) ?_
          refine am_topI (w := bz (decide (t = 0))) (by first | rfl | (simp [st]; done) | (simp [st, st]; done) | simp [show _ = x 3 0 from rfl]) ?_
          refine am_istore eX8_look_57 (by decide) ?_
          refine am_aload eX8_look_59 rfl ?_
          refine am_getf eX8_look_61 fX8_209 (en_c0 (m := m) (x := x) (i := (2 * (t.toNat + 1) + 0)) (by omega)) rfl ?_
          refine am_topI (w := x 15 (2 * (t.toNat + 1) + 0)) (by exact if_pos cS) ?_
          have b5 := wb15 hW (2 * (t.toNat + 1) + 0)
          refine am_iconst eX8_look_64 ?_
          refine am_icmp_eq ⟨by omega, by omega⟩ ⟨by omega, by omega⟩ eX8_look_65 (fun c6 => ?_) (fun c6 => ?_)
          · refine am_return eX8_look_95 rfl (by omega) (by omega) ?_
            exact ⟨rfl, congrArg (en_h m) (by rw [bs_looks_c0]; first | rw [if_pos (by omega)] | rw [if_neg (by omega), if_neg (by omega)] | (exfalso; omega))⟩
          · refine am_iload eX8_look_68 rfl ?_
            refine am_bz_ne eX8_look_70 (fun c7 => ?_) (fun c7 => ?_)
            · refine am_aload_n eX8_look_83 rfl ?_
              refine am_iload_n eX8_look_84 rfl ?_
              refine am_iload_n eX8_look_85 rfl ?_
              refine am_mmin eX8_look_86 kX8_304.2.2.2 kX8_304.2.2.1 kX8_304.2.1.2.2 kX8_304.1 ⟨by omega, by omega⟩ ⟨by omega, by omega⟩ (by decide) (by simp) (by omega) (by omega) ?_
              refine am_topI (w := t) (by first | rw [if_pos (by omega)] | rw [if_neg (by omega)]) ?_
              refine am_cV eX8_look_89 kX8_206 (c_X8_isSeenAlongN (m := m) (x := x) hW (s := t) (n := t.toNat) (by omega) (by omega) (hF _ (by omega))) rfl rfl (en_c8 (m := m) (x := x)) (by decide) (by decide) (Nat.le_of_ble_eq_true rfl) (by omega) (by omega) ?_
              have q8 : an_see x t.toNat = 0 ∨ an_see x t.toNat = 1 := sp_sl_01 (σ := x) (s := t.toNat) (x 8 t.toNat).toNat
              refine am_if_ne ⟨by omega, by omega⟩ eX8_look_92 (fun c8 => ?_) (fun c8 => ?_)
              · refine am_aload_n eX8_look_96 rfl ?_
                refine am_iload_n eX8_look_97 rfl ?_
                refine am_aload eX8_look_98 rfl ?_
                refine am_getf eX8_look_100 fX8_209 (en_c0 (m := m) (x := x) (i := (2 * (t.toNat + 1) + 0)) (by omega)) rfl ?_
                refine am_topI (w := x 15 (2 * (t.toNat + 1) + 0)) (by exact if_pos cS) ?_
                have b9 := wb15 hW (2 * (t.toNat + 1) + 0)
                refine am_cV eX8_look_103 kX8_309 (c_X8_signAsRead (m := m) (x := x) hW (t := t) (sg := x 15 (2 * (t.toNat + 1) + 0)) (by omega) (by omega)) rfl rfl (en_c8 (m := m) (x := x)) (by decide) (by decide) (Nat.le_of_ble_eq_true rfl) (by omega) (by omega) ?_
                have qf := an_reads_in hW (t := t) (sg := x 15 (2 * (t.toNat + 1) + 0)) (by omega)
                obtain ⟨f, hf⟩ : ∃ z, z = an_reads x t (x 15 (2 * (t.toNat + 1) + 0)) := ⟨_, rfl⟩
                rw [← hf] at qf
                rw [← hf]
                refine am_istore eX8_look_106 (by decide) ?_
                refine am_aload eX8_look_108 rfl ?_
                refine am_iconst eX8_look_110 ?_
                refine am_putf eX8_look_111 fX8_209 rfl (en_c0 (m := m) (x := x) (i := (2 * (t.toNat + 1) + 0)) (by omega)) (Nat.le_of_ble_eq_true rfl) trivial (am_heq (cx_take (by omega)) ?_)
                refine am_aload eX8_look_114 rfl ?_
                refine am_getf eX8_look_116 fX8_185 (en_c0 (m := m) (x := (st x 16 (2 * (t.toNat + 1) + 0) 1)) (i := (2 * t.toNat + 0)) (by rw [((st_nf (by decide)).trans rfl)]; omega)) rfl ?_
                refine am_aload_n eX8_look_119 rfl ?_
                refine am_getf eX8_look_120 fX8_21 (en_c8 (m := m) (x := (st x 16 (2 * (t.toNat + 1) + 0) 1))) rfl ?_
                refine am_topI (w := x 1 0) ((st_nf (by decide)).trans rfl) ?_
                have b10 := wb1 hW 0
                refine am_iload eX8_look_123 rfl ?_
                refine am_iconst eX8_look_125 ?_
                refine am_cV_v eX8_look_126 kX8_189 (c_X3_enterW (m := m) (x := (st x 16 (2 * (t.toNat + 1) + 0) 1)) (T := T) (wb_st (f := 16) hW (by show (0 : Int) ≤ _; omega) (by show _ ≤ (1 : Int); omega)) (w := 2 * t + 0) (i := (2 * t.toNat + 0)) (by omega) (by rw [((st_nf (by decide)).trans rfl)]; omega) (t := (x 1 0)) (s := f) (o := 0) (st_nf (by decide)).symm ⟨by omega, by omega⟩ ⟨by omega, by omega⟩ (Or.inl rfl)) rfl rfl (en_c3 (m := m) (x := (st x 16 (2 * (t.toNat + 1) + 0) 1)) (i := (2 * t.toNat + 0)) (by rw [((st_nf (by decide)).trans rfl)]; omega)) (by decide) (by decide) (Nat.le_of_ble_eq_true rfl) (by omega) (by omega) ?_
                obtain ⟨m11, hm11⟩ : ∃ z, z = sp_writes (st x 16 (2 * (t.toNat + 1) + 0) 1) (2 * t + 0) f 0 := ⟨_, rfl⟩
                rw [← hm11]
                have hWm11 : md_wb T m11 := by rw [hm11]; exact sp_writes_wb (wb_st (f := 16) hW (by show (0 : Int) ≤ _; omega) (by show _ ≤ (1 : Int); omega)) (by omega) (Or.inl rfl)
                refine am_iload eX8_look_129 rfl ?_
                refine am_bz_eq eX8_look_131 (fun c12 => ?_) (fun c12 => ?_)
                · refine am_aload eX8_look_151 rfl ?_
                  refine am_iload eX8_look_153 rfl ?_
                  refine am_cV eX8_look_155 kX8_179 (c_X0_keepOneK (m := m) (x := m11) hWm11 (i := (2 * t.toNat + 0)) (by rw [((congrFun (congrFun hm11 3) 0).trans ((sp_writes_f (by decide)).trans ((st_nf (by decide)).trans rfl)))]; omega) (s := f) ⟨by omega, by omega⟩ (c := (x 12 (2 * t.toNat + 0)).toNat) (by rw [((congrFun (congrFun hm11 12) (2 * t.toNat + 0)).trans ((sp_writes_f (by decide)).trans ((st_nf (by decide)).trans rfl)))]; omega) (by rw [((congrFun (congrFun hm11 12) (2 * t.toNat + 0)).trans ((sp_writes_f (by decide)).trans ((st_nf (by decide)).trans rfl)))]; omega)) rfl rfl (en_c0 (m := m) (x := m11) (i := (2 * t.toNat + 0)) (by rw [((congrFun (congrFun hm11 3) 0).trans ((sp_writes_f (by decide)).trans ((st_nf (by decide)).trans rfl)))]; omega)) (by decide) (by decide) (Nat.le_of_ble_eq_true rfl) (by omega) (by omega) ?_
                  obtain ⟨m13, hm13⟩ : ∃ z, z = sp_kp m11 (2 * t.toNat + 0) (x 12 (2 * t.toNat + 0)).toNat f := ⟨_, rfl⟩
                  rw [← hm13]
                  refine am_pop (by simp) eX8_look_158 ?_
                  refine am_return eX8_look_159 rfl (by omega) (by omega) ?_
                  exact ⟨rfl, congrArg (en_h m) (by first | (exfalso; omega) | (rw [hm13]; rw [hm11]; rw [bs_looks_c0]; rw [← hf, if_neg (by omega), if_pos (by omega)]; first | rw [if_pos (by omega)] | rw [if_neg (by omega)]))⟩
                · refine am_aload_n eX8_look_134 rfl ?_
                  refine am_iload_n eX8_look_135 rfl ?_
                  refine am_cV eX8_look_136 kX8_232 (c_X8_tapeOf (m := m) (x := m11) (T := T) hWm11 (u := 0) (Or.inl rfl)) rfl rfl (en_c8 (m := m) (x := m11)) (by decide) (by decide) (Nat.le_of_ble_eq_true rfl) (by omega) (by omega) ?_
                  refine am_steq (st' := am_R (6, 0) :: _) rfl ?_
                  refine am_iload eX8_look_139 rfl ?_
                  refine am_aload_n eX8_look_141 rfl ?_
                  refine am_getf eX8_look_142 fX8_21 (en_c8 (m := m) (x := m11)) rfl ?_
                  refine am_topI (w := x 1 0) ((congrFun (congrFun hm11 1) 0).trans ((sp_writes_f (by decide)).trans ((st_nf (by decide)).trans rfl))) ?_
                  have b14 := wb1 hW 0
                  have hD1 : sg_D m11 := sg_D_of (fun f j h => by rw [hm11, sp_writes_f (by omega), st_nf (by omega)]) hD
                  have hz : f = 92 → 2 ≤ mc ∧ 66 ≤ ms := fun z => hmc (by rw [bs_looks_c0, if_neg (by omega), if_pos (by omega), if_pos (by omega)]; unfold bs_tapes; rw [mg_hi (by decide), sx_tape_51, ← hf, if_pos z, sp_writes_f (by omega), st_nf (by decide)]; omega)
                  refine am_cM_v (mc' := mc) (ms' := ms) eX8_look_145 kX8_312 (c_X6_putOn (m := m) (x := m11) hWm11 hD1 (w := 0) (by decide) (by rw [((congrFun (congrFun hm11 28) 0).trans ((sp_writes_f (by decide)).trans ((st_nf (by decide)).trans rfl)))]; exact h8 _) (s := f) (t := (x 1 0)) (by omega) hz) rfl rfl (en_c6 (by decide)) (by decide) (by decide) (Nat.le_of_ble_eq_true rfl) (by omega) (by omega) ?_
                  refine am_heq (cx_tapes (m := m) (σ := m11) hWm11 hD1 (by decide) (((congrFun (congrFun hm11 1) 0).trans ((sp_writes_f (by decide)).trans ((st_nf (by decide)).trans rfl)))).symm) ?_
                  obtain ⟨m15, hm15⟩ : ∃ z, z = bs_tapes m11 0 f := ⟨_, rfl⟩
                  rw [← hm15]
                  refine am_goto eX8_look_148 ?_
                  refine am_return eX8_look_159 rfl (by omega) (by omega) ?_
                  exact ⟨rfl, congrArg (en_h m) (by first | (exfalso; omega) | (rw [hm15]; rw [hm11]; rw [bs_looks_c0]; rw [← hf, if_neg (by omega), if_pos (by omega)]; first | rw [if_pos (by omega)] | rw [if_neg (by omega)]))⟩
              · refine am_return eX8_look_95 rfl (by omega) (by omega) ?_
                exact ⟨rfl, congrArg (en_h m) (by rw [bs_looks_c0]; first | rw [if_pos (by omega)] | rw [if_neg (by omega), if_neg (by omega)] | (exfalso; omega))⟩
            · refine am_aload eX8_look_73 rfl ?_
              refine am_getf eX8_look_75 fX8_168 (en_c0 (m := m) (x := x) (i := (2 * t.toNat + 0)) (by omega)) rfl ?_
              have b16 := wb12 hW (2 * t.toNat + 0)
              refine am_bipush eX8_look_78 (by decide) ?_
              refine am_icmp_ge ⟨by omega, by omega⟩ ⟨by omega, by omega⟩ eX8_look_80 (fun c17 => ?_) (fun c17 => ?_)
              · refine am_return eX8_look_95 rfl (by omega) (by omega) ?_
                exact ⟨rfl, congrArg (en_h m) (by rw [bs_looks_c0]; first | rw [if_pos (by omega)] | rw [if_neg (by omega), if_neg (by omega)] | (exfalso; omega))⟩
              · refine am_aload_n eX8_look_83 rfl ?_
                refine am_iload_n eX8_look_84 rfl ?_
                refine am_iload_n eX8_look_85 rfl ?_
                refine am_mmin eX8_look_86 kX8_304.2.2.2 kX8_304.2.2.1 kX8_304.2.1.2.2 kX8_304.1 ⟨by omega, by omega⟩ ⟨by omega, by omega⟩ (by decide) (by simp) (by omega) (by omega) ?_
                refine am_topI (w := t) (by first | rw [if_pos (by omega)] | rw [if_neg (by omega)]) ?_
                refine am_cV eX8_look_89 kX8_206 (c_X8_isSeenAlongN (m := m) (x := x) hW (s := t) (n := t.toNat) (by omega) (by omega) (hF _ (by omega))) rfl rfl (en_c8 (m := m) (x := x)) (by decide) (by decide) (Nat.le_of_ble_eq_true rfl) (by omega) (by omega) ?_
                have q8 : an_see x t.toNat = 0 ∨ an_see x t.toNat = 1 := sp_sl_01 (σ := x) (s := t.toNat) (x 8 t.toNat).toNat
                refine am_if_ne ⟨by omega, by omega⟩ eX8_look_92 (fun c18 => ?_) (fun c18 => ?_)
                · refine am_aload_n eX8_look_96 rfl ?_
                  refine am_iload_n eX8_look_97 rfl ?_
                  refine am_aload eX8_look_98 rfl ?_
                  refine am_getf eX8_look_100 fX8_209 (en_c0 (m := m) (x := x) (i := (2 * (t.toNat + 1) + 0)) (by omega)) rfl ?_
                  refine am_topI (w := x 15 (2 * (t.toNat + 1) + 0)) (by exact if_pos cS) ?_
                  have b19 := wb15 hW (2 * (t.toNat + 1) + 0)
                  refine am_cV eX8_look_103 kX8_309 (c_X8_signAsRead (m := m) (x := x) hW (t := t) (sg := x 15 (2 * (t.toNat + 1) + 0)) (by omega) (by omega)) rfl rfl (en_c8 (m := m) (x := x)) (by decide) (by decide) (Nat.le_of_ble_eq_true rfl) (by omega) (by omega) ?_
                  have qf := an_reads_in hW (t := t) (sg := x 15 (2 * (t.toNat + 1) + 0)) (by omega)
                  obtain ⟨f, hf⟩ : ∃ z, z = an_reads x t (x 15 (2 * (t.toNat + 1) + 0)) := ⟨_, rfl⟩
                  rw [← hf] at qf
                  rw [← hf]
                  refine am_istore eX8_look_106 (by decide) ?_
                  refine am_aload eX8_look_108 rfl ?_
                  refine am_iconst eX8_look_110 ?_
                  refine am_putf eX8_look_111 fX8_209 rfl (en_c0 (m := m) (x := x) (i := (2 * (t.toNat + 1) + 0)) (by omega)) (Nat.le_of_ble_eq_true rfl) trivial (am_heq (cx_take (by omega)) ?_)
                  refine am_aload eX8_look_114 rfl ?_
                  refine am_getf eX8_look_116 fX8_185 (en_c0 (m := m) (x := (st x 16 (2 * (t.toNat + 1) + 0) 1)) (i := (2 * t.toNat + 0)) (by rw [((st_nf (by decide)).trans rfl)]; omega)) rfl ?_
                  refine am_aload_n eX8_look_119 rfl ?_
                  refine am_getf eX8_look_120 fX8_21 (en_c8 (m := m) (x := (st x 16 (2 * (t.toNat + 1) + 0) 1))) rfl ?_
                  refine am_topI (w := x 1 0) ((st_nf (by decide)).trans rfl) ?_
                  have b20 := wb1 hW 0
                  refine am_iload eX8_look_123 rfl ?_
                  refine am_iconst eX8_look_125 ?_
                  refine am_cV_v eX8_look_126 kX8_189 (c_X3_enterW (m := m) (x := (st x 16 (2 * (t.toNat + 1) + 0) 1)) (T := T) (wb_st (f := 16) hW (by show (0 : Int) ≤ _; omega) (by show _ ≤ (1 : Int); omega)) (w := 2 * t + 0) (i := (2 * t.toNat + 0)) (by omega) (by rw [((st_nf (by decide)).trans rfl)]; omega) (t := (x 1 0)) (s := f) (o := 0) (st_nf (by decide)).symm ⟨by omega, by omega⟩ ⟨by omega, by omega⟩ (Or.inl rfl)) rfl rfl (en_c3 (m := m) (x := (st x 16 (2 * (t.toNat + 1) + 0) 1)) (i := (2 * t.toNat + 0)) (by rw [((st_nf (by decide)).trans rfl)]; omega)) (by decide) (by decide) (Nat.le_of_ble_eq_true rfl) (by omega) (by omega) ?_
                  obtain ⟨m21, hm21⟩ : ∃ z, z = sp_writes (st x 16 (2 * (t.toNat + 1) + 0) 1) (2 * t + 0) f 0 := ⟨_, rfl⟩
                  rw [← hm21]
                  have hWm21 : md_wb T m21 := by rw [hm21]; exact sp_writes_wb (wb_st (f := 16) hW (by show (0 : Int) ≤ _; omega) (by show _ ≤ (1 : Int); omega)) (by omega) (Or.inl rfl)
                  refine am_iload eX8_look_129 rfl ?_
                  refine am_bz_eq eX8_look_131 (fun c22 => ?_) (fun c22 => ?_)
                  · refine am_aload eX8_look_151 rfl ?_
                    refine am_iload eX8_look_153 rfl ?_
                    refine am_cV eX8_look_155 kX8_179 (c_X0_keepOneK (m := m) (x := m21) hWm21 (i := (2 * t.toNat + 0)) (by rw [((congrFun (congrFun hm21 3) 0).trans ((sp_writes_f (by decide)).trans ((st_nf (by decide)).trans rfl)))]; omega) (s := f) ⟨by omega, by omega⟩ (c := (x 12 (2 * t.toNat + 0)).toNat) (by rw [((congrFun (congrFun hm21 12) (2 * t.toNat + 0)).trans ((sp_writes_f (by decide)).trans ((st_nf (by decide)).trans rfl)))]; omega) (by rw [((congrFun (congrFun hm21 12) (2 * t.toNat + 0)).trans ((sp_writes_f (by decide)).trans ((st_nf (by decide)).trans rfl)))]; omega)) rfl rfl (en_c0 (m := m) (x := m21) (i := (2 * t.toNat + 0)) (by rw [((congrFun (congrFun hm21 3) 0).trans ((sp_writes_f (by decide)).trans ((st_nf (by decide)).trans rfl)))]; omega)) (by decide) (by decide) (Nat.le_of_ble_eq_true rfl) (by omega) (by omega) ?_
                    obtain ⟨m23, hm23⟩ : ∃ z, z = sp_kp m21 (2 * t.toNat + 0) (x 12 (2 * t.toNat + 0)).toNat f := ⟨_, rfl⟩
                    rw [← hm23]
                    refine am_pop (by simp) eX8_look_158 ?_
                    refine am_return eX8_look_159 rfl (by omega) (by omega) ?_
                    exact ⟨rfl, congrArg (en_h m) (by first | (exfalso; omega) | (rw [hm23]; rw [hm21]; rw [bs_looks_c0]; rw [← hf, if_neg (by omega), if_pos (by omega)]; first | rw [if_pos (by omega)] | rw [if_neg (by omega)]))⟩
                  · refine am_aload_n eX8_look_134 rfl ?_
                    refine am_iload_n eX8_look_135 rfl ?_
                    refine am_cV eX8_look_136 kX8_232 (c_X8_tapeOf (m := m) (x := m21) (T := T) hWm21 (u := 0) (Or.inl rfl)) rfl rfl (en_c8 (m := m) (x := m21)) (by decide) (by decide) (Nat.le_of_ble_eq_true rfl) (by omega) (by omega) ?_
                    refine am_steq (st' := am_R (6, 0) :: _) rfl ?_
                    refine am_iload eX8_look_139 rfl ?_
                    refine am_aload_n eX8_look_141 rfl ?_
                    refine am_getf eX8_look_142 fX8_21 (en_c8 (m := m) (x := m21)) rfl ?_
                    refine am_topI (w := x 1 0) ((congrFun (congrFun hm21 1) 0).trans ((sp_writes_f (by decide)).trans ((st_nf (by decide)).trans rfl))) ?_
                    have b24 := wb1 hW 0
                    have hD1 : sg_D m21 := sg_D_of (fun f j h => by rw [hm21, sp_writes_f (by omega), st_nf (by omega)]) hD
                    have hz : f = 92 → 2 ≤ mc ∧ 66 ≤ ms := fun z => hmc (by rw [bs_looks_c0, if_neg (by omega), if_pos (by omega), if_pos (by omega)]; unfold bs_tapes; rw [mg_hi (by decide), sx_tape_51, ← hf, if_pos z, sp_writes_f (by omega), st_nf (by decide)]; omega)
                    refine am_cM_v (mc' := mc) (ms' := ms) eX8_look_145 kX8_312 (c_X6_putOn (m := m) (x := m21) hWm21 hD1 (w := 0) (by decide) (by rw [((congrFun (congrFun hm21 28) 0).trans ((sp_writes_f (by decide)).trans ((st_nf (by decide)).trans rfl)))]; exact h8 _) (s := f) (t := (x 1 0)) (by omega) hz) rfl rfl (en_c6 (by decide)) (by decide) (by decide) (Nat.le_of_ble_eq_true rfl) (by omega) (by omega) ?_
                    refine am_heq (cx_tapes (m := m) (σ := m21) hWm21 hD1 (by decide) (((congrFun (congrFun hm21 1) 0).trans ((sp_writes_f (by decide)).trans ((st_nf (by decide)).trans rfl)))).symm) ?_
                    obtain ⟨m25, hm25⟩ : ∃ z, z = bs_tapes m21 0 f := ⟨_, rfl⟩
                    rw [← hm25]
                    refine am_goto eX8_look_148 ?_
                    refine am_return eX8_look_159 rfl (by omega) (by omega) ?_
                    exact ⟨rfl, congrArg (en_h m) (by first | (exfalso; omega) | (rw [hm25]; rw [hm21]; rw [bs_looks_c0]; rw [← hf, if_neg (by omega), if_pos (by omega)]; first | rw [if_pos (by omega)] | rw [if_neg (by omega)]))⟩
                · refine am_return eX8_look_95 rfl (by omega) (by omega) ?_
                  exact ⟨rfl, congrArg (en_h m) (by rw [bs_looks_c0]; first | rw [if_pos (by omega)] | rw [if_neg (by omega), if_neg (by omega)] | (exfalso; omega))⟩
        · refine am_return eX8_look_26 rfl (by omega) (by omega) ?_
          exact ⟨rfl, congrArg (en_h m) (by rw [bs_looks_c0]; first | rw [if_pos (by omega)] | rw [if_neg (by omega), if_neg (by omega)] | (exfalso; omega))⟩
    · refine am_iload_n eX8_look_0 rfl ?_
      refine am_if_eq ⟨by omega, by omega⟩ eX8_look_1 (fun _ => ?_) (fun z => absurd z (by decide))
      refine am_iload_n eX8_look_10 rfl ?_
      refine am_iconst eX8_look_11 ?_
      refine am_iadd eX8_look_12 ?_
      refine am_istore_n eX8_look_13 (by decide) ?_
      refine am_iload_n eX8_look_14 rfl ?_
      refine am_if_lt ⟨by omega, by omega⟩ eX8_look_15 (fun c2 => ?_) (fun c2 => ?_)
      · refine am_return eX8_look_26 rfl (by omega) (by omega) ?_
        exact ⟨rfl, congrArg (en_h m) (by rw [bs_looks_c0]; first | rw [if_pos (by omega)] | rw [if_neg (by omega), if_neg (by omega)] | (exfalso; omega))⟩
      · refine am_iload_n eX8_look_18 rfl ?_
        refine am_aload_n eX8_look_19 rfl ?_
        refine am_getf eX8_look_20 fX8_66 (en_c8 (m := m) (x := x)) rfl ?_
        have b3 := wb3 hW 0
        refine am_icmp_lt ⟨by omega, by omega⟩ ⟨by omega, by omega⟩ eX8_look_23 (fun c4 => ?_) (fun c4 => ?_)
        · refine am_aload_n eX8_look_27 rfl ?_
          refine am_getf eX8_look_28 fX8_11 (en_c8 (m := m) (x := x)) rfl ?_
          refine am_iload_n eX8_look_31 rfl ?_
          refine am_aald (kd := 3) (x := am_R (7, (t.toNat + 1))) eX8_look_32 (en_c200 (m := m) (x := x)) (by decide) (by decide) (by omega) (by omega) (by decide) (by rw [show (((t + 1)).toNat) = (t.toNat + 1) by omega]; exact if_pos (by omega)) ?_
          refine am_iload_n eX8_look_33 rfl ?_
          refine am_cV eX8_look_34 kX8_171 (c_X7_armFor (m := m) (x := x) (T := T) hW (i := (t.toNat + 1)) (by omega) (u := 0) (Or.inl rfl)) rfl rfl (en_c7 (m := m) (x := x) (i := (t.toNat + 1)) (by omega)) (by decide) (by decide) (Nat.le_of_ble_eq_true rfl) (by omega) (by omega) ?_
          refine am_steq (st' := am_R (0, 2 * (t.toNat + 1) + 0) :: _) rfl ?_
          refine am_astore eX8_look_37 (by decide) ?_
          refine am_aload_n eX8_look_39 rfl ?_
          refine am_getf eX8_look_40 fX8_11 (en_c8 (m := m) (x := x)) rfl ?_
          refine am_iload_n eX8_look_43 rfl ?_
          refine am_aald (kd := 3) (x := am_R (7, t.toNat)) eX8_look_44 (en_c200 (m := m) (x := x)) (by decide) (by decide) (by omega) (by omega) (by decide) (by rw [show ((t).toNat) = t.toNat by omega]; exact if_pos (by omega)) ?_
          refine am_iload_n eX8_look_45 rfl ?_
          refine am_cV eX8_look_46 kX8_171 (c_X7_armFor (m := m) (x := x) (T := T) hW (i := t.toNat) (by omega) (u := 0) (Or.inl rfl)) rfl rfl (en_c7 (m := m) (x := x) (i := t.toNat) (by omega)) (by decide) (by decide) (Nat.le_of_ble_eq_true rfl) (by omega) (by omega) ?_
          refine am_steq (st' := am_R (0, 2 * t.toNat + 0) :: _) rfl ?_
          refine am_astore eX8_look_49 (by decide) ?_
          refine am_aload_n eX8_look_51 rfl ?_
          refine am_iload_n eX8_look_52 rfl ?_
          refine am_iload_n eX8_look_53 rfl ?_
          refine am_cV eX8_look_54 kX8_175 (c_X8_isEnd (m := m) (x := x) (T := T) hW (a := t) (u := 0) ⟨by omega, by omega⟩ (Or.inl rfl)) rfl rfl (en_c8 (m := m) (x := x)) (by decide) (by decide) (Nat.le_of_ble_eq_true rfl) (by omega) (by omega) ?_
          refine am_topI (w := bz (decide (t = 0))) (by first | rfl | (simp [st]; done) | (simp [st, st]; done) | simp [show _ = x 3 0 from rfl]) ?_
          refine am_istore eX8_look_57 (by decide) ?_
          refine am_aload eX8_look_59 rfl ?_
          refine am_getf eX8_look_61 fX8_209 (en_c0 (m := m) (x := x) (i := (2 * (t.toNat + 1) + 0)) (by omega)) rfl ?_
          refine am_topI (w := -1) (by exact if_neg cS) ?_
          refine am_iconst eX8_look_64 ?_
          refine am_icmp_eq ⟨by omega, by omega⟩ ⟨by omega, by omega⟩ eX8_look_65 (fun _ => ?_) (fun z => absurd z (by decide))
          refine am_return eX8_look_95 rfl (by omega) (by omega) ?_
          exact ⟨rfl, congrArg (en_h m) (by rw [bs_looks_c0]; first | rw [if_pos (by omega)] | rw [if_neg (by omega), if_neg (by omega)] | (exfalso; omega))⟩
        · refine am_return eX8_look_26 rfl (by omega) (by omega) ?_
          exact ⟨rfl, congrArg (en_h m) (by rw [bs_looks_c0]; first | rw [if_pos (by omega)] | rw [if_neg (by omega), if_neg (by omega)] | (exfalso; omega))⟩
  · by_cases cS : x 16 (2 * (t.toNat - 1) + 1) = 0
    · refine am_iload_n eX8_look_0 rfl ?_
      refine am_if_eq ⟨by omega, by omega⟩ eX8_look_1 (fun z => absurd z (by decide)) (fun _ => ?_)
      refine am_iload_n eX8_look_4 rfl ?_
      refine am_iconst eX8_look_5 ?_
      refine am_isub eX8_look_6 ?_
      refine am_goto eX8_look_7 ?_
      refine am_istore_n eX8_look_13 (by decide) ?_
      refine am_iload_n eX8_look_14 rfl ?_
      refine am_if_lt ⟨by omega, by omega⟩ eX8_look_15 (fun c2 => ?_) (fun c2 => ?_)
      · refine am_return eX8_look_26 rfl (by omega) (by omega) ?_
        exact ⟨rfl, congrArg (en_h m) (by rw [bs_looks_c1]; first | rw [if_pos (by omega)] | rw [if_neg (by omega), if_neg (by omega)] | (exfalso; omega))⟩
      · refine am_iload_n eX8_look_18 rfl ?_
        refine am_aload_n eX8_look_19 rfl ?_
        refine am_getf eX8_look_20 fX8_66 (en_c8 (m := m) (x := x)) rfl ?_
        have b3 := wb3 hW 0
        refine am_icmp_lt ⟨by omega, by omega⟩ ⟨by omega, by omega⟩ eX8_look_23 (fun c4 => ?_) (fun c4 => ?_)
        · refine am_aload_n eX8_look_27 rfl ?_
          refine am_getf eX8_look_28 fX8_11 (en_c8 (m := m) (x := x)) rfl ?_
          refine am_iload_n eX8_look_31 rfl ?_
          refine am_aald (kd := 3) (x := am_R (7, (t.toNat - 1))) eX8_look_32 (en_c200 (m := m) (x := x)) (by decide) (by decide) (by omega) (by omega) (by decide) (by rw [show (((t - 1)).toNat) = (t.toNat - 1) by omega]; exact if_pos (by omega)) ?_
          refine am_iload_n eX8_look_33 rfl ?_
          refine am_cV eX8_look_34 kX8_171 (c_X7_armFor (m := m) (x := x) (T := T) hW (i := (t.toNat - 1)) (by omega) (u := 1) (Or.inr rfl)) rfl rfl (en_c7 (m := m) (x := x) (i := (t.toNat - 1)) (by omega)) (by decide) (by decide) (Nat.le_of_ble_eq_true rfl) (by omega) (by omega) ?_
          refine am_steq (st' := am_R (0, 2 * (t.toNat - 1) + 1) :: _) rfl ?_
          refine am_astore eX8_look_37 (by decide) ?_
          refine am_aload_n eX8_look_39 rfl ?_
          refine am_getf eX8_look_40 fX8_11 (en_c8 (m := m) (x := x)) rfl ?_
          refine am_iload_n eX8_look_43 rfl ?_
          refine am_aald (kd := 3) (x := am_R (7, t.toNat)) eX8_look_44 (en_c200 (m := m) (x := x)) (by decide) (by decide) (by omega) (by omega) (by decide) (by rw [show ((t).toNat) = t.toNat by omega]; exact if_pos (by omega)) ?_
          refine am_iload_n eX8_look_45 rfl ?_
          refine am_cV eX8_look_46 kX8_171 (c_X7_armFor (m := m) (x := x) (T := T) hW (i := t.toNat) (by omega) (u := 1) (Or.inr rfl)) rfl rfl (en_c7 (m := m) (x := x) (i := t.toNat) (by omega)) (by decide) (by decide) (Nat.le_of_ble_eq_true rfl) (by omega) (by omega) ?_
          refine am_steq (st' := am_R (0, 2 * t.toNat + 1) :: _) rfl ?_
          refine am_astore eX8_look_49 (by decide) ?_
          refine am_aload_n eX8_look_51 rfl ?_
          refine am_iload_n eX8_look_52 rfl ?_
          refine am_iload_n eX8_look_53 rfl ?_
          refine am_cV eX8_look_54 kX8_175 (c_X8_isEnd (m := m) (x := x) (T := T) hW (a := t) (u := 1) ⟨by omega, by omega⟩ (Or.inr rfl)) rfl rfl (en_c8 (m := m) (x := x)) (by decide) (by decide) (Nat.le_of_ble_eq_true rfl) (by omega) (by omega) ?_
          refine am_topI (w := bz (decide (t = x 3 0 - 1))) (by first | rfl | (simp [st]; done) | (simp [st, st]; done) | simp [show _ = x 3 0 from rfl]) ?_
          refine am_istore eX8_look_57 (by decide) ?_
          refine am_aload eX8_look_59 rfl ?_
          refine am_getf eX8_look_61 fX8_209 (en_c0 (m := m) (x := x) (i := (2 * (t.toNat - 1) + 1)) (by omega)) rfl ?_
          refine am_topI (w := x 15 (2 * (t.toNat - 1) + 1)) (by exact if_pos cS) ?_
          have b5 := wb15 hW (2 * (t.toNat - 1) + 1)
          refine am_iconst eX8_look_64 ?_
          refine am_icmp_eq ⟨by omega, by omega⟩ ⟨by omega, by omega⟩ eX8_look_65 (fun c6 => ?_) (fun c6 => ?_)
          · refine am_return eX8_look_95 rfl (by omega) (by omega) ?_
            exact ⟨rfl, congrArg (en_h m) (by rw [bs_looks_c1]; first | rw [if_pos (by omega)] | rw [if_neg (by omega), if_neg (by omega)] | (exfalso; omega))⟩
          · refine am_iload eX8_look_68 rfl ?_
            refine am_bz_ne eX8_look_70 (fun c7 => ?_) (fun c7 => ?_)
            · refine am_aload_n eX8_look_83 rfl ?_
              refine am_iload_n eX8_look_84 rfl ?_
              refine am_iload_n eX8_look_85 rfl ?_
              refine am_mmin eX8_look_86 kX8_304.2.2.2 kX8_304.2.2.1 kX8_304.2.1.2.2 kX8_304.1 ⟨by omega, by omega⟩ ⟨by omega, by omega⟩ (by decide) (by simp) (by omega) (by omega) ?_
              refine am_topI (w := (t - 1)) (by first | rw [if_pos (by omega)] | rw [if_neg (by omega)]) ?_
              refine am_cV eX8_look_89 kX8_206 (c_X8_isSeenAlongN (m := m) (x := x) hW (s := (t - 1)) (n := (t.toNat - 1)) (by omega) (by omega) (hF _ (by omega))) rfl rfl (en_c8 (m := m) (x := x)) (by decide) (by decide) (Nat.le_of_ble_eq_true rfl) (by omega) (by omega) ?_
              have q8 : an_see x (t.toNat - 1) = 0 ∨ an_see x (t.toNat - 1) = 1 := sp_sl_01 (σ := x) (s := (t.toNat - 1)) (x 8 (t.toNat - 1)).toNat
              refine am_if_ne ⟨by omega, by omega⟩ eX8_look_92 (fun c8 => ?_) (fun c8 => ?_)
              · refine am_aload_n eX8_look_96 rfl ?_
                refine am_iload_n eX8_look_97 rfl ?_
                refine am_aload eX8_look_98 rfl ?_
                refine am_getf eX8_look_100 fX8_209 (en_c0 (m := m) (x := x) (i := (2 * (t.toNat - 1) + 1)) (by omega)) rfl ?_
                refine am_topI (w := x 15 (2 * (t.toNat - 1) + 1)) (by exact if_pos cS) ?_
                have b9 := wb15 hW (2 * (t.toNat - 1) + 1)
                refine am_cV eX8_look_103 kX8_309 (c_X8_signAsRead (m := m) (x := x) hW (t := t) (sg := x 15 (2 * (t.toNat - 1) + 1)) (by omega) (by omega)) rfl rfl (en_c8 (m := m) (x := x)) (by decide) (by decide) (Nat.le_of_ble_eq_true rfl) (by omega) (by omega) ?_
                have qf := an_reads_in hW (t := t) (sg := x 15 (2 * (t.toNat - 1) + 1)) (by omega)
                obtain ⟨f, hf⟩ : ∃ z, z = an_reads x t (x 15 (2 * (t.toNat - 1) + 1)) := ⟨_, rfl⟩
                rw [← hf] at qf
                rw [← hf]
                refine am_istore eX8_look_106 (by decide) ?_
                refine am_aload eX8_look_108 rfl ?_
                refine am_iconst eX8_look_110 ?_
                refine am_putf eX8_look_111 fX8_209 rfl (en_c0 (m := m) (x := x) (i := (2 * (t.toNat - 1) + 1)) (by omega)) (Nat.le_of_ble_eq_true rfl) trivial (am_heq (cx_take (by omega)) ?_)
                refine am_aload eX8_look_114 rfl ?_
                refine am_getf eX8_look_116 fX8_185 (en_c0 (m := m) (x := (st x 16 (2 * (t.toNat - 1) + 1) 1)) (i := (2 * t.toNat + 1)) (by rw [((st_nf (by decide)).trans rfl)]; omega)) rfl ?_
                refine am_aload_n eX8_look_119 rfl ?_
                refine am_getf eX8_look_120 fX8_21 (en_c8 (m := m) (x := (st x 16 (2 * (t.toNat - 1) + 1) 1))) rfl ?_
                refine am_topI (w := x 1 0) ((st_nf (by decide)).trans rfl) ?_
                have b10 := wb1 hW 0
                refine am_iload eX8_look_123 rfl ?_
                refine am_iconst eX8_look_125 ?_
                refine am_cV_v eX8_look_126 kX8_189 (c_X3_enterW (m := m) (x := (st x 16 (2 * (t.toNat - 1) + 1) 1)) (T := T) (wb_st (f := 16) hW (by show (0 : Int) ≤ _; omega) (by show _ ≤ (1 : Int); omega)) (w := 2 * t + 1) (i := (2 * t.toNat + 1)) (by omega) (by rw [((st_nf (by decide)).trans rfl)]; omega) (t := (x 1 0)) (s := f) (o := 0) (st_nf (by decide)).symm ⟨by omega, by omega⟩ ⟨by omega, by omega⟩ (Or.inl rfl)) rfl rfl (en_c3 (m := m) (x := (st x 16 (2 * (t.toNat - 1) + 1) 1)) (i := (2 * t.toNat + 1)) (by rw [((st_nf (by decide)).trans rfl)]; omega)) (by decide) (by decide) (Nat.le_of_ble_eq_true rfl) (by omega) (by omega) ?_
                obtain ⟨m11, hm11⟩ : ∃ z, z = sp_writes (st x 16 (2 * (t.toNat - 1) + 1) 1) (2 * t + 1) f 0 := ⟨_, rfl⟩
                rw [← hm11]
                have hWm11 : md_wb T m11 := by rw [hm11]; exact sp_writes_wb (wb_st (f := 16) hW (by show (0 : Int) ≤ _; omega) (by show _ ≤ (1 : Int); omega)) (by omega) (Or.inl rfl)
                refine am_iload eX8_look_129 rfl ?_
                refine am_bz_eq eX8_look_131 (fun c12 => ?_) (fun c12 => ?_)
                · refine am_aload eX8_look_151 rfl ?_
                  refine am_iload eX8_look_153 rfl ?_
                  refine am_cV eX8_look_155 kX8_179 (c_X0_keepOneK (m := m) (x := m11) hWm11 (i := (2 * t.toNat + 1)) (by rw [((congrFun (congrFun hm11 3) 0).trans ((sp_writes_f (by decide)).trans ((st_nf (by decide)).trans rfl)))]; omega) (s := f) ⟨by omega, by omega⟩ (c := (x 12 (2 * t.toNat + 1)).toNat) (by rw [((congrFun (congrFun hm11 12) (2 * t.toNat + 1)).trans ((sp_writes_f (by decide)).trans ((st_nf (by decide)).trans rfl)))]; omega) (by rw [((congrFun (congrFun hm11 12) (2 * t.toNat + 1)).trans ((sp_writes_f (by decide)).trans ((st_nf (by decide)).trans rfl)))]; omega)) rfl rfl (en_c0 (m := m) (x := m11) (i := (2 * t.toNat + 1)) (by rw [((congrFun (congrFun hm11 3) 0).trans ((sp_writes_f (by decide)).trans ((st_nf (by decide)).trans rfl)))]; omega)) (by decide) (by decide) (Nat.le_of_ble_eq_true rfl) (by omega) (by omega) ?_
                  obtain ⟨m13, hm13⟩ : ∃ z, z = sp_kp m11 (2 * t.toNat + 1) (x 12 (2 * t.toNat + 1)).toNat f := ⟨_, rfl⟩
                  rw [← hm13]
                  refine am_pop (by simp) eX8_look_158 ?_
                  refine am_return eX8_look_159 rfl (by omega) (by omega) ?_
                  exact ⟨rfl, congrArg (en_h m) (by first | (exfalso; omega) | (rw [hm13]; rw [hm11]; rw [bs_looks_c1]; rw [← hf, if_neg (by omega), if_pos (by omega)]; first | rw [if_pos (by omega)] | rw [if_neg (by omega)]))⟩
                · refine am_aload_n eX8_look_134 rfl ?_
                  refine am_iload_n eX8_look_135 rfl ?_
                  refine am_cV eX8_look_136 kX8_232 (c_X8_tapeOf (m := m) (x := m11) (T := T) hWm11 (u := 1) (Or.inr rfl)) rfl rfl (en_c8 (m := m) (x := m11)) (by decide) (by decide) (Nat.le_of_ble_eq_true rfl) (by omega) (by omega) ?_
                  refine am_steq (st' := am_R (6, 1) :: _) rfl ?_
                  refine am_iload eX8_look_139 rfl ?_
                  refine am_aload_n eX8_look_141 rfl ?_
                  refine am_getf eX8_look_142 fX8_21 (en_c8 (m := m) (x := m11)) rfl ?_
                  refine am_topI (w := x 1 0) ((congrFun (congrFun hm11 1) 0).trans ((sp_writes_f (by decide)).trans ((st_nf (by decide)).trans rfl))) ?_
                  have b14 := wb1 hW 0
                  have hD1 : sg_D m11 := sg_D_of (fun f j h => by rw [hm11, sp_writes_f (by omega), st_nf (by omega)]) hD
                  have hz : f = 92 → 2 ≤ mc ∧ 66 ≤ ms := fun z => hmc (by rw [bs_looks_c1, if_neg (by omega), if_pos (by omega), if_pos (by omega)]; unfold bs_tapes; rw [mg_hi (by decide), sx_tape_51, ← hf, if_pos z, sp_writes_f (by omega), st_nf (by decide)]; omega)
                  refine am_cM_v (mc' := mc) (ms' := ms) eX8_look_145 kX8_312 (c_X6_putOn (m := m) (x := m11) hWm11 hD1 (w := 1) (by decide) (by rw [((congrFun (congrFun hm11 28) 1).trans ((sp_writes_f (by decide)).trans ((st_nf (by decide)).trans rfl)))]; exact h8 _) (s := f) (t := (x 1 0)) (by omega) hz) rfl rfl (en_c6 (by decide)) (by decide) (by decide) (Nat.le_of_ble_eq_true rfl) (by omega) (by omega) ?_
                  refine am_heq (cx_tapes (m := m) (σ := m11) hWm11 hD1 (by decide) (((congrFun (congrFun hm11 1) 0).trans ((sp_writes_f (by decide)).trans ((st_nf (by decide)).trans rfl)))).symm) ?_
                  obtain ⟨m15, hm15⟩ : ∃ z, z = bs_tapes m11 1 f := ⟨_, rfl⟩
                  rw [← hm15]
                  refine am_goto eX8_look_148 ?_
                  refine am_return eX8_look_159 rfl (by omega) (by omega) ?_
                  exact ⟨rfl, congrArg (en_h m) (by first | (exfalso; omega) | (rw [hm15]; rw [hm11]; rw [bs_looks_c1]; rw [← hf, if_neg (by omega), if_pos (by omega)]; first | rw [if_pos (by omega)] | rw [if_neg (by omega)]))⟩
              · refine am_return eX8_look_95 rfl (by omega) (by omega) ?_
                exact ⟨rfl, congrArg (en_h m) (by rw [bs_looks_c1]; first | rw [if_pos (by omega)] | rw [if_neg (by omega), if_neg (by omega)] | (exfalso; omega))⟩
            · refine am_aload eX8_look_73 rfl ?_
              refine am_getf eX8_look_75 fX8_168 (en_c0 (m := m) (x := x) (i := (2 * t.toNat + 1)) (by omega)) rfl ?_
              have b16 := wb12 hW (2 * t.toNat + 1)
              refine am_bipush eX8_look_78 (by decide) ?_
              refine am_icmp_ge ⟨by omega, by omega⟩ ⟨by omega, by omega⟩ eX8_look_80 (fun c17 => ?_) (fun c17 => ?_)
              · refine am_return eX8_look_95 rfl (by omega) (by omega) ?_
                exact ⟨rfl, congrArg (en_h m) (by rw [bs_looks_c1]; first | rw [if_pos (by omega)] | rw [if_neg (by omega), if_neg (by omega)] | (exfalso; omega))⟩
              · refine am_aload_n eX8_look_83 rfl ?_
                refine am_iload_n eX8_look_84 rfl ?_
                refine am_iload_n eX8_look_85 rfl ?_
                refine am_mmin eX8_look_86 kX8_304.2.2.2 kX8_304.2.2.1 kX8_304.2.1.2.2 kX8_304.1 ⟨by omega, by omega⟩ ⟨by omega, by omega⟩ (by decide) (by simp) (by omega) (by omega) ?_
                refine am_topI (w := (t - 1)) (by first | rw [if_pos (by omega)] | rw [if_neg (by omega)]) ?_
                refine am_cV eX8_look_89 kX8_206 (c_X8_isSeenAlongN (m := m) (x := x) hW (s := (t - 1)) (n := (t.toNat - 1)) (by omega) (by omega) (hF _ (by omega))) rfl rfl (en_c8 (m := m) (x := x)) (by decide) (by decide) (Nat.le_of_ble_eq_true rfl) (by omega) (by omega) ?_
                have q8 : an_see x (t.toNat - 1) = 0 ∨ an_see x (t.toNat - 1) = 1 := sp_sl_01 (σ := x) (s := (t.toNat - 1)) (x 8 (t.toNat - 1)).toNat
                refine am_if_ne ⟨by omega, by omega⟩ eX8_look_92 (fun c18 => ?_) (fun c18 => ?_)
                · refine am_aload_n eX8_look_96 rfl ?_
                  refine am_iload_n eX8_look_97 rfl ?_
                  refine am_aload eX8_look_98 rfl ?_
                  refine am_getf eX8_look_100 fX8_209 (en_c0 (m := m) (x := x) (i := (2 * (t.toNat - 1) + 1)) (by omega)) rfl ?_
                  refine am_topI (w := x 15 (2 * (t.toNat - 1) + 1)) (by exact if_pos cS) ?_
                  have b19 := wb15 hW (2 * (t.toNat - 1) + 1)
                  refine am_cV eX8_look_103 kX8_309 (c_X8_signAsRead (m := m) (x := x) hW (t := t) (sg := x 15 (2 * (t.toNat - 1) + 1)) (by omega) (by omega)) rfl rfl (en_c8 (m := m) (x := x)) (by decide) (by decide) (Nat.le_of_ble_eq_true rfl) (by omega) (by omega) ?_
                  have qf := an_reads_in hW (t := t) (sg := x 15 (2 * (t.toNat - 1) + 1)) (by omega)
                  obtain ⟨f, hf⟩ : ∃ z, z = an_reads x t (x 15 (2 * (t.toNat - 1) + 1)) := ⟨_, rfl⟩
                  rw [← hf] at qf
                  rw [← hf]
                  refine am_istore eX8_look_106 (by decide) ?_
                  refine am_aload eX8_look_108 rfl ?_
                  refine am_iconst eX8_look_110 ?_
                  refine am_putf eX8_look_111 fX8_209 rfl (en_c0 (m := m) (x := x) (i := (2 * (t.toNat - 1) + 1)) (by omega)) (Nat.le_of_ble_eq_true rfl) trivial (am_heq (cx_take (by omega)) ?_)
                  refine am_aload eX8_look_114 rfl ?_
                  refine am_getf eX8_look_116 fX8_185 (en_c0 (m := m) (x := (st x 16 (2 * (t.toNat - 1) + 1) 1)) (i := (2 * t.toNat + 1)) (by rw [((st_nf (by decide)).trans rfl)]; omega)) rfl ?_
                  refine am_aload_n eX8_look_119 rfl ?_
                  refine am_getf eX8_look_120 fX8_21 (en_c8 (m := m) (x := (st x 16 (2 * (t.toNat - 1) + 1) 1))) rfl ?_
                  refine am_topI (w := x 1 0) ((st_nf (by decide)).trans rfl) ?_
                  have b20 := wb1 hW 0
                  refine am_iload eX8_look_123 rfl ?_
                  refine am_iconst eX8_look_125 ?_
                  refine am_cV_v eX8_look_126 kX8_189 (c_X3_enterW (m := m) (x := (st x 16 (2 * (t.toNat - 1) + 1) 1)) (T := T) (wb_st (f := 16) hW (by show (0 : Int) ≤ _; omega) (by show _ ≤ (1 : Int); omega)) (w := 2 * t + 1) (i := (2 * t.toNat + 1)) (by omega) (by rw [((st_nf (by decide)).trans rfl)]; omega) (t := (x 1 0)) (s := f) (o := 0) (st_nf (by decide)).symm ⟨by omega, by omega⟩ ⟨by omega, by omega⟩ (Or.inl rfl)) rfl rfl (en_c3 (m := m) (x := (st x 16 (2 * (t.toNat - 1) + 1) 1)) (i := (2 * t.toNat + 1)) (by rw [((st_nf (by decide)).trans rfl)]; omega)) (by decide) (by decide) (Nat.le_of_ble_eq_true rfl) (by omega) (by omega) ?_
                  obtain ⟨m21, hm21⟩ : ∃ z, z = sp_writes (st x 16 (2 * (t.toNat - 1) + 1) 1) (2 * t + 1) f 0 := ⟨_, rfl⟩
                  rw [← hm21]
                  have hWm21 : md_wb T m21 := by rw [hm21]; exact sp_writes_wb (wb_st (f := 16) hW (by show (0 : Int) ≤ _; omega) (by show _ ≤ (1 : Int); omega)) (by omega) (Or.inl rfl)
                  refine am_iload eX8_look_129 rfl ?_
                  refine am_bz_eq eX8_look_131 (fun c22 => ?_) (fun c22 => ?_)
                  · refine am_aload eX8_look_151 rfl ?_
                    refine am_iload eX8_look_153 rfl ?_
                    refine am_cV eX8_look_155 kX8_179 (c_X0_keepOneK (m := m) (x := m21) hWm21 (i := (2 * t.toNat + 1)) (by rw [((congrFun (congrFun hm21 3) 0).trans ((sp_writes_f (by decide)).trans ((st_nf (by decide)).trans rfl)))]; omega) (s := f) ⟨by omega, by omega⟩ (c := (x 12 (2 * t.toNat + 1)).toNat) (by rw [((congrFun (congrFun hm21 12) (2 * t.toNat + 1)).trans ((sp_writes_f (by decide)).trans ((st_nf (by decide)).trans rfl)))]; omega) (by rw [((congrFun (congrFun hm21 12) (2 * t.toNat + 1)).trans ((sp_writes_f (by decide)).trans ((st_nf (by decide)).trans rfl)))]; omega)) rfl rfl (en_c0 (m := m) (x := m21) (i := (2 * t.toNat + 1)) (by rw [((congrFun (congrFun hm21 3) 0).trans ((sp_writes_f (by decide)).trans ((st_nf (by decide)).trans rfl)))]; omega)) (by decide) (by decide) (Nat.le_of_ble_eq_true rfl) (by omega) (by omega) ?_
                    obtain ⟨m23, hm23⟩ : ∃ z, z = sp_kp m21 (2 * t.toNat + 1) (x 12 (2 * t.toNat + 1)).toNat f := ⟨_, rfl⟩
                    rw [← hm23]
                    refine am_pop (by simp) eX8_look_158 ?_
                    refine am_return eX8_look_159 rfl (by omega) (by omega) ?_
                    exact ⟨rfl, congrArg (en_h m) (by first | (exfalso; omega) | (rw [hm23]; rw [hm21]; rw [bs_looks_c1]; rw [← hf, if_neg (by omega), if_pos (by omega)]; first | rw [if_pos (by omega)] | rw [if_neg (by omega)]))⟩
                  · refine am_aload_n eX8_look_134 rfl ?_
                    refine am_iload_n eX8_look_135 rfl ?_
                    refine am_cV eX8_look_136 kX8_232 (c_X8_tapeOf (m := m) (x := m21) (T := T) hWm21 (u := 1) (Or.inr rfl)) rfl rfl (en_c8 (m := m) (x := m21)) (by decide) (by decide) (Nat.le_of_ble_eq_true rfl) (by omega) (by omega) ?_
                    refine am_steq (st' := am_R (6, 1) :: _) rfl ?_
                    refine am_iload eX8_look_139 rfl ?_
                    refine am_aload_n eX8_look_141 rfl ?_
                    refine am_getf eX8_look_142 fX8_21 (en_c8 (m := m) (x := m21)) rfl ?_
                    refine am_topI (w := x 1 0) ((congrFun (congrFun hm21 1) 0).trans ((sp_writes_f (by decide)).trans ((st_nf (by decide)).trans rfl))) ?_
                    have b24 := wb1 hW 0
                    have hD1 : sg_D m21 := sg_D_of (fun f j h => by rw [hm21, sp_writes_f (by omega), st_nf (by omega)]) hD
                    have hz : f = 92 → 2 ≤ mc ∧ 66 ≤ ms := fun z => hmc (by rw [bs_looks_c1, if_neg (by omega), if_pos (by omega), if_pos (by omega)]; unfold bs_tapes; rw [mg_hi (by decide), sx_tape_51, ← hf, if_pos z, sp_writes_f (by omega), st_nf (by decide)]; omega)
                    refine am_cM_v (mc' := mc) (ms' := ms) eX8_look_145 kX8_312 (c_X6_putOn (m := m) (x := m21) hWm21 hD1 (w := 1) (by decide) (by rw [((congrFun (congrFun hm21 28) 1).trans ((sp_writes_f (by decide)).trans ((st_nf (by decide)).trans rfl)))]; exact h8 _) (s := f) (t := (x 1 0)) (by omega) hz) rfl rfl (en_c6 (by decide)) (by decide) (by decide) (Nat.le_of_ble_eq_true rfl) (by omega) (by omega) ?_
                    refine am_heq (cx_tapes (m := m) (σ := m21) hWm21 hD1 (by decide) (((congrFun (congrFun hm21 1) 0).trans ((sp_writes_f (by decide)).trans ((st_nf (by decide)).trans rfl)))).symm) ?_
                    obtain ⟨m25, hm25⟩ : ∃ z, z = bs_tapes m21 1 f := ⟨_, rfl⟩
                    rw [← hm25]
                    refine am_goto eX8_look_148 ?_
                    refine am_return eX8_look_159 rfl (by omega) (by omega) ?_
                    exact ⟨rfl, congrArg (en_h m) (by first | (exfalso; omega) | (rw [hm25]; rw [hm21]; rw [bs_looks_c1]; rw [← hf, if_neg (by omega), if_pos (by omega)]; first | rw [if_pos (by omega)] | rw [if_neg (by omega)]))⟩
                · refine am_return eX8_look_95 rfl (by omega) (by omega) ?_
                  exact ⟨rfl, congrArg (en_h m) (by rw [bs_looks_c1]; first | rw [if_pos (by omega)] | rw [if_neg (by omega), if_neg (by omega)] | (exfalso; omega))⟩
        · refine am_return eX8_look_26 rfl (by omega) (by omega) ?_
          exact ⟨rfl, congrArg (en_h m) (by rw [bs_looks_c1]; first | rw [if_pos (by omega)] | rw [if_neg (by omega), if_neg (by omega)] | (exfalso; omega))⟩
    · refine am_iload_n eX8_look_0 rfl ?_
      refine am_if_eq ⟨by omega, by omega⟩ eX8_look_1 (fun z => absurd z (by decide)) (fun _ => ?_)
      refine am_iload_n eX8_look_4 rfl ?_
      refine am_iconst eX8_look_5 ?_
      refine am_isub eX8_look_6 ?_
      refine am_goto eX8_look_7 ?_
      refine am_istore_n eX8_look_13 (by decide) ?_
      refine am_iload_n eX8_look_14 rfl ?_
      refine am_if_lt ⟨by omega, by omega⟩ eX8_look_15 (fun c2 => ?_) (fun c2 => ?_)
      · refine am_return eX8_look_26 rfl (by omega) (by omega) ?_
        exact ⟨rfl, congrArg (en_h m) (by rw [bs_looks_c1]; first | rw [if_pos (by omega)] | rw [if_neg (by omega), if_neg (by omega)] | (exfalso; omega))⟩
      · refine am_iload_n eX8_look_18 rfl ?_
        refine am_aload_n eX8_look_19 rfl ?_
        refine am_getf eX8_look_20 fX8_66 (en_c8 (m := m) (x := x)) rfl ?_
        have b3 := wb3 hW 0
        refine am_icmp_lt ⟨by omega, by omega⟩ ⟨by omega, by omega⟩ eX8_look_23 (fun c4 => ?_) (fun c4 => ?_)
        · refine am_aload_n eX8_look_27 rfl ?_
          refine am_getf eX8_look_28 fX8_11 (en_c8 (m := m) (x := x)) rfl ?_
          refine am_iload_n eX8_look_31 rfl ?_
          refine am_aald (kd := 3) (x := am_R (7, (t.toNat - 1))) eX8_look_32 (en_c200 (m := m) (x := x)) (by decide) (by decide) (by omega) (by omega) (by decide) (by rw [show (((t - 1)).toNat) = (t.toNat - 1) by omega]; exact if_pos (by omega)) ?_
          refine am_iload_n eX8_look_33 rfl ?_
          refine am_cV eX8_look_34 kX8_171 (c_X7_armFor (m := m) (x := x) (T := T) hW (i := (t.toNat - 1)) (by omega) (u := 1) (Or.inr rfl)) rfl rfl (en_c7 (m := m) (x := x) (i := (t.toNat - 1)) (by omega)) (by decide) (by decide) (Nat.le_of_ble_eq_true rfl) (by omega) (by omega) ?_
          refine am_steq (st' := am_R (0, 2 * (t.toNat - 1) + 1) :: _) rfl ?_
          refine am_astore eX8_look_37 (by decide) ?_
          refine am_aload_n eX8_look_39 rfl ?_
          refine am_getf eX8_look_40 fX8_11 (en_c8 (m := m) (x := x)) rfl ?_
          refine am_iload_n eX8_look_43 rfl ?_
          refine am_aald (kd := 3) (x := am_R (7, t.toNat)) eX8_look_44 (en_c200 (m := m) (x := x)) (by decide) (by decide) (by omega) (by omega) (by decide) (by rw [show ((t).toNat) = t.toNat by omega]; exact if_pos (by omega)) ?_
          refine am_iload_n eX8_look_45 rfl ?_
          refine am_cV eX8_look_46 kX8_171 (c_X7_armFor (m := m) (x := x) (T := T) hW (i := t.toNat) (by omega) (u := 1) (Or.inr rfl)) rfl rfl (en_c7 (m := m) (x := x) (i := t.toNat) (by omega)) (by decide) (by decide) (Nat.le_of_ble_eq_true rfl) (by omega) (by omega) ?_
          refine am_steq (st' := am_R (0, 2 * t.toNat + 1) :: _) rfl ?_
          refine am_astore eX8_look_49 (by decide) ?_
          refine am_aload_n eX8_look_51 rfl ?_
          refine am_iload_n eX8_look_52 rfl ?_
          refine am_iload_n eX8_look_53 rfl ?_
          refine am_cV eX8_look_54 kX8_175 (c_X8_isEnd (m := m) (x := x) (T := T) hW (a := t) (u := 1) ⟨by omega, by omega⟩ (Or.inr rfl)) rfl rfl (en_c8 (m := m) (x := x)) (by decide) (by decide) (Nat.le_of_ble_eq_true rfl) (by omega) (by omega) ?_
          refine am_topI (w := bz (decide (t = x 3 0 - 1))) (by first | rfl | (simp [st]; done) | (simp [st, st]; done) | simp [show _ = x 3 0 from rfl]) ?_
          refine am_istore eX8_look_57 (by decide) ?_
          refine am_aload eX8_look_59 rfl ?_
          refine am_getf eX8_look_61 fX8_209 (en_c0 (m := m) (x := x) (i := (2 * (t.toNat - 1) + 1)) (by omega)) rfl ?_
          refine am_topI (w := -1) (by exact if_neg cS) ?_
          refine am_iconst eX8_look_64 ?_
          refine am_icmp_eq ⟨by omega, by omega⟩ ⟨by omega, by omega⟩ eX8_look_65 (fun _ => ?_) (fun z => absurd z (by decide))
          refine am_return eX8_look_95 rfl (by omega) (by omega) ?_
          exact ⟨rfl, congrArg (en_h m) (by rw [bs_looks_c1]; first | rw [if_pos (by omega)] | rw [if_neg (by omega), if_neg (by omega)] | (exfalso; omega))⟩
        · refine am_return eX8_look_26 rfl (by omega) (by omega) ?_
          exact ⟨rfl, congrArg (en_h m) (by rw [bs_looks_c1]; first | rw [if_pos (by omega)] | rw [if_neg (by omega), if_neg (by omega)] | (exfalso; omega))⟩

