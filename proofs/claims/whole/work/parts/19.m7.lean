section PassLoops
theorem am_lnone {G : am_G} {X : am_X} {Y : am_Y} {d mc ms : Nat} {Q : State → Prop} {pc k n : Nat} {ls : List (Option am_AV)} {st : List am_AV} {h : am_AH} (i : Nat) (kk : am_W G X Y d mc ms Q pc (ls.set i none) st h k n) : am_W G X Y d mc ms Q pc ls st h k n := am_ldrop i kk
end PassLoops
set_option maxRecDepth 100000 in
set_option maxHeartbeats 4000000 in
theorem lp_X9_pass_l {G : am_G} {X : am_X} {m x : sg_S} {T : Int} (hW : md_wb T m) {J : sg_S → Prop} (hJ : md_J J) (h0 : J m) {Qs : State → Prop} {av kv : Int} (kk : ∀ tv : Int, am_W G X mX9_pass 6 0 0 Qs 77 [some (am_R (9, 0)), some (am_I av), some (am_I kv), some (am_I tv)] [] (en_h (sp_lks m (m 3 0).toNat) x) 0 0) : ∀ (n : Nat) (i : Nat) (tv : Int) (m1 : sg_S), (tv = i) → (m1 = sp_lks m i) → (i + n = (m 3 0).toNat) → am_W G X mX9_pass 6 0 0 Qs 51 [some (am_R (9, 0)), some (am_I av), some (am_I kv), some (am_I tv)] [] (en_h m1 x) 0 0 := by
  intro n
  induction n with
  | zero =>
    intro i tv m1 hk hm hn
    have bb := wb3 hW 0
    have hJa : J m1 := by rw [hm]; exact sp_lks_J hJ h0 i (by omega)
    have hWa : md_wb T m1 := by rw [hm]; exact sp_lks_wb hJ h0 hW i (by omega)
    have hTa : m1 3 0 = m 3 0 := by rw [hm]; exact sp_lks_f (by decide) (by decide) (by decide) (by decide) i
    refine am_iload_n eX9_pass_51 rfl ?_
    refine am_aload_n eX9_pass_52 rfl ?_
    refine md_getI (v := m 3 0) eX9_pass_53 fX9_126 rfl (by decide) hTa ?_
    have b1 := wb3 hW 0
    refine am_icmp_ge ⟨by omega, by omega⟩ ⟨by omega, by omega⟩ eX9_pass_56 (fun c2 => ?_) (fun c2 => absurd c2 (by omega))
    rw [show m1 = sp_lks m (m 3 0).toNat by rw [hm, ← hn]; rfl]
    exact kk _
  | succ n ih =>
    intro i tv m1 hk hm hn
    have bb := wb3 hW 0
    have hJa : J m1 := by rw [hm]; exact sp_lks_J hJ h0 i (by omega)
    have hWa : md_wb T m1 := by rw [hm]; exact sp_lks_wb hJ h0 hW i (by omega)
    have hTa : m1 3 0 = m 3 0 := by rw [hm]; exact sp_lks_f (by decide) (by decide) (by decide) (by decide) i
    have hJb : J (sp_looks m1 tv 1) := hJ.2.1 _ tv 1 hJa (by rw [hTa]; omega) (Or.inr rfl)
    have hWb : md_wb T (sp_looks m1 tv 1) := sp_looks_wb hWa (hJ.1 _ hJa).1
    have hTb : sp_looks m1 tv 1 3 0 = m 3 0 := (sp_looks_f (by decide) (by decide) (by decide) (by decide)).trans hTa
    refine am_iload_n eX9_pass_51 rfl ?_
    refine am_aload_n eX9_pass_52 rfl ?_
    refine md_getI (v := m 3 0) eX9_pass_53 fX9_126 rfl (by decide) hTa ?_
    have b1 := wb3 hW 0
    refine am_icmp_ge ⟨by omega, by omega⟩ ⟨by omega, by omega⟩ eX9_pass_56 (fun c2 => absurd c2 (by omega)) (fun c2 => ?_)
    refine am_aload_n eX9_pass_59 rfl ?_
    refine am_iload_n eX9_pass_60 rfl ?_
    refine am_iconst eX9_pass_61 ?_
    refine am_cV_v eX9_pass_62 kX9_210 (c_X9_looks (m := m1) (x := x) (T := T) hWa (t := tv) (u := 1) (by rw [hTa]; omega) (Or.inr rfl) (hJ.1 _ hJa).2 (hJ.1 _ hJa).1) rfl rfl en_9 (by decide) (by decide) (Nat.le_of_ble_eq_true rfl) (Nat.zero_le _) (Nat.zero_le _) ?_
    refine am_aload_n eX9_pass_65 rfl ?_
    refine am_iload_n eX9_pass_66 rfl ?_
    refine am_iconst eX9_pass_67 ?_
    refine am_cV_v eX9_pass_68 kX9_210 (c_X9_looks (m := (sp_looks m1 tv 1)) (x := x) (T := T) hWb (t := tv) (u := 0) (by rw [hTb]; omega) (Or.inl rfl) (hJ.1 _ hJb).2 (hJ.1 _ hJb).1) rfl rfl en_9 (by decide) (by decide) (Nat.le_of_ble_eq_true rfl) (Nat.zero_le _) (Nat.zero_le _) ?_
    refine am_iinc eX9_pass_71 rfl (by decide) ?_
    refine am_goto eX9_pass_74 ?_
    exact ih (i + 1) _ _ (by omega) (by rw [hm, hk]; rfl) (by omega)
set_option maxRecDepth 100000 in
set_option maxHeartbeats 4000000 in
theorem lp_X9_pass_t {G : am_G} {X : am_X} {m x : sg_S} {T : Int} (hW : md_wb T m) {Qs : State → Prop} {av kv : Int} (kk : ∀ tv : Int, am_W G X mX9_pass 6 0 0 Qs 115 [some (am_R (9, 0)), some (am_I av), some (am_I kv), some (am_I tv)] [] (en_h (sp_trs m (m 3 0).toNat) x) 0 0) : ∀ (n : Nat) (i : Nat) (tv : Int) (m1 : sg_S), (tv = i) → (m1 = sp_trs m i) → (i + n = (m 3 0).toNat) → am_W G X mX9_pass 6 0 0 Qs 79 [some (am_R (9, 0)), some (am_I av), some (am_I kv), some (am_I tv)] [] (en_h m1 x) 0 0 := by
  intro n
  induction n with
  | zero =>
    intro i tv m1 hk hm hn
    have bb := wb3 hW 0
    have hWa : md_wb T m1 := by rw [hm]; exact sp_trs_wb hW i
    have hTa : m1 3 0 = m 3 0 := by rw [hm]; exact sp_trs_f (by decide) (by decide) i
    refine am_iload_n eX9_pass_79 rfl ?_
    refine am_aload_n eX9_pass_80 rfl ?_
    refine md_getI (v := m 3 0) eX9_pass_81 fX9_126 rfl (by decide) hTa ?_
    have b1 := wb3 hW 0
    refine am_icmp_ge ⟨by omega, by omega⟩ ⟨by omega, by omega⟩ eX9_pass_84 (fun c2 => ?_) (fun c2 => absurd c2 (by omega))
    rw [show m1 = sp_trs m (m 3 0).toNat by rw [hm, ← hn]; rfl]
    exact kk _
  | succ n ih =>
    intro i tv m1 hk hm hn
    have bb := wb3 hW 0
    have hWa : md_wb T m1 := by rw [hm]; exact sp_trs_wb hW i
    have hTa : m1 3 0 = m 3 0 := by rw [hm]; exact sp_trs_f (by decide) (by decide) i
    have hWb : md_wb T (sp_turn m1 tv 1 (2 * i + 1)) := sp_turn_wb hWa
    refine am_iload_n eX9_pass_79 rfl ?_
    refine am_aload_n eX9_pass_80 rfl ?_
    refine md_getI (v := m 3 0) eX9_pass_81 fX9_126 rfl (by decide) hTa ?_
    have b1 := wb3 hW 0
    refine am_icmp_ge ⟨by omega, by omega⟩ ⟨by omega, by omega⟩ eX9_pass_84 (fun c2 => absurd c2 (by omega)) (fun c2 => ?_)
    refine am_aload_n eX9_pass_87 rfl ?_
    refine am_iload_n eX9_pass_88 rfl ?_
    refine am_iconst eX9_pass_89 ?_
    refine am_iload_n eX9_pass_90 rfl ?_
    refine am_iconst eX9_pass_91 ?_
    refine am_cS eX9_pass_92 kX9_171 (c_X9_at (a := tv) (u := 1) (Or.inr rfl)) rfl rfl (by decide) (by decide) (Nat.le_of_ble_eq_true rfl) (Nat.zero_le _) (Nat.zero_le _) ?_
    refine am_cV_v eX9_pass_95 kX9_213 (c_X9_turnsTo (m := m1) (x := x) (T := T) hWa (t := tv) (u := 1) (wv := (2 * tv + 1)) (w := (2 * i + 1)) (by omega) (by omega) (by omega) (Or.inr rfl)) rfl rfl en_9 (by decide) (by decide) (Nat.le_of_ble_eq_true rfl) (Nat.zero_le _) (Nat.zero_le _) ?_
    refine am_aload_n eX9_pass_98 rfl ?_
    refine am_iload_n eX9_pass_99 rfl ?_
    refine am_iconst eX9_pass_100 ?_
    refine am_iload_n eX9_pass_101 rfl ?_
    refine am_iconst eX9_pass_102 ?_
    refine am_cS eX9_pass_103 kX9_171 (c_X9_at (a := tv) (u := 0) (Or.inl rfl)) rfl rfl (by decide) (by decide) (Nat.le_of_ble_eq_true rfl) (Nat.zero_le _) (Nat.zero_le _) ?_
    refine am_cV_v eX9_pass_106 kX9_213 (c_X9_turnsTo (m := (sp_turn m1 tv 1 (2 * i + 1))) (x := x) (T := T) hWb (t := tv) (u := 0) (wv := (2 * tv + 0)) (w := (2 * i)) (by omega) (by omega) (by omega) (Or.inl rfl)) rfl rfl en_9 (by decide) (by decide) (Nat.le_of_ble_eq_true rfl) (Nat.zero_le _) (Nat.zero_le _) ?_
    refine am_iinc eX9_pass_109 rfl (by decide) ?_
    refine am_goto eX9_pass_112 ?_
    exact ih (i + 1) _ _ (by omega) (by rw [hm, hk]; rfl) (by omega)
set_option maxRecDepth 100000 in
set_option maxHeartbeats 4000000 in
theorem lp_X9_pass {G : am_G} {m x : sg_S} {T : Int} (hW : md_wb T m) {J : sg_S → Prop} (hJ : md_J J) (h0 : J m) (hz : m 0 0 = 0) {av : Int} (ha : 1 ≤ av ∧ av ≤ 200) (hnw : m 1 0 + av ≤ T) (X : am_X) : ∀ (n : Nat) (i : Nat) (kv : Int) (m1 : sg_S), (kv = i) → (m1 = sp_mins m i) → (i + n = av.toNat) → am_W G X mX9_pass 6 0 0 (am_end G X 0 0 (am_is (am_I (m 1 0 + av)) (en_h (sp_mins m av.toNat) x))) 22 [some (am_R (9, 0)), some (am_I av), some (am_I kv), none] [] (en_h m1 x) 0 0 := by
  intro n
  induction n with
  | zero =>
    intro i kv m1 hk hm hn
    have b1 := wb1 hW 0
    have hTb := hW.2
    obtain ⟨hJa, hWa⟩ := sp_mins_JW hJ h0 hW i (by omega)
    rw [← hm] at hJa hWa
    have hN : m1 1 0 = m 1 0 + i := by rw [hm]; exact sp_mins_1 i
    have hZ : m1 0 0 = 0 := by rw [hm, sp_mins_f (by decide) (by decide) (by decide) (by decide)]; exact hz
    refine am_iload_n eX9_pass_22 rfl ?_
    refine am_iload_n eX9_pass_23 rfl ?_
    refine am_icmp_ge ⟨by omega, by omega⟩ ⟨by omega, by omega⟩ eX9_pass_24 (fun c1 => ?_) (fun c1 => absurd c1 (by omega))
    refine am_aload_n eX9_pass_121 rfl ?_
    refine md_getI (v := 0) eX9_pass_122 fX9_123 rfl (by decide) hZ ?_
    refine am_if_le ⟨by omega, by omega⟩ eX9_pass_125 (fun _ => ?_) (fun z => absurd z (by decide))
    refine am_aload_n eX9_pass_132 rfl ?_
    refine md_getI (v := (m 1 0 + i)) eX9_pass_133 fX9_7 rfl (by decide) hN ?_
    refine am_ireturn eX9_pass_136 rfl trivial (Nat.zero_le _) (Nat.zero_le _) ?_
    exact am_is_m (by omega) (by rw [hm, ← hn]; rfl)
  | succ n ih =>
    intro i kv m1 hk hm hn
    have b1 := wb1 hW 0
    have hTb := hW.2
    obtain ⟨hJa, hWa⟩ := sp_mins_JW hJ h0 hW i (by omega)
    rw [← hm] at hJa hWa
    have hN : m1 1 0 = m 1 0 + i := by rw [hm]; exact sp_mins_1 i
    have hZ : m1 0 0 = 0 := by rw [hm, sp_mins_f (by decide) (by decide) (by decide) (by decide)]; exact hz
    refine am_iload_n eX9_pass_22 rfl ?_
    refine am_iload_n eX9_pass_23 rfl ?_
    refine am_icmp_ge ⟨by omega, by omega⟩ ⟨by omega, by omega⟩ eX9_pass_24 (fun c1 => absurd c1 (by omega)) (fun c1 => ?_)
    refine am_aload_n eX9_pass_27 rfl ?_
    refine md_getI (v := 0) eX9_pass_28 fX9_123 rfl (by decide) hZ ?_
    refine am_if_ne ⟨by omega, by omega⟩ eX9_pass_31 (fun z => absurd z (by decide)) (fun _ => ?_)
    refine am_aload_n eX9_pass_34 rfl ?_
    refine am_iconst eX9_pass_35 ?_
    refine md_put eX9_pass_36 fX9_133 rfl rfl (by decide) (Or.inr rfl) ?_
    refine am_aload_n eX9_pass_39 rfl ?_
    refine am_dup (by simp) eX9_pass_40 ?_
    refine md_getI (v := (m 1 0 + i)) eX9_pass_41 fX9_7 rfl (by decide) ((st_nf (by decide)).trans hN) ?_
    refine am_iconst eX9_pass_44 ?_
    refine am_iadd eX9_pass_45 ?_
    refine md_put eX9_pass_46 fX9_7 rfl rfl (by decide) trivial ?_
    refine am_iconst eX9_pass_49 ?_
    refine am_istore_n eX9_pass_50 (by decide) ?_
    have hJ1 : J (sp_tick m1) := hJ.2.2.2.1 _ hJa
    have hW1 : md_wb T (sp_tick m1) := sp_tick_wb hWa (by rw [hN]; omega)
    have hT1 : sp_tick m1 3 0 = m1 3 0 := sp_tick_3
    refine am_heq (h' := en_h (sp_tick m1) x) (by unfold sp_tick; rw [hN]) ?_
    refine lp_X9_pass_l hW1 hJ hJ1 (fun tv => ?_) _ 0 _ _ rfl rfl (Nat.zero_add _)
    refine am_iconst eX9_pass_77 ?_
    refine am_istore_n eX9_pass_78 (by decide) ?_
    rw [hT1]
    have b39 := wb3 hWa 0
    have hW2 : md_wb T (sp_lks (sp_tick m1) (m1 3 0).toNat) := sp_lks_wb hJ hJ1 hW1 _ (by rw [hT1]; omega)
    have hT2 : sp_lks (sp_tick m1) (m1 3 0).toNat 3 0 = m1 3 0 := (sp_lks_f (by decide) (by decide) (by decide) (by decide) _).trans hT1
    refine lp_X9_pass_t hW2 (fun tv => ?_) _ 0 _ _ rfl rfl (Nat.zero_add _)
    rw [hT2]
    refine am_iinc eX9_pass_115 rfl (by decide) ?_
    refine am_goto eX9_pass_118 ?_
    refine am_ldrop 3 ?_
    exact ih (i + 1) _ _ (by omega) (by rw [hm]; rfl) (by omega)
set_option maxRecDepth 100000 in
set_option maxHeartbeats 4000000 in
theorem c_X9_pass {G : am_G} {m x : sg_S} {T : Int} (hW : md_wb T m) {J : sg_S → Prop} (hJ : md_J J) (h0 : J m) {av : Int} (hr_av : -2147483648 ≤ av ∧ av < 2147483648) (hnw : m 1 0 + av ≤ T ∨ ¬ (1 ≤ av ∧ av ≤ 200)) : am_Con G yX9_pass wX9_pass 6 0 0 [am_R (9, 0), am_I av] (en_h m x) (am_is (am_I (an_pass m av)) (en_h (sp_pass m av) x)) := by
  refine am_of2 (Y := mX9_pass) (by decide +kernel) rfl (fun z => by cases z) rfl rfl (Nat.le_of_ble_eq_true rfl) fun X => ?_
  refine am_aload_n eX9_pass_0 rfl ?_
  refine am_iload_n eX9_pass_1 rfl ?_
  refine am_iconst eX9_pass_2 ?_
  refine am_sipush eX9_pass_3 (by decide) ?_
  refine am_cS eX9_pass_6 kX9_129 (c_X9_in (v := av) (lo := 1) (hi := 200) ⟨by omega, by omega⟩ ⟨by omega, by omega⟩ ⟨by omega, by omega⟩) rfl rfl (by decide) (by decide) (Nat.le_of_ble_eq_true rfl) (Nat.zero_le _) (Nat.zero_le _) ?_
  refine am_bz_eq eX9_pass_9 (fun c1 => ?_) (fun c1 => ?_)
  · refine am_iconst eX9_pass_16 ?_
    refine md_put eX9_pass_17 fX9_123 rfl rfl (by decide) trivial ?_
    refine am_iconst eX9_pass_20 ?_
    refine am_istore_n eX9_pass_21 (by decide) ?_
    refine am_iload_n eX9_pass_22 rfl ?_
    refine am_iload_n eX9_pass_23 rfl ?_
    refine am_icmp_ge ⟨by omega, by omega⟩ ⟨by omega, by omega⟩ eX9_pass_24 (fun c2 => ?_) (fun c2 => ?_)
    · refine am_aload_n eX9_pass_121 rfl ?_
      refine md_getI (v := 1) eX9_pass_122 fX9_123 rfl (by decide) st_eq ?_
      refine am_if_le ⟨by omega, by omega⟩ eX9_pass_125 (fun z => absurd z (by decide)) (fun _ => ?_)
      refine am_iconst eX9_pass_128 ?_
      refine am_goto eX9_pass_129 ?_
      refine am_ireturn eX9_pass_136 rfl trivial (Nat.zero_le _) (Nat.zero_le _) ?_
      exact am_is_m (by unfold an_pass; rw [if_pos (by omega)]) (by unfold sp_pass; rw [if_pos (by omega)])
    · refine am_aload_n eX9_pass_27 rfl ?_
      refine md_getI (v := 1) eX9_pass_28 fX9_123 rfl (by decide) st_eq ?_
      refine am_if_ne ⟨by omega, by omega⟩ eX9_pass_31 (fun _ => ?_) (fun z => absurd z (by decide))
      refine am_aload_n eX9_pass_121 rfl ?_
      refine md_getI (v := 1) eX9_pass_122 fX9_123 rfl (by decide) st_eq ?_
      refine am_if_le ⟨by omega, by omega⟩ eX9_pass_125 (fun z => absurd z (by decide)) (fun _ => ?_)
      refine am_iconst eX9_pass_128 ?_
      refine am_goto eX9_pass_129 ?_
      refine am_ireturn eX9_pass_136 rfl trivial (Nat.zero_le _) (Nat.zero_le _) ?_
      exact am_is_m (by unfold an_pass; rw [if_pos (by omega)]) (by unfold sp_pass; rw [if_pos (by omega)])
  · refine am_iconst eX9_pass_12 ?_
    refine am_goto eX9_pass_13 ?_
    refine md_put eX9_pass_17 fX9_123 rfl rfl (by decide) trivial ?_
    refine am_iconst eX9_pass_20 ?_
    refine am_istore_n eX9_pass_21 (by decide) ?_
    have e1 : st m 0 0 0 1 0 = m 1 0 := st_nf (by decide)
    refine am_mono (lp_X9_pass (m := st m 0 0 0) (wb_st hW (by show (0 : Int) ≤ _; omega) (by show _ ≤ (3 : Int); omega)) hJ (hJ.2.2.2.2 _ h0) st_eq (by omega) (by rw [e1]; omega) X _ 0 _ _ rfl rfl (Nat.zero_add _)) ?_
    exact fun r h' q => by obtain ⟨q1, q2⟩ := q; rw [e1] at q1; exact ⟨by rw [q1]; unfold an_pass; rw [if_neg (by omega)], by rw [q2]; unfold sp_pass; rw [if_neg (by omega)]⟩
