theorem wb_sx {T : Int} {m : sg_S} {f j : Nat} {v : Int} (h : md_wb T m) (hf : 43 ≤ f) : md_wb T (st m f j v) := by
  refine ⟨fun g i hg => ?_, h.2⟩
  rw [st_nf (by omega)]
  exact h.1 g i hg
theorem bz_iff {P : Prop} [Decidable P] : bz (decide P) = 1 ↔ P := by by_cases h : P <;> simp [bz, h]
theorem sq_see {T : Int} {σ : sg_S} (hW : md_wb T σ) {s : Nat} (hF : 1 ≤ σ 5 (s + 1)) : ∀ n, sp_sl σ s n = bz (decide ((360 ≤ σ 1 0 % 1440 ∧ σ 1 0 % 1440 < 1080) ∧ sq_cl σ s (σ 4 s) (σ 4 (s + 1)) n = 1))
  | 0 => by
    have h7 := wb7 hW s
    refine congrArg bz (decide_eq_decide.mpr ?_)
    show _ ↔ _ ∧ bz _ = 1
    rw [bz_iff]
    omega
  | n + 1 => by
    have ih := sq_see hW hF n
    refine congrArg bz (decide_eq_decide.mpr ?_)
    rw [ih]
    have e : (σ 9 (3 * s + n) ≤ σ 4 s + (σ 4 (s + 1) - σ 4 s) * σ 10 (3 * s + n) / σ 5 (s + 1)) ↔ (σ 9 (3 * s + n) - σ 4 s) * σ 5 (s + 1) ≤ (σ 4 (s + 1) - σ 4 s) * σ 10 (3 * s + n) := by
      rw [← Int.le_ediv_iff_mul_le (by omega)]
      omega
    rw [e]
    show _ ↔ _ ∧ bz _ = 1
    rw [bz_iff, bz_iff]
    exact ⟨fun z => ⟨z.1.1, z.1.2, z.2⟩, fun z => ⟨⟨z.1, z.2.1⟩, z.2.2⟩⟩
set_option maxRecDepth 100000 in
set_option maxHeartbeats 4000000 in
theorem c_X8_isSeenAlong {G : am_G} {m x : sg_S} {T : Int} (hW : md_wb T x) {s : Int} (hs : 0 ≤ s ∧ s < x 3 0 - 1) (hF : 1 ≤ x 5 (s.toNat + 1)) : am_Con G yX8_isSeenAlong wX8_isSeenAlong 2 0 0 [am_R (8, 0), am_I s] (en_h m x) (am_is (am_I (an_see x s.toNat)) (en_h m x)) := by
  refine am_of2 (Y := mX8_isSeenAlong) (by decide +kernel) rfl (fun z => by cases z) rfl rfl (Nat.le_of_ble_eq_true rfl) fun X => ?_
  have b3 := wb3 hW 0
  refine am_aload_n eX8_isSeenAlong_0 rfl ?_
  refine am_cV eX8_isSeenAlong_1 kX8_284 (c_X8_isDay (m := m) (x := x) (T := T) hW) rfl rfl (en_c8 (m := m) (x := x)) (by decide) (by decide) (Nat.le_of_ble_eq_true rfl) (Nat.zero_le _) (Nat.zero_le _) ?_
  refine am_bz_eq eX8_isSeenAlong_4 (fun c1 => ?_) (fun c1 => ?_)
  · refine am_iconst eX8_isSeenAlong_43 ?_
    refine am_ireturn eX8_isSeenAlong_44 rfl (Or.inl rfl) (Nat.zero_le _) (Nat.zero_le _) ?_
    exact cx_is (by unfold an_see; rw [sq_see hW hF]; refine bz_w (fun z => ?_) (fun z => ?_) <;> omega) rfl
  · refine am_aload_n eX8_isSeenAlong_7 rfl ?_
    refine am_getf eX8_isSeenAlong_8 fX8_17 (en_c8 (m := m) (x := x)) rfl ?_
    refine am_iload_n eX8_isSeenAlong_11 rfl ?_
    refine am_aald (kd := 4) (x := am_R (5, s.toNat)) eX8_isSeenAlong_12 (en_c201 (m := m) (x := x)) (by decide) (by decide) (by omega) (by omega) (by decide) (by rw [show ((s).toNat) = s.toNat by omega]; exact if_pos (by omega)) ?_
    refine am_aload_n eX8_isSeenAlong_13 rfl ?_
    refine am_getf eX8_isSeenAlong_14 fX8_11 (en_c8 (m := m) (x := x)) rfl ?_
    refine am_iload_n eX8_isSeenAlong_17 rfl ?_
    refine am_aald (kd := 3) (x := am_R (7, s.toNat)) eX8_isSeenAlong_18 (en_c200 (m := m) (x := x)) (by decide) (by decide) (by omega) (by omega) (by decide) (by rw [show ((s).toNat) = s.toNat by omega]; exact if_pos (by omega)) ?_
    refine am_getf eX8_isSeenAlong_19 fX8_288 (en_c7 (m := m) (x := x) (i := s.toNat) (by omega)) rfl ?_
    have b2 := wb4 hW s.toNat
    refine am_aload_n eX8_isSeenAlong_22 rfl ?_
    refine am_getf eX8_isSeenAlong_23 fX8_11 (en_c8 (m := m) (x := x)) rfl ?_
    refine am_iload_n eX8_isSeenAlong_26 rfl ?_
    refine am_iconst eX8_isSeenAlong_27 ?_
    refine am_iadd eX8_isSeenAlong_28 ?_
    refine am_aald (kd := 3) (x := am_R (7, (s.toNat + 1))) eX8_isSeenAlong_29 (en_c200 (m := m) (x := x)) (by decide) (by decide) (by omega) (by omega) (by decide) (by rw [show (((s + 1)).toNat) = (s.toNat + 1) by omega]; exact if_pos (by omega)) ?_
    refine am_getf eX8_isSeenAlong_30 fX8_288 (en_c7 (m := m) (x := x) (i := (s.toNat + 1)) (by omega)) rfl ?_
    have b3 := wb4 hW (s.toNat + 1)
    refine am_cV eX8_isSeenAlong_33 kX8_291 (c_X5_isClear (m := m) (x := x) hW (i := s.toNat) (by omega) (a := (x 4 s.toNat)) (b := (x 4 (s.toNat + 1))) (by omega) (by omega)) rfl rfl (en_c5 (m := m) (x := x) (i := s.toNat) (by omega)) (by decide) (by decide) (Nat.le_of_ble_eq_true rfl) (Nat.zero_le _) (Nat.zero_le _) ?_
    have q9 := sq_cl_01 (σ := x) (s := s.toNat) (a := (x 4 s.toNat)) (b := (x 4 (s.toNat + 1))) (x 8 s.toNat).toNat
    refine am_if_eq ⟨by omega, by omega⟩ eX8_isSeenAlong_36 (fun c4 => ?_) (fun c4 => ?_)
    · refine am_iconst eX8_isSeenAlong_43 ?_
      refine am_ireturn eX8_isSeenAlong_44 rfl (Or.inl rfl) (Nat.zero_le _) (Nat.zero_le _) ?_
      exact cx_is (by unfold an_see; rw [sq_see hW hF]; refine bz_w (fun z => ?_) (fun z => ?_) <;> omega) rfl
    · refine am_iconst eX8_isSeenAlong_39 ?_
      refine am_goto eX8_isSeenAlong_40 ?_
      refine am_ireturn eX8_isSeenAlong_44 rfl (Or.inr rfl) (Nat.zero_le _) (Nat.zero_le _) ?_
      exact cx_is (by unfold an_see; rw [sq_see hW hF]; refine bz_w (fun z => ?_) (fun z => ?_) <;> omega) rfl
set_option maxRecDepth 100000 in
set_option maxHeartbeats 4000000 in
theorem c_X8_signAsRead {G : am_G} {m x : sg_S} {T : Int} (hW : md_wb T x) {t sg : Int} (ht : 0 ≤ t ∧ t < x 3 0) (hs : 0 ≤ sg ∧ sg ≤ 96) : am_Con G yX8_signAsRead wX8_signAsRead 1 0 0 [am_R (8, 0), am_I t, am_I sg] (en_h m x) (am_is (am_I (an_reads x t sg)) (en_h m x)) := by
  refine am_of2 (Y := mX8_signAsRead) (by decide +kernel) rfl (fun z => by cases z) rfl rfl (Nat.le_of_ble_eq_true rfl) fun X => ?_
  have b3 := wb3 hW 0
  refine am_bipush eX8_signAsRead_0 (by decide) ?_
  refine am_aload_n eX8_signAsRead_2 rfl ?_
  refine am_getf eX8_signAsRead_3 fX8_21 (en_c8 (m := m) (x := x)) rfl ?_
  have b1 := wb1 hW 0
  refine am_imul eX8_signAsRead_6 ?_
  refine am_bipush eX8_signAsRead_7 (by decide) ?_
  refine am_iload_n eX8_signAsRead_9 rfl ?_
  refine am_imul eX8_signAsRead_10 ?_
  refine am_iadd eX8_signAsRead_11 ?_
  refine am_bipush eX8_signAsRead_12 (by decide) ?_
  refine am_iload_n eX8_signAsRead_14 rfl ?_
  refine am_imul eX8_signAsRead_15 ?_
  refine am_iadd eX8_signAsRead_16 ?_
  refine am_aload_n eX8_signAsRead_17 rfl ?_
  refine am_getf eX8_signAsRead_18 fX8_116 (en_c8 (m := m) (x := x)) rfl ?_
  have b2 := wb11 hW 0
  refine am_iadd eX8_signAsRead_21 ?_
  refine am_sipush eX8_signAsRead_22 (by decide) ?_
  refine am_irem ⟨by omega, by omega⟩ (by omega) ⟨by omega, by omega⟩ (by omega) eX8_signAsRead_25 ?_
  refine am_istore_n eX8_signAsRead_26 (by decide) ?_
  refine am_iload_n eX8_signAsRead_27 rfl ?_
  refine am_aload_n eX8_signAsRead_28 rfl ?_
  refine am_getf eX8_signAsRead_29 fX8_11 (en_c8 (m := m) (x := x)) rfl ?_
  refine am_iload_n eX8_signAsRead_32 rfl ?_
  refine am_aald (kd := 3) (x := am_R (7, t.toNat)) eX8_signAsRead_33 (en_c200 (m := m) (x := x)) (by decide) (by decide) (by omega) (by omega) (by decide) (by rw [show ((t).toNat) = t.toNat by omega]; exact if_pos (by omega)) ?_
  refine am_getf eX8_signAsRead_34 fX8_111 (en_c7 (m := m) (x := x) (i := t.toNat) (by omega)) rfl ?_
  have b3 := wb6 hW t.toNat
  refine am_icmp_ge ⟨by omega, by omega⟩ ⟨by omega, by omega⟩ eX8_signAsRead_37 (fun c4 => ?_) (fun c4 => ?_)
  · refine am_iload_n eX8_signAsRead_46 rfl ?_
    refine am_ireturn eX8_signAsRead_47 rfl trivial (Nat.zero_le _) (Nat.zero_le _) ?_
    exact cx_is (by unfold an_reads; (repeat' split) <;> omega) rfl
  · refine am_iload_n eX8_signAsRead_40 rfl ?_
    refine am_bipush eX8_signAsRead_41 (by decide) ?_
    refine am_icmp_lt ⟨by omega, by omega⟩ ⟨by omega, by omega⟩ eX8_signAsRead_43 (fun c5 => ?_) (fun c5 => ?_)
    · refine am_iload_n eX8_signAsRead_48 rfl ?_
      refine am_iconst eX8_signAsRead_49 ?_
      refine am_irem ⟨by omega, by omega⟩ (by omega) ⟨by omega, by omega⟩ (by omega) eX8_signAsRead_50 ?_
      refine am_if_ne ⟨by omega, by omega⟩ eX8_signAsRead_51 (fun c6 => ?_) (fun c6 => ?_)
      · refine am_iload_n eX8_signAsRead_60 rfl ?_
        refine am_iconst eX8_signAsRead_61 ?_
        refine am_isub eX8_signAsRead_62 ?_
        refine am_ireturn eX8_signAsRead_63 rfl trivial (Nat.zero_le _) (Nat.zero_le _) ?_
        exact cx_is (by unfold an_reads; (repeat' split) <;> omega) rfl
      · refine am_iload_n eX8_signAsRead_54 rfl ?_
        refine am_iconst eX8_signAsRead_55 ?_
        refine am_iadd eX8_signAsRead_56 ?_
        refine am_goto eX8_signAsRead_57 ?_
        refine am_ireturn eX8_signAsRead_63 rfl trivial (Nat.zero_le _) (Nat.zero_le _) ?_
        exact cx_is (by unfold an_reads; (repeat' split) <;> omega) rfl
    · refine am_iload_n eX8_signAsRead_46 rfl ?_
      refine am_ireturn eX8_signAsRead_47 rfl trivial (Nat.zero_le _) (Nat.zero_le _) ?_
      exact cx_is (by unfold an_reads; (repeat' split) <;> omega) rfl
theorem sp_spyl_id {σ : sg_S} {t sg : Int} (h : ¬ (sg < 92 ∧ (360 ≤ σ 1 0 % 1440 ∧ σ 1 0 % 1440 ≤ 1079) ∧ σ 7 t.toNat ≠ 2)) : ∀ n, sp_spyl σ t sg n = σ
  | 0 => rfl
  | n + 1 => by
    simp only [sp_spyl]
    rw [if_neg (fun z => h ⟨z.2.1, z.2.2.1, z.2.2.2.1⟩)]
    exact sp_spyl_id h n
set_option maxRecDepth 100000 in
set_option maxHeartbeats 4000000 in
theorem lq_X8_tellSpies {G : am_G} {m x : sg_S} {T : Int} (hW : md_wb T x) (hZ : x 39 0 = 0) {t sg : Int} (ht : 0 ≤ t ∧ t < x 3 0 - 1) (hs : 0 ≤ sg ∧ sg < 92) (hd : 360 ≤ x 1 0 % 1440 ∧ x 1 0 % 1440 < 1080) (h7 : x 7 t.toNat ≠ 2) (X : am_X): ∀ (n : Nat) (j : Nat) (jv : Int) (m1 : sg_S), (jv = (j : Int)) → (m1 = sp_spyl x t sg j) → (j + n = (x 39 0).toNat) → am_W G X mX8_tellSpies 2 0 0 (am_end G X 0 0 (am_vd (en_h m (sp_spyl x t sg (x 39 0).toNat)))) 29 [some (am_R (8, 0)), some (am_I t), some (am_I sg), some (am_I jv)] [] (en_h m m1) 0 0 := by
  intro n
  induction n with
  | zero =>
    intro j jv m1 hj hm hn
    have hW1 : md_wb T m1 := by rw [hm]; exact sp_spyl_wb hW hs.1 j
    have b39 := wb39 hW 0
    have b3 := wb3 hW 0
    have e39 : m1 39 0 = x 39 0 := by rw [hm]; exact sp_spyl_f (by decide) (by decide) j
    have e40 : m1 40 j = x 40 j := by rw [hm]; exact sp_spyl_f (by decide) (by decide) j
    have e41 : m1 41 j = x 41 j := by rw [hm]; exact sp_spyl_41 j (Nat.le_refl j)
    refine am_iload_n eX8_tellSpies_29 rfl ?_
    refine am_aload_n eX8_tellSpies_30 rfl ?_
    refine am_getf eX8_tellSpies_31 fX8_195 (en_c8 (m := m) (x := m1)) rfl ?_
    have b1 := wb39 hW1 0
    refine am_icmp_ge ⟨by omega, by omega⟩ ⟨by omega, by omega⟩ eX8_tellSpies_34 (fun c2 => ?_) (fun c2 => absurd c2 (by omega))
    refine am_return eX8_tellSpies_66 rfl (Nat.zero_le _) (Nat.zero_le _) ?_
    exact ⟨rfl, by rw [hm, ← hn]; rfl⟩
  | succ n ih =>
    intro j jv m1 hj hm hn
    omega
set_option maxRecDepth 100000 in
set_option maxHeartbeats 4000000 in
theorem c_X8_tellSpies {G : am_G} {m x : sg_S} {T : Int} (hW : md_wb T x) (hZ : x 39 0 = 0) {t sg : Int} (ht : 0 ≤ t ∧ t < x 3 0 - 1) (hs : 0 ≤ sg ∧ sg ≤ 96) : am_Con G yX8_tellSpies wX8_tellSpies 2 0 0 [am_R (8, 0), am_I t, am_I sg] (en_h m x) (am_vd (en_h m (sp_spyl x t sg (x 39 0).toNat))) := by
  refine am_of2 (Y := mX8_tellSpies) (by decide +kernel) rfl (fun z => by cases z) rfl rfl (Nat.le_of_ble_eq_true rfl) fun X => ?_
  have b3 := wb3 hW 0
  refine am_iload_n eX8_tellSpies_0 rfl ?_
  refine am_bipush eX8_tellSpies_1 (by decide) ?_
  refine am_icmp_ge ⟨by omega, by omega⟩ ⟨by omega, by omega⟩ eX8_tellSpies_3 (fun c1 => ?_) (fun c1 => ?_)
  · refine am_return eX8_tellSpies_26 rfl (Nat.zero_le _) (Nat.zero_le _) ?_
    exact ⟨rfl, by rw [sp_spyl_id (by omega)]⟩
  · refine am_aload_n eX8_tellSpies_6 rfl ?_
    refine am_cV eX8_tellSpies_7 kX8_284 (c_X8_isDay (m := m) (x := x) (T := T) hW) rfl rfl (en_c8 (m := m) (x := x)) (by decide) (by decide) (Nat.le_of_ble_eq_true rfl) (Nat.zero_le _) (Nat.zero_le _) ?_
    refine am_bz_eq eX8_tellSpies_10 (fun c2 => ?_) (fun c2 => ?_)
    · refine am_return eX8_tellSpies_26 rfl (Nat.zero_le _) (Nat.zero_le _) ?_
      exact ⟨rfl, by rw [sp_spyl_id (by omega)]⟩
    · refine am_aload_n eX8_tellSpies_13 rfl ?_
      refine am_getf eX8_tellSpies_14 fX8_17 (en_c8 (m := m) (x := x)) rfl ?_
      refine am_iload_n eX8_tellSpies_17 rfl ?_
      refine am_aald (kd := 4) (x := am_R (5, t.toNat)) eX8_tellSpies_18 (en_c201 (m := m) (x := x)) (by decide) (by decide) (by omega) (by omega) (by decide) (by rw [show ((t).toNat) = t.toNat by omega]; exact if_pos (by omega)) ?_
      refine am_getf eX8_tellSpies_19 fX8_102 (en_c5 (m := m) (x := x) (i := t.toNat) (by omega)) rfl ?_
      have b3 := wb7 hW t.toNat
      refine am_iconst eX8_tellSpies_22 ?_
      refine am_icmp_ne ⟨by omega, by omega⟩ ⟨by omega, by omega⟩ eX8_tellSpies_23 (fun c4 => ?_) (fun c4 => ?_)
      · refine am_iconst eX8_tellSpies_27 ?_
        refine am_istore_n eX8_tellSpies_28 (by decide) ?_
        exact lq_X8_tellSpies hW hZ ht ⟨by omega, by omega⟩ (by omega) (by omega) X _ 0 _ _ rfl rfl (Nat.zero_add _)
      · refine am_return eX8_tellSpies_26 rfl (Nat.zero_le _) (Nat.zero_le _) ?_
        exact ⟨rfl, by rw [sp_spyl_id (by omega)]⟩

