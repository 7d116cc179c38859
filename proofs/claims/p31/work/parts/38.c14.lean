theorem c_X8_showNextN {G : am_G} {m x : sg_S} {T : Int} (hW : md_wb T x) (hZ : x 39 0 = 0) {t u : Int} (j : Nat) (et : t = (j : Int)) (ht : (j : Int) < x 3 0) (hb_u : u = 0 ∨ u = 1) : am_Con G yX8_showNext wX8_showNext 3 0 0 [am_R (8, 0), am_I t, am_I u] (en_h m x) (am_vd (en_h m (sp_turn x (j : Int) u (2 * j + u.toNat)))) := by
  subst et
  exact c_X8_showNext hW hZ (by omega) hb_u (by rw [Int.toNat_natCast])
set_option maxRecDepth 100000 in
set_option maxHeartbeats 4000000 in
theorem lq_X8_passOne2 {G : am_G} {X : am_X} {m x : sg_S} {T : Int} (hW : md_wb T x) (hZ : x 39 0 = 0) {mc ms k9 n9 : Nat} (hk : k9 ≤ mc) (hn9 : n9 ≤ ms) : ∀ (n j : Nat) (jv : Int) (m1 : sg_S), jv = (j : Int) → m1 = sp_trs x j → j + n = (x 3 0).toNat → am_W G X mX8_passOne 6 mc ms (am_end G X mc ms (am_vd (en_h m (sp_trs x (x 3 0).toNat)))) 40 [some (am_R (8, 0)), some (am_I jv)] [] (en_h m m1) k9 n9 := by
  intro n
  induction n with
  | zero =>
    intro j jv m1 hj hm1 hn
    have b3 := wb3 hW 0
    have h31 : m1 3 0 = x 3 0 := by rw [hm1]; exact sp_trs_f (by decide) (by decide) j
    have hWm1 : md_wb T m1 := by rw [hm1]; exact sp_trs_wb hW j
    refine am_iload_n eX8_passOne_40 rfl ?_
    refine am_aload_n eX8_passOne_41 rfl ?_
    refine am_getf eX8_passOne_42 fX8_66 (en_c8 (m := m) (x := m1)) rfl ?_
    refine am_icmp_ge ⟨by omega, by omega⟩ ⟨by omega, by omega⟩ eX8_passOne_45 (fun c1 => ?_) (fun c1 => absurd c1 (by omega))
    refine am_return eX8_passOne_66 rfl hk hn9 ?_
    exact ⟨rfl, by rw [hm1, ← hn]; rfl⟩
  | succ n ih =>
    intro j jv m1 hj hm1 hn
    have b3 := wb3 hW 0
    have h31 : m1 3 0 = x 3 0 := by rw [hm1]; exact sp_trs_f (by decide) (by decide) j
    have hWm1 : md_wb T m1 := by rw [hm1]; exact sp_trs_wb hW j
    obtain ⟨m2, hm2⟩ : ∃ z, z = sp_turn m1 (j : Int) 1 (2 * j + 1) := ⟨_, rfl⟩
    obtain ⟨m3, hm3⟩ : ∃ z, z = sp_turn m2 (j : Int) 0 (2 * j) := ⟨_, rfl⟩
    have e3 : m3 = sp_trs x (j + 1) := by rw [hm3, hm2, hm1]; rfl
    have h32 : m2 3 0 = x 3 0 := by rw [hm2, sp_turn_f (by decide) (by decide)]; exact h31
    have hWm2 : md_wb T m2 := by rw [hm2]; exact sp_turn_wb hWm1
    refine am_iload_n eX8_passOne_40 rfl ?_
    refine am_aload_n eX8_passOne_41 rfl ?_
    refine am_getf eX8_passOne_42 fX8_66 (en_c8 (m := m) (x := m1)) rfl ?_
    refine am_icmp_ge ⟨by omega, by omega⟩ ⟨by omega, by omega⟩ eX8_passOne_45 (fun c1 => absurd c1 (by omega)) (fun c1 => ?_)
    refine am_aload_n eX8_passOne_48 rfl ?_
    refine am_iload_n eX8_passOne_49 rfl ?_
    refine am_iconst eX8_passOne_50 ?_
    refine am_cV_v eX8_passOne_51 kX8_301 (c_X8_showNextN (m := m) (x := m1) hWm1 (by rw [hm1, sp_trs_f (by decide) (by decide) j]; exact hZ) (u := 1) j (by omega) (by omega) (Or.inr rfl)) rfl rfl (en_c8 (m := m) (x := m1)) (by decide) (by decide) (Nat.le_of_ble_eq_true rfl) hk hn9 ?_
    refine am_heq (h' := en_h m m2) (by rw [hm2]; rfl) ?_
    refine am_aload_n eX8_passOne_54 rfl ?_
    refine am_iload_n eX8_passOne_55 rfl ?_
    refine am_iconst eX8_passOne_56 ?_
    refine am_cV_v eX8_passOne_57 kX8_301 (c_X8_showNextN (m := m) (x := m2) hWm2 (by rw [hm2, sp_turn_f (by decide) (by decide), hm1, sp_trs_f (by decide) (by decide) j]; exact hZ) (u := 0) j (by omega) (by omega) (Or.inl rfl)) rfl rfl (en_c8 (m := m) (x := m2)) (by decide) (by decide) (Nat.le_of_ble_eq_true rfl) hk hn9 ?_
    refine am_heq (h' := en_h m m3) (by rw [hm3]; rfl) ?_
    refine am_iinc eX8_passOne_60 rfl (by decide) ?_
    refine am_goto eX8_passOne_63 ?_
    exact ih (j + 1) _ _ (by omega) e3 (by omega)
theorem sp_tick_of {σ : sg_S} (h : σ 2 0 = 1) : st σ 1 0 (σ 1 0 + 1) = sp_tick σ := by
  unfold sp_tick
  rw [show (1 : Int) = σ 2 0 from h.symm, st_id, h]
set_option maxRecDepth 100000 in
set_option maxHeartbeats 4000000 in
theorem c_X8_passOne {G : am_G} {J : sg_S → Prop} (hJ : md_L J) {m x : sg_S} {T : Int} (hW : md_wb T x) (hZ : x 39 0 = 0) (h0 : J x) (hT : x 1 0 + 1 ≤ T) (hb : x 2 0 = 1) {mc ms : Nat} (hmc : 2 * (bs_min x 51 0 - x 51 0).toNat ≤ mc ∧ 66 * (bs_min x 51 0 - x 51 0).toNat ≤ ms) : am_Con G yX8_passOne wX8_passOne 6 mc ms [am_R (8, 0)] (en_h m x) (am_vd (en_h m (bs_min x))) := by
  refine am_of2 (Y := mX8_passOne) (by decide +kernel) rfl (fun z => by cases z) rfl rfl (Nat.le_of_ble_eq_true rfl) fun X => ?_
  have b3 := wb3 hW 0
  have hW1 := sp_tick_wb hW hT
  have hJ1 := hJ.2.2.2.1 _ h0
  have e3 : sp_tick x 3 0 = x 3 0 := sp_tick_3
  have e51 : sp_tick x 51 0 = x 51 0 := by simp [sp_tick, st]
  have f51 : bs_min x 51 0 = bs_lks (sp_tick x) (sp_tick x 3 0).toNat 51 0 := by unfold bs_min; rw [sp_trs_f (by decide) (by decide), e3]
  refine am_aload_n eX8_passOne_0 rfl ?_
  refine am_dup (by simp) eX8_passOne_1 ?_
  refine am_getf eX8_passOne_2 fX8_21 (en_c8 (m := m) (x := x)) rfl ?_
  have b1 := wb1 hW 0
  refine am_iconst eX8_passOne_5 ?_
  refine am_iadd eX8_passOne_6 ?_
  refine am_putf eX8_passOne_7 fX8_21 rfl (en_c8 (m := m) (x := x)) (Nat.le_of_ble_eq_true rfl) trivial (am_heq (cx_now) ?_)
  refine am_iconst eX8_passOne_10 ?_
  refine am_istore_n eX8_passOne_11 (by decide) ?_
  refine am_heq (h' := en_h m (sp_tick x)) (congrArg (en_h m) (sp_tick_of hb)) ?_
  refine lq_X8_passOne1 hJ hW1 hJ1 (B := x 51 0) (by rw [← f51]; exact hmc) (by omega) (fun jv => ?_) _ 0 0 _ 0 0 rfl rfl (Nat.zero_add _) (by rw [e51, Int.sub_self]; rfl) (by rw [e51, Int.sub_self]; rfl)
  refine am_iconst eX8_passOne_38 ?_
  refine am_istore_n eX8_passOne_39 (by decide) ?_
  refine am_mono (lq_X8_passOne2 (bs_lks_wb hJ hJ1 hW1 _ (by rw [e3]; omega)) (by rw [bs_lks_f (by decide) (by decide) (by decide) (by decide) (by decide)]; unfold sp_tick; rw [st_nf (by decide), st_nf (by decide)]; exact hZ) (by rw [← f51]; exact hmc.1) (by rw [← f51]; exact hmc.2) _ 0 0 _ rfl rfl (Nat.zero_add _)) ?_
  intro r h' q
  refine ⟨q.1, q.2.trans ?_⟩
  rw [bs_lks_f (by decide) (by decide) (by decide) (by decide) (by decide), e3]
  rfl
set_option maxRecDepth 100000 in
set_option maxHeartbeats 4000000 in
theorem lq_X8_pass {G : am_G} {X : am_X} {J : sg_S → Prop} (hJ : md_L J) (hZ : ∀ σ, J σ → σ 39 0 = 0) {m x : sg_S} {T : Int} (hW : md_wb T x) (h0 : J x) (hb : x 2 0 = 1) {a : Int} {N : Nat} (ha : a = (N : Int)) (hN : N ≤ 200) (hT : x 1 0 + N ≤ T) {mc ms : Nat} (hmc : 2 * (bs_mins x N 51 0 - x 51 0).toNat ≤ mc ∧ 66 * (bs_mins x N 51 0 - x 51 0).toNat ≤ ms) {Q : am_Re → am_AH → Prop} (hQ : Q (.inl (some (am_I (x 1 0 + a)))) (en_h m (bs_mins x N))) : ∀ (n j : Nat) (jv : Int) (m1 : sg_S) (k9 n9 : Nat), jv = (j : Int) → m1 = bs_mins x j → j + n = N → k9 = 2 * (m1 51 0 - x 51 0).toNat → n9 = 66 * (m1 51 0 - x 51 0).toNat → am_W G X mX8_pass 7 mc ms (am_end G X mc ms Q) 28 [some (am_R (8, 0)), some (am_I a), some (am_I jv)] [] (en_h m m1) k9 n9 := by
  intro n
  induction n with
  | zero =>
    intro j jv m1 k9 n9 hj hm1 hn hk9 hn9
    have hz := bs_mins_JW hJ h0 hW j (by omega)
    have hJm1 : J m1 := by rw [hm1]; exact hz.1
    have hWm1 : md_wb T m1 := by rw [hm1]; exact hz.2
    have h11 : m1 1 0 = x 1 0 + j := by rw [hm1]; exact bs_mins_1 j
    have b1 := wb1 hW 0
    refine am_iload_n eX8_pass_28 rfl ?_
    refine am_iload_n eX8_pass_29 rfl ?_
    refine am_icmp_ge ⟨by omega, by omega⟩ ⟨by omega, by omega⟩ eX8_pass_30 (fun c1 => ?_) (fun c1 => absurd c1 (by omega))
    refine am_aload_n eX8_pass_43 rfl ?_
    refine am_getf eX8_pass_44 fX8_21 (en_c8 (m := m) (x := m1)) rfl ?_
    refine am_ireturn eX8_pass_47 rfl trivial (by rw [hk9, hm1, show j = N by omega]; exact hmc.1) (by rw [hn9, hm1, show j = N by omega]; exact hmc.2) ?_
    refine (show Q (.inl (some (am_I (m1 1 0)))) (en_h m m1) from ?_)
    rw [h11, hm1, show j = N by omega, ← ha]
    exact hQ
  | succ n ih =>
    intro j jv m1 k9 n9 hj hm1 hn hk9 hn9
    have hz := bs_mins_JW hJ h0 hW j (by omega)
    have hJm1 : J m1 := by rw [hm1]; exact hz.1
    have hWm1 : md_wb T m1 := by rw [hm1]; exact hz.2
    have h11 : m1 1 0 = x 1 0 + j := by rw [hm1]; exact bs_mins_1 j
    have b1 := wb1 hW 0
    have h21 : m1 2 0 = 1 := by
      rw [hm1]
      cases j with
      | zero => exact hb
      | succ j => exact bs_min_2
    obtain ⟨m2, hm2⟩ : ∃ z, z = bs_min m1 := ⟨_, rfl⟩
    have e2 : m2 = bs_mins x (j + 1) := by rw [hm2, hm1]; rfl
    have d12 : m1 51 0 ≤ m2 51 0 := by rw [hm2]; exact bs_min_51
    have d2 : m2 51 0 ≤ bs_mins x N 51 0 := by rw [e2, ← hn, show j + (n + 1) = (j + 1) + n by omega]; exact bs_mins_51 n
    have d1 : x 51 0 ≤ m1 51 0 := by rw [hm1]; have z := bs_mins_51 (σ := x) (a := 0) j; rw [Nat.zero_add] at z; exact z
    refine am_iload_n eX8_pass_28 rfl ?_
    refine am_iload_n eX8_pass_29 rfl ?_
    refine am_icmp_ge ⟨by omega, by omega⟩ ⟨by omega, by omega⟩ eX8_pass_30 (fun c1 => absurd c1 (by omega)) (fun c1 => ?_)
    refine am_aload_n eX8_pass_33 rfl ?_
    refine am_cM_v (h1 := en_h m m2) (mc' := 2 * (m2 51 0 - m1 51 0).toNat) (ms' := 66 * (m2 51 0 - m1 51 0).toNat) eX8_pass_34 kX8_203 (by rw [hm2]; exact c_X8_passOne (m := m) (x := m1) hJ hWm1 (hZ _ hJm1) hJm1 (by omega) h21 ⟨Nat.le_refl _, Nat.le_refl _⟩) rfl rfl (en_c8 (m := m) (x := m1)) (by decide) (by decide) (Nat.le_of_ble_eq_true rfl) (by omega) (by omega) ?_
    refine am_iinc eX8_pass_37 rfl (by decide) ?_
    refine am_goto eX8_pass_40 ?_
    exact ih (j + 1) _ _ _ _ (by omega) e2 (by omega) (by omega) (by omega)

