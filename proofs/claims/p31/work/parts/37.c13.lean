theorem wb_of {T : Int} {σ τ : sg_S} (hW : md_wb T σ) (h : ∀ f j, f < 43 → τ f j = σ f j) : md_wb T τ := by
  refine ⟨fun f i hf => ?_, hW.2⟩
  rw [h f i hf]
  exact hW.1 f i hf
theorem bs_looks_wb {T : Int} {σ : sg_S} (hW : md_wb T σ) {t u : Int} (h8 : ∀ w, σ 28 w ≤ 38) : md_wb T (bs_looks σ t u) := wb_of (sp_looks_wb hW h8) fun f j hf => bs_looks_lo (by omega)
theorem bs_looks_51 {σ : sg_S} {t u : Int} : σ 51 0 ≤ bs_looks σ t u 51 0 := by
  unfold bs_looks
  by_cases c1 : ¬ (0 ≤ sp_lk σ t u ∧ sp_lk σ t u ≤ σ 3 0 - 1)
  · rw [if_pos c1]; omega
  · rw [if_neg c1]
    by_cases c2 : (σ 15 (2 * (sp_ln t u) + u.toNat) ≠ -1 ∧ σ 16 (2 * (sp_ln t u) + u.toNat) = 0 ∧ ((t = if u = 0 then 0 else σ 3 0 - 1) ∨ σ 12 (2 * t.toNat + u.toNat) < 10) ∧ an_see σ (if u = 0 then t.toNat else (sp_ln t u)) = 1)
    · rw [if_pos c2]
      by_cases c3 : (t = if u = 0 then 0 else σ 3 0 - 1)
      · rw [if_pos c3]
        unfold bs_tapes
        rw [mg_hi (by decide), sx_tape_51, sp_writes_f (by omega), st_nf (by decide)]
        split <;> omega
      · rw [if_neg c3, sp_kp_f (by decide) (by decide), sp_writes_f (by omega), st_nf (by decide)]
        omega
    · rw [if_neg c2]; omega
def bs_lks (σ : sg_S) : Nat → sg_S
  | 0 => σ
  | n + 1 => bs_looks (bs_looks (bs_lks σ n) (n : Int) 1) (n : Int) 0
def bs_min (σ : sg_S) : sg_S := sp_trs (bs_lks (sp_tick σ) (σ 3 0).toNat) (σ 3 0).toNat
def bs_mins (σ : sg_S) : Nat → sg_S
  | 0 => σ
  | n + 1 => bs_min (bs_mins σ n)
/-- what holds of every state of the class's pass -/
def md_L (J : sg_S → Prop) : Prop := (∀ σ, J σ → sg_D σ ∧ (∀ w, σ 28 w ≤ 38) ∧ (∀ t : Nat, (t : Int) < σ 3 0 → 1 ≤ σ 5 t)) ∧ (∀ σ t u, J σ → 0 ≤ t ∧ t ≤ σ 3 0 - 1 → u = 0 ∨ u = 1 → J (bs_looks σ t u)) ∧ (∀ σ t u w, J σ → 0 ≤ t ∧ t ≤ σ 3 0 - 1 → u = 0 ∨ u = 1 → w = 2 * t.toNat + u.toNat → J (sp_turn σ t u w)) ∧ (∀ σ, J σ → J (sp_tick σ)) ∧ (∀ σ, J σ → J (st σ 0 0 0)) ∧ (∀ σ, J σ → J (st σ 2 0 1))
theorem bs_looks_f {σ : sg_S} {t u : Int} {f j : Nat} (h1 : f ≠ 12) (h2 : f ≠ 14) (h3 : f < 16 ∨ 20 < f) (h4 : f < 27 ∨ 38 < f) (h5 : f ≤ 48) : bs_looks σ t u f j = σ f j := (bs_looks_lo h5).trans (sp_looks_f h1 h2 h3 h4)
theorem bs_lks_f {σ : sg_S} {f j : Nat} (h1 : f ≠ 12) (h2 : f ≠ 14) (h3 : f < 16 ∨ 20 < f) (h4 : f < 27 ∨ 38 < f) (h5 : f ≤ 48) : ∀ n, bs_lks σ n f j = σ f j
  | 0 => rfl
  | n + 1 => by simp only [bs_lks]; rw [bs_looks_f h1 h2 h3 h4 h5, bs_looks_f h1 h2 h3 h4 h5]; exact bs_lks_f h1 h2 h3 h4 h5 n
theorem bs_lks_51 {σ : sg_S} {a : Nat} : ∀ n, bs_lks σ a 51 0 ≤ bs_lks σ (a + n) 51 0
  | 0 => Int.le_refl _
  | n + 1 => Int.le_trans (bs_lks_51 n) (Int.le_trans bs_looks_51 bs_looks_51)
theorem bs_lks_J {J : sg_S → Prop} (hJ : md_L J) {σ : sg_S} (h : J σ) : ∀ n : Nat, (n : Int) ≤ σ 3 0 → J (bs_lks σ n)
  | 0, _ => h
  | n + 1, hn => by
    have h1 := bs_lks_J hJ h n (by omega)
    have e : bs_lks σ n 3 0 = σ 3 0 := bs_lks_f (by decide) (by decide) (by decide) (by decide) (by decide) n
    have h2 := hJ.2.1 _ (n : Int) 1 h1 (by rw [e]; omega) (Or.inr rfl)
    exact hJ.2.1 _ (n : Int) 0 h2 (by rw [bs_looks_f (by decide) (by decide) (by decide) (by decide) (by decide), e]; omega) (Or.inl rfl)
theorem bs_trs_J {J : sg_S → Prop} (hJ : md_L J) {σ : sg_S} (h : J σ) : ∀ n : Nat, (n : Int) ≤ σ 3 0 → J (sp_trs σ n)
  | 0, _ => h
  | n + 1, hn => by
    have h1 := bs_trs_J hJ h n (by omega)
    have e : sp_trs σ n 3 0 = σ 3 0 := sp_trs_f (by decide) (by decide) n
    have h2 := hJ.2.2.1 _ (n : Int) 1 (2 * n + 1) h1 (by rw [e]; omega) (Or.inr rfl) (by rw [Int.toNat_natCast]; rfl)
    exact hJ.2.2.1 _ (n : Int) 0 (2 * n) h2 (by rw [sp_turn_f (by decide) (by decide), e]; omega) (Or.inl rfl) (by rw [Int.toNat_natCast]; rfl)
theorem bs_lks_wb {T : Int} {J : sg_S → Prop} (hJ : md_L J) {σ : sg_S} (h : J σ) (hW : md_wb T σ) : ∀ n : Nat, (n : Int) ≤ σ 3 0 → md_wb T (bs_lks σ n)
  | 0, _ => hW
  | n + 1, hn => by
    have h1 := bs_lks_J hJ h n (by omega)
    have e : bs_lks σ n 3 0 = σ 3 0 := bs_lks_f (by decide) (by decide) (by decide) (by decide) (by decide) n
    have h2 := hJ.2.1 _ (n : Int) 1 h1 (by rw [e]; omega) (Or.inr rfl)
    exact bs_looks_wb (bs_looks_wb (bs_lks_wb hJ h hW n (by omega)) (hJ.1 _ h1).2.1) (hJ.1 _ h2).2.1
theorem bs_min_51 {σ : sg_S} : σ 51 0 ≤ bs_min σ 51 0 := by
  unfold bs_min
  rw [sp_trs_f (by decide) (by decide)]
  have h := bs_lks_51 (σ := sp_tick σ) (a := 0) (σ 3 0).toNat
  rw [Nat.zero_add] at h
  refine Int.le_trans ?_ h
  simp [bs_lks, sp_tick, st]
theorem bs_mins_51 {σ : sg_S} {a : Nat} : ∀ n, bs_mins σ a 51 0 ≤ bs_mins σ (a + n) 51 0
  | 0 => Int.le_refl _
  | n + 1 => Int.le_trans (bs_mins_51 n) bs_min_51
theorem bs_min_f {σ : sg_S} {f j : Nat} (h0 : f ≠ 1 ∧ f ≠ 2) (h1 : f < 12 ∨ 20 < f) (h2 : f < 27 ∨ 38 < f) (h3 : f < 41 ∨ 42 < f) (h5 : f ≤ 48) : bs_min σ f j = σ f j := by
  unfold bs_min
  rw [sp_trs_f (by omega) h3, bs_lks_f (by omega) (by omega) (by omega) h2 h5]
  unfold sp_tick
  rw [st_nf h0.1, st_nf h0.2]
theorem bs_min_1 {σ : sg_S} : bs_min σ 1 0 = σ 1 0 + 1 := by
  unfold bs_min
  rw [sp_trs_f (by decide) (by decide), bs_lks_f (by decide) (by decide) (by decide) (by decide) (by decide)]
  unfold sp_tick
  rw [st_eq]
theorem bs_min_2 {σ : sg_S} : bs_min σ 2 0 = 1 := by
  unfold bs_min
  rw [sp_trs_f (by decide) (by decide), bs_lks_f (by decide) (by decide) (by decide) (by decide) (by decide)]
  unfold sp_tick
  rw [st_nf (by decide), st_eq]
theorem bs_min_wb {T : Int} {J : sg_S → Prop} (hJ : md_L J) {σ : sg_S} (h : J σ) (hW : md_wb T σ) (hT : σ 1 0 + 1 ≤ T) : md_wb T (bs_min σ) := by
  have b3 := wb3 hW 0
  unfold bs_min
  exact sp_trs_wb (bs_lks_wb hJ (hJ.2.2.2.1 _ h) (sp_tick_wb hW hT) _ (by rw [sp_tick_3]; omega)) _
theorem bs_min_J {T : Int} {J : sg_S → Prop} (hJ : md_L J) {σ : sg_S} (h : J σ) (hW : md_wb T σ) : J (bs_min σ) := by
  have b3 := wb3 hW 0
  unfold bs_min
  refine bs_trs_J hJ (bs_lks_J hJ (hJ.2.2.2.1 _ h) _ (by rw [sp_tick_3]; omega)) _ ?_
  rw [bs_lks_f (by decide) (by decide) (by decide) (by decide) (by decide), sp_tick_3]
  omega
theorem bs_mins_1 {σ : sg_S} : ∀ n : Nat, bs_mins σ n 1 0 = σ 1 0 + n
  | 0 => by simp [bs_mins]
  | n + 1 => by simp only [bs_mins]; rw [bs_min_1, bs_mins_1 n]; omega
theorem bs_mins_JW {T : Int} {J : sg_S → Prop} (hJ : md_L J) {σ : sg_S} (h : J σ) (hW : md_wb T σ) : ∀ n : Nat, σ 1 0 + n ≤ T → J (bs_mins σ n) ∧ md_wb T (bs_mins σ n)
  | 0, _ => ⟨h, hW⟩
  | n + 1, hn => by
    obtain ⟨h1, h2⟩ := bs_mins_JW hJ h hW n (by omega)
    exact ⟨bs_min_J hJ h1 h2, bs_min_wb hJ h1 h2 (by rw [bs_mins_1]; omega)⟩
set_option maxRecDepth 100000 in
set_option maxHeartbeats 4000000 in
theorem lq_X8_passOne1 {G : am_G} {X : am_X} {Q : State → Prop} {J : sg_S → Prop} (hJ : md_L J) {m x : sg_S} {T : Int} (hW : md_wb T x) (h0 : J x) {B : Int} {mc ms : Nat} (hmc : 2 * (bs_lks x (x 3 0).toNat 51 0 - B).toNat ≤ mc ∧ 66 * (bs_lks x (x 3 0).toNat 51 0 - B).toNat ≤ ms) (hB : B ≤ x 51 0) (kk : ∀ jv : Int, am_W G X mX8_passOne 6 mc ms Q 38 [some (am_R (8, 0)), some (am_I jv)] [] (en_h m (bs_lks x (x 3 0).toNat)) (2 * (bs_lks x (x 3 0).toNat 51 0 - B).toNat) (66 * (bs_lks x (x 3 0).toNat 51 0 - B).toNat)) : ∀ (n j : Nat) (jv : Int) (m1 : sg_S) (k9 n9 : Nat), jv = (j : Int) → m1 = bs_lks x j → j + n = (x 3 0).toNat → k9 = 2 * (m1 51 0 - B).toNat → n9 = 66 * (m1 51 0 - B).toNat → am_W G X mX8_passOne 6 mc ms Q 12 [some (am_R (8, 0)), some (am_I jv)] [] (en_h m m1) k9 n9 := by
  intro n
  induction n with
  | zero =>
    intro j jv m1 k9 n9 hj hm1 hn hk9 hn9
    have b3 := wb3 hW 0
    have h31 : m1 3 0 = x 3 0 := by rw [hm1]; exact bs_lks_f (by decide) (by decide) (by decide) (by decide) (by decide) j
    have hW1 : md_wb T m1 := by rw [hm1]; exact bs_lks_wb hJ h0 hW j (by omega)
    refine am_iload_n eX8_passOne_12 rfl ?_
    refine am_aload_n eX8_passOne_13 rfl ?_
    refine am_getf eX8_passOne_14 fX8_66 (en_c8 (m := m) (x := m1)) rfl ?_
    refine am_icmp_ge ⟨by omega, by omega⟩ ⟨by omega, by omega⟩ eX8_passOne_17 (fun c1 => ?_) (fun c1 => absurd c1 (by omega))
    obtain rfl : j = (x 3 0).toNat := by omega
    subst hm1; subst hk9; subst hn9
    exact kk jv
  | succ n ih =>
    intro j jv m1 k9 n9 hj hm1 hn hk9 hn9
    have b3 := wb3 hW 0
    have h31 : m1 3 0 = x 3 0 := by rw [hm1]; exact bs_lks_f (by decide) (by decide) (by decide) (by decide) (by decide) j
    have hW1 : md_wb T m1 := by rw [hm1]; exact bs_lks_wb hJ h0 hW j (by omega)
    have hJm1 : J m1 := by rw [hm1]; exact bs_lks_J hJ h0 j (by omega)
    have hWm1 := hW1
    obtain ⟨m2, hm2⟩ : ∃ z, z = bs_looks m1 jv 1 := ⟨_, rfl⟩
    obtain ⟨m3, hm3⟩ : ∃ z, z = bs_looks m2 jv 0 := ⟨_, rfl⟩
    have e3 : m3 = bs_lks x (j + 1) := by rw [hm3, hm2, hm1, hj]; rfl
    have hJm2 : J m2 := by rw [hm2]; exact hJ.2.1 _ _ _ hJm1 (by omega) (Or.inr rfl)
    have h32 : m2 3 0 = x 3 0 := by rw [hm2, bs_looks_f (by decide) (by decide) (by decide) (by decide) (by decide)]; exact h31
    have hWm2 : md_wb T m2 := by rw [hm2]; exact bs_looks_wb hW1 (hJ.1 _ hJm1).2.1
    have d12 : m1 51 0 ≤ m2 51 0 := by rw [hm2]; exact bs_looks_51
    have d23 : m2 51 0 ≤ m3 51 0 := by rw [hm3]; exact bs_looks_51
    have d3 : m3 51 0 ≤ bs_lks x (x 3 0).toNat 51 0 := by rw [e3, ← hn, show j + (n + 1) = (j + 1) + n by omega]; exact bs_lks_51 n
    have d1 : x 51 0 ≤ m1 51 0 := by rw [hm1]; have z := bs_lks_51 (σ := x) (a := 0) j; rw [Nat.zero_add] at z; exact z
    refine am_iload_n eX8_passOne_12 rfl ?_
    refine am_aload_n eX8_passOne_13 rfl ?_
    refine am_getf eX8_passOne_14 fX8_66 (en_c8 (m := m) (x := m1)) rfl ?_
    refine am_icmp_ge ⟨by omega, by omega⟩ ⟨by omega, by omega⟩ eX8_passOne_17 (fun c1 => absurd c1 (by omega)) (fun c1 => ?_)
    refine am_aload_n eX8_passOne_20 rfl ?_
    refine am_iload_n eX8_passOne_21 rfl ?_
    refine am_iconst eX8_passOne_22 ?_
    refine am_cM_v (h1 := en_h m m2) (mc' := 2 * (m2 51 0 - m1 51 0).toNat) (ms' := 66 * (m2 51 0 - m1 51 0).toNat) eX8_passOne_23 kX8_297 (by rw [hm2]; exact c_X8_look (m := m) (x := m1) hWm1 (hJ.1 _ hJm1).1 (by omega) (Or.inr rfl) (hJ.1 _ hJm1).2.2 (hJ.1 _ hJm1).2.1 (fun z => by rw [← hm2] at z ⊢; omega)) rfl rfl (en_c8 (m := m) (x := m1)) (by decide) (by decide) (Nat.le_of_ble_eq_true rfl) (by omega) (by omega) ?_
    refine am_aload_n eX8_passOne_26 rfl ?_
    refine am_iload_n eX8_passOne_27 rfl ?_
    refine am_iconst eX8_passOne_28 ?_
    refine am_cM_v (h1 := en_h m m3) (mc' := 2 * (m3 51 0 - m2 51 0).toNat) (ms' := 66 * (m3 51 0 - m2 51 0).toNat) eX8_passOne_29 kX8_297 (by rw [hm3]; exact c_X8_look (m := m) (x := m2) hWm2 (hJ.1 _ hJm2).1 (by omega) (Or.inl rfl) (hJ.1 _ hJm2).2.2 (hJ.1 _ hJm2).2.1 (fun z => by rw [← hm3] at z ⊢; omega)) rfl rfl (en_c8 (m := m) (x := m2)) (by decide) (by decide) (Nat.le_of_ble_eq_true rfl) (by omega) (by omega) ?_
    refine am_iinc eX8_passOne_32 rfl (by decide) ?_
    refine am_goto eX8_passOne_35 ?_
    exact ih (j + 1) _ _ _ _ (by omega) e3 (by omega) (by omega) (by omega)

