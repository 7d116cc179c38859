/-! what holds at rest, behind k calls -/
def sg_J (k : Nat) (σ : sg_S) : Prop := si_P k (σ 51 0) σ ∧ sg_D σ ∧ sg_B σ ∧ sg_F σ ∧ sg_U σ ∧ sg_V σ ∧ sg_N σ ∧ 0 ≤ σ 52 0
theorem sg_J_mk {k k' : Nat} {σ τ : sg_S} (hJ : sg_J k σ) (h1 : si_P k' (σ 51 0) τ) (hD : ∀ f j, (28 ≤ f ∧ f ≤ 38) ∨ (51 ≤ f ∧ f ≤ 65) → τ f j = σ f j) (h12 : ∀ w, 0 ≤ τ 12 w) (hF : sg_F τ) (hU : sg_U τ) (hV : sg_V τ) (hN : sg_N τ) : sg_J k' τ := by
  obtain ⟨j1, j2, j3, -, -, -, -, j8⟩ := hJ
  refine ⟨by rw [hD 51 0 (by decide)]; exact h1, sg_D_of hD j2, ?_, hF, hU, hV, hN, by rw [hD 52 0 (by decide)]; exact j8⟩
  obtain ⟨-, b2, b3, b4, b5⟩ := j3
  refine ⟨h12, fun w => ?_, fun w => ?_, fun w => ?_, fun w => ?_⟩
  · rw [hD 28 w (by decide)]; exact b2 w
  · rw [hD 31 w (by decide)]; exact b3 w
  · rw [hD 33 w (by decide)]; exact b4 w
  · rw [hD 37 w (by decide)]; exact b5 w
theorem sg_J_of {k : Nat} {σ τ : sg_S} (hJ : sg_J k σ) (h : ∀ f j, f ≠ 0 → f ≠ 1 → f ≠ 11 → f ≠ 24 → f ≠ 25 → f ≠ 26 → f ≠ 49 → f ≠ 50 → τ f j = σ f j) : sg_J k τ := by
  obtain ⟨j1, j2, j3, j4, j5, j6, j7, j8⟩ := id hJ
  refine sg_J_mk hJ (si_P_of (fun f j hf => h f j (by omega) (by omega) (by omega) (by omega) (by omega) (by omega) (by omega) (by omega)) j1) (fun f j hf => h f j (by omega) (by omega) (by omega) (by omega) (by omega) (by omega) (by omega) (by omega)) (fun w => by rw [h 12 w (by decide) (by decide) (by decide) (by decide) (by decide) (by decide) (by decide) (by decide)]; exact j3.1 w) (sg_F_of (fun f j hf => h f j (by omega) (by omega) (by omega) (by omega) (by omega) (by omega) (by omega) (by omega)) j4) (sg_U_of (fun f j hf => h f j (by omega) (by omega) (by omega) (by omega) (by omega) (by omega) (by omega) (by omega)) j5) (sg_V_of (fun f j hf => h f j (by omega) (by omega) (by omega) (by omega) (by omega) (by omega) (by omega) (by omega)) j6) (sg_N_of (fun f j hf => h f j (by omega) (by omega) (by omega) (by omega) (by omega) (by omega) (by omega) (by omega)) j7)
theorem sg_J_up {k k' : Nat} {σ : sg_S} (hJ : sg_J k σ) (hk : k ≤ k') : sg_J k' σ := ⟨si_mono hJ.1 hk (Int.le_refl _), hJ.2⟩
theorem sg_J_st {k : Nat} {σ : sg_S} {f j : Nat} {v : Int} (hJ : sg_J k σ) (hf : f = 0 ∨ f = 1 ∨ f = 11 ∨ f = 24 ∨ f = 25 ∨ f = 26 ∨ f = 49 ∨ f = 50) : sg_J k (st σ f j v) := sg_J_of hJ (fun g i h0 h1 h2 h3 h4 h5 h6 h7 => st_nf (by omega))
theorem sg_J_2 {k : Nat} {σ : sg_S} (hJ : sg_J k σ) : sg_J k (st σ 2 0 1) := by
  obtain ⟨j1, j2, j3, j4, j5, j6, j7, j8⟩ := id hJ
  exact sg_J_mk hJ (si_begun j1 (by decide)) (fun f j hf => st_nf (by omega)) (fun w => by rw [st_nf (by decide)]; exact j3.1 w) (sg_F_of (fun f j hf => st_nf (by omega)) j4) (sg_U_of (fun f j hf => st_nf (by omega)) j5) (sg_V_of (fun f j hf => st_nf (by omega)) j6) (sg_N_of (fun f j hf => st_nf (by omega)) j7)
theorem bs_looks_52 {σ : sg_S} {t u : Int} : bs_looks σ t u 52 0 = σ 52 0 := by
  refine bs_looks_by (fun z => z 52 0 = σ 52 0) rfl (fun _ _ _ => ?_) (fun _ _ _ => ?_)
  · unfold bs_tapes
    rw [mg_hi (by decide), sx_tape_f (by decide), sp_writes_f (by decide), st_nf (by decide)]
  · rw [sp_kp_f (by decide) (by decide), sp_writes_f (by decide), st_nf (by decide)]
theorem sg_J_looks {k : Nat} {σ : sg_S} {t u : Int} (hJ : sg_J k σ) (ht : 0 ≤ t ∧ t ≤ σ 3 0 - 1) (hu : u = 0 ∨ u = 1) : sg_J k (bs_looks σ t u) := by
  obtain ⟨j1, j2, j3, j4, j5, j6, j7, j8⟩ := hJ
  refine ⟨?_, sg_D_looks j2 j3 (si_38 j1) hu, sg_B_bs j3, sg_F_of (fun f j hf => bs_looks_f (by omega) (by omega) (by omega) (by omega) (by omega)) j4, sg_U_looks j5 (fun w => (j1.2.1 w).2) ht hu, sg_V_of (fun f j hf => bs_looks_lo (by omega)) (sg_V_looks (t := t) (u := u) j6), sg_N_of (fun f j hf => bs_looks_f (by omega) (by omega) (by omega) (by omega) (by omega)) j7, by rw [bs_looks_52]; exact j8⟩
  have h := si_looks j1 ht hu
  have e : σ 51 0 + (bs_looks σ t u 51 0 - σ 51 0) = bs_looks σ t u 51 0 := by omega
  rw [e] at h
  exact si_P_of (fun f j hf => bs_looks_lo (by omega)) h
theorem sg_J_turn {k : Nat} {σ : sg_S} {t u : Int} {w : Nat} (hJ : sg_J k σ) (ht : 0 ≤ t ∧ t ≤ σ 3 0 - 1) (hu : u = 0 ∨ u = 1) (hw : w = 2 * t.toNat + u.toNat) : sg_J k (sp_turn σ t u w) := by
  obtain ⟨j1, j2, j3, j4, j5, j6, j7, j8⟩ := hJ
  have hv : ((w / 2 : Nat) : Int) < σ 3 0 := by omega
  exact ⟨by rw [sp_turn_f (by decide) (by decide)]; exact si_turn j1 ht hu hw, sg_D_turn j2, sg_B_turn j3, sg_F_of (fun f j hf => sp_turn_f (by omega) (by omega)) j4, sg_U_turn j5 (fun w => (j1.2.1 w).2) hv, sg_V_turn j6, sg_N_of (fun f j hf => sp_turn_f (by omega) (by omega)) j7, by rw [sp_turn_f (by decide) (by decide)]; exact j8⟩
theorem sg_J_L (k : Nat) : md_L (sg_J k) := by
  refine ⟨fun σ h => ⟨h.2.1, si_38 h.1, h.2.2.2.1⟩, fun σ t u h ht hu => sg_J_looks h ht hu, fun σ t u w h ht hu hw => sg_J_turn h ht hu hw, fun σ h => ?_, fun σ h => sg_J_st h (by decide), fun σ h => sg_J_2 h⟩
  unfold sp_tick
  exact sg_J_st (sg_J_2 h) (by decide)
/-- the model's -/
def sg_M (k : Nat) (σ : sg_S) : Prop := si_P k 0 σ ∧ sg_F σ
theorem sg_J_M (k : Nat) : md_J (sg_M k) := by
  refine ⟨fun σ h => ⟨si_38 h.1, h.2⟩, fun σ t u h ht hu => ⟨?_, sg_F_of (fun f j hf => sp_looks_f (by omega) (by omega) (by omega) (by omega)) h.2⟩, fun σ t u w h ht hu hw => ⟨si_turn h.1 ht hu hw, sg_F_of (fun f j hf => sp_turn_f (by omega) (by omega)) h.2⟩, fun σ h => ?_, fun σ h => ⟨si_P_0 h.1, sg_F_of (fun f j hf => st_nf (by omega)) h.2⟩⟩
  · have z := bs_looks_51 (σ := σ) (t := t) (u := u)
    exact si_mono (si_looks h.1 ht hu) (Nat.le_refl _) (by omega)
  · unfold sp_tick
    exact ⟨si_P_of (fun f j hf => st_nf (by omega)) (si_begun h.1 (by decide)), sg_F_of (fun f j hf => by rw [st_nf (by omega), st_nf (by omega)]) h.2⟩
def sg_R (k : Nat) (σ : sg_S) : Prop := md_wb 110000 σ ∧ σ 1 0 ≤ 360 + 200 * (k : Int) ∧ (∀ w, σ 16 w = 0) ∧ sg_J k σ
theorem sg_R_49 {k : Nat} {σ : sg_S} {v : Int} (h : sg_R k σ) : sg_R k (st σ 49 0 v) := by
  obtain ⟨h1, h2, h3, h4⟩ := h
  exact ⟨wb_of h1 (fun f j hf => st_nf (by omega)), by rw [st_nf (by decide)]; exact h2, fun w => by rw [st_nf (by decide)]; exact h3 w, sg_J_st h4 (by decide)⟩
theorem sg_R_0 {k : Nat} {σ : sg_S} {c : Int} (h : sg_R k σ) (hc : 0 ≤ c ∧ c ≤ 3) : sg_R (k + 1) (st σ 0 0 c) := by
  obtain ⟨h1, h2, h3, h4⟩ := h
  exact ⟨wb_0 h1 hc, by rw [st_nf (by decide)]; omega, fun w => by rw [st_nf (by decide)]; exact h3 w, sg_J_up (sg_J_st h4 (by decide)) (by omega)⟩
theorem sr_sees {k : Nat} {σ : sg_S} {s : Int} (h : sg_R k σ) : sg_R (k + 1) (sp_sees σ s) := by
  unfold sp_sees
  (repeat' split) <;> exact sg_R_0 h (by decide)
theorem sr_shows {k : Nat} {σ : sg_S} {t u : Int} (h : sg_R k σ) : sg_R (k + 1) (sp_shows σ t u) := by
  unfold sp_shows
  (repeat' split) <;> exact sg_R_0 h (by decide)
theorem sr_keeps {k : Nat} {σ : sg_S} {t u p : Int} (h : sg_R k σ) : sg_R (k + 1) (sp_keeps σ t u p) := by
  unfold sp_keeps
  (repeat' split) <;> exact sg_R_0 h (by decide)
theorem sr_logs {k : Nat} {σ : sg_S} {t u : Int} (h : sg_R k σ) : sg_R (k + 1) (sp_logs σ t u) := by
  unfold sp_logs
  (repeat' split) <;> exact sg_R_0 h (by decide)
theorem sr_log {k : Nat} {σ : sg_S} {t u n a : Int} (h : sg_R k σ) : sg_R (k + 1) (sp_log σ t u n a) := by
  unfold sp_log
  (repeat' split) <;> exact sg_R_0 h (by decide)
theorem sr_differs {k : Nat} {σ : sg_S} {t o u : Int} (h : sg_R k σ) : sg_R (k + 1) (sp_differs σ t o u) := by
  unfold sp_differs
  (repeat' split) <;> exact sg_R_0 h (by decide)
theorem sr_told {k : Nat} {σ : sg_S} {u n a : Int} (h : sg_R k σ) : sg_R (k + 1) (sp_told σ u n a) := by
  unfold sp_told
  (repeat' split) <;> exact sg_R_0 h (by decide)
theorem sr_phrase {k : Nat} {σ : sg_S} {u n p b : Int} (h : sg_R k σ) : sg_R (k + 1) (sp_phrase σ u n p b) := by
  unfold sp_phrase
  (repeat' split) <;> exact sg_R_0 h (by decide)
theorem sr_seen {k : Nat} {σ : sg_S} {n : Int} (h : sg_R k σ) : sg_R (k + 1) (sp_seen σ n) := by
  unfold sp_seen
  (repeat' split) <;> exact sg_R_0 h (by decide)
theorem sr_tries {k : Nat} {σ : sg_S} {a b : Int} (h : sg_R k σ) : sg_R (k + 1) (sp_tries σ a b) := by
  unfold sp_tries
  (repeat' split) <;> exact sg_R_0 h (by decide)
theorem sr_comes {k : Nat} {σ : sg_S} {a : Int} (h : sg_R k σ) : sg_R (k + 1) (sp_comes σ a) := by
  unfold sp_comes
  (repeat' split) <;> exact sg_R_0 h (by decide)
theorem sr_minute {k : Nat} {σ : sg_S} (h : sg_R k σ) : sg_R (k + 1) (sp_minute σ) := by
  unfold sp_minute
  (repeat' split) <;> exact sg_R_0 h (by decide)
theorem sr_towers {k : Nat} {σ : sg_S} (h : sg_R k σ) : sg_R (k + 1) (sp_towers σ) := by
  unfold sp_towers
  (repeat' split) <;> exact sg_R_0 h (by decide)
theorem sr_came {k : Nat} {σ : sg_S} {u : Int} (h : sg_R k σ) : sg_R (k + 1) (sp_came σ u) := by
  unfold sp_came
  (repeat' split) <;> exact sg_R_0 h (by decide)
theorem sr_open {k : Nat} {σ : sg_S} {u : Int} (h : sg_R k σ) : sg_R (k + 1) (sp_open σ u) := by
  unfold sp_open
  (repeat' split) <;> exact sg_R_0 h (by decide)
theorem sr_of {k : Nat} {σ τ : sg_S} (h : sg_R k σ) (hW : md_wb 110000 τ) (hf : ∀ f j, f ≠ 0 → f ≠ 11 → f ≠ 24 → f ≠ 25 → τ f j = σ f j) : sg_R (k + 1) τ := by
  obtain ⟨h1, h2, h3, h4⟩ := h
  exact ⟨hW, by rw [hf 1 0 (by decide) (by decide) (by decide) (by decide)]; omega, fun w => by rw [hf 16 w (by decide) (by decide) (by decide) (by decide)]; exact h3 w, sg_J_up (sg_J_of h4 (fun f j h0 h1 h2 h3 h4 h5 h6 h7 => hf f j h0 h2 h3 h4)) (by omega)⟩
theorem sr_seed {k : Nat} {σ : sg_S} {a : Int} (h : sg_R k σ) : sg_R (k + 1) (sp_seed σ a) := by
  refine sr_of h (wb_seed h.1) (fun f j h0 h1 h2 h3 => ?_)
  unfold sp_seed
  (repeat' split) <;> simp [st, h0, h1]
theorem sr_type {k : Nat} {σ : sg_S} {a : Int} (h : sg_R k σ) : sg_R (k + 1) (sp_type σ a) := by
  refine sr_of h (wb_type h.1) (fun f j h0 h1 h2 h3 => ?_)
  unfold sp_type
  (repeat' split) <;> simp [st, h0, h2, h3]
theorem sr_clear {k : Nat} {σ : sg_S} (h : sg_R k σ) : sg_R (k + 1) (sp_clear σ) := by
  refine sr_of h (wb_clear h.1) (fun f j h0 h1 h2 h3 => ?_)
  unfold sp_clear
  simp [st, h0, h2]
theorem sg_U_hh {σ τ : sg_S} (hU : sg_U σ) (h : ∀ f j, f = 3 ∨ (12 ≤ f ∧ f ≤ 20) ∨ (39 ≤ f ∧ f ≤ 42) → τ f j = σ f j) (h6 : ∀ n : Nat, σ 3 0 ≤ (n : Int) → τ 6 n = σ 6 n) (hs : ∀ s : Nat, σ 3 0 ≤ (s : Int) + 1 → τ 7 s = σ 7 s ∧ τ 8 s = σ 8 s ∧ ∀ z, z < 3 → τ 9 (3 * s + z) = σ 9 (3 * s + z) ∧ τ 10 (3 * s + z) = σ 10 (3 * s + z)) : sg_U τ := by
  obtain ⟨u1, u2, u3, u4⟩ := hU
  have e3 : τ 3 0 = σ 3 0 := h 3 0 (by decide)
  refine ⟨fun n hn => ?_, fun w hw => ?_, fun s hn => ?_, fun n hn => ?_⟩
  · rw [e3] at hn; rw [h6 n hn]; exact u1 n hn
  · rw [e3] at hw
    obtain ⟨v1, v2, v3, v4, v5, v6, v7⟩ := u2 w hw
    refine ⟨?_, ?_, ?_, ?_, ?_, fun z hz => ?_, fun z hz => ⟨?_, ?_, ?_⟩⟩
    · rw [h 12 w (by decide)]; exact v1
    · rw [h 13 w (by decide)]; exact v2
    · rw [h 15 w (by decide)]; exact v3
    · rw [h 16 w (by decide)]; exact v4
    · rw [h 17 w (by decide)]; exact v5
    · rw [h 14 _ (by decide)]; exact v6 z hz
    · rw [h 18 _ (by decide)]; exact (v7 z hz).1
    · rw [h 19 _ (by decide)]; exact (v7 z hz).2.1
    · rw [h 20 _ (by decide)]; exact (v7 z hz).2.2
  · rw [e3] at hn
    obtain ⟨v1, v2, v3⟩ := u3 s hn
    obtain ⟨g1, g2, g3⟩ := hs s hn
    exact ⟨g1.trans v1, g2.trans v2, fun z hz => ⟨(g3 z hz).1.trans (v3 z hz).1, (g3 z hz).2.trans (v3 z hz).2⟩⟩
  · rw [h 39 0 (by decide)] at hn
    obtain ⟨v1, v2⟩ := u4 n hn
    exact ⟨by rw [h 41 n (by decide)]; exact v1, fun z hz => by rw [h 42 _ (by decide)]; exact v2 z hz⟩
theorem sr_hh {k : Nat} {σ τ : sg_S} (h : sg_R k σ) (hW : md_wb 110000 τ) (hf : ∀ f j, f ≠ 0 → f ≠ 6 → f ≠ 7 → f ≠ 8 → f ≠ 9 → f ≠ 10 → τ f j = σ f j) (hU : sg_U τ) : sg_R (k + 1) τ := by
  obtain ⟨h1, h2, h3, h4⟩ := h
  obtain ⟨j1, j2, j3, j4, j5, j6, j7, j8⟩ := id h4
  refine ⟨hW, by rw [hf 1 0 (by decide) (by decide) (by decide) (by decide) (by decide) (by decide)]; omega, fun w => by rw [hf 16 w (by decide) (by decide) (by decide) (by decide) (by decide) (by decide)]; exact h3 w, ?_⟩
  exact sg_J_mk h4 (si_mono (si_P_of (fun f j q => hf f j (by omega) (by omega) (by omega) (by omega) (by omega) (by omega)) j1) (by omega) (Int.le_refl _)) (fun f j q => hf f j (by omega) (by omega) (by omega) (by omega) (by omega) (by omega)) (fun w => by rw [hf 12 w (by decide) (by decide) (by decide) (by decide) (by decide) (by decide)]; exact j3.1 w) (sg_F_of (fun f j q => hf f j (by omega) (by omega) (by omega) (by omega) (by omega) (by omega)) j4) hU (sg_V_of (fun f j q => hf f j (by omega) (by omega) (by omega) (by omega) (by omega) (by omega)) j6) (sg_N_of (fun f j q => hf f j (by omega) (by omega) (by omega) (by omega) (by omega) (by omega)) j7)
theorem sr_hill {k : Nat} {σ : sg_S} {s a b : Int} (h : sg_R k σ) : sg_R (k + 1) (sp_hill σ s a b) := by
  have b8 := wb8 h.1 s.toNat
  have hU := h.2.2.2.2.2.2.2.1
  refine sr_hh h (wb_hill h.1) (fun f j h0 h6 h7 h8 h9 h10 => ?_) ?_
  · unfold sp_hill
    (repeat' split) <;> simp [st, h0, h8, h9, h10]
  · unfold sp_hill
    split
    · exact sg_U_of (fun f j q => st_nf (by omega)) hU
    · split
      · exact sg_U_of (fun f j q => st_nf (by omega)) hU
      · split
        · exact sg_U_of (fun f j q => st_nf (by omega)) hU
        · refine sg_U_hh hU (fun f j q => by rw [st_nf (by omega), st_nf (by omega), st_nf (by omega), st_nf (by omega)]) (fun n hn => by rw [st_nf (by decide), st_nf (by decide), st_nf (by decide), st_nf (by decide)]) (fun v hv => ⟨by rw [st_nf (by decide), st_nf (by decide), st_nf (by decide), st_nf (by decide)], ?_, fun z hz => ⟨?_, ?_⟩⟩)
          · rw [st_ni (by omega), st_nf (by decide), st_nf (by decide), st_nf (by decide)]
          · rw [st_nf (by decide), st_nf (by decide), st_ni (by omega), st_nf (by decide)]
          · rw [st_nf (by decide), st_ni (by omega), st_nf (by decide), st_nf (by decide)]
theorem sr_air {k : Nat} {σ : sg_S} {s a : Int} (h : sg_R k σ) : sg_R (k + 1) (sp_air σ s a) := by
  have hU := h.2.2.2.2.2.2.2.1
  refine sr_hh h (wb_air h.1) (fun f j h0 h6 h7 h8 h9 h10 => ?_) ?_
  · unfold sp_air
    (repeat' split) <;> simp [st, h0, h7]
  · unfold sp_air
    split
    · exact sg_U_of (fun f j q => st_nf (by omega)) hU
    · split
      · exact sg_U_of (fun f j q => st_nf (by omega)) hU
      · refine sg_U_hh hU (fun f j q => by rw [st_nf (by omega), st_nf (by omega)]) (fun n hn => by rw [st_nf (by decide), st_nf (by decide)]) (fun v hv => ⟨by rw [st_ni (by omega), st_nf (by decide)], by rw [st_nf (by decide), st_nf (by decide)], fun z hz => ⟨by rw [st_nf (by decide), st_nf (by decide)], by rw [st_nf (by decide), st_nf (by decide)]⟩⟩)
theorem sr_tire {k : Nat} {σ : sg_S} {t a : Int} (h : sg_R k σ) : sg_R (k + 1) (sp_tire σ t a) := by
  have hU := h.2.2.2.2.2.2.2.1
  refine sr_hh h (wb_tire h.1) (fun f j h0 h6 h7 h8 h9 h10 => ?_) ?_
  · unfold sp_tire
    (repeat' split) <;> simp [st, h0, h6]
  · unfold sp_tire
    split
    · exact sg_U_of (fun f j q => st_nf (by omega)) hU
    · split
      · exact sg_U_of (fun f j q => st_nf (by omega)) hU
      · refine sg_U_hh hU (fun f j q => by rw [st_nf (by omega), st_nf (by omega)]) (fun n hn => by rw [st_ni (by omega), st_nf (by decide)]) (fun v hv => ⟨by rw [st_nf (by decide), st_nf (by decide)], by rw [st_nf (by decide), st_nf (by decide)], fun z hz => ⟨by rw [st_nf (by decide), st_nf (by decide)], by rw [st_nf (by decide), st_nf (by decide)]⟩⟩)
theorem sr_tower {k : Nat} {σ : sg_S} {a b : Int} (h : sg_R k σ) : sg_R (k + 1) (sp_tower σ a b) := by
  obtain ⟨h1, h2, h3, h4⟩ := id h
  obtain ⟨j1, j2, j3, j4, j5, j6, j7, j8⟩ := id h4
  have e : ∀ f j, f ≠ 0 → f ≠ 3 → f ≠ 4 → f ≠ 5 → sp_tower σ a b f j = σ f j := fun f j k0 k3 k4 k5 => by
    unfold sp_tower
    (repeat' split) <;> simp [st, k0, k3, k4, k5]
  refine ⟨wb_tower h1, by rw [e 1 0 (by decide) (by decide) (by decide) (by decide)]; omega, fun w => by rw [e 16 w (by decide) (by decide) (by decide) (by decide)]; exact h3 w, ?_⟩
  exact sg_J_mk h4 (si_mono (si_tower j1) (by omega) (Int.le_refl _)) (fun f j q => e f j (by omega) (by omega) (by omega) (by omega)) (fun w => by rw [e 12 w (by decide) (by decide) (by decide) (by decide)]; exact j3.1 w) (sg_F_tower h1 j4) (sg_U_tower h1 j5) (sg_V_of (fun f j q => e f j (by omega) (by omega) (by omega) (by omega)) j6) (sg_N_of (fun f j q => e f j (by omega) (by omega) (by omega) (by omega)) j7)
theorem sr_spy {k : Nat} {σ : sg_S} {t : Int} (h : sg_R k σ) : sg_R (k + 1) (sp_spy σ t) := by
  obtain ⟨h1, h2, h3, h4⟩ := id h
  obtain ⟨j1, j2, j3, j4, j5, j6, j7, j8⟩ := id h4
  have e : ∀ f j, f ≠ 0 → f ≠ 39 → f ≠ 40 → sp_spy σ t f j = σ f j := fun f j k0 k3 k4 => by
    unfold sp_spy
    (repeat' split) <;> simp [st, k0, k3, k4]
  refine ⟨wb_spy h1, by rw [e 1 0 (by decide) (by decide) (by decide)]; omega, fun w => by rw [e 16 w (by decide) (by decide) (by decide)]; exact h3 w, ?_⟩
  exact sg_J_mk h4 (si_mono (si_P_of (fun f j q => e f j (by omega) (by omega) (by omega)) j1) (by omega) (Int.le_refl _)) (fun f j q => e f j (by omega) (by omega) (by omega)) (fun w => by rw [e 12 w (by decide) (by decide) (by decide)]; exact j3.1 w) (sg_F_of (fun f j q => e f j (by omega) (by omega) (by omega)) j4) (sg_U_spy h1 j5) (sg_V_of (fun f j q => e f j (by omega) (by omega) (by omega)) j6) (sg_N_of (fun f j q => e f j (by omega) (by omega) (by omega)) j7)
theorem sr_write {k : Nat} {σ : sg_S} {a p l v : Int} (h : sg_R k σ) : sg_R (k + 1) (sp_write σ a p l v) := by
  obtain ⟨h1, h2, h3, h4⟩ := id h
  obtain ⟨j1, j2, j3, j4, j5, j6, j7, j8⟩ := id h4
  have e : ∀ f j, f ≠ 0 → f ≠ 21 → f ≠ 22 → f ≠ 23 → sp_write σ a p l v f j = σ f j := fun f j k0 k3 k4 k5 => by
    unfold sp_write
    (repeat' split) <;> simp [st, k0, k3, k4, k5]
  refine ⟨wb_write h1, by rw [e 1 0 (by decide) (by decide) (by decide) (by decide)]; omega, fun w => by rw [e 16 w (by decide) (by decide) (by decide) (by decide)]; exact h3 w, ?_⟩
  exact sg_J_mk h4 (si_mono (si_P_of (fun f j q => e f j (by omega) (by omega) (by omega) (by omega)) j1) (by omega) (Int.le_refl _)) (fun f j q => e f j (by omega) (by omega) (by omega) (by omega)) (fun w => by rw [e 12 w (by decide) (by decide) (by decide) (by decide)]; exact j3.1 w) (sg_F_of (fun f j q => e f j (by omega) (by omega) (by omega) (by omega)) j4) (sg_U_of (fun f j q => e f j (by omega) (by omega) (by omega) (by omega)) j5) (sg_V_of (fun f j q => e f j (by omega) (by omega) (by omega) (by omega)) j6) (sg_N_write h1 j7)
theorem sr_mark {k : Nat} {σ : sg_S} {t u e : Int} (h : sg_R k σ) (hu : u = 0 ∨ u = 1) : sg_R (k + 1) (sp_mark σ t u e) := by
  obtain ⟨h1, h2, h3, h4⟩ := id h
  obtain ⟨j1, j2, j3, j4, j5, j6, j7, j8⟩ := id h4
  have g : ∀ f j, f ≠ 0 → f ≠ 2 → f ≠ 12 → f ≠ 14 → (f < 17 ∨ 20 < f) → sp_mark σ t u e f j = σ f j := fun f j k0 k2 k12 k14 k17 => by
    unfold sp_mark
    split
    · exact st_nf k0
    · by_cases c : (t = if u = 0 then 0 else σ 3 0 - 1) ∨ 200 ≤ σ 12 (2 * t.toNat + u.toNat)
      · rw [if_pos c]; exact st_nf k0
      · rw [if_neg c, sp_writes_f k17, sp_kp_f k12 k14, st_nf k2, st_nf k0]
  have hU : sg_U (sp_mark σ t u e) := by
    unfold sp_mark
    split
    · exact sg_U_of (fun f j q => st_nf (by omega)) j5
    · rename_i c1
      by_cases c : (t = if u = 0 then 0 else σ 3 0 - 1) ∨ 200 ≤ σ 12 (2 * t.toNat + u.toNat)
      · rw [if_pos c]; exact sg_U_of (fun f j q => st_nf (by omega)) j5
      · rw [if_neg c]
        obtain ⟨s, hs⟩ : ∃ s : Int, s = if e = 0 then 95 else 94 := ⟨_, rfl⟩
        rw [← hs]
        have hX : sg_U (st (st σ 0 0 0) 2 0 1) := sg_U_of (fun f j q => by rw [st_nf (by omega), st_nf (by omega)]) j5
        have e12 : (st (st σ 0 0 0) 2 0 1) 12 (2 * t.toNat + u.toNat) = σ 12 (2 * t.toNat + u.toNat) := by rw [st_nf (by decide), st_nf (by decide)]
        have e3 : (st (st σ 0 0 0) 2 0 1) 3 0 = σ 3 0 := by rw [st_nf (by decide), st_nf (by decide)]
        generalize (st (st σ 0 0 0) 2 0 1) = X at hX e12 e3 ⊢
        have ho := sp_kp_o (σ := X) (H := 2 * t.toNat + u.toNat) (p := (σ 12 (2 * t.toNat + u.toNat)).toNat) (s := s) (by rw [e12]; omega)
        have hw := sp_writes_o (σ := sp_kp X (2 * t.toNat + u.toNat) (σ 12 (2 * t.toNat + u.toNat)).toNat s) (wv := 2 * t + u) (s := s) (o := 1) (H := 2 * t.toNat + u.toNat) (by omega)
        have hv : (((2 * t.toNat + u.toNat) / 2 : Nat) : Int) < X 3 0 := by omega
        refine sg_U_w hX ?_ ?_ (fun f j hf => ?_) (fun w hw' => ⟨fun f hf => ?_, fun z hz => ?_, fun f z hf hz => ?_⟩) (fun n hn => ⟨?_, fun z hz => ?_⟩)
        · rw [sp_writes_f (by decide), sp_kp_f (by decide) (by decide)]
        · rw [sp_writes_f (by decide), sp_kp_f (by decide) (by decide)]
        · rw [sp_writes_f (by omega), sp_kp_f (by omega) (by omega)]
        · have hne : w ≠ 2 * t.toNat + u.toNat := fun y => by rw [y] at hw'; omega
          rcases hf with rfl | rfl | rfl | rfl | rfl
          · rw [sp_writes_f (by decide)]; exact ho.1 w hne
          · rw [sp_writes_f (by decide), sp_kp_f (by decide) (by decide)]
          · rw [sp_writes_f (by decide), sp_kp_f (by decide) (by decide)]
          · rw [sp_writes_f (by decide), sp_kp_f (by decide) (by decide)]
          · rw [hw.1 w hne, sp_kp_f (by decide) (by decide)]
        · have hne : w ≠ 2 * t.toNat + u.toNat := fun y => by rw [y] at hw'; omega
          rw [sp_writes_f (by decide)]; exact ho.2 w z hne hz
        · have hne : w ≠ 2 * t.toNat + u.toNat := fun y => by rw [y] at hw'; omega
          rw [hw.2 f w z hf hne hz, sp_kp_f (by omega) (by omega)]
        · rw [sp_writes_f (by decide), sp_kp_f (by decide) (by decide)]
        · rw [sp_writes_f (by decide), sp_kp_f (by decide) (by decide)]
  refine ⟨wb_mark h1, by rw [g 1 0 (by decide) (by decide) (by decide) (by decide) (by decide)]; omega, fun w => by rw [g 16 w (by decide) (by decide) (by decide) (by decide) (by decide)]; exact h3 w, ?_⟩
  have hm := si_mark j1 j6 (t := t) (e := e) hu
  exact sg_J_mk h4 (si_mono hm (by omega) (Int.le_refl _)) (fun f j q => g f j (by omega) (by omega) (by omega) (by omega) (by omega)) (fun w => (hm.2.1 w).1) (sg_F_of (fun f j q => g f j (by omega) (by omega) (by omega) (by omega) (by omega)) j4) hU (sg_V_mark j6) (sg_N_of (fun f j q => g f j (by omega) (by omega) (by omega) (by omega) (by omega)) j7)
theorem sr_send {k : Nat} {σ : sg_S} {u b r : Int} (h : sg_R k σ) (hr : r = 0 ∨ r = 1) : sg_R (k + 1) (bs_send σ u b r) := by
  obtain ⟨h1, h2, h3, h4⟩ := id h
  obtain ⟨j1, j2, j3, j4, j5, j6, j7, j8⟩ := id h4
  have lo : ∀ f j, f ≤ 48 → bs_send σ u b r f j = sp_send σ u b r f j := fun f j hf => by unfold bs_send; exact mg_lo hf
  have hi : ∀ f j, 50 < f → bs_send σ u b r f j = σ f j := fun f j hf => by
    unfold bs_send
    rw [mg_hi (by omega)]
    split
    · exact sq_mk_f (by omega) _ _
    · rfl
  have g : ∀ f j, f ≠ 0 → f ≠ 2 → f ≠ 12 → f ≠ 13 → f ≠ 14 → f ≠ 26 → sp_send σ u b r f j = σ f j := fun f j k0 k2 k12 k13 k14 k26 => by
    unfold sp_send
    split
    · exact st_nf k0
    · split
      · rw [st_nf k0]; exact sp_sk_f ⟨k26, k0⟩
      · unfold sp_sent
        rw [st_nf k13, sp_si_f k12 k14, st_nf k2, st_nf k0]; exact sp_sk_f ⟨k26, k0⟩
  have hU : sg_U (sp_send σ u b r) := by
    unfold sp_send
    split
    · exact sg_U_of (fun f j q => st_nf (by omega)) j5
    · split
      · exact sg_U_of (fun f j q => by rw [st_nf (by omega)]; exact sp_sk_f ⟨by omega, by omega⟩) j5
      · rename_i c1 c2
        obtain ⟨a, ha⟩ : ∃ a, a = an_sk σ b r := ⟨_, rfl⟩
        obtain ⟨w, hw⟩ : ∃ w, w = sp_sw σ u := ⟨_, rfl⟩
        rcases an_sk_in (x := σ) (b := b) hr with z | ⟨z1, z2, z3⟩
        · exact absurd (Or.inl z) c2
        rw [← ha, ← hw] at c2 ⊢
        rw [← ha] at z1
        have hv : ((w / 2 : Nat) : Int) < σ 3 0 := by
          rw [hw]; unfold sp_sw
          rw [if_neg (by omega)]
          split <;> omega
        have b12 := wb12 h1 w
        have b13 := wb13 h1 w
        have v13 := j6 w
        have eM : ∀ f j, f ≠ 26 → f ≠ 0 → sp_sk σ b r f j = σ f j := fun f j k1 k2 => sp_sk_f ⟨k1, k2⟩
        unfold sp_sent
        rw [eM 12 w (by decide) (by decide), eM 13 w (by decide) (by decide)]
        have e' : ∀ f j, f ≠ 0 → f ≠ 2 → f ≠ 26 → (st (st (sp_sk σ b r) 0 0 0) 2 0 1) f j = σ f j := fun f j k0 k2 k26 => by rw [st_nf k2, st_nf k0, eM f j k26 k0]
        generalize (st (st (sp_sk σ b r) 0 0 0) 2 0 1) = X at e' ⊢
        have e12 : ∀ v, X 12 v = σ 12 v := fun v => e' 12 v (by decide) (by decide) (by decide)
        rw [sp_si_blk (by rw [e12]; omega) (by rw [e12]; split <;> omega)]
        refine sg_U_w j5 ?_ ?_ (fun f j hf => ?_) (fun v hv' => ⟨fun f hf => ?_, fun z hz => ?_, fun f z hf hz => ?_⟩) (fun n hn => ⟨?_, fun z hz => ?_⟩)
        · rw [st_nf (by decide), st_nf (by decide), sq_blk_f (by decide), e' 3 0 (by decide) (by decide) (by decide)]
        · rw [st_nf (by decide), st_nf (by decide), sq_blk_f (by decide), e' 39 0 (by decide) (by decide) (by decide)]
        · rw [st_nf (by omega), st_nf (by omega), sq_blk_f (by omega), e' f j (by omega) (by omega) (by omega)]
        · have hne : v ≠ w := fun y => by rw [y] at hv'; omega
          rcases hf with rfl | rfl | rfl | rfl | rfl
          · rw [st_nf (by decide), st_ni hne, sq_blk_f (by decide), e12]
          · rw [st_ni hne, st_nf (by decide), sq_blk_f (by decide), e' 13 v (by decide) (by decide) (by decide)]
          · rw [st_nf (by decide), st_nf (by decide), sq_blk_f (by decide), e' 15 v (by decide) (by decide) (by decide)]
          · rw [st_nf (by decide), st_nf (by decide), sq_blk_f (by decide), e' 16 v (by decide) (by decide) (by decide)]
          · rw [st_nf (by decide), st_nf (by decide), sq_blk_f (by decide), e' 17 v (by decide) (by decide) (by decide)]
        · have hne : v ≠ w := fun y => by rw [y] at hv'; omega
          rw [st_nf (by decide), st_nf (by decide)]
          unfold sq_blk
          rw [e12, if_neg (by split <;> omega), if_neg (by split <;> omega), e' 14 _ (by decide) (by decide) (by decide)]
        · rw [st_nf (by omega), st_nf (by omega), sq_blk_f (by omega), e' f _ (by omega) (by omega) (by omega)]
        · rw [st_nf (by decide), st_nf (by decide), sq_blk_f (by decide), e' 41 n (by decide) (by decide) (by decide)]
        · rw [st_nf (by decide), st_nf (by decide), sq_blk_f (by decide), e' 42 _ (by decide) (by decide) (by decide)]
  have hm := si_send h1 j1 j6 (u := u) (b := b) hr
  have gb : ∀ f j, f ≠ 0 → f ≠ 2 → f ≠ 12 → f ≠ 13 → f ≠ 14 → f ≠ 26 → f ≠ 49 → f ≠ 50 → bs_send σ u b r f j = σ f j := fun f j k0 k2 k12 k13 k14 k26 k49 k50 => by
    by_cases c : f ≤ 48
    · rw [lo f j c]; exact g f j k0 k2 k12 k13 k14 k26
    · exact hi f j (by omega)
  refine ⟨wb_of (wb_send h1 j6 hr) (fun f j hf => lo f j (by omega)), by rw [gb 1 0 (by decide) (by decide) (by decide) (by decide) (by decide) (by decide) (by decide) (by decide)]; omega, fun w => by rw [gb 16 w (by decide) (by decide) (by decide) (by decide) (by decide) (by decide) (by decide) (by decide)]; exact h3 w, ?_⟩
  exact sg_J_mk h4 (si_P_of (fun f j q => lo f j (by omega)) hm) (fun f j q => gb f j (by omega) (by omega) (by omega) (by omega) (by omega) (by omega) (by omega) (by omega)) (fun w => by rw [lo 12 w (by decide)]; exact (hm.2.1 w).1) (sg_F_of (fun f j q => gb f j (by omega) (by omega) (by omega) (by omega) (by omega) (by omega) (by omega) (by omega)) j4) (sg_U_of (fun f j q => lo f j (by omega)) hU) (sg_V_of (fun f j q => lo f j (by omega)) (sg_V_send j6)) (sg_N_of (fun f j q => gb f j (by omega) (by omega) (by omega) (by omega) (by omega) (by omega) (by omega) (by omega)) j7)
theorem sr_pass {k : Nat} {σ : sg_S} {a : Int} (h : sg_R k σ) (hk : k < 512) : sg_R (k + 1) (bs_pass σ a) := by
  unfold bs_pass
  split
  · exact sg_R_0 h (by decide)
  · rename_i c
    obtain ⟨h1, h2, h3, h4⟩ := h
    have e1 : (st σ 0 0 0) 1 0 = σ 1 0 := st_nf (by decide)
    have b3 := wb3 h1 0
    obtain ⟨g1, g2⟩ := bs_mins_JW (sg_J_L k) (sg_J_st h4 (by decide) : sg_J k (st σ 0 0 0)) (wb_0 h1 (by decide)) a.toNat (by rw [e1]; omega)
    refine ⟨g2, ?_, bs_mins_16 (by rw [st_nf (by decide)]; exact b3.1) (fun w => by rw [st_nf (by decide)]; exact h3 w) _, sg_J_up g1 (by omega)⟩
    rw [bs_mins_1, e1]; omega
theorem sr_start : sg_R 0 s_0 := by
  have z : ∀ f j, f ≠ 1 ∧ f ≠ 15 → s_0 f j = 0 := fun f j hf => s0_0 hf
  have z15 : ∀ j, s_0 15 j = -1 := fun j => rfl
  have z1 : s_0 1 0 = 360 := rfl
  have hW : md_wb 110000 s_0 := by
    refine ⟨fun f i hf => ?_, by decide, by decide⟩
    by_cases c : f = 15
    · subst c; rw [z15]; exact ⟨by decide, by decide⟩
    · by_cases c1 : f = 1
      · subst c1
        unfold s_0
        rw [if_neg (by decide)]
        split
        · exact ⟨by decide, by decide⟩
        · exact ⟨by decide, by decide⟩
      · rw [z f i ⟨c1, c⟩]
        constructor
        · unfold md_lo; split <;> omega
        · unfold md_hi; split <;> omega
  refine ⟨hW, by rw [z1]; decide, fun w => z 16 w (by decide), ?_, ?_, sg_B_wb hW, ?_, ?_, ?_, ?_, by rw [z 52 0 (by decide)]; decide⟩
  · have f1 : ∀ w, s_0 12 w = 0 ∧ (s_0 16 w = 0 → s_0 15 w = -1) := fun w => ⟨z 12 w (by decide), fun _ => z15 w⟩
    have f2 : ∀ v, s_0 28 v ≤ 0 := fun v => by rw [z 28 v (by decide)]; decide
    have f3 : s_0 51 0 ≤ 0 := by rw [z 51 0 (by decide)]; decide
    exact ⟨fun v _ => f2 v, fun w => by rw [(f1 w).1]; decide, fun _ => ⟨f1, f2, f3⟩, _, si_fre f1 f2 f3⟩
  · refine ⟨⟨by rw [z 51 0 (by decide)]; decide, fun w j => ⟨by rw [z 56 _ (by decide)]; decide, by rw [z 57 _ (by decide)]; decide⟩⟩, fun w j _ hj => ?_, fun w j _ hj => ?_, fun w j w' j' _ _ hj => ?_, fun w j w' j' _ _ hj => ?_⟩
    · rw [z 28 w (by decide)] at hj; omega
    · rw [z 33 w (by decide)] at hj; omega
    · rw [z 28 w (by decide)] at hj; omega
    · rw [z 28 w (by decide)] at hj; omega
  · intro t ht
    rw [z 3 0 (by decide)] at ht; omega
  · refine ⟨fun n _ => z 6 n (by decide), fun w _ => ⟨z 12 w (by decide), z 13 w (by decide), z15 w, z 16 w (by decide), z 17 w (by decide), fun q _ => z 14 _ (by decide), fun q _ => ⟨z 18 _ (by decide), z 19 _ (by decide), z 20 _ (by decide)⟩⟩, fun s _ => ⟨z 7 s (by decide), z 8 s (by decide), fun q _ => ⟨z 9 _ (by decide), z 10 _ (by decide)⟩⟩, fun n _ => ⟨z 41 n (by decide), fun q _ => z 42 _ (by decide)⟩⟩
  · intro w
    rw [z 12 w (by decide), z 13 w (by decide)]; exact Int.le_refl _
  · intro b i j hi
    rw [z 21 b (by decide)] at hi; omega

