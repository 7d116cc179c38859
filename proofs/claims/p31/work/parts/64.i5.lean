/-- bounds that a tape wants -/
def sg_B (σ : sg_S) : Prop := (∀ w, 0 ≤ σ 12 w) ∧ (∀ w, 0 ≤ σ 28 w) ∧ (∀ o, 0 ≤ σ 31 o ∧ σ 31 o ≤ 60) ∧ (∀ w, 0 ≤ σ 33 w ∧ σ 33 w ≤ 40) ∧ (∀ o, 0 ≤ σ 37 o ∧ σ 37 o ≤ 60)
theorem sg_B_wb {T : Int} {σ : sg_S} (hW : md_wb T σ) : sg_B σ := ⟨fun w => (wb12 hW w).1, fun w => (wb28 hW w).1, fun o => wb31 hW o, fun w => wb33 hW w, fun o => wb37 hW o⟩
theorem sg_B_of {σ τ : sg_S} (h : ∀ f j, f = 12 ∨ f = 28 ∨ f = 31 ∨ f = 33 ∨ f = 37 → τ f j = σ f j) (hB : sg_B σ) : sg_B τ := by
  obtain ⟨h1, h2, h3, h4, h5⟩ := hB
  refine ⟨fun w => ?_, fun w => ?_, fun w => ?_, fun w => ?_, fun w => ?_⟩
  · rw [h 12 w (by decide)]; exact h1 w
  · rw [h 28 w (by decide)]; exact h2 w
  · rw [h 31 w (by decide)]; exact h3 w
  · rw [h 33 w (by decide)]; exact h4 w
  · rw [h 37 w (by decide)]; exact h5 w
theorem sg_B_st {σ : sg_S} {f i : Nat} {v : Int} (hB : sg_B σ) (k1 : f = 12 → 0 ≤ v) (k2 : f = 28 → 0 ≤ v) (k3 : f = 31 → 0 ≤ v ∧ v ≤ 60) (k4 : f = 33 → 0 ≤ v ∧ v ≤ 40) (k5 : f = 37 → 0 ≤ v ∧ v ≤ 60) : sg_B (st σ f i v) := by
  obtain ⟨h1, h2, h3, h4, h5⟩ := hB
  refine ⟨fun w => ?_, fun w => ?_, fun w => ?_, fun w => ?_, fun w => ?_⟩
  · simp only [st]; split
    · rename_i c; exact k1 c.1.symm
    · exact h1 w
  · simp only [st]; split
    · rename_i c; exact k2 c.1.symm
    · exact h2 w
  · simp only [st]; split
    · rename_i c; exact k3 c.1.symm
    · exact h3 w
  · simp only [st]; split
    · rename_i c; exact k4 c.1.symm
    · exact h4 w
  · simp only [st]; split
    · rename_i c; exact k5 c.1.symm
    · exact h5 w
theorem sg_B_tapes {σ : sg_S} (hB : sg_B σ) {w : Nat} {s : Int} : sg_B (sp_tapes σ w s) := by
  have b28 := hB.2.1 w
  obtain ⟨v, hv⟩ : ∃ v, v = (if s = 96 then (1 : Int) else 0) := ⟨_, rfl⟩
  have h0 : sg_B (st σ 27 w v) := sg_B_st hB (by omega) (by omega) (by omega) (by omega) (by omega)
  unfold sp_tapes
  rw [← hv]
  split
  · have h1 : sg_B (sp_opens0 (st σ 27 w v) w (σ 27 w)) := by
      unfold sp_opens0
      split
      · exact sg_B_st h0 (by omega) (by omega) (by omega) (by omega) (by omega)
      · exact h0
    have c28 := h1.2.1 w
    unfold sp_opens sp_opens1
    exact sg_B_st (sg_B_st (sg_B_st (sg_B_st h1 (by omega) (by omega) (by omega) (by omega) (by omega)) (by omega) (by omega) (by omega) (by omega) (by omega)) (by omega) (by omega) (by omega) (by omega) (by omega)) (by omega) (by omega) (by omega) (by omega) (by omega)
  · split
    · exact sg_B_st h0 (by omega) (by omega) (by omega) (by omega) (by omega)
    · split
      · rename_i h9
        have e28 : (st σ 27 w v) 28 w = σ 28 w := st_nf (by decide)
        have e31 := h0.2.2.1 (40 * w + ((st σ 27 w v) 28 w - 1).toNat)
        have e33 := h0.2.2.2.1 w
        unfold sp_ends
        split
        · refine sg_B_st (sg_B_of (σ := (st (st (st (st (st (st σ 27 w v) 28 w ((st σ 27 w v) 28 w - 1)) 34 (40 * w + ((st σ 27 w v) 33 w).toNat) ((st σ 27 w v) 29 (40 * w + ((st σ 27 w v) 28 w - 1).toNat))) 35 (40 * w + ((st σ 27 w v) 33 w).toNat) ((st σ 27 w v) 1 0)) 36 (40 * w + ((st σ 27 w v) 33 w).toNat) ((st σ 27 w v) 30 (40 * w + ((st σ 27 w v) 28 w - 1).toNat))) 37 (40 * w + ((st σ 27 w v) 33 w).toNat) ((st σ 27 w v) 31 (40 * w + ((st σ 27 w v) 28 w - 1).toNat)))) (fun f j h => sp_cs_f (by omega)) ?_) (by omega) (by omega) (by omega) (by omega) (by omega)
          exact sg_B_st (sg_B_st (sg_B_st (sg_B_st (sg_B_st h0 (by omega) (by omega) (by omega) (by omega) (by omega)) (by omega) (by omega) (by omega) (by omega) (by omega)) (by omega) (by omega) (by omega) (by omega) (by omega)) (by omega) (by omega) (by omega) (by omega) (by omega)) (by omega) (by omega) (by omega) (by omega) (fun _ => e31)
        · exact sg_B_st h0 (by omega) (by omega) (by omega) (by omega) (by omega)
      · split
        · rename_i h9
          have e31 := hB.2.2.1 (40 * w + (σ 28 w).toNat - 1)
          exact sg_B_st (sg_B_st h0 (by omega) (by omega) (by omega) (by omega) (by omega)) (by omega) (by omega) (by omega) (by omega) (by omega)
        · exact h0
theorem sg_B_kp {σ : sg_S} (hB : sg_B σ) {w p : Nat} {s : Int} : sg_B (sp_kp σ w p s) := by
  obtain ⟨h1, h2, h3, h4, h5⟩ := hB
  refine ⟨fun v => ?_, fun v => ?_, fun v => ?_, fun v => ?_, fun v => ?_⟩
  · have e : sp_kp σ w p s 12 v = if v = w then σ 12 w + 1 else σ 12 v := by simp [sp_kp]
    have a1 := h1 v
    have a2 := h1 w
    rw [e]; split <;> omega
  · rw [sp_kp_f (by decide) (by decide)]; exact h2 v
  · rw [sp_kp_f (by decide) (by decide)]; exact h3 v
  · rw [sp_kp_f (by decide) (by decide)]; exact h4 v
  · rw [sp_kp_f (by decide) (by decide)]; exact h5 v
theorem sg_B_looks {σ : sg_S} (hB : sg_B σ) {t u : Int} : sg_B (sp_looks σ t u) := by
  refine sp_looks_by sg_B hB (fun _ _ => ?_) (fun _ _ => ?_)
  · exact sg_B_tapes (sg_B_of (fun f j h => by rw [sp_writes_f (by omega), st_nf (by omega)]) hB)
  · exact sg_B_kp (sg_B_of (fun f j h => by rw [sp_writes_f (by omega), st_nf (by omega)]) hB)
theorem sg_B_bs {σ : sg_S} (hB : sg_B σ) {t u : Int} : sg_B (bs_looks σ t u) := sg_B_of (fun f j h => bs_looks_lo (by omega)) (sg_B_looks (t := t) (u := u) hB)
theorem sg_B_turn1 {σ : sg_S} (hB : sg_B σ) {w : Nat} (h : ¬ σ 12 w ≤ 0) : sg_B (sp_turn1 σ w) := by
  unfold sp_turn1 sp_turn0
  refine sg_B_of (fun f j h => sp_shl_f (by omega)) ?_
  exact sg_B_st (sg_B_st (sg_B_st (sg_B_st hB (by omega) (by omega) (by omega) (by omega) (by omega)) (by omega) (by omega) (by omega) (by omega) (by omega)) (by omega) (by omega) (by omega) (by omega) (by omega)) (by omega) (by omega) (by omega) (by omega) (by omega)
theorem sg_B_turn {σ : sg_S} (hB : sg_B σ) {t u : Int} {w : Nat} : sg_B (sp_turn σ t u w) := by
  refine sp_turn_by sg_B hB (fun _ _ => ?_) (fun _ c _ => sg_B_turn1 hB c) (fun _ c _ => ?_)
  · exact sg_B_of (fun f j h => by rw [st_nf (by omega), st_nf (by omega)]) hB
  · exact sg_B_of (fun f j h => sp_spyl_f (by omega) (by omega) _) (sg_B_turn1 hB c)

