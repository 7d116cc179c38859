def sp_opens0 (σ : sg_S) (w : Nat) (u : Int) : sg_S := if u = 0 ∧ ¬ (0 < σ 28 w ∧ σ 30 (40 * w + (σ 28 w).toNat - 1) ≠ 0) then st σ 28 w 0 else σ
def sp_opens1 (σ : sg_S) (w : Nat) (u : Int) : sg_S := st (st (st (st σ 29 (40 * w + (σ 28 w).toNat) (σ 1 0)) 30 (40 * w + (σ 28 w).toNat) u) 31 (40 * w + (σ 28 w).toNat) 0) 28 w (σ 28 w + 1)
def sp_opens (σ : sg_S) (w : Nat) (u : Int) : sg_S := sp_opens1 (sp_opens0 σ w u) w u
theorem sp_opens0_f {σ : sg_S} {w : Nat} {u : Int} {f j : Nat} (h : f ≠ 28) : sp_opens0 σ w u f j = σ f j := by
  unfold sp_opens0
  split
  · rw [st_nf h]
  · rfl
theorem sp_opens0_28 {σ : sg_S} {w : Nat} {u : Int} : sp_opens0 σ w u 28 w = 0 ∨ sp_opens0 σ w u 28 w = σ 28 w := by
  unfold sp_opens0
  split
  · left; rw [st_eq]
  · right; rfl
theorem sp_opens_f {σ : sg_S} {w : Nat} {u : Int} {f j : Nat} (h : f < 28 ∨ 31 < f) : sp_opens σ w u f j = σ f j := by
  unfold sp_opens sp_opens1
  rw [st_nf (by omega), st_nf (by omega), st_nf (by omega), st_nf (by omega), sp_opens0_f (by omega)]
theorem sp_opens_wb {T : Int} {σ : sg_S} (hW : md_wb T σ) {w : Nat} {u : Int} (hu : u = 0 ∨ u = 1) (h1 : σ 28 w ≤ 38) : md_wb T (sp_opens σ w u) := by
  have b28 := wb28 hW w
  have h0 : md_wb T (sp_opens0 σ w u) := by
    unfold sp_opens0
    split
    · exact wb_st hW (by show (0 : Int) ≤ _; omega) (by show _ ≤ (39 : Int); omega)
    · exact hW
  have b1 := h0.1 1 0 (by decide)
  have b1' := wb1 h0 0
  have h2 := sp_opens0_28 (σ := σ) (w := w) (u := u)
  unfold sp_opens sp_opens1
  exact wb_st (wb_st (wb_st (wb_st h0 (by show (0 : Int) ≤ _; omega) b1.2) (by show (0 : Int) ≤ _; omega) (by show _ ≤ (1 : Int); omega)) (by show (0 : Int) ≤ _; omega) (by show _ ≤ (60 : Int); omega)) (by show (0 : Int) ≤ _; omega) (by show _ ≤ (39 : Int); omega)
def sp_tapes (σ : sg_S) (w : Nat) (s : Int) : sg_S :=
  if s = 92 then sp_opens (st σ 27 w (if s = 96 then 1 else 0)) w (σ 27 w)
  else if s = 94 then st (st σ 27 w (if s = 96 then 1 else 0)) 28 w 0
  else if 0 < σ 28 w ∧ s = 93 then sp_ends (st σ 27 w (if s = 96 then 1 else 0)) w
  else if 0 < σ 28 w ∧ s < 92 ∧ σ 31 (40 * w + (σ 28 w).toNat - 1) < 60 then st (st (st σ 27 w (if s = 96 then 1 else 0)) 32 (60 * (40 * w + (σ 28 w).toNat - 1) + (σ 31 (40 * w + (σ 28 w).toNat - 1)).toNat) s) 31 (40 * w + (σ 28 w).toNat - 1) (σ 31 (40 * w + (σ 28 w).toNat - 1) + 1)
  else st σ 27 w (if s = 96 then 1 else 0)
theorem sp_tapes_f {σ : sg_S} {w : Nat} {s : Int} {f j : Nat} (h : f < 27 ∨ 38 < f) : sp_tapes σ w s f j = σ f j := by
  unfold sp_tapes
  split
  · rw [sp_opens_f (by omega), st_nf (by omega)]
  · split
    · rw [st_nf (by omega), st_nf (by omega)]
    · split
      · rw [sp_ends_f (by omega), st_nf (by omega)]
      · split
        · rw [st_nf (by omega), st_nf (by omega), st_nf (by omega)]
        · rw [st_nf (by omega)]
theorem sp_tapes_wb {T : Int} {σ : sg_S} (hW : md_wb T σ) {w : Nat} {s : Int} (hs : 0 ≤ s ∧ s ≤ 96) (h1 : σ 28 w ≤ 38) : md_wb T (sp_tapes σ w s) := by
  have b28 := wb28 hW w
  have h0 : md_wb T (st σ 27 w (if s = 96 then 1 else 0)) := by
    refine wb_st hW ?_ ?_
    · show (0 : Int) ≤ _; split <;> decide
    · show _ ≤ (1 : Int); split <;> decide
  have e28 : (st σ 27 w (if s = 96 then 1 else 0)) 28 w = σ 28 w := st_nf (by decide)
  unfold sp_tapes
  split
  · exact sp_opens_wb h0 (by have := wb27 hW w; omega) (by rw [e28]; exact h1)
  · split
    · exact wb_st h0 (by show (0 : Int) ≤ _; omega) (by show _ ≤ (39 : Int); omega)
    · split
      · exact sp_ends_wb h0 (by rw [e28]; omega)
      · split
        · have b31 := wb31 hW (40 * w + (σ 28 w).toNat - 1)
          exact wb_st (wb_st h0 (by show (0 : Int) ≤ _; omega) (by show _ ≤ (91 : Int); omega)) (by show (0 : Int) ≤ _; omega) (by show _ ≤ (60 : Int); omega)
        · exact h0
def sp_lk (σ : sg_S) (t u : Int) : Int := if u = 0 then t + 1 else t - 1
def sp_ln (t u : Int) : Nat := if u = 0 then t.toNat + 1 else t.toNat - 1
/-- a tower looks, for a way: what becomes -/
def sp_looks (σ : sg_S) (t u : Int) : sg_S :=
  if ¬ (0 ≤ sp_lk σ t u ∧ sp_lk σ t u ≤ σ 3 0 - 1) then σ
  else if σ 15 (2 * (sp_ln t u) + u.toNat) ≠ -1 ∧ σ 16 (2 * (sp_ln t u) + u.toNat) = 0 ∧ ((t = if u = 0 then 0 else σ 3 0 - 1) ∨ σ 12 (2 * t.toNat + u.toNat) < 10) ∧ an_see σ (if u = 0 then t.toNat else (sp_ln t u)) = 1 then
    if t = if u = 0 then 0 else σ 3 0 - 1 then
      sp_tapes (sp_writes (st σ 16 (2 * (sp_ln t u) + u.toNat) 1) (2 * t + u) (an_reads σ t (σ 15 (2 * (sp_ln t u) + u.toNat))) 0) u.toNat (an_reads σ t (σ 15 (2 * (sp_ln t u) + u.toNat)))
    else
      sp_kp (sp_writes (st σ 16 (2 * (sp_ln t u) + u.toNat) 1) (2 * t + u) (an_reads σ t (σ 15 (2 * (sp_ln t u) + u.toNat))) 0) (2 * t.toNat + u.toNat) (σ 12 (2 * t.toNat + u.toNat)).toNat (an_reads σ t (σ 15 (2 * (sp_ln t u) + u.toNat)))
  else σ
theorem an_reads_in {T : Int} {σ : sg_S} (hW : md_wb T σ) {t sg : Int} (h : 0 ≤ sg ∧ sg ≤ 96) : 0 ≤ an_reads σ t sg ∧ an_reads σ t sg ≤ 96 ∧ (sg < 92 → an_reads σ t sg < 92) ∧ (92 ≤ sg → an_reads σ t sg = sg) := by
  unfold an_reads
  split
  · split <;> omega
  · omega
theorem an_reads_st {σ : sg_S} {f j : Nat} {v t sg : Int} (h1 : f ≠ 1) (h2 : f ≠ 11) (h3 : f ≠ 6) : an_reads (st σ f j v) t sg = an_reads σ t sg := by
  simp [an_reads, st, Ne.symm h1, Ne.symm h2, Ne.symm h3]
