theorem sp_low_eq {σ τ : sg_S} (h : ∀ j, τ 22 j = σ 22 j ∧ τ 23 j = σ 23 j) {b : Nat} {p : Int} : ∀ n, sp_low τ b p n = sp_low σ b p n
  | 0 => rfl
  | n + 1 => by simp only [sp_low, sp_low_eq h n, (h _).1, (h _).2]
/-- the lowest spot of a phrase in a book -/
def sp_lo (σ : sg_S) (b : Nat) (p : Int) : Int := sp_low σ b p (σ 21 b).toNat
/-- the row of signs made, after the first n phrases -/
def sp_mst (σ : sg_S) (b u : Nat) : Nat → sg_S
  | 0 => st (st σ 26 0 96) 26 u 92
  | n + 1 => st (st (sp_mst σ b u n) 26 (u + 1 + 2 * n) (sp_lo σ b (σ 25 n) / 92)) 26 (u + 1 + 2 * n + 1) (sp_lo σ b (σ 25 n) % 92)
def sp_mk (σ : sg_S) (b u : Nat) : Nat → Nat → sg_S
  | 0, i => st (sp_mst σ b u i) 26 (u + 1 + 2 * i) 93
  | n + 1, i => if sp_lo σ b (σ 25 i) = -1 then sp_mst σ b u i else sp_mk σ b u n (i + 1)
def an_mk (σ : sg_S) (b u : Nat) : Nat → Nat → Int
  | 0, i => u + 2 * i + 2
  | n + 1, i => if sp_lo σ b (σ 25 i) = -1 then -1 else an_mk σ b u n (i + 1)
theorem sp_mst_f {σ : sg_S} {b u f j : Nat} (h : f ≠ 26) : ∀ n, sp_mst σ b u n f j = σ f j
  | 0 => by simp only [sp_mst]; rw [st_nf h, st_nf h]
  | n + 1 => by simp only [sp_mst]; rw [st_nf h, st_nf h]; exact sp_mst_f h n
theorem sp_mk_f {σ : sg_S} {b u f j : Nat} (h : f ≠ 26) : ∀ n i, sp_mk σ b u n i f j = σ f j
  | 0, i => by simp only [sp_mk]; rw [st_nf h]; exact sp_mst_f h i
  | n + 1, i => by
    simp only [sp_mk]
    split
    · exact sp_mst_f h i
    · exact sp_mk_f h n (i + 1)
theorem sp_lo_in {T : Int} {σ : sg_S} (hW : md_wb T σ) {b : Nat} {p : Int} : -1 ≤ sp_lo σ b p ∧ sp_lo σ b p ≤ 8463 := sp_low_in hW _
theorem sp_mst_wb {T : Int} {σ : sg_S} (hW : md_wb T σ) {b u : Nat} : ∀ n, (∀ i, i < n → sp_lo σ b (σ 25 i) ≠ -1) → md_wb T (sp_mst σ b u n)
  | 0, _ => wb_st (wb_st hW (by show (0 : Int) ≤ _; omega) (by show _ ≤ (96 : Int); omega)) (by show (0 : Int) ≤ _; omega) (by show _ ≤ (96 : Int); omega)
  | n + 1, h => by
    have h1 := sp_lo_in hW (b := b) (p := σ 25 n)
    have h2 := h n (by omega)
    exact wb_st (wb_st (sp_mst_wb hW n fun i hi => h i (by omega)) (by show (0 : Int) ≤ _; omega) (by show _ ≤ (96 : Int); omega)) (by show (0 : Int) ≤ _; omega) (by show _ ≤ (96 : Int); omega)
theorem sp_mk_wb {T : Int} {σ : sg_S} (hW : md_wb T σ) {b u : Nat} : ∀ n i, (∀ k, k < i → sp_lo σ b (σ 25 k) ≠ -1) → md_wb T (sp_mk σ b u n i)
  | 0, i, h => wb_st (sp_mst_wb hW i h) (by show (0 : Int) ≤ _; omega) (by show _ ≤ (96 : Int); omega)
  | n + 1, i, h => by
    simp only [sp_mk]
    split
    · exact sp_mst_wb hW i h
    · rename_i hc
      exact sp_mk_wb hW n (i + 1) fun k hk => by
        rcases Nat.lt_or_ge k i with z | z
        · exact h k z
        · rw [show k = i by omega]; exact hc
theorem an_mk_in {σ : sg_S} {b u : Nat} : ∀ n i, an_mk σ b u n i = -1 ∨ an_mk σ b u n i = u + 2 * ((i + n : Nat) : Int) + 2
  | 0, i => Or.inr (by simp [an_mk])
  | n + 1, i => by
    simp only [an_mk]
    split
    · exact Or.inl rfl
    · have := an_mk_in (σ := σ) (b := b) (u := u) n (i + 1)
      omega
