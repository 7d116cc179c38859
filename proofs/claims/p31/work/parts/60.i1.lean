/-! what holds at rest: pure statements over the state -/
theorem sg_N_of {σ τ : sg_S} (h : ∀ f j, f = 21 ∨ f = 22 → τ f j = σ f j) (hN : sg_N σ) : sg_N τ := by
  intro b i k
  rw [h 21 b (Or.inl rfl), h 22 _ (Or.inr rfl), h 22 _ (Or.inr rfl)]
  exact hN b i k
theorem sg_N_add {T : Int} {x : sg_S} (hW : md_wb T x) (hN : sg_N x) {A : Nat} {s v : Int} (hA : A ≤ 2) (hc : x 21 A < 200) (hf : ∀ i : Nat, i < (x 21 A).toNat → x 22 (200 * A + i) ≠ s) : sg_N (st (st (st x 21 A (x 21 A + 1)) 22 (200 * A + (x 21 A).toNat) s) 23 (200 * A + (x 21 A).toNat) v) := by
  have b21 := wb21 hW
  have e1 : ∀ b, (st (st (st x 21 A (x 21 A + 1)) 22 (200 * A + (x 21 A).toNat) s) 23 (200 * A + (x 21 A).toNat) v) 21 b = if b = A then x 21 A + 1 else x 21 b := fun b => by simp [st]
  have e2 : ∀ j, (st (st (st x 21 A (x 21 A + 1)) 22 (200 * A + (x 21 A).toNat) s) 23 (200 * A + (x 21 A).toNat) v) 22 j = if j = 200 * A + (x 21 A).toNat then s else x 22 j := fun j => by simp [st]
  intro b i k hi hk he
  rw [e1] at hi hk
  rw [e2, e2] at he
  have bb := b21 b
  have bA := b21 A
  by_cases c : b = A
  · subst c
    rw [if_pos rfl] at hi hk
    by_cases c1 : i = (x 21 b).toNat
    · by_cases c2 : k = (x 21 b).toNat
      · omega
      · rw [if_pos (by omega), if_neg (by omega)] at he
        exact absurd he.symm (hf k (by omega))
    · by_cases c2 : k = (x 21 b).toNat
      · rw [if_neg (by omega), if_pos (by omega)] at he
        exact absurd he (hf i (by omega))
      · rw [if_neg (by omega), if_neg (by omega)] at he
        exact hN b i k (by omega) (by omega) he
  · rw [if_neg c] at hi hk
    rw [if_neg (by omega), if_neg (by omega)] at he
    exact hN b i k hi hk he
theorem sg_N_rem {T : Int} {x : sg_S} (hW : md_wb T x) (hN : sg_N x) {A q : Nat} {v : Int} (hq : (q : Int) < x 21 A) : sg_N (st (st (st x 21 A (x 21 A - 1)) 22 (200 * A + q) (x 22 (200 * A + (x 21 A - 1).toNat))) 23 (200 * A + q) v) := by
  have b21 := wb21 hW
  have e1 : ∀ b, (st (st (st x 21 A (x 21 A - 1)) 22 (200 * A + q) (x 22 (200 * A + (x 21 A - 1).toNat))) 23 (200 * A + q) v) 21 b = if b = A then x 21 A - 1 else x 21 b := fun b => by simp [st]
  have e2 : ∀ j, (st (st (st x 21 A (x 21 A - 1)) 22 (200 * A + q) (x 22 (200 * A + (x 21 A - 1).toNat))) 23 (200 * A + q) v) 22 j = if j = 200 * A + q then x 22 (200 * A + (x 21 A - 1).toNat) else x 22 j := fun j => by simp [st]
  intro b i k hi hk he
  rw [e1] at hi hk
  rw [e2, e2] at he
  have bb := b21 b
  have bA := b21 A
  by_cases c : b = A
  · subst c
    rw [if_pos rfl] at hi hk
    by_cases c1 : i = q
    · by_cases c2 : k = q
      · omega
      · rw [if_pos (by omega), if_neg (by omega)] at he
        have := hN b _ k (by omega) (by omega) he
        omega
    · by_cases c2 : k = q
      · rw [if_neg (by omega), if_pos (by omega)] at he
        have := hN b i _ (by omega) (by omega) he
        omega
      · rw [if_neg (by omega), if_neg (by omega)] at he
        exact hN b i k (by omega) (by omega) he
  · rw [if_neg c] at hi hk
    rw [if_neg (by omega), if_neg (by omega)] at he
    exact hN b i k hi hk he
theorem sg_N_write {T : Int} {x : sg_S} (hW : md_wb T x) (hN : sg_N x) {a p l v : Int} : sg_N (sp_write x a p l v) := by
  have hN0 : ∀ c, sg_N (st x 0 0 c) := fun c => sg_N_st (by decide) (by decide) hN
  have hW0 : md_wb T (st x 0 0 0) := wb_st hW (by show (0 : Int) ≤ _; decide) (by show _ ≤ (3 : Int); decide)
  have e21 : (st x 0 0 0) 21 a.toNat = x 21 a.toNat := st_nf (by decide)
  have e22 : ∀ j, (st x 0 0 0) 22 j = x 22 j := fun j => st_nf (by decide)
  have b21 := wb21 hW a.toNat
  unfold sp_write
  split
  · exact hN0 1
  · split
    · exact hN0 2
    · split
      · exact hN0 3
      · rename_i h1 h2 h3
        have hs := sp_fnd_sp (σ := x) (b := a.toNat) (s := 92 * p + l) (x 21 a.toNat).toNat
        split
        · rename_i h4
          split
          · rename_i h5
            rcases hs with ⟨g1, g2⟩ | ⟨i, g1, g2, g3⟩
            · have z := sg_N_add hW0 (hN0 0) (A := a.toNat) (s := 92 * p + l) (v := v) (by omega) (by rw [e21]; omega) (fun i hi => by rw [e22]; exact g2 i (by rw [e21] at hi; exact hi))
              rw [e21] at z
              exact z
            · omega
          · rename_i h5
            rcases hs with ⟨g1, g2⟩ | ⟨i, g1, g2, g3⟩
            · exact absurd g1 h5
            · refine sg_N_of (σ := x) (fun f j h => ?_) hN
              rw [g3, Int.toNat_natCast, Int.add_zero]
              rcases h with rfl | rfl
              · rw [st_nf (by decide), st_nf (by decide)]
                by_cases c : j = a.toNat
                · rw [c, st_eq]
                · rw [st_ni c, st_nf (by decide)]
              · rw [st_nf (by decide)]
                by_cases c : j = 200 * a.toNat + i
                · rw [c, st_eq]; exact g2.symm
                · rw [st_ni c, st_nf (by decide), st_nf (by decide)]
        · split
          · rename_i h5
            rcases hs with ⟨g1, g2⟩ | ⟨i, g1, g2, g3⟩
            · exact absurd g1 h5
            · rw [g3, Int.toNat_natCast]
              have z := sg_N_rem hW0 (hN0 0) (A := a.toNat) (q := i) (v := x 23 (200 * a.toNat + (x 21 a.toNat - 1).toNat)) (by rw [e21]; omega)
              rw [e21, e22] at z
              exact z
          · exact hN0 0

