/-- fars of built towers are 1 or more -/
def sg_F (σ : sg_S) : Prop := ∀ t : Nat, (t : Int) < σ 3 0 → 1 ≤ σ 5 t
theorem sg_F_of {σ τ : sg_S} (h : ∀ f j, f = 3 ∨ f = 5 → τ f j = σ f j) (hF : sg_F σ) : sg_F τ := by
  intro t
  rw [h 3 0 (Or.inl rfl), h 5 t (Or.inr rfl)]
  exact hF t
theorem sg_F_tower {T : Int} {x : sg_S} (hW : md_wb T x) (hF : sg_F x) {a b : Int} : sg_F (sp_tower x a b) := by
  have b3 := wb3 hW 0
  unfold sp_tower
  split
  · exact sg_F_of (fun f j h => st_nf (by omega)) hF
  · split
    · exact sg_F_of (fun f j h => st_nf (by omega)) hF
    · rename_i h1 h2
      have e3 : (st (st (st (st x 0 0 0) 4 ((x 3 0).toNat) a) 5 ((x 3 0).toNat) b) 3 0 (x 3 0 + 1)) 3 0 = x 3 0 + 1 := st_eq
      have e5 : ∀ t, (st (st (st (st x 0 0 0) 4 ((x 3 0).toNat) a) 5 ((x 3 0).toNat) b) 3 0 (x 3 0 + 1)) 5 t = if t = (x 3 0).toNat then b else x 5 t := fun t => by simp [st]
      intro t ht
      rw [e3] at ht
      rw [e5]
      by_cases c : t = (x 3 0).toNat
      · rw [if_pos c]; omega
      · rw [if_neg c]; exact hF t (by omega)
theorem sg_U_tower {T : Int} {x : sg_S} (hW : md_wb T x) (hU : sg_U x) {a b : Int} : sg_U (sp_tower x a b) := by
  have b3 := wb3 hW 0
  unfold sp_tower
  split
  · exact sg_U_of (fun f j h => st_nf (by omega)) hU
  · split
    · exact sg_U_of (fun f j h => st_nf (by omega)) hU
    · obtain ⟨X, hX⟩ : ∃ X, X = (st (st (st (st x 0 0 0) 4 ((x 3 0).toNat) a) 5 ((x 3 0).toNat) b) 3 0 (x 3 0 + 1)) := ⟨_, rfl⟩
      rw [← hX]
      have e3 : X 3 0 = x 3 0 + 1 := by rw [hX]; exact st_eq
      have e : ∀ f j, f ≠ 0 → f ≠ 3 → f ≠ 4 → f ≠ 5 → X f j = x f j := fun f j k0 k3 k4 k5 => by rw [hX, st_nf k3, st_nf k5, st_nf k4, st_nf k0]
      obtain ⟨u1, u2, u3, u4⟩ := hU
      refine ⟨fun n h => ?_, fun w h => ?_, fun s h => ?_, fun n h => ?_⟩
      · rw [e 6 n (by decide) (by decide) (by decide) (by decide)]; exact u1 n (by omega)
      · obtain ⟨v1, v2, v3, v4, v5, v6, v7⟩ := u2 w (by omega)
        refine ⟨?_, ?_, ?_, ?_, ?_, fun z hz => ?_, fun z hz => ?_⟩
        · rw [e 12 w (by decide) (by decide) (by decide) (by decide)]; exact v1
        · rw [e 13 w (by decide) (by decide) (by decide) (by decide)]; exact v2
        · rw [e 15 w (by decide) (by decide) (by decide) (by decide)]; exact v3
        · rw [e 16 w (by decide) (by decide) (by decide) (by decide)]; exact v4
        · rw [e 17 w (by decide) (by decide) (by decide) (by decide)]; exact v5
        · rw [e 14 _ (by decide) (by decide) (by decide) (by decide)]; exact v6 z hz
        · rw [e 18 _ (by decide) (by decide) (by decide) (by decide), e 19 _ (by decide) (by decide) (by decide) (by decide), e 20 _ (by decide) (by decide) (by decide) (by decide)]; exact v7 z hz
      · obtain ⟨v1, v2, v3⟩ := u3 s (by omega)
        refine ⟨?_, ?_, fun z hz => ?_⟩
        · rw [e 7 s (by decide) (by decide) (by decide) (by decide)]; exact v1
        · rw [e 8 s (by decide) (by decide) (by decide) (by decide)]; exact v2
        · rw [e 9 _ (by decide) (by decide) (by decide) (by decide), e 10 _ (by decide) (by decide) (by decide) (by decide)]; exact v3 z hz
      · rw [e 39 0 (by decide) (by decide) (by decide) (by decide)] at h
        obtain ⟨v1, v2⟩ := u4 n h
        refine ⟨?_, fun z hz => ?_⟩
        · rw [e 41 n (by decide) (by decide) (by decide) (by decide)]; exact v1
        · rw [e 42 _ (by decide) (by decide) (by decide) (by decide)]; exact v2 z hz

