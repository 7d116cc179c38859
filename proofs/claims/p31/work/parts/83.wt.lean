/-! a sign comes on the tape -/
theorem wy_opens {σ : sg_S} {w : Nat} (h28 : σ 28 w = 0) (h27 : σ 27 w = 0) : sp_tapes σ w 92 = st (st (st (st (st (st σ 27 w 0) 28 w 0) 29 (40 * w) (σ 1 0)) 30 (40 * w) 0) 31 (40 * w) 0) 28 w 1 := by
  have e1 : sp_opens0 (st σ 27 w 0) w (σ 27 w) = st (st σ 27 w 0) 28 w 0 := by
    unfold sp_opens0
    rw [if_pos ⟨h27, fun z => by have := z.1; rw [st_nf (by decide), h28] at this; omega⟩]
  unfold sp_tapes
  rw [if_pos rfl, if_neg (by decide)]
  unfold sp_opens
  rw [e1]
  unfold sp_opens1
  rw [st_eq, st_nf (f := 28) (g := 1) (by decide), st_nf (f := 27) (g := 1) (by decide), h27]
  rfl
/-- what a sign on the tape of w leaves as it was -/
def wy_F (σ ρ : sg_S) (w : Nat) : Prop := (∀ f j, f < 27 ∨ 38 < f → ρ f j = σ f j) ∧ wy_S2 σ ρ (1 - w)
set_option maxHeartbeats 4000000 in
theorem wy_tape {σ : sg_S} {u n τ : Nat} {S : Nat → Int} {off mny : Nat → Nat} {β : Int} {s : Int} (hu : u = 0 ∨ u = 1) (hn : n ≤ 30) (hG : wy_G S off mny n) (hT : wy_T σ u S off mny n τ β) (hτ : τ < off n) (hβ : β < σ 1 0) (hs : s = S τ) : wy_T (sp_tapes σ u s) u S off mny n (τ + 1) (σ 1 0) ∧ wy_F σ (sp_tapes σ u s) u := by
  obtain ⟨c, c1, c2, c3, c4, c5⟩ := hT
  have hcn : c < n := by
    rcases c4 with ⟨q1, -⟩ | ⟨q1, -⟩
    · rcases Nat.lt_or_ge c n with z | z
      · exact z
      · rw [show c = n by omega] at q1; omega
    · exact q1
  obtain ⟨g1, g2, g3, g4, g5⟩ := hG.2 c hcn
  have x27 : ∀ v, v ≠ u → v ≠ u := fun _ h => h
  rcases c4 with ⟨q1, q2⟩ | ⟨-, q1, q2, q3, q4, q5, q6, q7⟩
  · -- a BEGIN
    have e92 : s = 92 := by rw [hs, q1, g3]
    rw [e92, wy_opens q2 c3]
    obtain ⟨ρ, hρ⟩ : ∃ ρ, ρ = st (st (st (st (st (st σ 27 u 0) 28 u 0) 29 (40 * u) (σ 1 0)) 30 (40 * u) 0) 31 (40 * u) 0) 28 u 1 := ⟨_, rfl⟩
    have f0 : ∀ f j, f ≠ 27 → f ≠ 28 → f ≠ 29 → f ≠ 30 → f ≠ 31 → ρ f j = σ f j := fun f j a b c d e => by rw [hρ, st_nf b, st_nf e, st_nf d, st_nf c, st_nf b, st_nf a]
    have f27 : ∀ j, ρ 27 j = if j = u then 0 else σ 27 j := fun j => by rw [hρ]; simp [st]
    have f28 : ∀ j, ρ 28 j = if j = u then 1 else σ 28 j := fun j => by rw [hρ]; by_cases h : j = u <;> simp [st, h]
    have f29 : ∀ j, ρ 29 j = if j = 40 * u then σ 1 0 else σ 29 j := fun j => by rw [hρ]; simp [st]
    have f30 : ∀ j, ρ 30 j = if j = 40 * u then 0 else σ 30 j := fun j => by rw [hρ]; simp [st]
    have f31 : ∀ j, ρ 31 j = if j = 40 * u then 0 else σ 31 j := fun j => by rw [hρ]; simp [st]
    rw [← hρ]
    refine ⟨⟨c, c1, ?_, ?_, Or.inr ⟨hcn, by omega, by omega, ?_, ?_, ?_, ?_, fun j hj => by omega⟩, fun k hk => ?_⟩, fun f j h => f0 f j (by omega) (by omega) (by omega) (by omega) (by omega), ⟨⟨?_, ?_, ?_, ?_, ?_, ?_⟩, fun z hz => ?_, fun k hk => ⟨?_, ?_, ?_, ?_, fun z hz => ?_⟩⟩⟩
    · rw [f0 33 u (by decide) (by decide) (by decide) (by decide) (by decide)]; exact c2
    · rw [f27, if_pos rfl]
    · rw [f28, if_pos rfl]
    · rw [f30, if_pos rfl]
    · rw [f31, if_pos rfl, q1]
      simp
    · rw [f29, if_pos rfl]; exact Int.le_refl _
    · obtain ⟨d1, d2, d3, d4⟩ := c5 k hk
      rw [f0 34 _ (by decide) (by decide) (by decide) (by decide) (by decide), f0 35 _ (by decide) (by decide) (by decide) (by decide) (by decide), f0 36 _ (by decide) (by decide) (by decide) (by decide) (by decide), f0 37 _ (by decide) (by decide) (by decide) (by decide) (by decide)]
      exact ⟨d1, d2, d3, fun j hj => by rw [f0 38 _ (by decide) (by decide) (by decide) (by decide) (by decide)]; exact d4 j hj⟩
    · rw [f27, if_neg (by omega)]
    · rw [f28, if_neg (by omega)]
    · exact f0 33 _ (by decide) (by decide) (by decide) (by decide) (by decide)
    · rw [f29, if_neg (by omega)]
    · rw [f30, if_neg (by omega)]
    · rw [f31, if_neg (by omega)]
    · exact f0 32 _ (by decide) (by decide) (by decide) (by decide) (by decide)
    · exact f0 34 _ (by decide) (by decide) (by decide) (by decide) (by decide)
    · exact f0 35 _ (by decide) (by decide) (by decide) (by decide) (by decide)
    · exact f0 36 _ (by decide) (by decide) (by decide) (by decide) (by decide)
    · exact f0 37 _ (by decide) (by decide) (by decide) (by decide) (by decide)
    · exact f0 38 _ (by decide) (by decide) (by decide) (by decide) (by decide)
  · have e0 : 40 * u + (σ 28 u).toNat - 1 = 40 * u := by rw [q3]; show 40 * u + 1 - 1 = _; omega
    have e1 : 40 * u + (σ 28 u - 1).toNat = 40 * u := by rw [q3]; rfl
    by_cases cE : τ - off c - 1 = 2 * mny c
    · -- an END
      have e93 : s = 93 := by rw [hs, ← g4]; congr 1; omega
      have eT : sp_tapes σ u s = sp_ends (st σ 27 u 0) u := by
        unfold sp_tapes
        rw [e93, if_neg (by decide), if_neg (by decide), if_pos ⟨by omega, rfl⟩, if_neg (by decide)]
      have z28 : (st σ 27 u 0) 28 u = 1 := by rw [st_nf (by decide)]; exact q3
      have z33 : (st σ 27 u 0) 33 u = (c : Int) := by rw [st_nf (by decide)]; exact c2
      have z1 : (st σ 27 u 0) 1 0 = σ 1 0 := st_nf (by decide)
      have z29 : ∀ j, (st σ 27 u 0) 29 j = σ 29 j := fun j => st_nf (by decide)
      have z30 : ∀ j, (st σ 27 u 0) 30 j = σ 30 j := fun j => st_nf (by decide)
      have z31 : ∀ j, (st σ 27 u 0) 31 j = σ 31 j := fun j => st_nf (by decide)
      have eE : sp_ends (st σ 27 u 0) u = st (sp_cs (st (st (st (st (st (st σ 27 u 0) 28 u 0) 34 (40 * u + c) (σ 29 (40 * u))) 35 (40 * u + c) (σ 1 0)) 36 (40 * u + c) 0) 37 (40 * u + c) ((2 * mny c : Nat) : Int)) (40 * u + c) (40 * u) (2 * mny c)) 33 u ((c : Int) + 1) := by
        unfold sp_ends
        rw [z28, z33, if_pos (by omega)]
        have t1 : (1 - 1 : Int) = 0 := by decide
        rw [t1, z29, z30, z31, z1]
        have t2 : 40 * u + (0 : Int).toNat = 40 * u := by simp
        rw [t2, Int.toNat_natCast, q4, q5, cE, Int.toNat_natCast]
      rw [eT, eE]
      obtain ⟨Z, hZ⟩ : ∃ Z, Z = st (st (st (st (st (st σ 27 u 0) 28 u 0) 34 (40 * u + c) (σ 29 (40 * u))) 35 (40 * u + c) (σ 1 0)) 36 (40 * u + c) 0) 37 (40 * u + c) ((2 * mny c : Nat) : Int) := ⟨_, rfl⟩
      rw [← hZ]
      obtain ⟨ρ, hρ⟩ : ∃ ρ, ρ = st (sp_cs Z (40 * u + c) (40 * u) (2 * mny c)) 33 u ((c : Int) + 1) := ⟨_, rfl⟩
      have fZ : ∀ f j, f ≠ 33 → f ≠ 38 → ρ f j = Z f j := fun f j a b => by rw [hρ, st_nf a, sp_cs_f b]
      have f0 : ∀ f j, f ≠ 27 → f ≠ 28 → f ≠ 33 → f ≠ 34 → f ≠ 35 → f ≠ 36 → f ≠ 37 → f ≠ 38 → ρ f j = σ f j := fun f j a b c d e x y z => by rw [fZ f j c z, hZ, st_nf y, st_nf x, st_nf e, st_nf d, st_nf b, st_nf a]
      have f27 : ∀ j, ρ 27 j = if j = u then 0 else σ 27 j := fun j => by rw [fZ 27 j (by decide) (by decide), hZ]; simp [st]
      have f28 : ∀ j, ρ 28 j = if j = u then 0 else σ 28 j := fun j => by rw [fZ 28 j (by decide) (by decide), hZ]; simp [st]
      have f33 : ∀ j, ρ 33 j = if j = u then (c : Int) + 1 else σ 33 j := fun j => by rw [hρ]; simp [st, sp_cs, hZ]
      have f34 : ∀ j, ρ 34 j = if j = 40 * u + c then σ 29 (40 * u) else σ 34 j := fun j => by rw [fZ 34 j (by decide) (by decide), hZ]; simp [st]
      have f35 : ∀ j, ρ 35 j = if j = 40 * u + c then σ 1 0 else σ 35 j := fun j => by rw [fZ 35 j (by decide) (by decide), hZ]; simp [st]
      have f36 : ∀ j, ρ 36 j = if j = 40 * u + c then 0 else σ 36 j := fun j => by rw [fZ 36 j (by decide) (by decide), hZ]; simp [st]
      have f37 : ∀ j, ρ 37 j = if j = 40 * u + c then ((2 * mny c : Nat) : Int) else σ 37 j := fun j => by rw [fZ 37 j (by decide) (by decide), hZ]; simp [st]
      have zs : ∀ f j, f = 32 ∨ f = 38 → Z f j = σ f j := fun f j h => by rw [hZ, st_nf (by omega), st_nf (by omega), st_nf (by omega), st_nf (by omega), st_nf (by omega), st_nf (by omega)]
      have f38 : ∀ j, ρ 38 j = if 60 * (40 * u + c) ≤ j ∧ j < 60 * (40 * u + c) + 2 * mny c then σ 32 (60 * (40 * u) + (j - 60 * (40 * u + c))) else σ 38 j := fun j => by
        rw [hρ, st_nf (by decide)]
        unfold sp_cs
        rw [zs 32 _ (Or.inl rfl), zs 38 _ (Or.inr rfl)]
        by_cases h : 60 * (40 * u + c) ≤ j ∧ j < 60 * (40 * u + c) + 2 * mny c
        · rw [if_pos h, if_pos ⟨rfl, h⟩]
        · rw [if_neg h, if_neg (fun z => h z.2)]
      rw [← hρ]
      refine ⟨⟨c + 1, hcn, ?_, ?_, Or.inl ⟨by omega, ?_⟩, fun k hk => ?_⟩, fun f j h => f0 f j (by omega) (by omega) (by omega) (by omega) (by omega) (by omega) (by omega) (by omega), ⟨⟨?_, ?_, ?_, ?_, ?_, ?_⟩, fun z hz => ?_, fun k hk => ⟨?_, ?_, ?_, ?_, fun z hz => ?_⟩⟩⟩
      · rw [f33, if_pos rfl]; omega
      · rw [f27, if_pos rfl]
      · rw [f28, if_pos rfl]
      · by_cases ck : k = c
        · subst ck
          rw [f34, if_pos rfl, f35, if_pos rfl, f36, if_pos rfl, f37, if_pos rfl]
          refine ⟨by omega, rfl, rfl, fun j hj => ?_⟩
          rw [f38, if_pos ⟨by omega, by omega⟩, show 60 * (40 * u + k) + j - 60 * (40 * u + k) = j by omega]
          exact q7 j (by omega)
        · obtain ⟨d1, d2, d3, d4⟩ := c5 k (by omega)
          have g := hG.2 k (by omega)
          rw [f34, if_neg (by omega), f35, if_neg (by omega), f36, if_neg (by omega), f37, if_neg (by omega)]
          refine ⟨d1, d2, d3, fun j hj => ?_⟩
          rw [f38, if_neg (by omega)]
          exact d4 j hj
      · rw [f27, if_neg (by omega)]
      · rw [f28, if_neg (by omega)]
      · rw [f33, if_neg (by omega)]
      · exact f0 29 _ (by decide) (by decide) (by decide) (by decide) (by decide) (by decide) (by decide) (by decide)
      · exact f0 30 _ (by decide) (by decide) (by decide) (by decide) (by decide) (by decide) (by decide) (by decide)
      · exact f0 31 _ (by decide) (by decide) (by decide) (by decide) (by decide) (by decide) (by decide) (by decide)
      · exact f0 32 _ (by decide) (by decide) (by decide) (by decide) (by decide) (by decide) (by decide) (by decide)
      · rw [f34, if_neg (by omega)]
      · rw [f35, if_neg (by omega)]
      · rw [f36, if_neg (by omega)]
      · rw [f37, if_neg (by omega)]
      · rw [f38, if_neg (by omega)]
    · -- a sign of a spot
      have hr : τ - off c - 1 < 2 * mny c := by omega
      have g6 := g5 (τ - off c - 1) hr
      have es : S (off c + 1 + (τ - off c - 1)) = s := by rw [hs]; congr 1; omega
      rw [es] at g6
      have z31 : σ 31 (40 * u) < 60 := by omega
      have eT : sp_tapes σ u s = st (st (st σ 27 u 0) 32 (60 * (40 * u) + (τ - off c - 1)) s) 31 (40 * u) (σ 31 (40 * u) + 1) := by
        unfold sp_tapes
        rw [if_neg (by omega), if_neg (by omega), if_neg (by omega), e0, if_pos ⟨by omega, g6.2, z31⟩, if_neg (by omega)]
        rw [show (σ 31 (40 * u)).toNat = τ - off c - 1 by omega]
      rw [eT]
      obtain ⟨ρ, hρ⟩ : ∃ ρ, ρ = st (st (st σ 27 u 0) 32 (60 * (40 * u) + (τ - off c - 1)) s) 31 (40 * u) (σ 31 (40 * u) + 1) := ⟨_, rfl⟩
      have f0 : ∀ f j, f ≠ 27 → f ≠ 31 → f ≠ 32 → ρ f j = σ f j := fun f j a b c => by rw [hρ, st_nf b, st_nf c, st_nf a]
      have f27 : ∀ j, ρ 27 j = if j = u then 0 else σ 27 j := fun j => by rw [hρ]; simp [st]
      have f31 : ∀ j, ρ 31 j = if j = 40 * u then σ 31 (40 * u) + 1 else σ 31 j := fun j => by rw [hρ]; simp [st]
      have f32 : ∀ j, ρ 32 j = if j = 60 * (40 * u) + (τ - off c - 1) then s else σ 32 j := fun j => by rw [hρ]; simp [st]
      rw [← hρ]
      refine ⟨⟨c, c1, ?_, ?_, Or.inr ⟨hcn, by omega, by omega, ?_, ?_, ?_, ?_, fun j hj => ?_⟩, fun k hk => ?_⟩, fun f j h => f0 f j (by omega) (by omega) (by omega), ⟨⟨?_, ?_, ?_, ?_, ?_, ?_⟩, fun z hz => ?_, fun k hk => ⟨?_, ?_, ?_, ?_, fun z hz => ?_⟩⟩⟩
      · rw [f0 33 u (by decide) (by decide) (by decide)]; exact c2
      · rw [f27, if_pos rfl]
      · rw [f0 28 u (by decide) (by decide) (by decide)]; exact q3
      · rw [f0 30 _ (by decide) (by decide) (by decide)]; exact q4
      · rw [f31, if_pos rfl, q5]; omega
      · rw [f0 29 _ (by decide) (by decide) (by decide)]; omega
      · rw [f32]
        by_cases cj : j = τ - off c - 1
        · rw [if_pos (by omega), cj]; exact es.symm
        · rw [if_neg (by omega)]; exact q7 j (by omega)
      · obtain ⟨d1, d2, d3, d4⟩ := c5 k hk
        rw [f0 34 _ (by decide) (by decide) (by decide), f0 35 _ (by decide) (by decide) (by decide), f0 36 _ (by decide) (by decide) (by decide), f0 37 _ (by decide) (by decide) (by decide)]
        exact ⟨d1, d2, d3, fun j hj => by rw [f0 38 _ (by decide) (by decide) (by decide)]; exact d4 j hj⟩
      · rw [f27, if_neg (by omega)]
      · exact f0 28 _ (by decide) (by decide) (by decide)
      · exact f0 33 _ (by decide) (by decide) (by decide)
      · exact f0 29 _ (by decide) (by decide) (by decide)
      · exact f0 30 _ (by decide) (by decide) (by decide)
      · rw [f31, if_neg (by omega)]
      · rw [f32, if_neg (by omega)]
      · exact f0 34 _ (by decide) (by decide) (by decide)
      · exact f0 35 _ (by decide) (by decide) (by decide)
      · exact f0 36 _ (by decide) (by decide) (by decide)
      · exact f0 37 _ (by decide) (by decide) (by decide)
      · exact f0 38 _ (by decide) (by decide) (by decide)
