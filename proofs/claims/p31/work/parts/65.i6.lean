theorem sg_D_le {σ τ : sg_S} (h : ∀ f j, f ≠ 28 → τ f j = σ f j) (h28 : ∀ w, τ 28 w ≤ σ 28 w) (hD : sg_D σ) : sg_D τ := by
  have e : ∀ f, f ≠ 28 → τ f = σ f := fun f hf => funext fun j => h f j hf
  obtain ⟨⟨a1, a2⟩, b, c, d, q⟩ := hD
  unfold sg_D sg_o sg_a
  rw [e 29 (by decide), e 30 (by decide), e 31 (by decide), e 32 (by decide), e 33 (by decide), e 34 (by decide), e 35 (by decide), e 36 (by decide), e 37 (by decide), e 38 (by decide), e 51 (by decide), e 56 (by decide), e 57 (by decide), e 60 (by decide), e 61 (by decide), e 62 (by decide), e 63 (by decide), e 64 (by decide), e 65 (by decide)]
  refine ⟨⟨a1, a2⟩, fun w j hw hj => ?_, c, fun w j w' j' hw hw' hj hj' => ?_, fun w j w' j' hw hw' hj hj' => ?_⟩
  · exact b w j hw (by have := h28 w; omega)
  · exact d w j w' j' hw hw' (by have := h28 w; omega) (by have := h28 w'; omega)
  · exact q w j w' j' hw hw' (by have := h28 w; omega) hj'
theorem sg_D_drop {σ : sg_S} {w : Nat} {v : Int} (hv : v ≤ σ 28 w) (hD : sg_D σ) : sg_D (st σ 28 w v) := by
  refine sg_D_le (fun f j h => st_nf h) (fun x => ?_) hD
  simp only [st, true_and]
  split
  · rename_i z; rw [z]; exact hv
  · exact Int.le_refl _
theorem sg_D_new {σ τ : sg_S} {w : Nat} {t u : Int} (hD : sg_D σ) (hB : sg_B σ) (hw : w < 2) (h38 : ∀ v, σ 28 v ≤ 39)
    (q28 : ∀ j, τ 28 j = if j = w then σ 28 w + 1 else σ 28 j) (q29 : ∀ j, τ 29 j = if j = 40 * w + (σ 28 w).toNat then t else σ 29 j)
    (q30 : ∀ j, τ 30 j = if j = 40 * w + (σ 28 w).toNat then u else σ 30 j) (q31 : ∀ j, τ 31 j = if j = 40 * w + (σ 28 w).toNat then 0 else σ 31 j)
    (qo : ∀ f j, (32 ≤ f ∧ f ≤ 38) ∨ f = 57 → τ f j = σ f j) (q51 : τ 51 0 = σ 51 0 + 1)
    (q56 : ∀ j, τ 56 j = if j = 40 * w + (σ 28 w).toNat then σ 51 0 else σ 56 j)
    (q60 : ∀ j, τ 60 j = if j = (σ 51 0).toNat then t else σ 60 j) (q61 : ∀ j, τ 61 j = if j = (σ 51 0).toNat then 0 else σ 61 j)
    (q62 : ∀ j, τ 62 j = if j = (σ 51 0).toNat then u else σ 62 j) (q63 : ∀ j, τ 63 j = if j = (σ 51 0).toNat then 0 else σ 63 j)
    (q64 : ∀ j, τ 64 j = if j = (σ 51 0).toNat then (if σ 28 w ≤ 0 then -1 else σ 56 (40 * w + ((σ 28 w).toNat - 1))) else σ 64 j)
    (q65 : ∀ j, τ 65 j = if 60 * (σ 51 0).toNat ≤ j ∧ j < 60 * (σ 51 0).toNat + 60 then 0 else σ 65 j) : sg_D τ := by
  obtain ⟨⟨a1, a2⟩, b, c, d, e⟩ := hD
  obtain ⟨-, B28, B31, -, B37⟩ := hB
  obtain ⟨n, hn⟩ : ∃ n : Nat, σ 51 0 = (n : Int) := ⟨(σ 51 0).toNat, by omega⟩
  obtain ⟨c0, hc0⟩ : ∃ c0 : Nat, σ 28 w = (c0 : Int) := ⟨(σ 28 w).toNat, by have := B28 w; omega⟩
  have x1 : (σ 51 0).toNat = n := by omega
  have x2 : (σ 28 w).toNat = c0 := by omega
  rw [x1] at q60 q61 q62 q63 q64 q65
  rw [x2] at q29 q30 q31 q56 q64
  have pl : ∀ v j : Nat, v < 2 → (j : Int) < σ 28 v → 40 * v + j ≠ 40 * w + c0 := fun v j hv hj z => by
    have g1 := h38 v
    have g2 := h38 w
    by_cases cc : v = w
    · subst cc; omega
    · omega
  have cs : ∀ v j : Nat, (j : Int) < τ 28 v → (v = w ∧ j = c0) ∨ (¬ (v = w ∧ j = c0) ∧ (j : Int) < σ 28 v) := fun v j hj => by
    rw [q28] at hj
    by_cases z : v = w
    · rw [if_pos z] at hj
      subst z
      omega
    · rw [if_neg z] at hj
      exact Or.inr ⟨fun y => z y.1, hj⟩
  refine ⟨⟨by rw [q51]; omega, fun v j => ⟨?_, ?_⟩⟩, fun v j hv hj => ?_, fun v j hv hj => ?_, fun v j v' j' hv hv' hj hj' => ?_, fun v j v' j' hv hv' hj hj' => ?_⟩
  · rw [q56]
    split
    · rw [hn]; omega
    · exact (a2 v j).1
  · rw [qo 57 _ (Or.inr rfl)]; exact (a2 v j).2
  · rcases cs v j hj with ⟨k1, k2⟩ | ⟨k, hk⟩
    · subst k1; subst k2
      have e1 : τ 56 (40 * v + j) = (n : Int) := by rw [q56, if_pos rfl, hn]
      rw [e1, q51, Int.toNat_natCast]
      refine ⟨by omega, ⟨?_, ?_, ?_, fun z hz => ?_⟩, ?_⟩
      · rw [q60, q29, if_pos rfl, if_pos rfl]
      · rw [q62, q30, if_pos rfl, if_pos rfl]
      · rw [q63, q31, if_pos rfl, if_pos rfl]
      · rw [q31, if_pos rfl] at hz; omega
      · rw [q64, if_pos rfl]
        by_cases z : j = 0
        · rw [if_pos (by omega), if_pos z]
        · rw [if_neg (by omega), if_neg z, q56, if_neg (by omega)]
    · obtain ⟨b1, ⟨b2, b3, b4, b5⟩, b6⟩ := b v j hv hk
      have hp := pl v j hv hk
      have e1 : τ 56 (40 * v + j) = σ 56 (40 * v + j) := by rw [q56, if_neg hp]
      have k0 := (a2 v j).1
      have kn : (σ 56 (40 * v + j)).toNat ≠ n := by omega
      rw [e1, q51]
      refine ⟨by omega, ⟨?_, ?_, ?_, fun z hz => ?_⟩, ?_⟩
      · rw [q60, if_neg kn, q29, if_neg hp]; exact b2
      · rw [q62, if_neg kn, q30, if_neg hp]; exact b3
      · rw [q63, if_neg kn, q31, if_neg hp]; exact b4
      · rw [q31, if_neg hp] at hz
        have g := B31 (40 * v + j)
        rw [q65, if_neg (by omega), qo 32 _ (by decide)]; exact b5 z hz
      · rw [q64, if_neg kn, b6]
        by_cases z : j = 0
        · rw [if_pos z, if_pos z]
        · rw [if_neg z, if_neg z, q56, if_neg (pl v (j - 1) hv (by omega))]
  · rw [qo 33 _ (by decide)] at hj
    obtain ⟨b1, b2, b3, b4, b5, b6⟩ := c v j hv hj
    have k0 := (a2 v j).2
    have kn : (σ 57 (40 * v + j)).toNat ≠ n := by omega
    rw [qo 57 _ (Or.inr rfl), q51]
    refine ⟨by omega, ?_, ?_, ?_, ?_, fun z hz => ?_⟩
    · rw [q60, if_neg kn, qo 34 _ (by decide)]; exact b2
    · rw [q61, if_neg kn, qo 35 _ (by decide)]; exact b3
    · rw [q62, if_neg kn, qo 36 _ (by decide)]; exact b4
    · rw [q63, if_neg kn, qo 37 _ (by decide)]; exact b5
    · rw [qo 37 _ (by decide)] at hz
      have g := B37 (40 * v + j)
      rw [q65, if_neg (by omega), qo 38 _ (by decide)]; exact b6 z hz
  · rcases cs v j hj with ⟨k1, k2⟩ | ⟨k, hk⟩
    · rcases cs v' j' hj' with ⟨k3, k4⟩ | ⟨k', hk'⟩
      · exact fun _ => ⟨by omega, by omega⟩
      · intro z
        rw [q56 (40 * v + j), q56 (40 * v' + j'), if_pos (by rw [k1, k2]), if_neg (pl v' j' hv' hk')] at z
        have := (b v' j' hv' hk').1
        omega
    · rcases cs v' j' hj' with ⟨k3, k4⟩ | ⟨k', hk'⟩
      · intro z
        rw [q56 (40 * v + j), q56 (40 * v' + j'), if_neg (pl v j hv hk), if_pos (by rw [k3, k4])] at z
        have := (b v j hv hk).1
        omega
      · intro z
        rw [q56 (40 * v + j), q56 (40 * v' + j'), if_neg (pl v j hv hk), if_neg (pl v' j' hv' hk')] at z
        exact d v j v' j' hv hv' hk hk' z
  · rw [qo 33 _ (by decide)] at hj'
    rw [qo 57 _ (Or.inr rfl)]
    rcases cs v j hj with ⟨k1, k2⟩ | ⟨k, hk⟩
    · rw [q56, if_pos (by rw [k1, k2])]
      have := (c v' j' hv' hj').1
      omega
    · rw [q56, if_neg (pl v j hv hk)]
      exact e v j v' j' hv hv' hk hj'
theorem sg_D_end {σ τ : sg_S} {w k : Nat} {t : Int} (hD : sg_D σ) (hB : sg_B σ) (hw : w < 2) (h0 : 0 < σ 28 w) (hk : k = sx_k σ w) (h33 : σ 33 w < 40)
    (q28 : ∀ j, τ 28 j = if j = w then σ 28 w - 1 else σ 28 j)
    (qo : ∀ f j, (29 ≤ f ∧ f ≤ 32) ∨ f = 51 ∨ f = 56 ∨ f = 60 ∨ (62 ≤ f ∧ f ≤ 65) → τ f j = σ f j)
    (q33 : ∀ j, τ 33 j = if j = w then σ 33 w + 1 else σ 33 j)
    (q34 : ∀ j, τ 34 j = if j = 40 * w + (σ 33 w).toNat then σ 29 (40 * w + (σ 28 w - 1).toNat) else σ 34 j)
    (q35 : ∀ j, τ 35 j = if j = 40 * w + (σ 33 w).toNat then t else σ 35 j)
    (q36 : ∀ j, τ 36 j = if j = 40 * w + (σ 33 w).toNat then σ 30 (40 * w + (σ 28 w - 1).toNat) else σ 36 j)
    (q37 : ∀ j, τ 37 j = if j = 40 * w + (σ 33 w).toNat then σ 31 (40 * w + (σ 28 w - 1).toNat) else σ 37 j)
    (q38 : ∀ j, τ 38 j = if 60 * (40 * w + (σ 33 w).toNat) ≤ j ∧ j < 60 * (40 * w + (σ 33 w).toNat) + (σ 31 (40 * w + (σ 28 w - 1).toNat)).toNat then σ 32 (60 * (40 * w + (σ 28 w - 1).toNat) + (j - 60 * (40 * w + (σ 33 w).toNat))) else σ 38 j)
    (q57 : ∀ j, τ 57 j = if j = 40 * w + (σ 33 w).toNat then (k : Int) else σ 57 j)
    (q61 : ∀ j, τ 61 j = if j = k then t else σ 61 j) : sg_D τ := by
  obtain ⟨⟨a1, a2⟩, b, c, d, e⟩ := hD
  obtain ⟨-, B28, B31, B33, B37⟩ := hB
  obtain ⟨c0, hc0⟩ : ∃ c0 : Nat, σ 28 w - 1 = (c0 : Int) := ⟨(σ 28 w - 1).toNat, by omega⟩
  obtain ⟨a, ha⟩ : ∃ a : Nat, σ 33 w = (a : Int) := ⟨(σ 33 w).toNat, by have := B33 w; omega⟩
  have x1 : (σ 28 w - 1).toNat = c0 := by omega
  have x2 : (σ 33 w).toNat = a := by omega
  rw [x2] at q34 q35 q36 q37 q38 q57
  rw [x1] at q34 q36 q37 q38
  have hk1 : k = (σ 56 (40 * w + c0)).toNat := by
    rw [hk]; unfold sx_k
    rw [show (σ 28 w).toNat - 1 = c0 by omega]
  have kk : (k : Int) = σ 56 (40 * w + c0) := by have := (a2 w c0).1; omega
  obtain ⟨t1, ⟨t2, t3, t4, t5⟩, t6⟩ := b w c0 hw (by omega)
  rw [← hk1] at t2 t3 t4 t5 t6
  have cs : ∀ v j : Nat, (j : Int) < τ 28 v → (j : Int) < σ 28 v ∧ ¬ (v = w ∧ j = c0) := fun v j hj => by
    rw [q28] at hj
    by_cases z : v = w
    · rw [if_pos z] at hj
      subst z
      omega
    · rw [if_neg z] at hj
      exact ⟨hj, fun y => z y.1⟩
  have ca : ∀ v j : Nat, v < 2 → (j : Int) < τ 33 v → (v = w ∧ j = a) ∨ ((j : Int) < σ 33 v ∧ 40 * v + j ≠ 40 * w + a ∧ j < 40) := fun v j hv hj => by
    rw [q33] at hj
    have g := B33 v
    by_cases z : v = w
    · rw [if_pos z] at hj
      subst z
      omega
    · rw [if_neg z] at hj
      omega
  have hop : ∀ v j : Nat, v < 2 → (j : Int) < σ 28 v → ¬ (v = w ∧ j = c0) → σ 56 (40 * v + j) ≠ (k : Int) := fun v j hv hj hn z => by
    rw [kk] at z
    exact hn (d v j w c0 hv hw hj (by omega) z)
  refine ⟨⟨by rw [qo 51 _ (by decide)]; exact a1, fun v j => ⟨?_, ?_⟩⟩, fun v j hv hj => ?_, fun v j hv hj => ?_, fun v j v' j' hv hv' hj hj' => ?_, fun v j v' j' hv hv' hj hj' => ?_⟩
  · rw [qo 56 _ (by decide)]; exact (a2 v j).1
  · rw [q57]
    split
    · omega
    · exact (a2 v j).2
  · have hj2 := cs v j hj
    obtain ⟨b1, ⟨b2, b3, b4, b5⟩, b6⟩ := b v j hv hj2.1
    rw [qo 56 _ (by decide), qo 51 _ (by decide)]
    refine ⟨b1, ⟨?_, ?_, ?_, fun z hz => ?_⟩, ?_⟩
    · rw [qo 60 _ (by decide), qo 29 _ (by decide)]; exact b2
    · rw [qo 62 _ (by decide), qo 30 _ (by decide)]; exact b3
    · rw [qo 63 _ (by decide), qo 31 _ (by decide)]; exact b4
    · rw [qo 31 _ (by decide)] at hz
      rw [qo 65 _ (by decide), qo 32 _ (by decide)]; exact b5 z hz
    · rw [qo 64 _ (by decide), b6]
      by_cases z : j = 0
      · rw [if_pos z, if_pos z]
      · rw [if_neg z, if_neg z, qo 56 _ (by decide)]
  · rcases ca v j hv hj with ⟨k1, k2⟩ | ⟨g1, g2, g3⟩
    · subst k1; subst k2
      have e1 : τ 57 (40 * v + j) = (k : Int) := by rw [q57, if_pos rfl]
      rw [e1, qo 51 _ (by decide), Int.toNat_natCast]
      refine ⟨by omega, ?_, ?_, ?_, ?_, fun z hz => ?_⟩
      · rw [qo 60 _ (by decide), q34, if_pos rfl]; exact t2
      · rw [q61, q35, if_pos rfl, if_pos rfl]
      · rw [qo 62 _ (by decide), q36, if_pos rfl]; exact t3
      · rw [qo 63 _ (by decide), q37, if_pos rfl]; exact t4
      · rw [q37, if_pos rfl] at hz
        rw [qo 65 _ (by decide), q38, if_pos (by omega), show 60 * (40 * v + j) + z - 60 * (40 * v + j) = z by omega]
        exact t5 z hz
    · obtain ⟨b1, b2, b3, b4, b5, b6⟩ := c v j hv g1
      have k0 := (a2 v j).2
      have kn : (σ 57 (40 * v + j)).toNat ≠ k := fun z => e w c0 v j hw hv (by omega) g1 (by omega)
      rw [q57, if_neg g2, qo 51 _ (by decide)]
      refine ⟨b1, ?_, ?_, ?_, ?_, fun z hz => ?_⟩
      · rw [qo 60 _ (by decide), q34, if_neg g2]; exact b2
      · rw [q61, if_neg kn, q35, if_neg g2]; exact b3
      · rw [qo 62 _ (by decide), q36, if_neg g2]; exact b4
      · rw [qo 63 _ (by decide), q37, if_neg g2]; exact b5
      · rw [q37, if_neg g2] at hz
        have g := B37 (40 * v + j)
        have g' := B31 (40 * w + c0)
        rw [qo 65 _ (by decide), q38, if_neg (by omega)]; exact b6 z hz
  · rw [qo 56 _ (by decide), qo 56 _ (by decide)]
    exact d v j v' j' hv hv' (cs v j hj).1 (cs v' j' hj').1
  · rw [qo 56 _ (by decide), q57]
    have hj2 := cs v j hj
    rcases ca v' j' hv' hj' with ⟨k1, k2⟩ | ⟨g1, g2, g3⟩
    · rw [if_pos (by rw [k1, k2])]
      exact hop v j hv hj2.1 hj2.2
    · rw [if_neg g2]
      exact e v j v' j' hv hv' hj2.1 g1
theorem sg_D_end0 {σ τ : sg_S} {w k : Nat} {t : Int} (hD : sg_D σ) (hw : w < 2) (h0 : 0 < σ 28 w) (hk : k = sx_k σ w)
    (q28 : ∀ j, τ 28 j = if j = w then σ 28 w - 1 else σ 28 j) (qo : ∀ f j, f ≠ 28 → f ≠ 61 → τ f j = σ f j) (q61 : ∀ j, τ 61 j = if j = k then t else σ 61 j) : sg_D τ := by
  have hD0 := hD
  obtain ⟨⟨a1, a2⟩, b, c, d, e⟩ := hD
  have kk : (k : Int) = σ 56 (40 * w + ((σ 28 w).toNat - 1)) := by
    have := (a2 w ((σ 28 w).toNat - 1)).1
    rw [hk]; unfold sx_k; omega
  have hle : ∀ v, τ 28 v ≤ σ 28 v := fun v => by
    rw [q28]
    split
    · rename_i z; rw [z]; omega
    · exact Int.le_refl _
  have h1 : sg_D (fun f j => if f = 61 then σ 61 j else τ f j) := by
    refine sg_D_le (σ := σ) (fun f j hf => ?_) (fun v => hle v) hD0
    by_cases z : f = 61
    · subst z; rfl
    · show (if f = 61 then σ 61 j else τ f j) = σ f j
      rw [if_neg z]; exact qo f j hf z
  obtain ⟨g1, g2, g3, g4, g5⟩ := h1
  refine ⟨g1, g2, fun v j hv hj => ?_, g4, g5⟩
  have kn : (σ 57 (40 * v + j)).toNat ≠ k := fun z => by
    have x1 := (a2 v j).2
    rw [qo 33 _ (by decide) (by decide)] at hj
    exact e w ((σ 28 w).toNat - 1) v j hw hv (by omega) hj (by omega)
  obtain ⟨b1, b2, b3, b4, b5, b6⟩ := g3 v j hv hj
  have e57 : τ 57 (40 * v + j) = σ 57 (40 * v + j) := qo 57 _ (by decide) (by decide)
  refine ⟨b1, b2, ?_, b4, b5, b6⟩
  have b3' : σ 61 (τ 57 (40 * v + j)).toNat = τ 35 (40 * v + j) := b3
  rw [e57] at b3' ⊢
  rw [q61, if_neg kn]; exact b3'
theorem sg_D_add {σ τ : sg_S} {w k q o : Nat} {s : Int} (hD : sg_D σ) (hB : sg_B σ) (hw : w < 2) (h0 : 0 < σ 28 w) (h38 : ∀ v, σ 28 v ≤ 39) (hk : k = sx_k σ w) (ho : o = 40 * w + ((σ 28 w).toNat - 1)) (hq : σ 31 o = (q : Int)) (hq60 : q < 60)
    (q31 : ∀ j, τ 31 j = if j = o then (q : Int) + 1 else σ 31 j) (q32 : ∀ j, τ 32 j = if j = 60 * o + q then s else σ 32 j)
    (q63 : ∀ j, τ 63 j = if j = k then (q : Int) + 1 else σ 63 j) (q65 : ∀ j, τ 65 j = if j = 60 * k + q then s else σ 65 j)
    (qo : ∀ f j, f ≠ 31 → f ≠ 32 → f ≠ 63 → f ≠ 65 → τ f j = σ f j) : sg_D τ := by
  obtain ⟨⟨a1, a2⟩, b, c, d, e⟩ := hD
  obtain ⟨-, B28, B31, B33, B37⟩ := hB
  obtain ⟨c0, hc0⟩ : ∃ c0 : Nat, σ 28 w - 1 = (c0 : Int) := ⟨(σ 28 w - 1).toNat, by omega⟩
  have x1 : (σ 28 w).toNat - 1 = c0 := by omega
  rw [x1] at ho
  have hk1 : k = (σ 56 o).toNat := by
    rw [hk, ho]; unfold sx_k
    rw [x1]
  have kk : (k : Int) = σ 56 (40 * w + c0) := by rw [ho] at hk1; have := (a2 w c0).1; omega
  obtain ⟨t1, ⟨t2, t3, t4, t5⟩, t6⟩ := b w c0 hw (by omega)
  rw [← ho] at t1 t2 t3 t4 t5 t6
  rw [← hk1] at t2 t3 t4 t5 t6
  have pl : ∀ v j : Nat, v < 2 → (j : Int) < σ 28 v → ¬ (v = w ∧ j = c0) → 40 * v + j ≠ o := fun v j hv hj hn z => by
    have g1 := h38 v
    have g2 := h38 w
    by_cases cc : v = w
    · subst cc; omega
    · omega
  refine ⟨⟨by rw [qo 51 _ (by decide) (by decide) (by decide) (by decide)]; exact a1, fun v j => ⟨?_, ?_⟩⟩, fun v j hv hj => ?_, fun v j hv hj => ?_, fun v j v' j' hv hv' hj hj' => ?_, fun v j v' j' hv hv' hj hj' => ?_⟩
  · rw [qo 56 _ (by decide) (by decide) (by decide) (by decide)]; exact (a2 v j).1
  · rw [qo 57 _ (by decide) (by decide) (by decide) (by decide)]; exact (a2 v j).2
  · rw [qo 28 _ (by decide) (by decide) (by decide) (by decide)] at hj
    rw [qo 56 _ (by decide) (by decide) (by decide) (by decide), qo 51 _ (by decide) (by decide) (by decide) (by decide)]
    obtain ⟨b1, ⟨b2, b3, b4, b5⟩, b6⟩ := b v j hv hj
    refine ⟨b1, ⟨?_, ?_, ?_, fun z hz => ?_⟩, ?_⟩
    · rw [qo 60 _ (by decide) (by decide) (by decide) (by decide), qo 29 _ (by decide) (by decide) (by decide) (by decide)]; exact b2
    · rw [qo 62 _ (by decide) (by decide) (by decide) (by decide), qo 30 _ (by decide) (by decide) (by decide) (by decide)]; exact b3
    · by_cases z : v = w ∧ j = c0
      · rw [q63, q31, if_pos (by rw [z.1, z.2, ← ho, ← hk1]), if_pos (by rw [z.1, z.2, ← ho])]
      · have g := pl v j hv hj z
        have g2 : (σ 56 (40 * v + j)).toNat ≠ k := fun y => z (d v j w c0 hv hw hj (by omega) (by have := (a2 v j).1; omega))
        rw [q63, q31, if_neg g, if_neg g2]; exact b4
    · rw [q31] at hz
      by_cases y : v = w ∧ j = c0
      · have ey : 40 * v + j = o := by rw [y.1, y.2, ← ho]
        rw [ey] at hz b5 ⊢
        rw [if_pos rfl] at hz
        rw [← hk1] at b5 ⊢
        rw [q65, q32]
        by_cases zq : z = q
        · rw [if_pos (by rw [zq]), if_pos (by rw [zq])]
        · rw [if_neg (by omega), if_neg (by omega)]
          exact b5 z (by omega)
      · have g := pl v j hv hj y
        have g2 : (σ 56 (40 * v + j)).toNat ≠ k := fun x => y (d v j w c0 hv hw hj (by omega) (by have := (a2 v j).1; omega))
        rw [if_neg g] at hz
        have g3 := B31 (40 * v + j)
        rw [q65, q32, if_neg (by omega), if_neg (by omega)]
        exact b5 z hz
    · rw [qo 64 _ (by decide) (by decide) (by decide) (by decide), b6]
      by_cases z : j = 0
      · rw [if_pos z, if_pos z]
      · rw [if_neg z, if_neg z, qo 56 _ (by decide) (by decide) (by decide) (by decide)]
  · rw [qo 33 _ (by decide) (by decide) (by decide) (by decide)] at hj
    rw [qo 57 _ (by decide) (by decide) (by decide) (by decide), qo 51 _ (by decide) (by decide) (by decide) (by decide)]
    obtain ⟨b1, b2, b3, b4, b5, b6⟩ := c v j hv hj
    have k0 := (a2 v j).2
    have kn : (σ 57 (40 * v + j)).toNat ≠ k := fun z => e w c0 v j hw hv (by omega) hj (by omega)
    refine ⟨b1, ?_, ?_, ?_, ?_, fun z hz => ?_⟩
    · rw [qo 60 _ (by decide) (by decide) (by decide) (by decide), qo 34 _ (by decide) (by decide) (by decide) (by decide)]; exact b2
    · rw [qo 61 _ (by decide) (by decide) (by decide) (by decide), qo 35 _ (by decide) (by decide) (by decide) (by decide)]; exact b3
    · rw [qo 62 _ (by decide) (by decide) (by decide) (by decide), qo 36 _ (by decide) (by decide) (by decide) (by decide)]; exact b4
    · rw [q63, if_neg kn, qo 37 _ (by decide) (by decide) (by decide) (by decide)]; exact b5
    · rw [qo 37 _ (by decide) (by decide) (by decide) (by decide)] at hz
      have g := B37 (40 * v + j)
      rw [q65, if_neg (by omega), qo 38 _ (by decide) (by decide) (by decide) (by decide)]; exact b6 z hz
  · rw [qo 28 _ (by decide) (by decide) (by decide) (by decide)] at hj hj'
    rw [qo 56 _ (by decide) (by decide) (by decide) (by decide), qo 56 _ (by decide) (by decide) (by decide) (by decide)]
    exact d v j v' j' hv hv' hj hj'
  · rw [qo 28 _ (by decide) (by decide) (by decide) (by decide)] at hj
    rw [qo 33 _ (by decide) (by decide) (by decide) (by decide)] at hj'
    rw [qo 56 _ (by decide) (by decide) (by decide) (by decide), qo 57 _ (by decide) (by decide) (by decide) (by decide)]
    exact e v j v' j' hv hv' hj hj'

