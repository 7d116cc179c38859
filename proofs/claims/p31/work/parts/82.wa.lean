/-! a way: the stream S of all signs sent on it; its tower t took T t of them -/
/-- the next tower of a way u (1 up, 0 down), its first, its last -/
def wy_n (u t : Nat) : Nat := if u = 1 then t + 1 else t - 1
def wy_s (u N : Nat) : Nat := if u = 1 then 0 else N - 1
def wy_e (u N : Nat) : Nat := if u = 1 then N - 1 else 0
/-- does an arm show a sign that is not taken yet? -/
def wy_h (σ : sg_S) (a : Nat) : Nat := if σ 16 a = 0 ∧ σ 15 a ≠ -1 then 1 else 0
def wy_A1 (σ : sg_S) (u N : Nat) (T : Nat → Nat) : Prop := ∀ t, t < N → t ≠ wy_e u N → σ 12 (2 * t + u) + ((T (wy_n u t) : Nat) : Int) + ((wy_h σ (2 * t + u) : Nat) : Int) = ((T t : Nat) : Int)
def wy_A2 (σ : sg_S) (u N : Nat) (S : Nat → Int) (T : Nat → Nat) : Prop := ∀ t j i : Nat, t < N → t ≠ wy_e u N → (j : Int) < σ 12 (2 * t + u) → (i : Int) = ((T t : Nat) : Int) - σ 12 (2 * t + u) + j → σ 14 (220 * (2 * t + u) + j) = S i
def wy_A3 (σ : sg_S) (u N : Nat) (S : Nat → Int) (T : Nat → Nat) : Prop := ∀ t, t < N → t ≠ wy_e u N → wy_h σ (2 * t + u) = 1 → σ 15 (2 * t + u) = S (T (wy_n u t))
def wy_A4 (σ : sg_S) (u N : Nat) (S : Nat → Int) (T : Nat → Nat) : Prop := ∀ t, t < N → t ≠ wy_s u N → σ 17 (2 * t + u) = ((min (T t) 300 : Nat) : Int) ∧ ∀ j, j < 300 → j < T t → σ 19 (300 * (2 * t + u) + j) = S j ∧ σ 20 (300 * (2 * t + u) + j) = 0
def wy_A (σ : sg_S) (u N : Nat) (S : Nat → Int) (T : Nat → Nat) : Prop := wy_A1 σ u N T ∧ wy_A2 σ u N S T ∧ wy_A3 σ u N S T ∧ wy_A4 σ u N S T
/-- how the stream is made: dispatch d begins at off d, with mny d phrases -/
def wy_G (S : Nat → Int) (off mny : Nat → Nat) (n : Nat) : Prop := off 0 = 0 ∧ ∀ d, d < n → off (d + 1) = off d + 2 * mny d + 2 ∧ (1 ≤ mny d ∧ mny d ≤ 4) ∧ S (off d) = 92 ∧ S (off d + 2 * mny d + 1) = 93 ∧ ∀ j, j < 2 * mny d → 0 ≤ S (off d + 1 + j) ∧ S (off d + 1 + j) < 92
def wy_To (σ : sg_S) (u : Nat) (S : Nat → Int) (off : Nat → Nat) (τ : Nat) (β : Int) (c : Nat) : Prop := off c < τ ∧ τ < off (c + 1) ∧ σ 28 u = 1 ∧ σ 30 (40 * u) = 0 ∧ σ 31 (40 * u) = ((τ - off c - 1 : Nat) : Int) ∧ σ 29 (40 * u) ≤ β ∧ ∀ j, j < τ - off c - 1 → σ 32 (60 * (40 * u) + j) = S (off c + 1 + j)
def wy_Tc (σ : sg_S) (u : Nat) (S : Nat → Int) (off mny : Nat → Nat) (c : Nat) : Prop := ∀ k, k < c → σ 34 (40 * u + k) < σ 35 (40 * u + k) ∧ σ 36 (40 * u + k) = 0 ∧ σ 37 (40 * u + k) = ((2 * mny k : Nat) : Int) ∧ ∀ j, j < 2 * mny k → σ 38 (60 * (40 * u + k) + j) = S (off k + 1 + j)
/-- what lies on the tape, the first τ signs having come; the last BEGIN came at β at the latest -/
def wy_T (σ : sg_S) (u : Nat) (S : Nat → Int) (off mny : Nat → Nat) (n τ : Nat) (β : Int) : Prop := ∃ c : Nat, c ≤ n ∧ σ 33 u = (c : Int) ∧ σ 27 u = 0 ∧ ((τ = off c ∧ σ 28 u = 0) ∨ (c < n ∧ wy_To σ u S off τ β c)) ∧ wy_Tc σ u S off mny c
/-- nothing changed that stands on the way v -/
def wy_S1 (σ ρ : sg_S) (v : Nat) : Prop := ∀ w, w % 2 = v → ρ 12 w = σ 12 w ∧ ρ 15 w = σ 15 w ∧ ρ 16 w = σ 16 w ∧ ρ 17 w = σ 17 w ∧ (∀ z, z < 200 → ρ 14 (220 * w + z) = σ 14 (220 * w + z)) ∧ (∀ z, z < 300 → ρ 19 (300 * w + z) = σ 19 (300 * w + z) ∧ ρ 20 (300 * w + z) = σ 20 (300 * w + z))
def wy_S2 (σ ρ : sg_S) (v : Nat) : Prop := (ρ 27 v = σ 27 v ∧ ρ 28 v = σ 28 v ∧ ρ 33 v = σ 33 v ∧ ρ 29 (40 * v) = σ 29 (40 * v) ∧ ρ 30 (40 * v) = σ 30 (40 * v) ∧ ρ 31 (40 * v) = σ 31 (40 * v)) ∧ (∀ z, z < 60 → ρ 32 (60 * (40 * v) + z) = σ 32 (60 * (40 * v) + z)) ∧ (∀ k, k < 40 → ρ 34 (40 * v + k) = σ 34 (40 * v + k) ∧ ρ 35 (40 * v + k) = σ 35 (40 * v + k) ∧ ρ 36 (40 * v + k) = σ 36 (40 * v + k) ∧ ρ 37 (40 * v + k) = σ 37 (40 * v + k) ∧ ∀ z, z < 60 → ρ 38 (60 * (40 * v + k) + z) = σ 38 (60 * (40 * v + k) + z))
theorem wy_S1_of {σ ρ : sg_S} (v : Nat) (h : ∀ f j, 12 ≤ f → f ≤ 20 → ρ f j = σ f j) : wy_S1 σ ρ v := fun w _ => ⟨h 12 w (by decide) (by decide), h 15 w (by decide) (by decide), h 16 w (by decide) (by decide), h 17 w (by decide) (by decide), fun z _ => h 14 _ (by decide) (by decide), fun z _ => ⟨h 19 _ (by decide) (by decide), h 20 _ (by decide) (by decide)⟩⟩
theorem wy_S2_of {σ ρ : sg_S} (v : Nat) (h : ∀ f j, 27 ≤ f → f ≤ 38 → ρ f j = σ f j) : wy_S2 σ ρ v := ⟨⟨h 27 _ (by decide) (by decide), h 28 _ (by decide) (by decide), h 33 _ (by decide) (by decide), h 29 _ (by decide) (by decide), h 30 _ (by decide) (by decide), h 31 _ (by decide) (by decide)⟩, fun z _ => h 32 _ (by decide) (by decide), fun k _ => ⟨h 34 _ (by decide) (by decide), h 35 _ (by decide) (by decide), h 36 _ (by decide) (by decide), h 37 _ (by decide) (by decide), fun z _ => h 38 _ (by decide) (by decide)⟩⟩
theorem wy_h_eq {σ ρ : sg_S} {a : Nat} (h1 : ρ 15 a = σ 15 a) (h2 : ρ 16 a = σ 16 a) : wy_h ρ a = wy_h σ a := by unfold wy_h; rw [h1, h2]
theorem wy_h_01 {σ : sg_S} {a : Nat} : wy_h σ a = 0 ∨ wy_h σ a = 1 := by unfold wy_h; split <;> simp
theorem wy_A_S {σ ρ : sg_S} {u N : Nat} {S : Nat → Int} {T : Nat → Nat} (hu : u = 0 ∨ u = 1) (h : wy_S1 σ ρ u) (b12 : ∀ w, σ 12 w ≤ 200) (hA : wy_A σ u N S T) : wy_A ρ u N S T := by
  obtain ⟨a1, a2, a3, a4⟩ := hA
  have hp : ∀ t, (2 * t + u) % 2 = u := fun t => by omega
  refine ⟨fun t ht he => ?_, fun t j i ht he hj hi => ?_, fun t ht he hh => ?_, fun t ht he => ?_⟩
  · obtain ⟨e12, e15, e16, -⟩ := h _ (hp t)
    rw [e12, wy_h_eq e15 e16]; exact a1 t ht he
  · obtain ⟨e12, -, -, -, e14, -⟩ := h _ (hp t)
    have := b12 (2 * t + u)
    rw [e12] at hj hi
    rw [e14 j (by omega)]; exact a2 t j i ht he hj hi
  · obtain ⟨e12, e15, e16, -⟩ := h _ (hp t)
    rw [wy_h_eq e15 e16] at hh
    rw [e15]; exact a3 t ht he hh
  · obtain ⟨-, -, -, e17, -, e19⟩ := h _ (hp t)
    obtain ⟨q1, q2⟩ := a4 t ht he
    refine ⟨e17.trans q1, fun j hj hT => ?_⟩
    rw [(e19 j hj).1, (e19 j hj).2]; exact q2 j hj hT
theorem wy_T_S {σ ρ : sg_S} {u n τ : Nat} {S : Nat → Int} {off mny : Nat → Nat} {β : Int} (hn : n ≤ 30) (hG : wy_G S off mny n) (h : wy_S2 σ ρ u) (hT : wy_T σ u S off mny n τ β) : wy_T ρ u S off mny n τ β := by
  obtain ⟨⟨e27, e28, e33, e29, e30, e31⟩, e32, eC⟩ := h
  obtain ⟨c, c1, c2, c3, c4, c5⟩ := hT
  refine ⟨c, c1, e33.trans c2, e27.trans c3, ?_, fun k hk => ?_⟩
  · rcases c4 with ⟨q1, q2⟩ | ⟨q0, q1, q2, q3, q4, q5, q6, q7⟩
    · exact Or.inl ⟨q1, e28.trans q2⟩
    · refine Or.inr ⟨q0, q1, q2, e28.trans q3, e30.trans q4, e31.trans q5, by rw [e29]; exact q6, fun j hj => ?_⟩
      have g := hG.2 c q0
      rw [e32 j (by omega)]; exact q7 j hj
  · obtain ⟨d34, d35, d36, d37, d38⟩ := eC k (by omega)
    obtain ⟨q1, q2, q3, q4⟩ := c5 k hk
    refine ⟨by rw [d34, d35]; exact q1, d36.trans q2, d37.trans q3, fun j hj => ?_⟩
    have g := hG.2 k (by omega)
    rw [d38 j (by omega)]; exact q4 j hj
theorem wy_T_up {σ : sg_S} {u n τ : Nat} {S : Nat → Int} {off mny : Nat → Nat} {β β' : Int} (hb : β ≤ β') (hT : wy_T σ u S off mny n τ β) : wy_T σ u S off mny n τ β' := by
  obtain ⟨c, c1, c2, c3, c4, c5⟩ := hT
  refine ⟨c, c1, c2, c3, ?_, c5⟩
  rcases c4 with q | ⟨q0, q1, q2, q3, q4, q5, q6, q7⟩
  · exact Or.inl q
  · exact Or.inr ⟨q0, q1, q2, q3, q4, q5, Int.le_trans q6 hb, q7⟩
/-- offsets grow -/
theorem wy_off {S : Nat → Int} {off mny : Nat → Nat} {n : Nat} (hG : wy_G S off mny n) : ∀ d c, c ≤ d → d ≤ n → off c ≤ off d
  | 0, c, h, _ => by rw [show c = 0 by omega]; exact Nat.le_refl _
  | d + 1, c, h, hn => by
    by_cases e : c = d + 1
    · rw [e]; exact Nat.le_refl _
    · have := wy_off hG d c (by omega) (by omega)
      have g := (hG.2 d (by omega)).1
      omega
/-- one more taken by ta -/
def wy_up (T : Nat → Nat) (ta : Nat) : Nat → Nat := fun t => if t = ta then T ta + 1 else T t
theorem wy_up_eq {T : Nat → Nat} {ta : Nat} : wy_up T ta ta = T ta + 1 := if_pos rfl
theorem wy_up_ne {T : Nat → Nat} {ta t : Nat} (h : t ≠ ta) : wy_up T ta t = T t := if_neg h
/-- a sign is taken by the tower ta from the tower tb -/
theorem wy_take {σ ρ : sg_S} {u N : Nat} {S : Nat → Int} {T : Nat → Nat} {ta tb : Nat} {s : Int} (hu : u = 0 ∨ u = 1) (hA : wy_A σ u N S T) (htb : tb < N) (he : tb ≠ wy_e u N) (hn : wy_n u tb = ta) (hsh : wy_h σ (2 * tb + u) = 1) (hs : s = σ 15 (2 * tb + u))
    (h12 : ∀ w, w ≠ 2 * ta + u → ρ 12 w = σ 12 w) (h14 : ∀ w z, w ≠ 2 * ta + u → z < 200 → ρ 14 (220 * w + z) = σ 14 (220 * w + z)) (h15 : ∀ w, ρ 15 w = σ 15 w) (h16 : ∀ w, w ≠ 2 * tb + u → ρ 16 w = σ 16 w) (h16b : ρ 16 (2 * tb + u) = 1)
    (hk : ta ≠ wy_e u N → ρ 12 (2 * ta + u) = σ 12 (2 * ta + u) + 1 ∧ (∀ j : Nat, (j : Int) < σ 12 (2 * ta + u) → ρ 14 (220 * (2 * ta + u) + j) = σ 14 (220 * (2 * ta + u) + j)) ∧ ρ 14 (220 * (2 * ta + u) + (σ 12 (2 * ta + u)).toNat) = s)
    (h17 : ∀ w, w ≠ 2 * ta + u → ρ 17 w = σ 17 w) (hl : ∀ f w z, f = 19 ∨ f = 20 → w ≠ 2 * ta + u → z < 300 → ρ f (300 * w + z) = σ f (300 * w + z))
    (hw1 : σ 17 (2 * ta + u) < 300 → ρ 17 (2 * ta + u) = σ 17 (2 * ta + u) + 1 ∧ ρ 19 (300 * (2 * ta + u) + (σ 17 (2 * ta + u)).toNat) = s ∧ ρ 20 (300 * (2 * ta + u) + (σ 17 (2 * ta + u)).toNat) = 0 ∧ ∀ j : Nat, (j : Int) < σ 17 (2 * ta + u) → ρ 19 (300 * (2 * ta + u) + j) = σ 19 (300 * (2 * ta + u) + j) ∧ ρ 20 (300 * (2 * ta + u) + j) = σ 20 (300 * (2 * ta + u) + j))
    (hw2 : ¬ σ 17 (2 * ta + u) < 300 → ρ 17 (2 * ta + u) = σ 17 (2 * ta + u) ∧ ∀ j : Nat, j < 300 → ρ 19 (300 * (2 * ta + u) + j) = σ 19 (300 * (2 * ta + u) + j) ∧ ρ 20 (300 * (2 * ta + u) + j) = σ 20 (300 * (2 * ta + u) + j))
    (b12 : ∀ w, 0 ≤ σ 12 w ∧ σ 12 w ≤ 200) : wy_A ρ u N S (wy_up T ta) := by
  obtain ⟨a1, a2, a3, a4⟩ := hA
  have hS : s = S (T ta) := by rw [hs, a3 tb htb he hsh, hn]
  have hta : ta < N ∧ ta ≠ wy_s u N ∧ ta ≠ tb := by
    unfold wy_n at hn; unfold wy_e at he; unfold wy_s
    rcases hu with rfl | rfl
    · simp at hn he ⊢; omega
    · simp at hn he ⊢; omega
  have inj : ∀ t, t < N → t ≠ wy_e u N → (wy_n u t = ta ↔ t = tb) := by
    intro t h1 h2
    unfold wy_n at hn ⊢; unfold wy_e at he h2
    rcases hu with rfl | rfl
    · simp at hn he h2 ⊢; omega
    · simp at hn he h2 ⊢; omega
  have hsh' : wy_h ρ (2 * tb + u) = 0 := by unfold wy_h; rw [h16b]; simp
  have hh : ∀ t, t ≠ tb → wy_h ρ (2 * t + u) = wy_h σ (2 * t + u) := fun t h => wy_h_eq (h15 _) (h16 _ (by omega))
  refine ⟨fun t ht hte => ?_, fun t j i ht hte hj hi => ?_, fun t ht hte hhh => ?_, fun t ht hte => ?_⟩
  · have g := a1 t ht hte
    by_cases c1 : t = tb
    · subst c1
      rw [hn] at g
      rw [wy_up_ne (Ne.symm hta.2.2), hn, wy_up_eq, hsh', h12 _ (by omega)]
      omega
    · rw [wy_up_ne (fun z => c1 ((inj t ht hte).mp z)), hh t c1]
      by_cases c2 : t = ta
      · subst c2
        rw [wy_up_eq, (hk hte).1]
        omega
      · rw [wy_up_ne c2, h12 _ (by omega)]; exact g
  · by_cases c2 : t = ta
    · subst c2
      obtain ⟨k1, k2, k3⟩ := hk hte
      have hi' : (i : Int) = ((T t + 1 : Nat) : Int) - ρ 12 (2 * t + u) + j := by rw [wy_up_eq] at hi; exact hi
      rw [k1] at hj hi'
      by_cases c3 : (j : Int) < σ 12 (2 * t + u)
      · rw [k2 j c3]; exact a2 t j i ht hte c3 (by omega)
      · have e : j = (σ 12 (2 * t + u)).toNat := by omega
        rw [e, k3, hS]
        congr 1
        omega
    · rw [wy_up_ne c2] at hi
      rw [h12 _ (by omega)] at hj hi
      have := b12 (2 * t + u)
      rw [h14 _ j (by omega) (by omega)]
      exact a2 t j i ht hte hj hi
  · have c1 : t ≠ tb := fun z => by rw [z, hsh'] at hhh; cases hhh
    rw [hh t c1] at hhh
    rw [h15, wy_up_ne (fun z => c1 ((inj t ht hte).mp z))]
    exact a3 t ht hte hhh
  · obtain ⟨q1, q2⟩ := a4 t ht hte
    by_cases c2 : t = ta
    · subst c2
      rw [wy_up_eq]
      by_cases c3 : σ 17 (2 * t + u) < 300
      · obtain ⟨w1, w2, w3, w4⟩ := hw1 c3
        refine ⟨by omega, fun j hj hT => ?_⟩
        by_cases c4 : (j : Int) < σ 17 (2 * t + u)
        · rw [(w4 j c4).1, (w4 j c4).2]
          exact q2 j hj (by omega)
        · have e : j = (σ 17 (2 * t + u)).toNat := by omega
          have e2 : T t = (σ 17 (2 * t + u)).toNat := by omega
          rw [e, w2, w3, hS, ← e2]
          exact ⟨rfl, rfl⟩
      · obtain ⟨w1, w2⟩ := hw2 c3
        refine ⟨by omega, fun j hj hT => ?_⟩
        rw [(w2 j hj).1, (w2 j hj).2]
        exact q2 j hj (by omega)
    · rw [wy_up_ne c2]
      refine ⟨(h17 _ (by omega)).trans q1, fun j hj hT => ?_⟩
      rw [hl 19 _ j (Or.inl rfl) (by omega) hj, hl 20 _ j (Or.inr rfl) (by omega) hj]
      exact q2 j hj hT
/-- a tower turns: nothing is left to show -/
theorem wy_none {σ ρ : sg_S} {u N : Nat} {S : Nat → Int} {T : Nat → Nat} {t0 : Nat} (hA : wy_A σ u N S T) (h0 : wy_h σ (2 * t0 + u) = 0) (hf : ∀ f w, f ≠ 15 → f ≠ 16 → ρ f w = σ f w) (h15 : ∀ w, w ≠ 2 * t0 + u → ρ 15 w = σ 15 w) (h16 : ∀ w, w ≠ 2 * t0 + u → ρ 16 w = σ 16 w) (hb : ρ 15 (2 * t0 + u) = -1) : wy_A ρ u N S T := by
  obtain ⟨a1, a2, a3, a4⟩ := hA
  have hh : ∀ t, wy_h ρ (2 * t + u) = wy_h σ (2 * t + u) := fun t => by
    by_cases c : t = t0
    · rw [c, h0]; unfold wy_h; rw [hb]; simp
    · exact wy_h_eq (h15 _ (by omega)) (h16 _ (by omega))
  refine ⟨fun t ht hte => ?_, fun t j i ht hte hj hi => ?_, fun t ht hte hhh => ?_, fun t ht hte => ?_⟩
  · rw [hh, hf 12 _ (by decide) (by decide)]; exact a1 t ht hte
  · rw [hf 12 _ (by decide) (by decide)] at hj hi
    rw [hf 14 _ (by decide) (by decide)]; exact a2 t j i ht hte hj hi
  · rw [hh] at hhh
    have c : t ≠ t0 := fun z => by rw [z, h0] at hhh; cases hhh
    rw [h15 _ (by omega)]; exact a3 t ht hte hhh
  · rw [hf 17 _ (by decide) (by decide)]
    obtain ⟨q1, q2⟩ := a4 t ht hte
    refine ⟨q1, fun j hj hT => ?_⟩
    rw [hf 19 _ (by decide) (by decide), hf 20 _ (by decide) (by decide)]; exact q2 j hj hT
/-- a tower turns to the first sign that it keeps -/
theorem wy_next {σ ρ : sg_S} {u N : Nat} {S : Nat → Int} {T : Nat → Nat} {t0 : Nat} (hA : wy_A σ u N S T) (ht0 : t0 < N) (he0 : t0 ≠ wy_e u N) (h0 : wy_h σ (2 * t0 + u) = 0) (hc : 0 < σ 12 (2 * t0 + u)) (hp : 0 ≤ σ 14 (220 * (2 * t0 + u))) (hf : ∀ f w, 17 ≤ f → f ≤ 20 → ρ f w = σ f w)
    (h12 : ∀ w, w ≠ 2 * t0 + u → ρ 12 w = σ 12 w) (h15 : ∀ w, w ≠ 2 * t0 + u → ρ 15 w = σ 15 w) (h16 : ∀ w, w ≠ 2 * t0 + u → ρ 16 w = σ 16 w) (h14 : ∀ w z, w ≠ 2 * t0 + u → z < 200 → ρ 14 (220 * w + z) = σ 14 (220 * w + z))
    (k12 : ρ 12 (2 * t0 + u) = σ 12 (2 * t0 + u) - 1) (k15 : ρ 15 (2 * t0 + u) = σ 14 (220 * (2 * t0 + u))) (k16 : ρ 16 (2 * t0 + u) = 0) (k14 : ∀ j : Nat, (j : Int) < σ 12 (2 * t0 + u) - 1 → ρ 14 (220 * (2 * t0 + u) + j) = σ 14 (220 * (2 * t0 + u) + j + 1)) (b12 : ∀ w, 0 ≤ σ 12 w ∧ σ 12 w ≤ 200) : wy_A ρ u N S T := by
  obtain ⟨a1, a2, a3, a4⟩ := hA
  have hh1 : wy_h ρ (2 * t0 + u) = 1 := by unfold wy_h; rw [k15, k16, if_pos ⟨rfl, by omega⟩]
  have hh : ∀ t, t ≠ t0 → wy_h ρ (2 * t + u) = wy_h σ (2 * t + u) := fun t c => wy_h_eq (h15 _ (by omega)) (h16 _ (by omega))
  refine ⟨fun t ht hte => ?_, fun t j i ht hte hj hi => ?_, fun t ht hte hhh => ?_, fun t ht hte => ?_⟩
  · have g := a1 t ht hte
    by_cases c : t = t0
    · subst c
      rw [k12, hh1]; omega
    · rw [hh t c, h12 _ (by omega)]; exact g
  · by_cases c : t = t0
    · subst c
      rw [k12] at hj hi
      rw [k14 j hj, Nat.add_assoc]
      exact a2 t (j + 1) i ht hte (by omega) (by omega)
    · rw [h12 _ (by omega)] at hj hi
      have := b12 (2 * t + u)
      rw [h14 _ j (by omega) (by omega)]
      exact a2 t j i ht hte hj hi
  · by_cases c : t = t0
    · subst c
      have g := a1 t ht hte
      rw [k15]
      exact a2 t 0 _ ht hte (by omega) (by omega)
    · rw [hh t c] at hhh
      rw [h15 _ (by omega)]; exact a3 t ht hte hhh
  · rw [hf 17 _ (by decide) (by decide)]
    obtain ⟨q1, q2⟩ := a4 t ht hte
    refine ⟨q1, fun j hj hT => ?_⟩
    rw [hf 19 _ (by decide) (by decide), hf 20 _ (by decide) (by decide)]; exact q2 j hj hT
