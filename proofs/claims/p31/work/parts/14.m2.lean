def sp_fnd (σ : sg_S) (b : Nat) (s : Int) : Nat → Int
  | 0 => -1
  | n + 1 => if σ 22 (200 * b + n) = s then ((200 * b + n : Nat) : Int) else sp_fnd σ b s n
theorem sp_fnd_in {σ : sg_S} {b : Nat} {s : Int} : ∀ n, sp_fnd σ b s n = -1 ∨ (200 * (b : Int) ≤ sp_fnd σ b s n ∧ sp_fnd σ b s n < 200 * b + n)
  | 0 => Or.inl rfl
  | n + 1 => by
    have := sp_fnd_in (σ := σ) (b := b) (s := s) n
    simp only [sp_fnd]
    split <;> omega
def sp_low (σ : sg_S) (b : Nat) (p : Int) : Nat → Int
  | 0 => -1
  | n + 1 => if σ 23 (200 * b + n) = p ∧ (sp_low σ b p n = -1 ∨ σ 22 (200 * b + n) < sp_low σ b p n) then σ 22 (200 * b + n) else sp_low σ b p n
theorem sp_low_in {T : Int} {σ : sg_S} (hW : md_wb T σ) {b : Nat} {p : Int} : ∀ n, -1 ≤ sp_low σ b p n ∧ sp_low σ b p n ≤ 8463
  | 0 => by simp [sp_low]
  | n + 1 => by
    have := sp_low_in hW (b := b) (p := p) n
    have b1 := wb22 hW (200 * b + n)
    simp only [sp_low]
    split <;> omega
def sp_nxt (σ : sg_S) (w : Nat) : Nat → Nat → Nat
  | 0, e => e
  | n + 1, e => if σ 20 (300 * w + e) = 0 then e else sp_nxt σ w n (e + 1)
theorem sp_nxt_in {σ : sg_S} {w : Nat} : ∀ n e, e ≤ sp_nxt σ w n e ∧ sp_nxt σ w n e ≤ e + n
  | 0, e => ⟨Nat.le_refl _, Nat.le_refl _⟩
  | n + 1, e => by
    have := sp_nxt_in (σ := σ) (w := w) n (e + 1)
    simp only [sp_nxt]
    split <;> omega
/-- the arm w's kept signs, one put in at the place p -/
def sp_kp (σ : sg_S) (w p : Nat) (s : Int) : sg_S := fun f j => if f = 12 ∧ j = w then σ 12 w + 1 else if f = 14 ∧ 220 * w + p ≤ j ∧ j ≤ 220 * w + (σ 12 w).toNat then (if j = 220 * w + p then s else σ 14 (j - 1)) else σ f j
/-- moved up by one above i -/
def sp_ku (σ : sg_S) (w i : Nat) : sg_S := fun f j => if f = 14 ∧ 220 * w + i < j ∧ j ≤ 220 * w + (σ 12 w).toNat then σ 14 (j - 1) else σ f j
theorem sp_ku_12 {σ : sg_S} {w i f j : Nat} (h : f ≠ 14) : sp_ku σ w i f j = σ f j := by simp [sp_ku, h]
theorem sp_ku_lo {σ : sg_S} {w i j : Nat} (h : j ≤ 220 * w + i) : sp_ku σ w i 14 j = σ 14 j := by
  simp only [sp_ku]
  rw [if_neg (by omega)]
theorem sp_ku_st {σ : sg_S} {w i : Nat} (h : (i : Int) < σ 12 w) : st (sp_ku σ w (i + 1)) 14 (220 * w + (i + 1)) (σ 14 (220 * w + i)) = sp_ku σ w i := by
  funext f j
  simp only [st, sp_ku]
  by_cases h1 : f = 14
  · subst h1
    by_cases h2 : j = 220 * w + (i + 1)
    · subst h2
      rw [if_pos ⟨rfl, rfl⟩, if_pos ⟨rfl, by omega, by omega⟩]
      congr 1
    · rw [if_neg (fun z => h2 z.2)]
      by_cases h3 : 220 * w + (i + 1) < j ∧ j ≤ 220 * w + (σ 12 w).toNat
      · rw [if_pos ⟨rfl, h3⟩, if_pos ⟨rfl, by omega, by omega⟩]
      · rw [if_neg (fun z => h3 z.2), if_neg (fun z => h3 ⟨by omega, z.2.2⟩)]
  · rw [if_neg (fun z => h1 z.1), if_neg (fun z => h1 z.1), if_neg (fun z => h1 z.1)]
theorem sp_ku_0 {σ : sg_S} {w : Nat} : sp_ku σ w (σ 12 w).toNat = σ := by
  funext f j
  simp only [sp_ku]
  rw [if_neg (by omega)]
theorem sp_ku_kp {σ : sg_S} {w p : Nat} {s : Int} (h : (p : Int) ≤ σ 12 w) : st (st (sp_ku σ w p) 14 (220 * w + p) s) 12 w (σ 12 w + 1) = sp_kp σ w p s := by
  funext f j
  simp only [st, sp_ku, sp_kp]
  by_cases h1 : f = 12 ∧ j = w
  · rw [if_pos h1, if_pos h1]
  · rw [if_neg h1, if_neg h1]
    by_cases h2 : f = 14
    · subst h2
      by_cases h3 : j = 220 * w + p
      · subst h3
        rw [if_pos ⟨rfl, rfl⟩, if_pos ⟨rfl, by omega, by omega⟩, if_pos rfl]
      · rw [if_neg (fun z => h3 z.2)]
        by_cases h4 : 220 * w + p < j ∧ j ≤ 220 * w + (σ 12 w).toNat
        · rw [if_pos ⟨rfl, h4⟩, if_pos ⟨rfl, by omega, by omega⟩, if_neg h3]
        · rw [if_neg (fun z => h4 z.2), if_neg (fun z => h4 ⟨by omega, z.2.2⟩)]
    · rw [if_neg (fun z => h2 z.1), if_neg (fun z => h2 z.1), if_neg (fun z => h2 z.1)]
