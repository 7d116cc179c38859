/-! the law: its rows, its invariant -/
abbrev mLh (HH : List (Nat × Nat × Nat × Nat)) : am_Y := (cL_law, 22, RL, some .boolean, false, HH)
theorem en_9 {m x : sg_S} {i : Nat} (h : (i : Int) < m 0 0) : en_h m x (9, i) = some (am_A 0 40 (fun z => am_I (m (1 + i) z))) := by
  show (if (i : Int) < m 0 0 then some _ else none) = _
  rw [if_pos h]
theorem en_9n {m x : sg_S} {i : Nat} (h : ¬ (i : Int) < m 0 0) : en_h m x (9, i) = none := by
  show (if (i : Int) < m 0 0 then some _ else none) = _
  rw [if_neg h]
/-- a row of the law written -/
theorem cl_put {m x : sg_S} {i z : Nat} {v : Int} (h : (i : Int) < m 0 0) : am_up (en_h m x) (9, i) (am_A 0 40 (am_uf (fun z => am_I (m (1 + i) z)) z (am_I v))) = en_h (st m (1 + i) z v) x := by
  have e0 : (st m (1 + i) z v) 0 0 = m 0 0 := st_nf (by omega)
  funext q
  obtain ⟨k, j⟩ := q
  simp only [am_up]
  by_cases e : ((k, j) : am_Nm) = (9, i)
  · rw [if_pos e, e, en_9 (by rw [e0]; exact h), am_uf_I]
    congr 2
    funext y
    by_cases c : y = z
    · rw [if_pos c, c, st_eq]
    · rw [if_neg c, st_ni c]
  · rw [if_neg e]
    simp only [en_h]
    by_cases k9 : k = 9
    · have hj : j ≠ i := fun y => e (by rw [k9, y])
      rw [if_pos k9, if_pos k9, e0]
      split
      · congr 2
        funext y
        rw [st_nf (by omega)]
      · rfl
    · rw [if_neg k9, if_neg k9]
/-- a row of the law made -/
theorem cl_new {m x : sg_S} {i : Nat} (h : m 0 0 = (i : Int)) (hz : ∀ z, m (1 + i) z = 0) : am_up (en_h m x) (9, i) (am_A 0 40 (fun _ => am_I 0)) = en_h (st m 0 0 ((i : Int) + 1)) x := by
  have e0 : (st m 0 0 ((i : Int) + 1)) 0 0 = (i : Int) + 1 := st_eq
  funext q
  obtain ⟨k, j⟩ := q
  simp only [am_up]
  by_cases e : ((k, j) : am_Nm) = (9, i)
  · rw [if_pos e, e, en_9 (by rw [e0]; omega)]
    congr 2
    funext y
    rw [st_nf (by omega), hz]
  · rw [if_neg e]
    simp only [en_h]
    by_cases k9 : k = 9
    · have hj : j ≠ i := fun y => e (by rw [k9, y])
      rw [if_pos k9, if_pos k9, e0, h]
      by_cases c : j < i
      · rw [if_pos (by omega), if_pos (by omega)]
        congr 2
        funext y
        rw [st_nf (by omega)]
      · rw [if_neg (by omega), if_neg (by omega)]
    · rw [if_neg k9, if_neg k9]
/-- what the law wrote down of the dispatches -/
def lw_R (m : sg_S) (mny fst bok : Nat → Nat → Nat) (n : Nat → Nat) : Prop := (∀ d, d < 20 → d < n 1 → m 1 d = (mny 1 d : Int) ∧ m 2 d = (fst 1 d : Int) ∧ m 3 d = (bok 1 d : Int)) ∧ ∀ d, d < 20 → d < n 0 → m 1 (20 + d) = (mny 0 d : Int) ∧ m 2 (20 + d) = (fst 0 d : Int) ∧ m 3 (20 + d) = (bok 0 d : Int)
def lw_J (x m : sg_S) (N : Nat) (S : Nat → Nat → Int) (off mny fst bok : Nat → Nat → Nat) (n : Nat → Nat) : Prop := wy_GG S off mny n ∧ wy_B x N S off mny n (x 1 0) (x 1 0) ∧ dk x S off mny fst bok n ∧ lw_R m mny fst bok n
/-- the law's invariant, behind k calls that change something -/
def lw_I (k : Nat) (x m : sg_S) (N : Nat) (n : Nat → Nat) : Prop := sg_R k x ∧ (2 ≤ N ∧ N ≤ 5 ∧ x 3 0 = (N : Int)) ∧ (x 39 0 = 0 ∧ ∀ j, x 6 j = 0) ∧ bw x 6 6 ∧ m 0 0 = 3 ∧ n 0 + n 1 ≤ 30 ∧ ∃ (S : Nat → Nat → Int) (off mny fst bok : Nat → Nat → Nat), lw_J x m N S off mny fst bok n
