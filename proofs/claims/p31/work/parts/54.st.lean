/-! the start -/
def h_8 (h : am_AH) : am_AH := (am_up (am_up (am_up (am_up (am_up (am_up (am_up (am_up (am_up (am_up (am_up (am_up (am_up (am_up (am_up (am_up (am_up (am_up (am_up (am_up h (200, 0) (am_A 3 12 (fun _ => am_N))) (8, 0) (am_O 8 [am_R (200, 0), am_R (201, 0), am_I 0, am_I 0, am_I 360, am_I 0, am_R (202, 0), am_R (203, 0), am_I 0, am_R (204, 0), am_R (6, 1), am_R (6, 0), am_R (205, 0), am_I 0])) (201, 0) (am_A 4 12 (fun _ => am_N))) (202, 0) (am_A 5 3 (am_uf (am_uf (am_uf (fun _ => am_N) (0 : Int).toNat (am_R (1, 0))) (1 : Int).toNat (am_R (1, 1))) (2 : Int).toNat (am_R (1, 2))))) (1, 0) (am_O 1 [am_R (216, 0), am_R (217, 0), am_I 0])) (216, 0) (am_A 0 200 (fun _ => am_I 0))) (217, 0) (am_A 0 200 (fun _ => am_I 0))) (1, 1) (am_O 1 [am_R (216, 1), am_R (217, 1), am_I 0])) (216, 1) (am_A 0 200 (fun _ => am_I 0))) (217, 1) (am_A 0 200 (fun _ => am_I 0))) (1, 2) (am_O 1 [am_R (216, 2), am_R (217, 2), am_I 0])) (216, 2) (am_A 0 200 (fun _ => am_I 0))) (217, 2) (am_A 0 200 (fun _ => am_I 0))) (203, 0) (am_A 0 12 (fun _ => am_I 0))) (204, 0) (am_A 0 27 (fun _ => am_I 0))) (6, 1) (am_O 6 [am_R (218, 1), am_I 0, am_N, am_I 0, am_I 0])) (218, 1) (am_A 7 40 (fun _ => am_N))) (6, 0) (am_O 6 [am_R (218, 0), am_I 0, am_N, am_I 0, am_I 0])) (218, 0) (am_A 7 40 (fun _ => am_N))) (205, 0) (am_A 6 6 (fun _ => am_N)))
/-- behind the class: the model made -/
def h_a : am_AH := am_up (fun _ => none) (8, 0) (am_O 8 (am_dfs 8 14))
theorem tr_0 {n : Nat} {F : Nat → Int} (h : ∀ z, F z = 0) : tr n F = fun _ => 0 := by
  funext z
  unfold tr
  split
  · exact h z
  · rfl
theorem h_8_at {k i : Nat} (h : (k, i) ≠ (200, 0) ∧ (k, i) ≠ (201, 0) ∧ (k, i) ≠ (202, 0) ∧ (k, i) ≠ (203, 0) ∧ (k, i) ≠ (204, 0) ∧ (k, i) ≠ (205, 0) ∧ (k, i) ≠ (8, 0) ∧ (k, i) ≠ (1, 0) ∧ (k, i) ≠ (216, 0) ∧ (k, i) ≠ (217, 0) ∧ (k, i) ≠ (1, 1) ∧ (k, i) ≠ (216, 1) ∧ (k, i) ≠ (217, 1) ∧ (k, i) ≠ (1, 2) ∧ (k, i) ≠ (216, 2) ∧ (k, i) ≠ (217, 2) ∧ (k, i) ≠ (6, 0) ∧ (k, i) ≠ (218, 0) ∧ (k, i) ≠ (6, 1) ∧ (k, i) ≠ (218, 1)) : h_8 h_a (k, i) = none := by
  obtain ⟨n0, n1, n2, n3, n4, n5, n6, n7, n8, n9, n10, n11, n12, n13, n14, n15, n16, n17, n18, n19⟩ := h
  unfold h_8 h_a am_up
  simp only [n0, n1, n2, n3, n4, n5, n6, n7, n8, n9, n10, n11, n12, n13, n14, n15, n16, n17, n18, n19, if_false]
theorem s0_0 {f j : Nat} (h : f ≠ 1 ∧ f ≠ 15) : s_0 f j = 0 := by
  unfold s_0
  rw [if_neg h.2, if_neg (fun z => h.1 z.1)]
