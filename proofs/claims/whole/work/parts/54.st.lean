/-! the start -/
def h_8 (h : am_AH) : am_AH := (am_up (am_up (am_up (am_up (am_up (am_up (am_up (am_up (am_up (am_up (am_up (am_up (am_up (am_up (am_up (am_up (am_up (am_up (am_up (am_up h (200, 0) (am_A 3 12 (fun _ => am_N))) (8, 0) (am_O 8 [am_R (200, 0), am_R (201, 0), am_I 0, am_I 0, am_I 360, am_I 0, am_R (202, 0), am_R (203, 0), am_I 0, am_R (204, 0), am_R (6, 1), am_R (6, 0), am_R (205, 0), am_I 0])) (201, 0) (am_A 4 12 (fun _ => am_N))) (202, 0) (am_A 5 3 (am_uf (am_uf (am_uf (fun _ => am_N) (0 : Int).toNat (am_R (1, 0))) (1 : Int).toNat (am_R (1, 1))) (2 : Int).toNat (am_R (1, 2))))) (1, 0) (am_O 1 [am_R (216, 0), am_R (217, 0), am_I 0])) (216, 0) (am_A 0 200 (fun _ => am_I 0))) (217, 0) (am_A 0 200 (fun _ => am_I 0))) (1, 1) (am_O 1 [am_R (216, 1), am_R (217, 1), am_I 0])) (216, 1) (am_A 0 200 (fun _ => am_I 0))) (217, 1) (am_A 0 200 (fun _ => am_I 0))) (1, 2) (am_O 1 [am_R (216, 2), am_R (217, 2), am_I 0])) (216, 2) (am_A 0 200 (fun _ => am_I 0))) (217, 2) (am_A 0 200 (fun _ => am_I 0))) (203, 0) (am_A 0 12 (fun _ => am_I 0))) (204, 0) (am_A 0 27 (fun _ => am_I 0))) (6, 1) (am_O 6 [am_R (218, 1), am_I 0, am_N, am_I 0, am_I 0])) (218, 1) (am_A 7 40 (fun _ => am_N))) (6, 0) (am_O 6 [am_R (218, 0), am_I 0, am_N, am_I 0, am_I 0])) (218, 0) (am_A 7 40 (fun _ => am_N))) (205, 0) (am_A 6 6 (fun _ => am_N)))
/-- behind the class: the model made -/
def h_a : am_AH := am_up (fun _ => none) (8, 0) (am_O 8 (am_dfs 8 14))
def h_b : am_AH := am_up (h_8 h_a) (9, 0) (am_O 9 (am_dfs 9 43))
def h_c : am_AH := am_up (am_up (mi_h h_b s_0 43) (98, 0) (am_A 2 1 (fun _ => am_J 0))) (202, 0) (am_A 5 3 (fun b => am_R (1, b)))
theorem tr_0 {n : Nat} {F : Nat → Int} (h : ∀ z, F z = 0) : tr n F = fun _ => 0 := by
  funext z
  unfold tr
  split
  · exact h z
  · rfl
theorem h_8_at {k i : Nat} (h : (k, i) ≠ (200, 0) ∧ (k, i) ≠ (201, 0) ∧ (k, i) ≠ (202, 0) ∧ (k, i) ≠ (203, 0) ∧ (k, i) ≠ (204, 0) ∧ (k, i) ≠ (205, 0) ∧ (k, i) ≠ (8, 0) ∧ (k, i) ≠ (1, 0) ∧ (k, i) ≠ (216, 0) ∧ (k, i) ≠ (217, 0) ∧ (k, i) ≠ (1, 1) ∧ (k, i) ≠ (216, 1) ∧ (k, i) ≠ (217, 1) ∧ (k, i) ≠ (1, 2) ∧ (k, i) ≠ (216, 2) ∧ (k, i) ≠ (217, 2) ∧ (k, i) ≠ (6, 0) ∧ (k, i) ≠ (218, 0) ∧ (k, i) ≠ (6, 1) ∧ (k, i) ≠ (218, 1)) : h_8 h_a (k, i) = none := by
  obtain ⟨n0, n1, n2, n3, n4, n5, n6, n7, n8, n9, n10, n11, n12, n13, n14, n15, n16, n17, n18, n19⟩ := h
  unfold h_8 h_a am_up
  simp only [n0, n1, n2, n3, n4, n5, n6, n7, n8, n9, n10, n11, n12, n13, n14, n15, n16, n17, n18, n19, if_false]
theorem s0_0 {f j : Nat} (h : f ≠ 1 ∧ f ≠ 15) : s_0 f j = 0 := by
  unfold s_0
  rw [if_neg h.2, if_neg (fun z => h.1 z.1)]
theorem h_c_eq : h_c = en_h s_0 s_0 := by
  funext q
  obtain ⟨k, i⟩ := q
  have hc0 : ∀ a b : Nat, (a, b) ≠ ((202, 0) : am_Nm) → (a, b) ≠ ((98, 0) : am_Nm) → (a, b) ≠ ((9, 0) : am_Nm) → ¬ ((100 ≤ a ∧ a < 143 ∧ b = 0) ∧ md_len (a - 100) ≠ 0 ∧ a - 100 < 43) → h_c (a, b) = h_8 h_a (a, b) := fun a b x1 x2 x3 x4 => by
    unfold h_c
    rw [am_up_ne x1, am_up_ne x2]
    unfold mi_h
    rw [if_neg x3, if_neg x4]
    unfold h_b
    rw [am_up_ne x3]
  by_cases e_200_0 : ((k, i) : am_Nm) = (200, 0)
  · rw [e_200_0]
    rw [hc0 _ _ (by decide) (by decide) (by decide) (by decide)]
    rw [en_c200]
    refine Eq.trans (rfl : _ = some (am_A 3 12 (fun _ => am_N))) (congrArg some (congrArg (am_A 3 12) (funext fun z => ?_)))
    rw [s0_0 (by decide), if_neg (by omega)]
  by_cases e_201_0 : ((k, i) : am_Nm) = (201, 0)
  · rw [e_201_0]
    rw [hc0 _ _ (by decide) (by decide) (by decide) (by decide)]
    rw [en_c201]
    refine Eq.trans (rfl : _ = some (am_A 4 12 (fun _ => am_N))) (congrArg some (congrArg (am_A 4 12) (funext fun z => ?_)))
    rw [s0_0 (by decide), if_neg (by omega)]
  by_cases e_202_0 : ((k, i) : am_Nm) = (202, 0)
  · rw [e_202_0]
    unfold h_c
    rw [am_up_eq, en_c202]
  by_cases e_203_0 : ((k, i) : am_Nm) = (203, 0)
  · rw [e_203_0]
    rw [hc0 _ _ (by decide) (by decide) (by decide) (by decide)]
    rw [en_c203]
    refine Eq.trans (rfl : _ = some (am_A 0 12 (fun _ => am_I 0))) (congrArg some (congrArg (am_A 0 12) (funext fun z => congrArg am_I (s0_0 (by decide)).symm)))
  by_cases e_204_0 : ((k, i) : am_Nm) = (204, 0)
  · rw [e_204_0]
    rw [hc0 _ _ (by decide) (by decide) (by decide) (by decide)]
    rw [en_c204]
    refine Eq.trans (rfl : _ = some (am_A 0 27 (fun _ => am_I 0))) (congrArg some (congrArg (am_A 0 27) (funext fun z => congrArg am_I (s0_0 (by decide)).symm)))
  by_cases e_205_0 : ((k, i) : am_Nm) = (205, 0)
  · rw [e_205_0]
    rw [hc0 _ _ (by decide) (by decide) (by decide) (by decide)]
    rw [en_c205]
    refine Eq.trans (rfl : _ = some (am_A 6 6 (fun _ => am_N))) (congrArg some (congrArg (am_A 6 6) (funext fun z => ?_)))
    rw [s0_0 (by decide), if_neg (by omega)]
  by_cases e_8_0 : ((k, i) : am_Nm) = (8, 0)
  · rw [e_8_0]
    rw [hc0 _ _ (by decide) (by decide) (by decide) (by decide)]
    exact Eq.trans (rfl : _ = some (am_O 8 [am_R (200, 0), am_R (201, 0), am_I 0, am_I 0, am_I 360, am_I 0, am_R (202, 0), am_R (203, 0), am_I 0, am_R (204, 0), am_R (6, 1), am_R (6, 0), am_R (205, 0), am_I 0])) rfl
  by_cases e_1_0 : ((k, i) : am_Nm) = (1, 0)
  · rw [e_1_0]
    rw [hc0 _ _ (by decide) (by decide) (by decide) (by decide)]
    exact Eq.trans (rfl : _ = some (am_O 1 [am_R (216, 0), am_R (217, 0), am_I 0])) rfl
  by_cases e_216_0 : ((k, i) : am_Nm) = (216, 0)
  · rw [e_216_0]
    rw [hc0 _ _ (by decide) (by decide) (by decide) (by decide)]
    rw [en_c216 (i := 0) (by decide), tr_0 (fun z => s0_0 (by decide))]
    rfl
  by_cases e_217_0 : ((k, i) : am_Nm) = (217, 0)
  · rw [e_217_0]
    rw [hc0 _ _ (by decide) (by decide) (by decide) (by decide)]
    rw [en_c217 (i := 0) (by decide), tr_0 (fun z => s0_0 (by decide))]
    rfl
  by_cases e_1_1 : ((k, i) : am_Nm) = (1, 1)
  · rw [e_1_1]
    rw [hc0 _ _ (by decide) (by decide) (by decide) (by decide)]
    exact Eq.trans (rfl : _ = some (am_O 1 [am_R (216, 1), am_R (217, 1), am_I 0])) rfl
  by_cases e_216_1 : ((k, i) : am_Nm) = (216, 1)
  · rw [e_216_1]
    rw [hc0 _ _ (by decide) (by decide) (by decide) (by decide)]
    rw [en_c216 (i := 1) (by decide), tr_0 (fun z => s0_0 (by decide))]
    rfl
  by_cases e_217_1 : ((k, i) : am_Nm) = (217, 1)
  · rw [e_217_1]
    rw [hc0 _ _ (by decide) (by decide) (by decide) (by decide)]
    rw [en_c217 (i := 1) (by decide), tr_0 (fun z => s0_0 (by decide))]
    rfl
  by_cases e_1_2 : ((k, i) : am_Nm) = (1, 2)
  · rw [e_1_2]
    rw [hc0 _ _ (by decide) (by decide) (by decide) (by decide)]
    exact Eq.trans (rfl : _ = some (am_O 1 [am_R (216, 2), am_R (217, 2), am_I 0])) rfl
  by_cases e_216_2 : ((k, i) : am_Nm) = (216, 2)
  · rw [e_216_2]
    rw [hc0 _ _ (by decide) (by decide) (by decide) (by decide)]
    rw [en_c216 (i := 2) (by decide), tr_0 (fun z => s0_0 (by decide))]
    rfl
  by_cases e_217_2 : ((k, i) : am_Nm) = (217, 2)
  · rw [e_217_2]
    rw [hc0 _ _ (by decide) (by decide) (by decide) (by decide)]
    rw [en_c217 (i := 2) (by decide), tr_0 (fun z => s0_0 (by decide))]
    rfl
  by_cases e_6_0 : ((k, i) : am_Nm) = (6, 0)
  · rw [e_6_0]
    rw [hc0 _ _ (by decide) (by decide) (by decide) (by decide)]
    rw [en_c6 (i := 0) (by decide), s0_0 (f := 33) (by decide), s0_0 (f := 28) (by decide), s0_0 (f := 27) (by decide), if_pos (by decide)]
    rfl
  by_cases e_218_0 : ((k, i) : am_Nm) = (218, 0)
  · rw [e_218_0]
    rw [hc0 _ _ (by decide) (by decide) (by decide) (by decide)]
    rw [en_c218 (i := 0) (by decide)]
    refine Eq.trans (rfl : _ = some (am_A 7 40 (fun _ => am_N))) (congrArg some (congrArg (am_A 7 40) (funext fun z => ?_)))
    rw [s0_0 (by decide), if_neg (by omega)]
  by_cases e_6_1 : ((k, i) : am_Nm) = (6, 1)
  · rw [e_6_1]
    rw [hc0 _ _ (by decide) (by decide) (by decide) (by decide)]
    rw [en_c6 (i := 1) (by decide), s0_0 (f := 33) (by decide), s0_0 (f := 28) (by decide), s0_0 (f := 27) (by decide), if_pos (by decide)]
    rfl
  by_cases e_218_1 : ((k, i) : am_Nm) = (218, 1)
  · rw [e_218_1]
    rw [hc0 _ _ (by decide) (by decide) (by decide) (by decide)]
    rw [en_c218 (i := 1) (by decide)]
    refine Eq.trans (rfl : _ = some (am_A 7 40 (fun _ => am_N))) (congrArg some (congrArg (am_A 7 40) (funext fun z => ?_)))
    rw [s0_0 (by decide), if_neg (by omega)]
  by_cases e98 : ((k, i) : am_Nm) = (98, 0)
  · rw [e98]
    unfold h_c
    rw [am_up_ne (am_nk (by decide)), am_up_eq]
    rfl
  by_cases e9 : ((k, i) : am_Nm) = (9, 0)
  · rw [e9]
    unfold h_c
    rw [am_up_ne (am_nk (by decide)), am_up_ne (am_nk (by decide)), mi_9, en_9]
    refine congrArg some (congrArg (am_O 9) (List.ext_getElem? fun j => ?_))
    by_cases hj : j < 43
    · rw [mi_fs_at hj, md_fs_at hj]
      by_cases h0 : md_len j = 0
      · rw [if_pos h0, if_pos h0]
      · rw [if_neg h0, if_neg h0, if_pos hj]
    · rw [List.getElem?_eq_none (by rw [mi_fs_len]; omega), List.getElem?_eq_none (by rw [md_fs_len]; omega)]
  by_cases em : (100 ≤ k ∧ k < 143 ∧ i = 0) ∧ md_len (k - 100) ≠ 0 ∧ k - 100 < 43
  · obtain ⟨⟨m1, m2, m3⟩, m4, m5⟩ := em
    obtain ⟨f, hf⟩ : ∃ f, f = k - 100 := ⟨_, rfl⟩
    obtain rfl : k = 100 + f := by omega
    rw [Nat.add_sub_cancel_left] at m4 m5
    subst m3
    unfold h_c
    rw [am_up_ne (fun z => absurd (congrArg Prod.fst z) (by show 100 + f ≠ 202; omega)), am_up_ne e98, mi_at m4 m5, en_m m4]
  rw [hc0 k i e_202_0 e98 e9 em, h_8_at ⟨e_200_0, e_201_0, e_202_0, e_203_0, e_204_0, e_205_0, e_8_0, e_1_0, e_216_0, e_217_0, e_1_1, e_216_1, e_217_1, e_1_2, e_216_2, e_217_2, e_6_0, e_218_0, e_6_1, e_218_1⟩]
  simp only [en_h]
  have n9 : ¬ (k = 9 ∧ i = 0) := fun z => e9 (by rw [z.1, z.2])
  by_cases k9 : k = 9
  · rw [if_pos k9, if_neg (fun z => n9 ⟨k9, z⟩)]
  rw [if_neg k9]
  by_cases k98 : k = 98
  · rw [if_pos k98, if_neg (fun z => e98 (by rw [k98, z]))]
  rw [if_neg k98]
  by_cases km : 100 ≤ k ∧ k < 143
  · rw [if_pos km, if_neg (fun z => em ⟨⟨km.1, km.2, z.1⟩, z.2, by omega⟩)]
  rw [if_neg km]
  have z0 : ∀ f j, f ≠ 1 ∧ f ≠ 15 → s_0 f j = 0 := fun f j h => s0_0 h
  unfold en_x
  split <;> first
    | rfl
    | (have hi : ¬ i = 0 := (fun z => absurd rfl (by subst z; assumption))
       rw [if_neg hi])
    | (have hi : ¬ i < 3 := (fun z => by
         have : i = 0 ∨ i = 1 ∨ i = 2 := by omega
         rcases this with y | y | y <;> (subst y; exact absurd rfl (by assumption)))
       rw [if_neg hi])
    | (have hi : ¬ i < 2 := (fun z => by
         have : i = 0 ∨ i = 1 := by omega
         rcases this with y | y <;> (subst y; exact absurd rfl (by assumption)))
       rw [if_neg hi])
    | (rw [z0 _ _ (by decide), if_neg (by omega)])
