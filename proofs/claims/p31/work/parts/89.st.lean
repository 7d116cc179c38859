/-! the start: behind the constructor -/
/-- the law's rows: none made yet -/
def m_0 : sg_S := fun _ _ => 0
def h_c : am_AH := am_up (h_8 h_a) (202, 0) (am_A 5 3 (fun b => am_R (1, b)))
theorem h_c_eq : h_c = en_h m_0 s_0 := by
  funext q
  obtain ⟨k, i⟩ := q
  have hc0 : ∀ a b : Nat, (a, b) ≠ ((202, 0) : am_Nm) → h_c (a, b) = h_8 h_a (a, b) := fun a b x1 => by
    unfold h_c
    rw [am_up_ne x1]
  by_cases e_200_0 : ((k, i) : am_Nm) = (200, 0)
  · rw [e_200_0]
    rw [hc0 _ _ (by decide)]
    rw [en_c200]
    refine Eq.trans (rfl : _ = some (am_A 3 12 (fun _ => am_N))) (congrArg some (congrArg (am_A 3 12) (funext fun z => ?_)))
    rw [s0_0 (by decide), if_neg (by omega)]
  by_cases e_201_0 : ((k, i) : am_Nm) = (201, 0)
  · rw [e_201_0]
    rw [hc0 _ _ (by decide)]
    rw [en_c201]
    refine Eq.trans (rfl : _ = some (am_A 4 12 (fun _ => am_N))) (congrArg some (congrArg (am_A 4 12) (funext fun z => ?_)))
    rw [s0_0 (by decide), if_neg (by omega)]
  by_cases e_202_0 : ((k, i) : am_Nm) = (202, 0)
  · rw [e_202_0]
    unfold h_c
    rw [am_up_eq, en_c202]
  by_cases e_203_0 : ((k, i) : am_Nm) = (203, 0)
  · rw [e_203_0]
    rw [hc0 _ _ (by decide)]
    rw [en_c203]
    refine Eq.trans (rfl : _ = some (am_A 0 12 (fun _ => am_I 0))) (congrArg some (congrArg (am_A 0 12) (funext fun z => congrArg am_I (s0_0 (by decide)).symm)))
  by_cases e_204_0 : ((k, i) : am_Nm) = (204, 0)
  · rw [e_204_0]
    rw [hc0 _ _ (by decide)]
    rw [en_c204]
    refine Eq.trans (rfl : _ = some (am_A 0 27 (fun _ => am_I 0))) (congrArg some (congrArg (am_A 0 27) (funext fun z => congrArg am_I (s0_0 (by decide)).symm)))
  by_cases e_205_0 : ((k, i) : am_Nm) = (205, 0)
  · rw [e_205_0]
    rw [hc0 _ _ (by decide)]
    rw [en_c205]
    refine Eq.trans (rfl : _ = some (am_A 6 6 (fun _ => am_N))) (congrArg some (congrArg (am_A 6 6) (funext fun z => ?_)))
    rw [s0_0 (by decide), if_neg (by omega)]
  by_cases e_8_0 : ((k, i) : am_Nm) = (8, 0)
  · rw [e_8_0]
    rw [hc0 _ _ (by decide)]
    exact Eq.trans (rfl : _ = some (am_O 8 [am_R (200, 0), am_R (201, 0), am_I 0, am_I 0, am_I 360, am_I 0, am_R (202, 0), am_R (203, 0), am_I 0, am_R (204, 0), am_R (6, 1), am_R (6, 0), am_R (205, 0), am_I 0])) rfl
  by_cases e_1_0 : ((k, i) : am_Nm) = (1, 0)
  · rw [e_1_0]
    rw [hc0 _ _ (by decide)]
    exact Eq.trans (rfl : _ = some (am_O 1 [am_R (216, 0), am_R (217, 0), am_I 0])) rfl
  by_cases e_216_0 : ((k, i) : am_Nm) = (216, 0)
  · rw [e_216_0]
    rw [hc0 _ _ (by decide)]
    rw [en_c216 (i := 0) (by decide), tr_0 (fun z => s0_0 (by decide))]
    rfl
  by_cases e_217_0 : ((k, i) : am_Nm) = (217, 0)
  · rw [e_217_0]
    rw [hc0 _ _ (by decide)]
    rw [en_c217 (i := 0) (by decide), tr_0 (fun z => s0_0 (by decide))]
    rfl
  by_cases e_1_1 : ((k, i) : am_Nm) = (1, 1)
  · rw [e_1_1]
    rw [hc0 _ _ (by decide)]
    exact Eq.trans (rfl : _ = some (am_O 1 [am_R (216, 1), am_R (217, 1), am_I 0])) rfl
  by_cases e_216_1 : ((k, i) : am_Nm) = (216, 1)
  · rw [e_216_1]
    rw [hc0 _ _ (by decide)]
    rw [en_c216 (i := 1) (by decide), tr_0 (fun z => s0_0 (by decide))]
    rfl
  by_cases e_217_1 : ((k, i) : am_Nm) = (217, 1)
  · rw [e_217_1]
    rw [hc0 _ _ (by decide)]
    rw [en_c217 (i := 1) (by decide), tr_0 (fun z => s0_0 (by decide))]
    rfl
  by_cases e_1_2 : ((k, i) : am_Nm) = (1, 2)
  · rw [e_1_2]
    rw [hc0 _ _ (by decide)]
    exact Eq.trans (rfl : _ = some (am_O 1 [am_R (216, 2), am_R (217, 2), am_I 0])) rfl
  by_cases e_216_2 : ((k, i) : am_Nm) = (216, 2)
  · rw [e_216_2]
    rw [hc0 _ _ (by decide)]
    rw [en_c216 (i := 2) (by decide), tr_0 (fun z => s0_0 (by decide))]
    rfl
  by_cases e_217_2 : ((k, i) : am_Nm) = (217, 2)
  · rw [e_217_2]
    rw [hc0 _ _ (by decide)]
    rw [en_c217 (i := 2) (by decide), tr_0 (fun z => s0_0 (by decide))]
    rfl
  by_cases e_6_0 : ((k, i) : am_Nm) = (6, 0)
  · rw [e_6_0]
    rw [hc0 _ _ (by decide)]
    rw [en_c6 (i := 0) (by decide), s0_0 (f := 33) (by decide), s0_0 (f := 28) (by decide), s0_0 (f := 27) (by decide), if_pos (by decide)]
    rfl
  by_cases e_218_0 : ((k, i) : am_Nm) = (218, 0)
  · rw [e_218_0]
    rw [hc0 _ _ (by decide)]
    rw [en_c218 (i := 0) (by decide)]
    refine Eq.trans (rfl : _ = some (am_A 7 40 (fun _ => am_N))) (congrArg some (congrArg (am_A 7 40) (funext fun z => ?_)))
    rw [s0_0 (by decide), if_neg (by omega)]
  by_cases e_6_1 : ((k, i) : am_Nm) = (6, 1)
  · rw [e_6_1]
    rw [hc0 _ _ (by decide)]
    rw [en_c6 (i := 1) (by decide), s0_0 (f := 33) (by decide), s0_0 (f := 28) (by decide), s0_0 (f := 27) (by decide), if_pos (by decide)]
    rfl
  by_cases e_218_1 : ((k, i) : am_Nm) = (218, 1)
  · rw [e_218_1]
    rw [hc0 _ _ (by decide)]
    rw [en_c218 (i := 1) (by decide)]
    refine Eq.trans (rfl : _ = some (am_A 7 40 (fun _ => am_N))) (congrArg some (congrArg (am_A 7 40) (funext fun z => ?_)))
    rw [s0_0 (by decide), if_neg (by omega)]
  rw [hc0 k i e_202_0, h_8_at ⟨e_200_0, e_201_0, e_202_0, e_203_0, e_204_0, e_205_0, e_8_0, e_1_0, e_216_0, e_217_0, e_1_1, e_216_1, e_217_1, e_1_2, e_216_2, e_217_2, e_6_0, e_218_0, e_6_1, e_218_1⟩]
  simp only [en_h]
  by_cases k9 : k = 9
  · rw [if_pos k9, if_neg (by show ¬ ((i : Nat) : Int) < m_0 0 0; unfold m_0; omega)]
  rw [if_neg k9]
  by_cases k98 : k = 98
  · rw [if_pos k98, if_neg (fun z => z.2 rfl)]
  rw [if_neg k98]
  by_cases km : 100 ≤ k ∧ k < 143
  · rw [if_pos km]
  rw [if_neg km]
  have z0 : ∀ f j, f ≠ 1 ∧ f ≠ 15 → s_0 f j = 0 := fun f j h => s0_0 h
  unfold en_x
  split <;> first
    | rfl
    | (have hi : ¬ i = 0 := (fun z => absurd rfl (by subst z; assumption))
       rw [if_neg hi])
    | (have hi : ¬ i < 3 := (fun z => by
         have : i = 0 ∨ i = 1 ∨ i = 2 := by omega
         rcases this with y | y | y <;> (subst y; exact absurd rfl (by assumption)))
       rw [if_neg hi])
    | (have hi : ¬ i < 2 := (fun z => by
         have : i = 0 ∨ i = 1 := by omega
         rcases this with y | y <;> (subst y; exact absurd rfl (by assumption)))
       rw [if_neg hi])
    | (rw [z0 _ _ (by decide), if_neg (by omega)])
