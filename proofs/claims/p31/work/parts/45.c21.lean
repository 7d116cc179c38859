theorem en_n4 {m x : sg_S} {i : Nat} (h : x 39 0 = (i : Int)) : en_h m x (4, i) = none := by
  show (if _ then some _ else none) = _
  rw [if_neg (by omega)]
theorem en_n220 {m x : sg_S} {i : Nat} (h : x 39 0 = (i : Int)) : en_h m x (220, i) = none := by
  show (if _ then some _ else none) = _
  rw [if_neg (by omega)]
theorem cx_spy {m y : sg_S} {n : Nat} {t : Int} (e39 : y 39 0 = (n : Int)) (hZ : y 41 n = 0 ∧ ∀ z, z < 200 → y 42 (200 * n + z) = 0) : (am_up (am_up (am_up (am_up (en_h m y) (4, n) (am_O 4 [am_I t, am_R (220, n), am_I 0])) (220, n) (am_A 0 200 (fun _ => am_I 0))) (205, 0) (am_A 6 6 (am_uf (fun z => if (z : Int) < y 39 0 then am_R (4, z) else am_N) ((y 39 0)).toNat (am_R (4, n))))) (8, 0) (am_O 8 [am_R (200, 0), am_R (201, 0), am_I (y 3 0), am_I (y 2 0), am_I (y 1 0), am_I (y 11 0), am_R (202, 0), am_R (203, 0), am_I (y 24 0), am_R (204, 0), am_R (6, 1), am_R (6, 0), am_R (205, 0), am_I ((y 39 0) + 1)])) = en_h m (st (st y 40 n t) 39 0 (y 39 0 + 1)) := by
  have e : ∀ f j, f ≠ 39 → f ≠ 40 → (st (st y 40 n t) 39 0 (y 39 0 + 1)) f j = y f j := fun f j h1 h2 => by rw [st_nf h1, st_nf h2]
  have e9 : (st (st y 40 n t) 39 0 (y 39 0 + 1)) 39 0 = y 39 0 + 1 := st_eq
  have e0 : ∀ i, (st (st y 40 n t) 39 0 (y 39 0 + 1)) 40 i = if i = n then t else y 40 i := fun i => by simp [st]
  refine cx_ofL [((4, n), _), ((220, n), _), ((205, 0), _), ((8, 0), _)] (e 49 0 (by decide) (by decide)) (fun p hp => ?_) (fun k i hh => ?_)
  · simp only [List.mem_cons, List.not_mem_nil, or_false] at hp
    rcases hp with rfl | rfl | rfl | rfl
    · refine ⟨cx_k4, ?_⟩
      simp only [en_x, e9, e0]
      rw [if_pos (by omega), if_pos trivial, e 41 n (by decide) (by decide), hZ.1]
    · refine ⟨cx_k220, ?_⟩
      simp only [en_x, e9]
      rw [if_pos (by omega)]
      refine congrArg some (congrArg (am_A 0 200) (funext fun z => congrArg am_I ?_))
      simp only [tr]
      split
      · rename_i hz
        rw [e 42 _ (by decide) (by decide), hZ.2 z hz]
      · rfl
    · refine ⟨cx_k205, ?_⟩
      simp only [en_x, e9, if_true]
      refine congrArg some (congrArg (am_A 6 6) (funext fun z => ?_))
      simp only [am_uf]
      by_cases c : z = n
      · rw [if_pos (by omega), if_pos (by omega), c]
      · rw [if_neg (show ¬ z = (y 39 0).toNat by omega)]
        by_cases c2 : (z : Int) < y 39 0
        · rw [if_pos c2, if_pos (by omega)]
        · rw [if_neg c2, if_neg (by omega)]
    · refine ⟨cx_k8, ?_⟩
      simp only [en_x, e9, if_true, e _ _ (show (3 : Nat) ≠ 39 by decide) (show (3 : Nat) ≠ 40 by decide), e _ _ (show (2 : Nat) ≠ 39 by decide) (show (2 : Nat) ≠ 40 by decide), e _ _ (show (1 : Nat) ≠ 39 by decide) (show (1 : Nat) ≠ 40 by decide), e _ _ (show (11 : Nat) ≠ 39 by decide) (show (11 : Nat) ≠ 40 by decide), e _ _ (show (24 : Nat) ≠ 39 by decide) (show (24 : Nat) ≠ 40 by decide)]
  · have n8 : k = 8 → ¬ i = 0 := fun z1 z => hh _ (List.mem_cons_of_mem _ (List.mem_cons_of_mem _ (List.mem_cons_of_mem _ List.mem_cons_self))) (by rw [z, z1])
    have n205 : k = 205 → ¬ i = 0 := fun z1 z => hh _ (List.mem_cons_of_mem _ (List.mem_cons_of_mem _ List.mem_cons_self)) (by rw [z, z1])
    have n4 : k = 4 → ¬ i = n := fun z1 z => hh _ List.mem_cons_self (by rw [z, z1])
    have n220 : k = 220 → ¬ i = n := fun z1 z => hh _ (List.mem_cons_of_mem _ List.mem_cons_self) (by rw [z, z1])
    unfold en_x
    split <;> first
      | rfl
      | (simp (disch := decide) only [e]; done)
      | (rw [if_neg (n8 rfl), if_neg (n8 rfl)]; done)
      | (rw [if_neg (n205 rfl), if_neg (n205 rfl)]; done)
      | skip
    · have hj := n4 rfl
      rw [e9, e0, if_neg hj, e 41 i (by decide) (by decide)]
      by_cases c : (i : Int) < y 39 0
      · rw [if_pos c, if_pos (by omega)]
      · rw [if_neg c, if_neg (by omega)]
    · have hj := n220 rfl
      rw [e9]
      by_cases c : (i : Int) < y 39 0
      · rw [if_pos c, if_pos (by omega)]
        refine congrArg some (congrArg (am_A 0 200) (funext fun z => congrArg am_I ?_))
        simp only [tr]
        split
        · rw [e 42 _ (by decide) (by decide)]
        · rfl
      · rw [if_neg c, if_neg (by omega)]
