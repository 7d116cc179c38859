theorem en_n7 {m x : sg_S} {i : Nat} (h : x 3 0 = (i : Int)) : en_h m x (7, i) = none := by
  show (if _ then some _ else none) = _
  rw [if_neg (by omega)]
theorem en_n0 {m x : sg_S} {i : Nat} (h : x 3 0 ≤ ((i / 2 : Nat) : Int)) : en_h m x (0, i) = none := by
  show (if _ then some _ else none) = _
  rw [if_neg (by omega)]
theorem en_n210 {m x : sg_S} {i : Nat} (h : x 3 0 ≤ ((i / 2 : Nat) : Int)) : en_h m x (210, i) = none := by
  show (if _ then some _ else none) = _
  rw [if_neg (by omega)]
theorem en_n3 {m x : sg_S} {i : Nat} (h : x 3 0 ≤ ((i / 2 : Nat) : Int)) : en_h m x (3, i) = none := by
  show (if _ then some _ else none) = _
  rw [if_neg (by omega)]
theorem en_n211 {m x : sg_S} {i : Nat} (h : x 3 0 ≤ ((i / 2 : Nat) : Int)) : en_h m x (211, i) = none := by
  show (if _ then some _ else none) = _
  rw [if_neg (by omega)]
theorem en_n212 {m x : sg_S} {i : Nat} (h : x 3 0 ≤ ((i / 2 : Nat) : Int)) : en_h m x (212, i) = none := by
  show (if _ then some _ else none) = _
  rw [if_neg (by omega)]
theorem en_n213 {m x : sg_S} {i : Nat} (h : x 3 0 ≤ ((i / 2 : Nat) : Int)) : en_h m x (213, i) = none := by
  show (if _ then some _ else none) = _
  rw [if_neg (by omega)]
theorem en_n5 {m x : sg_S} {i : Nat} (h : x 3 0 ≤ (i : Int) + 1) : en_h m x (5, i) = none := by
  show (if _ then some _ else none) = _
  rw [if_neg (by omega)]
theorem en_n214 {m x : sg_S} {i : Nat} (h : x 3 0 ≤ (i : Int) + 1) : en_h m x (214, i) = none := by
  show (if _ then some _ else none) = _
  rw [if_neg (by omega)]
theorem en_n215 {m x : sg_S} {i : Nat} (h : x 3 0 ≤ (i : Int) + 1) : en_h m x (215, i) = none := by
  show (if _ then some _ else none) = _
  rw [if_neg (by omega)]
theorem en_z0 {X : sg_S} {w : Nat} (h : ((w / 2 : Nat) : Int) < X 3 0) (h12 : X 12 w = 0) (h13 : X 13 w = 0) (h15 : X 15 w = -1) : en_x X 0 w = some (am_O 0 [am_R (210, w), am_I 0, am_I 0, am_I (-1), am_R (3, w)]) := by
  show (if _ then some _ else none) = _
  rw [if_pos h, h12, h13, h15]
  split <;> rfl
theorem en_z3 {X : sg_S} {w : Nat} (h : ((w / 2 : Nat) : Int) < X 3 0) (h17 : X 17 w = 0) : en_x X 3 w = some (am_O 3 [am_R (211, w), am_R (212, w), am_R (213, w), am_I 0]) := by
  show (if _ then some _ else none) = _
  rw [if_pos h, h17]
theorem en_z210 {X : sg_S} {w : Nat} (h : ((w / 2 : Nat) : Int) < X 3 0) (hz : ∀ z, z < 200 → X 14 (220 * w + z) = 0) : en_x X 210 w = some (am_A 0 200 (fun _ => am_I 0)) := by
  show (if _ then some _ else none) = _
  rw [if_pos h]
  refine congrArg some (congrArg (am_A 0 200) (funext fun z => congrArg am_I ?_))
  simp only [tr]
  split
  · rename_i q; exact hz z q
  · rfl
theorem en_z211 {X : sg_S} {w : Nat} (h : ((w / 2 : Nat) : Int) < X 3 0) (hz : ∀ z, z < 300 → X 18 (300 * w + z) = 0) : en_x X 211 w = some (am_A 0 300 (fun _ => am_I 0)) := by
  show (if _ then some _ else none) = _
  rw [if_pos h]
  refine congrArg some (congrArg (am_A 0 300) (funext fun z => congrArg am_I ?_))
  simp only [tr]
  split
  · rename_i q; exact hz z q
  · rfl
theorem en_z212 {X : sg_S} {w : Nat} (h : ((w / 2 : Nat) : Int) < X 3 0) (hz : ∀ z, z < 300 → X 19 (300 * w + z) = 0) : en_x X 212 w = some (am_A 0 300 (fun _ => am_I 0)) := by
  show (if _ then some _ else none) = _
  rw [if_pos h]
  refine congrArg some (congrArg (am_A 0 300) (funext fun z => congrArg am_I ?_))
  simp only [tr]
  split
  · rename_i q; exact hz z q
  · rfl
theorem en_z213 {X : sg_S} {w : Nat} (h : ((w / 2 : Nat) : Int) < X 3 0) (hz : ∀ z, z < 300 → X 20 (300 * w + z) = 0) : en_x X 213 w = some (am_A 1 300 (fun _ => am_I 0)) := by
  show (if _ then some _ else none) = _
  rw [if_pos h]
  refine congrArg some (congrArg (am_A 1 300) (funext fun z => congrArg am_I ?_))
  simp only [tr]
  split
  · rename_i q; exact hz z q
  · rfl
theorem en_z214 {X : sg_S} {w : Nat} (h : (w : Int) + 1 < X 3 0) (hz : ∀ z, z < 3 → X 9 (3 * w + z) = 0) : en_x X 214 w = some (am_A 0 3 (fun _ => am_I 0)) := by
  show (if _ then some _ else none) = _
  rw [if_pos h]
  refine congrArg some (congrArg (am_A 0 3) (funext fun z => congrArg am_I ?_))
  simp only [tr]
  split
  · rename_i q; exact hz z q
  · rfl
theorem en_z215 {X : sg_S} {w : Nat} (h : (w : Int) + 1 < X 3 0) (hz : ∀ z, z < 3 → X 10 (3 * w + z) = 0) : en_x X 215 w = some (am_A 0 3 (fun _ => am_I 0)) := by
  show (if _ then some _ else none) = _
  rw [if_pos h]
  refine congrArg some (congrArg (am_A 0 3) (funext fun z => congrArg am_I ?_))
  simp only [tr]
  split
  · rename_i q; exact hz z q
  · rfl
/-- a way of a tower that isn't built: as at the start -/
def sg_u (σ : sg_S) (w : Nat) : Prop := σ 12 w = 0 ∧ σ 13 w = 0 ∧ σ 15 w = -1 ∧ σ 16 w = 0 ∧ σ 17 w = 0 ∧ (∀ z, z < 200 → σ 14 (220 * w + z) = 0) ∧ (∀ z, z < 300 → σ 18 (300 * w + z) = 0 ∧ σ 19 (300 * w + z) = 0 ∧ σ 20 (300 * w + z) = 0)
def sg_s (σ : sg_S) (s : Nat) : Prop := σ 7 s = 0 ∧ σ 8 s = 0 ∧ ∀ z, z < 3 → σ 9 (3 * s + z) = 0 ∧ σ 10 (3 * s + z) = 0
def sg_U (σ : sg_S) : Prop := (∀ n : Nat, σ 3 0 ≤ (n : Int) → σ 6 n = 0) ∧ (∀ w : Nat, σ 3 0 ≤ ((w / 2 : Nat) : Int) → sg_u σ w) ∧ (∀ s : Nat, σ 3 0 ≤ (s : Int) + 1 → sg_s σ s) ∧ (∀ n : Nat, σ 39 0 ≤ (n : Int) → σ 41 n = 0 ∧ ∀ z, z < 200 → σ 42 (200 * n + z) = 0)
theorem sg_U_of {σ τ : sg_S} (h : ∀ f j, f = 3 ∨ (6 ≤ f ∧ f ≤ 20 ∧ f ≠ 11) ∨ (39 ≤ f ∧ f ≤ 42) → τ f j = σ f j) (hU : sg_U σ) : sg_U τ := by
  have e3 := fun j => h 3 j (by decide)
  have e6 := fun j => h 6 j (by decide)
  have e7 := fun j => h 7 j (by decide)
  have e8 := fun j => h 8 j (by decide)
  have e9 := fun j => h 9 j (by decide)
  have e10 := fun j => h 10 j (by decide)
  have e12 := fun j => h 12 j (by decide)
  have e13 := fun j => h 13 j (by decide)
  have e14 := fun j => h 14 j (by decide)
  have e15 := fun j => h 15 j (by decide)
  have e16 := fun j => h 16 j (by decide)
  have e17 := fun j => h 17 j (by decide)
  have e18 := fun j => h 18 j (by decide)
  have e19 := fun j => h 19 j (by decide)
  have e20 := fun j => h 20 j (by decide)
  have e39 := fun j => h 39 j (by decide)
  have e41 := fun j => h 41 j (by decide)
  have e42 := fun j => h 42 j (by decide)
  simp only [sg_U, sg_u, sg_s, e3, e6, e7, e8, e9, e10, e12, e13, e14, e15, e16, e17, e18, e19, e20, e39, e41, e42]
  exact hU
theorem cx_tow0 {m y X : sg_S} {n : Nat} {a b : Int} (e3 : y 3 0 = (n : Int)) (hs : n = 0) (hU : sg_U y) (e : ∀ f j, f ≠ 3 → f ≠ 4 → f ≠ 5 → X f j = y f j) (hx3 : X 3 0 = y 3 0 + 1) (h4 : ∀ i, X 4 i = if i = n then a else y 4 i) (h5 : ∀ i, X 5 i = if i = n then b else y 5 i) : (am_up (am_up (am_up (am_up (am_up (am_up (am_up (am_up (am_up (am_up (am_up (am_up (am_up (am_up (am_up (en_h m y) (7, n) (am_O 7 [am_I a, am_I 0, am_R (0, 2 * n + 1), am_R (0, 2 * n)])) (0, 2 * n + 1) (am_O 0 [am_R (210, 2 * n + 1), am_I 0, am_I 0, am_I (-1), am_R (3, 2 * n + 1)])) (210, 2 * n + 1) (am_A 0 200 (fun _ => am_I 0))) (3, 2 * n + 1) (am_O 3 [am_R (211, 2 * n + 1), am_R (212, 2 * n + 1), am_R (213, 2 * n + 1), am_I 0])) (211, 2 * n + 1) (am_A 0 300 (fun _ => am_I 0))) (212, 2 * n + 1) (am_A 0 300 (fun _ => am_I 0))) (213, 2 * n + 1) (am_A 1 300 (fun _ => am_I 0))) (0, 2 * n) (am_O 0 [am_R (210, 2 * n), am_I 0, am_I 0, am_I (-1), am_R (3, 2 * n)])) (210, 2 * n) (am_A 0 200 (fun _ => am_I 0))) (3, 2 * n) (am_O 3 [am_R (211, 2 * n), am_R (212, 2 * n), am_R (213, 2 * n), am_I 0])) (211, 2 * n) (am_A 0 300 (fun _ => am_I 0))) (212, 2 * n) (am_A 0 300 (fun _ => am_I 0))) (213, 2 * n) (am_A 1 300 (fun _ => am_I 0))) (200, 0) (am_A 3 12 (am_uf (fun t => if (t : Int) < y 3 0 then am_R (7, t) else am_N) ((y 3 0)).toNat (am_R (7, n))))) (8, 0) (am_O 8 [am_R (200, 0), am_R (201, 0), am_I ((y 3 0) + 1), am_I (y 2 0), am_I (y 1 0), am_I (y 11 0), am_R (202, 0), am_R (203, 0), am_I (y 24 0), am_R (204, 0), am_R (6, 1), am_R (6, 0), am_R (205, 0), am_I (y 39 0)])) = en_h m X := by
  refine cx_ofL [((7, n), _), ((0, 2 * n + 1), _), ((210, 2 * n + 1), _), ((3, 2 * n + 1), _), ((211, 2 * n + 1), _), ((212, 2 * n + 1), _), ((213, 2 * n + 1), _), ((0, 2 * n), _), ((210, 2 * n), _), ((3, 2 * n), _), ((211, 2 * n), _), ((212, 2 * n), _), ((213, 2 * n), _), ((200, 0), _), ((8, 0), _)] (e 49 0 (by decide) (by decide) (by decide)) (fun p hp => ?_) (fun k i hh => ?_)
  · simp only [List.mem_cons, List.not_mem_nil, or_false] at hp
    rcases hp with rfl | rfl | rfl | rfl | rfl | rfl | rfl | rfl | rfl | rfl | rfl | rfl | rfl | rfl | rfl
    · refine ⟨cx_k7, ?_⟩
      simp only [en_x, hx3, h4]
      rw [if_pos (by omega), if_pos trivial, e 6 n (by decide) (by decide) (by decide), hU.1 n (by omega)]
    · refine ⟨cx_k0, ?_⟩
      have hw := hU.2.1 (2 * n + 1) (by omega)
      exact en_z0 (w := 2 * n + 1) (by omega) ((e 12 _ (by decide) (by decide) (by decide)).trans hw.1) ((e 13 _ (by decide) (by decide) (by decide)).trans hw.2.1) ((e 15 _ (by decide) (by decide) (by decide)).trans hw.2.2.1)
    · refine ⟨cx_k210, ?_⟩
      have hw := hU.2.1 (2 * n + 1) (by omega)
      exact en_z210 (w := 2 * n + 1) (by omega) (fun z hz => (e 14 _ (by decide) (by decide) (by decide)).trans (hw.2.2.2.2.2.1 z hz))
    · refine ⟨cx_k3, ?_⟩
      have hw := hU.2.1 (2 * n + 1) (by omega)
      exact en_z3 (w := 2 * n + 1) (by omega) ((e 17 _ (by decide) (by decide) (by decide)).trans hw.2.2.2.2.1)
    · refine ⟨cx_k211, ?_⟩
      have hw := hU.2.1 (2 * n + 1) (by omega)
      exact en_z211 (w := 2 * n + 1) (by omega) (fun z hz => (e 18 _ (by decide) (by decide) (by decide)).trans (hw.2.2.2.2.2.2 z hz).1)
    · refine ⟨cx_k212, ?_⟩
      have hw := hU.2.1 (2 * n + 1) (by omega)
      exact en_z212 (w := 2 * n + 1) (by omega) (fun z hz => (e 19 _ (by decide) (by decide) (by decide)).trans (hw.2.2.2.2.2.2 z hz).2.1)
    · refine ⟨cx_k213, ?_⟩
      have hw := hU.2.1 (2 * n + 1) (by omega)
      exact en_z213 (w := 2 * n + 1) (by omega) (fun z hz => (e 20 _ (by decide) (by decide) (by decide)).trans (hw.2.2.2.2.2.2 z hz).2.2)
    · refine ⟨cx_k0, ?_⟩
      have hw := hU.2.1 (2 * n) (by omega)
      exact en_z0 (w := 2 * n) (by omega) ((e 12 _ (by decide) (by decide) (by decide)).trans hw.1) ((e 13 _ (by decide) (by decide) (by decide)).trans hw.2.1) ((e 15 _ (by decide) (by decide) (by decide)).trans hw.2.2.1)
    · refine ⟨cx_k210, ?_⟩
      have hw := hU.2.1 (2 * n) (by omega)
      exact en_z210 (w := 2 * n) (by omega) (fun z hz => (e 14 _ (by decide) (by decide) (by decide)).trans (hw.2.2.2.2.2.1 z hz))
    · refine ⟨cx_k3, ?_⟩
      have hw := hU.2.1 (2 * n) (by omega)
      exact en_z3 (w := 2 * n) (by omega) ((e 17 _ (by decide) (by decide) (by decide)).trans hw.2.2.2.2.1)
    · refine ⟨cx_k211, ?_⟩
      have hw := hU.2.1 (2 * n) (by omega)
      exact en_z211 (w := 2 * n) (by omega) (fun z hz => (e 18 _ (by decide) (by decide) (by decide)).trans (hw.2.2.2.2.2.2 z hz).1)
    · refine ⟨cx_k212, ?_⟩
      have hw := hU.2.1 (2 * n) (by omega)
      exact en_z212 (w := 2 * n) (by omega) (fun z hz => (e 19 _ (by decide) (by decide) (by decide)).trans (hw.2.2.2.2.2.2 z hz).2.1)
    · refine ⟨cx_k213, ?_⟩
      have hw := hU.2.1 (2 * n) (by omega)
      exact en_z213 (w := 2 * n) (by omega) (fun z hz => (e 20 _ (by decide) (by decide) (by decide)).trans (hw.2.2.2.2.2.2 z hz).2.2)
    · refine ⟨cx_k200, ?_⟩
      simp only [en_x, hx3, if_true]
      refine congrArg some (congrArg (am_A 3 12) (funext fun z => ?_))
      simp only [am_uf]
      by_cases c : z = n
      · rw [if_pos (by omega), if_pos (by omega), c]
      · rw [if_neg (show ¬ z = (y 3 0).toNat by omega)]
        by_cases c2 : (z : Int) < y 3 0
        · rw [if_pos c2, if_pos (by omega)]
        · rw [if_neg c2, if_neg (by omega)]
    · refine ⟨cx_k8, ?_⟩
      simp only [en_x, hx3, if_true, e 2 0 (by decide) (by decide) (by decide), e 1 0 (by decide) (by decide) (by decide), e 11 0 (by decide) (by decide) (by decide), e 24 0 (by decide) (by decide) (by decide), e 39 0 (by decide) (by decide) (by decide)]
  ·
    have n0 : ∀ _ : k = 7, ¬ i = n := fun z1 z => hh _ List.mem_cons_self (by rw [z, z1])
    have n1 : ∀ _ : k = 0, ¬ i = 2 * n + 1 := fun z1 z => hh _ (List.mem_cons_of_mem _ List.mem_cons_self) (by rw [z, z1])
    have n2 : ∀ _ : k = 210, ¬ i = 2 * n + 1 := fun z1 z => hh _ (List.mem_cons_of_mem _ (List.mem_cons_of_mem _ List.mem_cons_self)) (by rw [z, z1])
    have n3 : ∀ _ : k = 3, ¬ i = 2 * n + 1 := fun z1 z => hh _ (List.mem_cons_of_mem _ (List.mem_cons_of_mem _ (List.mem_cons_of_mem _ List.mem_cons_self))) (by rw [z, z1])
    have n4 : ∀ _ : k = 211, ¬ i = 2 * n + 1 := fun z1 z => hh _ (List.mem_cons_of_mem _ (List.mem_cons_of_mem _ (List.mem_cons_of_mem _ (List.mem_cons_of_mem _ List.mem_cons_self)))) (by rw [z, z1])
    have n5 : ∀ _ : k = 212, ¬ i = 2 * n + 1 := fun z1 z => hh _ (List.mem_cons_of_mem _ (List.mem_cons_of_mem _ (List.mem_cons_of_mem _ (List.mem_cons_of_mem _ (List.mem_cons_of_mem _ List.mem_cons_self))))) (by rw [z, z1])
    have n6 : ∀ _ : k = 213, ¬ i = 2 * n + 1 := fun z1 z => hh _ (List.mem_cons_of_mem _ (List.mem_cons_of_mem _ (List.mem_cons_of_mem _ (List.mem_cons_of_mem _ (List.mem_cons_of_mem _ (List.mem_cons_of_mem _ List.mem_cons_self)))))) (by rw [z, z1])
    have n7 : ∀ _ : k = 0, ¬ i = 2 * n := fun z1 z => hh _ (List.mem_cons_of_mem _ (List.mem_cons_of_mem _ (List.mem_cons_of_mem _ (List.mem_cons_of_mem _ (List.mem_cons_of_mem _ (List.mem_cons_of_mem _ (List.mem_cons_of_mem _ List.mem_cons_self))))))) (by rw [z, z1])
    have n8 : ∀ _ : k = 210, ¬ i = 2 * n := fun z1 z => hh _ (List.mem_cons_of_mem _ (List.mem_cons_of_mem _ (List.mem_cons_of_mem _ (List.mem_cons_of_mem _ (List.mem_cons_of_mem _ (List.mem_cons_of_mem _ (List.mem_cons_of_mem _ (List.mem_cons_of_mem _ List.mem_cons_self)))))))) (by rw [z, z1])
    have n9 : ∀ _ : k = 3, ¬ i = 2 * n := fun z1 z => hh _ (List.mem_cons_of_mem _ (List.mem_cons_of_mem _ (List.mem_cons_of_mem _ (List.mem_cons_of_mem _ (List.mem_cons_of_mem _ (List.mem_cons_of_mem _ (List.mem_cons_of_mem _ (List.mem_cons_of_mem _ (List.mem_cons_of_mem _ List.mem_cons_self))))))))) (by rw [z, z1])
    have n10 : ∀ _ : k = 211, ¬ i = 2 * n := fun z1 z => hh _ (List.mem_cons_of_mem _ (List.mem_cons_of_mem _ (List.mem_cons_of_mem _ (List.mem_cons_of_mem _ (List.mem_cons_of_mem _ (List.mem_cons_of_mem _ (List.mem_cons_of_mem _ (List.mem_cons_of_mem _ (List.mem_cons_of_mem _ (List.mem_cons_of_mem _ List.mem_cons_self)))))))))) (by rw [z, z1])
    have n11 : ∀ _ : k = 212, ¬ i = 2 * n := fun z1 z => hh _ (List.mem_cons_of_mem _ (List.mem_cons_of_mem _ (List.mem_cons_of_mem _ (List.mem_cons_of_mem _ (List.mem_cons_of_mem _ (List.mem_cons_of_mem _ (List.mem_cons_of_mem _ (List.mem_cons_of_mem _ (List.mem_cons_of_mem _ (List.mem_cons_of_mem _ (List.mem_cons_of_mem _ List.mem_cons_self))))))))))) (by rw [z, z1])
    have n12 : ∀ _ : k = 213, ¬ i = 2 * n := fun z1 z => hh _ (List.mem_cons_of_mem _ (List.mem_cons_of_mem _ (List.mem_cons_of_mem _ (List.mem_cons_of_mem _ (List.mem_cons_of_mem _ (List.mem_cons_of_mem _ (List.mem_cons_of_mem _ (List.mem_cons_of_mem _ (List.mem_cons_of_mem _ (List.mem_cons_of_mem _ (List.mem_cons_of_mem _ (List.mem_cons_of_mem _ List.mem_cons_self)))))))))))) (by rw [z, z1])
    have n13 : ∀ _ : k = 200, ¬ i = 0 := fun z1 z => hh _ (List.mem_cons_of_mem _ (List.mem_cons_of_mem _ (List.mem_cons_of_mem _ (List.mem_cons_of_mem _ (List.mem_cons_of_mem _ (List.mem_cons_of_mem _ (List.mem_cons_of_mem _ (List.mem_cons_of_mem _ (List.mem_cons_of_mem _ (List.mem_cons_of_mem _ (List.mem_cons_of_mem _ (List.mem_cons_of_mem _ (List.mem_cons_of_mem _ List.mem_cons_self))))))))))))) (by rw [z, z1])
    have n14 : ∀ _ : k = 8, ¬ i = 0 := fun z1 z => hh _ (List.mem_cons_of_mem _ (List.mem_cons_of_mem _ (List.mem_cons_of_mem _ (List.mem_cons_of_mem _ (List.mem_cons_of_mem _ (List.mem_cons_of_mem _ (List.mem_cons_of_mem _ (List.mem_cons_of_mem _ (List.mem_cons_of_mem _ (List.mem_cons_of_mem _ (List.mem_cons_of_mem _ (List.mem_cons_of_mem _ (List.mem_cons_of_mem _ (List.mem_cons_of_mem _ List.mem_cons_self)))))))))))))) (by rw [z, z1])
    unfold en_x
    split <;> first
      | rfl
      | (simp (disch := decide) only [e]; done)
      | (rw [if_neg (n14 rfl), if_neg (n14 rfl)]; done)
      | (rw [if_neg (n13 rfl), if_neg (n13 rfl)]; done)
      | skip
    · rw [hx3]
      split
      · refine congrArg some (congrArg (am_A 4 12) (funext fun z => ?_))
        rw [if_neg (by omega), if_neg (by omega)]
      · rfl
    · have hj := n0 rfl
      rw [hx3, h4, if_neg hj]
      by_cases c : (i : Int) < y 3 0
      · rw [if_pos c, if_pos (by omega), e 6 i (by decide) (by decide) (by decide)]
      · rw [if_neg c, if_neg (by omega)]
    all_goals rw [hx3]
    · by_cases c : ((i / 2 : Nat) : Int) < y 3 0
      · rw [if_pos c, if_pos (by omega)]
        simp (disch := decide) only [e]
      · rw [if_neg c, if_neg (by have q1 := n1 rfl; have q2 := n7 rfl; omega)]
    · by_cases c : ((i / 2 : Nat) : Int) < y 3 0
      · rw [if_pos c, if_pos (by omega)]
        simp (disch := decide) only [e]
      · rw [if_neg c, if_neg (by have q1 := n2 rfl; have q2 := n8 rfl; omega)]
    · by_cases c : ((i / 2 : Nat) : Int) < y 3 0
      · rw [if_pos c, if_pos (by omega)]
        simp (disch := decide) only [e]
      · rw [if_neg c, if_neg (by have q1 := n3 rfl; have q2 := n9 rfl; omega)]
    · by_cases c : ((i / 2 : Nat) : Int) < y 3 0
      · rw [if_pos c, if_pos (by omega)]
        simp (disch := decide) only [e]
      · rw [if_neg c, if_neg (by have q1 := n4 rfl; have q2 := n10 rfl; omega)]
    · by_cases c : ((i / 2 : Nat) : Int) < y 3 0
      · rw [if_pos c, if_pos (by omega)]
        simp (disch := decide) only [e]
      · rw [if_neg c, if_neg (by have q1 := n5 rfl; have q2 := n11 rfl; omega)]
    · by_cases c : ((i / 2 : Nat) : Int) < y 3 0
      · rw [if_pos c, if_pos (by omega)]
        simp (disch := decide) only [e]
      · rw [if_neg c, if_neg (by have q1 := n6 rfl; have q2 := n12 rfl; omega)]
    · by_cases c : (i : Int) + 1 < y 3 0
      · rw [if_pos c, if_pos (by omega), h5, if_neg (by omega)]
        simp (disch := decide) only [e]
      · rw [if_neg c, if_neg (by omega)]
    · by_cases c : (i : Int) + 1 < y 3 0
      · rw [if_pos c, if_pos (by omega)]
        simp (disch := decide) only [e]
      · rw [if_neg c, if_neg (by omega)]
    · by_cases c : (i : Int) + 1 < y 3 0
      · rw [if_pos c, if_pos (by omega)]
        simp (disch := decide) only [e]
      · rw [if_neg c, if_neg (by omega)]
theorem cx_tow1 {m y X : sg_S} {n s : Nat} {a b : Int} (e3 : y 3 0 = (n : Int)) (hs : n = s + 1) (hU : sg_U y) (e : ∀ f j, f ≠ 3 → f ≠ 4 → f ≠ 5 → X f j = y f j) (hx3 : X 3 0 = y 3 0 + 1) (h4 : ∀ i, X 4 i = if i = n then a else y 4 i) (h5 : ∀ i, X 5 i = if i = n then b else y 5 i) : (am_up (am_up (am_up (am_up (am_up (am_up (am_up (am_up (am_up (am_up (am_up (am_up (am_up (am_up (am_up (am_up (am_up (am_up (am_up (en_h m y) (7, n) (am_O 7 [am_I a, am_I 0, am_R (0, 2 * n + 1), am_R (0, 2 * n)])) (0, 2 * n + 1) (am_O 0 [am_R (210, 2 * n + 1), am_I 0, am_I 0, am_I (-1), am_R (3, 2 * n + 1)])) (210, 2 * n + 1) (am_A 0 200 (fun _ => am_I 0))) (3, 2 * n + 1) (am_O 3 [am_R (211, 2 * n + 1), am_R (212, 2 * n + 1), am_R (213, 2 * n + 1), am_I 0])) (211, 2 * n + 1) (am_A 0 300 (fun _ => am_I 0))) (212, 2 * n + 1) (am_A 0 300 (fun _ => am_I 0))) (213, 2 * n + 1) (am_A 1 300 (fun _ => am_I 0))) (0, 2 * n) (am_O 0 [am_R (210, 2 * n), am_I 0, am_I 0, am_I (-1), am_R (3, 2 * n)])) (210, 2 * n) (am_A 0 200 (fun _ => am_I 0))) (3, 2 * n) (am_O 3 [am_R (211, 2 * n), am_R (212, 2 * n), am_R (213, 2 * n), am_I 0])) (211, 2 * n) (am_A 0 300 (fun _ => am_I 0))) (212, 2 * n) (am_A 0 300 (fun _ => am_I 0))) (213, 2 * n) (am_A 1 300 (fun _ => am_I 0))) (200, 0) (am_A 3 12 (am_uf (fun t => if (t : Int) < y 3 0 then am_R (7, t) else am_N) ((y 3 0)).toNat (am_R (7, n))))) (5, s) (am_O 5 [am_I b, am_R (214, s), am_R (215, s), am_I 0, am_I 0])) (214, s) (am_A 0 3 (fun _ => am_I 0))) (215, s) (am_A 0 3 (fun _ => am_I 0))) (201, 0) (am_A 4 12 (am_uf (fun s => if (s : Int) + 1 < y 3 0 then am_R (5, s) else am_N) (((y 3 0) - 1)).toNat (am_R (5, s))))) (8, 0) (am_O 8 [am_R (200, 0), am_R (201, 0), am_I ((y 3 0) + 1), am_I (y 2 0), am_I (y 1 0), am_I (y 11 0), am_R (202, 0), am_R (203, 0), am_I (y 24 0), am_R (204, 0), am_R (6, 1), am_R (6, 0), am_R (205, 0), am_I (y 39 0)])) = en_h m X := by
  refine cx_ofL [((7, n), _), ((0, 2 * n + 1), _), ((210, 2 * n + 1), _), ((3, 2 * n + 1), _), ((211, 2 * n + 1), _), ((212, 2 * n + 1), _), ((213, 2 * n + 1), _), ((0, 2 * n), _), ((210, 2 * n), _), ((3, 2 * n), _), ((211, 2 * n), _), ((212, 2 * n), _), ((213, 2 * n), _), ((200, 0), _), ((5, s), _), ((214, s), _), ((215, s), _), ((201, 0), _), ((8, 0), _)] (e 49 0 (by decide) (by decide) (by decide)) (fun p hp => ?_) (fun k i hh => ?_)
  · simp only [List.mem_cons, List.not_mem_nil, or_false] at hp
    rcases hp with rfl | rfl | rfl | rfl | rfl | rfl | rfl | rfl | rfl | rfl | rfl | rfl | rfl | rfl | rfl | rfl | rfl | rfl | rfl
    · refine ⟨cx_k7, ?_⟩
      simp only [en_x, hx3, h4]
      rw [if_pos (by omega), if_pos trivial, e 6 n (by decide) (by decide) (by decide), hU.1 n (by omega)]
    · refine ⟨cx_k0, ?_⟩
      have hw := hU.2.1 (2 * n + 1) (by omega)
      exact en_z0 (w := 2 * n + 1) (by omega) ((e 12 _ (by decide) (by decide) (by decide)).trans hw.1) ((e 13 _ (by decide) (by decide) (by decide)).trans hw.2.1) ((e 15 _ (by decide) (by decide) (by decide)).trans hw.2.2.1)
    · refine ⟨cx_k210, ?_⟩
      have hw := hU.2.1 (2 * n + 1) (by omega)
      exact en_z210 (w := 2 * n + 1) (by omega) (fun z hz => (e 14 _ (by decide) (by decide) (by decide)).trans (hw.2.2.2.2.2.1 z hz))
    · refine ⟨cx_k3, ?_⟩
      have hw := hU.2.1 (2 * n + 1) (by omega)
      exact en_z3 (w := 2 * n + 1) (by omega) ((e 17 _ (by decide) (by decide) (by decide)).trans hw.2.2.2.2.1)
    · refine ⟨cx_k211, ?_⟩
      have hw := hU.2.1 (2 * n + 1) (by omega)
      exact en_z211 (w := 2 * n + 1) (by omega) (fun z hz => (e 18 _ (by decide) (by decide) (by decide)).trans (hw.2.2.2.2.2.2 z hz).1)
    · refine ⟨cx_k212, ?_⟩
      have hw := hU.2.1 (2 * n + 1) (by omega)
      exact en_z212 (w := 2 * n + 1) (by omega) (fun z hz => (e 19 _ (by decide) (by decide) (by decide)).trans (hw.2.2.2.2.2.2 z hz).2.1)
    · refine ⟨cx_k213, ?_⟩
      have hw := hU.2.1 (2 * n + 1) (by omega)
      exact en_z213 (w := 2 * n + 1) (by omega) (fun z hz => (e 20 _ (by decide) (by decide) (by decide)).trans (hw.2.2.2.2.2.2 z hz).2.2)
    · refine ⟨cx_k0, ?_⟩
      have hw := hU.2.1 (2 * n) (by omega)
      exact en_z0 (w := 2 * n) (by omega) ((e 12 _ (by decide) (by decide) (by decide)).trans hw.1) ((e 13 _ (by decide) (by decide) (by decide)).trans hw.2.1) ((e 15 _ (by decide) (by decide) (by decide)).trans hw.2.2.1)
    · refine ⟨cx_k210, ?_⟩
      have hw := hU.2.1 (2 * n) (by omega)
      exact en_z210 (w := 2 * n) (by omega) (fun z hz => (e 14 _ (by decide) (by decide) (by decide)).trans (hw.2.2.2.2.2.1 z hz))
    · refine ⟨cx_k3, ?_⟩
      have hw := hU.2.1 (2 * n) (by omega)
      exact en_z3 (w := 2 * n) (by omega) ((e 17 _ (by decide) (by decide) (by decide)).trans hw.2.2.2.2.1)
    · refine ⟨cx_k211, ?_⟩
      have hw := hU.2.1 (2 * n) (by omega)
      exact en_z211 (w := 2 * n) (by omega) (fun z hz => (e 18 _ (by decide) (by decide) (by decide)).trans (hw.2.2.2.2.2.2 z hz).1)
    · refine ⟨cx_k212, ?_⟩
      have hw := hU.2.1 (2 * n) (by omega)
      exact en_z212 (w := 2 * n) (by omega) (fun z hz => (e 19 _ (by decide) (by decide) (by decide)).trans (hw.2.2.2.2.2.2 z hz).2.1)
    · refine ⟨cx_k213, ?_⟩
      have hw := hU.2.1 (2 * n) (by omega)
      exact en_z213 (w := 2 * n) (by omega) (fun z hz => (e 20 _ (by decide) (by decide) (by decide)).trans (hw.2.2.2.2.2.2 z hz).2.2)
    · refine ⟨cx_k200, ?_⟩
      simp only [en_x, hx3, if_true]
      refine congrArg some (congrArg (am_A 3 12) (funext fun z => ?_))
      simp only [am_uf]
      by_cases c : z = n
      · rw [if_pos (by omega), if_pos (by omega), c]
      · rw [if_neg (show ¬ z = (y 3 0).toNat by omega)]
        by_cases c2 : (z : Int) < y 3 0
        · rw [if_pos c2, if_pos (by omega)]
        · rw [if_neg c2, if_neg (by omega)]
    · refine ⟨cx_k5, ?_⟩
      simp only [en_x, hx3, h5]
      rw [if_pos (by omega), if_pos hs.symm, e 8 s (by decide) (by decide) (by decide), e 7 s (by decide) (by decide) (by decide), (hU.2.2.1 s (by omega)).1, (hU.2.2.1 s (by omega)).2.1]
    · refine ⟨cx_k214, ?_⟩
      exact en_z214 (w := s) (by omega) (fun z hz => (e 9 _ (by decide) (by decide) (by decide)).trans ((hU.2.2.1 s (by omega)).2.2 z hz).1)
    · refine ⟨cx_k215, ?_⟩
      exact en_z215 (w := s) (by omega) (fun z hz => (e 10 _ (by decide) (by decide) (by decide)).trans ((hU.2.2.1 s (by omega)).2.2 z hz).2)
    · refine ⟨cx_k201, ?_⟩
      simp only [en_x, hx3, if_true]
      refine congrArg some (congrArg (am_A 4 12) (funext fun z => ?_))
      simp only [am_uf]
      by_cases c : z = s
      · rw [if_pos (by omega), if_pos (by omega), c]
      · rw [if_neg (show ¬ z = (y 3 0 - 1).toNat by omega)]
        by_cases c2 : (z : Int) + 1 < y 3 0
        · rw [if_pos c2, if_pos (by omega)]
        · rw [if_neg c2, if_neg (by omega)]
    · refine ⟨cx_k8, ?_⟩
      simp only [en_x, hx3, if_true, e 2 0 (by decide) (by decide) (by decide), e 1 0 (by decide) (by decide) (by decide), e 11 0 (by decide) (by decide) (by decide), e 24 0 (by decide) (by decide) (by decide), e 39 0 (by decide) (by decide) (by decide)]
  ·
    have n0 : ∀ _ : k = 7, ¬ i = n := fun z1 z => hh _ List.mem_cons_self (by rw [z, z1])
    have n1 : ∀ _ : k = 0, ¬ i = 2 * n + 1 := fun z1 z => hh _ (List.mem_cons_of_mem _ List.mem_cons_self) (by rw [z, z1])
    have n2 : ∀ _ : k = 210, ¬ i = 2 * n + 1 := fun z1 z => hh _ (List.mem_cons_of_mem _ (List.mem_cons_of_mem _ List.mem_cons_self)) (by rw [z, z1])
    have n3 : ∀ _ : k = 3, ¬ i = 2 * n + 1 := fun z1 z => hh _ (List.mem_cons_of_mem _ (List.mem_cons_of_mem _ (List.mem_cons_of_mem _ List.mem_cons_self))) (by rw [z, z1])
    have n4 : ∀ _ : k = 211, ¬ i = 2 * n + 1 := fun z1 z => hh _ (List.mem_cons_of_mem _ (List.mem_cons_of_mem _ (List.mem_cons_of_mem _ (List.mem_cons_of_mem _ List.mem_cons_self)))) (by rw [z, z1])
    have n5 : ∀ _ : k = 212, ¬ i = 2 * n + 1 := fun z1 z => hh _ (List.mem_cons_of_mem _ (List.mem_cons_of_mem _ (List.mem_cons_of_mem _ (List.mem_cons_of_mem _ (List.mem_cons_of_mem _ List.mem_cons_self))))) (by rw [z, z1])
    have n6 : ∀ _ : k = 213, ¬ i = 2 * n + 1 := fun z1 z => hh _ (List.mem_cons_of_mem _ (List.mem_cons_of_mem _ (List.mem_cons_of_mem _ (List.mem_cons_of_mem _ (List.mem_cons_of_mem _ (List.mem_cons_of_mem _ List.mem_cons_self)))))) (by rw [z, z1])
    have n7 : ∀ _ : k = 0, ¬ i = 2 * n := fun z1 z => hh _ (List.mem_cons_of_mem _ (List.mem_cons_of_mem _ (List.mem_cons_of_mem _ (List.mem_cons_of_mem _ (List.mem_cons_of_mem _ (List.mem_cons_of_mem _ (List.mem_cons_of_mem _ List.mem_cons_self))))))) (by rw [z, z1])
    have n8 : ∀ _ : k = 210, ¬ i = 2 * n := fun z1 z => hh _ (List.mem_cons_of_mem _ (List.mem_cons_of_mem _ (List.mem_cons_of_mem _ (List.mem_cons_of_mem _ (List.mem_cons_of_mem _ (List.mem_cons_of_mem _ (List.mem_cons_of_mem _ (List.mem_cons_of_mem _ List.mem_cons_self)))))))) (by rw [z, z1])
    have n9 : ∀ _ : k = 3, ¬ i = 2 * n := fun z1 z => hh _ (List.mem_cons_of_mem _ (List.mem_cons_of_mem _ (List.mem_cons_of_mem _ (List.mem_cons_of_mem _ (List.mem_cons_of_mem _ (List.mem_cons_of_mem _ (List.mem_cons_of_mem _ (List.mem_cons_of_mem _ (List.mem_cons_of_mem _ List.mem_cons_self))))))))) (by rw [z, z1])
    have n10 : ∀ _ : k = 211, ¬ i = 2 * n := fun z1 z => hh _ (List.mem_cons_of_mem _ (List.mem_cons_of_mem _ (List.mem_cons_of_mem _ (List.mem_cons_of_mem _ (List.mem_cons_of_mem _ (List.mem_cons_of_mem _ (List.mem_cons_of_mem _ (List.mem_cons_of_mem _ (List.mem_cons_of_mem _ (List.mem_cons_of_mem _ List.mem_cons_self)))))))))) (by rw [z, z1])
    have n11 : ∀ _ : k = 212, ¬ i = 2 * n := fun z1 z => hh _ (List.mem_cons_of_mem _ (List.mem_cons_of_mem _ (List.mem_cons_of_mem _ (List.mem_cons_of_mem _ (List.mem_cons_of_mem _ (List.mem_cons_of_mem _ (List.mem_cons_of_mem _ (List.mem_cons_of_mem _ (List.mem_cons_of_mem _ (List.mem_cons_of_mem _ (List.mem_cons_of_mem _ List.mem_cons_self))))))))))) (by rw [z, z1])
    have n12 : ∀ _ : k = 213, ¬ i = 2 * n := fun z1 z => hh _ (List.mem_cons_of_mem _ (List.mem_cons_of_mem _ (List.mem_cons_of_mem _ (List.mem_cons_of_mem _ (List.mem_cons_of_mem _ (List.mem_cons_of_mem _ (List.mem_cons_of_mem _ (List.mem_cons_of_mem _ (List.mem_cons_of_mem _ (List.mem_cons_of_mem _ (List.mem_cons_of_mem _ (List.mem_cons_of_mem _ List.mem_cons_self)))))))))))) (by rw [z, z1])
    have n13 : ∀ _ : k = 200, ¬ i = 0 := fun z1 z => hh _ (List.mem_cons_of_mem _ (List.mem_cons_of_mem _ (List.mem_cons_of_mem _ (List.mem_cons_of_mem _ (List.mem_cons_of_mem _ (List.mem_cons_of_mem _ (List.mem_cons_of_mem _ (List.mem_cons_of_mem _ (List.mem_cons_of_mem _ (List.mem_cons_of_mem _ (List.mem_cons_of_mem _ (List.mem_cons_of_mem _ (List.mem_cons_of_mem _ List.mem_cons_self))))))))))))) (by rw [z, z1])
    have n14 : ∀ _ : k = 5, ¬ i = s := fun z1 z => hh _ (List.mem_cons_of_mem _ (List.mem_cons_of_mem _ (List.mem_cons_of_mem _ (List.mem_cons_of_mem _ (List.mem_cons_of_mem _ (List.mem_cons_of_mem _ (List.mem_cons_of_mem _ (List.mem_cons_of_mem _ (List.mem_cons_of_mem _ (List.mem_cons_of_mem _ (List.mem_cons_of_mem _ (List.mem_cons_of_mem _ (List.mem_cons_of_mem _ (List.mem_cons_of_mem _ List.mem_cons_self)))))))))))))) (by rw [z, z1])
    have n15 : ∀ _ : k = 214, ¬ i = s := fun z1 z => hh _ (List.mem_cons_of_mem _ (List.mem_cons_of_mem _ (List.mem_cons_of_mem _ (List.mem_cons_of_mem _ (List.mem_cons_of_mem _ (List.mem_cons_of_mem _ (List.mem_cons_of_mem _ (List.mem_cons_of_mem _ (List.mem_cons_of_mem _ (List.mem_cons_of_mem _ (List.mem_cons_of_mem _ (List.mem_cons_of_mem _ (List.mem_cons_of_mem _ (List.mem_cons_of_mem _ (List.mem_cons_of_mem _ List.mem_cons_self))))))))))))))) (by rw [z, z1])
    have n16 : ∀ _ : k = 215, ¬ i = s := fun z1 z => hh _ (List.mem_cons_of_mem _ (List.mem_cons_of_mem _ (List.mem_cons_of_mem _ (List.mem_cons_of_mem _ (List.mem_cons_of_mem _ (List.mem_cons_of_mem _ (List.mem_cons_of_mem _ (List.mem_cons_of_mem _ (List.mem_cons_of_mem _ (List.mem_cons_of_mem _ (List.mem_cons_of_mem _ (List.mem_cons_of_mem _ (List.mem_cons_of_mem _ (List.mem_cons_of_mem _ (List.mem_cons_of_mem _ (List.mem_cons_of_mem _ List.mem_cons_self)))))))))))))))) (by rw [z, z1])
    have n17 : ∀ _ : k = 201, ¬ i = 0 := fun z1 z => hh _ (List.mem_cons_of_mem _ (List.mem_cons_of_mem _ (List.mem_cons_of_mem _ (List.mem_cons_of_mem _ (List.mem_cons_of_mem _ (List.mem_cons_of_mem _ (List.mem_cons_of_mem _ (List.mem_cons_of_mem _ (List.mem_cons_of_mem _ (List.mem_cons_of_mem _ (List.mem_cons_of_mem _ (List.mem_cons_of_mem _ (List.mem_cons_of_mem _ (List.mem_cons_of_mem _ (List.mem_cons_of_mem _ (List.mem_cons_of_mem _ (List.mem_cons_of_mem _ List.mem_cons_self))))))))))))))))) (by rw [z, z1])
    have n18 : ∀ _ : k = 8, ¬ i = 0 := fun z1 z => hh _ (List.mem_cons_of_mem _ (List.mem_cons_of_mem _ (List.mem_cons_of_mem _ (List.mem_cons_of_mem _ (List.mem_cons_of_mem _ (List.mem_cons_of_mem _ (List.mem_cons_of_mem _ (List.mem_cons_of_mem _ (List.mem_cons_of_mem _ (List.mem_cons_of_mem _ (List.mem_cons_of_mem _ (List.mem_cons_of_mem _ (List.mem_cons_of_mem _ (List.mem_cons_of_mem _ (List.mem_cons_of_mem _ (List.mem_cons_of_mem _ (List.mem_cons_of_mem _ (List.mem_cons_of_mem _ List.mem_cons_self)))))))))))))))))) (by rw [z, z1])
    unfold en_x
    split <;> first
      | rfl
      | (simp (disch := decide) only [e]; done)
      | (rw [if_neg (n18 rfl), if_neg (n18 rfl)]; done)
      | (rw [if_neg (n13 rfl), if_neg (n13 rfl)]; done)
      | (rw [if_neg (n17 rfl), if_neg (n17 rfl)]; done)
      | skip
    · have hj := n0 rfl
      rw [hx3, h4, if_neg hj]
      by_cases c : (i : Int) < y 3 0
      · rw [if_pos c, if_pos (by omega), e 6 i (by decide) (by decide) (by decide)]
      · rw [if_neg c, if_neg (by omega)]
    all_goals rw [hx3]
    · by_cases c : ((i / 2 : Nat) : Int) < y 3 0
      · rw [if_pos c, if_pos (by omega)]
        simp (disch := decide) only [e]
      · rw [if_neg c, if_neg (by have q1 := n1 rfl; have q2 := n7 rfl; omega)]
    · by_cases c : ((i / 2 : Nat) : Int) < y 3 0
      · rw [if_pos c, if_pos (by omega)]
        simp (disch := decide) only [e]
      · rw [if_neg c, if_neg (by have q1 := n2 rfl; have q2 := n8 rfl; omega)]
    · by_cases c : ((i / 2 : Nat) : Int) < y 3 0
      · rw [if_pos c, if_pos (by omega)]
        simp (disch := decide) only [e]
      · rw [if_neg c, if_neg (by have q1 := n3 rfl; have q2 := n9 rfl; omega)]
    · by_cases c : ((i / 2 : Nat) : Int) < y 3 0
      · rw [if_pos c, if_pos (by omega)]
        simp (disch := decide) only [e]
      · rw [if_neg c, if_neg (by have q1 := n4 rfl; have q2 := n10 rfl; omega)]
    · by_cases c : ((i / 2 : Nat) : Int) < y 3 0
      · rw [if_pos c, if_pos (by omega)]
        simp (disch := decide) only [e]
      · rw [if_neg c, if_neg (by have q1 := n5 rfl; have q2 := n11 rfl; omega)]
    · by_cases c : ((i / 2 : Nat) : Int) < y 3 0
      · rw [if_pos c, if_pos (by omega)]
        simp (disch := decide) only [e]
      · rw [if_neg c, if_neg (by have q1 := n6 rfl; have q2 := n12 rfl; omega)]
    · by_cases c : (i : Int) + 1 < y 3 0
      · rw [if_pos c, if_pos (by omega), h5, if_neg (by omega)]
        simp (disch := decide) only [e]
      · rw [if_neg c, if_neg (by have q := n14 rfl; omega)]
    · by_cases c : (i : Int) + 1 < y 3 0
      · rw [if_pos c, if_pos (by omega)]
        simp (disch := decide) only [e]
      · rw [if_neg c, if_neg (by have q := n15 rfl; omega)]
    · by_cases c : (i : Int) + 1 < y 3 0
      · rw [if_pos c, if_pos (by omega)]
        simp (disch := decide) only [e]
      · rw [if_neg c, if_neg (by have q := n16 rfl; omega)]
set_option maxRecDepth 100000 in
set_option maxHeartbeats 4000000 in
theorem c_X8_tower {G : am_G} {m x : sg_S} {T : Int} (hW : md_wb T x) {a b : Int} (hr_a : -2147483648 ≤ a ∧ a < 2147483648) (hr_b : -2147483648 ≤ b ∧ b < 2147483648)  (hU : sg_U x) : am_Con G yX8_tower wX8_tower 7 20 2300 [am_R (8, 0), am_I a, am_I b] (en_h m x) (am_tx [1, 2] (sp_tower x a b 0 0) (an_tower x a b) (en_h m (sp_tower x a b))) := by
  refine am_of2 (Y := mX8_tower) (by decide +kernel) rfl (fun z => by cases z) rfl rfl (Nat.le_of_ble_eq_true rfl) fun X => ?_
  have b3 := wb3 hW 0
  obtain ⟨y, hy⟩ : ∃ z, z = st x 0 0 0 := ⟨_, rfl⟩
  refine am_heq (h' := en_h m y) (by rw [hy]; exact (cx_no (Or.inl rfl)).symm) ?_
  have hWy : md_wb T y := by rw [hy]; exact wb_st hW (by show (0 : Int) ≤ _; decide) (by show _ ≤ (3 : Int); decide)
  refine am_iload_n eX8_tower_0 rfl ?_
  refine am_iconst eX8_tower_1 ?_
  refine am_bipush eX8_tower_2 (by decide) ?_
  refine am_cS eX8_tower_4 kX8_55 (c_X8_isOutside (v := a) (lo := 0) (hi := 99) ⟨by omega, by omega⟩ ⟨by omega, by omega⟩ ⟨by omega, by omega⟩) rfl rfl (by decide) (by decide) (Nat.le_of_ble_eq_true rfl) (by omega) (by omega) ?_
  refine am_bz_ne eX8_tower_7 (fun c1 => ?_) (fun c1 => ?_)
  · exact am_throw x_thr1 rfl x_tx61 (by decide) rfl (by simp) eX8_tower_20 eX8_tower_23 eX8_tower_24 eX8_tower_26 eX8_tower_29 (by omega) (by omega) (tx_thr (i := 0) rfl rfl hy (by unfold sp_tower; (try simp only [if_true, if_false, Int.toNat_zero, Int.toNat_one, show ¬ (1 : Int) = 0 by decide]); (repeat' split) <;> first | rfl | (exfalso; omega)))
  · refine am_iload_n eX8_tower_10 rfl ?_
    refine am_iconst eX8_tower_11 ?_
    refine am_bipush eX8_tower_12 (by decide) ?_
    refine am_cS eX8_tower_14 kX8_55 (c_X8_isOutside (v := b) (lo := 1) (hi := 20) ⟨by omega, by omega⟩ ⟨by omega, by omega⟩ ⟨by omega, by omega⟩) rfl rfl (by decide) (by decide) (Nat.le_of_ble_eq_true rfl) (by omega) (by omega) ?_
    refine am_bz_eq eX8_tower_17 (fun c2 => ?_) (fun c2 => ?_)
    · refine am_aload_n eX8_tower_30 rfl ?_
      refine am_getf eX8_tower_31 fX8_66 (en_c8 (m := m) (x := y)) rfl ?_
      refine am_topI (w := x 3 0) ((congrFun (congrFun hy 3) 0).trans ((st_nf (by decide)).trans rfl)) ?_
      have b3 := wb3 hW 0
      refine am_bipush eX8_tower_34 (by decide) ?_
      refine am_icmp_ge ⟨by omega, by omega⟩ ⟨by omega, by omega⟩ eX8_tower_36 (fun c4 => ?_) (fun c4 => ?_)
      · exact am_throw x_thr2 rfl x_tx75 (by decide) rfl (by simp) eX8_tower_46 eX8_tower_49 eX8_tower_50 eX8_tower_52 eX8_tower_55 (by omega) (by omega) (tx_thr (i := 1) rfl rfl hy (by unfold sp_tower; (try simp only [if_true, if_false, Int.toNat_zero, Int.toNat_one, show ¬ (1 : Int) = 0 by decide]); (repeat' split) <;> first | rfl | (exfalso; omega)))
      · refine am_aload_n eX8_tower_39 rfl ?_
        refine am_getf eX8_tower_40 fX8_69 (en_c8 (m := m) (x := y)) rfl ?_
        refine am_topI (w := x 2 0) ((congrFun (congrFun hy 2) 0).trans ((st_nf (by decide)).trans rfl)) ?_
        have b5 := wb2 hW 0
        refine am_if_eq ⟨by omega, by omega⟩ eX8_tower_43 (fun c6 => ?_) (fun c6 => ?_)
        · obtain ⟨n, hn⟩ : ∃ n : Nat, x 3 0 = (n : Int) := ⟨(x 3 0).toNat, by omega⟩
          have e3 : y 3 0 = (n : Int) := by rw [hy, st_nf (by decide), hn]
          have hUy : sg_U y := by rw [hy]; exact sg_U_of (fun f j h => st_nf (by omega)) hU
          by_cases hs : n = 0
          · refine am_aload_n eX8_tower_56 rfl ?_
            refine am_getf (v := am_R (200, 0)) eX8_tower_57 fX8_11 (en_c8 (m := m) (x := y)) rfl ?_
            refine am_aload_n eX8_tower_60 rfl ?_
            refine am_getf (v := am_I (y 3 0)) eX8_tower_61 fX8_66 (en_c8 (m := m) (x := y)) rfl ?_
            refine am_new (7, n) eX8_tower_64 lX8_9 (en_n7 e3) (am_nk (by decide)) (by omega) (by omega) ?_
            refine am_heq (h' := (am_up (en_h m y) (7, n) (am_O 7 [am_I 0, am_I 0, am_N, am_N]))) rfl ?_
            refine am_dup (by simp) eX8_tower_67 ?_
            refine am_iload_n eX8_tower_68 rfl ?_
            refine am_cI eX8_tower_69 kX8_78 (c_X7_init (i := n) (t := a) am_up_eq ((am_up_ne (am_nk (by decide))).trans (en_n0 (by rw [e3]; omega))) ((am_up_ne (am_nk (by decide))).trans (en_n210 (by rw [e3]; omega))) ((am_up_ne (am_nk (by decide))).trans (en_n3 (by rw [e3]; omega))) ((am_up_ne (am_nk (by decide))).trans (en_n211 (by rw [e3]; omega))) ((am_up_ne (am_nk (by decide))).trans (en_n212 (by rw [e3]; omega))) ((am_up_ne (am_nk (by decide))).trans (en_n213 (by rw [e3]; omega))) ((am_up_ne (am_nk (by decide))).trans (en_n0 (by rw [e3]; omega))) ((am_up_ne (am_nk (by decide))).trans (en_n210 (by rw [e3]; omega))) ((am_up_ne (am_nk (by decide))).trans (en_n3 (by rw [e3]; omega))) ((am_up_ne (am_nk (by decide))).trans (en_n211 (by rw [e3]; omega))) ((am_up_ne (am_nk (by decide))).trans (en_n212 (by rw [e3]; omega))) ((am_up_ne (am_nk (by decide))).trans (en_n213 (by rw [e3]; omega)))) rfl rfl (by decide) (by decide) (by simp) (by omega) (by omega) ?_
            refine am_heq (h' := (am_up (am_up (am_up (am_up (am_up (am_up (am_up (am_up (am_up (am_up (am_up (am_up (am_up (en_h m y) (7, n) (am_O 7 [am_I a, am_I 0, am_R (0, 2 * n + 1), am_R (0, 2 * n)])) (0, 2 * n + 1) (am_O 0 [am_R (210, 2 * n + 1), am_I 0, am_I 0, am_I (-1), am_R (3, 2 * n + 1)])) (210, 2 * n + 1) (am_A 0 200 (fun _ => am_I 0))) (3, 2 * n + 1) (am_O 3 [am_R (211, 2 * n + 1), am_R (212, 2 * n + 1), am_R (213, 2 * n + 1), am_I 0])) (211, 2 * n + 1) (am_A 0 300 (fun _ => am_I 0))) (212, 2 * n + 1) (am_A 0 300 (fun _ => am_I 0))) (213, 2 * n + 1) (am_A 1 300 (fun _ => am_I 0))) (0, 2 * n) (am_O 0 [am_R (210, 2 * n), am_I 0, am_I 0, am_I (-1), am_R (3, 2 * n)])) (210, 2 * n) (am_A 0 200 (fun _ => am_I 0))) (3, 2 * n) (am_O 3 [am_R (211, 2 * n), am_R (212, 2 * n), am_R (213, 2 * n), am_I 0])) (211, 2 * n) (am_A 0 300 (fun _ => am_I 0))) (212, 2 * n) (am_A 0 300 (fun _ => am_I 0))) (213, 2 * n) (am_A 1 300 (fun _ => am_I 0)))) (congrArg (fun z => (am_up (am_up (am_up (am_up (am_up (am_up (am_up (am_up (am_up (am_up (am_up (am_up z (0, 2 * n + 1) (am_O 0 [am_R (210, 2 * n + 1), am_I 0, am_I 0, am_I (-1), am_R (3, 2 * n + 1)])) (210, 2 * n + 1) (am_A 0 200 (fun _ => am_I 0))) (3, 2 * n + 1) (am_O 3 [am_R (211, 2 * n + 1), am_R (212, 2 * n + 1), am_R (213, 2 * n + 1), am_I 0])) (211, 2 * n + 1) (am_A 0 300 (fun _ => am_I 0))) (212, 2 * n + 1) (am_A 0 300 (fun _ => am_I 0))) (213, 2 * n + 1) (am_A 1 300 (fun _ => am_I 0))) (0, 2 * n) (am_O 0 [am_R (210, 2 * n), am_I 0, am_I 0, am_I (-1), am_R (3, 2 * n)])) (210, 2 * n) (am_A 0 200 (fun _ => am_I 0))) (3, 2 * n) (am_O 3 [am_R (211, 2 * n), am_R (212, 2 * n), am_R (213, 2 * n), am_I 0])) (211, 2 * n) (am_A 0 300 (fun _ => am_I 0))) (212, 2 * n) (am_A 0 300 (fun _ => am_I 0))) (213, 2 * n) (am_A 1 300 (fun _ => am_I 0)))) am_up_up) ?_
            refine am_aast eX8_tower_72 ((am_up_ne (am_nk (by decide))).trans ((am_up_ne (am_nk (by decide))).trans ((am_up_ne (am_nk (by decide))).trans ((am_up_ne (am_nk (by decide))).trans ((am_up_ne (am_nk (by decide))).trans ((am_up_ne (am_nk (by decide))).trans ((am_up_ne (am_nk (by decide))).trans ((am_up_ne (am_nk (by decide))).trans ((am_up_ne (am_nk (by decide))).trans ((am_up_ne (am_nk (by decide))).trans ((am_up_ne (am_nk (by decide))).trans ((am_up_ne (am_nk (by decide))).trans ((am_up_ne (am_nk (by decide))).trans (en_c200 (m := m) (x := y))))))))))))))) (by decide) (by decide) (by omega) (by omega) (by decide) ((am_up_ne (am_nk (by decide))).trans ((am_up_ne (am_nk (by decide))).trans ((am_up_ne (am_nk (by decide))).trans ((am_up_ne (am_nk (by decide))).trans ((am_up_ne (am_nk (by decide))).trans ((am_up_ne (am_nk (by decide))).trans ((am_up_ne (am_nk (by decide))).trans ((am_up_ne (am_nk (by decide))).trans ((am_up_ne (am_nk (by decide))).trans ((am_up_ne (am_nk (by decide))).trans ((am_up_ne (am_nk (by decide))).trans ((am_up_ne (am_nk (by decide))).trans am_up_eq)))))))))))) ?_
            refine am_aload_n eX8_tower_73 rfl ?_
            refine am_getf (v := am_I (y 3 0)) eX8_tower_74 fX8_66 ((am_up_ne (am_nk (by decide))).trans ((am_up_ne (am_nk (by decide))).trans ((am_up_ne (am_nk (by decide))).trans ((am_up_ne (am_nk (by decide))).trans ((am_up_ne (am_nk (by decide))).trans ((am_up_ne (am_nk (by decide))).trans ((am_up_ne (am_nk (by decide))).trans ((am_up_ne (am_nk (by decide))).trans ((am_up_ne (am_nk (by decide))).trans ((am_up_ne (am_nk (by decide))).trans ((am_up_ne (am_nk (by decide))).trans ((am_up_ne (am_nk (by decide))).trans ((am_up_ne (am_nk (by decide))).trans ((am_up_ne (am_nk (by decide))).trans (en_c8 (m := m) (x := y)))))))))))))))) rfl ?_
            refine am_if_le ⟨by omega, by omega⟩ eX8_tower_77 (fun c1 => ?_) (fun c1 => absurd c1 (by omega))
            refine am_aload_n eX8_tower_99 rfl ?_
            refine am_dup (by simp) eX8_tower_100 ?_
            refine am_getf (v := am_I (y 3 0)) eX8_tower_101 fX8_66 ((am_up_ne (am_nk (by decide))).trans ((am_up_ne (am_nk (by decide))).trans ((am_up_ne (am_nk (by decide))).trans ((am_up_ne (am_nk (by decide))).trans ((am_up_ne (am_nk (by decide))).trans ((am_up_ne (am_nk (by decide))).trans ((am_up_ne (am_nk (by decide))).trans ((am_up_ne (am_nk (by decide))).trans ((am_up_ne (am_nk (by decide))).trans ((am_up_ne (am_nk (by decide))).trans ((am_up_ne (am_nk (by decide))).trans ((am_up_ne (am_nk (by decide))).trans ((am_up_ne (am_nk (by decide))).trans ((am_up_ne (am_nk (by decide))).trans (en_c8 (m := m) (x := y)))))))))))))))) rfl ?_
            refine am_iconst eX8_tower_104 ?_
            refine am_iadd eX8_tower_105 ?_
            refine am_putf eX8_tower_106 fX8_66 rfl ((am_up_ne (am_nk (by decide))).trans ((am_up_ne (am_nk (by decide))).trans ((am_up_ne (am_nk (by decide))).trans ((am_up_ne (am_nk (by decide))).trans ((am_up_ne (am_nk (by decide))).trans ((am_up_ne (am_nk (by decide))).trans ((am_up_ne (am_nk (by decide))).trans ((am_up_ne (am_nk (by decide))).trans ((am_up_ne (am_nk (by decide))).trans ((am_up_ne (am_nk (by decide))).trans ((am_up_ne (am_nk (by decide))).trans ((am_up_ne (am_nk (by decide))).trans ((am_up_ne (am_nk (by decide))).trans ((am_up_ne (am_nk (by decide))).trans (en_c8 (m := m) (x := y)))))))))))))))) (Nat.le_of_ble_eq_true rfl) trivial ?_
            refine am_aload_n eX8_tower_109 rfl ?_
            refine am_getf (v := am_I ((y 3 0) + 1)) eX8_tower_110 fX8_66 am_up_eq rfl ?_
            refine am_iconst eX8_tower_113 ?_
            refine am_isub eX8_tower_114 ?_
            refine am_ireturn eX8_tower_115 rfl trivial (by omega) (by omega) ?_
            refine (show am_tx _ _ _ _ (.inl (some (am_I (((y 3 0) + 1) - 1)))) (am_up (am_up (am_up (am_up (am_up (am_up (am_up (am_up (am_up (am_up (am_up (am_up (am_up (am_up (am_up (en_h m y) (7, n) (am_O 7 [am_I a, am_I 0, am_R (0, 2 * n + 1), am_R (0, 2 * n)])) (0, 2 * n + 1) (am_O 0 [am_R (210, 2 * n + 1), am_I 0, am_I 0, am_I (-1), am_R (3, 2 * n + 1)])) (210, 2 * n + 1) (am_A 0 200 (fun _ => am_I 0))) (3, 2 * n + 1) (am_O 3 [am_R (211, 2 * n + 1), am_R (212, 2 * n + 1), am_R (213, 2 * n + 1), am_I 0])) (211, 2 * n + 1) (am_A 0 300 (fun _ => am_I 0))) (212, 2 * n + 1) (am_A 0 300 (fun _ => am_I 0))) (213, 2 * n + 1) (am_A 1 300 (fun _ => am_I 0))) (0, 2 * n) (am_O 0 [am_R (210, 2 * n), am_I 0, am_I 0, am_I (-1), am_R (3, 2 * n)])) (210, 2 * n) (am_A 0 200 (fun _ => am_I 0))) (3, 2 * n) (am_O 3 [am_R (211, 2 * n), am_R (212, 2 * n), am_R (213, 2 * n), am_I 0])) (211, 2 * n) (am_A 0 300 (fun _ => am_I 0))) (212, 2 * n) (am_A 0 300 (fun _ => am_I 0))) (213, 2 * n) (am_A 1 300 (fun _ => am_I 0))) (200, 0) (am_A 3 12 (am_uf (fun t => if (t : Int) < y 3 0 then am_R (7, t) else am_N) ((y 3 0)).toNat (am_R (7, n))))) (8, 0) (am_O 8 [am_R (200, 0), am_R (201, 0), am_I ((y 3 0) + 1), am_I (y 2 0), am_I (y 1 0), am_I (y 11 0), am_R (202, 0), am_R (203, 0), am_I (y 24 0), am_R (204, 0), am_R (6, 1), am_R (6, 0), am_R (205, 0), am_I (y 39 0)])) from ?_)
            rw [cx_tow0 (b := b) (X := st (st (st y 4 n a) 5 n b) 3 0 (y 3 0 + 1)) e3 hs hUy (fun f j h1 h2 h3 => by rw [st_nf h1, st_nf h3, st_nf h2]) st_eq (fun i => by simp [st]) (fun i => by simp [st])]
            exact tx_ret (by unfold sp_tower; rw [if_neg (by omega), if_neg (by omega), e3, hy, show (x 3 0).toNat = n by omega, hn]) (by unfold sp_tower; rw [if_neg (by omega), if_neg (by omega)]; simp [st]) (by unfold an_tower; rw [if_neg (by omega), if_neg (by omega)]; omega)
          · obtain ⟨s, hs⟩ : ∃ s, n = s + 1 := ⟨n - 1, by omega⟩
            refine am_aload_n eX8_tower_56 rfl ?_
            refine am_getf (v := am_R (200, 0)) eX8_tower_57 fX8_11 (en_c8 (m := m) (x := y)) rfl ?_
            refine am_aload_n eX8_tower_60 rfl ?_
            refine am_getf (v := am_I (y 3 0)) eX8_tower_61 fX8_66 (en_c8 (m := m) (x := y)) rfl ?_
            refine am_new (7, n) eX8_tower_64 lX8_9 (en_n7 e3) (am_nk (by decide)) (by omega) (by omega) ?_
            refine am_heq (h' := (am_up (en_h m y) (7, n) (am_O 7 [am_I 0, am_I 0, am_N, am_N]))) rfl ?_
            refine am_dup (by simp) eX8_tower_67 ?_
            refine am_iload_n eX8_tower_68 rfl ?_
            refine am_cI eX8_tower_69 kX8_78 (c_X7_init (i := n) (t := a) am_up_eq ((am_up_ne (am_nk (by decide))).trans (en_n0 (by rw [e3]; omega))) ((am_up_ne (am_nk (by decide))).trans (en_n210 (by rw [e3]; omega))) ((am_up_ne (am_nk (by decide))).trans (en_n3 (by rw [e3]; omega))) ((am_up_ne (am_nk (by decide))).trans (en_n211 (by rw [e3]; omega))) ((am_up_ne (am_nk (by decide))).trans (en_n212 (by rw [e3]; omega))) ((am_up_ne (am_nk (by decide))).trans (en_n213 (by rw [e3]; omega))) ((am_up_ne (am_nk (by decide))).trans (en_n0 (by rw [e3]; omega))) ((am_up_ne (am_nk (by decide))).trans (en_n210 (by rw [e3]; omega))) ((am_up_ne (am_nk (by decide))).trans (en_n3 (by rw [e3]; omega))) ((am_up_ne (am_nk (by decide))).trans (en_n211 (by rw [e3]; omega))) ((am_up_ne (am_nk (by decide))).trans (en_n212 (by rw [e3]; omega))) ((am_up_ne (am_nk (by decide))).trans (en_n213 (by rw [e3]; omega)))) rfl rfl (by decide) (by decide) (by simp) (by omega) (by omega) ?_
            refine am_heq (h' := (am_up (am_up (am_up (am_up (am_up (am_up (am_up (am_up (am_up (am_up (am_up (am_up (am_up (en_h m y) (7, n) (am_O 7 [am_I a, am_I 0, am_R (0, 2 * n + 1), am_R (0, 2 * n)])) (0, 2 * n + 1) (am_O 0 [am_R (210, 2 * n + 1), am_I 0, am_I 0, am_I (-1), am_R (3, 2 * n + 1)])) (210, 2 * n + 1) (am_A 0 200 (fun _ => am_I 0))) (3, 2 * n + 1) (am_O 3 [am_R (211, 2 * n + 1), am_R (212, 2 * n + 1), am_R (213, 2 * n + 1), am_I 0])) (211, 2 * n + 1) (am_A 0 300 (fun _ => am_I 0))) (212, 2 * n + 1) (am_A 0 300 (fun _ => am_I 0))) (213, 2 * n + 1) (am_A 1 300 (fun _ => am_I 0))) (0, 2 * n) (am_O 0 [am_R (210, 2 * n), am_I 0, am_I 0, am_I (-1), am_R (3, 2 * n)])) (210, 2 * n) (am_A 0 200 (fun _ => am_I 0))) (3, 2 * n) (am_O 3 [am_R (211, 2 * n), am_R (212, 2 * n), am_R (213, 2 * n), am_I 0])) (211, 2 * n) (am_A 0 300 (fun _ => am_I 0))) (212, 2 * n) (am_A 0 300 (fun _ => am_I 0))) (213, 2 * n) (am_A 1 300 (fun _ => am_I 0)))) (congrArg (fun z => (am_up (am_up (am_up (am_up (am_up (am_up (am_up (am_up (am_up (am_up (am_up (am_up z (0, 2 * n + 1) (am_O 0 [am_R (210, 2 * n + 1), am_I 0, am_I 0, am_I (-1), am_R (3, 2 * n + 1)])) (210, 2 * n + 1) (am_A 0 200 (fun _ => am_I 0))) (3, 2 * n + 1) (am_O 3 [am_R (211, 2 * n + 1), am_R (212, 2 * n + 1), am_R (213, 2 * n + 1), am_I 0])) (211, 2 * n + 1) (am_A 0 300 (fun _ => am_I 0))) (212, 2 * n + 1) (am_A 0 300 (fun _ => am_I 0))) (213, 2 * n + 1) (am_A 1 300 (fun _ => am_I 0))) (0, 2 * n) (am_O 0 [am_R (210, 2 * n), am_I 0, am_I 0, am_I (-1), am_R (3, 2 * n)])) (210, 2 * n) (am_A 0 200 (fun _ => am_I 0))) (3, 2 * n) (am_O 3 [am_R (211, 2 * n), am_R (212, 2 * n), am_R (213, 2 * n), am_I 0])) (211, 2 * n) (am_A 0 300 (fun _ => am_I 0))) (212, 2 * n) (am_A 0 300 (fun _ => am_I 0))) (213, 2 * n) (am_A 1 300 (fun _ => am_I 0)))) am_up_up) ?_
            refine am_aast eX8_tower_72 ((am_up_ne (am_nk (by decide))).trans ((am_up_ne (am_nk (by decide))).trans ((am_up_ne (am_nk (by decide))).trans ((am_up_ne (am_nk (by decide))).trans ((am_up_ne (am_nk (by decide))).trans ((am_up_ne (am_nk (by decide))).trans ((am_up_ne (am_nk (by decide))).trans ((am_up_ne (am_nk (by decide))).trans ((am_up_ne (am_nk (by decide))).trans ((am_up_ne (am_nk (by decide))).trans ((am_up_ne (am_nk (by decide))).trans ((am_up_ne (am_nk (by decide))).trans ((am_up_ne (am_nk (by decide))).trans (en_c200 (m := m) (x := y))))))))))))))) (by decide) (by decide) (by omega) (by omega) (by decide) ((am_up_ne (am_nk (by decide))).trans ((am_up_ne (am_nk (by decide))).trans ((am_up_ne (am_nk (by decide))).trans ((am_up_ne (am_nk (by decide))).trans ((am_up_ne (am_nk (by decide))).trans ((am_up_ne (am_nk (by decide))).trans ((am_up_ne (am_nk (by decide))).trans ((am_up_ne (am_nk (by decide))).trans ((am_up_ne (am_nk (by decide))).trans ((am_up_ne (am_nk (by decide))).trans ((am_up_ne (am_nk (by decide))).trans ((am_up_ne (am_nk (by decide))).trans am_up_eq)))))))))))) ?_
            refine am_aload_n eX8_tower_73 rfl ?_
            refine am_getf (v := am_I (y 3 0)) eX8_tower_74 fX8_66 ((am_up_ne (am_nk (by decide))).trans ((am_up_ne (am_nk (by decide))).trans ((am_up_ne (am_nk (by decide))).trans ((am_up_ne (am_nk (by decide))).trans ((am_up_ne (am_nk (by decide))).trans ((am_up_ne (am_nk (by decide))).trans ((am_up_ne (am_nk (by decide))).trans ((am_up_ne (am_nk (by decide))).trans ((am_up_ne (am_nk (by decide))).trans ((am_up_ne (am_nk (by decide))).trans ((am_up_ne (am_nk (by decide))).trans ((am_up_ne (am_nk (by decide))).trans ((am_up_ne (am_nk (by decide))).trans ((am_up_ne (am_nk (by decide))).trans (en_c8 (m := m) (x := y)))))))))))))))) rfl ?_
            refine am_if_le ⟨by omega, by omega⟩ eX8_tower_77 (fun c1 => absurd c1 (by omega)) (fun c1 => ?_)
            refine am_aload_n eX8_tower_80 rfl ?_
            refine am_getf (v := am_R (201, 0)) eX8_tower_81 fX8_17 ((am_up_ne (am_nk (by decide))).trans ((am_up_ne (am_nk (by decide))).trans ((am_up_ne (am_nk (by decide))).trans ((am_up_ne (am_nk (by decide))).trans ((am_up_ne (am_nk (by decide))).trans ((am_up_ne (am_nk (by decide))).trans ((am_up_ne (am_nk (by decide))).trans ((am_up_ne (am_nk (by decide))).trans ((am_up_ne (am_nk (by decide))).trans ((am_up_ne (am_nk (by decide))).trans ((am_up_ne (am_nk (by decide))).trans ((am_up_ne (am_nk (by decide))).trans ((am_up_ne (am_nk (by decide))).trans ((am_up_ne (am_nk (by decide))).trans (en_c8 (m := m) (x := y)))))))))))))))) rfl ?_
            refine am_aload_n eX8_tower_84 rfl ?_
            refine am_getf (v := am_I (y 3 0)) eX8_tower_85 fX8_66 ((am_up_ne (am_nk (by decide))).trans ((am_up_ne (am_nk (by decide))).trans ((am_up_ne (am_nk (by decide))).trans ((am_up_ne (am_nk (by decide))).trans ((am_up_ne (am_nk (by decide))).trans ((am_up_ne (am_nk (by decide))).trans ((am_up_ne (am_nk (by decide))).trans ((am_up_ne (am_nk (by decide))).trans ((am_up_ne (am_nk (by decide))).trans ((am_up_ne (am_nk (by decide))).trans ((am_up_ne (am_nk (by decide))).trans ((am_up_ne (am_nk (by decide))).trans ((am_up_ne (am_nk (by decide))).trans ((am_up_ne (am_nk (by decide))).trans (en_c8 (m := m) (x := y)))))))))))))))) rfl ?_
            refine am_iconst eX8_tower_88 ?_
            refine am_isub eX8_tower_89 ?_
            refine am_new (5, s) eX8_tower_90 lX8_15 ((am_up_ne (am_nk (by decide))).trans ((am_up_ne (am_nk (by decide))).trans ((am_up_ne (am_nk (by decide))).trans ((am_up_ne (am_nk (by decide))).trans ((am_up_ne (am_nk (by decide))).trans ((am_up_ne (am_nk (by decide))).trans ((am_up_ne (am_nk (by decide))).trans ((am_up_ne (am_nk (by decide))).trans ((am_up_ne (am_nk (by decide))).trans ((am_up_ne (am_nk (by decide))).trans ((am_up_ne (am_nk (by decide))).trans ((am_up_ne (am_nk (by decide))).trans ((am_up_ne (am_nk (by decide))).trans ((am_up_ne (am_nk (by decide))).trans (en_n5 (by rw [e3]; omega)))))))))))))))) (am_nk (by decide)) (by omega) (by omega) ?_
            refine am_heq (h' := (am_up (am_up (am_up (am_up (am_up (am_up (am_up (am_up (am_up (am_up (am_up (am_up (am_up (am_up (am_up (en_h m y) (7, n) (am_O 7 [am_I a, am_I 0, am_R (0, 2 * n + 1), am_R (0, 2 * n)])) (0, 2 * n + 1) (am_O 0 [am_R (210, 2 * n + 1), am_I 0, am_I 0, am_I (-1), am_R (3, 2 * n + 1)])) (210, 2 * n + 1) (am_A 0 200 (fun _ => am_I 0))) (3, 2 * n + 1) (am_O 3 [am_R (211, 2 * n + 1), am_R (212, 2 * n + 1), am_R (213, 2 * n + 1), am_I 0])) (211, 2 * n + 1) (am_A 0 300 (fun _ => am_I 0))) (212, 2 * n + 1) (am_A 0 300 (fun _ => am_I 0))) (213, 2 * n + 1) (am_A 1 300 (fun _ => am_I 0))) (0, 2 * n) (am_O 0 [am_R (210, 2 * n), am_I 0, am_I 0, am_I (-1), am_R (3, 2 * n)])) (210, 2 * n) (am_A 0 200 (fun _ => am_I 0))) (3, 2 * n) (am_O 3 [am_R (211, 2 * n), am_R (212, 2 * n), am_R (213, 2 * n), am_I 0])) (211, 2 * n) (am_A 0 300 (fun _ => am_I 0))) (212, 2 * n) (am_A 0 300 (fun _ => am_I 0))) (213, 2 * n) (am_A 1 300 (fun _ => am_I 0))) (200, 0) (am_A 3 12 (am_uf (fun t => if (t : Int) < y 3 0 then am_R (7, t) else am_N) ((y 3 0)).toNat (am_R (7, n))))) (5, s) (am_O 5 [am_I 0, am_N, am_N, am_I 0, am_I 0]))) rfl ?_
            refine am_dup (by simp) eX8_tower_93 ?_
            refine am_iload_n eX8_tower_94 rfl ?_
            refine am_cI eX8_tower_95 kX8_81 (c_X5_init (i := s) (t := b) am_up_eq ((am_up_ne (am_nk (by decide))).trans ((am_up_ne (am_nk (by decide))).trans ((am_up_ne (am_nk (by decide))).trans ((am_up_ne (am_nk (by decide))).trans ((am_up_ne (am_nk (by decide))).trans ((am_up_ne (am_nk (by decide))).trans ((am_up_ne (am_nk (by decide))).trans ((am_up_ne (am_nk (by decide))).trans ((am_up_ne (am_nk (by decide))).trans ((am_up_ne (am_nk (by decide))).trans ((am_up_ne (am_nk (by decide))).trans ((am_up_ne (am_nk (by decide))).trans ((am_up_ne (am_nk (by decide))).trans ((am_up_ne (am_nk (by decide))).trans ((am_up_ne (am_nk (by decide))).trans (en_n214 (by rw [e3]; omega))))))))))))))))) ((am_up_ne (am_nk (by decide))).trans ((am_up_ne (am_nk (by decide))).trans ((am_up_ne (am_nk (by decide))).trans ((am_up_ne (am_nk (by decide))).trans ((am_up_ne (am_nk (by decide))).trans ((am_up_ne (am_nk (by decide))).trans ((am_up_ne (am_nk (by decide))).trans ((am_up_ne (am_nk (by decide))).trans ((am_up_ne (am_nk (by decide))).trans ((am_up_ne (am_nk (by decide))).trans ((am_up_ne (am_nk (by decide))).trans ((am_up_ne (am_nk (by decide))).trans ((am_up_ne (am_nk (by decide))).trans ((am_up_ne (am_nk (by decide))).trans ((am_up_ne (am_nk (by decide))).trans (en_n215 (by rw [e3]; omega)))))))))))))))))) rfl rfl (by decide) (by decide) (by simp) (by omega) (by omega) ?_
            refine am_heq (h' := (am_up (am_up (am_up (am_up (am_up (am_up (am_up (am_up (am_up (am_up (am_up (am_up (am_up (am_up (am_up (am_up (am_up (en_h m y) (7, n) (am_O 7 [am_I a, am_I 0, am_R (0, 2 * n + 1), am_R (0, 2 * n)])) (0, 2 * n + 1) (am_O 0 [am_R (210, 2 * n + 1), am_I 0, am_I 0, am_I (-1), am_R (3, 2 * n + 1)])) (210, 2 * n + 1) (am_A 0 200 (fun _ => am_I 0))) (3, 2 * n + 1) (am_O 3 [am_R (211, 2 * n + 1), am_R (212, 2 * n + 1), am_R (213, 2 * n + 1), am_I 0])) (211, 2 * n + 1) (am_A 0 300 (fun _ => am_I 0))) (212, 2 * n + 1) (am_A 0 300 (fun _ => am_I 0))) (213, 2 * n + 1) (am_A 1 300 (fun _ => am_I 0))) (0, 2 * n) (am_O 0 [am_R (210, 2 * n), am_I 0, am_I 0, am_I (-1), am_R (3, 2 * n)])) (210, 2 * n) (am_A 0 200 (fun _ => am_I 0))) (3, 2 * n) (am_O 3 [am_R (211, 2 * n), am_R (212, 2 * n), am_R (213, 2 * n), am_I 0])) (211, 2 * n) (am_A 0 300 (fun _ => am_I 0))) (212, 2 * n) (am_A 0 300 (fun _ => am_I 0))) (213, 2 * n) (am_A 1 300 (fun _ => am_I 0))) (200, 0) (am_A 3 12 (am_uf (fun t => if (t : Int) < y 3 0 then am_R (7, t) else am_N) ((y 3 0)).toNat (am_R (7, n))))) (5, s) (am_O 5 [am_I b, am_R (214, s), am_R (215, s), am_I 0, am_I 0])) (214, s) (am_A 0 3 (fun _ => am_I 0))) (215, s) (am_A 0 3 (fun _ => am_I 0)))) (congrArg (fun z => (am_up (am_up z (214, s) (am_A 0 3 (fun _ => am_I 0))) (215, s) (am_A 0 3 (fun _ => am_I 0)))) am_up_up) ?_
            refine am_aast eX8_tower_98 ((am_up_ne (am_nk (by decide))).trans ((am_up_ne (am_nk (by decide))).trans ((am_up_ne (am_nk (by decide))).trans ((am_up_ne (am_nk (by decide))).trans ((am_up_ne (am_nk (by decide))).trans ((am_up_ne (am_nk (by decide))).trans ((am_up_ne (am_nk (by decide))).trans ((am_up_ne (am_nk (by decide))).trans ((am_up_ne (am_nk (by decide))).trans ((am_up_ne (am_nk (by decide))).trans ((am_up_ne (am_nk (by decide))).trans ((am_up_ne (am_nk (by decide))).trans ((am_up_ne (am_nk (by decide))).trans ((am_up_ne (am_nk (by decide))).trans ((am_up_ne (am_nk (by decide))).trans ((am_up_ne (am_nk (by decide))).trans ((am_up_ne (am_nk (by decide))).trans (en_c201 (m := m) (x := y))))))))))))))))))) (by decide) (by decide) (by omega) (by omega) (by decide) ((am_up_ne (am_nk (by decide))).trans ((am_up_ne (am_nk (by decide))).trans am_up_eq)) ?_
            refine am_aload_n eX8_tower_99 rfl ?_
            refine am_dup (by simp) eX8_tower_100 ?_
            refine am_getf (v := am_I (y 3 0)) eX8_tower_101 fX8_66 ((am_up_ne (am_nk (by decide))).trans ((am_up_ne (am_nk (by decide))).trans ((am_up_ne (am_nk (by decide))).trans ((am_up_ne (am_nk (by decide))).trans ((am_up_ne (am_nk (by decide))).trans ((am_up_ne (am_nk (by decide))).trans ((am_up_ne (am_nk (by decide))).trans ((am_up_ne (am_nk (by decide))).trans ((am_up_ne (am_nk (by decide))).trans ((am_up_ne (am_nk (by decide))).trans ((am_up_ne (am_nk (by decide))).trans ((am_up_ne (am_nk (by decide))).trans ((am_up_ne (am_nk (by decide))).trans ((am_up_ne (am_nk (by decide))).trans ((am_up_ne (am_nk (by decide))).trans ((am_up_ne (am_nk (by decide))).trans ((am_up_ne (am_nk (by decide))).trans ((am_up_ne (am_nk (by decide))).trans (en_c8 (m := m) (x := y)))))))))))))))))))) rfl ?_
            refine am_iconst eX8_tower_104 ?_
            refine am_iadd eX8_tower_105 ?_
            refine am_putf eX8_tower_106 fX8_66 rfl ((am_up_ne (am_nk (by decide))).trans ((am_up_ne (am_nk (by decide))).trans ((am_up_ne (am_nk (by decide))).trans ((am_up_ne (am_nk (by decide))).trans ((am_up_ne (am_nk (by decide))).trans ((am_up_ne (am_nk (by decide))).trans ((am_up_ne (am_nk (by decide))).trans ((am_up_ne (am_nk (by decide))).trans ((am_up_ne (am_nk (by decide))).trans ((am_up_ne (am_nk (by decide))).trans ((am_up_ne (am_nk (by decide))).trans ((am_up_ne (am_nk (by decide))).trans ((am_up_ne (am_nk (by decide))).trans ((am_up_ne (am_nk (by decide))).trans ((am_up_ne (am_nk (by decide))).trans ((am_up_ne (am_nk (by decide))).trans ((am_up_ne (am_nk (by decide))).trans ((am_up_ne (am_nk (by decide))).trans (en_c8 (m := m) (x := y)))))))))))))))))))) (Nat.le_of_ble_eq_true rfl) trivial ?_
            refine am_aload_n eX8_tower_109 rfl ?_
            refine am_getf (v := am_I ((y 3 0) + 1)) eX8_tower_110 fX8_66 am_up_eq rfl ?_
            refine am_iconst eX8_tower_113 ?_
            refine am_isub eX8_tower_114 ?_
            refine am_ireturn eX8_tower_115 rfl trivial (by omega) (by omega) ?_
            refine (show am_tx _ _ _ _ (.inl (some (am_I (((y 3 0) + 1) - 1)))) (am_up (am_up (am_up (am_up (am_up (am_up (am_up (am_up (am_up (am_up (am_up (am_up (am_up (am_up (am_up (am_up (am_up (am_up (am_up (en_h m y) (7, n) (am_O 7 [am_I a, am_I 0, am_R (0, 2 * n + 1), am_R (0, 2 * n)])) (0, 2 * n + 1) (am_O 0 [am_R (210, 2 * n + 1), am_I 0, am_I 0, am_I (-1), am_R (3, 2 * n + 1)])) (210, 2 * n + 1) (am_A 0 200 (fun _ => am_I 0))) (3, 2 * n + 1) (am_O 3 [am_R (211, 2 * n + 1), am_R (212, 2 * n + 1), am_R (213, 2 * n + 1), am_I 0])) (211, 2 * n + 1) (am_A 0 300 (fun _ => am_I 0))) (212, 2 * n + 1) (am_A 0 300 (fun _ => am_I 0))) (213, 2 * n + 1) (am_A 1 300 (fun _ => am_I 0))) (0, 2 * n) (am_O 0 [am_R (210, 2 * n), am_I 0, am_I 0, am_I (-1), am_R (3, 2 * n)])) (210, 2 * n) (am_A 0 200 (fun _ => am_I 0))) (3, 2 * n) (am_O 3 [am_R (211, 2 * n), am_R (212, 2 * n), am_R (213, 2 * n), am_I 0])) (211, 2 * n) (am_A 0 300 (fun _ => am_I 0))) (212, 2 * n) (am_A 0 300 (fun _ => am_I 0))) (213, 2 * n) (am_A 1 300 (fun _ => am_I 0))) (200, 0) (am_A 3 12 (am_uf (fun t => if (t : Int) < y 3 0 then am_R (7, t) else am_N) ((y 3 0)).toNat (am_R (7, n))))) (5, s) (am_O 5 [am_I b, am_R (214, s), am_R (215, s), am_I 0, am_I 0])) (214, s) (am_A 0 3 (fun _ => am_I 0))) (215, s) (am_A 0 3 (fun _ => am_I 0))) (201, 0) (am_A 4 12 (am_uf (fun s => if (s : Int) + 1 < y 3 0 then am_R (5, s) else am_N) (((y 3 0) - 1)).toNat (am_R (5, s))))) (8, 0) (am_O 8 [am_R (200, 0), am_R (201, 0), am_I ((y 3 0) + 1), am_I (y 2 0), am_I (y 1 0), am_I (y 11 0), am_R (202, 0), am_R (203, 0), am_I (y 24 0), am_R (204, 0), am_R (6, 1), am_R (6, 0), am_R (205, 0), am_I (y 39 0)])) from ?_)
            rw [cx_tow1 (b := b) (X := st (st (st y 4 n a) 5 n b) 3 0 (y 3 0 + 1)) e3 hs hUy (fun f j h1 h2 h3 => by rw [st_nf h1, st_nf h3, st_nf h2]) st_eq (fun i => by simp [st]) (fun i => by simp [st])]
            exact tx_ret (by unfold sp_tower; rw [if_neg (by omega), if_neg (by omega), e3, hy, show (x 3 0).toNat = n by omega, hn]) (by unfold sp_tower; rw [if_neg (by omega), if_neg (by omega)]; simp [st]) (by unfold an_tower; rw [if_neg (by omega), if_neg (by omega)]; omega)
        · exact am_throw x_thr2 rfl x_tx75 (by decide) rfl (by simp) eX8_tower_46 eX8_tower_49 eX8_tower_50 eX8_tower_52 eX8_tower_55 (by omega) (by omega) (tx_thr (i := 1) rfl rfl hy (by unfold sp_tower; (try simp only [if_true, if_false, Int.toNat_zero, Int.toNat_one, show ¬ (1 : Int) = 0 by decide]); (repeat' split) <;> first | rfl | (exfalso; omega)))
    · exact am_throw x_thr1 rfl x_tx61 (by decide) rfl (by simp) eX8_tower_20 eX8_tower_23 eX8_tower_24 eX8_tower_26 eX8_tower_29 (by omega) (by omega) (tx_thr (i := 0) rfl rfl hy (by unfold sp_tower; (try simp only [if_true, if_false, Int.toNat_zero, Int.toNat_one, show ¬ (1 : Int) = 0 by decide]); (repeat' split) <;> first | rfl | (exfalso; omega)))

