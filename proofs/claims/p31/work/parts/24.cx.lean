theorem en_c8 {m x : sg_S} : en_h m x (8, 0) = some (am_O 8 [am_R (200, 0), am_R (201, 0), am_I (x 3 0), am_I (x 2 0), am_I (x 1 0), am_I (x 11 0), am_R (202, 0), am_R (203, 0), am_I (x 24 0), am_R (204, 0), am_R (6, 1), am_R (6, 0), am_R (205, 0), am_I (x 39 0)]) := rfl
theorem en_c200 {m x : sg_S} : en_h m x (200, 0) = some (am_A 3 12 (fun t => if (t : Int) < x 3 0 then am_R (7, t) else am_N)) := rfl
theorem en_c201 {m x : sg_S} : en_h m x (201, 0) = some (am_A 4 12 (fun s => if (s : Int) + 1 < x 3 0 then am_R (5, s) else am_N)) := rfl
theorem en_c202 {m x : sg_S} : en_h m x (202, 0) = some (am_A 5 3 (fun b => am_R (1, b))) := rfl
theorem en_c203 {m x : sg_S} : en_h m x (203, 0) = some (am_A 0 12 (fun z => am_I (x 25 z))) := rfl
theorem en_c204 {m x : sg_S} : en_h m x (204, 0) = some (am_A 0 27 (fun z => am_I (x 50 z))) := rfl
theorem en_c205 {m x : sg_S} : en_h m x (205, 0) = some (am_A 6 6 (fun z => if (z : Int) < x 39 0 then am_R (4, z) else am_N)) := rfl
theorem en_c7 {m x : sg_S} {i : Nat} (h : (i : Int) < x 3 0) : en_h m x (7, i) = some (am_O 7 [am_I (x 4 i), am_I (x 6 i), am_R (0, 2 * i + 1), am_R (0, 2 * i)]) := by
  show (if (i : Int) < x 3 0 then some _ else none) = _
  rw [if_pos h]
theorem en_c0 {m x : sg_S} {i : Nat} (h : ((i / 2 : Nat) : Int) < x 3 0) : en_h m x (0, i) = some (am_O 0 [am_R (210, i), am_I (x 12 i), am_I (x 13 i), am_I (if x 16 i = 0 then x 15 i else -1), am_R (3, i)]) := by
  show (if ((i / 2 : Nat) : Int) < x 3 0 then some _ else none) = _
  rw [if_pos h]
theorem en_c210 {m x : sg_S} {i : Nat} (h : ((i / 2 : Nat) : Int) < x 3 0) : en_h m x (210, i) = some (am_A 0 200 (fun z => am_I (tr 200 (fun z => x 14 (220 * i + z)) z))) := by
  show (if ((i / 2 : Nat) : Int) < x 3 0 then some _ else none) = _
  rw [if_pos h]
theorem en_c3 {m x : sg_S} {i : Nat} (h : ((i / 2 : Nat) : Int) < x 3 0) : en_h m x (3, i) = some (am_O 3 [am_R (211, i), am_R (212, i), am_R (213, i), am_I (x 17 i)]) := by
  show (if ((i / 2 : Nat) : Int) < x 3 0 then some _ else none) = _
  rw [if_pos h]
theorem en_c211 {m x : sg_S} {i : Nat} (h : ((i / 2 : Nat) : Int) < x 3 0) : en_h m x (211, i) = some (am_A 0 300 (fun z => am_I (tr 300 (fun z => x 18 (300 * i + z)) z))) := by
  show (if ((i / 2 : Nat) : Int) < x 3 0 then some _ else none) = _
  rw [if_pos h]
theorem en_c212 {m x : sg_S} {i : Nat} (h : ((i / 2 : Nat) : Int) < x 3 0) : en_h m x (212, i) = some (am_A 0 300 (fun z => am_I (tr 300 (fun z => x 19 (300 * i + z)) z))) := by
  show (if ((i / 2 : Nat) : Int) < x 3 0 then some _ else none) = _
  rw [if_pos h]
theorem en_c213 {m x : sg_S} {i : Nat} (h : ((i / 2 : Nat) : Int) < x 3 0) : en_h m x (213, i) = some (am_A 1 300 (fun z => am_I (tr 300 (fun z => x 20 (300 * i + z)) z))) := by
  show (if ((i / 2 : Nat) : Int) < x 3 0 then some _ else none) = _
  rw [if_pos h]
theorem en_c5 {m x : sg_S} {i : Nat} (h : (i : Int) + 1 < x 3 0) : en_h m x (5, i) = some (am_O 5 [am_I (x 5 (i + 1)), am_R (214, i), am_R (215, i), am_I (x 8 i), am_I (x 7 i)]) := by
  show (if (i : Int) + 1 < x 3 0 then some _ else none) = _
  rw [if_pos h]
theorem en_c214 {m x : sg_S} {i : Nat} (h : (i : Int) + 1 < x 3 0) : en_h m x (214, i) = some (am_A 0 3 (fun z => am_I (tr 3 (fun z => x 9 (3 * i + z)) z))) := by
  show (if (i : Int) + 1 < x 3 0 then some _ else none) = _
  rw [if_pos h]
theorem en_c215 {m x : sg_S} {i : Nat} (h : (i : Int) + 1 < x 3 0) : en_h m x (215, i) = some (am_A 0 3 (fun z => am_I (tr 3 (fun z => x 10 (3 * i + z)) z))) := by
  show (if (i : Int) + 1 < x 3 0 then some _ else none) = _
  rw [if_pos h]
theorem en_c1 {m x : sg_S} {i : Nat} (h : i < 3) : en_h m x (1, i) = some (am_O 1 [am_R (216, i), am_R (217, i), am_I (x 21 i)]) := by
  show (if i < 3 then some _ else none) = _
  rw [if_pos h]
theorem en_c216 {m x : sg_S} {i : Nat} (h : i < 3) : en_h m x (216, i) = some (am_A 0 200 (fun z => am_I (tr 200 (fun z => x 22 (200 * i + z)) z))) := by
  show (if i < 3 then some _ else none) = _
  rw [if_pos h]
theorem en_c217 {m x : sg_S} {i : Nat} (h : i < 3) : en_h m x (217, i) = some (am_A 0 200 (fun z => am_I (tr 200 (fun z => x 23 (200 * i + z)) z))) := by
  show (if i < 3 then some _ else none) = _
  rw [if_pos h]
theorem en_c6 {m x : sg_S} {i : Nat} (h : i < 2) : en_h m x (6, i) = some (am_O 6 [am_R (218, i), am_I (x 33 i), (if x 28 i ≤ 0 then am_N else am_R (2, (x 56 (40 * i + ((x 28 i).toNat - 1))).toNat)), am_I (x 28 i), am_I (x 27 i)]) := by
  show (if i < 2 then some _ else none) = _
  rw [if_pos h]
theorem en_c218 {m x : sg_S} {i : Nat} (h : i < 2) : en_h m x (218, i) = some (am_A 7 40 (fun z => if (z : Int) < x 33 i then am_R (2, (x 57 (40 * i + z)).toNat) else am_N)) := by
  show (if i < 2 then some _ else none) = _
  rw [if_pos h]
theorem en_c2 {m x : sg_S} {i : Nat} (h : (i : Int) < x 51 0) : en_h m x (2, i) = some (am_O 2 [am_I (x 60 i), am_I (x 61 i), am_I (x 62 i), am_R (219, i), am_I (x 63 i), (if x 64 i < 0 then am_N else am_R (2, (x 64 i).toNat))]) := by
  show (if (i : Int) < x 51 0 then some _ else none) = _
  rw [if_pos h]
theorem en_c219 {m x : sg_S} {i : Nat} (h : (i : Int) < x 51 0) : en_h m x (219, i) = some (am_A 0 60 (fun z => am_I (tr 60 (fun z => x 65 (60 * i + z)) z))) := by
  show (if (i : Int) < x 51 0 then some _ else none) = _
  rw [if_pos h]
theorem en_c4 {m x : sg_S} {i : Nat} (h : (i : Int) < x 39 0) : en_h m x (4, i) = some (am_O 4 [am_I (x 40 i), am_R (220, i), am_I (x 41 i)]) := by
  show (if (i : Int) < x 39 0 then some _ else none) = _
  rw [if_pos h]
theorem en_c220 {m x : sg_S} {i : Nat} (h : (i : Int) < x 39 0) : en_h m x (220, i) = some (am_A 0 200 (fun z => am_I (tr 200 (fun z => x 42 (200 * i + z)) z))) := by
  show (if (i : Int) < x 39 0 then some _ else none) = _
  rw [if_pos h]
theorem cx_ne {k i j : Nat} (h : k ≠ k ∨ j ≠ i) : j ≠ i := h.elim (fun z => absurd rfl z) id
theorem tr_st {σ : sg_S} {n f L i i' z' v} (hz : z' < n) (hn : n ≤ L) (h : i ≠ i') : tr n (fun z => st σ f (L * i' + z') v f (L * i + z)) = tr n (fun z => σ f (L * i + z)) := by
  funext z
  simp only [tr, st]
  split
  · rw [if_neg]
    rintro ⟨-, e⟩
    rcases Nat.lt_or_gt_of_ne h with g | g
    · have := Nat.mul_le_mul_left L (show i + 1 ≤ i' by omega)
      rw [Nat.mul_add] at this
      omega
    · have := Nat.mul_le_mul_left L (show i' + 1 ≤ i by omega)
      rw [Nat.mul_add] at this
      omega
  · rfl
theorem tr_sv {σ : sg_S} {n f L i z' v} (hz : z' < n) : (fun z => am_I (tr n (fun z => st σ f (L * i + z') v f (L * i + z)) z)) = fun z => am_I (if z = z' then v else tr n (fun z => σ f (L * i + z)) z) := by
  funext z
  simp only [tr, st]
  by_cases e : z = z'
  · subst e
    simp [hz]
  · have : ¬ L * i + z = L * i + z' := by omega
    simp [e, this]
theorem cx_of2 {m x x' : sg_S} {a b : Nat} {c : am_AC} (ha : a ≠ 9 ∧ a ≠ 98 ∧ ¬ (100 ≤ a ∧ a < 143)) (h49 : x' 49 0 = x 49 0) (h1 : en_x x' a b = some c) (h2 : ∀ k i, (k ≠ a ∨ i ≠ b) → en_x x' k i = en_x x k i) : am_up (en_h m x) (a, b) c = en_h m x' := by
  funext n
  obtain ⟨k, i⟩ := n
  simp only [am_up]
  by_cases e : (k, i) = (a, b)
  · rw [if_pos e]
    cases e
    simp only [en_h]
    rw [if_neg ha.1, if_neg ha.2.1, if_neg ha.2.2, h1]
  · rw [if_neg e]
    have e' : k ≠ a ∨ i ≠ b := by
      rcases Nat.decEq k a with z | z
      · exact Or.inl z
      · exact Or.inr fun y => e (by rw [z, y])
    simp only [en_h]
    split
    · rfl
    · split
      · rw [h49]
      · split
        · rfl
        · exact (h2 k i e').symm
theorem cx_begun {m x : sg_S} {v : Int} : am_up (en_h m x) (8, 0) (am_O 8 ([am_R (200, 0), am_R (201, 0), am_I (x 3 0), am_I (x 2 0), am_I (x 1 0), am_I (x 11 0), am_R (202, 0), am_R (203, 0), am_I (x 24 0), am_R (204, 0), am_R (6, 1), am_R (6, 0), am_R (205, 0), am_I (x 39 0)].set 3 (am_I v))) = en_h m (st x 2 0 v) := by
  refine cx_of2 (by decide) (by simp [st]) (by simp [en_x, st]) (fun k i h => ?_)
  unfold en_x
  split <;> first | rfl | (simp [st]; done) | (have hj := cx_ne h; rw [if_neg hj, if_neg hj])
theorem cx_now {m x : sg_S} {v : Int} : am_up (en_h m x) (8, 0) (am_O 8 ([am_R (200, 0), am_R (201, 0), am_I (x 3 0), am_I (x 2 0), am_I (x 1 0), am_I (x 11 0), am_R (202, 0), am_R (203, 0), am_I (x 24 0), am_R (204, 0), am_R (6, 1), am_R (6, 0), am_R (205, 0), am_I (x 39 0)].set 4 (am_I v))) = en_h m (st x 1 0 v) := by
  refine cx_of2 (by decide) (by simp [st]) (by simp [en_x, st]) (fun k i h => ?_)
  unfold en_x
  split <;> first | rfl | (simp [st]; done) | (have hj := cx_ne h; rw [if_neg hj, if_neg hj])
theorem cx_seed {m x : sg_S} {v : Int} : am_up (en_h m x) (8, 0) (am_O 8 ([am_R (200, 0), am_R (201, 0), am_I (x 3 0), am_I (x 2 0), am_I (x 1 0), am_I (x 11 0), am_R (202, 0), am_R (203, 0), am_I (x 24 0), am_R (204, 0), am_R (6, 1), am_R (6, 0), am_R (205, 0), am_I (x 39 0)].set 5 (am_I v))) = en_h m (st x 11 0 v) := by
  refine cx_of2 (by decide) (by simp [st]) (by simp [en_x, st]) (fun k i h => ?_)
  unfold en_x
  split <;> first | rfl | (simp [st]; done) | (have hj := cx_ne h; rw [if_neg hj, if_neg hj])
theorem cx_typed {m x : sg_S} {v : Int} : am_up (en_h m x) (8, 0) (am_O 8 ([am_R (200, 0), am_R (201, 0), am_I (x 3 0), am_I (x 2 0), am_I (x 1 0), am_I (x 11 0), am_R (202, 0), am_R (203, 0), am_I (x 24 0), am_R (204, 0), am_R (6, 1), am_R (6, 0), am_R (205, 0), am_I (x 39 0)].set 8 (am_I v))) = en_h m (st x 24 0 v) := by
  refine cx_of2 (by decide) (by simp [st]) (by simp [en_x, st]) (fun k i h => ?_)
  unfold en_x
  split <;> first | rfl | (simp [st]; done) | (have hj := cx_ne h; rw [if_neg hj, if_neg hj])
theorem cx_tired {m x : sg_S} {v : Int} {i : Nat} (hi : (i : Int) < x 3 0) : am_up (en_h m x) (7, i) (am_O 7 ([am_I (x 4 i), am_I (x 6 i), am_R (0, 2 * i + 1), am_R (0, 2 * i)].set 1 (am_I v))) = en_h m (st x 6 i v) := by
  refine cx_of2 (by decide) (by simp [st]) (by first | (simp [en_x, st, hi]; done) | (simp [en_x, st]; omega)) (fun k j h => ?_)
  unfold en_x
  split <;> first | rfl | (simp [st]; done) | (have hj := cx_ne h; simp [st, hj])
theorem cx_count {m x : sg_S} {v : Int} {i : Nat} (hi : ((i / 2 : Nat) : Int) < x 3 0) : am_up (en_h m x) (0, i) (am_O 0 ([am_R (210, i), am_I (x 12 i), am_I (x 13 i), am_I (if x 16 i = 0 then x 15 i else -1), am_R (3, i)].set 1 (am_I v))) = en_h m (st x 12 i v) := by
  refine cx_of2 (by decide) (by simp [st]) (by first | (simp [en_x, st, hi]; done) | (simp [en_x, st]; omega)) (fun k j h => ?_)
  unfold en_x
  split <;> first | rfl | (simp [st]; done) | (have hj := cx_ne h; simp [st, hj])
theorem cx_urg {m x : sg_S} {v : Int} {i : Nat} (hi : ((i / 2 : Nat) : Int) < x 3 0) : am_up (en_h m x) (0, i) (am_O 0 ([am_R (210, i), am_I (x 12 i), am_I (x 13 i), am_I (if x 16 i = 0 then x 15 i else -1), am_R (3, i)].set 2 (am_I v))) = en_h m (st x 13 i v) := by
  refine cx_of2 (by decide) (by simp [st]) (by first | (simp [en_x, st, hi]; done) | (simp [en_x, st]; omega)) (fun k j h => ?_)
  unfold en_x
  split <;> first | rfl | (simp [st]; done) | (have hj := cx_ne h; simp [st, hj])
theorem cx_logn {m x : sg_S} {v : Int} {i : Nat} (hi : ((i / 2 : Nat) : Int) < x 3 0) : am_up (en_h m x) (3, i) (am_O 3 ([am_R (211, i), am_R (212, i), am_R (213, i), am_I (x 17 i)].set 3 (am_I v))) = en_h m (st x 17 i v) := by
  refine cx_of2 (by decide) (by simp [st]) (by first | (simp [en_x, st, hi]; done) | (simp [en_x, st]; omega)) (fun k j h => ?_)
  unfold en_x
  split <;> first | rfl | (simp [st]; done) | (have hj := cx_ne h; simp [st, hj])
theorem cx_hills {m x : sg_S} {v : Int} {i : Nat} (hi : (i : Int) + 1 < x 3 0) : am_up (en_h m x) (5, i) (am_O 5 ([am_I (x 5 (i + 1)), am_R (214, i), am_R (215, i), am_I (x 8 i), am_I (x 7 i)].set 3 (am_I v))) = en_h m (st x 8 i v) := by
  refine cx_of2 (by decide) (by simp [st]) (by first | (simp [en_x, st, hi]; done) | (simp [en_x, st]; omega)) (fun k j h => ?_)
  unfold en_x
  split <;> first | rfl | (simp [st]; done) | (have hj := cx_ne h; simp [st, hj])
theorem cx_weather {m x : sg_S} {v : Int} {i : Nat} (hi : (i : Int) + 1 < x 3 0) : am_up (en_h m x) (5, i) (am_O 5 ([am_I (x 5 (i + 1)), am_R (214, i), am_R (215, i), am_I (x 8 i), am_I (x 7 i)].set 4 (am_I v))) = en_h m (st x 7 i v) := by
  refine cx_of2 (by decide) (by simp [st]) (by first | (simp [en_x, st, hi]; done) | (simp [en_x, st]; omega)) (fun k j h => ?_)
  unfold en_x
  split <;> first | rfl | (simp [st]; done) | (have hj := cx_ne h; simp [st, hj])
theorem cx_bookn {m x : sg_S} {v : Int} {i : Nat} (hi : i < 3) : am_up (en_h m x) (1, i) (am_O 1 ([am_R (216, i), am_R (217, i), am_I (x 21 i)].set 2 (am_I v))) = en_h m (st x 21 i v) := by
  refine cx_of2 (by decide) (by simp [st]) (by first | (simp [en_x, st, hi]; done) | (simp [en_x, st]; omega)) (fun k j h => ?_)
  unfold en_x
  split <;> first | rfl | (simp [st]; done) | (have hj := cx_ne h; simp [st, hj])
theorem cx_seen {m x : sg_S} {v : Int} {i : Nat} (hi : (i : Int) < x 39 0) : am_up (en_h m x) (4, i) (am_O 4 ([am_I (x 40 i), am_R (220, i), am_I (x 41 i)].set 2 (am_I v))) = en_h m (st x 41 i v) := by
  refine cx_of2 (by decide) (by simp [st]) (by first | (simp [en_x, st, hi]; done) | (simp [en_x, st]; omega)) (fun k j h => ?_)
  unfold en_x
  split <;> first | rfl | (simp [st]; done) | (have hj := cx_ne h; simp [st, hj])
theorem cx_dcount {m x : sg_S} {v : Int} {i : Nat} (hi : (i : Int) < x 51 0) : am_up (en_h m x) (2, i) (am_O 2 ([am_I (x 60 i), am_I (x 61 i), am_I (x 62 i), am_R (219, i), am_I (x 63 i), (if x 64 i < 0 then am_N else am_R (2, (x 64 i).toNat))].set 4 (am_I v))) = en_h m (st x 63 i v) := by
  refine cx_of2 (by decide) (by simp [st]) (by first | (simp [en_x, st, hi]; done) | (simp [en_x, st]; omega)) (fun k j h => ?_)
  unfold en_x
  split <;> first | rfl | (simp [st]; done) | (have hj := cx_ne h; simp [st, hj])
theorem cx_dended {m x : sg_S} {v : Int} {i : Nat} (hi : (i : Int) < x 51 0) : am_up (en_h m x) (2, i) (am_O 2 ([am_I (x 60 i), am_I (x 61 i), am_I (x 62 i), am_R (219, i), am_I (x 63 i), (if x 64 i < 0 then am_N else am_R (2, (x 64 i).toNat))].set 1 (am_I v))) = en_h m (st x 61 i v) := by
  refine cx_of2 (by decide) (by simp [st]) (by first | (simp [en_x, st, hi]; done) | (simp [en_x, st]; omega)) (fun k j h => ?_)
  unfold en_x
  split <;> first | rfl | (simp [st]; done) | (have hj := cx_ne h; simp [st, hj])
theorem cx_urgAhead {m x : sg_S} {v : Int} {i : Nat} (hi : i < 2) : am_up (en_h m x) (6, i) (am_O 6 ([am_R (218, i), am_I (x 33 i), (if x 28 i ≤ 0 then am_N else am_R (2, (x 56 (40 * i + ((x 28 i).toNat - 1))).toNat)), am_I (x 28 i), am_I (x 27 i)].set 4 (am_I v))) = en_h m (st x 27 i v) := by
  refine cx_of2 (by decide) (by simp [st]) (by first | (simp [en_x, st, hi]; done) | (simp [en_x, st]; omega)) (fun k j h => ?_)
  unfold en_x
  split <;> first | rfl | (simp [st]; done) | (have hj := cx_ne h; simp [st, hj])
theorem cx_kept {m x : sg_S} {v : Int} {i z : Nat} (hi : ((i / 2 : Nat) : Int) < x 3 0) (hz : z < 200) : am_up (en_h m x) (210, i) (am_A 0 200 (fun y => am_I (if y = z then v else tr 200 (fun z => x 14 (220 * i + z)) y))) = en_h m (st x 14 (220 * i + z) v) := by
  refine cx_of2 (by decide) (by simp [st]) ?_ (fun k j h => ?_)
  · have hc : (st x 14 (220 * i + z) v) 3 0 = x 3 0 ∧ (st x 14 (220 * i + z) v) 39 0 = x 39 0 ∧ (st x 14 (220 * i + z) v) 51 0 = x 51 0 := ⟨by simp [st], by simp [st], by simp [st]⟩
    simp only [en_x, hc.1, hc.2.1, hc.2.2]
    rw [if_pos hi, tr_sv hz]
  · unfold en_x
    split <;> first | rfl | (simp [st]; done) | (have hj := cx_ne h; rw [tr_st hz (by decide) hj] <;> simp [st])
theorem cx_lmin {m x : sg_S} {v : Int} {i z : Nat} (hi : ((i / 2 : Nat) : Int) < x 3 0) (hz : z < 300) : am_up (en_h m x) (211, i) (am_A 0 300 (fun y => am_I (if y = z then v else tr 300 (fun z => x 18 (300 * i + z)) y))) = en_h m (st x 18 (300 * i + z) v) := by
  refine cx_of2 (by decide) (by simp [st]) ?_ (fun k j h => ?_)
  · have hc : (st x 18 (300 * i + z) v) 3 0 = x 3 0 ∧ (st x 18 (300 * i + z) v) 39 0 = x 39 0 ∧ (st x 18 (300 * i + z) v) 51 0 = x 51 0 := ⟨by simp [st], by simp [st], by simp [st]⟩
    simp only [en_x, hc.1, hc.2.1, hc.2.2]
    rw [if_pos hi, tr_sv hz]
  · unfold en_x
    split <;> first | rfl | (simp [st]; done) | (have hj := cx_ne h; rw [tr_st hz (by decide) hj] <;> simp [st])
theorem cx_lsig {m x : sg_S} {v : Int} {i z : Nat} (hi : ((i / 2 : Nat) : Int) < x 3 0) (hz : z < 300) : am_up (en_h m x) (212, i) (am_A 0 300 (fun y => am_I (if y = z then v else tr 300 (fun z => x 19 (300 * i + z)) y))) = en_h m (st x 19 (300 * i + z) v) := by
  refine cx_of2 (by decide) (by simp [st]) ?_ (fun k j h => ?_)
  · have hc : (st x 19 (300 * i + z) v) 3 0 = x 3 0 ∧ (st x 19 (300 * i + z) v) 39 0 = x 39 0 ∧ (st x 19 (300 * i + z) v) 51 0 = x 51 0 := ⟨by simp [st], by simp [st], by simp [st]⟩
    simp only [en_x, hc.1, hc.2.1, hc.2.2]
    rw [if_pos hi, tr_sv hz]
  · unfold en_x
    split <;> first | rfl | (simp [st]; done) | (have hj := cx_ne h; rw [tr_st hz (by decide) hj] <;> simp [st])
theorem cx_lown {m x : sg_S} {v : Int} {i z : Nat} (hi : ((i / 2 : Nat) : Int) < x 3 0) (hz : z < 300) : am_up (en_h m x) (213, i) (am_A 1 300 (fun y => am_I (if y = z then v else tr 300 (fun z => x 20 (300 * i + z)) y))) = en_h m (st x 20 (300 * i + z) v) := by
  refine cx_of2 (by decide) (by simp [st]) ?_ (fun k j h => ?_)
  · have hc : (st x 20 (300 * i + z) v) 3 0 = x 3 0 ∧ (st x 20 (300 * i + z) v) 39 0 = x 39 0 ∧ (st x 20 (300 * i + z) v) 51 0 = x 51 0 := ⟨by simp [st], by simp [st], by simp [st]⟩
    simp only [en_x, hc.1, hc.2.1, hc.2.2]
    rw [if_pos hi, tr_sv hz]
  · unfold en_x
    split <;> first | rfl | (simp [st]; done) | (have hj := cx_ne h; rw [tr_st hz (by decide) hj] <;> simp [st])
theorem cx_hh {m x : sg_S} {v : Int} {i z : Nat} (hi : (i : Int) + 1 < x 3 0) (hz : z < 3) : am_up (en_h m x) (214, i) (am_A 0 3 (fun y => am_I (if y = z then v else tr 3 (fun z => x 9 (3 * i + z)) y))) = en_h m (st x 9 (3 * i + z) v) := by
  refine cx_of2 (by decide) (by simp [st]) ?_ (fun k j h => ?_)
  · have hc : (st x 9 (3 * i + z) v) 3 0 = x 3 0 ∧ (st x 9 (3 * i + z) v) 39 0 = x 39 0 ∧ (st x 9 (3 * i + z) v) 51 0 = x 51 0 := ⟨by simp [st], by simp [st], by simp [st]⟩
    simp only [en_x, hc.1, hc.2.1, hc.2.2]
    rw [if_pos hi, tr_sv hz]
  · unfold en_x
    split <;> first | rfl | (simp [st]; done) | (have hj := cx_ne h; rw [tr_st hz (by decide) hj] <;> simp [st])
theorem cx_hp {m x : sg_S} {v : Int} {i z : Nat} (hi : (i : Int) + 1 < x 3 0) (hz : z < 3) : am_up (en_h m x) (215, i) (am_A 0 3 (fun y => am_I (if y = z then v else tr 3 (fun z => x 10 (3 * i + z)) y))) = en_h m (st x 10 (3 * i + z) v) := by
  refine cx_of2 (by decide) (by simp [st]) ?_ (fun k j h => ?_)
  · have hc : (st x 10 (3 * i + z) v) 3 0 = x 3 0 ∧ (st x 10 (3 * i + z) v) 39 0 = x 39 0 ∧ (st x 10 (3 * i + z) v) 51 0 = x 51 0 := ⟨by simp [st], by simp [st], by simp [st]⟩
    simp only [en_x, hc.1, hc.2.1, hc.2.2]
    rw [if_pos hi, tr_sv hz]
  · unfold en_x
    split <;> first | rfl | (simp [st]; done) | (have hj := cx_ne h; rw [tr_st hz (by decide) hj] <;> simp [st])
theorem cx_bs {m x : sg_S} {v : Int} {i z : Nat} (hi : i < 3) (hz : z < 200) : am_up (en_h m x) (216, i) (am_A 0 200 (fun y => am_I (if y = z then v else tr 200 (fun z => x 22 (200 * i + z)) y))) = en_h m (st x 22 (200 * i + z) v) := by
  refine cx_of2 (by decide) (by simp [st]) ?_ (fun k j h => ?_)
  · have hc : (st x 22 (200 * i + z) v) 3 0 = x 3 0 ∧ (st x 22 (200 * i + z) v) 39 0 = x 39 0 ∧ (st x 22 (200 * i + z) v) 51 0 = x 51 0 := ⟨by simp [st], by simp [st], by simp [st]⟩
    simp only [en_x, hc.1, hc.2.1, hc.2.2]
    rw [if_pos hi, tr_sv hz]
  · unfold en_x
    split <;> first | rfl | (simp [st]; done) | (have hj := cx_ne h; rw [tr_st hz (by decide) hj] <;> simp [st])
theorem cx_bp {m x : sg_S} {v : Int} {i z : Nat} (hi : i < 3) (hz : z < 200) : am_up (en_h m x) (217, i) (am_A 0 200 (fun y => am_I (if y = z then v else tr 200 (fun z => x 23 (200 * i + z)) y))) = en_h m (st x 23 (200 * i + z) v) := by
  refine cx_of2 (by decide) (by simp [st]) ?_ (fun k j h => ?_)
  · have hc : (st x 23 (200 * i + z) v) 3 0 = x 3 0 ∧ (st x 23 (200 * i + z) v) 39 0 = x 39 0 ∧ (st x 23 (200 * i + z) v) 51 0 = x 51 0 := ⟨by simp [st], by simp [st], by simp [st]⟩
    simp only [en_x, hc.1, hc.2.1, hc.2.2]
    rw [if_pos hi, tr_sv hz]
  · unfold en_x
    split <;> first | rfl | (simp [st]; done) | (have hj := cx_ne h; rw [tr_st hz (by decide) hj] <;> simp [st])
theorem cx_ds {m x : sg_S} {v : Int} {i z : Nat} (hi : (i : Int) < x 51 0) (hz : z < 60) : am_up (en_h m x) (219, i) (am_A 0 60 (fun y => am_I (if y = z then v else tr 60 (fun z => x 65 (60 * i + z)) y))) = en_h m (st x 65 (60 * i + z) v) := by
  refine cx_of2 (by decide) (by simp [st]) ?_ (fun k j h => ?_)
  · have hc : (st x 65 (60 * i + z) v) 3 0 = x 3 0 ∧ (st x 65 (60 * i + z) v) 39 0 = x 39 0 ∧ (st x 65 (60 * i + z) v) 51 0 = x 51 0 := ⟨by simp [st], by simp [st], by simp [st]⟩
    simp only [en_x, hc.1, hc.2.1, hc.2.2]
    rw [if_pos hi, tr_sv hz]
  · unfold en_x
    split <;> first | rfl | (simp [st]; done) | (have hj := cx_ne h; rw [tr_st hz (by decide) hj] <;> simp [st])
theorem cx_ss {m x : sg_S} {v : Int} {i z : Nat} (hi : (i : Int) < x 39 0) (hz : z < 200) : am_up (en_h m x) (220, i) (am_A 0 200 (fun y => am_I (if y = z then v else tr 200 (fun z => x 42 (200 * i + z)) y))) = en_h m (st x 42 (200 * i + z) v) := by
  refine cx_of2 (by decide) (by simp [st]) ?_ (fun k j h => ?_)
  · have hc : (st x 42 (200 * i + z) v) 3 0 = x 3 0 ∧ (st x 42 (200 * i + z) v) 39 0 = x 39 0 ∧ (st x 42 (200 * i + z) v) 51 0 = x 51 0 := ⟨by simp [st], by simp [st], by simp [st]⟩
    simp only [en_x, hc.1, hc.2.1, hc.2.2]
    rw [if_pos hi, tr_sv hz]
  · unfold en_x
    split <;> first | rfl | (simp [st]; done) | (have hj := cx_ne h; rw [tr_st hz (by decide) hj] <;> simp [st])
theorem cx_text {m x : sg_S} {v : Int} {z : Nat} : am_up (en_h m x) (203, 0) (am_A 0 12 (fun y => am_I (if y = z then v else x 25 y))) = en_h m (st x 25 z v) := by
  refine cx_of2 (by decide) (by simp [st]) (by simp [en_x, st]) (fun k j h => ?_)
  unfold en_x
  split <;> first | rfl | (simp [st]; done) | (have hj := cx_ne h; rw [if_neg hj, if_neg hj])
theorem cx_row {m x : sg_S} {v : Int} {z : Nat} : am_up (en_h m x) (204, 0) (am_A 0 27 (fun y => am_I (if y = z then v else x 50 y))) = en_h m (st x 50 z v) := by
  refine cx_of2 (by decide) (by simp [st]) (by simp [en_x, st]) (fun k j h => ?_)
  unfold en_x
  split <;> first | rfl | (simp [st]; done) | (have hj := cx_ne h; rw [if_neg hj, if_neg hj])
theorem cx_show {m x : sg_S} {v : Int} {i : Nat} (hi : ((i / 2 : Nat) : Int) < x 3 0) : am_up (en_h m x) (0, i) (am_O 0 ([am_R (210, i), am_I (x 12 i), am_I (x 13 i), am_I (if x 16 i = 0 then x 15 i else -1), am_R (3, i)].set 3 (am_I v))) = en_h m (st (st x 16 i 0) 15 i v) := by
  refine cx_of2 (by decide) (by simp [st]) (by first | (simp [en_x, st, hi]; done) | (simp [en_x, st]; omega)) (fun k j h => ?_)
  unfold en_x
  split <;> first | rfl | (simp [st]; done) | (have hj := cx_ne h; simp [st, hj])
theorem cx_take {m x : sg_S} {i : Nat} (hi : ((i / 2 : Nat) : Int) < x 3 0) : am_up (en_h m x) (0, i) (am_O 0 ([am_R (210, i), am_I (x 12 i), am_I (x 13 i), am_I (if x 16 i = 0 then x 15 i else -1), am_R (3, i)].set 3 (am_I (-1)))) = en_h m (st x 16 i 1) := by
  refine cx_of2 (by decide) (by simp [st]) (by first | (simp [en_x, st, hi]; done) | (simp [en_x, st]; omega)) (fun k j h => ?_)
  unfold en_x
  split <;> first | rfl | (simp [st]; done) | (have hj := cx_ne h; simp [st, hj])
/-- what the class doesn't look at -/
theorem cx_no {m x : sg_S} {f j : Nat} {v : Int} (hf : f = 0 ∨ f = 26) : en_h m (st x f j v) = en_h m x := by
  funext n
  simp only [en_h]
  split
  · rfl
  · split
    · simp [st]
    · split
      · rfl
      · unfold en_x
        rcases hf with rfl | rfl <;> (split <;> first | rfl | (simp [st]; done))

