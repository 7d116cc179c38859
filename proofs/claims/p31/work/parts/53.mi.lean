/-! the model's constructor: its arrays made one behind another, fields before b done -/
section MiRules
variable {G : am_G} {X : am_X} {Y : am_Y} {d mc ms : Nat} {Q : State → Prop} {pc q q2 : Nat} {ls : List (Option am_AV)} {st9 : List am_AV} {h : am_AH} {s : sg_S} {k n : Nat}
/-- an array's cell counts up to its length alone -/
theorem am_aext {nm : am_Nm} {kd len : Nat} {f g : Nat → am_AV} (hh : h nm = some (am_A kd len f)) (hfg : ∀ j, j < len → f j = g j) (kk : am_W G X Y d mc ms Q pc ls st9 (am_up h nm (am_A kd len g)) k n) : am_W G X Y d mc ms Q pc ls st9 h k n := by
  obtain ⟨p, e, R, s0, m, args, below, meth, c, ι0⟩ := X
  intro ok ι H lr sr lc hr hl ht
  obtain ⟨a, ha, w, h1, h2⟩ := hr.1.1 nm _ hh
  refine kk ok ι H lr sr lc ⟨am_H_set hr.1 hh ha rfl (fun _ _ => rfl) ?_, hr.2⟩ hl ht
  exact ⟨w, h1, fun j hj => hfg j hj ▸ h2 j hj⟩
end MiRules
/-- the start's state -/
def s_0 : sg_S := fun f j => if f = 15 then -1 else if f = 1 ∧ j = 0 then 360 else 0
def s_a (n : Nat) : sg_S := fun f j => if f = 15 ∧ j < n then -1 else if f = 1 ∧ j = 0 then 360 else 0
theorem s_a_st {n : Nat} : st (s_a n) 15 n (-1) = s_a (n + 1) := by
  funext f j
  simp only [st, s_a]
  by_cases c : f = 15
  · subst c
    by_cases c1 : j = n
    · rw [if_pos ⟨rfl, c1⟩, if_pos ⟨rfl, by omega⟩]
    · rw [if_neg (fun z => c1 z.2)]
      by_cases c2 : j < n
      · rw [if_pos ⟨rfl, c2⟩, if_pos ⟨rfl, by omega⟩]
      · rw [if_neg (show ¬ ((15 : Nat) = 15 ∧ j < n) by omega), if_neg (show ¬ ((15 : Nat) = 15 ∧ j < n + 1) by omega)]
  · rw [if_neg (show ¬ (f = 15 ∧ j = n) from fun z => c z.1), if_neg (show ¬ (f = 15 ∧ j < n) from fun z => c z.1), if_neg (show ¬ (f = 15 ∧ j < n + 1) from fun z => c z.1)]
