/-! the law's loop: helpers -/
abbrev lwL (iv : Int) (l5 l6 : Option am_AV) : List (Option am_AV) := [some (am_R am_scr), some (am_R (8, 0)), some (am_R (9, 0)), some (am_R (98, 0)), some (am_I iv), l5, l6]
/-- the law's method, whatever its handlers -/
abbrev mLh (HH : List (Nat × Nat × Nat × Nat)) : am_Y := (cL_law, 7, RL, some .boolean, false, HH)
def lz (v : Int) : Int := if v = 0 then 0 else 1
theorem lz_01 {v : Int} : lz v = 0 ∨ lz v = 1 := by unfold lz; split <;> simp
theorem xs_r (x : Int32) : -2147483648 ≤ x.toInt ∧ x.toInt < 2147483648 := by
  have h1 := Int32.le_toInt x
  have h2 := Int32.toInt_lt x
  omega
section LwRules
variable {HH : List (Nat × Nat × Nat × Nat)} {G : am_G} {X : am_X} {Q : State → Prop} {mc ms pc p1 p2 p3 p4 p5 q1 q2 q3 t1 t2 : Nat} {iv a v c : Int} {l5 l6 : Option am_AV} {ls : List (Option am_AV)} {st : List am_AV} {h : am_AH} {k n : Nat}
/-- an int of the script -/
theorem lw_arg (d0 : am_d cL_law pc (.aload_n 0) 1 p1) (d1 : am_d cL_law p1 (.iload 4) 2 p2) (d2 : am_d cL_law p2 (.iconst c) 1 p3) (d3 : am_d cL_law p3 .iadd 1 p4) (d4 : am_d cL_law p4 .iaload 1 p5) (h0 : 0 ≤ iv + c) (h1 : iv + c < (G.2.2.2.2.2.2.1 : Int)) (hz : G.2.2.2.2.2.2.1 ≤ 2560) (ha : a = (G.2.2.2.2.2.2.2 (iv + c).toNat).toInt) (kk : am_W G X (mLh HH) 11 mc ms Q p5 (lwL iv l5 l6) (am_I a :: st) h k n) : am_W G X (mLh HH) 11 mc ms Q pc (lwL iv l5 l6) st h k n := by
  refine am_aload_n d0 rfl ?_
  refine am_iload d1 rfl ?_
  refine am_iconst d2 ?_
  refine am_iadd d3 ?_
  refine am_sld d4 h0 h1 (by omega) ?_
  rw [← ha]
  exact kk
/-- an int as a truth value -/
theorem lw_bool {o1 o2 : Int} (d1 : am_b cL_law pc (.ifCond .eq o1) o1 q1 t1) (d2 : am_d cL_law q1 (.iconst 1) 1 q2) (d3 : am_b cL_law q2 (.goto o2) o2 q3 t2) (d4 : am_d cL_law t1 (.iconst 0) 1 t2) (hr : am_r v) (kk : am_W G X (mLh HH) 11 mc ms Q t2 ls (am_I (lz v) :: st) h k n) : am_W G X (mLh HH) 11 mc ms Q pc ls (am_I v :: st) h k n := by
  refine am_if_eq hr d1 (fun c => ?_) (fun c => ?_)
  · refine am_iconst d4 ?_
    have e : lz v = 0 := if_pos c
    rw [e] at kk
    exact kk
  · refine am_iconst d2 ?_
    refine am_goto d3 ?_
    have e : lz v = 1 := if_neg c
    rw [e] at kk
    exact kk
end LwRules
theorem lx_lo {c : sg_S} {a : Int} {f j : Nat} (hf : f ≠ 49) : lx_w c a f j = c f j := by
  unfold lx_w
  split
  · exact st_nf hf
  · rfl
theorem lx_at {c : sg_S} {a : Int} (h : c 0 0 = 0) : lx_w c a 49 0 = a := by
  unfold lx_w
  rw [if_pos h, st_eq]
theorem bs_pass_51 {σ : sg_S} {a : Int} : σ 51 0 ≤ bs_pass σ a 51 0 := by
  unfold bs_pass
  split
  · rw [st_nf (by decide)]; exact Int.le_refl _
  · have h := bs_mins_51 (σ := st σ 0 0 0) (a := 0) a.toNat
    rw [Nat.zero_add] at h
    refine Int.le_trans ?_ h
    simp [bs_mins, st]
theorem sr_up {k : Nat} {σ : sg_S} (h : sg_R k σ) : sg_R (k + 1) σ := by
  obtain ⟨h1, h2, h3, h4⟩ := h
  exact ⟨h1, by omega, h3, sg_J_up h4 (by omega)⟩
section LwTop
variable {G : am_G} {X : am_X} {Y : am_Y} {d mc ms : Nat} {Q : State → Prop} {pc k n : Nat} {ls : List (Option am_AV)} {st : List am_AV} {h : am_AH}
theorem am_topI_ {v w : Int} {b : am_AV} (e : v = w) (kk : am_W G X Y d mc ms Q pc ls (b :: am_I w :: st) h k n) : am_W G X Y d mc ms Q pc ls (b :: am_I v :: st) h k n := e ▸ kk
end LwTop
