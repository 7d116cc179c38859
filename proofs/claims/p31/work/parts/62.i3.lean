theorem sg_U_spy {T : Int} {x : sg_S} (hW : md_wb T x) (hU : sg_U x) {t : Int} : sg_U (sp_spy x t) := by
  have b39 := wb39 hW 0
  unfold sp_spy
  split
  · exact sg_U_of (fun f j h => st_nf (by omega)) hU
  · split
    · exact sg_U_of (fun f j h => st_nf (by omega)) hU
    · obtain ⟨X, hX⟩ : ∃ X, X = (st (st (st x 0 0 0) 40 ((x 39 0).toNat) t) 39 0 (x 39 0 + 1)) := ⟨_, rfl⟩
      rw [← hX]
      have e9 : X 39 0 = x 39 0 + 1 := by rw [hX]; exact st_eq
      have e : ∀ f, f ≠ 0 → f ≠ 39 → f ≠ 40 → X f = x f := fun f k0 k3 k4 => funext fun j => by rw [hX, st_nf k3, st_nf k4, st_nf k0]
      obtain ⟨u1, u2, u3, u4⟩ := hU
      unfold sg_U sg_u sg_s
      rw [e 3 (by decide) (by decide) (by decide), e 6 (by decide) (by decide) (by decide), e 7 (by decide) (by decide) (by decide), e 8 (by decide) (by decide) (by decide), e 9 (by decide) (by decide) (by decide), e 10 (by decide) (by decide) (by decide), e 12 (by decide) (by decide) (by decide), e 13 (by decide) (by decide) (by decide), e 14 (by decide) (by decide) (by decide), e 15 (by decide) (by decide) (by decide), e 16 (by decide) (by decide) (by decide), e 17 (by decide) (by decide) (by decide), e 18 (by decide) (by decide) (by decide), e 19 (by decide) (by decide) (by decide), e 20 (by decide) (by decide) (by decide), e 41 (by decide) (by decide) (by decide), e 42 (by decide) (by decide) (by decide), e9]
      exact ⟨u1, u2, u3, fun n h => u4 n (by omega)⟩
/-- urgent signs are among the kept ones -/
def sg_V (σ : sg_S) : Prop := ∀ w, σ 13 w ≤ σ 12 w
theorem sg_V_of {σ τ : sg_S} (h : ∀ f j, f = 12 ∨ f = 13 → τ f j = σ f j) (hV : sg_V σ) : sg_V τ := by
  intro w
  rw [h 12 w (Or.inl rfl), h 13 w (Or.inr rfl)]
  exact hV w
theorem sg_V_kp {σ : sg_S} (hV : sg_V σ) {w p : Nat} {s : Int} : sg_V (sp_kp σ w p s) := by
  intro v
  have e13 : sp_kp σ w p s 13 v = σ 13 v := sp_kp_f (by decide) (by decide)
  have e12 : sp_kp σ w p s 12 v = if v = w then σ 12 w + 1 else σ 12 v := by simp [sp_kp]
  have := hV v
  rw [e13, e12]
  split
  · rename_i h; subst h; omega
  · exact this
theorem sg_V_looks {σ : sg_S} (hV : sg_V σ) {t u : Int} : sg_V (sp_looks σ t u) := by
  refine sp_looks_by sg_V hV (fun _ _ => ?_) (fun _ _ => ?_)
  · exact sg_V_of (fun f j h => by rw [sp_tapes_f (by omega), sp_writes_f (by omega), st_nf (by omega)]) hV
  · exact sg_V_kp (sg_V_of (fun f j h => by rw [sp_writes_f (by omega), st_nf (by omega)]) hV)
theorem sg_V_turn1 {σ : sg_S} (hV : sg_V σ) {w : Nat} (h : ¬ σ 12 w ≤ 0) : sg_V (sp_turn1 σ w) := by
  intro v
  have e13 : sp_turn1 σ w 13 v = if v = w then σ 13 w - (if 0 < σ 13 w then 1 else 0) else σ 13 v := by simp [sp_turn1, sp_turn0, sp_shl, st]
  have e12 : sp_turn1 σ w 12 v = if v = w then σ 12 w - 1 else σ 12 v := by simp [sp_turn1, sp_turn0, sp_shl, st]
  have h1 := hV v
  have h2 := hV w
  rw [e13, e12]
  by_cases c : v = w
  · rw [if_pos c, if_pos c]
    split <;> omega
  · rw [if_neg c, if_neg c]; exact h1
theorem sg_V_turn {σ : sg_S} (hV : sg_V σ) {t u : Int} {w : Nat} : sg_V (sp_turn σ t u w) := by
  refine sp_turn_by sg_V hV (fun _ _ => ?_) (fun _ c _ => sg_V_turn1 hV c) (fun _ c _ => ?_)
  · exact sg_V_of (fun f j h => by rw [st_nf (by omega), st_nf (by omega)]) hV
  · exact sg_V_of (fun f j h => sp_spyl_f (by omega) (by omega) _) (sg_V_turn1 hV c)

