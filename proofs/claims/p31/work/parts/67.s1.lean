/-! the stream of signs on a way: a machine that reads it; its state is 8 c + q, c the BEGINs read -/
def dq (q : Nat) (s : Int) : Nat :=
  if s = 92 then (if q = 0 then 1 else if q = 2 then 3 else if q = 4 then 5 else 6)
  else if s = 93 then (if q = 1 then 0 else if q = 3 then 0 else if q = 5 then 1 else 6)
  else if s = 96 then (if q = 0 then 2 else if q = 1 then 4 else 6)
  else if s < 0 ∨ s = 94 ∨ s = 95 then q
  else (if q = 1 ∨ q = 3 ∨ q = 5 then q else 6)
theorem dq_lt {q : Nat} {s : Int} (h : q < 8) : dq q s < 8 := by
  unfold dq
  (repeat' split) <;> omega
theorem dq_bad {s : Int} : dq 6 s = 6 := by
  unfold dq
  (repeat' split) <;> first | rfl | omega
def de (e : Nat) (s : Int) : Nat := 8 * (e / 8) + (if s = 92 then 8 else 0) + dq (e % 8) s
theorem de_mod {e : Nat} {s : Int} : de e s % 8 = dq (e % 8) s := by
  have h := dq_lt (q := e % 8) (s := s) (by omega)
  unfold de
  split <;> omega
theorem de_div {e : Nat} {s : Int} : de e s / 8 = e / 8 + (if s = 92 then 1 else 0) := by
  have h := dq_lt (q := e % 8) (s := s) (by omega)
  unfold de
  split <;> omega
theorem de_8 {e : Nat} {s : Int} : de (e + 8) s = de e s + 8 := by
  unfold de
  rw [show (e + 8) / 8 = e / 8 + 1 by omega, show (e + 8) % 8 = e % 8 by omega]
  omega
theorem de_cg {e : Nat} {s s' : Int} (h : (s = 92 ↔ s' = 92) ∧ (s = 93 ↔ s' = 93) ∧ (s = 96 ↔ s' = 96) ∧ ((s < 0 ∨ s = 94 ∨ s = 95) ↔ (s' < 0 ∨ s' = 94 ∨ s' = 95))) : de e s = de e s' := by
  obtain ⟨h1, h2, h3, h4⟩ := h
  unfold de dq
  by_cases c1 : s = 92
  · simp only [if_pos c1, if_pos (h1.mp c1)]
  · have n1 : ¬ s' = 92 := fun z => c1 (h1.mpr z)
    simp only [if_neg c1, if_neg n1]
    by_cases c2 : s = 93
    · simp only [if_pos c2, if_pos (h2.mp c2)]
    · have n2 : ¬ s' = 93 := fun z => c2 (h2.mpr z)
      simp only [if_neg c2, if_neg n2]
      by_cases c3 : s = 96
      · simp only [if_pos c3, if_pos (h3.mp c3)]
      · have n3 : ¬ s' = 96 := fun z => c3 (h3.mpr z)
        simp only [if_neg c3, if_neg n3]
        by_cases c4 : s < 0 ∨ s = 94 ∨ s = 95
        · simp only [if_pos c4, if_pos (h4.mp c4)]
        · have n4 : ¬ (s' < 0 ∨ s' = 94 ∨ s' = 95) := fun z => c4 (h4.mpr z)
          simp only [if_neg c4, if_neg n4]
theorem de_mark {e : Nat} {s : Int} (h : s < 0 ∨ s = 94 ∨ s = 95) : de e s = e := by
  unfold de dq
  simp only [if_neg (show ¬ s = 92 by omega), if_neg (show ¬ s = 93 by omega), if_neg (show ¬ s = 96 by omega), if_pos h]
  omega
/-- the state behind the first n signs of a row -/
def rk (F : Nat → Int) (e : Nat) : Nat → Nat
  | 0 => e
  | n + 1 => de (rk F e n) (F n)
theorem rk_cg {F K : Nat → Int} {e : Nat} : ∀ n, (∀ j, j < n → F j = K j) → rk F e n = rk K e n
  | 0, _ => rfl
  | n + 1, h => by
    simp only [rk]
    rw [rk_cg n fun j hj => h j (by omega), h n (by omega)]
theorem rk_sh {F : Nat → Int} {e : Nat} : ∀ n, rk F e (n + 1) = rk (fun j => F (j + 1)) (de e (F 0)) n
  | 0 => rfl
  | n + 1 => by
    show de (rk F e (n + 1)) (F (n + 1)) = _
    rw [rk_sh n]
    rfl
theorem rk_add {F : Nat → Int} {e n : Nat} : ∀ m, rk F e (n + m) = rk (fun j => F (n + j)) (rk F e n) m
  | 0 => rfl
  | m + 1 => by
    show de (rk F e (n + m)) (F (n + m)) = _
    rw [rk_add m]
    rfl
theorem rk_8 {F : Nat → Int} {e : Nat} : ∀ n, rk F (e + 8) n = rk F e n + 8
  | 0 => rfl
  | n + 1 => by
    simp only [rk]
    rw [rk_8 n, de_8]
theorem rk_bad {F : Nat → Int} {e : Nat} (h : e % 8 = 6) : ∀ n, rk F e n % 8 = 6
  | 0 => h
  | n + 1 => by
    simp only [rk]
    rw [de_mod, rk_bad h n]
    exact dq_bad
theorem rk_good {F : Nat → Int} {e n : Nat} (h : rk F e n % 8 ≠ 6) : e % 8 ≠ 6 := fun z => h (rk_bad z n)
theorem rk_div {F : Nat → Int} {e : Nat} : ∀ n, e / 8 ≤ rk F e n / 8
  | 0 => Nat.le_refl _
  | n + 1 => by
    simp only [rk]
    rw [de_div]
    exact Nat.le_trans (rk_div n) (Nat.le_add_right _ _)
theorem rk_let {F : Nat → Int} {e : Nat} (he : e % 8 = 1 ∨ e % 8 = 3 ∨ e % 8 = 5) : ∀ n, (∀ j, j < n → 0 ≤ F j ∧ F j < 92) → rk F e n = e
  | 0, _ => rfl
  | n + 1, h => by
    simp only [rk]
    rw [rk_let he n fun j hj => h j (by omega)]
    have g := h n (by omega)
    unfold de dq
    simp only [if_neg (show ¬ F n = 92 by omega), if_neg (show ¬ F n = 93 by omega), if_neg (show ¬ F n = 96 by omega), if_neg (show ¬ (F n < 0 ∨ F n = 94 ∨ F n = 95) by omega), if_pos he]
    omega
/-- how many dispatches may be open -/
def si_b (q : Nat) : Int := if q = 1 ∨ q = 3 ∨ q = 4 then 1 else if q = 5 then 2 else 0
theorem si_b_in {q : Nat} : 0 ≤ si_b q ∧ si_b q ≤ 2 := by
  unfold si_b
  (repeat' split) <;> omega
theorem dq_92 {q : Nat} (h : dq q 92 ≠ 6) : si_b (dq q 92) = si_b q + 1 := by
  by_cases c0 : q = 0
  · subst c0; decide
  · by_cases c2 : q = 2
    · subst c2; decide
    · by_cases c4 : q = 4
      · subst c4; decide
      · unfold dq at h
        rw [if_pos rfl, if_neg c0, if_neg c2, if_neg c4] at h
        exact absurd rfl h
theorem dq_93 {q : Nat} (h : dq q 93 ≠ 6) : si_b q = si_b (dq q 93) + 1 := by
  by_cases c0 : q = 1
  · subst c0; decide
  · by_cases c2 : q = 3
    · subst c2; decide
    · by_cases c4 : q = 5
      · subst c4; decide
      · unfold dq at h
        rw [if_neg (by decide), if_pos rfl, if_neg c0, if_neg c2, if_neg c4] at h
        exact absurd rfl h
theorem dq_o {q : Nat} {s : Int} (h2 : s ≠ 92) (h3 : s ≠ 93) (h : dq q s ≠ 6) : si_b (dq q s) = si_b q := by
  unfold dq at h ⊢
  rw [if_neg h2, if_neg h3] at h ⊢
  by_cases c6 : s = 96
  · rw [if_pos c6] at h ⊢
    by_cases c0 : q = 0
    · subst c0; decide
    · by_cases c1 : q = 1
      · subst c1; decide
      · rw [if_neg c0, if_neg c1] at h
        exact absurd rfl h
  · rw [if_neg c6] at h ⊢
    by_cases c7 : s < 0 ∨ s = 94 ∨ s = 95
    · rw [if_pos c7]
    · rw [if_neg c7] at h ⊢
      by_cases c8 : q = 1 ∨ q = 3 ∨ q = 5
      · rw [if_pos c8]
      · rw [if_neg c8] at h
        exact absurd rfl h
theorem sp_ends_28 {σ : sg_S} {w v : Nat} : sp_ends σ w 28 v = if v = w then σ 28 w - 1 else σ 28 v := by
  unfold sp_ends
  split
  · rw [st_nf (by decide), sp_cs_f (by decide), st_nf (by decide), st_nf (by decide), st_nf (by decide), st_nf (by decide)]
    simp [st]
  · simp [st]
theorem sp_opens_28 {σ : sg_S} {w v : Nat} {u : Int} : sp_opens σ w u 28 v = if v = w then sp_opens0 σ w u 28 w + 1 else σ 28 v := by
  unfold sp_opens sp_opens1
  simp only [st, true_and]
  split
  · rfl
  · rename_i h
    rw [if_neg (by omega), if_neg (by omega), if_neg (by omega)]
    unfold sp_opens0
    split
    · exact st_ni h
    · rfl
theorem sp_tapes_28o {σ : sg_S} {w v : Nat} {s : Int} (hv : v ≠ w) : sp_tapes σ w s 28 v = σ 28 v := by
  unfold sp_tapes
  split
  · rw [sp_opens_28, if_neg hv, st_nf (by decide)]
  · split
    · rw [st_ni hv, st_nf (by decide)]
    · split
      · rw [sp_ends_28, if_neg hv, st_nf (by decide)]
      · split
        · rw [st_nf (by decide), st_nf (by decide), st_nf (by decide)]
        · rw [st_nf (by decide)]
theorem sp_tapes_28 {σ : sg_S} {w q : Nat} {s : Int} (hx : σ 28 w ≤ si_b q) (hg : dq q s ≠ 6) : sp_tapes σ w s 28 w ≤ si_b (dq q s) := by
  have hb := si_b_in (q := q)
  have hb2 := si_b_in (q := dq q s)
  unfold sp_tapes
  by_cases c1 : s = 92
  · rw [if_pos c1, sp_opens_28, if_pos rfl]
    subst c1
    rw [dq_92 hg]
    have := sp_opens0_28 (σ := st σ 27 w (if (92 : Int) = 96 then 1 else 0)) (w := w) (u := σ 27 w)
    rw [st_nf (by decide)] at this
    omega
  · rw [if_neg c1]
    by_cases c2 : s = 94
    · rw [if_pos c2, st_eq]; exact hb2.1
    · rw [if_neg c2]
      by_cases c3 : 0 < σ 28 w ∧ s = 93
      · rw [if_pos c3, sp_ends_28, if_pos rfl, st_nf (by decide)]
        have := c3.2
        subst this
        have := dq_93 hg
        omega
      · rw [if_neg c3]
        have hz : σ 28 w ≤ si_b (dq q s) := by
          by_cases c4 : s = 93
          · omega
          · rw [dq_o c1 c4 hg]; exact hx
        split
        · rw [st_nf (by decide), st_nf (by decide), st_nf (by decide)]; exact hz
        · rw [st_nf (by decide)]; exact hz

