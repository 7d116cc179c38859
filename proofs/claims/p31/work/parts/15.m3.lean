theorem am_ldrop {G : am_G} {X : am_X} {Y : am_Y} {d mc ms : Nat} {Q : State → Prop} {pc k n : Nat} {ls : List (Option am_AV)} {st : List am_AV} {h : am_AH} (i : Nat) (kk : am_W G X Y d mc ms Q pc (ls.set i none) st h k n) : am_W G X Y d mc ms Q pc ls st h k n := by
  refine am_lless (List.length_set) (fun j v hj => ?_) kk
  by_cases e : j = i
  · subst e
    by_cases hl : j < ls.length
    · rw [List.getElem?_set_self hl] at hj
      cases hj
    · rw [List.getElem?_eq_none (by rw [List.length_set]; omega)] at hj
      cases hj
  · rw [List.getElem?_set_ne (Ne.symm e)] at hj
    exact hj
theorem md_mulb {a b : Int} (h1 : -99 ≤ a ∧ a ≤ 99) (h2 : 0 ≤ b ∧ b ≤ 19) : -1881 ≤ a * b ∧ a * b ≤ 1881 := by
  have h3 : a * b ≤ 99 * b := Int.mul_le_mul_of_nonneg_right h1.2 h2.1
  have h4 : (-99) * b ≤ a * b := Int.mul_le_mul_of_nonneg_right h1.1 h2.1
  omega
theorem md_divb {a b : Int} (h1 : -1881 ≤ a ∧ a ≤ 1881) (h2 : 1 ≤ b) : -1881 ≤ a / b ∧ a / b ≤ 1881 := by
  have hb : 0 < b := by omega
  refine ⟨Int.le_ediv_of_mul_le hb ?_, Int.le_of_lt_add_one (Int.ediv_lt_of_lt_mul hb ?_)⟩
  · have : (-1881) * b ≤ (-1881) * 1 := Int.mul_le_mul_of_nonpos_left (by decide) h2
    omega
  · have : (1881 + 1) * 1 ≤ (1881 + 1) * b := Int.mul_le_mul_of_nonneg_left h2 (by decide)
    omega
/-- whether a stretch can be seen along: its first n hills looked at -/
def sp_sl (σ : sg_S) (s : Nat) : Nat → Int
  | 0 => bz (decide ((360 ≤ σ 1 0 % 1440 ∧ σ 1 0 % 1440 ≤ 1079) ∧ (σ 7 s = 0 ∨ σ 7 s = 1 ∧ σ 5 (s + 1) ≤ 10)))
  | n + 1 => bz (decide (sp_sl σ s n = 1 ∧ σ 9 (3 * s + n) ≤ σ 4 s + (σ 4 (s + 1) - σ 4 s) * σ 10 (3 * s + n) / σ 5 (s + 1)))
theorem sp_sl_01 {σ : sg_S} {s : Nat} : ∀ n, sp_sl σ s n = 0 ∨ sp_sl σ s n = 1
  | 0 => bz_01 _
  | _ + 1 => bz_01 _
def an_see (σ : sg_S) (s : Nat) : Int := sp_sl σ s (σ 8 s).toNat
def sp_sees (σ : sg_S) (s : Int) : sg_S := if ¬ (0 ≤ s ∧ s ≤ σ 3 0 - 2) then st σ 0 0 1 else st σ 0 0 0
theorem sp_sl_st {σ : sg_S} {f j : Nat} {v : Int} (h1 : f ≠ 1) (h4 : f ≠ 4) (h5 : f ≠ 5) (h7 : f ≠ 7) (h9 : f ≠ 9) (h10 : f ≠ 10) {s : Nat} : ∀ n, sp_sl (st σ f j v) s n = sp_sl σ s n
  | 0 => by simp [sp_sl, st, Ne.symm h1, Ne.symm h7, Ne.symm h5]
  | n + 1 => by simp [sp_sl, sp_sl_st h1 h4 h5 h7 h9 h10 n, st, Ne.symm h9, Ne.symm h4, Ne.symm h10, Ne.symm h5]
theorem an_see_st {σ : sg_S} {f j : Nat} {v : Int} (h1 : f ≠ 1) (h4 : f ≠ 4) (h5 : f ≠ 5) (h7 : f ≠ 7) (h8 : f ≠ 8) (h9 : f ≠ 9) (h10 : f ≠ 10) {s : Nat} : an_see (st σ f j v) s = an_see σ s := by
  unfold an_see
  rw [sp_sl_st h1 h4 h5 h7 h9 h10, st_nf (Ne.symm h8)]
def an_sees (σ : sg_S) (s : Int) : Int := if ¬ (0 ≤ s ∧ s ≤ σ 3 0 - 2) then 0 else an_see σ s.toNat
/-- the first n spies look at tower t, which newly shows sg -/
def sp_spyl (σ : sg_S) (t sg : Int) : Nat → sg_S
  | 0 => σ
  | n + 1 => if σ 40 n = t ∧ sg < 92 ∧ (360 ≤ σ 1 0 % 1440 ∧ σ 1 0 % 1440 ≤ 1079) ∧ σ 7 t.toNat ≠ 2 ∧ σ 41 n < 200 then st (st (sp_spyl σ t sg n) 42 (200 * n + (σ 41 n).toNat) sg) 41 n (σ 41 n + 1) else sp_spyl σ t sg n
theorem sp_spyl_f {σ : sg_S} {t sg : Int} {f j : Nat} (h1 : f ≠ 41) (h2 : f ≠ 42) : ∀ n, sp_spyl σ t sg n f j = σ f j
  | 0 => rfl
  | n + 1 => by
    simp only [sp_spyl]
    split
    · rw [st_nf h1, st_nf h2]; exact sp_spyl_f h1 h2 n
    · exact sp_spyl_f h1 h2 n
theorem sp_spyl_41 {σ : sg_S} {t sg : Int} {j : Nat} : ∀ n, n ≤ j → sp_spyl σ t sg n 41 j = σ 41 j
  | 0, _ => rfl
  | n + 1, h => by
    simp only [sp_spyl]
    split
    · rw [st_ni (by omega), st_nf (by decide)]; exact sp_spyl_41 n (by omega)
    · exact sp_spyl_41 n (by omega)
theorem sp_spyl_wb {T : Int} {σ : sg_S} (hW : md_wb T σ) {t sg : Int} (h0 : 0 ≤ sg) : ∀ n, md_wb T (sp_spyl σ t sg n)
  | 0 => hW
  | n + 1 => by
    have h := sp_spyl_wb hW (t := t) h0 n
    have b := wb41 hW n
    simp only [sp_spyl]
    split
    · exact wb_st (wb_st h (by show (0 : Int) ≤ _; omega) (by show _ ≤ (91 : Int); omega)) (by show (0 : Int) ≤ _; omega) (by show _ ≤ (200 : Int); omega)
    · exact h
