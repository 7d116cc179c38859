theorem sp_writes_f {σ : sg_S} {w sg ow : Int} {f j : Nat} (h : f < 17 ∨ 20 < f) : sp_writes σ w sg ow f j = σ f j := by
  unfold sp_writes
  split
  · rw [st_nf (by omega), st_nf (by omega), st_nf (by omega), st_nf (by omega)]
  · rfl
theorem sp_writes_wb {T : Int} {σ : sg_S} (hW : md_wb T σ) {w sg ow : Int} (h1 : 0 ≤ sg ∧ sg ≤ 96) (h2 : ow = 0 ∨ ow = 1) : md_wb T (sp_writes σ w sg ow) := by
  have b1 := (hW.1 1 0 (by decide)).2
  have b0 := wb1 hW 0
  have b17 := wb17 hW w.toNat
  unfold sp_writes
  split
  · exact wb_st (wb_st (wb_st (wb_st hW (by show (0 : Int) ≤ _; omega) b1) (by show (0 : Int) ≤ _; omega) (by show _ ≤ (96 : Int); omega)) (by show (0 : Int) ≤ _; omega) (by show _ ≤ (1 : Int); omega)) (by show (0 : Int) ≤ _; omega) (by show _ ≤ (300 : Int); omega)
  · exact hW
theorem sp_kp_f {σ : sg_S} {w p : Nat} {s : Int} {f j : Nat} (h1 : f ≠ 12) (h2 : f ≠ 14) : sp_kp σ w p s f j = σ f j := by
  simp [sp_kp, h1, h2]
theorem sp_kp_12 {σ : sg_S} {w p : Nat} {s : Int} : sp_kp σ w p s 12 w = σ 12 w + 1 := by simp [sp_kp]
theorem sp_kp_wb {T : Int} {σ : sg_S} (hW : md_wb T σ) {w p : Nat} {s : Int} (h1 : 0 ≤ s ∧ s ≤ 96) (h2 : σ 12 w < 200) : md_wb T (sp_kp σ w p s) := by
  have b12 := wb12 hW w
  refine ⟨fun f j hf => ?_, hW.2⟩
  simp only [sp_kp]
  split
  · rename_i h; obtain ⟨rfl, rfl⟩ := h
    exact ⟨by show (0 : Int) ≤ _; omega, by show _ ≤ (200 : Int); omega⟩
  · split
    · rename_i h; obtain ⟨rfl, -⟩ := h
      split
      · exact ⟨by show (0 : Int) ≤ _; omega, by show _ ≤ (96 : Int); omega⟩
      · exact wb14 hW _
    · exact hW.1 f j hf
/-- signs copied from an open dispatch to one that came -/
def sp_cs (σ : sg_S) (to its i : Nat) : sg_S := fun f j => if f = 38 ∧ 60 * to ≤ j ∧ j < 60 * to + i then σ 32 (60 * its + (j - 60 * to)) else σ f j
theorem sp_cs_f {σ : sg_S} {to its i f j : Nat} (h : f ≠ 38) : sp_cs σ to its i f j = σ f j := by simp [sp_cs, h]
theorem sp_cs_0 {σ : sg_S} {to its : Nat} : sp_cs σ to its 0 = σ := by
  funext f j
  simp only [sp_cs]
  rw [if_neg (by omega)]
theorem sp_cs_s {σ : sg_S} {to its i : Nat} : st (sp_cs σ to its i) 38 (60 * to + i) (σ 32 (60 * its + i)) = sp_cs σ to its (i + 1) := by
  funext f j
  simp only [st, sp_cs]
  by_cases h1 : f = 38
  · subst h1
    by_cases h2 : j = 60 * to + i
    · subst h2
      rw [if_pos ⟨rfl, rfl⟩, if_pos ⟨rfl, by omega, by omega⟩]
      congr 1
      omega
    · rw [if_neg (fun z => h2 z.2)]
      by_cases h3 : 60 * to ≤ j ∧ j < 60 * to + i
      · rw [if_pos ⟨rfl, h3⟩, if_pos ⟨rfl, by omega, by omega⟩]
      · rw [if_neg (fun z => h3 z.2), if_neg (fun z => h3 ⟨z.2.1, by omega⟩)]
  · rw [if_neg (fun z => h1 z.1), if_neg (fun z => h1 z.1), if_neg (fun z => h1 z.1)]
def sp_ends (σ : sg_S) (w : Nat) : sg_S :=
  if σ 33 w < 40 then st (sp_cs (st (st (st (st (st σ 28 w (σ 28 w - 1)) 34 (40 * w + (σ 33 w).toNat) (σ 29 (40 * w + (σ 28 w - 1).toNat))) 35 (40 * w + (σ 33 w).toNat) (σ 1 0)) 36 (40 * w + (σ 33 w).toNat) (σ 30 (40 * w + (σ 28 w - 1).toNat))) 37 (40 * w + (σ 33 w).toNat) (σ 31 (40 * w + (σ 28 w - 1).toNat))) (40 * w + (σ 33 w).toNat) (40 * w + (σ 28 w - 1).toNat) (σ 31 (40 * w + (σ 28 w - 1).toNat)).toNat) 33 w (σ 33 w + 1)
  else st σ 28 w (σ 28 w - 1)
theorem sp_ends_wb0 {T : Int} {σ : sg_S} (hW : md_wb T σ) {w a b : Nat} (h1 : 0 < σ 28 w) : md_wb T (st (st (st (st (st σ 28 w (σ 28 w - 1)) 34 a (σ 29 b)) 35 a (σ 1 0)) 36 a (σ 30 b)) 37 a (σ 31 b)) := by
  have b28 := wb28 hW w
  have b29 := hW.1 29 b (by decide)
  have b1 := (hW.1 1 0 (by decide)).2
  have b0 := wb1 hW 0
  exact wb_st (wb_st (wb_st (wb_st (wb_st hW (by show (0 : Int) ≤ _; omega) (by show _ ≤ (39 : Int); omega)) b29.1 b29.2) (by show (0 : Int) ≤ _; omega) b1) (wb30 hW b).1 (wb30 hW b).2) (wb31 hW b).1 (wb31 hW b).2
theorem sp_cs_wb {T : Int} {σ : sg_S} (hW : md_wb T σ) {to its i : Nat} : md_wb T (sp_cs σ to its i) := by
  refine ⟨fun f j hf => ?_, hW.2⟩
  simp only [sp_cs]
  split
  · rename_i h; obtain ⟨rfl, -⟩ := h
    exact wb32 hW _
  · exact hW.1 f j hf
theorem sp_ends_wb {T : Int} {σ : sg_S} (hW : md_wb T σ) {w : Nat} (h1 : 0 < σ 28 w) : md_wb T (sp_ends σ w) := by
  have b28 := wb28 hW w
  have b33 := wb33 hW w
  unfold sp_ends
  split
  · exact wb_st (sp_cs_wb (sp_ends_wb0 hW h1)) (by show (0 : Int) ≤ _; omega) (by show _ ≤ (40 : Int); omega)
  · exact wb_st hW (by show (0 : Int) ≤ _; omega) (by show _ ≤ (39 : Int); omega)
theorem sp_ends_f {σ : sg_S} {w f j : Nat} (h : f < 27 ∨ 38 < f) : sp_ends σ w f j = σ f j := by
  unfold sp_ends
  split
  · rw [st_nf (by omega), sp_cs_f (by omega), st_nf (by omega), st_nf (by omega), st_nf (by omega), st_nf (by omega), st_nf (by omega)]
  · rw [st_nf (by omega)]
theorem am_mono {G : am_G} {X : am_X} {Y : am_Y} {d mc ms : Nat} {Q Q' : am_Re → am_AH → Prop} {pc k n : Nat} {ls : List (Option am_AV)} {st : List am_AV} {h : am_AH} (kk : am_W G X Y d mc ms (am_end G X mc ms Q) pc ls st h k n) (hq : ∀ r h', Q r h' → Q' r h') : am_W G X Y d mc ms (am_end G X mc ms Q') pc ls st h k n := by
  obtain ⟨p, e, R, s, m, args, below, meth, c, ι0⟩ := X
  intro ok ι H lr sr lc hr hl ht T hT XX
  obtain ⟨t, a1, o, b1, b2, b3⟩ := kk ok ι H lr sr lc hr hl ht T hT XX
  refine ⟨t, a1, o, b1, b2, ?_⟩
  rcases b3 with ⟨⟨r, w, κ, h', z1, z2, z3, z4, z5, z6, z7⟩, z8⟩ | ⟨q, z1, E, ce, L, ⟨x, κ, h', y1, y2, y3, y4, y5, y6⟩, z2⟩
  · exact Or.inl ⟨⟨r, w, κ, h', z1, z2, z3, z4, z5, z6, hq _ _ z7⟩, z8⟩
  · exact Or.inr ⟨q, z1, E, ce, L, ⟨x, κ, h', y1, y2, y3, y4, y5, hq _ _ y6⟩, z2⟩
