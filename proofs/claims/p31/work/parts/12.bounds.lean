/-! bounds of all that the state holds -/
def md_lo : Nat → Int
  | 15 => -1
  | _ => 0
def md_hi (T : Int) : Nat → Int
  | 0 => 3
  | 1 => T
  | 2 => 1
  | 3 => 12
  | 4 => 99
  | 5 => 20
  | 6 => 1009
  | 7 => 2
  | 8 => 3
  | 9 => 99
  | 10 => 19
  | 11 => 9999
  | 12 => 200
  | 13 => 200
  | 14 => 96
  | 15 => 96
  | 16 => 1
  | 17 => 300
  | 18 => T
  | 19 => 96
  | 20 => 1
  | 21 => 200
  | 22 => 8463
  | 23 => 9999
  | 24 => 12
  | 25 => 9999
  | 26 => 96
  | 27 => 1
  | 28 => 39
  | 29 => T
  | 30 => 1
  | 31 => 60
  | 32 => 91
  | 33 => 40
  | 34 => T
  | 35 => T
  | 36 => 1
  | 37 => 60
  | 38 => 91
  | 39 => 6
  | 40 => 11
  | 41 => 200
  | 42 => 91
  | _ => 0
def md_wb (T : Int) (m : sg_S) : Prop := (∀ f i : Nat, f < 43 → md_lo f ≤ m f i ∧ m f i ≤ md_hi T f) ∧ 360 ≤ T ∧ T ≤ 110000
theorem wb0 {T : Int} {m : sg_S} (h : md_wb T m) (i : Nat) : 0 ≤ m 0 i ∧ m 0 i ≤ 3 := h.1 0 i (by decide)
theorem wb1 {T : Int} {m : sg_S} (h : md_wb T m) (i : Nat) : 0 ≤ m 1 i ∧ m 1 i ≤ 110000 := ⟨(h.1 1 i (by decide)).1, Int.le_trans (h.1 1 i (by decide)).2 h.2.2⟩
theorem wb2 {T : Int} {m : sg_S} (h : md_wb T m) (i : Nat) : 0 ≤ m 2 i ∧ m 2 i ≤ 1 := h.1 2 i (by decide)
theorem wb3 {T : Int} {m : sg_S} (h : md_wb T m) (i : Nat) : 0 ≤ m 3 i ∧ m 3 i ≤ 12 := h.1 3 i (by decide)
theorem wb4 {T : Int} {m : sg_S} (h : md_wb T m) (i : Nat) : 0 ≤ m 4 i ∧ m 4 i ≤ 99 := h.1 4 i (by decide)
theorem wb5 {T : Int} {m : sg_S} (h : md_wb T m) (i : Nat) : 0 ≤ m 5 i ∧ m 5 i ≤ 20 := h.1 5 i (by decide)
theorem wb6 {T : Int} {m : sg_S} (h : md_wb T m) (i : Nat) : 0 ≤ m 6 i ∧ m 6 i ≤ 1009 := h.1 6 i (by decide)
theorem wb7 {T : Int} {m : sg_S} (h : md_wb T m) (i : Nat) : 0 ≤ m 7 i ∧ m 7 i ≤ 2 := h.1 7 i (by decide)
theorem wb8 {T : Int} {m : sg_S} (h : md_wb T m) (i : Nat) : 0 ≤ m 8 i ∧ m 8 i ≤ 3 := h.1 8 i (by decide)
theorem wb9 {T : Int} {m : sg_S} (h : md_wb T m) (i : Nat) : 0 ≤ m 9 i ∧ m 9 i ≤ 99 := h.1 9 i (by decide)
theorem wb10 {T : Int} {m : sg_S} (h : md_wb T m) (i : Nat) : 0 ≤ m 10 i ∧ m 10 i ≤ 19 := h.1 10 i (by decide)
theorem wb11 {T : Int} {m : sg_S} (h : md_wb T m) (i : Nat) : 0 ≤ m 11 i ∧ m 11 i ≤ 9999 := h.1 11 i (by decide)
theorem wb12 {T : Int} {m : sg_S} (h : md_wb T m) (i : Nat) : 0 ≤ m 12 i ∧ m 12 i ≤ 200 := h.1 12 i (by decide)
theorem wb13 {T : Int} {m : sg_S} (h : md_wb T m) (i : Nat) : 0 ≤ m 13 i ∧ m 13 i ≤ 200 := h.1 13 i (by decide)
theorem wb14 {T : Int} {m : sg_S} (h : md_wb T m) (i : Nat) : 0 ≤ m 14 i ∧ m 14 i ≤ 96 := h.1 14 i (by decide)
theorem wb15 {T : Int} {m : sg_S} (h : md_wb T m) (i : Nat) : -1 ≤ m 15 i ∧ m 15 i ≤ 96 := h.1 15 i (by decide)
theorem wb16 {T : Int} {m : sg_S} (h : md_wb T m) (i : Nat) : 0 ≤ m 16 i ∧ m 16 i ≤ 1 := h.1 16 i (by decide)
theorem wb17 {T : Int} {m : sg_S} (h : md_wb T m) (i : Nat) : 0 ≤ m 17 i ∧ m 17 i ≤ 300 := h.1 17 i (by decide)
theorem wb18 {T : Int} {m : sg_S} (h : md_wb T m) (i : Nat) : 0 ≤ m 18 i ∧ m 18 i ≤ 110000 := ⟨(h.1 18 i (by decide)).1, Int.le_trans (h.1 18 i (by decide)).2 h.2.2⟩
theorem wb19 {T : Int} {m : sg_S} (h : md_wb T m) (i : Nat) : 0 ≤ m 19 i ∧ m 19 i ≤ 96 := h.1 19 i (by decide)
theorem wb20 {T : Int} {m : sg_S} (h : md_wb T m) (i : Nat) : 0 ≤ m 20 i ∧ m 20 i ≤ 1 := h.1 20 i (by decide)
theorem wb21 {T : Int} {m : sg_S} (h : md_wb T m) (i : Nat) : 0 ≤ m 21 i ∧ m 21 i ≤ 200 := h.1 21 i (by decide)
theorem wb22 {T : Int} {m : sg_S} (h : md_wb T m) (i : Nat) : 0 ≤ m 22 i ∧ m 22 i ≤ 8463 := h.1 22 i (by decide)
theorem wb23 {T : Int} {m : sg_S} (h : md_wb T m) (i : Nat) : 0 ≤ m 23 i ∧ m 23 i ≤ 9999 := h.1 23 i (by decide)
theorem wb24 {T : Int} {m : sg_S} (h : md_wb T m) (i : Nat) : 0 ≤ m 24 i ∧ m 24 i ≤ 12 := h.1 24 i (by decide)
theorem wb25 {T : Int} {m : sg_S} (h : md_wb T m) (i : Nat) : 0 ≤ m 25 i ∧ m 25 i ≤ 9999 := h.1 25 i (by decide)
theorem wb26 {T : Int} {m : sg_S} (h : md_wb T m) (i : Nat) : 0 ≤ m 26 i ∧ m 26 i ≤ 96 := h.1 26 i (by decide)
theorem wb27 {T : Int} {m : sg_S} (h : md_wb T m) (i : Nat) : 0 ≤ m 27 i ∧ m 27 i ≤ 1 := h.1 27 i (by decide)
theorem wb28 {T : Int} {m : sg_S} (h : md_wb T m) (i : Nat) : 0 ≤ m 28 i ∧ m 28 i ≤ 39 := h.1 28 i (by decide)
theorem wb29 {T : Int} {m : sg_S} (h : md_wb T m) (i : Nat) : 0 ≤ m 29 i ∧ m 29 i ≤ 110000 := ⟨(h.1 29 i (by decide)).1, Int.le_trans (h.1 29 i (by decide)).2 h.2.2⟩
theorem wb30 {T : Int} {m : sg_S} (h : md_wb T m) (i : Nat) : 0 ≤ m 30 i ∧ m 30 i ≤ 1 := h.1 30 i (by decide)
theorem wb31 {T : Int} {m : sg_S} (h : md_wb T m) (i : Nat) : 0 ≤ m 31 i ∧ m 31 i ≤ 60 := h.1 31 i (by decide)
theorem wb32 {T : Int} {m : sg_S} (h : md_wb T m) (i : Nat) : 0 ≤ m 32 i ∧ m 32 i ≤ 91 := h.1 32 i (by decide)
theorem wb33 {T : Int} {m : sg_S} (h : md_wb T m) (i : Nat) : 0 ≤ m 33 i ∧ m 33 i ≤ 40 := h.1 33 i (by decide)
theorem wb34 {T : Int} {m : sg_S} (h : md_wb T m) (i : Nat) : 0 ≤ m 34 i ∧ m 34 i ≤ 110000 := ⟨(h.1 34 i (by decide)).1, Int.le_trans (h.1 34 i (by decide)).2 h.2.2⟩
theorem wb35 {T : Int} {m : sg_S} (h : md_wb T m) (i : Nat) : 0 ≤ m 35 i ∧ m 35 i ≤ 110000 := ⟨(h.1 35 i (by decide)).1, Int.le_trans (h.1 35 i (by decide)).2 h.2.2⟩
theorem wb36 {T : Int} {m : sg_S} (h : md_wb T m) (i : Nat) : 0 ≤ m 36 i ∧ m 36 i ≤ 1 := h.1 36 i (by decide)
theorem wb37 {T : Int} {m : sg_S} (h : md_wb T m) (i : Nat) : 0 ≤ m 37 i ∧ m 37 i ≤ 60 := h.1 37 i (by decide)
theorem wb38 {T : Int} {m : sg_S} (h : md_wb T m) (i : Nat) : 0 ≤ m 38 i ∧ m 38 i ≤ 91 := h.1 38 i (by decide)
theorem wb39 {T : Int} {m : sg_S} (h : md_wb T m) (i : Nat) : 0 ≤ m 39 i ∧ m 39 i ≤ 6 := h.1 39 i (by decide)
theorem wb40 {T : Int} {m : sg_S} (h : md_wb T m) (i : Nat) : 0 ≤ m 40 i ∧ m 40 i ≤ 11 := h.1 40 i (by decide)
theorem wb41 {T : Int} {m : sg_S} (h : md_wb T m) (i : Nat) : 0 ≤ m 41 i ∧ m 41 i ≤ 200 := h.1 41 i (by decide)
theorem wb42 {T : Int} {m : sg_S} (h : md_wb T m) (i : Nat) : 0 ≤ m 42 i ∧ m 42 i ≤ 91 := h.1 42 i (by decide)
theorem st_st {σ : sg_S} {f i : Nat} {a b : Int} : st (st σ f i a) f i b = st σ f i b := by
  funext g j
  by_cases h : g = f ∧ j = i <;> simp [st, h]
theorem wb_st {T : Int} {m : sg_S} {f j : Nat} {v : Int} (h : md_wb T m) (h1 : md_lo f ≤ v) (h2 : v ≤ md_hi T f) : md_wb T (st m f j v) := by
  refine ⟨fun g i hg => ?_, h.2⟩
  by_cases e : g = f ∧ i = j
  · obtain ⟨rfl, rfl⟩ := e
    rw [st_eq]
    exact ⟨h1, h2⟩
  · simp only [st, if_neg e]
    exact h.1 g i hg
theorem am_of2 {G : am_G} {y : MethodName} {Y : am_Y} {d mc ms : Nat} {as : List am_AV} {h : am_AH} {Q : am_Re → am_AH → Prop} (hy : plainName y.cls = true) (hown : Y.2.2.1 = y.cls) (hini : Y.2.2.2.2.1 = true → y.name = "<init>") (hhh : Y.2.2.2.2.2 = []) (hn : as.all am_nolong = true) (hl : as.length ≤ Y.2.1)
    (body : ∀ X : am_X, am_W G X Y d mc ms (am_end G X mc ms Q) 0 (as.map some ++ List.replicate (Y.2.1 - as.length) none) [] h 0 0) : am_Con G y (.code y Y.1 Y.2.1 Y.2.2.2.1) d mc ms as h Q :=
  am_of hy hown hini hhh (fun v hv => List.all_eq_true.mp hn v hv) hl body
theorem am_topI {G : am_G} {X : am_X} {Y : am_Y} {d mc ms : Nat} {Q : State → Prop} {pc k n : Nat} {ls : List (Option am_AV)} {st : List am_AV} {h : am_AH} {v w : Int} (e : v = w) (kk : am_W G X Y d mc ms Q pc ls (am_I w :: st) h k n) : am_W G X Y d mc ms Q pc ls (am_I v :: st) h k n := e ▸ kk
theorem am_is_I {v w : Int} {h1 h2 : am_AH} (e : v = w) (eh : h2 = h1) : am_is (am_I w) h1 (.inl (some (am_I v))) h2 := by subst e; subst eh; exact ⟨rfl, rfl⟩
theorem am_is_rf {v : am_AV} {h1 : am_AH} : am_is v h1 (.inl (some v)) h1 := ⟨rfl, rfl⟩
theorem am_is_m {v w : Int} {m1 m2 x : sg_S} (e : v = w) (eh : m2 = m1) : am_is (am_I w) (en_h m1 x) (.inl (some (am_I v))) (en_h m2 x) := by subst e; subst eh; exact ⟨rfl, rfl⟩
theorem am_vd_m {m1 m2 x : sg_S} (eh : m2 = m1) : am_vd (en_h m1 x) (.inl none) (en_h m2 x) := by subst eh; exact ⟨rfl, rfl⟩
theorem bz_w {P : Prop} [Decidable P] {v : Int} (h1 : P → v = 1) (h0 : ¬ P → v = 0) : v = bz (decide P) := by
  by_cases h : P
  · rw [bz_1 h]; exact h1 h
  · rw [bz_2 h]; exact h0 h
