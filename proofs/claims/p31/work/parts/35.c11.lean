/-- the model's fields of one state, the class's own of another -/
def mg (σ τ : sg_S) : sg_S := fun f j => if f ≤ 48 then σ f j else τ f j
theorem mg_lo {σ τ : sg_S} {f j : Nat} (h : f ≤ 48) : mg σ τ f j = σ f j := if_pos h
theorem mg_hi {σ τ : sg_S} {f j : Nat} (h : ¬ f ≤ 48) : mg σ τ f j = τ f j := if_neg h
theorem cx_ag {m x y : sg_S} (h : ∀ f j, (1 ≤ f ∧ f ≤ 28 ∧ f ≠ 26) ∨ f = 33 ∨ 39 ≤ f → y f j = x f j) : en_h m y = en_h m x := by
  funext q
  obtain ⟨k, i⟩ := q
  simp only [en_h, h 49 0 (by decide)]
  split
  · rfl
  · split
    · rfl
    · split
      · rfl
      · unfold en_x
        have e : ∀ f, (1 ≤ f ∧ f ≤ 28 ∧ f ≠ 26) ∨ f = 33 ∨ 39 ≤ f → y f = x f := fun f hf => funext fun j => h f j hf
        rw [e 1 (by decide), e 2 (by decide), e 3 (by decide), e 4 (by decide), e 5 (by decide), e 6 (by decide), e 7 (by decide), e 8 (by decide), e 9 (by decide), e 10 (by decide), e 11 (by decide), e 12 (by decide), e 13 (by decide), e 14 (by decide), e 15 (by decide), e 16 (by decide), e 17 (by decide), e 18 (by decide), e 19 (by decide), e 20 (by decide), e 21 (by decide), e 22 (by decide), e 23 (by decide), e 24 (by decide), e 25 (by decide), e 27 (by decide), e 28 (by decide), e 33 (by decide), e 39 (by decide), e 40 (by decide), e 41 (by decide), e 42 (by decide), e 50 (by decide), e 51 (by decide), e 52 (by decide), e 53 (by decide), e 54 (by decide), e 56 (by decide), e 57 (by decide), e 60 (by decide), e 61 (by decide), e 62 (by decide), e 63 (by decide), e 64 (by decide), e 65 (by decide)]
theorem sx_beg_f {σ : sg_S} {w : Nat} {t u : Int} {f j : Nat} (h : f ≠ 28 ∧ f ≠ 51 ∧ f ≠ 56 ∧ ¬ (60 ≤ f ∧ f ≤ 65)) : sx_beg σ w t u f j = σ f j := by
  unfold sx_beg
  split
  · rw [sx_new_f h, st_nf h.1]
  · exact sx_new_f h
theorem sx_new_51 {σ : sg_S} {w : Nat} {t u : Int} : sx_new σ w t u 51 0 = σ 51 0 + 1 := by simp [sx_new, st]
theorem sx_new_28 {σ : sg_S} {w : Nat} {t u : Int} {j : Nat} : sx_new σ w t u 28 j = if j = w then σ 28 w + 1 else σ 28 j := by simp [sx_new, st]
theorem sx_end_f {σ : sg_S} {w : Nat} {t : Int} {f j : Nat} (h : f ≠ 28 ∧ f ≠ 33 ∧ f ≠ 57 ∧ f ≠ 61) : sx_end σ w t f j = σ f j := by
  unfold sx_end
  split
  · rfl
  · split
    · rw [st_nf h.2.1, st_nf h.2.2.1, st_nf h.2.2.2, st_nf h.1]
    · rw [st_nf h.2.2.2, st_nf h.1]
theorem sq_dadd_f {σ : sg_S} {i : Nat} {s : Int} {f j : Nat} (h : f ≠ 63 ∧ f ≠ 65) : sq_dadd σ i s f j = σ f j := by
  unfold sq_dadd
  split
  · rw [st_nf h.1, st_nf h.2]
  · rfl
theorem sx_beg_51 {σ : sg_S} {w : Nat} {t u : Int} : sx_beg σ w t u 51 0 = σ 51 0 + 1 := by
  unfold sx_beg
  split
  · rw [sx_new_51, st_nf (by decide)]
  · rw [sx_new_51]
theorem sx_tape_f {σ : sg_S} {w : Nat} {s t : Int} {f j : Nat} (h : f ≠ 27 ∧ f ≠ 28 ∧ f ≠ 33 ∧ f < 51 ∨ f ≠ 51 ∧ f ≠ 56 ∧ f ≠ 57 ∧ 51 < f ∧ f < 60 ∨ 65 < f) : sx_tape σ w s t f j = σ f j := by
  unfold sx_tape
  split
  · rw [sx_beg_f (by omega), st_nf (by omega)]
  · split
    · rw [sx_end_f (by omega), st_nf (by omega)]
    · split
      · rw [st_nf (by omega), st_nf (by omega)]
      · split
        · rw [sq_dadd_f (by omega), st_nf (by omega)]
        · rw [st_nf (by omega)]
theorem sx_tape_51 {σ : sg_S} {w : Nat} {s t : Int} : sx_tape σ w s t 51 0 = σ 51 0 + (if s = 92 then 1 else 0) := by
  unfold sx_tape
  split
  · rw [sx_beg_51, st_nf (by decide)]
  · split
    · rw [sx_end_f (by decide), st_nf (by decide)]; omega
    · split
      · rw [st_nf (by decide), st_nf (by decide)]; omega
      · split
        · rw [sq_dadd_f (by decide), st_nf (by decide)]; omega
        · rw [st_nf (by decide)]; omega
/-- a sign on a tape: the model's and the class's -/
def bs_tapes (σ : sg_S) (w : Nat) (s : Int) : sg_S := mg (sp_tapes σ w s) (sx_tape σ w s (σ 1 0))
theorem sx_tape_o {T : Int} {σ : sg_S} (hW : md_wb T σ) (hD : sg_D σ) {w : Nat} (hw : w < 2) {s t : Int} {f j : Nat} (hf : f = 27 ∨ f = 28 ∨ f = 33) : sp_tapes σ w s f j = sx_tape σ w s t f j := by
  have b28 := wb28 hW w
  unfold sp_tapes sx_tape
  obtain ⟨v, hv⟩ : ∃ v, v = (if s = 96 then (1 : Int) else 0) := ⟨_, rfl⟩
  rw [← hv]
  by_cases c1 : s = 92
  · rw [if_pos c1, if_pos c1]
    have hk : sx_k (st σ 27 w v) w = sx_k σ w := sx_k_st (by decide)
    unfold sp_opens sx_beg sp_opens0
    rw [hk, st_nf (f := 27) (g := 28) (by decide), st_nf (f := 27) (g := 30) (by decide), st_nf (f := 27) (g := 62) (by decide)]
    have hc : (0 < σ 28 w ∧ σ 62 (sx_k σ w) ≠ 0) ↔ (0 < σ 28 w ∧ σ 30 (40 * w + (σ 28 w).toNat - 1) ≠ 0) := by
      refine and_congr_right fun z => ?_
      have := (sg_D_top hD hw (by omega)).2.1.2.1
      rw [this, show 40 * w + ((σ 28 w).toNat - 1) = 40 * w + (σ 28 w).toNat - 1 by omega]
    simp only [hc]
    split
    · rcases hf with rfl | rfl | rfl
      · rw [sx_new_f (by decide)]; simp [sp_opens1, st]
      · rw [sx_new_28]; simp [sp_opens1, st]
      · rw [sx_new_f (by decide)]; simp [sp_opens1, st]
    · rcases hf with rfl | rfl | rfl
      · rw [sx_new_f (by decide)]; simp [sp_opens1, st]
      · rw [sx_new_28]; simp [sp_opens1, st]
      · rw [sx_new_f (by decide)]; simp [sp_opens1, st]
  · rw [if_neg c1, if_neg c1]
    by_cases c2 : s = 93
    · rw [if_neg (by omega), if_pos c2]
      unfold sx_end
      rw [st_nf (f := 27) (g := 28) (by decide), st_nf (f := 27) (g := 33) (by decide)]
      by_cases c3 : 0 < σ 28 w
      · rw [if_pos ⟨c3, c2⟩, if_neg (by omega)]
        unfold sp_ends
        rw [st_nf (f := 27) (g := 28) (by decide), st_nf (f := 27) (g := 33) (by decide)]
        by_cases c4 : σ 33 w < 40
        · rw [if_pos c4, if_pos c4]
          rcases hf with rfl | rfl | rfl
          · simp [sp_cs, st]
          · simp [sp_cs, st]
          · simp [sp_cs, st]
        · rw [if_neg c4, if_neg c4]
          rcases hf with rfl | rfl | rfl <;> simp [st]
      · rw [if_neg (fun z => c3 z.1), if_neg (by omega), if_pos (by omega)]
    · rw [if_neg c2]
      by_cases c3 : s = 94
      · rw [if_pos c3, if_pos c3]
      · rw [if_neg c3, if_neg c3, if_neg (fun z => c2 z.2)]
        have hL : ∀ τ : sg_S, (if 0 < σ 28 w ∧ s < 92 ∧ σ 31 (40 * w + (σ 28 w).toNat - 1) < 60 then st (st τ 32 (60 * (40 * w + (σ 28 w).toNat - 1) + (σ 31 (40 * w + (σ 28 w).toNat - 1)).toNat) s) 31 (40 * w + (σ 28 w).toNat - 1) (σ 31 (40 * w + (σ 28 w).toNat - 1) + 1) else τ) f j = τ f j := fun τ => by
          split
          · rw [st_nf (by omega), st_nf (by omega)]
          · rfl
        have hR : ∀ τ : sg_S, (if s < 92 ∧ 0 < σ 28 w then sq_dadd τ (sx_k σ w) s else τ) f j = τ f j := fun τ => by
          split
          · exact sq_dadd_f (by omega)
          · rfl
        rw [hL, hR]
theorem cx_tapes {m : sg_S} {T : Int} {σ : sg_S} (hW : md_wb T σ) (hD : sg_D σ) {w : Nat} (hw : w < 2) {s t : Int} (et : t = σ 1 0) : en_h m (sx_tape σ w s t) = en_h m (bs_tapes σ w s) := by
  subst et
  refine (cx_ag fun f j hf => ?_).symm
  unfold bs_tapes
  by_cases c : f ≤ 48
  · rw [mg_lo c]
    by_cases c2 : f = 27 ∨ f = 28 ∨ f = 33
    · exact sx_tape_o hW hD hw c2
    · rw [sp_tapes_f (by omega), sx_tape_f (by omega)]
  · rw [mg_hi c]
def bs_looks (σ : sg_S) (t u : Int) : sg_S :=
  if ¬ (0 ≤ sp_lk σ t u ∧ sp_lk σ t u ≤ σ 3 0 - 1) then σ
  else if σ 15 (2 * (sp_ln t u) + u.toNat) ≠ -1 ∧ σ 16 (2 * (sp_ln t u) + u.toNat) = 0 ∧ ((t = if u = 0 then 0 else σ 3 0 - 1) ∨ σ 12 (2 * t.toNat + u.toNat) < 10) ∧ an_see σ (if u = 0 then t.toNat else (sp_ln t u)) = 1 then
    if t = if u = 0 then 0 else σ 3 0 - 1 then
      bs_tapes (sp_writes (st σ 16 (2 * (sp_ln t u) + u.toNat) 1) (2 * t + u) (an_reads σ t (σ 15 (2 * (sp_ln t u) + u.toNat))) 0) u.toNat (an_reads σ t (σ 15 (2 * (sp_ln t u) + u.toNat)))
    else
      sp_kp (sp_writes (st σ 16 (2 * (sp_ln t u) + u.toNat) 1) (2 * t + u) (an_reads σ t (σ 15 (2 * (sp_ln t u) + u.toNat))) 0) (2 * t.toNat + u.toNat) (σ 12 (2 * t.toNat + u.toNat)).toNat (an_reads σ t (σ 15 (2 * (sp_ln t u) + u.toNat)))
  else σ
theorem ite3 {P Q R : Prop} [Decidable P] [Decidable Q] [Decidable R] {A A' B C D : sg_S} {f j : Nat} (h : A f j = A' f j) : (if P then C else if Q then (if R then A else B) else D) f j = (if P then C else if Q then (if R then A' else B) else D) f j := by
  by_cases p : P
  · rw [if_pos p, if_pos p]
  · rw [if_neg p, if_neg p]
    by_cases q : Q
    · rw [if_pos q, if_pos q]
      by_cases r : R
      · rw [if_pos r, if_pos r]; exact h
      · rw [if_neg r, if_neg r]
    · rw [if_neg q, if_neg q]
theorem bs_looks_lo {σ : sg_S} {t u : Int} {f j : Nat} (hf : f ≤ 48) : bs_looks σ t u f j = sp_looks σ t u f j := ite3 (mg_lo hf)
theorem sp_kp_c {T : Int} {σ : sg_S} (hW : md_wb T σ) {w : Nat} {s : Int} : sp_kp σ w (σ 12 w).toNat s = st (st σ 14 (220 * w + (σ 12 w).toNat) s) 12 w (σ 12 w + 1) := by
  have b12 := wb12 hW w
  funext f j
  simp only [sp_kp, st]
  by_cases c1 : f = 12 ∧ j = w
  · rw [if_pos c1, if_pos c1]
  · rw [if_neg c1, if_neg c1]
    by_cases c2 : f = 14 ∧ j = 220 * w + (σ 12 w).toNat
    · rw [if_pos (by omega), if_pos c2, if_pos c2.2]
    · rw [if_neg (by omega), if_neg c2]
theorem c_X0_keepOneK {G : am_G} {m x : sg_S} {T : Int} (hW : md_wb T x) {i : Nat} (hi : ((i / 2 : Nat) : Int) < x 3 0) {s : Int} (hr_s : -2147483648 ≤ s ∧ s < 2147483648) {c : Nat} (hc : x 12 i = (c : Int)) (h : x 12 i < 200) : am_Con G yX0_keepOne wX0_keepOne 1 0 0 [am_R (0, i), am_I s] (en_h m x) (am_is (am_I 1) (en_h m (sp_kp x i c s))) := by
  have z := c_X0_keepOne (G := G) (m := m) hW hi hr_s
  have e1 : aq_one x i = 1 := if_pos h
  have e2 : sq_one x i s = sp_kp x i c s := by
    rw [show c = (x 12 i).toNat by omega, sp_kp_c hW]
    unfold sq_one
    rw [if_pos h]
  rwa [e1, e2] at z
theorem c_X3_enterW {G : am_G} {m x : sg_S} {T : Int} (hW : md_wb T x) {w : Int} {i : Nat} (ew : w.toNat = i) (hi : ((i / 2 : Nat) : Int) < x 3 0) {t s o : Int} (et : t = x 1 0) (hr_t : -2147483648 ≤ t ∧ t < 2147483648) (hr_s : -2147483648 ≤ s ∧ s < 2147483648) (hb_o : o = 0 ∨ o = 1) : am_Con G yX3_enter wX3_enter 1 0 0 [am_R (3, i), am_I t, am_I s, am_I o] (en_h m x) (am_vd (en_h m (sp_writes x w s o))) := by
  subst ew; subst et
  exact c_X3_enter hW hi hr_t hr_s hb_o
theorem c_X8_isSeenAlongN {G : am_G} {m x : sg_S} {T : Int} (hW : md_wb T x) {s : Int} {n : Nat} (es : s = (n : Int)) (hs : (n : Int) < x 3 0 - 1) (hF : 1 ≤ x 5 (n + 1)) : am_Con G yX8_isSeenAlong wX8_isSeenAlong 2 0 0 [am_R (8, 0), am_I s] (en_h m x) (am_is (am_I (an_see x n)) (en_h m x)) := by
  have z := c_X8_isSeenAlong (G := G) (m := m) hW (s := s) (by omega) (by rw [show s.toNat = n by omega]; exact hF)
  rwa [show s.toNat = n by omega] at z

