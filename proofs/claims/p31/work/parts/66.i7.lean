theorem sg_D_new2 {σ : sg_S} {w : Nat} {t u : Int} (hD : sg_D σ) (hB : sg_B σ) (hw : w < 2) (h38 : ∀ v, σ 28 v ≤ 39) (ht : t = σ 1 0) : sg_D (mg (sp_opens1 σ w u) (sx_new σ w t u)) := by
  refine sg_D_new (t := t) (u := u) hD hB hw h38 (fun j => ?_) (fun j => ?_) (fun j => ?_) (fun j => ?_) (fun f j hf => ?_) ?_ (fun j => ?_) (fun j => ?_) (fun j => ?_) (fun j => ?_) (fun j => ?_) (fun j => ?_) (fun j => ?_)
  · rw [mg_lo (by decide)]; simp [sp_opens1, st]
  · rw [mg_lo (by decide), ht]; simp [sp_opens1, st]
  · rw [mg_lo (by decide)]; simp [sp_opens1, st]
  · rw [mg_lo (by decide)]; simp [sp_opens1, st]
  · by_cases c : f ≤ 48
    · rw [mg_lo c]; unfold sp_opens1
      rw [st_nf (by omega), st_nf (by omega), st_nf (by omega), st_nf (by omega)]
    · rw [mg_hi c, sx_new_f (by omega)]
  · rw [mg_hi (by decide)]; exact sx_new_51
  · rw [mg_hi (by decide)]; simp [sx_new, st]
  · rw [mg_hi (by decide)]; simp [sx_new, st]
  · rw [mg_hi (by decide)]; simp [sx_new, st]
  · rw [mg_hi (by decide)]; simp [sx_new, st]
  · rw [mg_hi (by decide)]; simp [sx_new, st]
  · rw [mg_hi (by decide)]; simp [sx_new, st]
  · rw [mg_hi (by decide)]; simp [sx_new, st]
theorem sg_D_beg {σ : sg_S} {w : Nat} {t u : Int} (hD : sg_D σ) (hB : sg_B σ) (hw : w < 2) (h38 : ∀ v, σ 28 v ≤ 38) (ht : t = σ 1 0) : sg_D (mg (sp_opens σ w u) (sx_beg σ w t u)) := by
  have b28 := hB.2.1 w
  have hc : (0 < σ 28 w ∧ σ 62 (sx_k σ w) ≠ 0) ↔ (0 < σ 28 w ∧ σ 30 (40 * w + (σ 28 w).toNat - 1) ≠ 0) := by
    refine and_congr_right fun z => ?_
    have := (sg_D_top hD hw (by omega)).2.1.2.1
    rw [this, show 40 * w + ((σ 28 w).toNat - 1) = 40 * w + (σ 28 w).toNat - 1 by omega]
  unfold sp_opens sx_beg sp_opens0
  by_cases c : u = 0 ∧ ¬ (0 < σ 28 w ∧ σ 62 (sx_k σ w) ≠ 0)
  · rw [if_pos c, if_pos ⟨c.1, fun z => c.2 (hc.mpr z)⟩]
    refine sg_D_new2 (sg_D_drop b28 hD) (sg_B_st hB (by omega) (by omega) (by omega) (by omega) (by omega)) hw (fun v => ?_) (by rw [st_nf (by decide)]; exact ht)
    simp only [st, true_and]
    have := h38 v
    split <;> omega
  · rw [if_neg c, if_neg (fun z => c ⟨z.1, fun y => z.2 (hc.mp y)⟩)]
    exact sg_D_new2 hD hB hw (fun v => by have := h38 v; omega) ht
theorem sg_D_tapes {σ : sg_S} (hD : sg_D σ) (hB : sg_B σ) {w : Nat} (hw : w < 2) (h38 : ∀ v, σ 28 v ≤ 38) {s : Int} : sg_D (bs_tapes σ w s) := by
  obtain ⟨v, hv⟩ : ∃ v, v = (if s = 96 then (1 : Int) else 0) := ⟨_, rfl⟩
  obtain ⟨τ, h1⟩ : ∃ z, z = st σ 27 w v := ⟨_, rfl⟩
  have e : ∀ f j, f ≠ 27 → τ f j = σ f j := fun f j h => by rw [h1, st_nf h]
  have D1 : sg_D τ := by rw [h1]; exact sg_D_27 hD (by decide)
  have B1 : sg_B τ := by rw [h1]; exact sg_B_st hB (by omega) (by omega) (by omega) (by omega) (by omega)
  have h8 : ∀ v, τ 28 v ≤ 38 := fun v => by rw [e 28 v (by decide)]; exact h38 v
  have hk : sx_k σ w = sx_k τ w := by unfold sx_k; rw [e 28 w (by decide), e 56 _ (by decide)]
  have b28 := B1.2.1 w
  unfold bs_tapes sp_tapes sx_tape
  rw [← hv, ← h1, hk, ← e 28 w (by decide), ← e 31 (40 * w + (τ 28 w).toNat - 1) (by decide), ← e 1 0 (by decide)]
  by_cases c1 : s = 92
  · rw [if_pos c1, if_pos c1]
    exact sg_D_beg D1 B1 hw h8 rfl
  · rw [if_neg c1, if_neg c1]
    by_cases c2 : s = 94
    · rw [if_pos c2, if_neg (by omega), if_pos c2]
      refine sg_D_le (σ := τ) (fun f j h => ?_) (fun x => ?_) D1
      · by_cases c : f ≤ 48
        · rw [mg_lo c, st_nf h]
        · rw [mg_hi c, st_nf h]
      · rw [mg_lo (by decide)]
        simp only [st, true_and]
        split
        · rename_i z; rw [z]; exact b28
        · exact Int.le_refl _
    · rw [if_neg c2]
      by_cases c3 : s = 93
      · rw [if_pos c3]
        by_cases c4 : 0 < τ 28 w
        · rw [if_pos ⟨c4, c3⟩]
          unfold sp_ends sx_end
          rw [if_neg (show ¬ τ 28 w ≤ 0 by omega)]
          by_cases c5 : τ 33 w < 40
          · rw [if_pos c5, if_pos c5]
            refine sg_D_end (k := sx_k τ w) (t := τ 1 0) D1 B1 hw c4 rfl c5 (fun j => ?_) (fun f j hf => ?_) (fun j => ?_) (fun j => ?_) (fun j => ?_) (fun j => ?_) (fun j => ?_) (fun j => ?_) (fun j => ?_) (fun j => ?_)
            · rw [mg_lo (by decide)]; simp [sp_cs, st]
            · by_cases c : f ≤ 48
              · rw [mg_lo c, st_nf (by omega), sp_cs_f (by omega), st_nf (by omega), st_nf (by omega), st_nf (by omega), st_nf (by omega), st_nf (by omega)]
              · rw [mg_hi c, st_nf (by omega), st_nf (by omega), st_nf (by omega), st_nf (by omega)]
            · rw [mg_lo (by decide)]; simp [sp_cs, st]
            · rw [mg_lo (by decide)]; simp [sp_cs, st]
            · rw [mg_lo (by decide)]; simp [sp_cs, st]
            · rw [mg_lo (by decide)]; simp [sp_cs, st]
            · rw [mg_lo (by decide)]; simp [sp_cs, st]
            · rw [mg_lo (by decide)]; simp [sp_cs, st]
            · rw [mg_hi (by decide)]; simp [st]
            · rw [mg_hi (by decide)]; simp [st]
          · rw [if_neg c5, if_neg c5]
            refine sg_D_end0 (k := sx_k τ w) (t := τ 1 0) D1 hw c4 rfl (fun j => ?_) (fun f j h28 h61 => ?_) (fun j => ?_)
            · rw [mg_lo (by decide)]; simp [st]
            · by_cases c : f ≤ 48
              · rw [mg_lo c, st_nf h28]
              · rw [mg_hi c, st_nf h61, st_nf h28]
            · rw [mg_hi (by decide)]; simp [st]
        · rw [if_neg (fun z => c4 z.1), if_neg (by omega)]
          unfold sx_end
          rw [if_pos (show τ 28 w ≤ 0 by omega)]
          refine sg_D_of (σ := τ) (fun f j h => ?_) D1
          by_cases c : f ≤ 48
          · rw [mg_lo c]
          · rw [mg_hi c]
      · rw [if_neg c3, if_neg c2, if_neg (fun z => c3 z.2)]
        by_cases c4 : s < 92 ∧ 0 < τ 28 w
        · rw [if_pos c4]
          obtain ⟨-, ⟨-, -, t3, -⟩, -, -⟩ := sg_D_top D1 hw (by omega)
          have x1 : 40 * w + (τ 28 w).toNat - 1 = 40 * w + ((τ 28 w).toNat - 1) := by omega
          rw [x1]
          have g := B1.2.2.1 (40 * w + ((τ 28 w).toNat - 1))
          obtain ⟨q, hq⟩ : ∃ q : Nat, τ 31 (40 * w + ((τ 28 w).toNat - 1)) = (q : Int) := ⟨(τ 31 (40 * w + ((τ 28 w).toNat - 1))).toNat, by omega⟩
          unfold sq_dadd
          rw [t3, hq]
          by_cases c5 : (q : Int) < 60
          · rw [if_pos ⟨c4.2, c4.1, c5⟩, if_pos c5, Int.toNat_natCast]
            refine sg_D_add (k := sx_k τ w) (q := q) (s := s) D1 B1 hw c4.2 (fun v => by have := h8 v; omega) rfl rfl hq (by omega) (fun j => ?_) (fun j => ?_) (fun j => ?_) (fun j => ?_) (fun f j f1 f2 f3 f4 => ?_)
            · rw [mg_lo (by decide)]; simp [st]
            · rw [mg_lo (by decide)]; simp [st]
            · rw [mg_hi (by decide)]; simp [st]
            · rw [mg_hi (by decide)]; simp [st]
            · by_cases c : f ≤ 48
              · rw [mg_lo c, st_nf f1, st_nf f2]
              · rw [mg_hi c, st_nf f3, st_nf f4]
          · rw [if_neg (fun z => c5 z.2.2), if_neg c5]
            refine sg_D_of (σ := τ) (fun f j h => ?_) D1
            by_cases c : f ≤ 48
            · rw [mg_lo c]
            · rw [mg_hi c]
        · rw [if_neg c4, if_neg (fun z => c4 ⟨z.2.1, z.1⟩)]
          refine sg_D_of (σ := τ) (fun f j h => ?_) D1
          by_cases c : f ≤ 48
          · rw [mg_lo c]
          · rw [mg_hi c]
theorem bs_looks_by (P : sg_S → Prop) {σ : sg_S} {t u : Int} (h0 : P σ)
    (h1 : (t = if u = 0 then 0 else σ 3 0 - 1) → (0 ≤ sp_lk σ t u ∧ sp_lk σ t u ≤ σ 3 0 - 1) → (σ 15 (2 * (sp_ln t u) + u.toNat) ≠ -1 ∧ σ 16 (2 * (sp_ln t u) + u.toNat) = 0) → P (bs_tapes (sp_writes (st σ 16 (2 * (sp_ln t u) + u.toNat) 1) (2 * t + u) (an_reads σ t (σ 15 (2 * (sp_ln t u) + u.toNat))) 0) u.toNat (an_reads σ t (σ 15 (2 * (sp_ln t u) + u.toNat)))))
    (h2 : ¬ (t = if u = 0 then 0 else σ 3 0 - 1) → (0 ≤ sp_lk σ t u ∧ sp_lk σ t u ≤ σ 3 0 - 1) → (σ 15 (2 * (sp_ln t u) + u.toNat) ≠ -1 ∧ σ 16 (2 * (sp_ln t u) + u.toNat) = 0) → P (sp_kp (sp_writes (st σ 16 (2 * (sp_ln t u) + u.toNat) 1) (2 * t + u) (an_reads σ t (σ 15 (2 * (sp_ln t u) + u.toNat))) 0) (2 * t.toNat + u.toNat) (σ 12 (2 * t.toNat + u.toNat)).toNat (an_reads σ t (σ 15 (2 * (sp_ln t u) + u.toNat))))) : P (bs_looks σ t u) := by
  unfold bs_looks
  by_cases c1 : ¬ (0 ≤ sp_lk σ t u ∧ sp_lk σ t u ≤ σ 3 0 - 1)
  · rw [if_pos c1]; exact h0
  · rw [if_neg c1]
    by_cases c2 : (σ 15 (2 * (sp_ln t u) + u.toNat) ≠ -1 ∧ σ 16 (2 * (sp_ln t u) + u.toNat) = 0 ∧ ((t = if u = 0 then 0 else σ 3 0 - 1) ∨ σ 12 (2 * t.toNat + u.toNat) < 10) ∧ an_see σ (if u = 0 then t.toNat else (sp_ln t u)) = 1)
    · rw [if_pos c2]
      by_cases c3 : (t = if u = 0 then 0 else σ 3 0 - 1)
      · rw [if_pos c3]; exact h1 c3 (Decidable.not_not.mp c1) ⟨c2.1, c2.2.1⟩
      · rw [if_neg c3]; exact h2 c3 (Decidable.not_not.mp c1) ⟨c2.1, c2.2.1⟩
    · rw [if_neg c2]; exact h0
theorem sg_D_looks {σ : sg_S} (hD : sg_D σ) (hB : sg_B σ) (h38 : ∀ v, σ 28 v ≤ 38) {t u : Int} (hu : u = 0 ∨ u = 1) : sg_D (bs_looks σ t u) := by
  refine bs_looks_by sg_D hD (fun _ _ _ => ?_) (fun _ _ _ => ?_)
  · refine sg_D_tapes (sg_D_of (fun f j h => ?_) hD) (sg_B_of (fun f j h => ?_) hB) (by omega) (fun v => ?_)
    · rw [sp_writes_f (by omega), st_nf (by omega)]
    · rw [sp_writes_f (by omega), st_nf (by omega)]
    · rw [sp_writes_f (by omega), st_nf (by omega)]; exact h38 v
  · exact sg_D_of (fun f j h => by rw [sp_kp_f (by omega) (by omega), sp_writes_f (by omega), st_nf (by omega)]) hD
theorem sg_D_turn {σ : sg_S} (hD : sg_D σ) {t u : Int} {w : Nat} : sg_D (sp_turn σ t u w) := sg_D_of (fun f j h => sp_turn_f (by omega) (by omega)) hD

