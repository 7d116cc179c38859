theorem si_P_of {k : Nat} {y : Int} {σ τ : sg_S} (h : ∀ f j, f = 2 ∨ f = 3 ∨ f = 12 ∨ f = 13 ∨ f = 14 ∨ f = 15 ∨ f = 16 ∨ f = 28 → τ f j = σ f j) (hP : si_P k y σ) : si_P k y τ := by
  have e : ∀ f, (f = 2 ∨ f = 3 ∨ f = 12 ∨ f = 13 ∨ f = 14 ∨ f = 15 ∨ f = 16 ∨ f = 28) → τ f = σ f := fun f hf => funext fun j => h f j hf
  unfold si_P si_E si_h si_K si_en si_so at hP ⊢
  rw [e 2 (by decide), e 3 (by decide), e 12 (by decide), e 13 (by decide), e 14 (by decide), e 15 (by decide), e 16 (by decide), e 28 (by decide)]
  exact hP
theorem si_mono {k k' : Nat} {y y' : Int} {σ : sg_S} (hP : si_P k y σ) (hk : k ≤ k') (hy : y' ≤ y) : si_P k' y' σ := by
  obtain ⟨p1, p2, p3, e, a, b, c, d, g, i⟩ := hP
  exact ⟨p1, p2, fun z => ⟨(p3 z).1, (p3 z).2.1, by have := (p3 z).2.2; omega⟩, e, a, b, c, d, Nat.le_trans g hk, Int.le_trans hy i⟩
theorem si_begun {k : Nat} {y v : Int} {σ : sg_S} (hP : si_P k y σ) (hv : v ≠ 0) : si_P k y (st σ 2 0 v) := by
  obtain ⟨p1, p2, p3, e, hE⟩ := hP
  have h : ∀ f, f ≠ 2 → st σ 2 0 v f = σ f := fun f hf => funext fun j => st_nf hf
  refine ⟨fun w hw => by rw [h 28 (by decide)]; exact p1 w hw, fun w => by rw [h 12 (by decide)]; exact p2 w, fun z => ?_, e, ?_⟩
  · rw [st_eq] at z; exact absurd z hv
  · unfold si_E si_h si_K si_en si_so at hE ⊢
    rw [h 3 (by decide), h 12 (by decide), h 13 (by decide), h 14 (by decide), h 15 (by decide), h 16 (by decide), h 28 (by decide)]
    exact hE
theorem de_reads {σ : sg_S} {t s : Int} (h : s ≠ -1) {x : Nat} : de x (an_reads σ t s) = de x s := by
  refine de_cg ?_
  unfold an_reads
  by_cases c : (31 * σ 1 0 + 17 * t + 7 * s + σ 11 0) % 1009 < σ 6 t.toNat ∧ s < 92
  · rw [if_pos c]
    by_cases c2 : s % 2 = 0
    · rw [if_pos c2]; omega
    · rw [if_neg c2]; omega
  · rw [if_neg c]; omega
theorem si_looks {k : Nat} {y : Int} {σ : sg_S} {t u : Int} (h : si_P k y σ) (ht : 0 ≤ t ∧ t ≤ σ 3 0 - 1) (hu : u = 0 ∨ u = 1) : si_P k (y + (bs_looks σ t u 51 0 - σ 51 0)) (sp_looks σ t u) := by
  unfold bs_looks sp_looks
  by_cases c1 : ¬ (0 ≤ sp_lk σ t u ∧ sp_lk σ t u ≤ σ 3 0 - 1)
  · rw [if_pos c1, if_pos c1]
    exact si_mono h (Nat.le_refl _) (by omega)
  · rw [if_neg c1, if_neg c1]
    by_cases c2 : (σ 15 (2 * (sp_ln t u) + u.toNat) ≠ -1 ∧ σ 16 (2 * (sp_ln t u) + u.toNat) = 0 ∧ ((t = if u = 0 then 0 else σ 3 0 - 1) ∨ σ 12 (2 * t.toNat + u.toNat) < 10) ∧ an_see σ (if u = 0 then t.toNat else (sp_ln t u)) = 1)
    · rw [if_pos c2, if_pos c2]
      obtain ⟨k1, k2, k3, -⟩ := c2
      have c1' := Decidable.not_not.mp c1
      obtain ⟨w, hw⟩ : ∃ w, w = 2 * sp_ln t u + u.toNat := ⟨_, rfl⟩
      obtain ⟨H, hH⟩ : ∃ H, H = 2 * t.toNat + u.toNat := ⟨_, rfl⟩
      obtain ⟨s, hs⟩ : ∃ s, s = an_reads σ t (σ 15 w) := ⟨_, rfl⟩
      rw [← hw] at k1 k2
      rw [← hH] at k3
      rw [← hw, ← hH, ← hs]
      have f1 : ((w / 2 : Nat) : Int) < σ 3 0 ∧ w % 2 = u.toNat ∧ H = si_nx w ∧ w ≠ si_en σ (w % 2) ∧ H % 2 = u.toNat ∧ (H = si_en σ (H % 2) ↔ t = if u = 0 then 0 else σ 3 0 - 1) ∧ u.toNat < 2 := by
        unfold sp_lk at c1'
        unfold sp_ln at hw
        rcases hu with rfl | rfl
        · rw [if_pos rfl] at c1' hw
          have m1 : w % 2 = 0 := by omega
          have m2 : H % 2 = 0 := by omega
          unfold si_nx si_en
          rw [m1, m2, if_neg (by decide), if_pos rfl]
          simp only [if_true]
          omega
        · rw [if_neg (by decide)] at c1' hw
          have m1 : w % 2 = 1 := by omega
          have m2 : H % 2 = 1 := by omega
          unfold si_nx si_en
          rw [m1, m2, if_pos rfl, if_neg (by decide), if_neg (by decide)]
          omega
      obtain ⟨f1, f2, f3, f4, f5, f6, f7⟩ := f1
      have hs2 : ∀ x, de x s = de x (σ 15 w) := fun x => by rw [hs]; exact de_reads k1
      obtain ⟨X, hX⟩ : ∃ X, X = sp_writes (st σ 16 w 1) (2 * t + u) s 0 := ⟨_, rfl⟩
      have eX : ∀ f j, (f < 16 ∨ 20 < f) → X f j = σ f j := fun f j hf => by rw [hX, sp_writes_f (by omega), st_nf (by omega)]
      have eX16 : ∀ v, X 16 v = if v = w then 1 else σ 16 v := fun v => by rw [hX, sp_writes_f (by omega)]; simp [st]
      rw [← hX]
      obtain ⟨p1, p2, p3, e, hE⟩ := h
      have hbeg : σ 2 0 ≠ 0 := fun z => k1 (((p3 z).1 w).2 k2)
      have hHw : H ≠ w := by
        have := (si_nx_v f1 f4).1
        rw [f3]; exact this
      by_cases c3 : t = if u = 0 then 0 else σ 3 0 - 1
      · rw [if_pos c3, if_pos c3]
        have hend : H = si_en σ (H % 2) := f6.mpr c3
        have e51 : bs_tapes X u.toNat s 51 0 = σ 51 0 + (if s = 92 then 1 else 0) := by
          unfold bs_tapes
          rw [mg_hi (by decide), sx_tape_51, eX 51 0 (by decide)]
        rw [e51]
        refine ⟨fun v hv => ?_, fun v => ?_, fun z => ?_, (fun v => if v = H then de (e H) s else e v), ?_⟩
        · rw [sp_tapes_28o (by omega), eX 28 v (by decide)]; exact p1 v hv
        · rw [sp_tapes_f (by decide), eX 12 v (by decide)]; exact p2 v
        · rw [sp_tapes_f (by decide), eX 2 0 (by decide)] at z; exact absurd z hbeg
        · refine si_flow hE f1 f4 f3 k2 hs2 ?_ ?_ (fun v hv => ?_) (fun v j hv hj => ?_) (fun v => ?_) (fun f v hf => ?_) (fun v hv => ?_) (fun z => absurd hend z) (fun z => absurd hend z) (fun z q hq hg => ?_)
          · by_cases c4 : s = 92
            · rw [if_pos c4, if_pos ⟨hend, c4⟩]; omega
            · rw [if_neg c4, if_neg (fun z => c4 z.2)]; omega
          · rw [sp_tapes_f (by decide), eX 3 0 (by decide)]
          · rw [sp_tapes_f (by decide), eX 12 v (by decide)]
          · unfold si_K
            rw [sp_tapes_f (by decide), eX 14 _ (by decide)]
          · rw [sp_tapes_f (by decide), eX16]
          · rw [sp_tapes_f (by omega), eX f v (by omega)]
          · rw [sp_tapes_28o (by rw [← f5]; exact hv), eX 28 v (by decide)]
          · rw [f5] at hq ⊢
            exact sp_tapes_28 (by rw [eX 28 _ (by decide)]; exact hq) hg
      · rw [if_neg c3, if_neg c3]
        have hnend : H ≠ si_en σ (H % 2) := fun z => c3 (f6.mp z)
        have k3' : σ 12 H < 10 := k3.resolve_left c3
        have b12 := p2 H
        have e51 : sp_kp X H (σ 12 H).toNat s 51 0 = σ 51 0 := by rw [sp_kp_f (by decide) (by decide), eX 51 0 (by decide)]
        rw [e51]
        have t12 : ∀ v, sp_kp X H (σ 12 H).toNat s 12 v = if v = H then σ 12 H + 1 else σ 12 v := fun v => by
          have : sp_kp X H (σ 12 H).toNat s 12 v = if v = H then X 12 H + 1 else X 12 v := by simp [sp_kp]
          rw [this, eX 12 _ (by decide), eX 12 _ (by decide)]
        have t14 : ∀ j, sp_kp X H (σ 12 H).toNat s 14 j = if j = 220 * H + (σ 12 H).toNat then s else σ 14 j := fun j => by
          unfold sp_kp
          rw [if_neg (show ¬ ((14 : Nat) = 12 ∧ j = H) by omega), eX 12 H (by decide)]
          by_cases c4 : j = 220 * H + (σ 12 H).toNat
          · rw [if_pos (show (14 : Nat) = 14 ∧ 220 * H + (σ 12 H).toNat ≤ j ∧ j ≤ 220 * H + (σ 12 H).toNat by omega), if_pos c4, if_pos c4]
          · rw [if_neg (show ¬ ((14 : Nat) = 14 ∧ 220 * H + (σ 12 H).toNat ≤ j ∧ j ≤ 220 * H + (σ 12 H).toNat) by omega), if_neg c4, eX 14 j (by decide)]
        refine ⟨fun v hv => ?_, fun v => ?_, fun z => ?_, (fun v => if v = H then de (e H) s else e v), ?_⟩
        · rw [sp_kp_f (by decide) (by decide), eX 28 v (by decide)]; exact p1 v hv
        · rw [t12]
          have := p2 v
          split <;> omega
        · rw [sp_kp_f (by decide) (by decide), eX 2 0 (by decide)] at z; exact absurd z hbeg
        · refine si_flow hE f1 f4 f3 k2 hs2 ?_ ?_ (fun v hv => ?_) (fun v j hv hj => ?_) (fun v => ?_) (fun f v hf => ?_) (fun v hv => ?_) (fun _ => ?_) (fun _ => ?_) (fun z => absurd z hnend)
          · rw [if_neg (fun z => hnend z.1)]; omega
          · rw [sp_kp_f (by decide) (by decide), eX 3 0 (by decide)]
          · rw [t12, if_neg hv]
          · unfold si_K
            have b12v := p2 v
            rw [t14, if_neg (by omega)]
          · rw [sp_kp_f (by decide) (by decide), eX16]
          · rw [sp_kp_f (by omega) (by omega), eX f v (by omega)]
          · rw [sp_kp_f (by decide) (by decide), eX 28 v (by decide)]
          · rw [t12, if_pos rfl, show (σ 12 H + 1).toNat = (σ 12 H).toNat + 1 by omega]
            simp only [rk]
            have x1 : si_K (sp_kp X H (σ 12 H).toNat s) H (σ 12 H).toNat = s := by
              unfold si_K
              rw [t14, if_pos rfl]
            rw [x1, rk_cg (K := si_K σ H) _ fun j hj => by unfold si_K; rw [t14, if_neg (by omega)]]
          · rw [sp_kp_f (by decide) (by decide), eX 28 _ (by decide)]
    · rw [if_neg c2, if_neg c2]
      exact si_mono h (Nat.le_refl _) (by omega)
theorem si_turn {k : Nat} {y : Int} {σ : sg_S} {t u : Int} {w : Nat} (h : si_P k y σ) (ht : 0 ≤ t ∧ t ≤ σ 3 0 - 1) (hu : u = 0 ∨ u = 1) (hw : w = 2 * t.toNat + u.toNat) : si_P k y (sp_turn σ t u w) := by
  have key : ¬ ((t = if u = 0 then 0 else σ 3 0 - 1) ∨ (σ 15 w ≠ -1 ∧ σ 16 w = 0)) → ∀ x, si_h σ w x = x := fun hc x => by
    unfold si_h
    split
    · rename_i z
      refine de_mark (Or.inl ?_)
      have : σ 15 w = -1 := Decidable.byContradiction fun q => hc (Or.inr ⟨q, z⟩)
      omega
    · rfl
  have full : ¬ ((t = if u = 0 then 0 else σ 3 0 - 1) ∨ (σ 15 w ≠ -1 ∧ σ 16 w = 0)) → ¬ σ 12 w ≤ 0 → si_P k y (sp_turn1 σ w) := fun hc h12 => by
    obtain ⟨p1, p2, p3, e, hE⟩ := h
    have b12 := p2 w
    have t12 : ∀ v, sp_turn1 σ w 12 v = if v = w then σ 12 w - 1 else σ 12 v := fun v => by simp [sp_turn1, sp_turn0, sp_shl, st]
    have t13 : ∀ v, sp_turn1 σ w 13 v = if v = w then σ 13 w - (if 0 < σ 13 w then 1 else 0) else σ 13 v := fun v => by simp [sp_turn1, sp_turn0, sp_shl, st]
    have t15 : ∀ v, sp_turn1 σ w 15 v = if v = w then σ 14 (220 * w) else σ 15 v := fun v => by simp [sp_turn1, sp_turn0, sp_shl, st]
    have t16 : ∀ v, sp_turn1 σ w 16 v = if v = w then 0 else σ 16 v := fun v => by simp [sp_turn1, sp_turn0, sp_shl, st]
    have t14 : ∀ j, sp_turn1 σ w 14 j = if 220 * w ≤ j ∧ j < 220 * w + (σ 12 w - 1).toNat then σ 14 (j + 1) else σ 14 j := fun j => by simp [sp_turn1, sp_turn0, sp_shl, st]
    obtain ⟨n, hn⟩ : ∃ n : Nat, σ 12 w = (n : Int) + 1 := ⟨(σ 12 w - 1).toNat, by omega⟩
    have m1 : (σ 12 w).toNat = n + 1 := by omega
    have m2 : (σ 12 w - 1).toNat = n := by omega
    have hr : ∀ x j, j ≤ n → rk (si_K (sp_turn1 σ w) w) (si_h (sp_turn1 σ w) w x) j = rk (si_K σ w) (si_h σ w x) (j + 1) := fun x j hj => by
      rw [rk_sh, key hc]
      have x1 : si_h (sp_turn1 σ w) w x = de x (si_K σ w 0) := by
        unfold si_h si_K
        rw [t16, if_pos rfl, if_pos rfl, t15, if_pos rfl, Nat.add_zero]
      rw [x1]
      refine rk_cg j fun i hi => ?_
      unfold si_K
      rw [t14, m2, if_pos (by omega)]
      rfl
    refine ⟨fun v hv => by rw [sp_turn1_f (by decide)]; exact p1 v hv, fun v => ?_, fun z => ?_, e, ?_⟩
    · rw [t12]
      have := p2 v
      split <;> omega
    · rw [sp_turn1_f (by decide)] at z
      have := ((p3 z).1 w).1
      omega
    · refine si_same (w := w) hE (sp_turn1_f (by decide)) (fun v _ => by rw [sp_turn1_f (by decide)]; exact Int.le_refl _) (fun f v hf hv => ?_) (fun v j hv hj => ?_) (fun x => ?_) (fun x j h1 h2 => ?_)
      · rcases hf with rfl | rfl | rfl | rfl
        · rw [t12, if_neg hv]
        · rw [t13, if_neg hv]
        · rw [t15, if_neg hv]
        · rw [t16, if_neg hv]
      · have b := p2 v
        unfold si_K
        rw [t14, if_neg (by omega)]
      · rw [t12, if_pos rfl, m2, m1]
        exact hr x n (Nat.le_refl _)
      · rw [t12, if_pos rfl, m2] at h2
        rw [t13, if_pos rfl] at h1
        refine ⟨j + 1, ?_, by omega, hr x j h2⟩
        split at h1 <;> omega
  refine sp_turn_by (si_P k y) h (fun hc h12 => ?_) (fun hc h12 _ => full hc h12) (fun hc h12 _ => ?_)
  · obtain ⟨p1, p2, p3, e, hE⟩ := h
    have b12 := p2 w
    have t15 : ∀ v, (st (st σ 16 w 0) 15 w (-1)) 15 v = if v = w then -1 else σ 15 v := fun v => by simp [st]
    have t16 : ∀ v, (st (st σ 16 w 0) 15 w (-1)) 16 v = if v = w then 0 else σ 16 v := fun v => by simp [st]
    have to : ∀ f v, f ≠ 15 → f ≠ 16 → (st (st σ 16 w 0) 15 w (-1)) f v = σ f v := fun f v h1 h2 => by rw [st_nf h1, st_nf h2]
    have x1 : ∀ x, si_h (st (st σ 16 w 0) 15 w (-1)) w x = si_h σ w x := fun x => by
      rw [key hc]
      unfold si_h
      rw [t16, if_pos rfl, if_pos rfl, t15, if_pos rfl]
      exact de_mark (by omega)
    have hK : ∀ v, si_K (st (st σ 16 w 0) 15 w (-1)) v = si_K σ v := fun v => by
      unfold si_K
      funext j
      exact to 14 _ (by decide) (by decide)
    refine ⟨fun v hv => by rw [to 28 v (by decide) (by decide)]; exact p1 v hv, fun v => by rw [to 12 v (by decide) (by decide)]; exact p2 v, fun z => ?_, e, ?_⟩
    · rw [to 2 0 (by decide) (by decide)] at z
      refine ⟨fun v => ⟨?_, fun z2 => ?_⟩, fun v => ?_, (p3 z).2.2⟩
      · rw [to 12 v (by decide) (by decide)]; exact ((p3 z).1 v).1
      · rw [t15]
        rw [t16] at z2
        by_cases q : v = w
        · rw [if_pos q]
        · rw [if_neg q] at z2 ⊢
          exact ((p3 z).1 v).2 z2
      · rw [to 28 v (by decide) (by decide)]; exact (p3 z).2.1 v
    · refine si_same (w := w) hE (to 3 0 (by decide) (by decide)) (fun v _ => by rw [to 28 v (by decide) (by decide)]; exact Int.le_refl _) (fun f v hf hv => ?_) (fun v j hv hj => by rw [hK]) (fun x => ?_) (fun x j h1 h2 => ?_)
      · rcases hf with rfl | rfl | rfl | rfl
        · exact to 12 v (by decide) (by decide)
        · exact to 13 v (by decide) (by decide)
        · rw [t15, if_neg hv]
        · rw [t16, if_neg hv]
      · rw [x1, hK, to 12 w (by decide) (by decide)]
      · rw [to 13 w (by decide) (by decide)] at h1
        rw [to 12 w (by decide) (by decide)] at h2
        exact ⟨j, h1, h2, by rw [x1, hK]⟩
  · exact si_P_of (fun f j hf => sp_spyl_f (by omega) (by omega) _) (full hc h12)

