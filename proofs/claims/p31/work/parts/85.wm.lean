/-! turns, minutes, a pass, for the stream -/
theorem wy_turn1 {σ : sg_S} {w : Nat} (hc : 0 < σ 12 w) (h200 : σ 12 w ≤ 200) : (∀ f j, f < 12 ∨ 16 < f → sp_turn1 σ w f j = σ f j) ∧ (∀ v, v ≠ w → sp_turn1 σ w 12 v = σ 12 v ∧ sp_turn1 σ w 15 v = σ 15 v ∧ sp_turn1 σ w 16 v = σ 16 v ∧ ∀ z, z < 200 → sp_turn1 σ w 14 (220 * v + z) = σ 14 (220 * v + z)) ∧ sp_turn1 σ w 12 w = σ 12 w - 1 ∧ sp_turn1 σ w 15 w = σ 14 (220 * w) ∧ sp_turn1 σ w 16 w = 0 ∧ ∀ j : Nat, (j : Int) < σ 12 w - 1 → sp_turn1 σ w 14 (220 * w + j) = σ 14 (220 * w + j + 1) := by
  have e14 : ∀ j, sp_turn0 σ w 14 j = σ 14 j := fun j => by unfold sp_turn0; rw [st_nf (by decide), st_nf (by decide), st_nf (by decide), st_nf (by decide)]
  refine ⟨fun f j h => sp_turn1_f h, fun v hv => ⟨?_, ?_, ?_, fun z hz => ?_⟩, ?_, ?_, ?_, fun j hj => ?_⟩
  · unfold sp_turn1 sp_turn0
    rw [sp_shl_f (by decide), st_nf (by decide), st_ni hv, st_nf (by decide), st_nf (by decide)]
  · unfold sp_turn1 sp_turn0
    rw [sp_shl_f (by decide), st_nf (by decide), st_nf (by decide), st_ni hv, st_nf (by decide)]
  · unfold sp_turn1 sp_turn0
    rw [sp_shl_f (by decide), st_nf (by decide), st_nf (by decide), st_nf (by decide), st_ni hv]
  · unfold sp_turn1 sp_shl
    rw [if_neg (by omega), e14]
  · unfold sp_turn1 sp_turn0
    rw [sp_shl_f (by decide), st_nf (by decide), st_eq]
  · unfold sp_turn1 sp_turn0
    rw [sp_shl_f (by decide), st_nf (by decide), st_nf (by decide), st_eq]
  · unfold sp_turn1 sp_turn0
    rw [sp_shl_f (by decide), st_nf (by decide), st_nf (by decide), st_nf (by decide), st_eq]
  · unfold sp_turn1 sp_shl
    rw [if_pos ⟨rfl, by omega, by omega⟩, e14]
theorem wy_turn {B : Int} {σ : sg_S} {u N n t : Nat} {S : Nat → Int} {off mny : Nat → Nat} {β : Int} (hu : u = 0 ∨ u = 1) (h3 : σ 3 0 = (N : Int)) (ht : t < N) (h39 : σ 39 0 = 0) (hB : md_wb B σ) (hn : n ≤ 30) (hG : wy_G S off mny n) (hW : wy_W σ u N S off mny n β) : wy_W (sp_turn σ (t : Int) (u : Int) (2 * t + u)) u N S off mny n β ∧ wy_S1 σ (sp_turn σ (t : Int) (u : Int) (2 * t + u)) (1 - u) ∧ wy_S2 σ (sp_turn σ (t : Int) (u : Int) (2 * t + u)) (1 - u) := by
  obtain ⟨T, q1, q2, q3⟩ := id hW
  have b12 : ∀ w, 0 ≤ σ 12 w ∧ σ 12 w ≤ 200 := fun w => wb12 hB w
  have b14 := wb14 hB (220 * (2 * t + u))
  have ce : ((t : Int) = if (u : Int) = 0 then 0 else σ 3 0 - 1) ↔ t = wy_e u N := by
    rw [h3]
    unfold wy_e
    rcases hu with rfl | rfl
    · simp
    · simp; omega
  have key : ¬ (((t : Int) = if (u : Int) = 0 then 0 else σ 3 0 - 1) ∨ (σ 15 (2 * t + u) ≠ -1 ∧ σ 16 (2 * t + u) = 0)) → t ≠ wy_e u N ∧ wy_h σ (2 * t + u) = 0 := fun h => by
    refine ⟨fun z => h (Or.inl (ce.mpr z)), ?_⟩
    unfold wy_h
    rw [if_neg (fun z => h (Or.inr ⟨z.2, z.1⟩))]
  have nxt : ¬ (((t : Int) = if (u : Int) = 0 then 0 else σ 3 0 - 1) ∨ (σ 15 (2 * t + u) ≠ -1 ∧ σ 16 (2 * t + u) = 0)) → ¬ σ 12 (2 * t + u) ≤ 0 → wy_W (sp_turn1 σ (2 * t + u)) u N S off mny n β ∧ wy_S1 σ (sp_turn1 σ (2 * t + u)) (1 - u) ∧ wy_S2 σ (sp_turn1 σ (2 * t + u)) (1 - u) := fun c1 c2 => by
    obtain ⟨k1, k2⟩ := key c1
    obtain ⟨f0, f1, f2, f3, f4, f5⟩ := wy_turn1 (σ := σ) (w := 2 * t + u) (by omega) (b12 _).2
    have hS2 : ∀ v, wy_S2 σ (sp_turn1 σ (2 * t + u)) v := fun v => wy_S2_of v fun f j a b => f0 f j (by omega)
    refine ⟨⟨T, wy_next q1 ht k1 k2 (by omega) b14.1 (fun f w a b => f0 f w (by omega)) (fun w h => (f1 w h).1) (fun w h => (f1 w h).2.1) (fun w h => (f1 w h).2.2.1) (fun w z h hz => (f1 w h).2.2.2 z hz) f2 f3 f4 f5 b12, q2, wy_T_S hn hG (hS2 u) q3⟩, fun w hw => ?_, hS2 _⟩
    have hne : w ≠ 2 * t + u := by omega
    obtain ⟨z1, z2, z3, z4⟩ := f1 w hne
    exact ⟨z1, z2, z3, f0 17 w (by decide), z4, fun z hz => ⟨f0 19 _ (by decide), f0 20 _ (by decide)⟩⟩
  refine sp_turn_by (fun ρ => wy_W ρ u N S off mny n β ∧ wy_S1 σ ρ (1 - u) ∧ wy_S2 σ ρ (1 - u)) ⟨hW, wy_S1_rf, wy_S2_rf⟩ (fun c1 c2 => ?_) (fun c1 c2 _ => nxt c1 c2) (fun c1 c2 _ => ?_)
  · obtain ⟨k1, k2⟩ := key c1
    have f0 : ∀ f j, f ≠ 15 → f ≠ 16 → (st (st σ 16 (2 * t + u) 0) 15 (2 * t + u) (-1)) f j = σ f j := fun f j a b => by rw [st_nf a, st_nf b]
    have hS2 : ∀ v, wy_S2 σ (st (st σ 16 (2 * t + u) 0) 15 (2 * t + u) (-1)) v := fun v => wy_S2_of v fun f j a b => f0 f j (by omega) (by omega)
    refine ⟨⟨T, wy_none q1 k2 f0 (fun w h => by rw [st_ni h, st_nf (by decide)]) (fun w h => by rw [st_nf (by decide), st_ni h]) st_eq, q2, wy_T_S hn hG (hS2 u) q3⟩, fun w hw => ?_, hS2 _⟩
    have hne : w ≠ 2 * t + u := by omega
    exact ⟨f0 12 w (by decide) (by decide), by rw [st_ni hne, st_nf (by decide)], by rw [st_nf (by decide), st_ni hne], f0 17 w (by decide) (by decide), fun z _ => f0 14 _ (by decide) (by decide), fun z _ => ⟨f0 19 _ (by decide) (by decide), f0 20 _ (by decide) (by decide)⟩⟩
  · rw [h39]
    exact nxt c1 c2
/-- both ways -/
def wy_B (σ : sg_S) (N : Nat) (S : Nat → Nat → Int) (off mny : Nat → Nat → Nat) (n : Nat → Nat) (β1 β0 : Int) : Prop := wy_W σ 1 N (S 1) (off 1) (mny 1) (n 1) β1 ∧ wy_W σ 0 N (S 0) (off 0) (mny 0) (n 0) β0
def wy_GG (S : Nat → Nat → Int) (off mny : Nat → Nat → Nat) (n : Nat → Nat) : Prop := ∀ u, n u ≤ 30 ∧ wy_G (S u) (off u) (mny u) (n u)
theorem wy_B_of {σ ρ : sg_S} {N : Nat} {S : Nat → Nat → Int} {off mny : Nat → Nat → Nat} {n : Nat → Nat} {β1 β0 : Int} (hG : wy_GG S off mny n) (b12 : ∀ w, σ 12 w ≤ 200) (h : ∀ f j, (12 ≤ f ∧ f ≤ 20) ∨ (27 ≤ f ∧ f ≤ 38) → ρ f j = σ f j) (hB : wy_B σ N S off mny n β1 β0) : wy_B ρ N S off mny n β1 β0 :=
  ⟨wy_W_S (Or.inr rfl) (hG 1).1 (hG 1).2 b12 (wy_S1_of 1 fun f j a b => h f j (by omega)) (wy_S2_of 1 fun f j a b => h f j (by omega)) hB.1, wy_W_S (Or.inl rfl) (hG 0).1 (hG 0).2 b12 (wy_S1_of 0 fun f j a b => h f j (by omega)) (wy_S2_of 0 fun f j a b => h f j (by omega)) hB.2⟩
theorem wy_lks {T : Int} {J : sg_S → Prop} (hJ : md_J J) {σ : sg_S} (h : J σ) (hW : md_wb T σ) {N : Nat} {S : Nat → Nat → Int} {off mny : Nat → Nat → Nat} {n : Nat → Nat} {β : Int} (hG : wy_GG S off mny n) (h3 : σ 3 0 = (N : Int)) (h6 : ∀ j, σ 6 j = 0) (hβ : β < σ 1 0) (hB : wy_B σ N S off mny n β β) : ∀ m : Nat, m ≤ N → wy_B (sp_lks σ m) N S off mny n (if m = N ∧ 0 < N then σ 1 0 else β) (if m = 0 then β else σ 1 0)
  | 0, hm => by
    rw [if_neg (by omega), if_pos rfl]; exact hB
  | m + 1, hm => by
    obtain ⟨i1, i0⟩ := wy_lks hJ h hW hG h3 h6 hβ hB m (by omega)
    rw [if_neg (by omega)] at i1
    have hJ1 := sp_lks_J hJ h m (by omega)
    have hW1 := sp_lks_wb hJ h hW m (by omega)
    have e : ∀ f j, f ≠ 12 → f ≠ 14 → f < 16 ∨ 20 < f → f < 27 ∨ 38 < f → sp_lks σ m f j = σ f j := fun f j a b c d => sp_lks_f a b c d m
    have e3 : sp_lks σ m 3 0 = (N : Int) := (e 3 0 (by decide) (by decide) (by decide) (by decide)).trans h3
    have e1 : sp_lks σ m 1 0 = σ 1 0 := e 1 0 (by decide) (by decide) (by decide) (by decide)
    have e6 : ∀ j, sp_lks σ m 6 j = 0 := fun j => (e 6 j (by decide) (by decide) (by decide) (by decide)).trans (h6 j)
    obtain ⟨l1, l2, l3⟩ := wy_look (β' := if m + 1 = N ∧ 0 < N then σ 1 0 else β) (Or.inr rfl) e3 (show m < N by omega) e6 hW1 (hG 1).1 (hG 1).2 i1 (fun _ => by rw [e1]; exact hβ) (by split <;> omega) (fun z => by unfold wy_e at z; simp at z; rw [e1, if_pos (by omega)]; exact Int.le_refl _)
    have hW2 : md_wb T (sp_looks (sp_lks σ m) (m : Int) ((1 : Nat) : Int)) := sp_looks_wb hW1 (hJ.1 _ hJ1).1
    have k0 := wy_W_S (Or.inl rfl) (hG 0).1 (hG 0).2 (fun w => (wb12 hW1 w).2) l2 l3 i0
    have g : ∀ f j, f ≠ 12 → f ≠ 14 → f < 16 ∨ 20 < f → f < 27 ∨ 38 < f → sp_looks (sp_lks σ m) (m : Int) ((1 : Nat) : Int) f j = sp_lks σ m f j := fun f j a b c d => sp_looks_f a b c d
    obtain ⟨m1, m2, m3⟩ := wy_look (β' := σ 1 0) (Or.inl rfl) ((g 3 0 (by decide) (by decide) (by decide) (by decide)).trans e3) (show m < N by omega) (fun j => (g 6 j (by decide) (by decide) (by decide) (by decide)).trans (e6 j)) hW2 (hG 0).1 (hG 0).2 k0 (fun z => by unfold wy_e at z; simp at z; rw [g 1 0 (by decide) (by decide) (by decide) (by decide), e1, if_pos z]; exact hβ) (by split <;> omega) (fun z => by rw [g 1 0 (by decide) (by decide) (by decide) (by decide), e1]; exact Int.le_refl _)
    have k1 := wy_W_S (Or.inr rfl) (hG 1).1 (hG 1).2 (fun w => (wb12 hW2 w).2) m2 m3 l1
    rw [if_neg (show ¬ m + 1 = 0 by omega)]
    exact ⟨k1, m1⟩
theorem wy_trs {T : Int} {σ : sg_S} (hW : md_wb T σ) {N : Nat} {S : Nat → Nat → Int} {off mny : Nat → Nat → Nat} {n : Nat → Nat} {β1 β0 : Int} (hG : wy_GG S off mny n) (h3 : σ 3 0 = (N : Int)) (h39 : σ 39 0 = 0) (hB : wy_B σ N S off mny n β1 β0) : ∀ m : Nat, m ≤ N → wy_B (sp_trs σ m) N S off mny n β1 β0
  | 0, _ => hB
  | m + 1, hm => by
    obtain ⟨i1, i0⟩ := wy_trs hW hG h3 h39 hB m (by omega)
    have hW1 := sp_trs_wb hW m
    have e : ∀ f j, f < 12 ∨ 16 < f → f < 41 ∨ 42 < f → sp_trs σ m f j = σ f j := fun f j a b => sp_trs_f a b m
    obtain ⟨l1, l2, l3⟩ := wy_turn (Or.inr rfl) ((e 3 0 (by decide) (by decide)).trans h3) (show m < N by omega) ((e 39 0 (by decide) (by decide)).trans h39) hW1 (hG 1).1 (hG 1).2 i1
    have hW2 : md_wb T (sp_turn (sp_trs σ m) (m : Int) ((1 : Nat) : Int) (2 * m + 1)) := sp_turn_wb hW1
    have k0 := wy_W_S (Or.inl rfl) (hG 0).1 (hG 0).2 (fun w => (wb12 hW1 w).2) l2 l3 i0
    have g : ∀ f j, f < 12 ∨ 16 < f → f < 41 ∨ 42 < f → sp_turn (sp_trs σ m) (m : Int) ((1 : Nat) : Int) (2 * m + 1) f j = sp_trs σ m f j := fun f j a b => sp_turn_f a b
    obtain ⟨m1, m2, m3⟩ := wy_turn (Or.inl rfl) ((g 3 0 (by decide) (by decide)).trans ((e 3 0 (by decide) (by decide)).trans h3)) (show m < N by omega) ((g 39 0 (by decide) (by decide)).trans ((e 39 0 (by decide) (by decide)).trans h39)) hW2 (hG 0).1 (hG 0).2 k0
    have k1 := wy_W_S (Or.inr rfl) (hG 1).1 (hG 1).2 (fun w => (wb12 hW2 w).2) m2 m3 l1
    exact ⟨k1, m1⟩
theorem wy_min {T : Int} {J : sg_S → Prop} (hJ : md_J J) {σ : sg_S} (h : J σ) (hW : md_wb T σ) (hT : σ 1 0 + 1 ≤ T) {N : Nat} {S : Nat → Nat → Int} {off mny : Nat → Nat → Nat} {n : Nat → Nat} (hG : wy_GG S off mny n) (hN : 0 < N) (h3 : σ 3 0 = (N : Int)) (h6 : ∀ j, σ 6 j = 0) (h39 : σ 39 0 = 0) (hB : wy_B σ N S off mny n (σ 1 0) (σ 1 0)) : wy_B (sp_min σ) N S off mny n (sp_min σ 1 0) (sp_min σ 1 0) := by
  have eT : ∀ f j, f ≠ 1 → f ≠ 2 → sp_tick σ f j = σ f j := fun f j a b => by unfold sp_tick; rw [st_nf a, st_nf b]
  have eT1 : sp_tick σ 1 0 = σ 1 0 + 1 := by unfold sp_tick; rw [st_eq]
  have hJT := hJ.2.2.2.1 _ h
  have hWT := sp_tick_wb hW hT
  have b0 := wy_B_of (ρ := sp_tick σ) hG (fun w => (wb12 hW w).2) (fun f j a => eT f j (by omega) (by omega)) hB
  have b1 := wy_lks hJ hJT hWT hG ((eT 3 0 (by decide) (by decide)).trans h3) (fun j => (eT 6 j (by decide) (by decide)).trans (h6 j)) (by rw [eT1]; omega) b0 N (Nat.le_refl _)
  rw [if_pos ⟨rfl, hN⟩, if_neg (by omega)] at b1
  have hW1 := sp_lks_wb hJ hJT hWT N (by rw [eT 3 0 (by decide) (by decide), h3]; exact Int.le_refl _)
  have b2 := wy_trs hW1 hG ((sp_lks_f (by decide) (by decide) (by decide) (by decide) N).trans ((eT 3 0 (by decide) (by decide)).trans h3)) ((sp_lks_f (by decide) (by decide) (by decide) (by decide) N).trans ((eT 39 0 (by decide) (by decide)).trans h39)) b1 N (Nat.le_refl _)
  rw [sp_min_1]
  unfold sp_min
  rw [h3, Int.toNat_natCast, ← eT1]
  exact b2
theorem wy_mins {T : Int} {J : sg_S → Prop} (hJ : md_J J) {σ : sg_S} (h : J σ) (hW : md_wb T σ) {N : Nat} {S : Nat → Nat → Int} {off mny : Nat → Nat → Nat} {n : Nat → Nat} (hG : wy_GG S off mny n) (hN : 0 < N) (h3 : σ 3 0 = (N : Int)) (h6 : ∀ j, σ 6 j = 0) (h39 : σ 39 0 = 0) (hB : wy_B σ N S off mny n (σ 1 0) (σ 1 0)) : ∀ m : Nat, σ 1 0 + m ≤ T → wy_B (sp_mins σ m) N S off mny n (sp_mins σ m 1 0) (sp_mins σ m 1 0)
  | 0, _ => hB
  | m + 1, hm => by
    have ih := wy_mins hJ h hW hG hN h3 h6 h39 hB m (by omega)
    obtain ⟨j1, j2⟩ := sp_mins_JW hJ h hW m (by omega)
    have e : ∀ f j, f ≠ 1 ∧ f ≠ 2 → f < 12 ∨ 20 < f → f < 27 ∨ 38 < f → f < 41 ∨ 42 < f → sp_mins σ m f j = σ f j := fun f j a b c d => sp_mins_f a b c d m
    exact wy_min hJ j1 j2 (by rw [sp_mins_1]; omega) hG hN ((e 3 0 (by decide) (by decide) (by decide) (by decide)).trans h3) (fun j => (e 6 j (by decide) (by decide) (by decide) (by decide)).trans (h6 j)) ((e 39 0 (by decide) (by decide) (by decide) (by decide)).trans h39) ih
theorem wy_pass {k : Nat} {σ : sg_S} (hR : sg_R k σ) (hk : k < 512) {N : Nat} {S : Nat → Nat → Int} {off mny : Nat → Nat → Nat} {n : Nat → Nat} (hG : wy_GG S off mny n) (hN : 0 < N) (h3 : σ 3 0 = (N : Int)) (h6 : ∀ j, σ 6 j = 0) (h39 : σ 39 0 = 0) (hB : wy_B σ N S off mny n (σ 1 0) (σ 1 0)) {a : Int} (ha : 1 ≤ a ∧ a ≤ 200) : wy_B (bs_pass σ a) N S off mny n (bs_pass σ a 1 0) (bs_pass σ a 1 0) ∧ bs_pass σ a 1 0 = σ 1 0 + a ∧ ∀ f j, (f = 0 ∨ f = 3 ∨ f = 6 ∨ (21 ≤ f ∧ f ≤ 23) ∨ f = 39) → bs_pass σ a f j = (st σ 0 0 0) f j := by
  obtain ⟨r1, r2, r3, r4⟩ := id hR
  obtain ⟨j1, j2, j3, j4, j5, j6, j7, j8⟩ := id r4
  have hag : ∀ f, f ≤ 48 → bs_pass σ a f = sp_pass σ a f := ag_pass
  have hP : sp_pass σ a = sp_mins (st σ 0 0 0) a.toNat := by unfold sp_pass; rw [if_neg (by omega)]
  have hW0 : md_wb 110000 (st σ 0 0 0) := wb_0 r1 (by decide)
  have hM : sg_M k (st σ 0 0 0) := (sg_J_M k).2.2.2.2 _ ⟨si_mono j1 (Nat.le_refl _) (by have := j2.1.1; omega), j4⟩
  have z : ∀ f j, f ≠ 0 → (st σ 0 0 0) f j = σ f j := fun f j h => st_nf h
  have b0 := wy_B_of (ρ := st σ 0 0 0) hG (fun w => (wb12 r1 w).2) (fun f j h => z f j (by omega)) hB
  have e10 : (st σ 0 0 0) 1 0 = σ 1 0 := z 1 0 (by decide)
  have b1 := wy_mins (sg_J_M k) hM hW0 hG hN ((z 3 0 (by decide)).trans h3) (fun j => (z 6 j (by decide)).trans (h6 j)) ((z 39 0 (by decide)).trans h39) (by rw [e10]; exact b0) a.toNat (by rw [e10]; omega)
  have e1 : bs_pass σ a 1 0 = σ 1 0 + a := by rw [hag 1 (by decide), hP, sp_mins_1, e10]; omega
  have hWm := (sp_mins_JW (sg_J_M k) hM hW0 a.toNat (by rw [e10]; omega)).2
  refine ⟨?_, e1, fun f j h => ?_⟩
  · have e2 : sp_mins (st σ 0 0 0) a.toNat 1 0 = bs_pass σ a 1 0 := by rw [hag 1 (by decide), hP]
    rw [e2] at b1
    exact wy_B_of hG (fun w => (wb12 hWm w).2) (fun f j h => by rw [hag f (by omega), hP]) b1
  · rw [hag f (by omega), hP]
    exact sp_mins_f (by omega) (by omega) (by omega) (by omega) _
