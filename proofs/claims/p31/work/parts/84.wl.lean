/-! a look, for the stream -/
def wy_W (σ : sg_S) (u N : Nat) (S : Nat → Int) (off mny : Nat → Nat) (n : Nat) (β : Int) : Prop := ∃ T : Nat → Nat, wy_A σ u N S T ∧ T (wy_s u N) = off n ∧ wy_T σ u S off mny n (T (wy_e u N)) β
theorem wy_W_S {σ ρ : sg_S} {u N n : Nat} {S : Nat → Int} {off mny : Nat → Nat} {β : Int} (hu : u = 0 ∨ u = 1) (hn : n ≤ 30) (hG : wy_G S off mny n) (b12 : ∀ w, σ 12 w ≤ 200) (h1 : wy_S1 σ ρ u) (h2 : wy_S2 σ ρ u) (hW : wy_W σ u N S off mny n β) : wy_W ρ u N S off mny n β := by
  obtain ⟨T, q1, q2, q3⟩ := hW
  exact ⟨T, wy_A_S hu h1 b12 q1, q2, wy_T_S hn hG h2 q3⟩
theorem wy_W_up {σ : sg_S} {u N n : Nat} {S : Nat → Int} {off mny : Nat → Nat} {β β' : Int} (hb : β ≤ β') (hW : wy_W σ u N S off mny n β) : wy_W σ u N S off mny n β' := by
  obtain ⟨T, q1, q2, q3⟩ := hW
  exact ⟨T, q1, q2, wy_T_up hb q3⟩
theorem wy_S1_rf {σ : sg_S} {v : Nat} : wy_S1 σ σ v := wy_S1_of v fun _ _ _ _ => rfl
theorem wy_S2_rf {σ : sg_S} {v : Nat} : wy_S2 σ σ v := wy_S2_of v fun _ _ _ _ => rfl
/-- nobody took more than was sent -/
theorem wy_mono {σ : sg_S} {u N : Nat} {T : Nat → Nat} (hu : u = 0 ∨ u = 1) (b12 : ∀ w, 0 ≤ σ 12 w) (h : wy_A1 σ u N T) : ∀ k t, t < N → (k = if u = 1 then t else N - 1 - t) → T t ≤ T (wy_s u N)
  | 0, t, ht, hk => by
    have e : t = wy_s u N := by
      unfold wy_s
      rcases hu with rfl | rfl
      · simp at hk ⊢; omega
      · simp at hk ⊢; omega
    rw [← e]; exact Nat.le_refl _
  | k + 1, t, ht, hk => by
    rcases hu with rfl | rfl
    · simp at hk
      have ih := wy_mono (Or.inl rfl) b12 h k (t + 1) (by omega) (by simp; omega)
      have g := h (t + 1) (by omega) (by unfold wy_e; simp)
      have b := b12 (2 * (t + 1) + 0)
      have e : wy_n 0 (t + 1) = t := by unfold wy_n; simp
      rw [e] at g
      omega
    · simp at hk
      have ih := wy_mono (Or.inr rfl) b12 h k (t - 1) (by omega) (by simp; omega)
      have g := h (t - 1) (by omega) (by unfold wy_e; simp; omega)
      have b := b12 (2 * (t - 1) + 1)
      have e : wy_n 1 (t - 1) = t := by unfold wy_n; simp; omega
      rw [e] at g
      omega
theorem sp_looks_by2 (P : sg_S → Prop) {σ : sg_S} {t u : Int} (h0 : P σ)
    (h1 : (0 ≤ sp_lk σ t u ∧ sp_lk σ t u ≤ σ 3 0 - 1) → (t = if u = 0 then 0 else σ 3 0 - 1) → (σ 15 (2 * (sp_ln t u) + u.toNat) ≠ -1 ∧ σ 16 (2 * (sp_ln t u) + u.toNat) = 0) → P (sp_tapes (sp_writes (st σ 16 (2 * (sp_ln t u) + u.toNat) 1) (2 * t + u) (an_reads σ t (σ 15 (2 * (sp_ln t u) + u.toNat))) 0) u.toNat (an_reads σ t (σ 15 (2 * (sp_ln t u) + u.toNat)))))
    (h2 : (0 ≤ sp_lk σ t u ∧ sp_lk σ t u ≤ σ 3 0 - 1) → ¬ (t = if u = 0 then 0 else σ 3 0 - 1) → (σ 15 (2 * (sp_ln t u) + u.toNat) ≠ -1 ∧ σ 16 (2 * (sp_ln t u) + u.toNat) = 0) → σ 12 (2 * t.toNat + u.toNat) < 10 → P (sp_kp (sp_writes (st σ 16 (2 * (sp_ln t u) + u.toNat) 1) (2 * t + u) (an_reads σ t (σ 15 (2 * (sp_ln t u) + u.toNat))) 0) (2 * t.toNat + u.toNat) (σ 12 (2 * t.toNat + u.toNat)).toNat (an_reads σ t (σ 15 (2 * (sp_ln t u) + u.toNat))))) : P (sp_looks σ t u) := by
  unfold sp_looks
  by_cases c1 : ¬ (0 ≤ sp_lk σ t u ∧ sp_lk σ t u ≤ σ 3 0 - 1)
  · rw [if_pos c1]; exact h0
  · rw [if_neg c1]
    have c1' := Decidable.not_not.mp c1
    by_cases c2 : (σ 15 (2 * (sp_ln t u) + u.toNat) ≠ -1 ∧ σ 16 (2 * (sp_ln t u) + u.toNat) = 0 ∧ ((t = if u = 0 then 0 else σ 3 0 - 1) ∨ σ 12 (2 * t.toNat + u.toNat) < 10) ∧ an_see σ (if u = 0 then t.toNat else (sp_ln t u)) = 1)
    · rw [if_pos c2]
      by_cases c3 : (t = if u = 0 then 0 else σ 3 0 - 1)
      · rw [if_pos c3]; exact h1 c1' c3 ⟨c2.1, c2.2.1⟩
      · rw [if_neg c3]; exact h2 c1' c3 ⟨c2.1, c2.2.1⟩ (c2.2.2.1.elim (fun z => absurd z c3) id)
    · rw [if_neg c2]; exact h0
theorem wy_reads {σ : sg_S} {t s : Int} (h6 : ∀ j, σ 6 j = 0) : an_reads σ t s = s := by
  unfold an_reads
  rw [if_neg (fun z => by have := z.1; rw [h6] at this; omega)]
/-- what a taken sign writes into a log -/
theorem wy_log {σ : sg_S} {a b : Nat} {s wv : Int} (hw : wv = (a : Int)) : (∀ f w, f < 16 ∨ 20 < f → sp_writes (st σ 16 b 1) wv s 0 f w = σ f w) ∧ (∀ w, sp_writes (st σ 16 b 1) wv s 0 16 w = if w = b then 1 else σ 16 w) ∧ (∀ w, w ≠ a → sp_writes (st σ 16 b 1) wv s 0 17 w = σ 17 w) ∧ (∀ f w z, f = 19 ∨ f = 20 → w ≠ a → z < 300 → sp_writes (st σ 16 b 1) wv s 0 f (300 * w + z) = σ f (300 * w + z)) ∧
    (σ 17 a < 300 → 0 ≤ σ 17 a → sp_writes (st σ 16 b 1) wv s 0 17 a = σ 17 a + 1 ∧ sp_writes (st σ 16 b 1) wv s 0 19 (300 * a + (σ 17 a).toNat) = s ∧ sp_writes (st σ 16 b 1) wv s 0 20 (300 * a + (σ 17 a).toNat) = 0 ∧ ∀ j : Nat, (j : Int) < σ 17 a → sp_writes (st σ 16 b 1) wv s 0 19 (300 * a + j) = σ 19 (300 * a + j) ∧ sp_writes (st σ 16 b 1) wv s 0 20 (300 * a + j) = σ 20 (300 * a + j)) ∧
    (¬ σ 17 a < 300 → sp_writes (st σ 16 b 1) wv s 0 17 a = σ 17 a ∧ ∀ j : Nat, j < 300 → sp_writes (st σ 16 b 1) wv s 0 19 (300 * a + j) = σ 19 (300 * a + j) ∧ sp_writes (st σ 16 b 1) wv s 0 20 (300 * a + j) = σ 20 (300 * a + j)) := by
  have ha : wv.toNat = a := by rw [hw]; exact Int.toNat_natCast a
  have ho := sp_writes_o (σ := st σ 16 b 1) (s := s) (o := 0) ha
  have e17 : (st σ 16 b 1) 17 a = σ 17 a := st_nf (by decide)
  refine ⟨fun f w h => by rw [sp_writes_f (by omega), st_nf (by omega)], fun w => ?_, fun w h => by rw [ho.1 w h, st_nf (by decide)], fun f w z hf h hz => by rw [ho.2 f w z (by omega) h hz, st_nf (by omega)], fun h h0 => ?_, fun h => ?_⟩
  · rw [sp_writes_f (by decide)]
    by_cases c : w = b
    · rw [c, st_eq, if_pos rfl]
    · rw [st_ni c, if_neg c]
  · unfold sp_writes
    rw [ha, e17, if_pos h]
    refine ⟨st_eq, ?_, ?_, fun j hj => ⟨?_, ?_⟩⟩
    · rw [st_nf (by decide), st_nf (by decide), st_eq]
    · rw [st_nf (by decide), st_eq]
    · rw [st_nf (by decide), st_nf (by decide), st_ni (by omega), st_nf (by decide), st_nf (by decide)]
    · rw [st_nf (by decide), st_ni (by omega), st_nf (by decide), st_nf (by decide), st_nf (by decide)]
  · unfold sp_writes
    rw [ha, e17, if_neg h]
    exact ⟨st_nf (by decide), fun j hj => ⟨st_nf (by decide), st_nf (by decide)⟩⟩
set_option maxHeartbeats 4000000 in
theorem wy_look {B : Int} {σ : sg_S} {u N n t : Nat} {S : Nat → Int} {off mny : Nat → Nat} {β β' : Int} (hu : u = 0 ∨ u = 1) (h3 : σ 3 0 = (N : Int)) (ht : t < N) (h6 : ∀ j, σ 6 j = 0) (hB : md_wb B σ) (hn : n ≤ 30) (hG : wy_G S off mny n) (hW : wy_W σ u N S off mny n β) (h0 : t = wy_e u N → β < σ 1 0) (h1 : β ≤ β') (h2 : t = wy_e u N → σ 1 0 ≤ β') : wy_W (sp_looks σ (t : Int) (u : Int)) u N S off mny n β' ∧ wy_S1 σ (sp_looks σ (t : Int) (u : Int)) (1 - u) ∧ wy_S2 σ (sp_looks σ (t : Int) (u : Int)) (1 - u) := by
  obtain ⟨T, q1, q2, q3⟩ := id hW
  have b12 : ∀ w, 0 ≤ σ 12 w ∧ σ 12 w ≤ 200 := fun w => wb12 hB w
  have tu : (u : Int).toNat = u := Int.toNat_natCast u
  have tt : (t : Int).toNat = t := Int.toNat_natCast t
  obtain ⟨tb, htb⟩ : ∃ z, z = sp_ln (t : Int) (u : Int) := ⟨_, rfl⟩
  have lk : (0 ≤ sp_lk σ (t : Int) (u : Int) ∧ sp_lk σ (t : Int) (u : Int) ≤ σ 3 0 - 1) → tb < N ∧ tb ≠ wy_e u N ∧ wy_n u tb = t := by
    rw [htb, h3]
    unfold sp_lk sp_ln wy_e wy_n
    rw [tt]
    rcases hu with rfl | rfl
    · simp; omega
    · simp; omega
  have ce : ((t : Int) = if (u : Int) = 0 then 0 else σ 3 0 - 1) ↔ t = wy_e u N := by
    rw [h3]
    unfold wy_e
    rcases hu with rfl | rfl
    · simp
    · simp; omega
  refine sp_looks_by2 (fun ρ => wy_W ρ u N S off mny n β' ∧ wy_S1 σ ρ (1 - u) ∧ wy_S2 σ ρ (1 - u)) ⟨wy_W_up h1 hW, wy_S1_rf, wy_S2_rf⟩ (fun l1 l2 l3 => ?_) (fun l1 l2 l3 l4 => ?_)
  · rw [tu, ← htb] at l3 ⊢
    rw [wy_reads h6]
    have ee := ce.mp l2
    obtain ⟨k1, k2, k3⟩ := lk l1
    have hsh : wy_h σ (2 * tb + u) = 1 := by unfold wy_h; rw [if_pos ⟨l3.2, l3.1⟩]
    obtain ⟨x0, x16, x17, xl, xw1, xw2⟩ := wy_log (σ := σ) (a := 2 * t + u) (b := 2 * tb + u) (s := σ 15 (2 * tb + u)) (wv := 2 * (t : Int) + (u : Int)) (by omega)
    have b17 := wb17 hB (2 * t + u)
    generalize sp_writes (st σ 16 (2 * tb + u) 1) (2 * (t : Int) + (u : Int)) (σ 15 (2 * tb + u)) 0 = X at x0 x16 x17 xl xw1 xw2 ⊢
    have hs : σ 15 (2 * tb + u) = S (T t) := by rw [q1.2.2.1 tb k1 k2 hsh, k3]
    have hτ : T (wy_e u N) < off n := by
      have g := q1.1 tb k1 k2
      rw [k3, hsh, ee] at g
      have g2 := wy_mono hu (fun w => (b12 w).1) q1.1 _ tb k1 rfl
      have g3 := (b12 (2 * tb + u)).1
      rw [q2] at g2
      omega
    have hX2 : ∀ v, wy_S2 σ X v := fun v => wy_S2_of v fun f j c1 c2 => x0 f j (by omega)
    have hTX := wy_T_S hn hG (hX2 u) q3
    have e1 : X 1 0 = σ 1 0 := x0 1 0 (by decide)
    obtain ⟨r1, r2, r3⟩ := wy_tape (s := σ 15 (2 * tb + u)) hu hn hG hTX hτ (by rw [e1]; exact h0 ee) (by rw [hs, ee])
    rw [e1] at r1
    have hA := wy_take (ρ := sp_tapes X u (σ 15 (2 * tb + u))) hu q1 k1 k2 k3 hsh rfl (fun w _ => by rw [r2 12 _ (by decide)]; exact x0 12 w (by decide)) (fun w z _ _ => by rw [r2 14 _ (by decide)]; exact x0 14 _ (by decide)) (fun w => by rw [r2 15 _ (by decide)]; exact x0 15 w (by decide)) (fun w hw => by rw [r2 16 _ (by decide), x16, if_neg hw]) (by rw [r2 16 _ (by decide), x16, if_pos rfl]) (fun z => absurd ee z) (fun w hw => by rw [r2 17 _ (by decide)]; exact x17 w hw) (fun f w z hf hw hz => by rw [r2 f _ (by omega)]; exact xl f w z hf hw hz) (fun h => by rw [r2 17 _ (by decide), r2 19 _ (by decide), r2 20 _ (by decide)]; obtain ⟨z1, z2, z3, z4⟩ := xw1 h b17.1; exact ⟨z1, z2, z3, fun j hj => by rw [r2 19 _ (by decide), r2 20 _ (by decide)]; exact z4 j hj⟩) (fun h => by rw [r2 17 _ (by decide)]; obtain ⟨z1, z2⟩ := xw2 h; exact ⟨z1, fun j hj => by rw [r2 19 _ (by decide), r2 20 _ (by decide)]; exact z2 j hj⟩) b12
    refine ⟨⟨_, hA, ?_, ?_⟩, fun w hw => ?_, ?_⟩
    · have : wy_s u N ≠ t := by rw [ee]; unfold wy_s wy_e; rcases hu with rfl | rfl <;> simp <;> unfold wy_e at k2 <;> simp at k2 <;> omega
      rw [wy_up_ne this]; exact q2
    · rw [← ee] at r1 ⊢
      rw [wy_up_eq]
      exact wy_T_up (h2 ee) r1
    · have hne : w ≠ 2 * t + u ∧ w ≠ 2 * tb + u := by omega
      refine ⟨by rw [r2 12 _ (by decide)]; exact x0 12 w (by decide), by rw [r2 15 _ (by decide)]; exact x0 15 w (by decide), by rw [r2 16 _ (by decide), x16, if_neg hne.2], by rw [r2 17 _ (by decide)]; exact x17 w hne.1, fun z _ => by rw [r2 14 _ (by decide)]; exact x0 14 _ (by decide), fun z hz => ⟨by rw [r2 19 _ (by decide)]; exact xl 19 w z (Or.inl rfl) hne.1 hz, by rw [r2 20 _ (by decide)]; exact xl 20 w z (Or.inr rfl) hne.1 hz⟩⟩
    · obtain ⟨⟨y1, y2, y3, y4, y5, y6⟩, y7, y8⟩ := r3
      obtain ⟨⟨w1, w2, w3, w4, w5, w6⟩, w7, w8⟩ := hX2 (1 - u)
      exact ⟨⟨y1.trans w1, y2.trans w2, y3.trans w3, y4.trans w4, y5.trans w5, y6.trans w6⟩, fun z hz => (y7 z hz).trans (w7 z hz), fun k hk => ⟨(y8 k hk).1.trans (w8 k hk).1, (y8 k hk).2.1.trans (w8 k hk).2.1, (y8 k hk).2.2.1.trans (w8 k hk).2.2.1, (y8 k hk).2.2.2.1.trans (w8 k hk).2.2.2.1, fun z hz => ((y8 k hk).2.2.2.2 z hz).trans ((w8 k hk).2.2.2.2 z hz)⟩⟩
  · rw [tu, ← htb] at l3 ⊢
    rw [tu, tt] at l4
    rw [wy_reads h6, tt]
    have ee : t ≠ wy_e u N := fun z => l2 (ce.mpr z)
    obtain ⟨k1, k2, k3⟩ := lk l1
    have hsh : wy_h σ (2 * tb + u) = 1 := by unfold wy_h; rw [if_pos ⟨l3.2, l3.1⟩]
    obtain ⟨x0, x16, x17, xl, xw1, xw2⟩ := wy_log (σ := σ) (a := 2 * t + u) (b := 2 * tb + u) (s := σ 15 (2 * tb + u)) (wv := 2 * (t : Int) + (u : Int)) (by omega)
    have b17 := wb17 hB (2 * t + u)
    generalize sp_writes (st σ 16 (2 * tb + u) 1) (2 * (t : Int) + (u : Int)) (σ 15 (2 * tb + u)) 0 = X at x0 x16 x17 xl xw1 xw2 ⊢
    have x12 : ∀ w, X 12 w = σ 12 w := fun w => x0 12 w (by decide)
    have x14 : ∀ w, X 14 w = σ 14 w := fun w => x0 14 w (by decide)
    have ho := sp_kp_o (σ := X) (H := 2 * t + u) (p := (σ 12 (2 * t + u)).toNat) (s := σ 15 (2 * tb + u)) (by rw [x12]; exact (b12 _).2)
    obtain ⟨ρ, hρ⟩ : ∃ ρ, ρ = sp_kp X (2 * t + u) (σ 12 (2 * t + u)).toNat (σ 15 (2 * tb + u)) := ⟨_, rfl⟩
    have rf : ∀ f j, f ≠ 12 → f ≠ 14 → ρ f j = X f j := fun f j c1 c2 => by rw [hρ]; exact sp_kp_f c1 c2
    have r12 : ρ 12 (2 * t + u) = σ 12 (2 * t + u) + 1 := by rw [hρ, sp_kp_12, x12]
    have r12o : ∀ w, w ≠ 2 * t + u → ρ 12 w = σ 12 w := fun w hw => by rw [hρ, ho.1 w hw, x12]
    have r14o : ∀ w z, w ≠ 2 * t + u → z < 200 → ρ 14 (220 * w + z) = σ 14 (220 * w + z) := fun w z hw hz => by rw [hρ, ho.2 w z hw hz, x14]
    have r14a : ρ 14 (220 * (2 * t + u) + (σ 12 (2 * t + u)).toNat) = σ 15 (2 * tb + u) := by
      rw [hρ]; unfold sp_kp
      rw [if_neg (by omega), x12, if_pos ⟨rfl, by omega, by omega⟩, if_pos rfl]
    have r14b : ∀ j : Nat, (j : Int) < σ 12 (2 * t + u) → ρ 14 (220 * (2 * t + u) + j) = σ 14 (220 * (2 * t + u) + j) := fun j hj => by
      rw [hρ]; unfold sp_kp
      rw [if_neg (by omega), x12, if_neg (by omega), x14]
    rw [← hρ]
    have hA := wy_take (ρ := ρ) hu q1 k1 k2 k3 hsh rfl r12o r14o (fun w => by rw [rf 15 _ (by decide) (by decide)]; exact x0 15 w (by decide)) (fun w hw => by rw [rf 16 _ (by decide) (by decide), x16, if_neg hw]) (by rw [rf 16 _ (by decide) (by decide), x16, if_pos rfl]) (fun _ => ⟨r12, r14b, r14a⟩) (fun w hw => by rw [rf 17 _ (by decide) (by decide)]; exact x17 w hw) (fun f w z hf hw hz => by rw [rf f _ (by omega) (by omega)]; exact xl f w z hf hw hz) (fun h => by rw [rf 17 _ (by decide) (by decide), rf 19 _ (by decide) (by decide), rf 20 _ (by decide) (by decide)]; obtain ⟨z1, z2, z3, z4⟩ := xw1 h b17.1; exact ⟨z1, z2, z3, fun j hj => by rw [rf 19 _ (by decide) (by decide), rf 20 _ (by decide) (by decide)]; exact z4 j hj⟩) (fun h => by rw [rf 17 _ (by decide) (by decide)]; obtain ⟨z1, z2⟩ := xw2 h; exact ⟨z1, fun j hj => by rw [rf 19 _ (by decide) (by decide), rf 20 _ (by decide) (by decide)]; exact z2 j hj⟩) b12
    have hX2 : ∀ v, wy_S2 σ ρ v := fun v => wy_S2_of v fun f j c1 c2 => (rf f j (by omega) (by omega)).trans (x0 f j (by omega))
    refine ⟨⟨_, hA, ?_, ?_⟩, fun w hw => ?_, hX2 _⟩
    · have : wy_s u N ≠ t := fun z => by
        unfold wy_s at z; unfold wy_n at k3; unfold wy_e at k2
        rcases hu with rfl | rfl
        · simp at z k3 k2; omega
        · simp at z k3 k2; omega
      rw [wy_up_ne this]; exact q2
    · rw [wy_up_ne (Ne.symm ee)]
      exact wy_T_up h1 (wy_T_S hn hG (hX2 u) q3)
    · have hne : w ≠ 2 * t + u ∧ w ≠ 2 * tb + u := by omega
      refine ⟨r12o w hne.1, by rw [rf 15 _ (by decide) (by decide)]; exact x0 15 w (by decide), by rw [rf 16 _ (by decide) (by decide), x16, if_neg hne.2], by rw [rf 17 _ (by decide) (by decide)]; exact x17 w hne.1, fun z hz => r14o w z hne.1 hz, fun z hz => ⟨by rw [rf 19 _ (by decide) (by decide)]; exact xl 19 w z (Or.inl rfl) hne.1 hz, by rw [rf 20 _ (by decide) (by decide)]; exact xl 20 w z (Or.inr rfl) hne.1 hz⟩⟩
