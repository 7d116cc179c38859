/-! the steps: checks, air, a pass -/
theorem bs_pass_51 {σ : sg_S} {a : Int} : σ 51 0 ≤ bs_pass σ a 51 0 := by
  unfold bs_pass
  split
  · rw [st_nf (by decide)]; exact Int.le_refl _
  · have h := bs_mins_51 (σ := st σ 0 0 0) (a := 0) a.toNat
    rw [Nat.zero_add] at h
    refine Int.le_trans ?_ h
    simp [bs_mins, st]
theorem q_came {G : am_G} {m x : sg_S} {T : Int} (hW : md_wb T x) {u : Int} (hb : u = 0 ∨ u = 1) : am_Con G yX8_came wX8_came 7 0 0 [am_R (8, 0), am_I u] (en_h m x) (am_is (am_I (x 33 u.toNat)) (en_h m x)) := am_Con_mono (c_X8_came (m := m) hW hb) fun r h' q => ⟨q.1, q.2.trans (cx_no (Or.inl rfl))⟩
theorem q_open {G : am_G} {m x : sg_S} {T : Int} (hW : md_wb T x) {u : Int} (hb : u = 0 ∨ u = 1) : am_Con G yX8_open wX8_open 7 0 0 [am_R (8, 0), am_I u] (en_h m x) (am_is (am_I (x 28 u.toNat)) (en_h m x)) := am_Con_mono (c_X8_open (m := m) hW hb) fun r h' q => ⟨q.1, q.2.trans (cx_no (Or.inl rfl))⟩
theorem lw_I_of {k k' : Nat} {x x1 m : sg_S} {N : Nat} {n : Nat → Nat} (hR : sg_R k' x1) (h : ∀ f j, f = 1 ∨ f = 3 ∨ f = 6 ∨ (12 ≤ f ∧ f ≤ 23) ∨ (27 ≤ f ∧ f ≤ 39) → x1 f j = x f j) (hI : lw_I k x m N n) : lw_I k' x1 m N n := by
  obtain ⟨i1, ⟨i2, i3, i4⟩, ⟨i5, i6⟩, i7, i8, i9, S, off, mny, fst, bok, j1, j2, j3, j4⟩ := hI
  have e1 : x1 1 0 = x 1 0 := h 1 0 (by decide)
  refine ⟨hR, ⟨i2, i3, (h 3 0 (by decide)).trans i4⟩, ⟨(h 39 0 (by decide)).trans i5, fun j => (h 6 j (by decide)).trans (i6 j)⟩, bw_of (fun f j a b => h f j (by omega)) i7, i8, i9, S, off, mny, fst, bok, j1, ?_, dk_of (fun j => h 22 j (by decide)) j3, j4⟩
  rw [e1]
  exact wy_B_of j1 (fun w => (wb12 i1.1 w).2) (fun f j q => h f j (by omega)) j2
set_option maxRecDepth 100000 in
set_option maxHeartbeats 4000000 in
theorem law_check {HH : List (Nat × Nat × Nat × Nat)} {G : am_G} {X : am_X} {Q : State → Prop} {x m : sg_S} {k N : Nat} {n : Nat → Nat} {mo now ups downs tt : Int} (hI : lw_I k x m N n) (hup : ups = (n 1 : Int)) (hdn : downs = (n 0 : Int)) {kc nc : Nat} (hk : kc ≤ 590000) (hn : nc ≤ 7200000)
    (kk : ∀ (kc' nc' : Nat), kc' ≤ kc + 1600 → nc' ≤ nc + 9100 → am_W G X (mLh HH) 8 600104 7301314 Q 177 [some (am_R am_scr), some (am_R (8, 0)), none, some (am_I (N : Int)), some (am_I 1), some (am_I mo), some (am_I now), some (am_R (9, 0)), some (am_R (9, 1)), some (am_R (9, 2)), some (am_I ups), some (am_I downs), some (am_I (tt + 1)), none, none, none, none, none, none, none, none, none] [] (en_h m x) kc' nc') : am_W G X (mLh HH) 8 600104 7301314 Q 571 [some (am_R am_scr), some (am_R (8, 0)), none, some (am_I (N : Int)), some (am_I 1), some (am_I mo), some (am_I now), some (am_R (9, 0)), some (am_R (9, 1)), some (am_R (9, 2)), some (am_I ups), some (am_I downs), some (am_I tt), none, none, none, none, none, none, none, none, none] [] (en_h m x) kc nc := by
  obtain ⟨hR, ⟨i2, i3, i4⟩, ⟨i5, i6⟩, hbw, h9, i9, S, off, mny, fst, bok, hG, hB, hDk, hLR⟩ := id hI
  have hW := hR.1
  have hD := hR.2.2.2.2.1
  have hN := hR.2.2.2.2.2.2.2.2.2.1
  obtain ⟨c1, c2, hc1, c4, hT1⟩ := wy_came hB.1
  obtain ⟨c0, d2, hc0, d4, hT0⟩ := wy_came hB.2
  have n1 := (hG 1).1
  have n0 := (hG 0).1
  refine am_aload_n eL_law_571 rfl ?_
  refine am_iconst eL_law_572 ?_
  refine am_cVr (mc' := 0) (ms' := 0) (st := []) eL_law_573 kL_50 (q_came (m := m) (x := x) (u := 1) hW (Or.inr rfl)) rfl rfl (en_c8 (m := m) (x := x)) (by decide) (Nat.le_of_ble_eq_true rfl) (by simp) (by omega) (by omega) ?_
  refine am_topI (w := (c1 : Int)) (show x 33 (1 : Int).toNat = _ from hc1) ?_
  refine am_istore eL_law_576 (Nat.le_of_ble_eq_true rfl) ?_
  refine am_lseq (ls' := [some (am_R am_scr), some (am_R (8, 0)), none, some (am_I (N : Int)), some (am_I 1), some (am_I mo), some (am_I now), some (am_R (9, 0)), some (am_R (9, 1)), some (am_R (9, 2)), some (am_I ups), some (am_I downs), some (am_I tt), none, none, some (am_I (c1 : Int)), none, none, none, none, none, none]) rfl ?_
  refine am_iload eL_law_578 rfl ?_
  refine am_if_eq ⟨by omega, by omega⟩ eL_law_580 (fun c580 => absurd c580 (by omega)) (fun c580 => ?_)
  refine am_iload eL_law_583 rfl ?_
  refine am_iload eL_law_585 rfl ?_
  refine am_icmp_gt ⟨by omega, by omega⟩ ⟨by omega, by omega⟩ eL_law_587 (fun c587 => absurd c587 (by omega)) (fun c587 => ?_)
  refine am_aload_n eL_law_590 rfl ?_
  refine am_iconst eL_law_591 ?_
  refine am_cVr (mc' := 0) (ms' := 0) (st := []) eL_law_592 kL_50 (q_came (m := m) (x := x) (u := 0) hW (Or.inl rfl)) rfl rfl (en_c8 (m := m) (x := x)) (by decide) (Nat.le_of_ble_eq_true rfl) (by simp) (by omega) (by omega) ?_
  refine am_topI (w := (c0 : Int)) (show x 33 (0 : Int).toNat = _ from hc0) ?_
  refine am_iload eL_law_595 rfl ?_
  refine am_icmp_gt ⟨by omega, by omega⟩ ⟨by omega, by omega⟩ eL_law_597 (fun c597 => absurd c597 (by omega)) (fun c597 => ?_)
  refine am_aload_n eL_law_600 rfl ?_
  refine am_iconst eL_law_601 ?_
  refine am_cVr (mc' := 0) (ms' := 0) (st := []) eL_law_602 kL_54 (q_open (m := m) (x := x) (u := 1) hW (Or.inr rfl)) rfl rfl (en_c8 (m := m) (x := x)) (by decide) (Nat.le_of_ble_eq_true rfl) (by simp) (by omega) (by omega) ?_
  refine am_topI (w := (x 28 1)) (show x 28 (1 : Int).toNat = _ from rfl) ?_
  refine am_iconst eL_law_605 ?_
  refine am_icmp_gt ⟨by omega, by omega⟩ ⟨by omega, by omega⟩ eL_law_606 (fun c606 => absurd c606 (by omega)) (fun c606 => ?_)
  refine am_iconst eL_law_609 ?_
  refine am_goto eL_law_610 ?_
  refine am_istore eL_law_614 (Nat.le_of_ble_eq_true rfl) ?_
  refine am_lseq (ls' := [some (am_R am_scr), some (am_R (8, 0)), none, some (am_I (N : Int)), some (am_I 1), some (am_I mo), some (am_I now), some (am_R (9, 0)), some (am_R (9, 1)), some (am_R (9, 2)), some (am_I ups), some (am_I downs), some (am_I tt), none, none, some (am_I (c1 : Int)), none, none, none, none, none, none]) rfl ?_
  refine am_iconst eL_law_616 ?_
  refine am_istore eL_law_617 (Nat.le_of_ble_eq_true rfl) ?_
  refine am_lseq (ls' := [some (am_R am_scr), some (am_R (8, 0)), none, some (am_I (N : Int)), some (am_I 1), some (am_I mo), some (am_I now), some (am_R (9, 0)), some (am_R (9, 1)), some (am_R (9, 2)), some (am_I ups), some (am_I downs), some (am_I tt), none, none, some (am_I (c1 : Int)), some (am_I 0), none, none, none, none, none]) rfl ?_
  refine law_up hW hD hN hbw h9 hG hDk hLR hc1 c2 hT1 (A := kc + 720) (B := nc + 4320) (by omega) (by omega) (fun jv kc1 nc1 hk1 hn1 => ?_) c1 0 0 _ _ rfl (by omega) (by omega) (by omega)
  refine am_aload_n eL_law_774 rfl ?_
  refine am_iconst eL_law_775 ?_
  refine am_cVr (mc' := 0) (ms' := 0) (st := []) eL_law_776 kL_50 (q_came (m := m) (x := x) (u := 0) hW (Or.inl rfl)) rfl rfl (en_c8 (m := m) (x := x)) (by decide) (Nat.le_of_ble_eq_true rfl) (by simp) (by omega) (by omega) ?_
  refine am_topI (w := (c0 : Int)) (show x 33 (0 : Int).toNat = _ from hc0) ?_
  refine am_istore eL_law_779 (Nat.le_of_ble_eq_true rfl) ?_
  refine am_lseq (ls' := [some (am_R am_scr), some (am_R (8, 0)), none, some (am_I (N : Int)), some (am_I 1), some (am_I mo), some (am_I now), some (am_R (9, 0)), some (am_R (9, 1)), some (am_R (9, 2)), some (am_I ups), some (am_I downs), some (am_I tt), none, none, some (am_I (c0 : Int)), some (am_I jv), none, none, none, none, none]) rfl ?_
  refine am_iconst eL_law_781 ?_
  refine am_istore eL_law_782 (Nat.le_of_ble_eq_true rfl) ?_
  refine am_lseq (ls' := [some (am_R am_scr), some (am_R (8, 0)), none, some (am_I (N : Int)), some (am_I 1), some (am_I mo), some (am_I now), some (am_R (9, 0)), some (am_R (9, 1)), some (am_R (9, 2)), some (am_I ups), some (am_I downs), some (am_I tt), none, none, some (am_I (c0 : Int)), some (am_I 0), none, none, none, none, none]) rfl ?_
  refine law_dn hW hD hN hbw h9 hG hDk hLR hc0 d2 hT0 (A := kc + 1440) (B := nc + 8640) (by omega) (by omega) (fun jv2 kc2 nc2 hk2 hn2 => ?_) c0 0 0 _ _ rfl (by omega) (by omega) (by omega)
  refine am_iconst eL_law_865 ?_
  refine am_istore eL_law_866 (Nat.le_of_ble_eq_true rfl) ?_
  refine am_lseq (ls' := [some (am_R am_scr), some (am_R (8, 0)), none, some (am_I (N : Int)), some (am_I 1), some (am_I mo), some (am_I now), some (am_R (9, 0)), some (am_R (9, 1)), some (am_R (9, 2)), some (am_I ups), some (am_I downs), some (am_I tt), none, none, some (am_I (c0 : Int)), some (am_I 1), none, none, none, none, none]) rfl ?_
  refine law_df (cd := (c0 : Int)) hW i4 ⟨i2, i3⟩ hB (A := kc + 1560) (B := nc + 9060) (by omega) (by omega) (fun kv kc3 nc3 hk3 hn3 => ?_) (N - 1) 1 1 _ _ rfl (by omega) (Nat.le_refl _) (by omega) (by omega)
  refine am_iinc eL_law_930 rfl (Nat.le_of_ble_eq_true rfl) ?_
  refine am_lseq (ls' := [some (am_R am_scr), some (am_R (8, 0)), none, some (am_I (N : Int)), some (am_I 1), some (am_I mo), some (am_I now), some (am_R (9, 0)), some (am_R (9, 1)), some (am_R (9, 2)), some (am_I ups), some (am_I downs), some (am_I (tt + 1)), none, none, some (am_I (c0 : Int)), some (am_I kv), none, none, none, none, none]) rfl ?_
  refine am_goto eL_law_933 ?_
  refine am_lnone 15 ?_
  refine am_lnone 16 ?_
  refine am_lseq (ls' := [some (am_R am_scr), some (am_R (8, 0)), none, some (am_I (N : Int)), some (am_I 1), some (am_I mo), some (am_I now), some (am_R (9, 0)), some (am_R (9, 1)), some (am_R (9, 2)), some (am_I ups), some (am_I downs), some (am_I (tt + 1)), none, none, none, none, none, none, none, none, none]) rfl ?_
  exact kk _ _ (by omega) (by omega)
theorem J39 (k : Nat) : md_L (fun σ => sg_J k σ ∧ σ 39 0 = 0) := by
  obtain ⟨h1, h2, h3, h4, h5, h6⟩ := sg_J_L k
  refine ⟨fun σ h => h1 σ h.1, fun σ t u h ht hu => ⟨h2 σ t u h.1 ht hu, ?_⟩, fun σ t u w h ht hu hw => ⟨h3 σ t u w h.1 ht hu hw, ?_⟩, fun σ h => ⟨h4 σ h.1, ?_⟩, fun σ h => ⟨h5 σ h.1, ?_⟩, fun σ h => ⟨h6 σ h.1, ?_⟩⟩
  · rw [bs_looks_lo (by decide), sp_looks_f (by decide) (by decide) (by decide) (by decide)]; exact h.2
  · rw [sp_turn_f (by decide) (by decide)]; exact h.2
  · unfold sp_tick
    rw [st_nf (by decide), st_nf (by decide)]; exact h.2
  · rw [st_nf (by decide)]; exact h.2
  · rw [st_nf (by decide)]; exact h.2
set_option maxRecDepth 100000 in
set_option maxHeartbeats 4000000 in
theorem law_rest {HH : List (Nat × Nat × Nat × Nat)} {G : am_G} {X : am_X} {Q : State → Prop} {x m : sg_S} {k N : Nat} {n : Nat → Nat} {mo now ups downs tt w wh : Int} (hI : lw_I k x m N n) (hnow : now = x 1 0) (hk9 : k < 500) (rw_ : am_r w) (rwh : 0 ≤ wh ∧ wh < 6) {kc nc : Nat} (hk : kc ≤ 500000) (hn : nc ≤ 7000000)
    (kk : ∀ (x1 : sg_S) (now1 : Int) (kc' nc' : Nat), lw_I (k + 1) x1 m N n → now1 = x1 1 0 → kc' ≤ kc + 10 + 2 * (x1 51 0 - x 51 0).toNat → nc' ≤ nc + 50 + 66 * (x1 51 0 - x 51 0).toNat → x 51 0 ≤ x1 51 0 → am_W G X (mLh HH) 8 600104 7301314 Q 571 [some (am_R am_scr), some (am_R (8, 0)), none, some (am_I (N : Int)), some (am_I 1), some (am_I mo), some (am_I now1), some (am_R (9, 0)), some (am_R (9, 1)), some (am_R (9, 2)), some (am_I ups), some (am_I downs), some (am_I tt), none, none, none, none, none, none, none, none, none] [] (en_h m x1) kc' nc') : am_W G X (mLh HH) 8 600104 7301314 Q 500 [some (am_R am_scr), some (am_R (8, 0)), none, some (am_I (N : Int)), some (am_I 1), some (am_I mo), some (am_I now), some (am_R (9, 0)), some (am_R (9, 1)), some (am_R (9, 2)), some (am_I ups), some (am_I downs), some (am_I tt), some (am_I w), some (am_I wh), none, none, none, none, none, none, none] [] (en_h m x) kc nc := by
  obtain ⟨hR, ⟨i2, i3, i4⟩, ⟨i5, i6⟩, hbw, h9, i9, S, off, mny, fst, bok, hG, hB, hDk, hLR⟩ := id hI
  have hW := hR.1
  have b1 := wb1 hW 0
  obtain ⟨rw1, rw2⟩ := rw_
  refine am_iload eL_law_500 rfl ?_
  refine am_iconst eL_law_502 ?_
  refine am_icmp_ne ⟨by omega, by omega⟩ ⟨by omega, by omega⟩ eL_law_503 (fun c503 => ?_) (fun c503 => ?_)
  · have dummy := c503
    refine am_iconst eL_law_533 ?_
    refine am_iload eL_law_534 rfl ?_
    refine am_iconst eL_law_536 ?_
    refine am_ishr eL_law_537 (fun z1 r_z1 => ?_)
    refine am_bipush eL_law_538 (by decide) ?_
    refine am_cSr (st := [am_I 1]) eL_law_540 kL_17 (c_L_low r_z1 ⟨by omega, by omega⟩ (by omega)) rfl rfl (by decide) (Nat.le_of_ble_eq_true rfl) (by simp) (by omega) (by omega) (fun z2 h_z2 => ?_)
    obtain ⟨h_z21, h_z22⟩ := h_z2
    refine am_iadd eL_law_543 ?_
    refine am_istore eL_law_544 (Nat.le_of_ble_eq_true rfl) ?_
    refine am_lseq (ls' := [some (am_R am_scr), some (am_R (8, 0)), none, some (am_I (N : Int)), some (am_I 1), some (am_I mo), some (am_I now), some (am_R (9, 0)), some (am_R (9, 1)), some (am_R (9, 2)), some (am_I ups), some (am_I downs), some (am_I tt), some (am_I w), some (am_I wh), some (am_I (1 + z2)), none, none, none, none, none, none]) rfl ?_
    refine am_iload eL_law_546 rfl ?_
    refine am_iload eL_law_548 rfl ?_
    refine am_iadd eL_law_550 ?_
    refine am_istore eL_law_551 (Nat.le_of_ble_eq_true rfl) ?_
    refine am_lseq (ls' := [some (am_R am_scr), some (am_R (8, 0)), none, some (am_I (N : Int)), some (am_I 1), some (am_I mo), some (am_I (now + (1 + z2))), some (am_R (9, 0)), some (am_R (9, 1)), some (am_R (9, 2)), some (am_I ups), some (am_I downs), some (am_I tt), some (am_I w), some (am_I wh), some (am_I (1 + z2)), none, none, none, none, none, none]) rfl ?_
    refine am_aload_n eL_law_553 rfl ?_
    refine am_iload eL_law_554 rfl ?_
    obtain ⟨a, ha⟩ : ∃ a, a = 1 + z2 := ⟨_, rfl⟩
    have ra : 1 ≤ a ∧ a ≤ 60 := by omega
    rw [← ha]
    have hle := si_le hR.2.2.2.1
    have hJ0 : sg_J k x ∧ x 39 0 = 0 := ⟨hR.2.2.2, i5⟩
    obtain ⟨wB, w1, wf⟩ := wy_pass hR (by omega) hG (by omega) i4 i6 i5 hB (a := a) (by omega)
    have hT := hR.2.1
    have h51 := bs_pass_51 (σ := x) (a := a)
    have e00 : bs_pass x a 0 0 = 0 := (wf 0 0 (by decide)).trans st_eq
    have g : ∀ f j, f = 3 ∨ f = 6 ∨ (21 ≤ f ∧ f ≤ 23) ∨ f = 39 → bs_pass x a f j = x f j := fun f j h => (wf f j (by omega)).trans (st_nf (by omega))
    have eA : an_pass x a = x 1 0 + a := by unfold an_pass; rw [if_neg (by omega)]
    have hR1 := sr_pass (a := a) hR (by omega)
    have hle1 := si_le hR1.2.2.2.1
    have h510 := hR.2.2.2.2.1.1.1
    refine am_cVr (mc' := 1 + 2 * (bs_pass x a 51 0 - x 51 0).toNat) (ms' := 6 + 66 * (bs_pass x a 51 0 - x 51 0).toNat) (st := []) eL_law_556 kL_47 (wr_is (c_X8_pass (J39 k) (fun σ h => h.2) (m := m) (x := x) hW hJ0 (a := a) ⟨by omega, by omega⟩ (by omega) (mc := 1 + 2 * (bs_pass x a 51 0 - x 51 0).toNat) (ms := 6 + 66 * (bs_pass x a 51 0 - x 51 0).toNat) ⟨by omega, by omega⟩ ⟨by omega, by omega⟩) e00) rfl rfl (en_c8 (m := m) (x := x)) (by decide) (Nat.le_of_ble_eq_true rfl) (by simp) (by omega) (by omega) ?_
    refine am_topI (w := x 1 0 + a) eA ?_
    refine am_iload eL_law_559 rfl ?_
    refine am_icmp_ne ⟨by omega, by omega⟩ ⟨by omega, by omega⟩ eL_law_561 (fun c561 => absurd c561 (by omega)) (fun c561 => ?_)
    refine am_iconst eL_law_564 ?_
    refine am_goto eL_law_565 ?_
    refine am_istore eL_law_569 (Nat.le_of_ble_eq_true rfl) ?_
    refine am_lseq (ls' := [some (am_R am_scr), some (am_R (8, 0)), none, some (am_I (N : Int)), some (am_I 1), some (am_I mo), some (am_I (now + a)), some (am_R (9, 0)), some (am_R (9, 1)), some (am_R (9, 2)), some (am_I ups), some (am_I downs), some (am_I tt), some (am_I w), some (am_I wh), some (am_I a), none, none, none, none, none, none]) rfl ?_
    refine am_lnone 13 ?_
    refine am_lnone 14 ?_
    refine am_lnone 15 ?_
    refine am_lseq (ls' := [some (am_R am_scr), some (am_R (8, 0)), none, some (am_I (N : Int)), some (am_I 1), some (am_I mo), some (am_I (now + a)), some (am_R (9, 0)), some (am_R (9, 1)), some (am_R (9, 2)), some (am_I ups), some (am_I downs), some (am_I tt), none, none, none, none, none, none, none, none, none]) rfl ?_
    have hR1 := sr_pass (a := a) hR (by omega)
    refine kk (bs_pass x a) (now + a) _ _ ⟨hR1, ⟨i2, i3, (g 3 0 (by decide)).trans i4⟩, ⟨(g 39 0 (by decide)).trans i5, fun j => (g 6 j (by decide)).trans (i6 j)⟩, bw_of (fun f j a b => g f j (by omega)) hbw, h9, i9, S, off, mny, fst, bok, hG, wB, dk_of (fun j => g 22 j (by decide)) hDk, hLR⟩ (by omega) (by omega) (by omega) h51
  · have dummy := c503
    refine am_aload_n eL_law_506 rfl ?_
    refine am_iload eL_law_507 rfl ?_
    refine am_iconst eL_law_509 ?_
    refine am_ishr eL_law_510 (fun z1 r_z1 => ?_)
    refine am_iload_n eL_law_511 rfl ?_
    refine am_iconst eL_law_512 ?_
    refine am_isub eL_law_513 ?_
    refine am_cSr (st := [am_R (8, 0)]) eL_law_514 kL_17 (c_L_low r_z1 ⟨by omega, by omega⟩ (by omega)) rfl rfl (by decide) (Nat.le_of_ble_eq_true rfl) (by simp) (by omega) (by omega) (fun s h_s => ?_)
    obtain ⟨h_s1, h_s2⟩ := h_s
    refine am_iload eL_law_517 rfl ?_
    refine am_bipush eL_law_519 (by decide) ?_
    refine am_ishr eL_law_521 (fun z2 r_z2 => ?_)
    refine am_iconst eL_law_522 ?_
    refine am_cSr (st := [am_I s, am_R (8, 0)]) eL_law_523 kL_17 (c_L_low r_z2 ⟨by omega, by omega⟩ (by omega)) rfl rfl (by decide) (Nat.le_of_ble_eq_true rfl) (by simp) (by omega) (by omega) (fun a h_a => ?_)
    obtain ⟨h_a1, h_a2⟩ := h_a
    have eS : sp_air x s a = st (st x 0 0 0) 7 s.toNat a := by unfold sp_air; rw [if_neg (by omega), if_neg (by omega)]
    have e00 : sp_air x s a 0 0 = 0 := by rw [eS, st_nf (by decide), st_eq]
    have g : ∀ f j, f ≠ 0 → f ≠ 7 → sp_air x s a f j = x f j := fun f j a b => by rw [eS, st_nf b, st_nf a]
    have eA : am_r (an_air x s a) := rg_air hW
    refine am_cVr (mc' := 4) (ms' := 24) (st := []) eL_law_526 kL_44 (wr_is (c_X8_air (m := m) (x := x) hW (s := s) (a := a) ⟨by omega, by omega⟩ ⟨by omega, by omega⟩) e00) rfl rfl (en_c8 (m := m) (x := x)) (by decide) (Nat.le_of_ble_eq_true rfl) (by simp) (by omega) (by omega) ?_
    refine am_pop (by simp) eL_law_529 ?_
    refine am_goto eL_law_530 ?_
    refine am_lnone 13 ?_
    refine am_lnone 14 ?_
    refine am_lseq (ls' := [some (am_R am_scr), some (am_R (8, 0)), none, some (am_I (N : Int)), some (am_I 1), some (am_I mo), some (am_I now), some (am_R (9, 0)), some (am_R (9, 1)), some (am_R (9, 2)), some (am_I ups), some (am_I downs), some (am_I tt), none, none, none, none, none, none, none, none, none]) rfl ?_
    have e51 : sp_air x s a 51 0 = x 51 0 := g 51 0 (by decide) (by decide)
    exact kk (sp_air x s a) now _ _ (lw_I_of (sr_air hR) (fun f j h => g f j (by omega) (by omega)) hI) (by rw [g 1 0 (by decide) (by decide)]; exact hnow) (by omega) (by omega) (by omega)
