/-! a dispatch sent by the law -/
theorem lw_R_1 {m : sg_S} {mny fst bok : Nat → Nat → Nat} {n : Nat → Nat} {a b c : Nat} (h : lw_R m mny fst bok n) : (n 1 < 20 → lw_R (st (st (st m 1 (n 1) (a : Int)) 2 (n 1) (b : Int)) 3 (n 1) (c : Int)) (up3 mny 1 (n 1) a) (up3 fst 1 (n 1) b) (up3 bok 1 (n 1) c) (up1 n 1)) ∧ (¬ n 1 < 20 → lw_R m (up3 mny 1 (n 1) a) (up3 fst 1 (n 1) b) (up3 bok 1 (n 1) c) (up1 n 1)) := by
  refine ⟨fun hn => ⟨fun d h1 h2 => ?_, fun d h1 h2 => ?_⟩, fun hn => ⟨fun d h1 h2 => ?_, fun d h1 h2 => ?_⟩⟩
  · rw [up1_eq] at h2
    by_cases e : d = n 1
    · subst e
      rw [up3_eq, up3_eq, up3_eq]
      exact ⟨by rw [st_nf (by decide), st_nf (by decide), st_eq], by rw [st_nf (by decide), st_eq], st_eq⟩
    · obtain ⟨z1, z2, z3⟩ := h.1 d h1 (by omega)
      rw [up3_ne (Or.inr e), up3_ne (Or.inr e), up3_ne (Or.inr e)]
      exact ⟨by rw [st_ni e, st_ni e, st_ni e]; exact z1, by rw [st_ni e, st_ni e, st_ni e]; exact z2, by rw [st_ni e, st_ni e, st_ni e]; exact z3⟩
  · rw [up1_ne (by decide)] at h2
    have e : 20 + d ≠ n 1 := by omega
    obtain ⟨z1, z2, z3⟩ := h.2 d h1 h2
    rw [up3_ne (Or.inl (by decide)), up3_ne (Or.inl (by decide)), up3_ne (Or.inl (by decide))]
    exact ⟨by rw [st_ni e, st_ni e, st_ni e]; exact z1, by rw [st_ni e, st_ni e, st_ni e]; exact z2, by rw [st_ni e, st_ni e, st_ni e]; exact z3⟩
  · rw [up1_eq] at h2
    have e : d ≠ n 1 := by omega
    rw [up3_ne (Or.inr e), up3_ne (Or.inr e), up3_ne (Or.inr e)]; exact h.1 d h1 (by omega)
  · rw [up1_ne (by decide)] at h2
    rw [up3_ne (Or.inl (by decide)), up3_ne (Or.inl (by decide)), up3_ne (Or.inl (by decide))]; exact h.2 d h1 h2
theorem lw_R_0 {m : sg_S} {mny fst bok : Nat → Nat → Nat} {n : Nat → Nat} {a b c : Nat} (h : lw_R m mny fst bok n) : (n 0 < 20 → lw_R (st (st (st m 1 (20 + n 0) (a : Int)) 2 (20 + n 0) (b : Int)) 3 (20 + n 0) (c : Int)) (up3 mny 0 (n 0) a) (up3 fst 0 (n 0) b) (up3 bok 0 (n 0) c) (up1 n 0)) ∧ (¬ n 0 < 20 → lw_R m (up3 mny 0 (n 0) a) (up3 fst 0 (n 0) b) (up3 bok 0 (n 0) c) (up1 n 0)) := by
  refine ⟨fun hn => ⟨fun d h1 h2 => ?_, fun d h1 h2 => ?_⟩, fun hn => ⟨fun d h1 h2 => ?_, fun d h1 h2 => ?_⟩⟩
  · rw [up1_ne (by decide)] at h2
    have e : d ≠ 20 + n 0 := by omega
    obtain ⟨z1, z2, z3⟩ := h.1 d h1 h2
    rw [up3_ne (Or.inl (by decide)), up3_ne (Or.inl (by decide)), up3_ne (Or.inl (by decide))]
    exact ⟨by rw [st_ni e, st_ni e, st_ni e]; exact z1, by rw [st_ni e, st_ni e, st_ni e]; exact z2, by rw [st_ni e, st_ni e, st_ni e]; exact z3⟩
  · rw [up1_eq] at h2
    by_cases e : d = n 0
    · subst e
      rw [up3_eq, up3_eq, up3_eq]
      exact ⟨by rw [st_nf (by decide), st_nf (by decide), st_eq], by rw [st_nf (by decide), st_eq], st_eq⟩
    · obtain ⟨z1, z2, z3⟩ := h.2 d h1 (by omega)
      have e2 : 20 + d ≠ 20 + n 0 := by omega
      rw [up3_ne (Or.inr e), up3_ne (Or.inr e), up3_ne (Or.inr e)]
      exact ⟨by rw [st_ni e2, st_ni e2, st_ni e2]; exact z1, by rw [st_ni e2, st_ni e2, st_ni e2]; exact z2, by rw [st_ni e2, st_ni e2, st_ni e2]; exact z3⟩
  · rw [up1_ne (by decide)] at h2
    rw [up3_ne (Or.inl (by decide)), up3_ne (Or.inl (by decide)), up3_ne (Or.inl (by decide))]; exact h.1 d h1 h2
  · rw [up1_eq] at h2
    have e : d ≠ n 0 := by omega
    rw [up3_ne (Or.inr e), up3_ne (Or.inr e), up3_ne (Or.inr e)]; exact h.2 d h1 (by omega)
set_option maxRecDepth 100000 in
set_option maxHeartbeats 4000000 in
theorem law_send0 {HH : List (Nat × Nat × Nat × Nat)} {G : am_G} {X : am_X} {Q : State → Prop} {x m : sg_S} {k N : Nat} {n : Nat → Nat} {mo now ups downs tt w wh mn fi : Int} {q many : Nat} (hI : lw_I k x m N n) (hup : ups = (n 1 : Int)) (hdn : downs = (n 0 : Int)) (hlt : n 0 + n 1 < 30) (hk9 : k < 480) (rw_ : am_r w) (hq : fi = (q : Int)) (hq6 : q < 6) (hmn : mn = (many : Int)) (hm : 1 ≤ many ∧ many ≤ 4) {kc nc : Nat} (hk : kc ≤ 500000) (hn : nc ≤ 7000000)
    (kk : ∀ (x' m' : sg_S) (n' : Nat → Nat) (k' : Nat) (ups' downs' : Int) (kc' nc' : Nat), lw_I k' x' m' N n' → k' ≤ k + 6 → ups' = (n' 1 : Int) → downs' = (n' 0 : Int) → x' 1 0 = x 1 0 → x' 51 0 = x 51 0 → kc' ≤ kc + 850 → nc' ≤ nc + 5000 → am_W G X (mLh HH) 8 600104 7301314 Q 571 [some (am_R am_scr), some (am_R (8, 0)), none, some (am_I (N : Int)), some (am_I 1), some (am_I mo), some (am_I now), some (am_R (9, 0)), some (am_R (9, 1)), some (am_R (9, 2)), some (am_I ups'), some (am_I downs'), some (am_I tt), none, none, none, none, none, none, none, none, none] [] (en_h m' x') kc' nc') : am_W G X (mLh HH) 8 600104 7301314 Q 264 [some (am_R am_scr), some (am_R (8, 0)), none, some (am_I (N : Int)), some (am_I 1), some (am_I mo), some (am_I now), some (am_R (9, 0)), some (am_R (9, 1)), some (am_R (9, 2)), some (am_I ups), some (am_I downs), some (am_I tt), some (am_I w), some (am_I wh), some (am_I 0), some (am_I mn), some (am_I fi), none, none, none, none] [] (en_h m x) kc nc := by
  have hW := hI.1.1
  have eC : ∀ f j, f ≠ 0 → f ≠ 24 → (sp_clear x) f j = x f j := fun f j a b => by unfold sp_clear; rw [st_nf b, st_nf a]
  have b24 := wb24 hW 0
  refine am_aload_n eL_law_264 rfl ?_
  refine am_cVr (mc' := 0) (ms' := 0) (st := []) eL_law_265 kL_28 (c_X8_clear (m := m) (x := x) hW) rfl rfl (en_c8 (m := m) (x := x)) (by decide) (Nat.le_of_ble_eq_true rfl) (by simp) (by omega) (by omega) ?_
  refine am_pop (by simp) eL_law_268 ?_
  refine am_iconst eL_law_269 ?_
  refine am_istore eL_law_270 (Nat.le_of_ble_eq_true rfl) ?_
  refine am_lseq (ls' := [some (am_R am_scr), some (am_R (8, 0)), none, some (am_I (N : Int)), some (am_I 1), some (am_I mo), some (am_I now), some (am_R (9, 0)), some (am_R (9, 1)), some (am_R (9, 2)), some (am_I ups), some (am_I downs), some (am_I tt), some (am_I w), some (am_I wh), some (am_I 0), some (am_I mn), some (am_I fi), some (am_I 0), none, none, none]) rfl ?_
  refine law_type (k := k + 1) (x0 := sp_clear x) hq hq6 hmn hm.2 (A := kc + 20) (B := nc + 100) (by omega) (by omega) (fun x1 kv kc1 nc1 hR1 hX hk1 hn1 => ?_) many 0 0 _ _ _ rfl (by omega) (sr_clear hI.1) ⟨fun _ _ _ _ _ => rfl, by unfold sp_clear; exact st_eq, fun j hj => absurd hj (Nat.not_lt_zero j)⟩ (by omega) (by omega)
  obtain ⟨hX1, hX2, hX3⟩ := hX
  have hX0 : ∀ f j, f ≠ 0 → f ≠ 24 → f ≠ 25 → x1 f j = x f j := fun f j a b c => (hX1 f j a b c).trans (eC f j a b)
  have hI1 : lw_I (k + 1 + many) x1 m N n := lw_I_of hR1 (fun f j h => hX0 f j (by omega) (by omega) (by omega)) hI
  obtain ⟨-, ⟨i2, i3, i4⟩, ⟨i5, i6⟩, hbw, h9, i9, S, off, mny, fst, bok, hG, hB, hDk, hLR⟩ := id hI1
  have hW1 := hR1.1
  have b12 := wb12 hW1 (2 * 0 + 1)
  have e1 : x1 1 0 = x 1 0 := hX0 1 0 (by decide) (by decide) (by decide)
  have e51 : x1 51 0 = x 51 0 := hX0 51 0 (by decide) (by decide) (by decide)
  obtain ⟨rw1, rw2⟩ := rw_
  refine am_iload eL_law_301 rfl ?_
  refine am_bipush eL_law_303 (by decide) ?_
  refine am_ishr eL_law_305 (fun z1 r_z1 => ?_)
  refine am_iconst eL_law_306 ?_
  refine am_cSr (st := []) eL_law_307 kL_17 (c_L_low r_z1 ⟨by omega, by omega⟩ (by omega)) rfl rfl (by decide) (Nat.le_of_ble_eq_true rfl) (by simp) (by omega) (by omega) (fun bk h_bk => ?_)
  obtain ⟨h_bk1, h_bk2⟩ := h_bk
  refine am_istore eL_law_310 (Nat.le_of_ble_eq_true rfl) ?_
  refine am_lseq (ls' := [some (am_R am_scr), some (am_R (8, 0)), none, some (am_I (N : Int)), some (am_I 1), some (am_I mo), some (am_I now), some (am_R (9, 0)), some (am_R (9, 1)), some (am_R (9, 2)), some (am_I ups), some (am_I downs), some (am_I tt), some (am_I w), some (am_I wh), some (am_I 0), some (am_I mn), some (am_I fi), some (am_I bk), none, none, none]) rfl ?_
  refine am_iload eL_law_312 rfl ?_
  refine am_if_eq ⟨by omega, by omega⟩ eL_law_314 (fun c314 => ?_) (fun c314 => absurd c314 (by omega))
  refine am_iconst eL_law_323 ?_
  refine am_istore eL_law_324 (Nat.le_of_ble_eq_true rfl) ?_
  refine am_lseq (ls' := [some (am_R am_scr), some (am_R (8, 0)), none, some (am_I (N : Int)), some (am_I 1), some (am_I mo), some (am_I now), some (am_R (9, 0)), some (am_R (9, 1)), some (am_R (9, 2)), some (am_I ups), some (am_I downs), some (am_I tt), some (am_I w), some (am_I wh), some (am_I 0), some (am_I mn), some (am_I fi), some (am_I bk), some (am_I 0), none, none]) rfl ?_
  refine am_iconst eL_law_326 ?_
  refine am_istore eL_law_327 (Nat.le_of_ble_eq_true rfl) ?_
  refine am_lseq (ls' := [some (am_R am_scr), some (am_R (8, 0)), none, some (am_I (N : Int)), some (am_I 1), some (am_I mo), some (am_I now), some (am_R (9, 0)), some (am_R (9, 1)), some (am_R (9, 2)), some (am_I ups), some (am_I downs), some (am_I tt), some (am_I w), some (am_I wh), some (am_I 0), some (am_I mn), some (am_I fi), some (am_I bk), some (am_I 0), some (am_I 0), none]) rfl ?_
  refine law_keeps0 hR1 ⟨i2, i4⟩ (A := kc + 830) (B := nc + 4930) (by omega) (by omega) (fun kv2 kc2 nc2 hK hk2 hn2 => ?_) (x1 12 (2 * 0 + 1)).toNat 0 0 _ _ rfl (by omega) (by omega) (by omega)
  refine am_iload eL_law_364 rfl ?_
  refine am_iconst eL_law_366 ?_
  refine am_iload eL_law_367 rfl ?_
  refine am_imul eL_law_369 ?_
  refine am_iadd eL_law_370 ?_
  refine am_iconst eL_law_371 ?_
  refine am_iadd eL_law_372 ?_
  refine am_sipush eL_law_373 (by decide) ?_
  refine am_icmp_gt ⟨by omega, by omega⟩ ⟨by omega, by omega⟩ eL_law_376 (fun c376 => ?_) (fun c376 => ?_)
  · have dummy := c376
    refine am_goto eL_law_497 ?_
    refine am_lnone 13 ?_
    refine am_lnone 14 ?_
    refine am_lnone 15 ?_
    refine am_lnone 16 ?_
    refine am_lnone 17 ?_
    refine am_lnone 18 ?_
    refine am_lnone 19 ?_
    refine am_lnone 20 ?_
    refine am_lseq (ls' := [some (am_R am_scr), some (am_R (8, 0)), none, some (am_I (N : Int)), some (am_I 1), some (am_I mo), some (am_I now), some (am_R (9, 0)), some (am_R (9, 1)), some (am_R (9, 2)), some (am_I ups), some (am_I downs), some (am_I tt), none, none, none, none, none, none, none, none, none]) rfl ?_
    exact kk x1 m n (k + 1 + many) ups downs _ _ hI1 (by omega) hup hdn e1 e51 (by omega) (by omega)
  · have dummy := c376
    obtain ⟨b, hb⟩ : ∃ b : Nat, bk = (b : Int) := ⟨bk.toNat, by omega⟩
    have eS : wy_s 1 N = 0 := by unfold wy_s; simp
    obtain ⟨⟨S', off', hG', hB', hDk'⟩, e00, eA, eF⟩ := wy_send (u := 1) (b := b) (m := many) (q := q) (flI := 0) (bI := bk) hR1 hG i2 i4 hbw hB hDk (Or.inr rfl) (by decide) (by omega) hb hm hq6 hX2 hX3 (by omega) (by rw [eS]; omega)
    rw [eS] at eA
    have hR2 : sg_R (k + 1 + many + 1) (bs_send x1 0 bk 0) := sr_send hR1 (Or.inl rfl)
    refine am_aload_n eL_law_379 rfl ?_
    refine am_iload eL_law_380 rfl ?_
    refine am_iload eL_law_382 rfl ?_
    refine am_iconst eL_law_384 ?_
    refine am_cVr (mc' := 4) (ms' := 24) (st := []) eL_law_385 kL_40 (wr_is (c_X8_send (m := m) (x := x1) hW1 (u := 0) (b := bk) (r := 0) ⟨by omega, by omega⟩ (Or.inl rfl) (Or.inl rfl) hR1.2.2.2.2.2.2.2.2.1) e00) rfl rfl (en_c8 (m := m) (x := x1)) (by decide) (Nat.le_of_ble_eq_true rfl) (by simp) (by omega) (by omega) ?_
    refine am_topI (w := x1 12 (2 * 0 + 1) + 2 * (many : Int) + 2) eA ?_
    refine am_iload eL_law_388 rfl ?_
    refine am_iconst eL_law_390 ?_
    refine am_iload eL_law_391 rfl ?_
    refine am_imul eL_law_393 ?_
    refine am_iadd eL_law_394 ?_
    refine am_iconst eL_law_395 ?_
    refine am_iadd eL_law_396 ?_
    refine am_icmp_ne ⟨by omega, by omega⟩ ⟨by omega, by omega⟩ eL_law_397 (fun c397 => absurd c397 (by omega)) (fun c397 => ?_)
    refine am_iconst eL_law_400 ?_
    refine am_goto eL_law_401 ?_
    refine am_istore eL_law_405 (Nat.le_of_ble_eq_true rfl) ?_
    refine am_lseq (ls' := [some (am_R am_scr), some (am_R (8, 0)), none, some (am_I (N : Int)), some (am_I 1), some (am_I mo), some (am_I now), some (am_R (9, 0)), some (am_R (9, 1)), some (am_R (9, 2)), some (am_I ups), some (am_I downs), some (am_I tt), some (am_I w), some (am_I wh), some (am_I 0), some (am_I mn), some (am_I fi), some (am_I bk), some (am_I 0), some (am_I kv2), none]) rfl ?_
    refine am_iload eL_law_407 rfl ?_
    refine am_if_eq ⟨by omega, by omega⟩ eL_law_409 (fun c409 => ?_) (fun c409 => absurd c409 (by omega))
    refine am_iload eL_law_420 rfl ?_
    refine am_istore eL_law_422 (Nat.le_of_ble_eq_true rfl) ?_
    refine am_lseq (ls' := [some (am_R am_scr), some (am_R (8, 0)), none, some (am_I (N : Int)), some (am_I 1), some (am_I mo), some (am_I now), some (am_R (9, 0)), some (am_R (9, 1)), some (am_R (9, 2)), some (am_I ups), some (am_I downs), some (am_I tt), some (am_I w), some (am_I wh), some (am_I 0), some (am_I mn), some (am_I fi), some (am_I bk), some (am_I 0), some (am_I kv2), some (am_I ups)]) rfl ?_
    refine am_iload eL_law_424 rfl ?_
    refine am_if_eq ⟨by omega, by omega⟩ eL_law_426 (fun c426 => ?_) (fun c426 => absurd c426 (by omega))
    refine am_iload eL_law_439 rfl ?_
    refine am_bipush eL_law_441 (by decide) ?_
    refine am_icmp_ge ⟨by omega, by omega⟩ ⟨by omega, by omega⟩ eL_law_443 (fun c443 => ?_) (fun c443 => ?_)
    · have dummy := c443
      refine am_iload eL_law_467 rfl ?_
      refine am_iload eL_law_469 rfl ?_
      refine am_if_eq ⟨by omega, by omega⟩ eL_law_471 (fun c471 => ?_) (fun c471 => absurd c471 (by omega))
      refine am_iconst eL_law_478 ?_
      refine am_iadd eL_law_479 ?_
      refine am_istore eL_law_480 (Nat.le_of_ble_eq_true rfl) ?_
      refine am_lseq (ls' := [some (am_R am_scr), some (am_R (8, 0)), none, some (am_I (N : Int)), some (am_I 1), some (am_I mo), some (am_I now), some (am_R (9, 0)), some (am_R (9, 1)), some (am_R (9, 2)), some (am_I (ups + 1)), some (am_I downs), some (am_I tt), some (am_I w), some (am_I wh), some (am_I 0), some (am_I mn), some (am_I fi), some (am_I bk), some (am_I 0), some (am_I kv2), some (am_I ups)]) rfl ?_
      refine am_iload eL_law_482 rfl ?_
      refine am_iload eL_law_484 rfl ?_
      refine am_if_eq ⟨by omega, by omega⟩ eL_law_486 (fun c486 => ?_) (fun c486 => absurd c486 (by omega))
      refine am_iconst eL_law_493 ?_
      refine am_iadd eL_law_494 ?_
      refine am_istore eL_law_495 (Nat.le_of_ble_eq_true rfl) ?_
      refine am_lseq (ls' := [some (am_R am_scr), some (am_R (8, 0)), none, some (am_I (N : Int)), some (am_I 1), some (am_I mo), some (am_I now), some (am_R (9, 0)), some (am_R (9, 1)), some (am_R (9, 2)), some (am_I (ups + 1)), some (am_I (downs + 0)), some (am_I tt), some (am_I w), some (am_I wh), some (am_I 0), some (am_I mn), some (am_I fi), some (am_I bk), some (am_I 0), some (am_I kv2), some (am_I ups)]) rfl ?_
      refine am_goto eL_law_497 ?_
      refine am_lnone 13 ?_
      refine am_lnone 14 ?_
      refine am_lnone 15 ?_
      refine am_lnone 16 ?_
      refine am_lnone 17 ?_
      refine am_lnone 18 ?_
      refine am_lnone 19 ?_
      refine am_lnone 20 ?_
      refine am_lnone 21 ?_
      refine am_lseq (ls' := [some (am_R am_scr), some (am_R (8, 0)), none, some (am_I (N : Int)), some (am_I 1), some (am_I mo), some (am_I now), some (am_R (9, 0)), some (am_R (9, 1)), some (am_R (9, 2)), some (am_I (ups + 1)), some (am_I (downs + 0)), some (am_I tt), none, none, none, none, none, none, none, none, none]) rfl ?_
      exact kk _ m (up1 n 1) (k + 1 + many + 1) _ _ _ _ (⟨hR2, ⟨i2, i3, (eF 3 0 (by decide)).trans i4⟩, ⟨(eF 39 0 (by decide)).trans i5, fun j => (eF 6 j (by decide)).trans (i6 j)⟩, bw_of (fun f j a b => eF f j (by omega)) hbw, h9, by show up1 n 1 0 + up1 n 1 1 ≤ 30; unfold up1; simp; omega, S', off', up3 mny 1 (n 1) many, up3 fst 1 (n 1) q, up3 bok 1 (n 1) b, hG', by rw [eF 1 0 (by decide)]; exact hB', hDk', (lw_R_1 hLR).2 (by omega)⟩) (by omega) (by unfold up1; simp; omega) (by unfold up1; simp; omega) ((eF 1 0 (by decide)).trans e1) ((eF 51 0 (by decide)).trans e51) (by omega) (by omega)
    · have dummy := c443
      have ta : ups.toNat = n 1 := by omega
      have hM1 : (st m 1 (n 1) (many : Int)) 0 0 = 3 := (st_nf (by decide)).trans h9
      have hM2 : (st (st m 1 (n 1) (many : Int)) 2 (n 1) (q : Int)) 0 0 = 3 := (st_nf (by decide)).trans hM1
      have hM3 : (st (st (st m 1 (n 1) (many : Int)) 2 (n 1) (q : Int)) 3 (n 1) (b : Int)) 0 0 = 3 := (st_nf (by decide)).trans hM2
      refine am_aload eL_law_446 rfl ?_
      refine am_iload eL_law_448 rfl ?_
      refine am_iload eL_law_450 rfl ?_
      refine am_iast eL_law_452 (en_9 (by rw [h9]; decide)) (by omega) (by omega) (by decide) (am_heq (h' := en_h (st m 1 (n 1) (many : Int)) (bs_send x1 0 bk 0)) (by rw [ta, hmn]; exact cl_put (i := 0) (by rw [h9]; decide)) ?_)
      refine am_aload eL_law_453 rfl ?_
      refine am_iload eL_law_455 rfl ?_
      refine am_iload eL_law_457 rfl ?_
      refine am_iast eL_law_459 (en_9 (by rw [hM1]; decide)) (by omega) (by omega) (by decide) (am_heq (h' := en_h (st (st m 1 (n 1) (many : Int)) 2 (n 1) (q : Int)) (bs_send x1 0 bk 0)) (by rw [ta, hq]; exact cl_put (i := 1) (by rw [hM1]; decide)) ?_)
      refine am_aload eL_law_460 rfl ?_
      refine am_iload eL_law_462 rfl ?_
      refine am_iload eL_law_464 rfl ?_
      refine am_iast eL_law_466 (en_9 (by rw [hM2]; decide)) (by omega) (by omega) (by decide) (am_heq (h' := en_h (st (st (st m 1 (n 1) (many : Int)) 2 (n 1) (q : Int)) 3 (n 1) (b : Int)) (bs_send x1 0 bk 0)) (by rw [ta, hb]; exact cl_put (i := 2) (by rw [hM2]; decide)) ?_)
      refine am_iload eL_law_467 rfl ?_
      refine am_iload eL_law_469 rfl ?_
      refine am_if_eq ⟨by omega, by omega⟩ eL_law_471 (fun c471 => ?_) (fun c471 => absurd c471 (by omega))
      refine am_iconst eL_law_478 ?_
      refine am_iadd eL_law_479 ?_
      refine am_istore eL_law_480 (Nat.le_of_ble_eq_true rfl) ?_
      refine am_lseq (ls' := [some (am_R am_scr), some (am_R (8, 0)), none, some (am_I (N : Int)), some (am_I 1), some (am_I mo), some (am_I now), some (am_R (9, 0)), some (am_R (9, 1)), some (am_R (9, 2)), some (am_I (ups + 1)), some (am_I downs), some (am_I tt), some (am_I w), some (am_I wh), some (am_I 0), some (am_I mn), some (am_I fi), some (am_I bk), some (am_I 0), some (am_I kv2), some (am_I ups)]) rfl ?_
      refine am_iload eL_law_482 rfl ?_
      refine am_iload eL_law_484 rfl ?_
      refine am_if_eq ⟨by omega, by omega⟩ eL_law_486 (fun c486 => ?_) (fun c486 => absurd c486 (by omega))
      refine am_iconst eL_law_493 ?_
      refine am_iadd eL_law_494 ?_
      refine am_istore eL_law_495 (Nat.le_of_ble_eq_true rfl) ?_
      refine am_lseq (ls' := [some (am_R am_scr), some (am_R (8, 0)), none, some (am_I (N : Int)), some (am_I 1), some (am_I mo), some (am_I now), some (am_R (9, 0)), some (am_R (9, 1)), some (am_R (9, 2)), some (am_I (ups + 1)), some (am_I (downs + 0)), some (am_I tt), some (am_I w), some (am_I wh), some (am_I 0), some (am_I mn), some (am_I fi), some (am_I bk), some (am_I 0), some (am_I kv2), some (am_I ups)]) rfl ?_
      refine am_goto eL_law_497 ?_
      refine am_lnone 13 ?_
      refine am_lnone 14 ?_
      refine am_lnone 15 ?_
      refine am_lnone 16 ?_
      refine am_lnone 17 ?_
      refine am_lnone 18 ?_
      refine am_lnone 19 ?_
      refine am_lnone 20 ?_
      refine am_lnone 21 ?_
      refine am_lseq (ls' := [some (am_R am_scr), some (am_R (8, 0)), none, some (am_I (N : Int)), some (am_I 1), some (am_I mo), some (am_I now), some (am_R (9, 0)), some (am_R (9, 1)), some (am_R (9, 2)), some (am_I (ups + 1)), some (am_I (downs + 0)), some (am_I tt), none, none, none, none, none, none, none, none, none]) rfl ?_
      exact kk _ (st (st (st m 1 (n 1) (many : Int)) 2 (n 1) (q : Int)) 3 (n 1) (b : Int)) (up1 n 1) (k + 1 + many + 1) _ _ _ _ (⟨hR2, ⟨i2, i3, (eF 3 0 (by decide)).trans i4⟩, ⟨(eF 39 0 (by decide)).trans i5, fun j => (eF 6 j (by decide)).trans (i6 j)⟩, bw_of (fun f j a b => eF f j (by omega)) hbw, hM3, by show up1 n 1 0 + up1 n 1 1 ≤ 30; unfold up1; simp; omega, S', off', up3 mny 1 (n 1) many, up3 fst 1 (n 1) q, up3 bok 1 (n 1) b, hG', by rw [eF 1 0 (by decide)]; exact hB', hDk', (lw_R_1 hLR).1 (by omega)⟩) (by omega) (by unfold up1; simp; omega) (by unfold up1; simp; omega) ((eF 1 0 (by decide)).trans e1) ((eF 51 0 (by decide)).trans e51) (by omega) (by omega)
set_option maxRecDepth 100000 in
set_option maxHeartbeats 4000000 in
theorem law_send1 {HH : List (Nat × Nat × Nat × Nat)} {G : am_G} {X : am_X} {Q : State → Prop} {x m : sg_S} {k N : Nat} {n : Nat → Nat} {mo now ups downs tt w wh mn fi : Int} {q many : Nat} (hI : lw_I k x m N n) (hup : ups = (n 1 : Int)) (hdn : downs = (n 0 : Int)) (hlt : n 0 + n 1 < 30) (hk9 : k < 480) (rw_ : am_r w) (hq : fi = (q : Int)) (hq6 : q < 6) (hmn : mn = (many : Int)) (hm : 1 ≤ many ∧ many ≤ 4) {kc nc : Nat} (hk : kc ≤ 500000) (hn : nc ≤ 7000000)
    (kk : ∀ (x' m' : sg_S) (n' : Nat → Nat) (k' : Nat) (ups' downs' : Int) (kc' nc' : Nat), lw_I k' x' m' N n' → k' ≤ k + 6 → ups' = (n' 1 : Int) → downs' = (n' 0 : Int) → x' 1 0 = x 1 0 → x' 51 0 = x 51 0 → kc' ≤ kc + 850 → nc' ≤ nc + 5000 → am_W G X (mLh HH) 8 600104 7301314 Q 571 [some (am_R am_scr), some (am_R (8, 0)), none, some (am_I (N : Int)), some (am_I 1), some (am_I mo), some (am_I now), some (am_R (9, 0)), some (am_R (9, 1)), some (am_R (9, 2)), some (am_I ups'), some (am_I downs'), some (am_I tt), none, none, none, none, none, none, none, none, none] [] (en_h m' x') kc' nc') : am_W G X (mLh HH) 8 600104 7301314 Q 264 [some (am_R am_scr), some (am_R (8, 0)), none, some (am_I (N : Int)), some (am_I 1), some (am_I mo), some (am_I now), some (am_R (9, 0)), some (am_R (9, 1)), some (am_R (9, 2)), some (am_I ups), some (am_I downs), some (am_I tt), some (am_I w), some (am_I wh), some (am_I 1), some (am_I mn), some (am_I fi), none, none, none, none] [] (en_h m x) kc nc := by
  have hW := hI.1.1
  have eC : ∀ f j, f ≠ 0 → f ≠ 24 → (sp_clear x) f j = x f j := fun f j a b => by unfold sp_clear; rw [st_nf b, st_nf a]
  have b24 := wb24 hW 0
  refine am_aload_n eL_law_264 rfl ?_
  refine am_cVr (mc' := 0) (ms' := 0) (st := []) eL_law_265 kL_28 (c_X8_clear (m := m) (x := x) hW) rfl rfl (en_c8 (m := m) (x := x)) (by decide) (Nat.le_of_ble_eq_true rfl) (by simp) (by omega) (by omega) ?_
  refine am_pop (by simp) eL_law_268 ?_
  refine am_iconst eL_law_269 ?_
  refine am_istore eL_law_270 (Nat.le_of_ble_eq_true rfl) ?_
  refine am_lseq (ls' := [some (am_R am_scr), some (am_R (8, 0)), none, some (am_I (N : Int)), some (am_I 1), some (am_I mo), some (am_I now), some (am_R (9, 0)), some (am_R (9, 1)), some (am_R (9, 2)), some (am_I ups), some (am_I downs), some (am_I tt), some (am_I w), some (am_I wh), some (am_I 1), some (am_I mn), some (am_I fi), some (am_I 0), none, none, none]) rfl ?_
  refine law_type (k := k + 1) (x0 := sp_clear x) hq hq6 hmn hm.2 (A := kc + 20) (B := nc + 100) (by omega) (by omega) (fun x1 kv kc1 nc1 hR1 hX hk1 hn1 => ?_) many 0 0 _ _ _ rfl (by omega) (sr_clear hI.1) ⟨fun _ _ _ _ _ => rfl, by unfold sp_clear; exact st_eq, fun j hj => absurd hj (Nat.not_lt_zero j)⟩ (by omega) (by omega)
  obtain ⟨hX1, hX2, hX3⟩ := hX
  have hX0 : ∀ f j, f ≠ 0 → f ≠ 24 → f ≠ 25 → x1 f j = x f j := fun f j a b c => (hX1 f j a b c).trans (eC f j a b)
  have hI1 : lw_I (k + 1 + many) x1 m N n := lw_I_of hR1 (fun f j h => hX0 f j (by omega) (by omega) (by omega)) hI
  obtain ⟨-, ⟨i2, i3, i4⟩, ⟨i5, i6⟩, hbw, h9, i9, S, off, mny, fst, bok, hG, hB, hDk, hLR⟩ := id hI1
  have hW1 := hR1.1
  have b12 := wb12 hW1 (2 * (N - 1) + 0)
  have e1 : x1 1 0 = x 1 0 := hX0 1 0 (by decide) (by decide) (by decide)
  have e51 : x1 51 0 = x 51 0 := hX0 51 0 (by decide) (by decide) (by decide)
  obtain ⟨rw1, rw2⟩ := rw_
  refine am_iload eL_law_301 rfl ?_
  refine am_bipush eL_law_303 (by decide) ?_
  refine am_ishr eL_law_305 (fun z1 r_z1 => ?_)
  refine am_iconst eL_law_306 ?_
  refine am_cSr (st := []) eL_law_307 kL_17 (c_L_low r_z1 ⟨by omega, by omega⟩ (by omega)) rfl rfl (by decide) (Nat.le_of_ble_eq_true rfl) (by simp) (by omega) (by omega) (fun bk h_bk => ?_)
  obtain ⟨h_bk1, h_bk2⟩ := h_bk
  refine am_istore eL_law_310 (Nat.le_of_ble_eq_true rfl) ?_
  refine am_lseq (ls' := [some (am_R am_scr), some (am_R (8, 0)), none, some (am_I (N : Int)), some (am_I 1), some (am_I mo), some (am_I now), some (am_R (9, 0)), some (am_R (9, 1)), some (am_R (9, 2)), some (am_I ups), some (am_I downs), some (am_I tt), some (am_I w), some (am_I wh), some (am_I 1), some (am_I mn), some (am_I fi), some (am_I bk), none, none, none]) rfl ?_
  refine am_iload eL_law_312 rfl ?_
  refine am_if_eq ⟨by omega, by omega⟩ eL_law_314 (fun c314 => absurd c314 (by omega)) (fun c314 => ?_)
  refine am_iload_n eL_law_317 rfl ?_
  refine am_iconst eL_law_318 ?_
  refine am_isub eL_law_319 ?_
  refine am_goto eL_law_320 ?_
  refine am_istore eL_law_324 (Nat.le_of_ble_eq_true rfl) ?_
  refine am_lseq (ls' := [some (am_R am_scr), some (am_R (8, 0)), none, some (am_I (N : Int)), some (am_I 1), some (am_I mo), some (am_I now), some (am_R (9, 0)), some (am_R (9, 1)), some (am_R (9, 2)), some (am_I ups), some (am_I downs), some (am_I tt), some (am_I w), some (am_I wh), some (am_I 1), some (am_I mn), some (am_I fi), some (am_I bk), some (am_I ((N : Int) - 1)), none, none]) rfl ?_
  refine am_iconst eL_law_326 ?_
  refine am_istore eL_law_327 (Nat.le_of_ble_eq_true rfl) ?_
  refine am_lseq (ls' := [some (am_R am_scr), some (am_R (8, 0)), none, some (am_I (N : Int)), some (am_I 1), some (am_I mo), some (am_I now), some (am_R (9, 0)), some (am_R (9, 1)), some (am_R (9, 2)), some (am_I ups), some (am_I downs), some (am_I tt), some (am_I w), some (am_I wh), some (am_I 1), some (am_I mn), some (am_I fi), some (am_I bk), some (am_I ((N : Int) - 1)), some (am_I 0), none]) rfl ?_
  refine law_keeps1 hR1 ⟨i2, i4⟩ (A := kc + 830) (B := nc + 4930) (by omega) (by omega) (fun kv2 kc2 nc2 hK hk2 hn2 => ?_) (x1 12 (2 * (N - 1) + 0)).toNat 0 0 _ _ rfl (by omega) (by omega) (by omega)
  refine am_iload eL_law_364 rfl ?_
  refine am_iconst eL_law_366 ?_
  refine am_iload eL_law_367 rfl ?_
  refine am_imul eL_law_369 ?_
  refine am_iadd eL_law_370 ?_
  refine am_iconst eL_law_371 ?_
  refine am_iadd eL_law_372 ?_
  refine am_sipush eL_law_373 (by decide) ?_
  refine am_icmp_gt ⟨by omega, by omega⟩ ⟨by omega, by omega⟩ eL_law_376 (fun c376 => ?_) (fun c376 => ?_)
  · have dummy := c376
    refine am_goto eL_law_497 ?_
    refine am_lnone 13 ?_
    refine am_lnone 14 ?_
    refine am_lnone 15 ?_
    refine am_lnone 16 ?_
    refine am_lnone 17 ?_
    refine am_lnone 18 ?_
    refine am_lnone 19 ?_
    refine am_lnone 20 ?_
    refine am_lseq (ls' := [some (am_R am_scr), some (am_R (8, 0)), none, some (am_I (N : Int)), some (am_I 1), some (am_I mo), some (am_I now), some (am_R (9, 0)), some (am_R (9, 1)), some (am_R (9, 2)), some (am_I ups), some (am_I downs), some (am_I tt), none, none, none, none, none, none, none, none, none]) rfl ?_
    exact kk x1 m n (k + 1 + many) ups downs _ _ hI1 (by omega) hup hdn e1 e51 (by omega) (by omega)
  · have dummy := c376
    obtain ⟨b, hb⟩ : ∃ b : Nat, bk = (b : Int) := ⟨bk.toNat, by omega⟩
    have eS : wy_s 0 N = (N - 1) := by unfold wy_s; simp
    obtain ⟨⟨S', off', hG', hB', hDk'⟩, e00, eA, eF⟩ := wy_send (u := 0) (b := b) (m := many) (q := q) (flI := 1) (bI := bk) hR1 hG i2 i4 hbw hB hDk (Or.inl rfl) (by decide) (by omega) hb hm hq6 hX2 hX3 (by omega) (by rw [eS]; omega)
    rw [eS] at eA
    have hR2 : sg_R (k + 1 + many + 1) (bs_send x1 1 bk 0) := sr_send hR1 (Or.inl rfl)
    refine am_aload_n eL_law_379 rfl ?_
    refine am_iload eL_law_380 rfl ?_
    refine am_iload eL_law_382 rfl ?_
    refine am_iconst eL_law_384 ?_
    refine am_cVr (mc' := 4) (ms' := 24) (st := []) eL_law_385 kL_40 (wr_is (c_X8_send (m := m) (x := x1) hW1 (u := 1) (b := bk) (r := 0) ⟨by omega, by omega⟩ (Or.inr rfl) (Or.inl rfl) hR1.2.2.2.2.2.2.2.2.1) e00) rfl rfl (en_c8 (m := m) (x := x1)) (by decide) (Nat.le_of_ble_eq_true rfl) (by simp) (by omega) (by omega) ?_
    refine am_topI (w := x1 12 (2 * (N - 1) + 0) + 2 * (many : Int) + 2) eA ?_
    refine am_iload eL_law_388 rfl ?_
    refine am_iconst eL_law_390 ?_
    refine am_iload eL_law_391 rfl ?_
    refine am_imul eL_law_393 ?_
    refine am_iadd eL_law_394 ?_
    refine am_iconst eL_law_395 ?_
    refine am_iadd eL_law_396 ?_
    refine am_icmp_ne ⟨by omega, by omega⟩ ⟨by omega, by omega⟩ eL_law_397 (fun c397 => absurd c397 (by omega)) (fun c397 => ?_)
    refine am_iconst eL_law_400 ?_
    refine am_goto eL_law_401 ?_
    refine am_istore eL_law_405 (Nat.le_of_ble_eq_true rfl) ?_
    refine am_lseq (ls' := [some (am_R am_scr), some (am_R (8, 0)), none, some (am_I (N : Int)), some (am_I 1), some (am_I mo), some (am_I now), some (am_R (9, 0)), some (am_R (9, 1)), some (am_R (9, 2)), some (am_I ups), some (am_I downs), some (am_I tt), some (am_I w), some (am_I wh), some (am_I 1), some (am_I mn), some (am_I fi), some (am_I bk), some (am_I ((N : Int) - 1)), some (am_I kv2), none]) rfl ?_
    refine am_iload eL_law_407 rfl ?_
    refine am_if_eq ⟨by omega, by omega⟩ eL_law_409 (fun c409 => absurd c409 (by omega)) (fun c409 => ?_)
    refine am_bipush eL_law_412 (by decide) ?_
    refine am_iload eL_law_414 rfl ?_
    refine am_iadd eL_law_416 ?_
    refine am_goto eL_law_417 ?_
    refine am_istore eL_law_422 (Nat.le_of_ble_eq_true rfl) ?_
    refine am_lseq (ls' := [some (am_R am_scr), some (am_R (8, 0)), none, some (am_I (N : Int)), some (am_I 1), some (am_I mo), some (am_I now), some (am_R (9, 0)), some (am_R (9, 1)), some (am_R (9, 2)), some (am_I ups), some (am_I downs), some (am_I tt), some (am_I w), some (am_I wh), some (am_I 1), some (am_I mn), some (am_I fi), some (am_I bk), some (am_I ((N : Int) - 1)), some (am_I kv2), some (am_I (20 + downs))]) rfl ?_
    refine am_iload eL_law_424 rfl ?_
    refine am_if_eq ⟨by omega, by omega⟩ eL_law_426 (fun c426 => absurd c426 (by omega)) (fun c426 => ?_)
    refine am_iload eL_law_429 rfl ?_
    refine am_bipush eL_law_431 (by decide) ?_
    refine am_icmp_ge ⟨by omega, by omega⟩ ⟨by omega, by omega⟩ eL_law_433 (fun c433 => ?_) (fun c433 => ?_)
    · have dummy := c433
      refine am_iload eL_law_467 rfl ?_
      refine am_iload eL_law_469 rfl ?_
      refine am_if_eq ⟨by omega, by omega⟩ eL_law_471 (fun c471 => absurd c471 (by omega)) (fun c471 => ?_)
      refine am_iconst eL_law_474 ?_
      refine am_goto eL_law_475 ?_
      refine am_iadd eL_law_479 ?_
      refine am_istore eL_law_480 (Nat.le_of_ble_eq_true rfl) ?_
      refine am_lseq (ls' := [some (am_R am_scr), some (am_R (8, 0)), none, some (am_I (N : Int)), some (am_I 1), some (am_I mo), some (am_I now), some (am_R (9, 0)), some (am_R (9, 1)), some (am_R (9, 2)), some (am_I (ups + 0)), some (am_I downs), some (am_I tt), some (am_I w), some (am_I wh), some (am_I 1), some (am_I mn), some (am_I fi), some (am_I bk), some (am_I ((N : Int) - 1)), some (am_I kv2), some (am_I (20 + downs))]) rfl ?_
      refine am_iload eL_law_482 rfl ?_
      refine am_iload eL_law_484 rfl ?_
      refine am_if_eq ⟨by omega, by omega⟩ eL_law_486 (fun c486 => absurd c486 (by omega)) (fun c486 => ?_)
      refine am_iconst eL_law_489 ?_
      refine am_goto eL_law_490 ?_
      refine am_iadd eL_law_494 ?_
      refine am_istore eL_law_495 (Nat.le_of_ble_eq_true rfl) ?_
      refine am_lseq (ls' := [some (am_R am_scr), some (am_R (8, 0)), none, some (am_I (N : Int)), some (am_I 1), some (am_I mo), some (am_I now), some (am_R (9, 0)), some (am_R (9, 1)), some (am_R (9, 2)), some (am_I (ups + 0)), some (am_I (downs + 1)), some (am_I tt), some (am_I w), some (am_I wh), some (am_I 1), some (am_I mn), some (am_I fi), some (am_I bk), some (am_I ((N : Int) - 1)), some (am_I kv2), some (am_I (20 + downs))]) rfl ?_
      refine am_goto eL_law_497 ?_
      refine am_lnone 13 ?_
      refine am_lnone 14 ?_
      refine am_lnone 15 ?_
      refine am_lnone 16 ?_
      refine am_lnone 17 ?_
      refine am_lnone 18 ?_
      refine am_lnone 19 ?_
      refine am_lnone 20 ?_
      refine am_lnone 21 ?_
      refine am_lseq (ls' := [some (am_R am_scr), some (am_R (8, 0)), none, some (am_I (N : Int)), some (am_I 1), some (am_I mo), some (am_I now), some (am_R (9, 0)), some (am_R (9, 1)), some (am_R (9, 2)), some (am_I (ups + 0)), some (am_I (downs + 1)), some (am_I tt), none, none, none, none, none, none, none, none, none]) rfl ?_
      exact kk _ m (up1 n 0) (k + 1 + many + 1) _ _ _ _ (⟨hR2, ⟨i2, i3, (eF 3 0 (by decide)).trans i4⟩, ⟨(eF 39 0 (by decide)).trans i5, fun j => (eF 6 j (by decide)).trans (i6 j)⟩, bw_of (fun f j a b => eF f j (by omega)) hbw, h9, by show up1 n 0 0 + up1 n 0 1 ≤ 30; unfold up1; simp; omega, S', off', up3 mny 0 (n 0) many, up3 fst 0 (n 0) q, up3 bok 0 (n 0) b, hG', by rw [eF 1 0 (by decide)]; exact hB', hDk', (lw_R_0 hLR).2 (by omega)⟩) (by omega) (by unfold up1; simp; omega) (by unfold up1; simp; omega) ((eF 1 0 (by decide)).trans e1) ((eF 51 0 (by decide)).trans e51) (by omega) (by omega)
    · have dummy := c433
      have ta : (20 + downs).toNat = 20 + n 0 := by omega
      have hM1 : (st m 1 (20 + n 0) (many : Int)) 0 0 = 3 := (st_nf (by decide)).trans h9
      have hM2 : (st (st m 1 (20 + n 0) (many : Int)) 2 (20 + n 0) (q : Int)) 0 0 = 3 := (st_nf (by decide)).trans hM1
      have hM3 : (st (st (st m 1 (20 + n 0) (many : Int)) 2 (20 + n 0) (q : Int)) 3 (20 + n 0) (b : Int)) 0 0 = 3 := (st_nf (by decide)).trans hM2
      refine am_goto eL_law_436 ?_
      refine am_aload eL_law_446 rfl ?_
      refine am_iload eL_law_448 rfl ?_
      refine am_iload eL_law_450 rfl ?_
      refine am_iast eL_law_452 (en_9 (by rw [h9]; decide)) (by omega) (by omega) (by decide) (am_heq (h' := en_h (st m 1 (20 + n 0) (many : Int)) (bs_send x1 1 bk 0)) (by rw [ta, hmn]; exact cl_put (i := 0) (by rw [h9]; decide)) ?_)
      refine am_aload eL_law_453 rfl ?_
      refine am_iload eL_law_455 rfl ?_
      refine am_iload eL_law_457 rfl ?_
      refine am_iast eL_law_459 (en_9 (by rw [hM1]; decide)) (by omega) (by omega) (by decide) (am_heq (h' := en_h (st (st m 1 (20 + n 0) (many : Int)) 2 (20 + n 0) (q : Int)) (bs_send x1 1 bk 0)) (by rw [ta, hq]; exact cl_put (i := 1) (by rw [hM1]; decide)) ?_)
      refine am_aload eL_law_460 rfl ?_
      refine am_iload eL_law_462 rfl ?_
      refine am_iload eL_law_464 rfl ?_
      refine am_iast eL_law_466 (en_9 (by rw [hM2]; decide)) (by omega) (by omega) (by decide) (am_heq (h' := en_h (st (st (st m 1 (20 + n 0) (many : Int)) 2 (20 + n 0) (q : Int)) 3 (20 + n 0) (b : Int)) (bs_send x1 1 bk 0)) (by rw [ta, hb]; exact cl_put (i := 2) (by rw [hM2]; decide)) ?_)
      refine am_iload eL_law_467 rfl ?_
      refine am_iload eL_law_469 rfl ?_
      refine am_if_eq ⟨by omega, by omega⟩ eL_law_471 (fun c471 => absurd c471 (by omega)) (fun c471 => ?_)
      refine am_iconst eL_law_474 ?_
      refine am_goto eL_law_475 ?_
      refine am_iadd eL_law_479 ?_
      refine am_istore eL_law_480 (Nat.le_of_ble_eq_true rfl) ?_
      refine am_lseq (ls' := [some (am_R am_scr), some (am_R (8, 0)), none, some (am_I (N : Int)), some (am_I 1), some (am_I mo), some (am_I now), some (am_R (9, 0)), some (am_R (9, 1)), some (am_R (9, 2)), some (am_I (ups + 0)), some (am_I downs), some (am_I tt), some (am_I w), some (am_I wh), some (am_I 1), some (am_I mn), some (am_I fi), some (am_I bk), some (am_I ((N : Int) - 1)), some (am_I kv2), some (am_I (20 + downs))]) rfl ?_
      refine am_iload eL_law_482 rfl ?_
      refine am_iload eL_law_484 rfl ?_
      refine am_if_eq ⟨by omega, by omega⟩ eL_law_486 (fun c486 => absurd c486 (by omega)) (fun c486 => ?_)
      refine am_iconst eL_law_489 ?_
      refine am_goto eL_law_490 ?_
      refine am_iadd eL_law_494 ?_
      refine am_istore eL_law_495 (Nat.le_of_ble_eq_true rfl) ?_
      refine am_lseq (ls' := [some (am_R am_scr), some (am_R (8, 0)), none, some (am_I (N : Int)), some (am_I 1), some (am_I mo), some (am_I now), some (am_R (9, 0)), some (am_R (9, 1)), some (am_R (9, 2)), some (am_I (ups + 0)), some (am_I (downs + 1)), some (am_I tt), some (am_I w), some (am_I wh), some (am_I 1), some (am_I mn), some (am_I fi), some (am_I bk), some (am_I ((N : Int) - 1)), some (am_I kv2), some (am_I (20 + downs))]) rfl ?_
      refine am_goto eL_law_497 ?_
      refine am_lnone 13 ?_
      refine am_lnone 14 ?_
      refine am_lnone 15 ?_
      refine am_lnone 16 ?_
      refine am_lnone 17 ?_
      refine am_lnone 18 ?_
      refine am_lnone 19 ?_
      refine am_lnone 20 ?_
      refine am_lnone 21 ?_
      refine am_lseq (ls' := [some (am_R am_scr), some (am_R (8, 0)), none, some (am_I (N : Int)), some (am_I 1), some (am_I mo), some (am_I now), some (am_R (9, 0)), some (am_R (9, 1)), some (am_R (9, 2)), some (am_I (ups + 0)), some (am_I (downs + 1)), some (am_I tt), none, none, none, none, none, none, none, none, none]) rfl ?_
      exact kk _ (st (st (st m 1 (20 + n 0) (many : Int)) 2 (20 + n 0) (q : Int)) 3 (20 + n 0) (b : Int)) (up1 n 0) (k + 1 + many + 1) _ _ _ _ (⟨hR2, ⟨i2, i3, (eF 3 0 (by decide)).trans i4⟩, ⟨(eF 39 0 (by decide)).trans i5, fun j => (eF 6 j (by decide)).trans (i6 j)⟩, bw_of (fun f j a b => eF f j (by omega)) hbw, hM3, by show up1 n 0 0 + up1 n 0 1 ≤ 30; unfold up1; simp; omega, S', off', up3 mny 0 (n 0) many, up3 fst 0 (n 0) q, up3 bok 0 (n 0) b, hG', by rw [eF 1 0 (by decide)]; exact hB', hDk', (lw_R_0 hLR).1 (by omega)⟩) (by omega) (by unfold up1; simp; omega) (by unfold up1; simp; omega) ((eF 1 0 (by decide)).trans e1) ((eF 51 0 (by decide)).trans e51) (by omega) (by omega)
set_option maxRecDepth 100000 in
set_option maxHeartbeats 4000000 in
theorem law_send {HH : List (Nat × Nat × Nat × Nat)} {G : am_G} {X : am_X} {Q : State → Prop} {x m : sg_S} {k N : Nat} {n : Nat → Nat} {mo now ups downs tt w wh : Int} (hI : lw_I k x m N n) (hup : ups = (n 1 : Int)) (hdn : downs = (n 0 : Int)) (hlt : n 0 + n 1 < 30) (hk9 : k < 480) (rw_ : am_r w) {kc nc : Nat} (hk : kc ≤ 500000) (hn : nc ≤ 7000000)
    (kk : ∀ (x' m' : sg_S) (n' : Nat → Nat) (k' : Nat) (ups' downs' : Int) (kc' nc' : Nat), lw_I k' x' m' N n' → k' ≤ k + 6 → ups' = (n' 1 : Int) → downs' = (n' 0 : Int) → x' 1 0 = x 1 0 → x' 51 0 = x 51 0 → kc' ≤ kc + 850 → nc' ≤ nc + 5000 → am_W G X (mLh HH) 8 600104 7301314 Q 571 [some (am_R am_scr), some (am_R (8, 0)), none, some (am_I (N : Int)), some (am_I 1), some (am_I mo), some (am_I now), some (am_R (9, 0)), some (am_R (9, 1)), some (am_R (9, 2)), some (am_I ups'), some (am_I downs'), some (am_I tt), none, none, none, none, none, none, none, none, none] [] (en_h m' x') kc' nc') : am_W G X (mLh HH) 8 600104 7301314 Q 222 [some (am_R am_scr), some (am_R (8, 0)), none, some (am_I (N : Int)), some (am_I 1), some (am_I mo), some (am_I now), some (am_R (9, 0)), some (am_R (9, 1)), some (am_R (9, 2)), some (am_I ups), some (am_I downs), some (am_I tt), some (am_I w), some (am_I wh), none, none, none, none, none, none, none] [] (en_h m x) kc nc := by
  obtain ⟨rw1, rw2⟩ := rw_
  refine am_iload eL_law_222 rfl ?_
  refine am_iconst eL_law_224 ?_
  refine am_ishr eL_law_225 (fun z1 r_z1 => ?_)
  refine am_iconst eL_law_226 ?_
  refine am_cSr (st := []) eL_law_227 kL_17 (c_L_low r_z1 ⟨by omega, by omega⟩ (by omega)) rfl rfl (by decide) (Nat.le_of_ble_eq_true rfl) (by simp) (by omega) (by omega) (fun d h_d => ?_)
  obtain ⟨h_d1, h_d2⟩ := h_d
  refine am_if_ne ⟨by omega, by omega⟩ eL_law_230 (fun c230 => ?_) (fun c230 => ?_)
  · have dummy := c230
    refine am_iconst eL_law_237 ?_
    refine am_istore eL_law_238 (Nat.le_of_ble_eq_true rfl) ?_
    refine am_lseq (ls' := [some (am_R am_scr), some (am_R (8, 0)), none, some (am_I (N : Int)), some (am_I 1), some (am_I mo), some (am_I now), some (am_R (9, 0)), some (am_R (9, 1)), some (am_R (9, 2)), some (am_I ups), some (am_I downs), some (am_I tt), some (am_I w), some (am_I wh), some (am_I 0), none, none, none, none, none, none]) rfl ?_
    refine am_iconst eL_law_240 ?_
    refine am_iload eL_law_241 rfl ?_
    refine am_iconst eL_law_243 ?_
    refine am_ishr eL_law_244 (fun z2 r_z2 => ?_)
    refine am_iconst eL_law_245 ?_
    refine am_cSr (st := [am_I 1]) eL_law_246 kL_17 (c_L_low r_z2 ⟨by omega, by omega⟩ (by omega)) rfl rfl (by decide) (Nat.le_of_ble_eq_true rfl) (by simp) (by omega) (by omega) (fun a h_a => ?_)
    obtain ⟨h_a1, h_a2⟩ := h_a
    refine am_iadd eL_law_249 ?_
    refine am_istore eL_law_250 (Nat.le_of_ble_eq_true rfl) ?_
    refine am_lseq (ls' := [some (am_R am_scr), some (am_R (8, 0)), none, some (am_I (N : Int)), some (am_I 1), some (am_I mo), some (am_I now), some (am_R (9, 0)), some (am_R (9, 1)), some (am_R (9, 2)), some (am_I ups), some (am_I downs), some (am_I tt), some (am_I w), some (am_I wh), some (am_I 0), some (am_I (1 + a)), none, none, none, none, none]) rfl ?_
    refine am_iload eL_law_252 rfl ?_
    refine am_bipush eL_law_254 (by decide) ?_
    refine am_ishr eL_law_256 (fun z3 r_z3 => ?_)
    refine am_bipush eL_law_257 (by decide) ?_
    refine am_cSr (st := []) eL_law_259 kL_17 (c_L_low r_z3 ⟨by omega, by omega⟩ (by omega)) rfl rfl (by decide) (Nat.le_of_ble_eq_true rfl) (by simp) (by omega) (by omega) (fun q h_q => ?_)
    obtain ⟨h_q1, h_q2⟩ := h_q
    refine am_istore eL_law_262 (Nat.le_of_ble_eq_true rfl) ?_
    refine am_lseq (ls' := [some (am_R am_scr), some (am_R (8, 0)), none, some (am_I (N : Int)), some (am_I 1), some (am_I mo), some (am_I now), some (am_R (9, 0)), some (am_R (9, 1)), some (am_R (9, 2)), some (am_I ups), some (am_I downs), some (am_I tt), some (am_I w), some (am_I wh), some (am_I 0), some (am_I (1 + a)), some (am_I q), none, none, none, none]) rfl ?_
    exact law_send0 (q := q.toNat) (many := (1 + a).toNat) hI hup hdn hlt hk9 ⟨rw1, rw2⟩ (by omega) (by omega) (by omega) ⟨by omega, by omega⟩ hk hn kk
  · have dummy := c230
    refine am_iconst eL_law_233 ?_
    refine am_goto eL_law_234 ?_
    refine am_istore eL_law_238 (Nat.le_of_ble_eq_true rfl) ?_
    refine am_lseq (ls' := [some (am_R am_scr), some (am_R (8, 0)), none, some (am_I (N : Int)), some (am_I 1), some (am_I mo), some (am_I now), some (am_R (9, 0)), some (am_R (9, 1)), some (am_R (9, 2)), some (am_I ups), some (am_I downs), some (am_I tt), some (am_I w), some (am_I wh), some (am_I 1), none, none, none, none, none, none]) rfl ?_
    refine am_iconst eL_law_240 ?_
    refine am_iload eL_law_241 rfl ?_
    refine am_iconst eL_law_243 ?_
    refine am_ishr eL_law_244 (fun z2 r_z2 => ?_)
    refine am_iconst eL_law_245 ?_
    refine am_cSr (st := [am_I 1]) eL_law_246 kL_17 (c_L_low r_z2 ⟨by omega, by omega⟩ (by omega)) rfl rfl (by decide) (Nat.le_of_ble_eq_true rfl) (by simp) (by omega) (by omega) (fun a h_a => ?_)
    obtain ⟨h_a1, h_a2⟩ := h_a
    refine am_iadd eL_law_249 ?_
    refine am_istore eL_law_250 (Nat.le_of_ble_eq_true rfl) ?_
    refine am_lseq (ls' := [some (am_R am_scr), some (am_R (8, 0)), none, some (am_I (N : Int)), some (am_I 1), some (am_I mo), some (am_I now), some (am_R (9, 0)), some (am_R (9, 1)), some (am_R (9, 2)), some (am_I ups), some (am_I downs), some (am_I tt), some (am_I w), some (am_I wh), some (am_I 1), some (am_I (1 + a)), none, none, none, none, none]) rfl ?_
    refine am_iload eL_law_252 rfl ?_
    refine am_bipush eL_law_254 (by decide) ?_
    refine am_ishr eL_law_256 (fun z3 r_z3 => ?_)
    refine am_bipush eL_law_257 (by decide) ?_
    refine am_cSr (st := []) eL_law_259 kL_17 (c_L_low r_z3 ⟨by omega, by omega⟩ (by omega)) rfl rfl (by decide) (Nat.le_of_ble_eq_true rfl) (by simp) (by omega) (by omega) (fun q h_q => ?_)
    obtain ⟨h_q1, h_q2⟩ := h_q
    refine am_istore eL_law_262 (Nat.le_of_ble_eq_true rfl) ?_
    refine am_lseq (ls' := [some (am_R am_scr), some (am_R (8, 0)), none, some (am_I (N : Int)), some (am_I 1), some (am_I mo), some (am_I now), some (am_R (9, 0)), some (am_R (9, 1)), some (am_R (9, 2)), some (am_I ups), some (am_I downs), some (am_I tt), some (am_I w), some (am_I wh), some (am_I 1), some (am_I (1 + a)), some (am_I q), none, none, none, none]) rfl ?_
    exact law_send1 (q := q.toNat) (many := (1 + a).toNat) hI hup hdn hlt hk9 ⟨rw1, rw2⟩ (by omega) (by omega) (by omega) ⟨by omega, by omega⟩ hk hn kk
