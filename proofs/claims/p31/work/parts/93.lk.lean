/-! the sending: the text, what the tower keeps -/
/-- behind clear and some of the types -/
def lw_X (x0 x1 : sg_S) (q i : Nat) : Prop := (∀ f j, f ≠ 0 → f ≠ 24 → f ≠ 25 → x1 f j = x0 f j) ∧ x1 24 0 = (i : Int) ∧ ∀ j, j < i → x1 25 j = 100 + (((q + j) % 6 : Nat) : Int)
set_option maxRecDepth 100000 in
set_option maxHeartbeats 4000000 in
theorem law_type {HH : List (Nat × Nat × Nat × Nat)} {G : am_G} {X : am_X} {Q : State → Prop} {x0 m : sg_S} {k N : Nat} {mo now ups downs tt w wh dn mn fi : Int} {q many : Nat} (hq : fi = (q : Int)) (hq6 : q < 6) (hmn : mn = (many : Int)) (hm4 : many ≤ 4) {A B : Nat} (hA : A ≤ 600000) (hB : B ≤ 7300000)
    (kk : ∀ (x1 : sg_S) (kv : Int) (kc nc : Nat), sg_R (k + many) x1 → lw_X x0 x1 q many → kc ≤ A → nc ≤ B → am_W G X (mLh HH) 8 600104 7301314 Q 301 [some (am_R am_scr), some (am_R (8, 0)), none, some (am_I (N : Int)), some (am_I 1), some (am_I mo), some (am_I now), some (am_R (9, 0)), some (am_R (9, 1)), some (am_R (9, 2)), some (am_I ups), some (am_I downs), some (am_I tt), some (am_I w), some (am_I wh), some (am_I dn), some (am_I mn), some (am_I fi), some (am_I kv), none, none, none] [] (en_h m x1) kc nc) :
    ∀ (f i : Nat) (kv : Int) (x1 : sg_S) (kc nc : Nat), kv = (i : Int) → i + f = many → sg_R (k + i) x1 → lw_X x0 x1 q i → kc + 4 * f ≤ A → nc + 24 * f ≤ B → am_W G X (mLh HH) 8 600104 7301314 Q 272 [some (am_R am_scr), some (am_R (8, 0)), none, some (am_I (N : Int)), some (am_I 1), some (am_I mo), some (am_I now), some (am_R (9, 0)), some (am_R (9, 1)), some (am_R (9, 2)), some (am_I ups), some (am_I downs), some (am_I tt), some (am_I w), some (am_I wh), some (am_I dn), some (am_I mn), some (am_I fi), some (am_I kv), none, none, none] [] (en_h m x1) kc nc := by
  intro f
  induction f with
  | zero =>
    intro i kv x1 kc nc hi hf hR hX hk hn
    refine am_iload eL_law_272 rfl ?_
    refine am_iload eL_law_274 rfl ?_
    refine am_icmp_ge ⟨by omega, by omega⟩ ⟨by omega, by omega⟩ eL_law_276 (fun c276 => ?_) (fun c276 => absurd c276 (by omega))
    obtain rfl : i = many := by omega
    exact kk x1 _ _ _ hR hX (by omega) (by omega)
  | succ f ih =>
    intro i kv x1 kc nc hi hf hR hX hk hn
    obtain ⟨hX1, hX2, hX3⟩ := id hX
    have hW := hR.1
    refine am_iload eL_law_272 rfl ?_
    refine am_iload eL_law_274 rfl ?_
    refine am_icmp_ge ⟨by omega, by omega⟩ ⟨by omega, by omega⟩ eL_law_276 (fun c276 => absurd c276 (by omega)) (fun c276 => ?_)
    refine am_aload_n eL_law_279 rfl ?_
    refine am_bipush eL_law_280 (by decide) ?_
    refine am_iload eL_law_282 rfl ?_
    refine am_iload eL_law_284 rfl ?_
    refine am_iadd eL_law_286 ?_
    refine am_bipush eL_law_287 (by decide) ?_
    refine am_irem ⟨by omega, by omega⟩ (by omega) ⟨by omega, by omega⟩ (by omega) eL_law_289 ?_
    refine am_iadd eL_law_290 ?_
    obtain ⟨a, ha⟩ : ∃ a, a = 100 + (fi + kv) % 6 := ⟨_, rfl⟩
    rw [← ha]
    have ra : 100 ≤ a ∧ a ≤ 105 := by omega
    have eS : sp_type x1 a = st (st (st x1 0 0 0) 25 i a) 24 0 ((i : Int) + 1) := by unfold sp_type; rw [if_neg (by omega), if_neg (by omega), hX2, Int.toNat_natCast]
    have e00 : sp_type x1 a 0 0 = 0 := by rw [eS, st_nf (by decide), st_nf (by decide), st_eq]
    have hR1 : sg_R (k + (i + 1)) (sp_type x1 a) := sr_type hR
    refine am_cVr (mc' := 4) (ms' := 24) (st := []) eL_law_291 kL_32 (wr_is (c_X8_type (m := m) (x := x1) hW (a := a) ⟨by omega, by omega⟩) e00) rfl rfl (en_c8 (m := m) (x := x1)) (by decide) (Nat.le_of_ble_eq_true rfl) (by simp) (by omega) (by omega) ?_
    refine am_pop (by simp) eL_law_294 ?_
    refine am_iinc eL_law_295 rfl (Nat.le_of_ble_eq_true rfl) ?_
    refine am_lseq (ls' := [some (am_R am_scr), some (am_R (8, 0)), none, some (am_I (N : Int)), some (am_I 1), some (am_I mo), some (am_I now), some (am_R (9, 0)), some (am_R (9, 1)), some (am_R (9, 2)), some (am_I ups), some (am_I downs), some (am_I tt), some (am_I w), some (am_I wh), some (am_I dn), some (am_I mn), some (am_I fi), some (am_I (kv + 1)), none, none, none]) rfl ?_
    refine am_goto eL_law_298 ?_
    refine ih (i + 1) _ (sp_type x1 a) _ _ (by omega) (by omega) hR1 ⟨fun f j h0 h1 h2 => by rw [eS, st_nf h1, st_nf h2, st_nf h0]; exact hX1 f j h0 h1 h2, by rw [eS, st_eq]; omega, fun j hj => ?_⟩ (by omega) (by omega)
    rw [eS, st_nf (by decide)]
    by_cases c : j = i
    · rw [c, st_eq]; omega
    · rw [st_ni c, st_nf (by decide)]; exact hX3 j (by omega)
set_option maxRecDepth 100000 in
set_option maxHeartbeats 4000000 in
theorem law_keeps0 {HH : List (Nat × Nat × Nat × Nat)} {G : am_G} {X : am_X} {Q : State → Prop} {x m : sg_S} {k N : Nat} {mo now ups downs tt w wh mn fi bk : Int} (hR : sg_R k x) (i4 : 2 ≤ N ∧ x 3 0 = (N : Int)) {A B : Nat} (hA : A ≤ 600000) (hB : B ≤ 7300000)
    (kk : ∀ (kv : Int) (kc nc : Nat), kv = x 12 (2 * 0 + 1) → kc ≤ A → nc ≤ B → am_W G X (mLh HH) 8 600104 7301314 Q 364 [some (am_R am_scr), some (am_R (8, 0)), none, some (am_I (N : Int)), some (am_I 1), some (am_I mo), some (am_I now), some (am_R (9, 0)), some (am_R (9, 1)), some (am_R (9, 2)), some (am_I ups), some (am_I downs), some (am_I tt), some (am_I w), some (am_I wh), some (am_I 0), some (am_I mn), some (am_I fi), some (am_I bk), some (am_I 0), some (am_I kv), none] [] (en_h m x) kc nc) :
    ∀ (f j : Nat) (kv : Int) (kc nc : Nat), kv = (j : Int) → (j : Int) + f = x 12 (2 * 0 + 1) → kc + 4 * (f + 1) ≤ A → nc + 24 * (f + 1) ≤ B → am_W G X (mLh HH) 8 600104 7301314 Q 329 [some (am_R am_scr), some (am_R (8, 0)), none, some (am_I (N : Int)), some (am_I 1), some (am_I mo), some (am_I now), some (am_R (9, 0)), some (am_R (9, 1)), some (am_R (9, 2)), some (am_I ups), some (am_I downs), some (am_I tt), some (am_I w), some (am_I wh), some (am_I 0), some (am_I mn), some (am_I fi), some (am_I bk), some (am_I 0), some (am_I kv), none] [] (en_h m x) kc nc := by
  intro f
  induction f with
  | zero =>
    intro j kv kc nc hj hf hk hn
    have hW := hR.1
    have b3 := wb3 hW 0
    have b12 := wb12 hW (2 * 0 + 1)
    have b14 := wb14 hW (220 * (2 * 0 + 1) + kv.toNat)
    have eT : 2 * (0 : Int).toNat + (1 : Int).toNat = (2 * 0 + 1) := by rfl
    have eS : sp_keeps x (0 : Int) 1 kv = st x 0 0 0 := by unfold sp_keeps; rw [if_neg (by omega)]
    have eA : an_keeps x (0 : Int) 1 kv = if kv < x 12 (2 * 0 + 1) then x 14 (220 * (2 * 0 + 1) + kv.toNat) else -1 := by unfold an_keeps; rw [if_neg (by omega), eT]
    refine am_iload eL_law_329 rfl ?_
    refine am_sipush eL_law_331 (by decide) ?_
    refine am_icmp_ge ⟨by omega, by omega⟩ ⟨by omega, by omega⟩ eL_law_334 (fun c334 => ?_) (fun c334 => ?_)
    · exact kk _ _ _ (by omega) (by omega) (by omega)
    · have c9 := c334
      refine am_aload_n eL_law_337 rfl ?_
      refine am_iload eL_law_338 rfl ?_
      refine am_iload eL_law_340 rfl ?_
      refine am_if_ne ⟨by omega, by omega⟩ eL_law_342 (fun c342 => absurd c342 (by omega)) (fun c342 => ?_)
      refine am_iconst eL_law_345 ?_
      refine am_goto eL_law_346 ?_
      refine am_iload eL_law_350 rfl ?_
      refine am_cVr (mc' := 4) (ms' := 24) (st := []) eL_law_352 kL_36 (rd_is (c_X8_keeps (m := m) (x := x) hW (t := (0 : Int)) (u := 1) (p := kv) ⟨by omega, by omega⟩ ⟨by omega, by omega⟩ (Or.inr rfl)) eS) rfl rfl (en_c8 (m := m) (x := x)) (by decide) (Nat.le_of_ble_eq_true rfl) (by simp) (by omega) (by omega) ?_
      rw [eA, if_neg (by omega)]
      refine am_if_lt ⟨by omega, by omega⟩ eL_law_355 (fun c355 => ?_) (fun c355 => absurd c355 (by omega))
      exact kk _ _ _ (by omega) (by omega) (by omega)
  | succ f ih =>
    intro j kv kc nc hj hf hk hn
    have hW := hR.1
    have b3 := wb3 hW 0
    have b12 := wb12 hW (2 * 0 + 1)
    have b14 := wb14 hW (220 * (2 * 0 + 1) + kv.toNat)
    have eT : 2 * (0 : Int).toNat + (1 : Int).toNat = (2 * 0 + 1) := by rfl
    have eS : sp_keeps x (0 : Int) 1 kv = st x 0 0 0 := by unfold sp_keeps; rw [if_neg (by omega)]
    have eA : an_keeps x (0 : Int) 1 kv = if kv < x 12 (2 * 0 + 1) then x 14 (220 * (2 * 0 + 1) + kv.toNat) else -1 := by unfold an_keeps; rw [if_neg (by omega), eT]
    refine am_iload eL_law_329 rfl ?_
    refine am_sipush eL_law_331 (by decide) ?_
    refine am_icmp_ge ⟨by omega, by omega⟩ ⟨by omega, by omega⟩ eL_law_334 (fun c334 => absurd c334 (by omega)) (fun c334 => ?_)
    refine am_aload_n eL_law_337 rfl ?_
    refine am_iload eL_law_338 rfl ?_
    refine am_iload eL_law_340 rfl ?_
    refine am_if_ne ⟨by omega, by omega⟩ eL_law_342 (fun c342 => absurd c342 (by omega)) (fun c342 => ?_)
    refine am_iconst eL_law_345 ?_
    refine am_goto eL_law_346 ?_
    refine am_iload eL_law_350 rfl ?_
    refine am_cVr (mc' := 4) (ms' := 24) (st := []) eL_law_352 kL_36 (rd_is (c_X8_keeps (m := m) (x := x) hW (t := (0 : Int)) (u := 1) (p := kv) ⟨by omega, by omega⟩ ⟨by omega, by omega⟩ (Or.inr rfl)) eS) rfl rfl (en_c8 (m := m) (x := x)) (by decide) (Nat.le_of_ble_eq_true rfl) (by simp) (by omega) (by omega) ?_
    rw [eA, if_pos (show kv < x 12 (2 * 0 + 1) by omega)]
    have g0 : am_r (x 14 (220 * (2 * 0 + 1) + kv.toNat)) := ⟨by omega, by omega⟩
    refine am_if_lt g0 eL_law_355 (fun c355 => absurd c355 (by omega)) (fun c355 => ?_)
    refine am_iinc eL_law_358 rfl (Nat.le_of_ble_eq_true rfl) ?_
    refine am_lseq (ls' := [some (am_R am_scr), some (am_R (8, 0)), none, some (am_I (N : Int)), some (am_I 1), some (am_I mo), some (am_I now), some (am_R (9, 0)), some (am_R (9, 1)), some (am_R (9, 2)), some (am_I ups), some (am_I downs), some (am_I tt), some (am_I w), some (am_I wh), some (am_I 0), some (am_I mn), some (am_I fi), some (am_I bk), some (am_I 0), some (am_I (kv + 1)), none]) rfl ?_
    refine am_goto eL_law_361 ?_
    exact ih (j + 1) _ _ _ (by omega) (by omega) (by omega) (by omega)
set_option maxRecDepth 100000 in
set_option maxHeartbeats 4000000 in
theorem law_keeps1 {HH : List (Nat × Nat × Nat × Nat)} {G : am_G} {X : am_X} {Q : State → Prop} {x m : sg_S} {k N : Nat} {mo now ups downs tt w wh mn fi bk : Int} (hR : sg_R k x) (i4 : 2 ≤ N ∧ x 3 0 = (N : Int)) {A B : Nat} (hA : A ≤ 600000) (hB : B ≤ 7300000)
    (kk : ∀ (kv : Int) (kc nc : Nat), kv = x 12 (2 * (N - 1) + 0) → kc ≤ A → nc ≤ B → am_W G X (mLh HH) 8 600104 7301314 Q 364 [some (am_R am_scr), some (am_R (8, 0)), none, some (am_I (N : Int)), some (am_I 1), some (am_I mo), some (am_I now), some (am_R (9, 0)), some (am_R (9, 1)), some (am_R (9, 2)), some (am_I ups), some (am_I downs), some (am_I tt), some (am_I w), some (am_I wh), some (am_I 1), some (am_I mn), some (am_I fi), some (am_I bk), some (am_I ((N : Int) - 1)), some (am_I kv), none] [] (en_h m x) kc nc) :
    ∀ (f j : Nat) (kv : Int) (kc nc : Nat), kv = (j : Int) → (j : Int) + f = x 12 (2 * (N - 1) + 0) → kc + 4 * (f + 1) ≤ A → nc + 24 * (f + 1) ≤ B → am_W G X (mLh HH) 8 600104 7301314 Q 329 [some (am_R am_scr), some (am_R (8, 0)), none, some (am_I (N : Int)), some (am_I 1), some (am_I mo), some (am_I now), some (am_R (9, 0)), some (am_R (9, 1)), some (am_R (9, 2)), some (am_I ups), some (am_I downs), some (am_I tt), some (am_I w), some (am_I wh), some (am_I 1), some (am_I mn), some (am_I fi), some (am_I bk), some (am_I ((N : Int) - 1)), some (am_I kv), none] [] (en_h m x) kc nc := by
  intro f
  induction f with
  | zero =>
    intro j kv kc nc hj hf hk hn
    have hW := hR.1
    have b3 := wb3 hW 0
    have b12 := wb12 hW (2 * (N - 1) + 0)
    have b14 := wb14 hW (220 * (2 * (N - 1) + 0) + kv.toNat)
    have eT : 2 * ((N : Int) - 1).toNat + (0 : Int).toNat = (2 * (N - 1) + 0) := by show 2 * ((N : Int) - 1).toNat + 0 = _; omega
    have eS : sp_keeps x ((N : Int) - 1) 0 kv = st x 0 0 0 := by unfold sp_keeps; rw [if_neg (by omega)]
    have eA : an_keeps x ((N : Int) - 1) 0 kv = if kv < x 12 (2 * (N - 1) + 0) then x 14 (220 * (2 * (N - 1) + 0) + kv.toNat) else -1 := by unfold an_keeps; rw [if_neg (by omega), eT]
    refine am_iload eL_law_329 rfl ?_
    refine am_sipush eL_law_331 (by decide) ?_
    refine am_icmp_ge ⟨by omega, by omega⟩ ⟨by omega, by omega⟩ eL_law_334 (fun c334 => ?_) (fun c334 => ?_)
    · exact kk _ _ _ (by omega) (by omega) (by omega)
    · have c9 := c334
      refine am_aload_n eL_law_337 rfl ?_
      refine am_iload eL_law_338 rfl ?_
      refine am_iload eL_law_340 rfl ?_
      refine am_if_ne ⟨by omega, by omega⟩ eL_law_342 (fun c342 => ?_) (fun c342 => absurd c342 (by omega))
      refine am_iconst eL_law_349 ?_
      refine am_iload eL_law_350 rfl ?_
      refine am_cVr (mc' := 4) (ms' := 24) (st := []) eL_law_352 kL_36 (rd_is (c_X8_keeps (m := m) (x := x) hW (t := ((N : Int) - 1)) (u := 0) (p := kv) ⟨by omega, by omega⟩ ⟨by omega, by omega⟩ (Or.inl rfl)) eS) rfl rfl (en_c8 (m := m) (x := x)) (by decide) (Nat.le_of_ble_eq_true rfl) (by simp) (by omega) (by omega) ?_
      rw [eA, if_neg (by omega)]
      refine am_if_lt ⟨by omega, by omega⟩ eL_law_355 (fun c355 => ?_) (fun c355 => absurd c355 (by omega))
      exact kk _ _ _ (by omega) (by omega) (by omega)
  | succ f ih =>
    intro j kv kc nc hj hf hk hn
    have hW := hR.1
    have b3 := wb3 hW 0
    have b12 := wb12 hW (2 * (N - 1) + 0)
    have b14 := wb14 hW (220 * (2 * (N - 1) + 0) + kv.toNat)
    have eT : 2 * ((N : Int) - 1).toNat + (0 : Int).toNat = (2 * (N - 1) + 0) := by show 2 * ((N : Int) - 1).toNat + 0 = _; omega
    have eS : sp_keeps x ((N : Int) - 1) 0 kv = st x 0 0 0 := by unfold sp_keeps; rw [if_neg (by omega)]
    have eA : an_keeps x ((N : Int) - 1) 0 kv = if kv < x 12 (2 * (N - 1) + 0) then x 14 (220 * (2 * (N - 1) + 0) + kv.toNat) else -1 := by unfold an_keeps; rw [if_neg (by omega), eT]
    refine am_iload eL_law_329 rfl ?_
    refine am_sipush eL_law_331 (by decide) ?_
    refine am_icmp_ge ⟨by omega, by omega⟩ ⟨by omega, by omega⟩ eL_law_334 (fun c334 => absurd c334 (by omega)) (fun c334 => ?_)
    refine am_aload_n eL_law_337 rfl ?_
    refine am_iload eL_law_338 rfl ?_
    refine am_iload eL_law_340 rfl ?_
    refine am_if_ne ⟨by omega, by omega⟩ eL_law_342 (fun c342 => ?_) (fun c342 => absurd c342 (by omega))
    refine am_iconst eL_law_349 ?_
    refine am_iload eL_law_350 rfl ?_
    refine am_cVr (mc' := 4) (ms' := 24) (st := []) eL_law_352 kL_36 (rd_is (c_X8_keeps (m := m) (x := x) hW (t := ((N : Int) - 1)) (u := 0) (p := kv) ⟨by omega, by omega⟩ ⟨by omega, by omega⟩ (Or.inl rfl)) eS) rfl rfl (en_c8 (m := m) (x := x)) (by decide) (Nat.le_of_ble_eq_true rfl) (by simp) (by omega) (by omega) ?_
    rw [eA, if_pos (show kv < x 12 (2 * (N - 1) + 0) by omega)]
    have g0 : am_r (x 14 (220 * (2 * (N - 1) + 0) + kv.toNat)) := ⟨by omega, by omega⟩
    refine am_if_lt g0 eL_law_355 (fun c355 => absurd c355 (by omega)) (fun c355 => ?_)
    refine am_iinc eL_law_358 rfl (Nat.le_of_ble_eq_true rfl) ?_
    refine am_lseq (ls' := [some (am_R am_scr), some (am_R (8, 0)), none, some (am_I (N : Int)), some (am_I 1), some (am_I mo), some (am_I now), some (am_R (9, 0)), some (am_R (9, 1)), some (am_R (9, 2)), some (am_I ups), some (am_I downs), some (am_I tt), some (am_I w), some (am_I wh), some (am_I 1), some (am_I mn), some (am_I fi), some (am_I bk), some (am_I ((N : Int) - 1)), some (am_I (kv + 1)), none]) rfl ?_
    refine am_goto eL_law_361 ?_
    exact ih (j + 1) _ _ _ (by omega) (by omega) (by omega) (by omega)
