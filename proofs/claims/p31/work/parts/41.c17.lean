/-- a book's spots are different -/
def sg_N (σ : sg_S) : Prop := ∀ b i j : Nat, (i : Int) < σ 21 b → (j : Int) < σ 21 b → σ 22 (200 * b + i) = σ 22 (200 * b + j) → i = j
theorem sg_N_st {σ : sg_S} {f j : Nat} {v : Int} (h1 : f ≠ 21) (h2 : f ≠ 22) (h : sg_N σ) : sg_N (st σ f j v) := by
  intro b i k
  rw [st_nf (Ne.symm h1), st_nf (Ne.symm h2), st_nf (Ne.symm h2)]
  exact h b i k
theorem sq_ix_sp {σ : sg_S} {b : Nat} {s : Int} : ∀ n j : Nat, (sq_ix σ b s n j = -1 ∧ ∀ i, j ≤ i → i < j + n → σ 22 (200 * b + i) ≠ s) ∨ ∃ i, j ≤ i ∧ i < j + n ∧ σ 22 (200 * b + i) = s ∧ sq_ix σ b s n j = (i : Int)
  | 0, j => Or.inl ⟨rfl, fun i h1 h2 => by omega⟩
  | n + 1, j => by
    by_cases c : σ 22 (200 * b + j) = s
    · exact Or.inr ⟨j, Nat.le_refl _, by omega, c, by simp [sq_ix, c]⟩
    · have e : sq_ix σ b s (n + 1) j = sq_ix σ b s n (j + 1) := by simp [sq_ix, c]
      rcases sq_ix_sp (σ := σ) (b := b) (s := s) n (j + 1) with ⟨h1, h2⟩ | ⟨i, h1, h2, h3, h4⟩
      · refine Or.inl ⟨e.trans h1, fun i g1 g2 => ?_⟩
        rcases Nat.eq_or_lt_of_le g1 with z | z
        · rw [← z]; exact c
        · exact h2 i z (by omega)
      · exact Or.inr ⟨i, by omega, by omega, h3, e.trans h4⟩
theorem sp_fnd_sp {σ : sg_S} {b : Nat} {s : Int} : ∀ n : Nat, (sp_fnd σ b s n = -1 ∧ ∀ i, i < n → σ 22 (200 * b + i) ≠ s) ∨ ∃ i, i < n ∧ σ 22 (200 * b + i) = s ∧ sp_fnd σ b s n = ((200 * b + i : Nat) : Int)
  | 0 => Or.inl ⟨rfl, fun i h => by omega⟩
  | n + 1 => by
    by_cases c : σ 22 (200 * b + n) = s
    · exact Or.inr ⟨n, by omega, c, by simp [sp_fnd, c]⟩
    · have e : sp_fnd σ b s (n + 1) = sp_fnd σ b s n := by simp [sp_fnd, c]
      rcases sp_fnd_sp (σ := σ) (b := b) (s := s) n with ⟨h1, h2⟩ | ⟨i, h1, h2, h3⟩
      · refine Or.inl ⟨e.trans h1, fun i g => ?_⟩
        rcases Nat.lt_or_ge i n with z | z
        · exact h2 i z
        · rw [show i = n by omega]; exact c
      · exact Or.inr ⟨i, by omega, h2, e.trans h3⟩
theorem ix_fnd {σ : sg_S} (hN : sg_N σ) {b : Nat} {s : Int} : (aq_ix σ b s = -1 ∧ sp_fnd σ b s (σ 21 b).toNat = -1) ∨ ∃ i : Nat, (i : Int) < σ 21 b ∧ σ 22 (200 * b + i) = s ∧ aq_ix σ b s = (i : Int) ∧ sp_fnd σ b s (σ 21 b).toNat = ((200 * b + i : Nat) : Int) := by
  unfold aq_ix
  rcases sq_ix_sp (σ := σ) (b := b) (s := s) (σ 21 b).toNat 0 with ⟨h1, h2⟩ | ⟨i, h1, h2, h3, h4⟩ <;> rcases sp_fnd_sp (σ := σ) (b := b) (s := s) (σ 21 b).toNat with ⟨g1, g2⟩ | ⟨k, g1, g2, g3⟩
  · exact Or.inl ⟨h1, g1⟩
  · exact absurd g2 (h2 k (Nat.zero_le _) (by omega))
  · exact absurd h3 (g2 i (by omega))
  · have e := hN b i k (by omega) (by omega) (h3.trans g2.symm)
    subst e
    exact Or.inr ⟨i, by omega, h3, h4, g3⟩
/-- the phrase at a spot of a book -/
def sp_ph (σ : sg_S) (b : Nat) (s : Int) : Int := if sp_fnd σ b s (σ 21 b).toNat = -1 then -1 else σ 23 (sp_fnd σ b s (σ 21 b).toNat).toNat
theorem aq_ph_sp {σ : sg_S} (hN : sg_N σ) {b : Nat} {s : Int} : aq_ph σ b s = sp_ph σ b s := by
  unfold aq_ph sp_ph
  rcases ix_fnd hN (b := b) (s := s) with ⟨h1, h2⟩ | ⟨i, h1, h2, h3, h4⟩
  · rw [h1, h2]; rfl
  · rw [h3, h4, if_neg (by omega), if_neg (by omega), Int.toNat_natCast, Int.toNat_natCast]
theorem sp_ph_st {σ : sg_S} {f j : Nat} {v : Int} (h1 : f ≠ 21) (h2 : f ≠ 22) (h3 : f ≠ 23) {b : Nat} {s : Int} : sp_ph (st σ f j v) b s = sp_ph σ b s := by
  unfold sp_ph
  rw [sp_fnd_st h2, st_nf (Ne.symm h1), st_nf (Ne.symm h3)]
theorem sp_ph_in {T : Int} {σ : sg_S} (hW : md_wb T σ) {b : Nat} {s : Int} : -1 ≤ sp_ph σ b s ∧ sp_ph σ b s ≤ 9999 := by
  unfold sp_ph
  split
  · omega
  · have := wb23 hW (sp_fnd σ b s (σ 21 b).toNat).toNat
    omega
theorem c_X1_phraseAtF {G : am_G} {m x : sg_S} {T : Int} (hW : md_wb T x) (hN : sg_N x) {i : Nat} (hi : i < 3) {s : Int} (hr_s : -2147483648 ≤ s ∧ s < 2147483648) : am_Con G yX1_phraseAt wX1_phraseAt 2 0 0 [am_R (1, i), am_I s] (en_h m x) (am_is (am_I (sp_ph x i s)) (en_h m x)) := by
  rw [← aq_ph_sp hN]
  exact c_X1_phraseAt hW hi hr_s
set_option maxRecDepth 100000 in
set_option maxHeartbeats 4000000 in
theorem c_X8_dispatchAt {G : am_G} {m x : sg_S} {T : Int} (hW : md_wb T x) {u a : Int} (hr_a : -2147483648 ≤ a ∧ a < 2147483648) (hb_u : u = 0 ∨ u = 1) : am_Con G yX8_dispatchAt wX8_dispatchAt 6 1 6 [am_R (8, 0), am_I u, am_I a] (en_h m x) (am_if (0 ≤ a ∧ a < x 33 u.toNat) (am_R (2, (x 57 (40 * u.toNat + a.toNat)).toNat)) (en_h m x) 0 (en_h m x)) := by
  refine am_of2 (Y := mX8_dispatchAt) (by decide +kernel) rfl (fun z => by cases z) rfl rfl (Nat.le_of_ble_eq_true rfl) fun X => ?_
  have b33 := wb33 hW u.toNat
  refine am_aload_n eX8_dispatchAt_0 rfl ?_
  refine am_iload_n eX8_dispatchAt_1 rfl ?_
  refine am_cV eX8_dispatchAt_2 kX8_232 (c_X8_tapeOf (m := m) (x := x) (T := T) hW (u := u) (by omega)) rfl rfl (en_c8 (m := m) (x := x)) (by decide) (by decide) (Nat.le_of_ble_eq_true rfl) (by omega) (by omega) ?_
  refine am_astore_n eX8_dispatchAt_5 (by decide) ?_
  refine am_iload_n eX8_dispatchAt_6 rfl ?_
  refine am_if_lt ⟨by omega, by omega⟩ eX8_dispatchAt_7 (fun c1 => ?_) (fun c1 => ?_)
  · exact am_throwW x_thr0 rfl x_tx278 (by decide) rfl (by simp) eX8_dispatchAt_18 eX8_dispatchAt_21 eX8_dispatchAt_22 eX8_dispatchAt_25 eX8_dispatchAt_28 (by omega) (by omega) (Or.inr ⟨by omega, rfl, rfl⟩)
  · refine am_iload_n eX8_dispatchAt_10 rfl ?_
    refine am_aload_n eX8_dispatchAt_11 rfl ?_
    refine am_getf eX8_dispatchAt_12 fX8_236 (en_c6 (m := m) (x := x) (i := u.toNat) (by omega)) rfl ?_
    have b2 := wb33 hW u.toNat
    refine am_icmp_lt ⟨by omega, by omega⟩ ⟨by omega, by omega⟩ eX8_dispatchAt_15 (fun c3 => ?_) (fun c3 => ?_)
    · refine am_aload_n eX8_dispatchAt_29 rfl ?_
      refine am_getf eX8_dispatchAt_30 fX8_280 (en_c6 (m := m) (x := x) (i := u.toNat) (by omega)) rfl ?_
      refine am_iload_n eX8_dispatchAt_33 rfl ?_
      refine am_aald (kd := 7) (x := am_R (2, (x 57 (40 * u.toNat + a.toNat)).toNat)) eX8_dispatchAt_34 (en_c218 (m := m) (x := x) (i := u.toNat) (by omega)) (by decide) (by decide) (by omega) (by omega) (by decide) (by exact if_pos (by omega)) ?_
      refine am_areturn eX8_dispatchAt_35 rfl (by omega) (by omega) ?_
      exact Or.inl ⟨by omega, rfl, rfl⟩
    · exact am_throwW x_thr0 rfl x_tx278 (by decide) rfl (by simp) eX8_dispatchAt_18 eX8_dispatchAt_21 eX8_dispatchAt_22 eX8_dispatchAt_25 eX8_dispatchAt_28 (by omega) (by omega) (Or.inr ⟨by omega, rfl, rfl⟩)
set_option maxRecDepth 100000 in
set_option maxHeartbeats 4000000 in
theorem c_X8_told {G : am_G} {m x : sg_S} {T : Int} (hW : md_wb T x) {u n a : Int} (hr_n : -2147483648 ≤ n ∧ n < 2147483648) (hr_a : -2147483648 ≤ a ∧ a < 2147483648) (hb_u : u = 0 ∨ u = 1) (hD : sg_D x) : am_Con G yX8_told wX8_told 7 4 24 [am_R (8, 0), am_I u, am_I n, am_I a] (en_h m x) (am_tx [0, 1] (sp_told x u n a 0 0) (an_told x u n a) (en_h m (sp_told x u n a))) := by
  refine am_of2 (Y := mX8_told) (by decide +kernel) rfl (fun z => by cases z) rfl rfl (Nat.le_of_ble_eq_true rfl) fun X => ?_
  have b3 := wb3 hW 0
  have b33 := wb33 hW u.toNat
  obtain ⟨y, hy⟩ : ∃ z, z = st x 0 0 0 := ⟨_, rfl⟩
  refine am_heq (h' := en_h m y) (by rw [hy]; exact (cx_no (Or.inl rfl)).symm) ?_
  have hWy : md_wb T y := by rw [hy]; exact wb_st hW (by show (0 : Int) ≤ _; decide) (by show _ ≤ (3 : Int); decide)
  refine am_aload_n eX8_told_0 rfl ?_
  refine am_iload_n eX8_told_1 rfl ?_
  refine am_iload_n eX8_told_2 rfl ?_
  refine am_cT eX8_told_3 kX8_239 (c_X8_dispatchAt (m := m) (x := y) (T := T) hWy (u := u) (a := n) ⟨by omega, by omega⟩ (by omega)) rfl rfl (en_c8 (m := m) (x := y)) (by decide) (by decide) (Nat.le_of_ble_eq_true rfl) (by omega) (by omega) rfl (fun hp => (tx_thr (i := 0) rfl rfl hy (by rw [((congrFun (congrFun hy 33) u.toNat).trans ((st_nf (by decide)).trans rfl))] at hp; unfold sp_told; (try simp only [if_true, if_false, Int.toNat_zero, Int.toNat_one, show ¬ (1 : Int) = 0 by decide]); (repeat' split) <;> first | rfl | (exfalso; omega)))) (fun hp => ?_)
  rw [((congrFun (congrFun hy 33) u.toNat).trans ((st_nf (by decide)).trans rfl))] at hp
  have hp1 := hp
  have hA := hD.2.2.1 u.toNat n.toNat (by omega) (by omega)
  have hA0 := (hD.1.2 u.toNat n.toNat).2
  rw [show y 57 (40 * u.toNat + n.toNat) = x 57 (40 * u.toNat + n.toNat) from ((congrFun (congrFun hy 57) (40 * u.toNat + n.toNat)).trans ((st_nf (by decide)).trans rfl))]
  obtain ⟨K, hK⟩ : ∃ z, z = (x 57 (40 * u.toNat + n.toNat)).toNat := ⟨_, rfl⟩
  rw [← hK] at hA ⊢
  obtain ⟨hA1, hA2, hA3, hA4, hA5, hA6⟩ := hA
  have b36 := wb36 hW (40 * u.toNat + n.toNat)
  have b37 := wb37 hW (40 * u.toNat + n.toNat)
  have e51 : y 51 0 = x 51 0 := ((congrFun (congrFun hy 51) 0).trans ((st_nf (by decide)).trans rfl))
  have e60 : y 60 K = x 60 K := ((congrFun (congrFun hy 60) K).trans ((st_nf (by decide)).trans rfl))
  have e61 : y 61 K = x 61 K := ((congrFun (congrFun hy 61) K).trans ((st_nf (by decide)).trans rfl))
  have e62 : y 62 K = x 62 K := ((congrFun (congrFun hy 62) K).trans ((st_nf (by decide)).trans rfl))
  have e63 : y 63 K = x 63 K := ((congrFun (congrFun hy 63) K).trans ((st_nf (by decide)).trans rfl))
  refine am_astore eX8_told_6 (by decide) ?_
  refine am_iload_n eX8_told_8 rfl ?_
  refine am_iconst eX8_told_9 ?_
  refine am_iconst eX8_told_10 ?_
  refine am_cS eX8_told_11 kX8_55 (c_X8_isOutside (v := a) (lo := 0) (hi := 3) ⟨by omega, by omega⟩ ⟨by omega, by omega⟩ ⟨by omega, by omega⟩) rfl rfl (by decide) (by decide) (Nat.le_of_ble_eq_true rfl) (by omega) (by omega) ?_
  refine am_bz_eq eX8_told_14 (fun c2 => ?_) (fun c2 => ?_)
  · refine am_aload eX8_told_27 rfl ?_
    refine am_iload_n eX8_told_29 rfl ?_
    refine am_cV eX8_told_30 kX8_243 (c_X2_tell (m := m) (x := y) hWy (i := K) (by omega) (by omega) (by omega) (a := a) ⟨by omega, by omega⟩) rfl rfl (en_c2 (m := m) (x := y) (i := K) (by omega)) (by decide) (by decide) (Nat.le_of_ble_eq_true rfl) (by omega) (by omega) ?_
    rw [show aq_dtell y K a = aq_dtell x K a by unfold aq_dtell; rw [e60, e61, e62, e63]]
    refine am_ireturn eX8_told_33 rfl trivial (by omega) (by omega) ?_
    exact tx_ret (by rw [hy]; unfold sp_told; (try simp only [if_true, if_false, Int.toNat_zero, Int.toNat_one, show ¬ (1 : Int) = 0 by decide]); (repeat' split) <;> first | rfl | (exfalso; omega)) (by unfold sp_told; (try simp only [if_true, if_false, Int.toNat_zero, Int.toNat_one, show ¬ (1 : Int) = 0 by decide]); (repeat' split) <;> first | (simp [st]; done) | rfl | (exfalso; omega)) (by unfold an_told aq_dtell; (try simp only [if_true, if_false, Int.toNat_zero, Int.toNat_one, show ¬ (1 : Int) = 0 by decide]); (repeat' split) <;> first | rfl | omega)
  · exact am_throw x_thr1 rfl x_tx223 (by decide) rfl (by simp) eX8_told_17 eX8_told_20 eX8_told_21 eX8_told_23 eX8_told_26 (by omega) (by omega) (tx_thr (i := 1) rfl rfl hy (by unfold sp_told; (try simp only [if_true, if_false, Int.toNat_zero, Int.toNat_one, show ¬ (1 : Int) = 0 by decide]); (repeat' split) <;> first | rfl | (exfalso; omega)))
set_option maxRecDepth 100000 in
set_option maxHeartbeats 4000000 in
theorem c_X8_phrase {G : am_G} {m x : sg_S} {T : Int} (hW : md_wb T x) {u n p b : Int} (hr_n : -2147483648 ≤ n ∧ n < 2147483648) (hr_p : -2147483648 ≤ p ∧ p < 2147483648) (hr_b : -2147483648 ≤ b ∧ b < 2147483648) (hb_u : u = 0 ∨ u = 1) (hD : sg_D x) (hN : sg_N x) : am_Con G yX8_phrase wX8_phrase 7 4 24 [am_R (8, 0), am_I u, am_I n, am_I p, am_I b] (en_h m x) (am_tx [0] (sp_phrase x u n p b 0 0) (an_phrase x u n p b) (en_h m (sp_phrase x u n p b))) := by
  refine am_of2 (Y := mX8_phrase) (by decide +kernel) rfl (fun z => by cases z) rfl rfl (Nat.le_of_ble_eq_true rfl) fun X => ?_
  have b3 := wb3 hW 0
  have b33 := wb33 hW u.toNat
  obtain ⟨y, hy⟩ : ∃ z, z = st x 0 0 0 := ⟨_, rfl⟩
  refine am_heq (h' := en_h m y) (by rw [hy]; exact (cx_no (Or.inl rfl)).symm) ?_
  have hWy : md_wb T y := by rw [hy]; exact wb_st hW (by show (0 : Int) ≤ _; decide) (by show _ ≤ (3 : Int); decide)
  refine am_aload_n eX8_phrase_0 rfl ?_
  refine am_iload_n eX8_phrase_1 rfl ?_
  refine am_iload_n eX8_phrase_2 rfl ?_
  refine am_cT eX8_phrase_3 kX8_239 (c_X8_dispatchAt (m := m) (x := y) (T := T) hWy (u := u) (a := n) ⟨by omega, by omega⟩ (by omega)) rfl rfl (en_c8 (m := m) (x := y)) (by decide) (by decide) (Nat.le_of_ble_eq_true rfl) (by omega) (by omega) rfl (fun hp => (tx_thr (i := 0) rfl rfl hy (by rw [((congrFun (congrFun hy 33) u.toNat).trans ((st_nf (by decide)).trans rfl))] at hp; unfold sp_phrase; (try simp only [if_true, if_false, Int.toNat_zero, Int.toNat_one, show ¬ (1 : Int) = 0 by decide]); (repeat' split) <;> first | rfl | (exfalso; omega)))) (fun hp => ?_)
  rw [((congrFun (congrFun hy 33) u.toNat).trans ((st_nf (by decide)).trans rfl))] at hp
  have hp1 := hp
  have hA := hD.2.2.1 u.toNat n.toNat (by omega) (by omega)
  have hA0 := (hD.1.2 u.toNat n.toNat).2
  rw [show y 57 (40 * u.toNat + n.toNat) = x 57 (40 * u.toNat + n.toNat) from ((congrFun (congrFun hy 57) (40 * u.toNat + n.toNat)).trans ((st_nf (by decide)).trans rfl))]
  obtain ⟨K, hK⟩ : ∃ z, z = (x 57 (40 * u.toNat + n.toNat)).toNat := ⟨_, rfl⟩
  rw [← hK] at hA ⊢
  obtain ⟨hA1, hA2, hA3, hA4, hA5, hA6⟩ := hA
  have b36 := wb36 hW (40 * u.toNat + n.toNat)
  have b37 := wb37 hW (40 * u.toNat + n.toNat)
  have e51 : y 51 0 = x 51 0 := ((congrFun (congrFun hy 51) 0).trans ((st_nf (by decide)).trans rfl))
  have e60 : y 60 K = x 60 K := ((congrFun (congrFun hy 60) K).trans ((st_nf (by decide)).trans rfl))
  have e61 : y 61 K = x 61 K := ((congrFun (congrFun hy 61) K).trans ((st_nf (by decide)).trans rfl))
  have e62 : y 62 K = x 62 K := ((congrFun (congrFun hy 62) K).trans ((st_nf (by decide)).trans rfl))
  have e63 : y 63 K = x 63 K := ((congrFun (congrFun hy 63) K).trans ((st_nf (by decide)).trans rfl))
  refine am_astore eX8_phrase_6 (by decide) ?_
  refine am_aload_n eX8_phrase_8 rfl ?_
  refine am_iload eX8_phrase_9 rfl ?_
  refine am_cT eX8_phrase_11 kX8_119 (c_X8_bookAt (m := m) (x := y) (T := T) hWy (a := b) ⟨by omega, by omega⟩) rfl rfl (en_c8 (m := m) (x := y)) (by decide) (by decide) (Nat.le_of_ble_eq_true rfl) (by omega) (by omega) rfl (fun hp => (tx_thr (i := 0) rfl rfl hy (by unfold sp_phrase; (try simp only [if_true, if_false, Int.toNat_zero, Int.toNat_one, show ¬ (1 : Int) = 0 by decide]); (repeat' split) <;> first | rfl | (exfalso; omega)))) (fun hp => ?_)
  have hp2 := hp
  refine am_astore eX8_phrase_14 (by decide) ?_
  refine am_iload_n eX8_phrase_16 rfl ?_
  refine am_iconst eX8_phrase_17 ?_
  refine am_aload eX8_phrase_18 rfl ?_
  refine am_cV eX8_phrase_20 kX8_247 (c_X2_spots (m := m) (x := y) hWy (i := K) (by omega) (by omega)) rfl rfl (en_c2 (m := m) (x := y) (i := K) (by omega)) (by decide) (by decide) (Nat.le_of_ble_eq_true rfl) (by omega) (by omega) ?_
  refine am_topI (w := x 63 K / 2) (by rw [e63]) ?_
  refine am_iconst eX8_phrase_23 ?_
  refine am_isub eX8_phrase_24 ?_
  refine am_cS eX8_phrase_25 kX8_55 (c_X8_isOutside (v := p) (lo := 0) (hi := ((x 63 K / 2) - 1)) ⟨by omega, by omega⟩ ⟨by omega, by omega⟩ ⟨by omega, by omega⟩) rfl rfl (by decide) (by decide) (Nat.le_of_ble_eq_true rfl) (by omega) (by omega) ?_
  refine am_bz_eq eX8_phrase_28 (fun c3 => ?_) (fun c3 => ?_)
  · refine am_aload eX8_phrase_41 rfl ?_
    refine am_aload eX8_phrase_43 rfl ?_
    refine am_getf eX8_phrase_45 fX8_253 (en_c2 (m := m) (x := y) (i := K) (by rw [((congrFun (congrFun hy 51) 0).trans ((st_nf (by decide)).trans rfl))]; omega)) rfl ?_
    refine am_iconst eX8_phrase_48 ?_
    refine am_iload_n eX8_phrase_49 rfl ?_
    refine am_imul eX8_phrase_50 ?_
    refine cx_ald (j := (2 * p.toNat)) (v := x 38 (60 * (40 * u.toNat + n.toNat) + (2 * p.toNat))) eX8_phrase_51 (en_c219 (m := m) (x := y) (i := K) (by omega)) (by omega) (by decide) (by omega) (by rw [show y 65 (60 * K + (2 * p.toNat)) = x 65 (60 * K + (2 * p.toNat)) from ((congrFun (congrFun hy 65) (60 * K + (2 * p.toNat))).trans ((st_nf (by decide)).trans rfl))]; exact hA6 _ (by omega)) ?_
    have b4 := wb38 hW (60 * (40 * u.toNat + n.toNat) + (2 * p.toNat))
    refine am_aload eX8_phrase_52 rfl ?_
    refine am_getf eX8_phrase_54 fX8_253 (en_c2 (m := m) (x := y) (i := K) (by rw [((congrFun (congrFun hy 51) 0).trans ((st_nf (by decide)).trans rfl))]; omega)) rfl ?_
    refine am_iconst eX8_phrase_57 ?_
    refine am_iload_n eX8_phrase_58 rfl ?_
    refine am_imul eX8_phrase_59 ?_
    refine am_iconst eX8_phrase_60 ?_
    refine am_iadd eX8_phrase_61 ?_
    refine cx_ald (j := ((2 * p.toNat) + 1)) (v := x 38 (60 * (40 * u.toNat + n.toNat) + ((2 * p.toNat) + 1))) eX8_phrase_62 (en_c219 (m := m) (x := y) (i := K) (by omega)) (by omega) (by decide) (by omega) (by rw [show y 65 (60 * K + ((2 * p.toNat) + 1)) = x 65 (60 * K + ((2 * p.toNat) + 1)) from ((congrFun (congrFun hy 65) (60 * K + ((2 * p.toNat) + 1))).trans ((st_nf (by decide)).trans rfl))]; exact hA6 _ (by omega)) ?_
    have b5 := wb38 hW (60 * (40 * u.toNat + n.toNat) + ((2 * p.toNat) + 1))
    refine am_cS eX8_phrase_63 kX8_125 (c_X8_spotOf (p := (x 38 (60 * (40 * u.toNat + n.toNat) + (2 * p.toNat)))) (l := (x 38 (60 * (40 * u.toNat + n.toNat) + ((2 * p.toNat) + 1)))) ⟨by omega, by omega⟩ ⟨by omega, by omega⟩) rfl rfl (by decide) (by decide) (Nat.le_of_ble_eq_true rfl) (by omega) (by omega) ?_
    refine am_cV eX8_phrase_66 kX8_129 (c_X1_phraseAtF (m := m) (x := y) hWy (by rw [hy]; exact sg_N_st (by decide) (by decide) hN) (i := b.toNat) (by omega) (s := (92 * (x 38 (60 * (40 * u.toNat + n.toNat) + (2 * p.toNat))) + (x 38 (60 * (40 * u.toNat + n.toNat) + ((2 * p.toNat) + 1))))) ⟨by omega, by omega⟩) rfl rfl (en_c1 (m := m) (x := y) (i := b.toNat) (by omega)) (by decide) (by decide) (Nat.le_of_ble_eq_true rfl) (by omega) (by omega) ?_
    refine am_topI (w := (sp_ph x b.toNat (92 * (x 38 (60 * (40 * u.toNat + n.toNat) + (2 * p.toNat))) + (x 38 (60 * (40 * u.toNat + n.toNat) + ((2 * p.toNat) + 1)))))) (by rw [hy]; exact sp_ph_st (by decide) (by decide) (by decide)) ?_
    have qph := sp_ph_in hW (b := b.toNat) (s := (92 * (x 38 (60 * (40 * u.toNat + n.toNat) + (2 * p.toNat))) + (x 38 (60 * (40 * u.toNat + n.toNat) + ((2 * p.toNat) + 1)))))
    refine am_ireturn eX8_phrase_69 rfl trivial (by omega) (by omega) ?_
    exact tx_ret (by rw [hy]; unfold sp_phrase; (try simp only [if_true, if_false, Int.toNat_zero, Int.toNat_one, show ¬ (1 : Int) = 0 by decide]); (repeat' split) <;> first | rfl | (exfalso; omega)) (by unfold sp_phrase; (try simp only [if_true, if_false, Int.toNat_zero, Int.toNat_one, show ¬ (1 : Int) = 0 by decide]); (repeat' split) <;> first | (simp [st]; done) | rfl | (exfalso; omega)) (by unfold an_phrase sp_ph; (try simp only [Nat.add_assoc]); (try simp only [if_true, if_false, Int.toNat_zero, Int.toNat_one, show ¬ (1 : Int) = 0 by decide]); (repeat' split) <;> first | rfl | omega)
  · exact am_throw x_thr0 rfl x_tx251 (by decide) rfl (by simp) eX8_phrase_31 eX8_phrase_34 eX8_phrase_35 eX8_phrase_37 eX8_phrase_40 (by omega) (by omega) (tx_thr (i := 0) rfl rfl hy (by unfold sp_phrase; (try simp only [if_true, if_false, Int.toNat_zero, Int.toNat_one, show ¬ (1 : Int) = 0 by decide]); (repeat' split) <;> first | rfl | (exfalso; omega)))

