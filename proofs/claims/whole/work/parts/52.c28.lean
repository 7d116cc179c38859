theorem en_n221 {m x : sg_S} {i : Nat} (h : x 52 0 = (i : Int)) : en_h m x (221, i) = none := by
  show (if _ then some _ else none) = _
  rw [if_neg (by omega)]
theorem en_n222 {m x : sg_S} {i : Nat} (h : x 52 0 = (i : Int)) : en_h m x (222, i) = none := by
  show (if _ then some _ else none) = _
  rw [if_neg (by omega)]
def bs_trial (σ : sg_S) (N L : Int) : sg_S := st (st (st σ 53 (σ 52 0).toNat L) 54 (σ 52 0).toNat N) 52 0 (σ 52 0 + 1)
theorem cx_trial {m x : sg_S} {i N L : Nat} (hi : x 52 0 = (i : Int)) (hL : 1 ≤ L ∧ L ≤ 11) : th (en_h m x) (221, i) (222, i) (tK N L (N + L)) (tS N L (N + L)) = en_h m (bs_trial x (N : Int) (L : Int)) := by
  have hi' : (x 52 0).toNat = i := by omega
  refine cx_ofL [((221, i), _), ((222, i), _)] (by simp [bs_trial, st]) (fun p hp => ?_) (fun k j hn => ?_)
  · simp only [List.mem_cons, List.not_mem_nil, or_false] at hp
    rcases hp with rfl | rfl
    · refine ⟨cx_k221, ?_⟩
      show (if (i : Int) < bs_trial x N L 52 0 then some (am_A 0 12 (fun z => am_I (if (z : Int) = bs_trial x N L 53 i then bs_trial x N L 54 i else 0))) else none) = _
      have e52 : bs_trial x N L 52 0 = x 52 0 + 1 := by simp [bs_trial, st]
      have e53 : bs_trial x N L 53 i = (L : Int) := by simp [bs_trial, st, hi']
      have e54 : bs_trial x N L 54 i = (N : Int) := by simp [bs_trial, st, hi']
      rw [e52, e53, e54, if_pos (by omega)]
      refine congrArg some (congrArg (am_A 0 12) (funext fun z => congrArg am_I ?_))
      unfold tK
      by_cases c0 : z = 0
      · rw [if_neg (by omega), if_pos c0]; omega
      · rw [if_neg c0]
        by_cases c1 : z = L
        · rw [if_pos (by omega), if_pos c1]; omega
        · rw [if_neg (by omega), if_neg c1]
    · refine ⟨cx_k222, ?_⟩
      show (if (i : Int) < bs_trial x N L 52 0 then some (am_A 1 12 (fun _ => am_I 0)) else none) = _
      have e52 : bs_trial x N L 52 0 = x 52 0 + 1 := by simp [bs_trial, st]
      rw [e52, if_pos (by omega)]
      refine congrArg some (congrArg (am_A 1 12) (funext fun z => congrArg am_I ?_))
      unfold tS
      rw [if_neg (by omega)]
  · have n1 := hn _ List.mem_cons_self
    have n2 := hn _ (List.mem_cons_of_mem _ List.mem_cons_self)
    unfold en_x
    split <;> first
      | rfl
      | (simp [bs_trial, st]; done)
      | (have hj : ¬ j = i := (fun z => n1 (by rw [z]))
         have e52 : bs_trial x N L 52 0 = x 52 0 + 1 := by simp [bs_trial, st]
         have e53 : bs_trial x N L 53 j = x 53 j := by simp [bs_trial, st, hi', hj]
         have e54 : bs_trial x N L 54 j = x 54 j := by simp [bs_trial, st, hi', hj]
         rw [e52, e53, e54]
         by_cases c : (j : Int) < x 52 0
         · rw [if_pos (by omega), if_pos c]
         · rw [if_neg (by omega), if_neg c])
      | (have hj : ¬ j = i := (fun z => n2 (by rw [z]))
         have e52 : bs_trial x N L 52 0 = x 52 0 + 1 := by simp [bs_trial, st]
         rw [e52]
         by_cases c : (j : Int) < x 52 0
         · rw [if_pos (by omega), if_pos c]
         · rw [if_neg (by omega), if_neg c])
set_option maxRecDepth 100000 in
set_option maxHeartbeats 4000000 in
theorem lq_mot {G : am_G} {X : am_X} {h : am_AH} {A B : am_Nm} (hAB : A ≠ B) {N L : Nat} (hL : 1 ≤ L ∧ L ≤ 11) (hN : 1 ≤ N ∧ N ≤ 99) : ∀ (n p : Nat) (iv : Int), iv = (p : Int) + 1 → p + n + 1 = N + L → am_W G X mX8_minutesOfTrial 2 2 24 (am_end G X 2 24 (am_is (am_I ((N + L : Nat) : Int)) (th h A B (tK N L (N + L)) (tS N L (N + L))))) 17 [some (am_I (N : Int)), some (am_I (L : Int)), some (am_R A), some (am_R B), some (am_I iv)] [] (th h A B (tK N L p) (tS N L p)) 2 24 := by
  intro n
  induction n with
  | zero =>
    intro p iv hv hp
    refine am_iload eX8_minutesOfTrial_17 rfl ?_
    refine am_ldcw (x := 100000) eX8_minutesOfTrial_19 (am_ux 796 (by decide +kernel) rfl) ?_
    refine am_steq (st' := am_I 100000 :: _) rfl ?_
    refine am_icmp_gt ⟨by omega, by omega⟩ ⟨by omega, by omega⟩ eX8_minutesOfTrial_22 (fun c1 => absurd c1 (by omega)) (fun c1 => ?_)
    refine am_aload_n eX8_minutesOfTrial_25 rfl ?_
    refine am_aload_n eX8_minutesOfTrial_26 rfl ?_
    refine am_iload_n eX8_minutesOfTrial_27 rfl ?_
    refine am_cS_v eX8_minutesOfTrial_28 kX8_333 (c_X8_passTrialMinute (h := h) (N := N) (p := p) hAB hL hN.2) rfl rfl (by decide) (by decide) (Nat.le_of_ble_eq_true rfl) (Nat.le_refl _) (Nat.le_refl _) ?_
    refine am_aload_n eX8_minutesOfTrial_31 rfl ?_
    refine am_iload_n eX8_minutesOfTrial_32 rfl ?_
    refine th_iald hAB (j := L) (v := (N : Int)) eX8_minutesOfTrial_33 (by omega) rfl ?_ ?_
    · unfold tK
      rw [if_neg (by omega), if_pos rfl]
      omega
    refine am_iload_n eX8_minutesOfTrial_34 rfl ?_
    refine am_icmp_ne ⟨by omega, by omega⟩ ⟨by omega, by omega⟩ eX8_minutesOfTrial_35 (fun c2 => absurd rfl c2) (fun c2 => ?_)
    refine am_iload eX8_minutesOfTrial_38 rfl ?_
    refine am_ireturn eX8_minutesOfTrial_40 rfl trivial (Nat.le_refl _) (Nat.le_refl _) ?_
    exact ⟨by rw [show iv = ((N + L : Nat) : Int) by omega], by rw [show p + 1 = N + L by omega]⟩
  | succ n ih =>
    intro p iv hv hp
    refine am_iload eX8_minutesOfTrial_17 rfl ?_
    refine am_ldcw (x := 100000) eX8_minutesOfTrial_19 (am_ux 796 (by decide +kernel) rfl) ?_
    refine am_steq (st' := am_I 100000 :: _) rfl ?_
    refine am_icmp_gt ⟨by omega, by omega⟩ ⟨by omega, by omega⟩ eX8_minutesOfTrial_22 (fun c1 => absurd c1 (by omega)) (fun c1 => ?_)
    refine am_aload_n eX8_minutesOfTrial_25 rfl ?_
    refine am_aload_n eX8_minutesOfTrial_26 rfl ?_
    refine am_iload_n eX8_minutesOfTrial_27 rfl ?_
    refine am_cS_v eX8_minutesOfTrial_28 kX8_333 (c_X8_passTrialMinute (h := h) (N := N) (p := p) hAB hL hN.2) rfl rfl (by decide) (by decide) (Nat.le_of_ble_eq_true rfl) (Nat.le_refl _) (Nat.le_refl _) ?_
    refine am_aload_n eX8_minutesOfTrial_31 rfl ?_
    refine am_iload_n eX8_minutesOfTrial_32 rfl ?_
    refine th_iald hAB (j := L) (v := ((min (p + 1 - L) N : Nat) : Int)) eX8_minutesOfTrial_33 (by omega) rfl ?_ ?_
    · unfold tK
      rw [if_neg (by omega), if_pos rfl]
    refine am_iload_n eX8_minutesOfTrial_34 rfl ?_
    refine am_icmp_ne ⟨by omega, by omega⟩ ⟨by omega, by omega⟩ eX8_minutesOfTrial_35 (fun c2 => ?_) (fun c2 => absurd c2 (by omega))
    refine am_iinc eX8_minutesOfTrial_41 rfl (by decide) ?_
    refine am_goto eX8_minutesOfTrial_44 ?_
    exact ih (p + 1) _ (by omega) (by omega)
set_option maxRecDepth 100000 in
set_option maxHeartbeats 4000000 in
theorem c_X8_minutesOfTrial {G : am_G} {m x : sg_S} {i N L : Nat} (hi : x 52 0 = (i : Int)) (hL : 1 ≤ L ∧ L ≤ 11) (hN : 1 ≤ N ∧ N ≤ 99) : am_Con G yX8_minutesOfTrial wX8_minutesOfTrial 2 2 24 [am_I (N : Int), am_I (L : Int)] (en_h m x) (am_is (am_I ((N + L : Nat) : Int)) (en_h m (bs_trial x (N : Int) (L : Int)))) := by
  rw [← cx_trial (m := m) (N := N) hi hL]
  refine am_of2 (Y := mX8_minutesOfTrial) (by decide +kernel) rfl (fun z => by cases z) rfl rfl (Nat.le_of_ble_eq_true rfl) fun X => ?_
  have hAB : ((221, i) : am_Nm) ≠ (222, i) := am_nk (by decide)
  refine am_bipush eX8_minutesOfTrial_0 (by decide) ?_
  refine am_newa (221, i) eX8_minutesOfTrial_2 rfl x_arr0 (by decide) (by decide) (by decide) (en_n221 hi) (am_nk (by decide)) (by omega) (by decide) ?_
  refine am_astore_n eX8_minutesOfTrial_4 (by decide) ?_
  refine am_bipush eX8_minutesOfTrial_5 (by decide) ?_
  refine am_newa (222, i) eX8_minutesOfTrial_7 rfl x_arr1 (by decide) (by decide) (by decide) ((am_up_ne (am_nk (by decide))).trans (en_n222 hi)) (am_nk (by decide)) (by omega) (by decide) ?_
  refine am_heq (h' := th (en_h m x) (221, i) (222, i) (fun _ => 0) (fun _ => 0)) rfl ?_
  refine am_astore_n eX8_minutesOfTrial_9 (by decide) ?_
  refine am_aload_n eX8_minutesOfTrial_10 rfl ?_
  refine am_iconst eX8_minutesOfTrial_11 ?_
  refine am_iload_n eX8_minutesOfTrial_12 rfl ?_
  refine th_iast hAB (j := 0) (tK N L 0) eX8_minutesOfTrial_13 (by omega) rfl (fun z => ?_) ?_
  · unfold tK
    by_cases c : z = 0
    · rw [if_pos c, if_pos c]; rfl
    · rw [if_neg c, if_neg c]
      split <;> omega
  refine am_heq (h' := th (en_h m x) (221, i) (222, i) (tK N L 0) (tS N L 0)) ?_ ?_
  · rw [show (fun _ => (0 : Int)) = tS N L 0 from funext fun z => (if_neg (by omega)).symm]
  refine am_iconst eX8_minutesOfTrial_14 ?_
  refine am_istore eX8_minutesOfTrial_15 (by decide) ?_
  exact lq_mot hAB hL hN (N + L - 1) 0 _ rfl (by omega)
/-- the class's state behind a comesAnew -/
def bs_anew (σ : sg_S) (a : Int) : sg_S := if ¬ (1 ≤ a ∧ a ≤ 99) then st σ 0 0 1 else if σ 3 0 < 2 then st σ 0 0 0 else bs_trial (st σ 0 0 0) a (σ 3 0 - 1)
set_option maxRecDepth 100000 in
set_option maxHeartbeats 4000000 in
theorem c_X8_comesAnew {G : am_G} {m x : sg_S} {T : Int} (hW : md_wb T x) (h52 : 0 ≤ x 52 0) {a : Int} (hr_a : -2147483648 ≤ a ∧ a < 2147483648) : am_Con G yX8_comesAnew wX8_comesAnew 7 4 24 [am_R (8, 0), am_I a] (en_h m x) (am_tx [1] (sp_comesAnew x a 0 0) (an_comesAnew x a) (en_h m (bs_anew x a))) := by
  refine am_of2 (Y := mX8_comesAnew) (by decide +kernel) rfl (fun z => by cases z) rfl rfl (Nat.le_of_ble_eq_true rfl) fun X => ?_
  have b3 := wb3 hW 0
  obtain ⟨y, hy⟩ : ∃ z, z = st x 0 0 0 := ⟨_, rfl⟩
  refine am_heq (h' := en_h m y) (by rw [hy]; exact (cx_no (Or.inl rfl)).symm) ?_
  have y3 : y 3 0 = x 3 0 := by rw [hy]; exact st_nf (by decide)
  have y52 : y 52 0 = x 52 0 := by rw [hy]; exact st_nf (by decide)
  refine am_iload_n eX8_comesAnew_0 rfl ?_
  refine am_iconst eX8_comesAnew_1 ?_
  refine am_bipush eX8_comesAnew_2 (by decide) ?_
  refine am_cS eX8_comesAnew_4 kX8_55 (c_X8_isOutside (v := a) (lo := 1) (hi := 99) ⟨by omega, by omega⟩ ⟨by omega, by omega⟩ ⟨by omega, by omega⟩) rfl rfl (by decide) (by decide) (Nat.le_of_ble_eq_true rfl) (by omega) (by omega) ?_
  refine am_bz_eq eX8_comesAnew_7 (fun c1 => ?_) (fun c1 => ?_)
  · have s0 : sp_comesAnew x a 0 0 = 0 := by unfold sp_comesAnew; rw [if_neg (by omega), st_eq]
    refine am_aload_n eX8_comesAnew_21 rfl ?_
    refine am_getf eX8_comesAnew_22 fX8_66 (en_c8 (m := m) (x := y)) rfl ?_
    refine am_topI (w := x 3 0) y3 ?_
    refine am_iconst eX8_comesAnew_25 ?_
    refine am_icmp_ge ⟨by omega, by omega⟩ ⟨by omega, by omega⟩ eX8_comesAnew_26 (fun c3 => ?_) (fun c3 => ?_)
    · refine am_iload_n eX8_comesAnew_33 rfl ?_
      refine am_aload_n eX8_comesAnew_34 rfl ?_
      refine am_getf eX8_comesAnew_35 fX8_66 (en_c8 (m := m) (x := y)) rfl ?_
      refine am_topI (w := x 3 0) y3 ?_
      refine am_iconst eX8_comesAnew_38 ?_
      refine am_isub eX8_comesAnew_39 ?_
      obtain ⟨N, hN⟩ : ∃ N : Nat, a = (N : Int) := ⟨a.toNat, by omega⟩
      obtain ⟨L, hL⟩ : ∃ L : Nat, x 3 0 - 1 = (L : Int) := ⟨(x 3 0 - 1).toNat, by omega⟩
      obtain ⟨i, hi⟩ : ∃ i : Nat, x 52 0 = (i : Int) := ⟨(x 52 0).toNat, by omega⟩
      rw [hL, hN]
      refine am_callS (mc' := 2) (ms' := 24) eX8_comesAnew_40 kX8_267 (c_X8_minutesOfTrial (m := m) (x := y) (i := i) (N := N) (L := L) (y52.trans hi) (by omega) (by omega)) rfl rfl (by decide) (by decide) (Nat.le_of_ble_eq_true rfl) (by omega) (by omega) (fun r h' hq => ?_) (fun x h' hq => by obtain ⟨e1, -⟩ := hq; cases e1)
      obtain ⟨e1, rfl⟩ := hq
      cases e1
      refine am_ireturn eX8_comesAnew_43 rfl trivial (by omega) (by omega) ?_
      rw [← hN, ← hL]
      refine ⟨?_, Or.inl ⟨s0, ?_⟩⟩
      · unfold bs_anew
        rw [if_neg (by omega), if_neg (by omega), hy]
      · unfold an_comesAnew
        rw [if_neg (by omega), if_neg (by omega)]
        exact congrArg (fun z => Sum.inl (some (am_I z))) (by omega)
    · refine am_iconst eX8_comesAnew_29 ?_
      refine am_goto eX8_comesAnew_30 ?_
      refine am_ireturn eX8_comesAnew_43 rfl trivial (by omega) (by omega) ?_
      refine ⟨?_, Or.inl ⟨s0, ?_⟩⟩
      · unfold bs_anew
        rw [if_neg (by omega), if_pos (by omega), hy]
      · unfold an_comesAnew
        rw [if_neg (by omega), if_pos (by omega)]
  · refine am_throwW x_thr1 rfl x_tx265 (by decide) rfl (by simp) eX8_comesAnew_10 eX8_comesAnew_13 eX8_comesAnew_14 eX8_comesAnew_17 eX8_comesAnew_20 (by omega) (by omega) ?_
    have e1 : sp_comesAnew x a 0 0 = 1 := by unfold sp_comesAnew; rw [if_pos (by omega), st_eq]
    refine ⟨?_, Or.inr ⟨0, 1, rfl, by rw [e1]; rfl, rfl⟩⟩
    unfold bs_anew
    rw [if_pos (by omega), hy, cx_no (Or.inl rfl), cx_no (Or.inl rfl)]
