section AmMin
variable {G : am_G} {X : am_X} {Y : am_Y} {d mc ms : Nat} {Q : State → Prop} {pc q : Nat} {ls : List (Option am_AV)} {st : List am_AV} {h : am_AH} {k n : Nat}
theorem am_mmin {a b : Int} {idx : Nat} (hd : am_d Y.1 pc (.invokestatic idx) 3 q) (h1 : Cond.methodLink Y.2.2.1 idx Lib.Math.min.name ∈ am_uw) (h2 : Cond.static Lib.Math.min.name ∈ am_uw) (h3 : Cond.initialized "java/lang/Math" ∈ am_uw) (h4 : Cond.code Lib.Math.min.name Lib.Math.min.code 2 (some .int) ∈ am_uw) (ha : am_r a) (hb : am_r b) (hdd : 1 ≤ d) (hst : st.length ≤ 4) (hk : k ≤ mc) (hn : n ≤ ms) (kk : am_W G X Y d mc ms Q q ls (am_I (if b < a then b else a) :: st) h k n) : am_W G X Y d mc ms Q pc ls (am_I b :: am_I a :: st) h k n := by
  obtain ⟨p, e, R, s, m, args, below, meth, c, ι0⟩ := X
  obtain ⟨hd, rfl⟩ := hd
  intro ok ι H lr sr lc hr hl ht
  obtain ⟨w, sr, rfl, q1, ht1⟩ := am_T_1 ht
  obtain ⟨w2, sr, rfl, q2, ht2⟩ := am_T_1 ht1
  cases q1; cases q2
  have ok' := ok
  obtain ⟨hx, hbb, hml, ho, hts, -, -, -, -, hRf, hRl, hRc, hRs, hold, hK⟩ := ok
  have hsum := am_sum8 ι ht2 hst
  refine va_mmin hx hbb (by rw [hl.1, hml]) ho (hts _ h1) (hts _ h2) (hts _ h3) (hts _ h4) (Nat.le_trans hdd hRf) (by omega) (by rw [hRc]; exact hk) (by rw [hRs]; exact hn) hd (kk ok' ι H lr _ lc hr hl ⟨?_, ht2⟩)
  show (Value.int _ : Value) = Value.int _
  congr 1
  by_cases z : b < a
  · rw [if_pos z, if_pos ((am_lt hb ha).mpr z)]
  · rw [if_neg z, if_neg (fun y => z ((am_lt hb ha).mp y))]
end AmMin
set_option maxRecDepth 100000 in
set_option maxHeartbeats 4000000 in
theorem c_X8_isOutside {G : am_G} {h : am_AH} {v lo hi : Int} (hr_v : -2147483648 ≤ v ∧ v < 2147483648) (hr_lo : -2147483648 ≤ lo ∧ lo < 2147483648) (hr_hi : -2147483648 ≤ hi ∧ hi < 2147483648) : am_Con G yX8_isOutside wX8_isOutside 1 0 0 [am_I v, am_I lo, am_I hi] h (am_is (am_I (bz (decide (v < lo ∨ hi < v)))) h) := by
  refine am_of2 (Y := mX8_isOutside) (by decide +kernel) rfl (fun z => by cases z) rfl rfl (Nat.le_of_ble_eq_true rfl) fun X => ?_
  refine am_iload_n eX8_isOutside_0 rfl ?_
  refine am_iload_n eX8_isOutside_1 rfl ?_
  refine am_icmp_lt ⟨by omega, by omega⟩ ⟨by omega, by omega⟩ eX8_isOutside_2 (fun c1 => ?_) (fun c1 => ?_)
  · refine am_iconst eX8_isOutside_10 ?_
    refine am_goto eX8_isOutside_11 ?_
    refine am_ireturn eX8_isOutside_15 rfl (Or.inr rfl) (Nat.zero_le _) (Nat.zero_le _) ?_
    exact am_is_I (bz_w (fun z => by omega) (fun z => by omega)) rfl
  · refine am_iload_n eX8_isOutside_5 rfl ?_
    refine am_iload_n eX8_isOutside_6 rfl ?_
    refine am_icmp_le ⟨by omega, by omega⟩ ⟨by omega, by omega⟩ eX8_isOutside_7 (fun c2 => ?_) (fun c2 => ?_)
    · refine am_iconst eX8_isOutside_14 ?_
      refine am_ireturn eX8_isOutside_15 rfl (Or.inl rfl) (Nat.zero_le _) (Nat.zero_le _) ?_
      exact am_is_I (bz_w (fun z => by omega) (fun z => by omega)) rfl
    · refine am_iconst eX8_isOutside_10 ?_
      refine am_goto eX8_isOutside_11 ?_
      refine am_ireturn eX8_isOutside_15 rfl (Or.inr rfl) (Nat.zero_le _) (Nat.zero_le _) ?_
      exact am_is_I (bz_w (fun z => by omega) (fun z => by omega)) rfl
set_option maxRecDepth 100000 in
set_option maxHeartbeats 4000000 in
theorem c_X8_spotOf {G : am_G} {h : am_AH} {p l : Int} (hr_p : -2147483648 ≤ p ∧ p < 2147483648) (hr_l : -2147483648 ≤ l ∧ l < 2147483648) : am_Con G yX8_spotOf wX8_spotOf 1 0 0 [am_I p, am_I l] h (am_is (am_I (92 * p + l)) h) := by
  refine am_of2 (Y := mX8_spotOf) (by decide +kernel) rfl (fun z => by cases z) rfl rfl (Nat.le_of_ble_eq_true rfl) fun X => ?_
  refine am_iload_n eX8_spotOf_0 rfl ?_
  refine am_bipush eX8_spotOf_1 (by decide) ?_
  refine am_imul eX8_spotOf_3 ?_
  refine am_iload_n eX8_spotOf_4 rfl ?_
  refine am_iadd eX8_spotOf_5 ?_
  refine am_ireturn eX8_spotOf_6 rfl trivial (Nat.zero_le _) (Nat.zero_le _) ?_
  exact am_is_I (by omega) rfl
set_option maxRecDepth 100000 in
set_option maxHeartbeats 4000000 in
theorem c_X8_towerAt {G : am_G} {m x : sg_S} {T : Int} (hW : md_wb T x) {a : Int} (hr_a : -2147483648 ≤ a ∧ a < 2147483648) : am_Con G yX8_towerAt wX8_towerAt 6 1 6 [am_R (8, 0), am_I a] (en_h m x) (am_if (0 ≤ a ∧ a < x 3 0) (am_R (7, a.toNat)) (en_h m x) 0 (en_h m x)) := by
  refine am_of2 (Y := mX8_towerAt) (by decide +kernel) rfl (fun z => by cases z) rfl rfl (Nat.le_of_ble_eq_true rfl) fun X => ?_
  refine am_iload_n eX8_towerAt_0 rfl ?_
  refine am_if_lt ⟨by omega, by omega⟩ eX8_towerAt_1 (fun c1 => ?_) (fun c1 => ?_)
  · exact am_throwW x_thr0 rfl x_tx270 (by decide) rfl (by simp) eX8_towerAt_12 eX8_towerAt_15 eX8_towerAt_16 eX8_towerAt_19 eX8_towerAt_22 (by omega) (by omega) (Or.inr ⟨by omega, rfl, rfl⟩)
  · refine am_iload_n eX8_towerAt_4 rfl ?_
    refine am_aload_n eX8_towerAt_5 rfl ?_
    refine am_getf eX8_towerAt_6 fX8_66 (en_c8 (m := m) (x := x)) rfl ?_
    have b2 := wb3 hW 0
    refine am_icmp_lt ⟨by omega, by omega⟩ ⟨by omega, by omega⟩ eX8_towerAt_9 (fun c3 => ?_) (fun c3 => ?_)
    · refine am_aload_n eX8_towerAt_23 rfl ?_
      refine am_getf eX8_towerAt_24 fX8_11 (en_c8 (m := m) (x := x)) rfl ?_
      refine am_iload_n eX8_towerAt_27 rfl ?_
      refine am_aald (kd := 3) (x := am_R (7, a.toNat)) eX8_towerAt_28 (en_c200 (m := m) (x := x)) (by decide) (by decide) (by omega) (by omega) (by decide) (by rw [show ((a).toNat) = a.toNat by omega]; exact if_pos (by omega)) ?_
      refine am_areturn eX8_towerAt_29 rfl (by omega) (by omega) ?_
      exact Or.inl ⟨by omega, rfl, rfl⟩
    · exact am_throwW x_thr0 rfl x_tx270 (by decide) rfl (by simp) eX8_towerAt_12 eX8_towerAt_15 eX8_towerAt_16 eX8_towerAt_19 eX8_towerAt_22 (by omega) (by omega) (Or.inr ⟨by omega, rfl, rfl⟩)
set_option maxRecDepth 100000 in
set_option maxHeartbeats 4000000 in
theorem c_X8_stretchAt {G : am_G} {m x : sg_S} {T : Int} (hW : md_wb T x) {a : Int} (hr_a : -2147483648 ≤ a ∧ a < 2147483648) : am_Con G yX8_stretchAt wX8_stretchAt 6 1 6 [am_R (8, 0), am_I a] (en_h m x) (am_if (0 ≤ a ∧ a < x 3 0 - 1) (am_R (5, a.toNat)) (en_h m x) 0 (en_h m x)) := by
  refine am_of2 (Y := mX8_stretchAt) (by decide +kernel) rfl (fun z => by cases z) rfl rfl (Nat.le_of_ble_eq_true rfl) fun X => ?_
  refine am_iload_n eX8_stretchAt_0 rfl ?_
  refine am_if_lt ⟨by omega, by omega⟩ eX8_stretchAt_1 (fun c1 => ?_) (fun c1 => ?_)
  · exact am_throwW x_thr0 rfl x_tx272 (by decide) rfl (by simp) eX8_stretchAt_14 eX8_stretchAt_17 eX8_stretchAt_18 eX8_stretchAt_21 eX8_stretchAt_24 (by omega) (by omega) (Or.inr ⟨by omega, rfl, rfl⟩)
  · refine am_iload_n eX8_stretchAt_4 rfl ?_
    refine am_aload_n eX8_stretchAt_5 rfl ?_
    refine am_getf eX8_stretchAt_6 fX8_66 (en_c8 (m := m) (x := x)) rfl ?_
    have b2 := wb3 hW 0
    refine am_iconst eX8_stretchAt_9 ?_
    refine am_isub eX8_stretchAt_10 ?_
    refine am_icmp_lt ⟨by omega, by omega⟩ ⟨by omega, by omega⟩ eX8_stretchAt_11 (fun c3 => ?_) (fun c3 => ?_)
    · refine am_aload_n eX8_stretchAt_25 rfl ?_
      refine am_getf eX8_stretchAt_26 fX8_17 (en_c8 (m := m) (x := x)) rfl ?_
      refine am_iload_n eX8_stretchAt_29 rfl ?_
      refine am_aald (kd := 4) (x := am_R (5, a.toNat)) eX8_stretchAt_30 (en_c201 (m := m) (x := x)) (by decide) (by decide) (by omega) (by omega) (by decide) (by rw [show ((a).toNat) = a.toNat by omega]; exact if_pos (by omega)) ?_
      refine am_areturn eX8_stretchAt_31 rfl (by omega) (by omega) ?_
      exact Or.inl ⟨by omega, rfl, rfl⟩
    · exact am_throwW x_thr0 rfl x_tx272 (by decide) rfl (by simp) eX8_stretchAt_14 eX8_stretchAt_17 eX8_stretchAt_18 eX8_stretchAt_21 eX8_stretchAt_24 (by omega) (by omega) (Or.inr ⟨by omega, rfl, rfl⟩)
set_option maxRecDepth 100000 in
set_option maxHeartbeats 4000000 in
theorem c_X8_bookAt {G : am_G} {m x : sg_S} {T : Int} (hW : md_wb T x) {a : Int} (hr_a : -2147483648 ≤ a ∧ a < 2147483648) : am_Con G yX8_bookAt wX8_bookAt 6 1 6 [am_R (8, 0), am_I a] (en_h m x) (am_if (0 ≤ a ∧ a < 3) (am_R (1, a.toNat)) (en_h m x) 0 (en_h m x)) := by
  refine am_of2 (Y := mX8_bookAt) (by decide +kernel) rfl (fun z => by cases z) rfl rfl (Nat.le_of_ble_eq_true rfl) fun X => ?_
  refine am_iload_n eX8_bookAt_0 rfl ?_
  refine am_if_lt ⟨by omega, by omega⟩ eX8_bookAt_1 (fun c1 => ?_) (fun c1 => ?_)
  · exact am_throwW x_thr0 rfl x_tx274 (by decide) rfl (by simp) eX8_bookAt_9 eX8_bookAt_12 eX8_bookAt_13 eX8_bookAt_16 eX8_bookAt_19 (by omega) (by omega) (Or.inr ⟨by omega, rfl, rfl⟩)
  · refine am_iload_n eX8_bookAt_4 rfl ?_
    refine am_iconst eX8_bookAt_5 ?_
    refine am_icmp_lt ⟨by omega, by omega⟩ ⟨by omega, by omega⟩ eX8_bookAt_6 (fun c2 => ?_) (fun c2 => ?_)
    · refine am_aload_n eX8_bookAt_20 rfl ?_
      refine am_getf eX8_bookAt_21 fX8_27 (en_c8 (m := m) (x := x)) rfl ?_
      refine am_iload_n eX8_bookAt_24 rfl ?_
      refine am_aald (kd := 5) (x := am_R (1, a.toNat)) eX8_bookAt_25 (en_c202 (m := m) (x := x)) (by decide) (by decide) (by omega) (by omega) (by decide) (by rw [show ((a).toNat) = a.toNat by omega]) ?_
      refine am_areturn eX8_bookAt_26 rfl (by omega) (by omega) ?_
      exact Or.inl ⟨by omega, rfl, rfl⟩
    · exact am_throwW x_thr0 rfl x_tx274 (by decide) rfl (by simp) eX8_bookAt_9 eX8_bookAt_12 eX8_bookAt_13 eX8_bookAt_16 eX8_bookAt_19 (by omega) (by omega) (Or.inr ⟨by omega, rfl, rfl⟩)
set_option maxRecDepth 100000 in
set_option maxHeartbeats 4000000 in
theorem c_X8_tapeOf {G : am_G} {m x : sg_S} {T : Int} (hW : md_wb T x) {u : Int} (hb_u : u = 0 ∨ u = 1) : am_Con G yX8_tapeOf wX8_tapeOf 1 0 0 [am_R (8, 0), am_I u] (en_h m x) (am_is (am_R (6, u.toNat)) (en_h m x)) := by
  refine am_of2 (Y := mX8_tapeOf) (by decide +kernel) rfl (fun z => by cases z) rfl rfl (Nat.le_of_ble_eq_true rfl) fun X => ?_
  rcases hb_u with rfl | rfl
  · refine am_iload_n eX8_tapeOf_0 rfl ?_
    refine am_if_eq ⟨by omega, by omega⟩ eX8_tapeOf_1 (fun _ => ?_) (fun z => absurd z (by decide))
    refine am_aload_n eX8_tapeOf_11 rfl ?_
    refine am_getf eX8_tapeOf_12 fX8_46 (en_c8 (m := m) (x := x)) rfl ?_
    refine am_areturn eX8_tapeOf_15 rfl (Nat.zero_le _) (Nat.zero_le _) ?_
    exact ⟨rfl, rfl⟩
  · refine am_iload_n eX8_tapeOf_0 rfl ?_
    refine am_if_eq ⟨by omega, by omega⟩ eX8_tapeOf_1 (fun z => absurd z (by decide)) (fun _ => ?_)
    refine am_aload_n eX8_tapeOf_4 rfl ?_
    refine am_getf eX8_tapeOf_5 fX8_42 (en_c8 (m := m) (x := x)) rfl ?_
    refine am_goto eX8_tapeOf_8 ?_
    refine am_areturn eX8_tapeOf_15 rfl (Nat.zero_le _) (Nat.zero_le _) ?_
    exact ⟨rfl, rfl⟩
set_option maxRecDepth 100000 in
set_option maxHeartbeats 4000000 in
theorem c_X8_isEnd {G : am_G} {m x : sg_S} {T : Int} (hW : md_wb T x) {a u : Int} (hr_a : -2147483648 ≤ a ∧ a < 2147483648) (hb_u : u = 0 ∨ u = 1) : am_Con G yX8_isEnd wX8_isEnd 1 0 0 [am_R (8, 0), am_I a, am_I u] (en_h m x) (am_is (am_I (bz (decide (a = if u = 0 then 0 else x 3 0 - 1)))) (en_h m x)) := by
  refine am_of2 (Y := mX8_isEnd) (by decide +kernel) rfl (fun z => by cases z) rfl rfl (Nat.le_of_ble_eq_true rfl) fun X => ?_
  refine am_iload_n eX8_isEnd_0 rfl ?_
  refine am_iload_n eX8_isEnd_1 rfl ?_
  refine am_if_eq ⟨by omega, by omega⟩ eX8_isEnd_2 (fun c1 => ?_) (fun c1 => ?_)
  · refine am_iconst eX8_isEnd_14 ?_
    refine am_icmp_ne ⟨by omega, by omega⟩ ⟨by omega, by omega⟩ eX8_isEnd_15 (fun c2 => ?_) (fun c2 => ?_)
    · refine am_iconst eX8_isEnd_22 ?_
      refine am_ireturn eX8_isEnd_23 rfl (Or.inl rfl) (Nat.zero_le _) (Nat.zero_le _) ?_
      exact cx_is (bz_w (fun z => by first | rfl | (exfalso; split at z <;> omega)) (fun z => by first | rfl | (exfalso; split at z <;> omega))) rfl
    · refine am_iconst eX8_isEnd_18 ?_
      refine am_goto eX8_isEnd_19 ?_
      refine am_ireturn eX8_isEnd_23 rfl (Or.inr rfl) (Nat.zero_le _) (Nat.zero_le _) ?_
      exact cx_is (bz_w (fun z => by first | rfl | (exfalso; split at z <;> omega)) (fun z => by first | rfl | (exfalso; split at z <;> omega))) rfl
  · refine am_aload_n eX8_isEnd_5 rfl ?_
    refine am_getf eX8_isEnd_6 fX8_66 (en_c8 (m := m) (x := x)) rfl ?_
    have b3 := wb3 hW 0
    refine am_iconst eX8_isEnd_9 ?_
    refine am_isub eX8_isEnd_10 ?_
    refine am_goto eX8_isEnd_11 ?_
    refine am_icmp_ne ⟨by omega, by omega⟩ ⟨by omega, by omega⟩ eX8_isEnd_15 (fun c4 => ?_) (fun c4 => ?_)
    · refine am_iconst eX8_isEnd_22 ?_
      refine am_ireturn eX8_isEnd_23 rfl (Or.inl rfl) (Nat.zero_le _) (Nat.zero_le _) ?_
      exact cx_is (bz_w (fun z => by first | rfl | (exfalso; split at z <;> omega)) (fun z => by first | rfl | (exfalso; split at z <;> omega))) rfl
    · refine am_iconst eX8_isEnd_18 ?_
      refine am_goto eX8_isEnd_19 ?_
      refine am_ireturn eX8_isEnd_23 rfl (Or.inr rfl) (Nat.zero_le _) (Nat.zero_le _) ?_
      exact cx_is (bz_w (fun z => by first | rfl | (exfalso; split at z <;> omega)) (fun z => by first | rfl | (exfalso; split at z <;> omega))) rfl
set_option maxRecDepth 100000 in
set_option maxHeartbeats 4000000 in
theorem c_X8_isDay {G : am_G} {m x : sg_S} {T : Int} (hW : md_wb T x) : am_Con G yX8_isDay wX8_isDay 1 0 0 [am_R (8, 0)] (en_h m x) (am_is (am_I (bz (decide (360 ≤ x 1 0 % 1440 ∧ x 1 0 % 1440 < 1080)))) (en_h m x)) := by
  refine am_of2 (Y := mX8_isDay) (by decide +kernel) rfl (fun z => by cases z) rfl rfl (Nat.le_of_ble_eq_true rfl) fun X => ?_
  refine am_aload_n eX8_isDay_0 rfl ?_
  refine am_getf eX8_isDay_1 fX8_21 (en_c8 (m := m) (x := x)) rfl ?_
  have b1 := wb1 hW 0
  refine am_sipush eX8_isDay_4 (by decide) ?_
  refine am_irem ⟨by omega, by omega⟩ (by omega) ⟨by omega, by omega⟩ (by omega) eX8_isDay_7 ?_
  refine am_istore_n eX8_isDay_8 (by decide) ?_
  refine am_iload_n eX8_isDay_9 rfl ?_
  refine am_sipush eX8_isDay_10 (by decide) ?_
  refine am_icmp_lt ⟨by omega, by omega⟩ ⟨by omega, by omega⟩ eX8_isDay_13 (fun c2 => ?_) (fun c2 => ?_)
  · refine am_iconst eX8_isDay_27 ?_
    refine am_ireturn eX8_isDay_28 rfl (Or.inl rfl) (Nat.zero_le _) (Nat.zero_le _) ?_
    exact cx_is (bz_w (fun z => by omega) (fun z => by omega)) rfl
  · refine am_iload_n eX8_isDay_16 rfl ?_
    refine am_sipush eX8_isDay_17 (by decide) ?_
    refine am_icmp_ge ⟨by omega, by omega⟩ ⟨by omega, by omega⟩ eX8_isDay_20 (fun c3 => ?_) (fun c3 => ?_)
    · refine am_iconst eX8_isDay_27 ?_
      refine am_ireturn eX8_isDay_28 rfl (Or.inl rfl) (Nat.zero_le _) (Nat.zero_le _) ?_
      exact cx_is (bz_w (fun z => by omega) (fun z => by omega)) rfl
    · refine am_iconst eX8_isDay_23 ?_
      refine am_goto eX8_isDay_24 ?_
      refine am_ireturn eX8_isDay_28 rfl (Or.inr rfl) (Nat.zero_le _) (Nat.zero_le _) ?_
      exact cx_is (bz_w (fun z => by omega) (fun z => by omega)) rfl

