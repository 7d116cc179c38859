def sp_fnd (σ : sg_S) (b : Nat) (s : Int) : Nat → Int
  | 0 => -1
  | n + 1 => if σ 22 (200 * b + n) = s then ((200 * b + n : Nat) : Int) else sp_fnd σ b s n
theorem sp_fnd_in {σ : sg_S} {b : Nat} {s : Int} : ∀ n, sp_fnd σ b s n = -1 ∨ (200 * (b : Int) ≤ sp_fnd σ b s n ∧ sp_fnd σ b s n < 200 * b + n)
  | 0 => Or.inl rfl
  | n + 1 => by
    have := sp_fnd_in (σ := σ) (b := b) (s := s) n
    simp only [sp_fnd]
    split <;> omega
set_option maxRecDepth 100000 in
set_option maxHeartbeats 4000000 in
theorem lp_X9_spotOf {G : am_G} {m x : sg_S} {T : Int} (hW : md_wb T m) {b s : Int} (hb : 0 ≤ b ∧ b ≤ 2) (hr_s : -2147483648 ≤ s ∧ s < 2147483648) (X : am_X) : ∀ (n : Nat) (i : Nat) (kv : Int) (fv : Int), (kv = 200 * b + i) → (fv = sp_fnd m b.toNat s i) → (i + n = (m 21 b.toNat).toNat) → am_W G X mX9_spotOf 1 0 0 (am_end G X 0 0 (am_is (am_I (sp_fnd m b.toNat s (m 21 b.toNat).toNat)) (en_h m x))) 9 [some (am_R (9, 0)), some (am_I b), some (am_I s), some (am_I fv), some (am_I kv)] [] (en_h m x) 0 0 := by
  intro n
  induction n with
  | zero =>
    intro i kv fv hk hf hn
    have bb := wb21 hW b.toNat
    refine am_iload eX9_spotOf_9 rfl ?_
    refine am_sipush eX9_spotOf_11 (by decide) ?_
    refine am_iload_n eX9_spotOf_14 rfl ?_
    refine am_imul eX9_spotOf_15 ?_
    refine am_aload_n eX9_spotOf_16 rfl ?_
    refine md_getA eX9_spotOf_17 fX9_63 (by decide) (by decide) ?_
    refine am_iload_n eX9_spotOf_20 rfl ?_
    refine md_ald (f := 21) (j := b.toNat) (v := m 21 b.toNat) eX9_spotOf_21 (by show _ < 3; omega) rfl (by omega) rfl ?_
    have b1 := wb21 hW b.toNat
    refine am_iadd eX9_spotOf_22 ?_
    refine am_icmp_ge ⟨by omega, by omega⟩ ⟨by omega, by omega⟩ eX9_spotOf_23 (fun c2 => ?_) (fun c2 => absurd c2 (by omega))
    refine am_iload_n eX9_spotOf_50 rfl ?_
    refine am_ireturn eX9_spotOf_51 rfl trivial (Nat.zero_le _) (Nat.zero_le _) ?_
    exact am_is_I (by rw [hf, ← hn]; rfl) rfl
  | succ n ih =>
    intro i kv fv hk hf hn
    have bb := wb21 hW b.toNat
    refine am_iload eX9_spotOf_9 rfl ?_
    refine am_sipush eX9_spotOf_11 (by decide) ?_
    refine am_iload_n eX9_spotOf_14 rfl ?_
    refine am_imul eX9_spotOf_15 ?_
    refine am_aload_n eX9_spotOf_16 rfl ?_
    refine md_getA eX9_spotOf_17 fX9_63 (by decide) (by decide) ?_
    refine am_iload_n eX9_spotOf_20 rfl ?_
    refine md_ald (f := 21) (j := b.toNat) (v := m 21 b.toNat) eX9_spotOf_21 (by show _ < 3; omega) rfl (by omega) rfl ?_
    have b1 := wb21 hW b.toNat
    refine am_iadd eX9_spotOf_22 ?_
    refine am_icmp_ge ⟨by omega, by omega⟩ ⟨by omega, by omega⟩ eX9_spotOf_23 (fun c2 => absurd c2 (by omega)) (fun c2 => ?_)
    refine am_aload_n eX9_spotOf_26 rfl ?_
    refine md_getA eX9_spotOf_27 fX9_66 (by decide) (by decide) ?_
    refine am_iload eX9_spotOf_30 rfl ?_
    refine md_ald (f := 22) (j := (200 * b.toNat + i)) (v := m 22 (200 * b.toNat + i)) eX9_spotOf_32 (by show _ < 600; omega) rfl (by omega) rfl ?_
    have b3 := wb22 hW (200 * b.toNat + i)
    refine am_iload_n eX9_spotOf_33 rfl ?_
    refine am_icmp_ne ⟨by omega, by omega⟩ ⟨by omega, by omega⟩ eX9_spotOf_34 (fun c4 => ?_) (fun c4 => ?_)
    · refine am_iload_n eX9_spotOf_42 rfl ?_
      refine am_istore_n eX9_spotOf_43 (by decide) ?_
      refine am_iinc eX9_spotOf_44 rfl (by decide) ?_
      refine am_goto eX9_spotOf_47 ?_
      exact ih (i + 1) _ _ (by omega) (by simp only [sp_fnd]; split <;> omega) (by omega)
    · refine am_iload eX9_spotOf_37 rfl ?_
      refine am_goto eX9_spotOf_39 ?_
      refine am_istore_n eX9_spotOf_43 (by decide) ?_
      refine am_iinc eX9_spotOf_44 rfl (by decide) ?_
      refine am_goto eX9_spotOf_47 ?_
      exact ih (i + 1) _ _ (by omega) (by simp only [sp_fnd]; split <;> omega) (by omega)
set_option maxRecDepth 100000 in
set_option maxHeartbeats 4000000 in
theorem c_X9_spotOf {G : am_G} {m x : sg_S} {T : Int} (hW : md_wb T m) {b s : Int} (hb : 0 ≤ b ∧ b ≤ 2) (hr_s : -2147483648 ≤ s ∧ s < 2147483648) : am_Con G yX9_spotOf wX9_spotOf 1 0 0 [am_R (9, 0), am_I b, am_I s] (en_h m x) (am_is (am_I (sp_fnd m b.toNat s (m 21 b.toNat).toNat)) (en_h m x)) := by
  refine am_of2 (Y := mX9_spotOf) (by decide +kernel) rfl (fun z => by cases z) rfl rfl (Nat.le_of_ble_eq_true rfl) fun X => ?_
  refine am_iconst eX9_spotOf_0 ?_
  refine am_istore_n eX9_spotOf_1 (by decide) ?_
  refine am_sipush eX9_spotOf_2 (by decide) ?_
  refine am_iload_n eX9_spotOf_5 rfl ?_
  refine am_imul eX9_spotOf_6 ?_
  refine am_istore eX9_spotOf_7 (by decide) ?_
  exact lp_X9_spotOf hW hb hr_s X _ 0 _ _ (by omega) rfl (Nat.zero_add _)
def sp_low (σ : sg_S) (b : Nat) (p : Int) : Nat → Int
  | 0 => -1
  | n + 1 => if σ 23 (200 * b + n) = p ∧ (sp_low σ b p n = -1 ∨ σ 22 (200 * b + n) < sp_low σ b p n) then σ 22 (200 * b + n) else sp_low σ b p n
theorem sp_low_in {T : Int} {σ : sg_S} (hW : md_wb T σ) {b : Nat} {p : Int} : ∀ n, -1 ≤ sp_low σ b p n ∧ sp_low σ b p n ≤ 8463
  | 0 => by simp [sp_low]
  | n + 1 => by
    have := sp_low_in hW (b := b) (p := p) n
    have b1 := wb22 hW (200 * b + n)
    simp only [sp_low]
    split <;> omega
set_option maxRecDepth 100000 in
set_option maxHeartbeats 4000000 in
theorem lp_X9_lowestSpot {G : am_G} {m x : sg_S} {T : Int} (hW : md_wb T m) {b s : Int} (hb : 0 ≤ b ∧ b ≤ 2) (hr_s : -2147483648 ≤ s ∧ s < 2147483648) (X : am_X) : ∀ (n : Nat) (i : Nat) (kv : Int) (fv : Int), (kv = 200 * b + i) → (fv = sp_low m b.toNat s i) → (i + n = (m 21 b.toNat).toNat) → am_W G X mX9_lowestSpot 1 0 0 (am_end G X 0 0 (am_is (am_I (sp_low m b.toNat s (m 21 b.toNat).toNat)) (en_h m x))) 9 [some (am_R (9, 0)), some (am_I b), some (am_I s), some (am_I fv), some (am_I kv)] [] (en_h m x) 0 0 := by
  intro n
  induction n with
  | zero =>
    intro i kv fv hk hf hn
    have bb := wb21 hW b.toNat
    have bf := sp_low_in hW (b := b.toNat) (p := s) i
    refine am_iload eX9_lowestSpot_9 rfl ?_
    refine am_sipush eX9_lowestSpot_11 (by decide) ?_
    refine am_iload_n eX9_lowestSpot_14 rfl ?_
    refine am_imul eX9_lowestSpot_15 ?_
    refine am_aload_n eX9_lowestSpot_16 rfl ?_
    refine md_getA eX9_lowestSpot_17 fX9_63 (by decide) (by decide) ?_
    refine am_iload_n eX9_lowestSpot_20 rfl ?_
    refine md_ald (f := 21) (j := b.toNat) (v := m 21 b.toNat) eX9_lowestSpot_21 (by show _ < 3; omega) rfl (by omega) rfl ?_
    have b1 := wb21 hW b.toNat
    refine am_iadd eX9_lowestSpot_22 ?_
    refine am_icmp_ge ⟨by omega, by omega⟩ ⟨by omega, by omega⟩ eX9_lowestSpot_23 (fun c2 => ?_) (fun c2 => absurd c2 (by omega))
    refine am_iload_n eX9_lowestSpot_71 rfl ?_
    refine am_ireturn eX9_lowestSpot_72 rfl trivial (Nat.zero_le _) (Nat.zero_le _) ?_
    exact am_is_I (by rw [hf, ← hn]; rfl) rfl
  | succ n ih =>
    intro i kv fv hk hf hn
    have bb := wb21 hW b.toNat
    have bf := sp_low_in hW (b := b.toNat) (p := s) i
    refine am_iload eX9_lowestSpot_9 rfl ?_
    refine am_sipush eX9_lowestSpot_11 (by decide) ?_
    refine am_iload_n eX9_lowestSpot_14 rfl ?_
    refine am_imul eX9_lowestSpot_15 ?_
    refine am_aload_n eX9_lowestSpot_16 rfl ?_
    refine md_getA eX9_lowestSpot_17 fX9_63 (by decide) (by decide) ?_
    refine am_iload_n eX9_lowestSpot_20 rfl ?_
    refine md_ald (f := 21) (j := b.toNat) (v := m 21 b.toNat) eX9_lowestSpot_21 (by show _ < 3; omega) rfl (by omega) rfl ?_
    have b1 := wb21 hW b.toNat
    refine am_iadd eX9_lowestSpot_22 ?_
    refine am_icmp_ge ⟨by omega, by omega⟩ ⟨by omega, by omega⟩ eX9_lowestSpot_23 (fun c2 => absurd c2 (by omega)) (fun c2 => ?_)
    refine am_aload_n eX9_lowestSpot_26 rfl ?_
    refine md_getA eX9_lowestSpot_27 fX9_69 (by decide) (by decide) ?_
    refine am_iload eX9_lowestSpot_30 rfl ?_
    refine md_ald (f := 23) (j := (200 * b.toNat + i)) (v := m 23 (200 * b.toNat + i)) eX9_lowestSpot_32 (by show _ < 600; omega) rfl (by omega) rfl ?_
    have b3 := wb23 hW (200 * b.toNat + i)
    refine am_iload_n eX9_lowestSpot_33 rfl ?_
    refine am_icmp_ne ⟨by omega, by omega⟩ ⟨by omega, by omega⟩ eX9_lowestSpot_34 (fun c4 => ?_) (fun c4 => ?_)
    · refine am_iload_n eX9_lowestSpot_63 rfl ?_
      refine am_istore_n eX9_lowestSpot_64 (by decide) ?_
      refine am_iinc eX9_lowestSpot_65 rfl (by decide) ?_
      refine am_goto eX9_lowestSpot_68 ?_
      exact ih (i + 1) _ _ (by omega) (by simp only [sp_low]; split <;> omega) (by omega)
    · refine am_iload_n eX9_lowestSpot_37 rfl ?_
      refine am_iconst eX9_lowestSpot_38 ?_
      refine am_icmp_eq ⟨by omega, by omega⟩ ⟨by omega, by omega⟩ eX9_lowestSpot_39 (fun c5 => ?_) (fun c5 => ?_)
      · refine am_aload_n eX9_lowestSpot_53 rfl ?_
        refine md_getA eX9_lowestSpot_54 fX9_66 (by decide) (by decide) ?_
        refine am_iload eX9_lowestSpot_57 rfl ?_
        refine md_ald (f := 22) (j := (200 * b.toNat + i)) (v := m 22 (200 * b.toNat + i)) eX9_lowestSpot_59 (by show _ < 600; omega) rfl (by omega) rfl ?_
        have b6 := wb22 hW (200 * b.toNat + i)
        refine am_goto eX9_lowestSpot_60 ?_
        refine am_istore_n eX9_lowestSpot_64 (by decide) ?_
        refine am_iinc eX9_lowestSpot_65 rfl (by decide) ?_
        refine am_goto eX9_lowestSpot_68 ?_
        exact ih (i + 1) _ _ (by omega) (by simp only [sp_low]; split <;> omega) (by omega)
      · refine am_aload_n eX9_lowestSpot_42 rfl ?_
        refine md_getA eX9_lowestSpot_43 fX9_66 (by decide) (by decide) ?_
        refine am_iload eX9_lowestSpot_46 rfl ?_
        refine md_ald (f := 22) (j := (200 * b.toNat + i)) (v := m 22 (200 * b.toNat + i)) eX9_lowestSpot_48 (by show _ < 600; omega) rfl (by omega) rfl ?_
        have b7 := wb22 hW (200 * b.toNat + i)
        refine am_iload_n eX9_lowestSpot_49 rfl ?_
        refine am_icmp_ge ⟨by omega, by omega⟩ ⟨by omega, by omega⟩ eX9_lowestSpot_50 (fun c8 => ?_) (fun c8 => ?_)
        · refine am_iload_n eX9_lowestSpot_63 rfl ?_
          refine am_istore_n eX9_lowestSpot_64 (by decide) ?_
          refine am_iinc eX9_lowestSpot_65 rfl (by decide) ?_
          refine am_goto eX9_lowestSpot_68 ?_
          exact ih (i + 1) _ _ (by omega) (by simp only [sp_low]; split <;> omega) (by omega)
        · refine am_aload_n eX9_lowestSpot_53 rfl ?_
          refine md_getA eX9_lowestSpot_54 fX9_66 (by decide) (by decide) ?_
          refine am_iload eX9_lowestSpot_57 rfl ?_
          refine md_ald (f := 22) (j := (200 * b.toNat + i)) (v := m 22 (200 * b.toNat + i)) eX9_lowestSpot_59 (by show _ < 600; omega) rfl (by omega) rfl ?_
          have b9 := wb22 hW (200 * b.toNat + i)
          refine am_goto eX9_lowestSpot_60 ?_
          refine am_istore_n eX9_lowestSpot_64 (by decide) ?_
          refine am_iinc eX9_lowestSpot_65 rfl (by decide) ?_
          refine am_goto eX9_lowestSpot_68 ?_
          exact ih (i + 1) _ _ (by omega) (by simp only [sp_low]; split <;> omega) (by omega)
set_option maxRecDepth 100000 in
set_option maxHeartbeats 4000000 in
theorem c_X9_lowestSpot {G : am_G} {m x : sg_S} {T : Int} (hW : md_wb T m) {b s : Int} (hb : 0 ≤ b ∧ b ≤ 2) (hr_s : -2147483648 ≤ s ∧ s < 2147483648) : am_Con G yX9_lowestSpot wX9_lowestSpot 1 0 0 [am_R (9, 0), am_I b, am_I s] (en_h m x) (am_is (am_I (sp_low m b.toNat s (m 21 b.toNat).toNat)) (en_h m x)) := by
  refine am_of2 (Y := mX9_lowestSpot) (by decide +kernel) rfl (fun z => by cases z) rfl rfl (Nat.le_of_ble_eq_true rfl) fun X => ?_
  refine am_iconst eX9_lowestSpot_0 ?_
  refine am_istore_n eX9_lowestSpot_1 (by decide) ?_
  refine am_sipush eX9_lowestSpot_2 (by decide) ?_
  refine am_iload_n eX9_lowestSpot_5 rfl ?_
  refine am_imul eX9_lowestSpot_6 ?_
  refine am_istore eX9_lowestSpot_7 (by decide) ?_
  exact lp_X9_lowestSpot hW hb hr_s X _ 0 _ _ (by omega) rfl (Nat.zero_add _)
def sp_nxt (σ : sg_S) (w : Nat) : Nat → Nat → Nat
  | 0, e => e
  | n + 1, e => if σ 20 (300 * w + e) = 0 then e else sp_nxt σ w n (e + 1)
theorem sp_nxt_in {σ : sg_S} {w : Nat} : ∀ n e, e ≤ sp_nxt σ w n e ∧ sp_nxt σ w n e ≤ e + n
  | 0, e => ⟨Nat.le_refl _, Nat.le_refl _⟩
  | n + 1, e => by
    have := sp_nxt_in (σ := σ) (w := w) n (e + 1)
    simp only [sp_nxt]
    split <;> omega
set_option maxRecDepth 100000 in
set_option maxHeartbeats 4000000 in
theorem lp_X9_nextRead {G : am_G} {m x : sg_S} {T : Int} (hW : md_wb T m) {w : Int} (hw : 0 ≤ w ∧ w < 24) {a : Nat} (X : am_X) : ∀ (n : Nat) (i : Nat) (iv : Int), (iv = (i : Int)) → (sp_nxt m w.toNat n i = sp_nxt m w.toNat ((m 17 w.toNat).toNat - a) a) → (n = (m 17 w.toNat).toNat - i) → (i ≤ 301) → am_W G X mX9_nextRead 1 0 0 (am_end G X 0 0 (am_is (am_I ((sp_nxt m w.toNat ((m 17 w.toNat).toNat - a) a : Nat) : Int)) (en_h m x))) 2 [some (am_R (9, 0)), some (am_I w), some (am_I (a : Int)), some (am_I iv)] [] (en_h m x) 0 0 := by
  intro n
  induction n with
  | zero =>
    intro i iv hi hf hn hz
    have bb := wb17 hW w.toNat
    refine am_iload_n eX9_nextRead_2 rfl ?_
    refine am_aload_n eX9_nextRead_3 rfl ?_
    refine md_getA eX9_nextRead_4 fX9_51 (by decide) (by decide) ?_
    refine am_iload_n eX9_nextRead_7 rfl ?_
    refine md_ald (f := 17) (j := w.toNat) (v := m 17 w.toNat) eX9_nextRead_8 (by show _ < 24; omega) rfl (by omega) rfl ?_
    have b1 := wb17 hW w.toNat
    refine am_icmp_ge ⟨by omega, by omega⟩ ⟨by omega, by omega⟩ eX9_nextRead_9 (fun c2 => ?_) (fun c2 => absurd c2 (by omega))
    refine am_iload_n eX9_nextRead_33 rfl ?_
    refine am_ireturn eX9_nextRead_34 rfl trivial (Nat.zero_le _) (Nat.zero_le _) ?_
    exact am_is_I (by rw [hi, ← hf]; first | rfl | (simp only [sp_nxt]; rw [if_pos (by omega)])) rfl
  | succ n ih =>
    intro i iv hi hf hn hz
    have bb := wb17 hW w.toNat
    refine am_iload_n eX9_nextRead_2 rfl ?_
    refine am_aload_n eX9_nextRead_3 rfl ?_
    refine md_getA eX9_nextRead_4 fX9_51 (by decide) (by decide) ?_
    refine am_iload_n eX9_nextRead_7 rfl ?_
    refine md_ald (f := 17) (j := w.toNat) (v := m 17 w.toNat) eX9_nextRead_8 (by show _ < 24; omega) rfl (by omega) rfl ?_
    have b1 := wb17 hW w.toNat
    refine am_icmp_ge ⟨by omega, by omega⟩ ⟨by omega, by omega⟩ eX9_nextRead_9 (fun c2 => absurd c2 (by omega)) (fun c2 => ?_)
    refine am_aload_n eX9_nextRead_12 rfl ?_
    refine md_getA eX9_nextRead_13 fX9_60 (by decide) (by decide) ?_
    refine am_sipush eX9_nextRead_16 (by decide) ?_
    refine am_iload_n eX9_nextRead_19 rfl ?_
    refine am_imul eX9_nextRead_20 ?_
    refine am_iload_n eX9_nextRead_21 rfl ?_
    refine am_iadd eX9_nextRead_22 ?_
    refine md_bald (f := 20) (j := ((300 * w.toNat) + i)) (v := m 20 ((300 * w.toNat) + i)) eX9_nextRead_23 (by show _ < 7200; omega) rfl (by omega) rfl ?_
    have b3 := wb20 hW ((300 * w.toNat) + i)
    refine am_if_eq ⟨by omega, by omega⟩ eX9_nextRead_24 (fun c4 => ?_) (fun c4 => ?_)
    · refine am_iload_n eX9_nextRead_33 rfl ?_
      refine am_ireturn eX9_nextRead_34 rfl trivial (Nat.zero_le _) (Nat.zero_le _) ?_
      exact am_is_I (by rw [hi, ← hf]; first | rfl | (simp only [sp_nxt]; rw [if_pos (by omega)])) rfl
    · refine am_iinc eX9_nextRead_27 rfl (by decide) ?_
      refine am_goto eX9_nextRead_30 ?_
      exact ih (i + 1) _ (by omega) (by rw [← hf]; simp only [sp_nxt]; rw [if_neg (by omega)]) (by omega) (by omega)
theorem c_X9_nextRead {G : am_G} {m x : sg_S} {T : Int} (hW : md_wb T m) {w v : Int} (hw : 0 ≤ w ∧ w < 24) {a : Nat} (hv : v = (a : Int)) (ha : a ≤ 301) : am_Con G yX9_nextRead wX9_nextRead 1 0 0 [am_R (9, 0), am_I w, am_I v] (en_h m x) (am_is (am_I ((sp_nxt m w.toNat ((m 17 w.toNat).toNat - a) a : Nat) : Int)) (en_h m x)) := by
  subst hv
  refine am_of2 (Y := mX9_nextRead) (by decide +kernel) rfl (fun z => by cases z) rfl rfl (Nat.le_of_ble_eq_true rfl) fun X => ?_
  refine am_iload_n eX9_nextRead_0 rfl ?_
  refine am_istore_n eX9_nextRead_1 (by decide) ?_
  exact lp_X9_nextRead hW hw X _ a _ rfl rfl rfl ha
/-- the arm w's kept signs, one put in at the place p -/
def sp_kp (σ : sg_S) (w p : Nat) (s : Int) : sg_S := fun f j => if f = 12 ∧ j = w then σ 12 w + 1 else if f = 14 ∧ 220 * w + p ≤ j ∧ j ≤ 220 * w + (σ 12 w).toNat then (if j = 220 * w + p then s else σ 14 (j - 1)) else σ f j
/-- moved up by one above i -/
def sp_ku (σ : sg_S) (w i : Nat) : sg_S := fun f j => if f = 14 ∧ 220 * w + i < j ∧ j ≤ 220 * w + (σ 12 w).toNat then σ 14 (j - 1) else σ f j
theorem sp_ku_12 {σ : sg_S} {w i f j : Nat} (h : f ≠ 14) : sp_ku σ w i f j = σ f j := by simp [sp_ku, h]
theorem sp_ku_lo {σ : sg_S} {w i j : Nat} (h : j ≤ 220 * w + i) : sp_ku σ w i 14 j = σ 14 j := by
  simp only [sp_ku]
  rw [if_neg (by omega)]
theorem sp_ku_st {σ : sg_S} {w i : Nat} (h : (i : Int) < σ 12 w) : st (sp_ku σ w (i + 1)) 14 (220 * w + (i + 1)) (σ 14 (220 * w + i)) = sp_ku σ w i := by
  funext f j
  simp only [st, sp_ku]
  by_cases h1 : f = 14
  · subst h1
    by_cases h2 : j = 220 * w + (i + 1)
    · subst h2
      rw [if_pos ⟨rfl, rfl⟩, if_pos ⟨rfl, by omega, by omega⟩]
      congr 1
    · rw [if_neg (fun z => h2 z.2)]
      by_cases h3 : 220 * w + (i + 1) < j ∧ j ≤ 220 * w + (σ 12 w).toNat
      · rw [if_pos ⟨rfl, h3⟩, if_pos ⟨rfl, by omega, by omega⟩]
      · rw [if_neg (fun z => h3 z.2), if_neg (fun z => h3 ⟨by omega, z.2.2⟩)]
  · rw [if_neg (fun z => h1 z.1), if_neg (fun z => h1 z.1), if_neg (fun z => h1 z.1)]
theorem sp_ku_0 {σ : sg_S} {w : Nat} : sp_ku σ w (σ 12 w).toNat = σ := by
  funext f j
  simp only [sp_ku]
  rw [if_neg (by omega)]
theorem sp_ku_kp {σ : sg_S} {w p : Nat} {s : Int} (h : (p : Int) ≤ σ 12 w) : st (st (sp_ku σ w p) 14 (220 * w + p) s) 12 w (σ 12 w + 1) = sp_kp σ w p s := by
  funext f j
  simp only [st, sp_ku, sp_kp]
  by_cases h1 : f = 12 ∧ j = w
  · rw [if_pos h1, if_pos h1]
  · rw [if_neg h1, if_neg h1]
    by_cases h2 : f = 14
    · subst h2
      by_cases h3 : j = 220 * w + p
      · subst h3
        rw [if_pos ⟨rfl, rfl⟩, if_pos ⟨rfl, by omega, by omega⟩, if_pos rfl]
      · rw [if_neg (fun z => h3 z.2)]
        by_cases h4 : 220 * w + p < j ∧ j ≤ 220 * w + (σ 12 w).toNat
        · rw [if_pos ⟨rfl, h4⟩, if_pos ⟨rfl, by omega, by omega⟩, if_neg h3]
        · rw [if_neg (fun z => h4 z.2), if_neg (fun z => h4 ⟨by omega, z.2.2⟩)]
    · rw [if_neg (fun z => h2 z.1), if_neg (fun z => h2 z.1), if_neg (fun z => h2 z.1)]
set_option maxRecDepth 100000 in
set_option maxHeartbeats 4000000 in
theorem lp_X9_keepsAt {G : am_G} {m x : sg_S} {T : Int} (hW : md_wb T m) {w p s : Int} (hw : 0 ≤ w ∧ w < 24) (hp : 0 ≤ p ∧ p ≤ m 12 w.toNat) (hl : m 12 w.toNat < 220) (hr_s : -2147483648 ≤ s ∧ s < 2147483648) (X : am_X) : ∀ (n : Nat) (kv : Int) (m1 : sg_S), kv = p + n → n ≤ (m 12 w.toNat).toNat - p.toNat → m1 = sp_ku m w.toNat (p.toNat + n) → am_W G X mX9_keepsAt 1 0 0 (am_end G X 0 0 (am_vd (en_h (sp_kp m w.toNat p.toNat s) x))) 8 [some (am_R (9, 0)), some (am_I w), some (am_I p), some (am_I s), some (am_I kv)] [] (en_h m1 x) 0 0 := by
  have bb := wb12 hW w.toNat
  intro n
  induction n with
  | zero =>
    intro kv m1 hk hn hm
    have e12 : m1 12 w.toNat = m 12 w.toNat := by rw [hm, sp_ku_12 (by decide)]
    refine am_iload eX9_keepsAt_8 rfl ?_
    refine am_iload_n eX9_keepsAt_10 rfl ?_
    refine am_icmp_le ⟨by omega, by omega⟩ ⟨by omega, by omega⟩ eX9_keepsAt_11 (fun c1 => ?_) (fun c1 => absurd c1 (by omega))
    refine am_aload_n eX9_keepsAt_48 rfl ?_
    refine md_getA eX9_keepsAt_49 fX9_41 (by decide) (by decide) ?_
    refine am_sipush eX9_keepsAt_52 (by decide) ?_
    refine am_iload_n eX9_keepsAt_55 rfl ?_
    refine am_imul eX9_keepsAt_56 ?_
    refine am_iload_n eX9_keepsAt_57 rfl ?_
    refine am_iadd eX9_keepsAt_58 ?_
    refine am_iload_n eX9_keepsAt_59 rfl ?_
    refine md_ast (f := 14) (j := ((220 * w.toNat) + p.toNat)) eX9_keepsAt_60 (by show _ < 5280; omega) rfl (by omega) ?_
    refine am_aload_n eX9_keepsAt_61 rfl ?_
    refine md_getA eX9_keepsAt_62 fX9_35 (by decide) (by decide) ?_
    refine am_iload_n eX9_keepsAt_65 rfl ?_
    refine am_dup2 eX9_keepsAt_66 ?_
    refine md_ald (f := 12) (j := w.toNat) (v := m 12 w.toNat) eX9_keepsAt_67 (by show _ < 24; omega) rfl (by omega) ((st_nf (by decide)).trans e12) ?_
    refine am_iconst eX9_keepsAt_68 ?_
    refine am_iadd eX9_keepsAt_69 ?_
    refine md_ast (f := 12) (j := w.toNat) eX9_keepsAt_70 (by show _ < 24; omega) rfl (by omega) ?_
    refine am_return eX9_keepsAt_71 rfl (Nat.zero_le _) (Nat.zero_le _) ?_
    exact am_vd_m (by rw [hm]; exact sp_ku_kp (by omega))
  | succ n ih =>
    intro kv m1 hk hn hm
    have e12 : m1 12 w.toNat = m 12 w.toNat := by rw [hm, sp_ku_12 (by decide)]
    refine am_iload eX9_keepsAt_8 rfl ?_
    refine am_iload_n eX9_keepsAt_10 rfl ?_
    refine am_icmp_le ⟨by omega, by omega⟩ ⟨by omega, by omega⟩ eX9_keepsAt_11 (fun c1 => absurd c1 (by omega)) (fun c1 => ?_)
    refine am_aload_n eX9_keepsAt_14 rfl ?_
    refine md_getA eX9_keepsAt_15 fX9_41 (by decide) (by decide) ?_
    refine am_sipush eX9_keepsAt_18 (by decide) ?_
    refine am_iload_n eX9_keepsAt_21 rfl ?_
    refine am_imul eX9_keepsAt_22 ?_
    refine am_iload eX9_keepsAt_23 rfl ?_
    refine am_iadd eX9_keepsAt_25 ?_
    refine am_aload_n eX9_keepsAt_26 rfl ?_
    refine md_getA eX9_keepsAt_27 fX9_41 (by decide) (by decide) ?_
    refine am_sipush eX9_keepsAt_30 (by decide) ?_
    refine am_iload_n eX9_keepsAt_33 rfl ?_
    refine am_imul eX9_keepsAt_34 ?_
    refine am_iload eX9_keepsAt_35 rfl ?_
    refine am_iadd eX9_keepsAt_37 ?_
    refine am_iconst eX9_keepsAt_38 ?_
    refine am_isub eX9_keepsAt_39 ?_
    refine md_ald (f := 14) (j := (((220 * w.toNat) + (p.toNat + (n + 1))) - 1)) (v := m 14 (220 * w.toNat + (p.toNat + n))) eX9_keepsAt_40 (by show _ < 5280; omega) rfl (by omega) (by rw [hm]; exact sp_ku_lo (by omega)) ?_
    refine md_ast (f := 14) (j := ((220 * w.toNat) + (p.toNat + (n + 1)))) eX9_keepsAt_41 (by show _ < 5280; omega) rfl (by omega) ?_
    refine am_iinc eX9_keepsAt_42 rfl (by decide) ?_
    refine am_goto eX9_keepsAt_45 ?_
    exact ih _ _ (by omega) (by omega) (by rw [hm]; exact sp_ku_st (i := p.toNat + n) (by omega))
set_option maxRecDepth 100000 in
set_option maxHeartbeats 4000000 in
theorem c_X9_keepsAt {G : am_G} {m x : sg_S} {T : Int} (hW : md_wb T m) {w p s : Int} (hw : 0 ≤ w ∧ w < 24) (hp : 0 ≤ p ∧ p ≤ m 12 w.toNat) (hl : m 12 w.toNat < 220) (hr_s : -2147483648 ≤ s ∧ s < 2147483648) : am_Con G yX9_keepsAt wX9_keepsAt 1 0 0 [am_R (9, 0), am_I w, am_I p, am_I s] (en_h m x) (am_vd (en_h (sp_kp m w.toNat p.toNat s) x)) := by
  refine am_of2 (Y := mX9_keepsAt) (by decide +kernel) rfl (fun z => by cases z) rfl rfl (Nat.le_of_ble_eq_true rfl) fun X => ?_
  refine am_aload_n eX9_keepsAt_0 rfl ?_
  refine md_getA eX9_keepsAt_1 fX9_35 (by decide) (by decide) ?_
  refine am_iload_n eX9_keepsAt_4 rfl ?_
  refine md_ald (f := 12) (j := w.toNat) (v := m 12 w.toNat) eX9_keepsAt_5 (by show _ < 24; omega) rfl (by omega) rfl ?_
  have b1 := wb12 hW w.toNat
  refine am_istore eX9_keepsAt_6 (by decide) ?_
  exact lp_X9_keepsAt hW hw hp hl hr_s X ((m 12 w.toNat).toNat - p.toNat) _ _ (by omega) (Nat.le_refl _) (by rw [show p.toNat + ((m 12 w.toNat).toNat - p.toNat) = (m 12 w.toNat).toNat by omega, sp_ku_0])
