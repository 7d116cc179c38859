theorem md_down {a b : Int} (h1 : ¬ 0 ≤ a) (h2 : 1 ≤ b ∧ b ≤ 1000) : -(((-a) + b - 1) / b) = a / b := by
  have hb : 0 < b := by omega
  have key : ∀ q : Int, q * b ≤ a → a < q * b + b → a / b = q := by
    intro q h3 h4
    have h5 := Int.le_ediv_of_mul_le hb h3
    have h6 := Int.ediv_lt_of_lt_mul hb (show a < (q + 1) * b by rw [Int.add_mul]; omega)
    omega
  have e1 := Int.emod_add_mul_ediv ((-a) + b - 1) b
  have e2 := Int.emod_nonneg ((-a) + b - 1) (show b ≠ 0 by omega)
  have e3 := Int.emod_lt_of_pos ((-a) + b - 1) hb
  generalize ((-a) + b - 1) / b = q at *
  have e4 : b * q = q * b := Int.mul_comm _ _
  have e5 : (-q) * b = -(q * b) := Int.neg_mul _ _
  exact (key (-q) (by rw [e5]; omega) (by rw [e5]; omega)).symm
def sp_tower (σ : sg_S) (a b : Int) : sg_S := if ¬ (0 ≤ a ∧ a ≤ 99) ∨ ¬ (1 ≤ b ∧ b ≤ 20) then st σ 0 0 1 else if σ 3 0 = 12 ∨ σ 2 0 ≠ 0 then st σ 0 0 2 else (st (st (st (st σ 0 0 0) 4 ((σ 3 0).toNat) a) 5 ((σ 3 0).toNat) b) 3 0 (σ 3 0 + 1))
def an_tower (σ : sg_S) (a b : Int) : Int := if ¬ (0 ≤ a ∧ a ≤ 99) ∨ ¬ (1 ≤ b ∧ b ≤ 20) then 0 else if σ 3 0 = 12 ∨ σ 2 0 ≠ 0 then 0 else σ 3 0
def sp_hill (σ : sg_S) (s a b : Int) : sg_S := if ¬ (0 ≤ s ∧ s ≤ σ 3 0 - 2) then st σ 0 0 1 else if ¬ (0 ≤ a ∧ a ≤ 99) ∨ ¬ (1 ≤ b ∧ b ≤ σ 5 (s.toNat + 1) - 1) then st σ 0 0 2 else if σ 8 s.toNat = 3 then st σ 0 0 3 else (st (st (st (st σ 0 0 0) 9 (3 * s.toNat + (σ 8 s.toNat).toNat) a) 10 (3 * s.toNat + (σ 8 s.toNat).toNat) b) 8 s.toNat (σ 8 s.toNat + 1))
def an_hill (σ : sg_S) (s a b : Int) : Int := if ¬ (0 ≤ s ∧ s ≤ σ 3 0 - 2) then 0 else if ¬ (0 ≤ a ∧ a ≤ 99) ∨ ¬ (1 ≤ b ∧ b ≤ σ 5 (s.toNat + 1) - 1) then 0 else if σ 8 s.toNat = 3 then 0 else σ 8 s.toNat + 1
def sp_air (σ : sg_S) (s a : Int) : sg_S := if ¬ (0 ≤ s ∧ s ≤ σ 3 0 - 2) then st σ 0 0 1 else if ¬ (0 ≤ a ∧ a ≤ 2) then st σ 0 0 2 else (st (st σ 0 0 0) 7 s.toNat a)
def an_air (σ : sg_S) (s a : Int) : Int := if ¬ (0 ≤ s ∧ s ≤ σ 3 0 - 2) then 0 else if ¬ (0 ≤ a ∧ a ≤ 2) then 0 else σ 7 s.toNat
def sp_tire (σ : sg_S) (t a : Int) : sg_S := if ¬ (0 ≤ t ∧ t ≤ σ 3 0 - 1) then st σ 0 0 1 else if ¬ (0 ≤ a ∧ a ≤ 1009) then st σ 0 0 2 else (st (st σ 0 0 0) 6 t.toNat a)
def an_tire (σ : sg_S) (t a : Int) : Int := if ¬ (0 ≤ t ∧ t ≤ σ 3 0 - 1) then 0 else if ¬ (0 ≤ a ∧ a ≤ 1009) then 0 else σ 6 t.toNat
def sp_seed (σ : sg_S) (a : Int) : sg_S := if ¬ (0 ≤ a ∧ a ≤ 9999) then st σ 0 0 1 else (st (st σ 0 0 0) 11 0 a)
def an_seed (σ : sg_S) (a : Int) : Int := if ¬ (0 ≤ a ∧ a ≤ 9999) then 0 else σ 11 0
def sp_type (σ : sg_S) (a : Int) : sg_S := if ¬ (0 ≤ a ∧ a ≤ 9999) then st σ 0 0 1 else if σ 24 0 = 12 then st σ 0 0 2 else (st (st (st σ 0 0 0) 25 ((σ 24 0).toNat) a) 24 0 (σ 24 0 + 1))
def an_type (σ : sg_S) (a : Int) : Int := if ¬ (0 ≤ a ∧ a ≤ 9999) then 0 else if σ 24 0 = 12 then 0 else σ 24 0 + 1
def sp_clear (σ : sg_S) : sg_S := (st (st σ 0 0 0) 24 0 0)
def an_clear (σ : sg_S) : Int := σ 24 0
def sp_writes (σ : sg_S) (w sg ow : Int) : sg_S := if σ 17 w.toNat < 300 then (st (st (st (st σ 18 (300 * w.toNat + (σ 17 w.toNat).toNat) (σ 1 0)) 19 (300 * w.toNat + (σ 17 w.toNat).toNat) sg) 20 (300 * w.toNat + (σ 17 w.toNat).toNat) ow) 17 w.toNat (σ 17 w.toNat + 1)) else σ
def sp_spy (σ : sg_S) (t : Int) : sg_S := if ¬ (0 ≤ t ∧ t ≤ σ 3 0 - 1) then st σ 0 0 1 else if σ 39 0 = 6 ∨ t = σ 3 0 - 1 then st σ 0 0 2 else (st (st (st σ 0 0 0) 40 ((σ 39 0).toNat) t) 39 0 (σ 39 0 + 1))
def an_spy (σ : sg_S) (t : Int) : Int := if ¬ (0 ≤ t ∧ t ≤ σ 3 0 - 1) then 0 else if σ 39 0 = 6 ∨ t = σ 3 0 - 1 then 0 else σ 39 0
def sp_minute (σ : sg_S) : sg_S := (st σ 0 0 0)
def an_minute (σ : sg_S) : Int := σ 1 0
def sp_towers (σ : sg_S) : sg_S := (st σ 0 0 0)
def an_towers (σ : sg_S) : Int := σ 3 0
def sp_shows (σ : sg_S) (t u : Int) : sg_S := if ¬ (0 ≤ t ∧ t ≤ σ 3 0 - 1) then st σ 0 0 1 else (st σ 0 0 0)
def an_shows (σ : sg_S) (t u : Int) : Int := if ¬ (0 ≤ t ∧ t ≤ σ 3 0 - 1) then 0 else σ 15 (2 * t.toNat + u.toNat)
def sp_keeps (σ : sg_S) (t u p : Int) : sg_S := if ¬ (0 ≤ t ∧ t ≤ σ 3 0 - 1) ∨ p < 0 then st σ 0 0 1 else (st σ 0 0 0)
def an_keeps (σ : sg_S) (t u p : Int) : Int := if ¬ (0 ≤ t ∧ t ≤ σ 3 0 - 1) ∨ p < 0 then 0 else if p < σ 12 (2 * t.toNat + u.toNat) then σ 14 (220 * (2 * t.toNat + u.toNat) + p.toNat) else -1
def sp_logs (σ : sg_S) (t u : Int) : sg_S := if ¬ (0 ≤ t ∧ t ≤ σ 3 0 - 1) then st σ 0 0 1 else (st σ 0 0 0)
def an_logs (σ : sg_S) (t u : Int) : Int := if ¬ (0 ≤ t ∧ t ≤ σ 3 0 - 1) then 0 else σ 17 (2 * t.toNat + u.toNat)
def sp_log (σ : sg_S) (t u n a : Int) : sg_S := if ¬ (0 ≤ t ∧ t ≤ σ 3 0 - 1) ∨ n < 0 then st σ 0 0 1 else if ¬ (0 ≤ a ∧ a ≤ 2) then st σ 0 0 2 else (st σ 0 0 0)
def an_log (σ : sg_S) (t u n a : Int) : Int := if ¬ (0 ≤ t ∧ t ≤ σ 3 0 - 1) ∨ n < 0 then 0 else if ¬ (0 ≤ a ∧ a ≤ 2) then 0 else if σ 17 (2 * t.toNat + u.toNat) ≤ n then -1 else if a = 0 then σ 18 (300 * (2 * t.toNat + u.toNat) + n.toNat) else if a = 1 then σ 19 (300 * (2 * t.toNat + u.toNat) + n.toNat) else σ 20 (300 * (2 * t.toNat + u.toNat) + n.toNat)
def sp_came (σ : sg_S) (u : Int) : sg_S := (st σ 0 0 0)
def an_came (σ : sg_S) (u : Int) : Int := σ 33 u.toNat
def sp_open (σ : sg_S) (u : Int) : sg_S := (st σ 0 0 0)
def an_open (σ : sg_S) (u : Int) : Int := σ 28 u.toNat
def sp_told (σ : sg_S) (u n a : Int) : sg_S := if ¬ (0 ≤ n ∧ n ≤ σ 33 u.toNat - 1) then st σ 0 0 1 else if ¬ (0 ≤ a ∧ a ≤ 3) then st σ 0 0 2 else (st σ 0 0 0)
def an_told (σ : sg_S) (u n a : Int) : Int := if ¬ (0 ≤ n ∧ n ≤ σ 33 u.toNat - 1) then 0 else if ¬ (0 ≤ a ∧ a ≤ 3) then 0 else if a = 0 then σ 35 (40 * u.toNat + n.toNat) else if a = 1 then σ 34 (40 * u.toNat + n.toNat) else if a = 2 then σ 37 (40 * u.toNat + n.toNat) / 2 else σ 36 (40 * u.toNat + n.toNat)
def sp_seen (σ : sg_S) (n : Int) : sg_S := if ¬ (0 ≤ n ∧ n ≤ σ 39 0 - 1) then st σ 0 0 1 else (st σ 0 0 0)
def an_seen (σ : sg_S) (n : Int) : Int := if ¬ (0 ≤ n ∧ n ≤ σ 39 0 - 1) then 0 else σ 41 n.toNat
def sp_comes (σ : sg_S) (a : Int) : sg_S := if ¬ (1 ≤ a ∧ a ≤ 99) then st σ 0 0 1 else (st σ 0 0 0)
def an_comes (σ : sg_S) (a : Int) : Int := if ¬ (1 ≤ a ∧ a ≤ 99) then 0 else if σ 3 0 < 2 then -1 else σ 3 0 + a - 1
def sp_comesAnew (σ : sg_S) (a : Int) : sg_S := if ¬ (1 ≤ a ∧ a ≤ 99) then st σ 0 0 1 else (st σ 0 0 0)
def an_comesAnew (σ : sg_S) (a : Int) : Int := if ¬ (1 ≤ a ∧ a ≤ 99) then 0 else if σ 3 0 < 2 then -1 else σ 3 0 + a - 1
def an_reads (σ : sg_S) (t sg : Int) : Int := if (31 * σ 1 0 + 17 * t + 7 * sg + σ 11 0) % 1009 < σ 6 t.toNat ∧ sg < 92 then (if sg % 2 = 0 then sg + 1 else sg - 1) else sg
set_option maxRecDepth 100000 in
set_option maxHeartbeats 4000000 in
theorem c_X9_in {G : am_G} {h : am_AH} {v lo hi : Int} (hr_v : -2147483648 ≤ v ∧ v < 2147483648) (hr_lo : -2147483648 ≤ lo ∧ lo < 2147483648) (hr_hi : -2147483648 ≤ hi ∧ hi < 2147483648) : am_Con G yX9_in wX9_in 1 0 0 [am_I v, am_I lo, am_I hi] h (am_is (am_I (bz (decide (lo ≤ v ∧ v ≤ hi)))) h) := by
  refine am_of2 (Y := mX9_in) (by decide +kernel) rfl (fun z => by cases z) rfl rfl (Nat.le_of_ble_eq_true rfl) fun X => ?_
  refine am_iload_n eX9_in_0 rfl ?_
  refine am_iload_n eX9_in_1 rfl ?_
  refine am_icmp_lt ⟨by omega, by omega⟩ ⟨by omega, by omega⟩ eX9_in_2 (fun c1 => ?_) (fun c1 => ?_)
  · refine am_iconst eX9_in_14 ?_
    refine am_ireturn eX9_in_15 rfl (Or.inl rfl) (Nat.zero_le _) (Nat.zero_le _) ?_
    exact am_is_I (bz_w (fun z => by omega) (fun z => by omega)) rfl
  · refine am_iload_n eX9_in_5 rfl ?_
    refine am_iload_n eX9_in_6 rfl ?_
    refine am_icmp_gt ⟨by omega, by omega⟩ ⟨by omega, by omega⟩ eX9_in_7 (fun c2 => ?_) (fun c2 => ?_)
    · refine am_iconst eX9_in_14 ?_
      refine am_ireturn eX9_in_15 rfl (Or.inl rfl) (Nat.zero_le _) (Nat.zero_le _) ?_
      exact am_is_I (bz_w (fun z => by omega) (fun z => by omega)) rfl
    · refine am_iconst eX9_in_10 ?_
      refine am_goto eX9_in_11 ?_
      refine am_ireturn eX9_in_15 rfl (Or.inr rfl) (Nat.zero_le _) (Nat.zero_le _) ?_
      exact am_is_I (bz_w (fun z => by omega) (fun z => by omega)) rfl
set_option maxRecDepth 100000 in
set_option maxHeartbeats 4000000 in
theorem c_X9_isTower {G : am_G} {m x : sg_S} {T : Int} (hW : md_wb T m) {a : Int} (hr_a : -2147483648 ≤ a ∧ a < 2147483648) : am_Con G yX9_isTower wX9_isTower 2 0 0 [am_R (9, 0), am_I a] (en_h m x) (am_is (am_I (bz (decide (0 ≤ a ∧ a ≤ m 3 0 - 1)))) (en_h m x)) := by
  refine am_of2 (Y := mX9_isTower) (by decide +kernel) rfl (fun z => by cases z) rfl rfl (Nat.le_of_ble_eq_true rfl) fun X => ?_
  refine am_iload_n eX9_isTower_0 rfl ?_
  refine am_iconst eX9_isTower_1 ?_
  refine am_aload_n eX9_isTower_2 rfl ?_
  refine md_getI (v := m 3 0) eX9_isTower_3 fX9_126 rfl (by decide) rfl ?_
  have b1 := wb3 hW 0
  refine am_iconst eX9_isTower_6 ?_
  refine am_isub eX9_isTower_7 ?_
  refine am_cS eX9_isTower_8 kX9_129 (c_X9_in (v := a) (lo := 0) (hi := ((m 3 0) - 1)) ⟨by omega, by omega⟩ ⟨by omega, by omega⟩ ⟨by omega, by omega⟩) rfl rfl (by decide) (by decide) (Nat.le_of_ble_eq_true rfl) (Nat.zero_le _) (Nat.zero_le _) ?_
  refine am_ireturn eX9_isTower_11 rfl (bz_01 _) (Nat.zero_le _) (Nat.zero_le _) ?_
  exact am_is_I rfl rfl
set_option maxRecDepth 100000 in
set_option maxHeartbeats 4000000 in
theorem c_X9_isStretch {G : am_G} {m x : sg_S} {T : Int} (hW : md_wb T m) {a : Int} (hr_a : -2147483648 ≤ a ∧ a < 2147483648) : am_Con G yX9_isStretch wX9_isStretch 2 0 0 [am_R (9, 0), am_I a] (en_h m x) (am_is (am_I (bz (decide (0 ≤ a ∧ a ≤ m 3 0 - 2)))) (en_h m x)) := by
  refine am_of2 (Y := mX9_isStretch) (by decide +kernel) rfl (fun z => by cases z) rfl rfl (Nat.le_of_ble_eq_true rfl) fun X => ?_
  refine am_iload_n eX9_isStretch_0 rfl ?_
  refine am_iconst eX9_isStretch_1 ?_
  refine am_aload_n eX9_isStretch_2 rfl ?_
  refine md_getI (v := m 3 0) eX9_isStretch_3 fX9_126 rfl (by decide) rfl ?_
  have b1 := wb3 hW 0
  refine am_iconst eX9_isStretch_6 ?_
  refine am_isub eX9_isStretch_7 ?_
  refine am_cS eX9_isStretch_8 kX9_129 (c_X9_in (v := a) (lo := 0) (hi := ((m 3 0) - 2)) ⟨by omega, by omega⟩ ⟨by omega, by omega⟩ ⟨by omega, by omega⟩) rfl rfl (by decide) (by decide) (Nat.le_of_ble_eq_true rfl) (Nat.zero_le _) (Nat.zero_le _) ?_
  refine am_ireturn eX9_isStretch_11 rfl (bz_01 _) (Nat.zero_le _) (Nat.zero_le _) ?_
  exact am_is_I rfl rfl
set_option maxRecDepth 100000 in
set_option maxHeartbeats 4000000 in
theorem c_X9_isBook {G : am_G} {h : am_AH} {a : Int} (hr_a : -2147483648 ≤ a ∧ a < 2147483648) : am_Con G yX9_isBook wX9_isBook 2 0 0 [am_I a] h (am_is (am_I (bz (decide (0 ≤ a ∧ a ≤ 2)))) h) := by
  refine am_of2 (Y := mX9_isBook) (by decide +kernel) rfl (fun z => by cases z) rfl rfl (Nat.le_of_ble_eq_true rfl) fun X => ?_
  refine am_iload_n eX9_isBook_0 rfl ?_
  refine am_iconst eX9_isBook_1 ?_
  refine am_iconst eX9_isBook_2 ?_
  refine am_cS eX9_isBook_3 kX9_129 (c_X9_in (v := a) (lo := 0) (hi := 2) ⟨by omega, by omega⟩ ⟨by omega, by omega⟩ ⟨by omega, by omega⟩) rfl rfl (by decide) (by decide) (Nat.le_of_ble_eq_true rfl) (Nat.zero_le _) (Nat.zero_le _) ?_
  refine am_ireturn eX9_isBook_6 rfl (bz_01 _) (Nat.zero_le _) (Nat.zero_le _) ?_
  exact am_is_I rfl rfl
set_option maxRecDepth 100000 in
set_option maxHeartbeats 4000000 in
theorem c_X9_at {G : am_G} {h : am_AH} {a u : Int} (hb_u : u = 0 ∨ u = 1) : am_Con G yX9_at wX9_at 1 0 0 [am_I a, am_I u] h (am_is (am_I (2 * a + u)) h) := by
  refine am_of2 (Y := mX9_at) (by decide +kernel) rfl (fun z => by cases z) rfl rfl (Nat.le_of_ble_eq_true rfl) fun X => ?_
  refine am_iconst eX9_at_0 ?_
  refine am_iload_n eX9_at_1 rfl ?_
  refine am_imul eX9_at_2 ?_
  refine am_iload_n eX9_at_3 rfl ?_
  refine am_if_eq ⟨by omega, by omega⟩ eX9_at_4 (fun c1 => ?_) (fun c1 => ?_)
  · refine am_iconst eX9_at_11 ?_
    refine am_iadd eX9_at_12 ?_
    refine am_ireturn eX9_at_13 rfl trivial (Nat.zero_le _) (Nat.zero_le _) ?_
    exact am_is_I (by omega) rfl
  · refine am_iconst eX9_at_7 ?_
    refine am_goto eX9_at_8 ?_
    refine am_iadd eX9_at_12 ?_
    refine am_ireturn eX9_at_13 rfl trivial (Nat.zero_le _) (Nat.zero_le _) ?_
    exact am_is_I (by omega) rfl
set_option maxRecDepth 100000 in
set_option maxHeartbeats 4000000 in
theorem c_X9_isEnd {G : am_G} {m x : sg_S} {T : Int} (hW : md_wb T m) {a u : Int} (hr_a : -2147483648 ≤ a ∧ a < 2147483648) (hb_u : u = 0 ∨ u = 1) : am_Con G yX9_isEnd wX9_isEnd 1 0 0 [am_R (9, 0), am_I a, am_I u] (en_h m x) (am_is (am_I (bz (decide (a = if u = 0 then 0 else m 3 0 - 1)))) (en_h m x)) := by
  refine am_of2 (Y := mX9_isEnd) (by decide +kernel) rfl (fun z => by cases z) rfl rfl (Nat.le_of_ble_eq_true rfl) fun X => ?_
  refine am_iload_n eX9_isEnd_0 rfl ?_
  refine am_iload_n eX9_isEnd_1 rfl ?_
  refine am_if_eq ⟨by omega, by omega⟩ eX9_isEnd_2 (fun c1 => ?_) (fun c1 => ?_)
  · refine am_iconst eX9_isEnd_14 ?_
    refine am_icmp_ne ⟨by omega, by omega⟩ ⟨by omega, by omega⟩ eX9_isEnd_15 (fun c2 => ?_) (fun c2 => ?_)
    · refine am_iconst eX9_isEnd_22 ?_
      refine am_ireturn eX9_isEnd_23 rfl (Or.inl rfl) (Nat.zero_le _) (Nat.zero_le _) ?_
      exact am_is_I (bz_w (fun z => by split at z <;> omega) (fun z => by split at z <;> omega)) rfl
    · refine am_iconst eX9_isEnd_18 ?_
      refine am_goto eX9_isEnd_19 ?_
      refine am_ireturn eX9_isEnd_23 rfl (Or.inr rfl) (Nat.zero_le _) (Nat.zero_le _) ?_
      exact am_is_I (bz_w (fun z => by split at z <;> omega) (fun z => by split at z <;> omega)) rfl
  · refine am_aload_n eX9_isEnd_5 rfl ?_
    refine md_getI (v := m 3 0) eX9_isEnd_6 fX9_126 rfl (by decide) rfl ?_
    have b3 := wb3 hW 0
    refine am_iconst eX9_isEnd_9 ?_
    refine am_isub eX9_isEnd_10 ?_
    refine am_goto eX9_isEnd_11 ?_
    refine am_icmp_ne ⟨by omega, by omega⟩ ⟨by omega, by omega⟩ eX9_isEnd_15 (fun c4 => ?_) (fun c4 => ?_)
    · refine am_iconst eX9_isEnd_22 ?_
      refine am_ireturn eX9_isEnd_23 rfl (Or.inl rfl) (Nat.zero_le _) (Nat.zero_le _) ?_
      exact am_is_I (bz_w (fun z => by split at z <;> omega) (fun z => by split at z <;> omega)) rfl
    · refine am_iconst eX9_isEnd_18 ?_
      refine am_goto eX9_isEnd_19 ?_
      refine am_ireturn eX9_isEnd_23 rfl (Or.inr rfl) (Nat.zero_le _) (Nat.zero_le _) ?_
      exact am_is_I (bz_w (fun z => by split at z <;> omega) (fun z => by split at z <;> omega)) rfl
set_option maxRecDepth 100000 in
set_option maxHeartbeats 4000000 in
theorem c_X9_tower {G : am_G} {m x : sg_S} {T : Int} (hW : md_wb T m) {a b : Int} (hr_a : -2147483648 ≤ a ∧ a < 2147483648) (hr_b : -2147483648 ≤ b ∧ b < 2147483648)   : am_Con G yX9_tower wX9_tower 2 0 0 [am_R (9, 0), am_I a, am_I b] (en_h m x) (am_is (am_I (an_tower m a b)) (en_h (sp_tower m a b) x)) := by
  refine am_of2 (Y := mX9_tower) (by decide +kernel) rfl (fun z => by cases z) rfl rfl (Nat.le_of_ble_eq_true rfl) fun X => ?_
  refine am_aload_n eX9_tower_0 rfl ?_
  refine am_iload_n eX9_tower_1 rfl ?_
  refine am_iconst eX9_tower_2 ?_
  refine am_bipush eX9_tower_3 (by decide) ?_
  refine am_cS eX9_tower_5 kX9_129 (c_X9_in (v := a) (lo := 0) (hi := 99) ⟨by omega, by omega⟩ ⟨by omega, by omega⟩ ⟨by omega, by omega⟩) rfl rfl (by decide) (by decide) (Nat.le_of_ble_eq_true rfl) (Nat.zero_le _) (Nat.zero_le _) ?_
  refine am_bz_eq eX9_tower_8 (fun c1 => ?_) (fun c1 => ?_)
  · refine am_iconst eX9_tower_21 ?_
    refine am_goto eX9_tower_22 ?_
    refine md_put eX9_tower_46 fX9_123 rfl rfl (by decide) trivial ?_
    refine am_aload_n eX9_tower_49 rfl ?_
    refine md_getI (v := 1) eX9_tower_50 fX9_123 rfl (by decide) st_eq ?_
    refine am_if_le ⟨by omega, by omega⟩ eX9_tower_53 (fun z => absurd z (by decide)) (fun _ => ?_)
    refine am_iconst eX9_tower_56 ?_
    refine am_ireturn eX9_tower_57 rfl trivial (Nat.zero_le _) (Nat.zero_le _) ?_
    exact am_is_m (by first | rfl | (unfold an_tower; (try simp only [Int.toNat_zero, Int.toNat_one]); (repeat' split) <;> first | rfl | omega | (simp only [Nat.mul_zero, Nat.mul_one] at *; omega))) (by first | rfl | (unfold sp_tower; (try simp only [Int.toNat_zero, Int.toNat_one]); (repeat' split) <;> first | rfl | (exfalso; omega)))
  · refine am_iload_n eX9_tower_11 rfl ?_
    refine am_iconst eX9_tower_12 ?_
    refine am_bipush eX9_tower_13 (by decide) ?_
    refine am_cS eX9_tower_15 kX9_129 (c_X9_in (v := b) (lo := 1) (hi := 20) ⟨by omega, by omega⟩ ⟨by omega, by omega⟩ ⟨by omega, by omega⟩) rfl rfl (by decide) (by decide) (Nat.le_of_ble_eq_true rfl) (Nat.zero_le _) (Nat.zero_le _) ?_
    refine am_bz_ne eX9_tower_18 (fun c3 => ?_) (fun c3 => ?_)
    · refine am_aload_n eX9_tower_25 rfl ?_
      refine md_getI (v := m 3 0) eX9_tower_26 fX9_126 rfl (by decide) rfl ?_
      have b4 := wb3 hW 0
      refine am_bipush eX9_tower_29 (by decide) ?_
      refine am_icmp_eq ⟨by omega, by omega⟩ ⟨by omega, by omega⟩ eX9_tower_31 (fun c5 => ?_) (fun c5 => ?_)
      · refine am_iconst eX9_tower_41 ?_
        refine am_goto eX9_tower_42 ?_
        refine md_put eX9_tower_46 fX9_123 rfl rfl (by decide) trivial ?_
        refine am_aload_n eX9_tower_49 rfl ?_
        refine md_getI (v := 2) eX9_tower_50 fX9_123 rfl (by decide) st_eq ?_
        refine am_if_le ⟨by omega, by omega⟩ eX9_tower_53 (fun z => absurd z (by decide)) (fun _ => ?_)
        refine am_iconst eX9_tower_56 ?_
        refine am_ireturn eX9_tower_57 rfl trivial (Nat.zero_le _) (Nat.zero_le _) ?_
        exact am_is_m (by first | rfl | (unfold an_tower; (try simp only [Int.toNat_zero, Int.toNat_one]); (repeat' split) <;> first | rfl | omega | (simp only [Nat.mul_zero, Nat.mul_one] at *; omega))) (by first | rfl | (unfold sp_tower; (try simp only [Int.toNat_zero, Int.toNat_one]); (repeat' split) <;> first | rfl | (exfalso; omega)))
      · refine am_aload_n eX9_tower_34 rfl ?_
        refine md_getI (v := m 2 0) eX9_tower_35 fX9_133 rfl (by decide) rfl ?_
        have b7 := wb2 hW 0
        refine am_if_eq ⟨by omega, by omega⟩ eX9_tower_38 (fun c8 => ?_) (fun c8 => ?_)
        · refine am_iconst eX9_tower_45 ?_
          refine md_put eX9_tower_46 fX9_123 rfl rfl (by decide) trivial ?_
          refine am_aload_n eX9_tower_49 rfl ?_
          refine md_getI (v := 0) eX9_tower_50 fX9_123 rfl (by decide) st_eq ?_
          refine am_if_le ⟨by omega, by omega⟩ eX9_tower_53 (fun _ => ?_) (fun z => absurd z (by decide))
          refine am_aload_n eX9_tower_58 rfl ?_
          refine md_getA eX9_tower_59 fX9_13 (by decide) (by decide) ?_
          refine am_aload_n eX9_tower_62 rfl ?_
          refine md_getI (v := m 3 0) eX9_tower_63 fX9_126 rfl (by decide) ((st_nf (by decide)).trans rfl) ?_
          have b10 := wb3 hW 0
          refine am_iload_n eX9_tower_66 rfl ?_
          refine md_ast (f := 4) (j := (m 3 0).toNat) eX9_tower_67 (by show _ < 12; omega) rfl (by omega) ?_
          refine am_aload_n eX9_tower_68 rfl ?_
          refine md_getA eX9_tower_69 fX9_17 (by decide) (by decide) ?_
          refine am_aload_n eX9_tower_72 rfl ?_
          refine md_getI (v := m 3 0) eX9_tower_73 fX9_126 rfl (by decide) ((st_nf (by decide)).trans ((st_nf (by decide)).trans rfl)) ?_
          have b11 := wb3 hW 0
          refine am_iload_n eX9_tower_76 rfl ?_
          refine md_ast (f := 5) (j := (m 3 0).toNat) eX9_tower_77 (by show _ < 12; omega) rfl (by omega) ?_
          refine am_aload_n eX9_tower_78 rfl ?_
          refine am_dup (by simp) eX9_tower_79 ?_
          refine md_getI (v := m 3 0) eX9_tower_80 fX9_126 rfl (by decide) ((st_nf (by decide)).trans ((st_nf (by decide)).trans ((st_nf (by decide)).trans rfl))) ?_
          have b12 := wb3 hW 0
          refine am_iconst eX9_tower_83 ?_
          refine am_iadd eX9_tower_84 ?_
          refine md_put eX9_tower_85 fX9_126 rfl rfl (by decide) trivial ?_
          refine am_aload_n eX9_tower_88 rfl ?_
          refine md_getI (v := ((m 3 0) + 1)) eX9_tower_89 fX9_126 rfl (by decide) st_eq ?_
          refine am_iconst eX9_tower_92 ?_
          refine am_isub eX9_tower_93 ?_
          refine am_ireturn eX9_tower_94 rfl trivial (Nat.zero_le _) (Nat.zero_le _) ?_
          exact am_is_m (by first | rfl | (unfold an_tower; (try simp only [Int.toNat_zero, Int.toNat_one]); (repeat' split) <;> first | rfl | omega | (simp only [Nat.mul_zero, Nat.mul_one] at *; omega))) (by first | rfl | (unfold sp_tower; (try simp only [Int.toNat_zero, Int.toNat_one]); (repeat' split) <;> first | rfl | (exfalso; omega)))
        · refine am_iconst eX9_tower_41 ?_
          refine am_goto eX9_tower_42 ?_
          refine md_put eX9_tower_46 fX9_123 rfl rfl (by decide) trivial ?_
          refine am_aload_n eX9_tower_49 rfl ?_
          refine md_getI (v := 2) eX9_tower_50 fX9_123 rfl (by decide) st_eq ?_
          refine am_if_le ⟨by omega, by omega⟩ eX9_tower_53 (fun z => absurd z (by decide)) (fun _ => ?_)
          refine am_iconst eX9_tower_56 ?_
          refine am_ireturn eX9_tower_57 rfl trivial (Nat.zero_le _) (Nat.zero_le _) ?_
          exact am_is_m (by first | rfl | (unfold an_tower; (try simp only [Int.toNat_zero, Int.toNat_one]); (repeat' split) <;> first | rfl | omega | (simp only [Nat.mul_zero, Nat.mul_one] at *; omega))) (by first | rfl | (unfold sp_tower; (try simp only [Int.toNat_zero, Int.toNat_one]); (repeat' split) <;> first | rfl | (exfalso; omega)))
    · refine am_iconst eX9_tower_21 ?_
      refine am_goto eX9_tower_22 ?_
      refine md_put eX9_tower_46 fX9_123 rfl rfl (by decide) trivial ?_
      refine am_aload_n eX9_tower_49 rfl ?_
      refine md_getI (v := 1) eX9_tower_50 fX9_123 rfl (by decide) st_eq ?_
      refine am_if_le ⟨by omega, by omega⟩ eX9_tower_53 (fun z => absurd z (by decide)) (fun _ => ?_)
      refine am_iconst eX9_tower_56 ?_
      refine am_ireturn eX9_tower_57 rfl trivial (Nat.zero_le _) (Nat.zero_le _) ?_
      exact am_is_m (by first | rfl | (unfold an_tower; (try simp only [Int.toNat_zero, Int.toNat_one]); (repeat' split) <;> first | rfl | omega | (simp only [Nat.mul_zero, Nat.mul_one] at *; omega))) (by first | rfl | (unfold sp_tower; (try simp only [Int.toNat_zero, Int.toNat_one]); (repeat' split) <;> first | rfl | (exfalso; omega)))
set_option maxRecDepth 100000 in
set_option maxHeartbeats 4000000 in
theorem c_X9_hill {G : am_G} {m x : sg_S} {T : Int} (hW : md_wb T m) {s a b : Int} (hr_s : -2147483648 ≤ s ∧ s < 2147483648) (hr_a : -2147483648 ≤ a ∧ a < 2147483648) (hr_b : -2147483648 ≤ b ∧ b < 2147483648)   : am_Con G yX9_hill wX9_hill 3 0 0 [am_R (9, 0), am_I s, am_I a, am_I b] (en_h m x) (am_is (am_I (an_hill m s a b)) (en_h (sp_hill m s a b) x)) := by
  refine am_of2 (Y := mX9_hill) (by decide +kernel) rfl (fun z => by cases z) rfl rfl (Nat.le_of_ble_eq_true rfl) fun X => ?_
  refine am_aload_n eX9_hill_0 rfl ?_
  refine am_aload_n eX9_hill_1 rfl ?_
  refine am_iload_n eX9_hill_2 rfl ?_
  refine am_cV eX9_hill_3 kX9_137 (c_X9_isStretch (m := m) (x := x) (T := T) hW (a := s) ⟨by omega, by omega⟩) rfl rfl en_9 (by decide) (by decide) (Nat.le_of_ble_eq_true rfl) (Nat.zero_le _) (Nat.zero_le _) ?_
  have b1 := wb3 hW 0
  refine am_bz_ne eX9_hill_6 (fun c2 => ?_) (fun c2 => ?_)
  · refine am_iconst eX9_hill_13 ?_
    refine md_put eX9_hill_14 fX9_123 rfl rfl (by decide) trivial ?_
    refine am_aload_n eX9_hill_17 rfl ?_
    refine md_getI (v := 0) eX9_hill_18 fX9_123 rfl (by decide) st_eq ?_
    refine am_if_le ⟨by omega, by omega⟩ eX9_hill_21 (fun _ => ?_) (fun z => absurd z (by decide))
    refine am_aload_n eX9_hill_26 rfl ?_
    refine am_iload_n eX9_hill_27 rfl ?_
    refine am_iconst eX9_hill_28 ?_
    refine am_bipush eX9_hill_29 (by decide) ?_
    refine am_cS eX9_hill_31 kX9_129 (c_X9_in (v := a) (lo := 0) (hi := 99) ⟨by omega, by omega⟩ ⟨by omega, by omega⟩ ⟨by omega, by omega⟩) rfl rfl (by decide) (by decide) (Nat.le_of_ble_eq_true rfl) (Nat.zero_le _) (Nat.zero_le _) ?_
    refine am_bz_eq eX9_hill_34 (fun c4 => ?_) (fun c4 => ?_)
    · refine am_iconst eX9_hill_55 ?_
      refine am_goto eX9_hill_56 ?_
      refine md_put eX9_hill_74 fX9_123 rfl rfl (by decide) trivial ?_
      refine am_heq (congrArg (fun z => en_h z x) st_st) ?_
      refine am_aload_n eX9_hill_77 rfl ?_
      refine md_getI (v := 2) eX9_hill_78 fX9_123 rfl (by decide) st_eq ?_
      refine am_if_le ⟨by omega, by omega⟩ eX9_hill_81 (fun z => absurd z (by decide)) (fun _ => ?_)
      refine am_iconst eX9_hill_84 ?_
      refine am_ireturn eX9_hill_85 rfl trivial (Nat.zero_le _) (Nat.zero_le _) ?_
      exact am_is_m (by first | rfl | (unfold an_hill; (try simp only [Int.toNat_zero, Int.toNat_one]); (repeat' split) <;> first | rfl | omega | (simp only [Nat.mul_zero, Nat.mul_one] at *; omega))) (by first | rfl | (unfold sp_hill; (try simp only [Int.toNat_zero, Int.toNat_one]); (repeat' split) <;> first | rfl | (exfalso; omega)))
    · refine am_iload_n eX9_hill_37 rfl ?_
      refine am_iconst eX9_hill_38 ?_
      refine am_aload_n eX9_hill_39 rfl ?_
      refine md_getA eX9_hill_40 fX9_17 (by decide) (by decide) ?_
      refine am_iload_n eX9_hill_43 rfl ?_
      refine am_iconst eX9_hill_44 ?_
      refine am_iadd eX9_hill_45 ?_
      refine md_ald (f := 5) (j := (s.toNat + 1)) (v := m 5 (s.toNat + 1)) eX9_hill_46 (by show _ < 12; omega) rfl (by omega) ((st_nf (by decide)).trans rfl) ?_
      have b6 := wb5 hW (s.toNat + 1)
      refine am_iconst eX9_hill_47 ?_
      refine am_isub eX9_hill_48 ?_
      refine am_cS eX9_hill_49 kX9_129 (c_X9_in (v := b) (lo := 1) (hi := ((m 5 (s.toNat + 1)) - 1)) ⟨by omega, by omega⟩ ⟨by omega, by omega⟩ ⟨by omega, by omega⟩) rfl rfl (by decide) (by decide) (Nat.le_of_ble_eq_true rfl) (Nat.zero_le _) (Nat.zero_le _) ?_
      refine am_bz_ne eX9_hill_52 (fun c7 => ?_) (fun c7 => ?_)
      · refine am_aload_n eX9_hill_59 rfl ?_
        refine md_getA eX9_hill_60 fX9_26 (by decide) (by decide) ?_
        refine am_iload_n eX9_hill_63 rfl ?_
        refine md_ald (f := 8) (j := s.toNat) (v := m 8 s.toNat) eX9_hill_64 (by show _ < 12; omega) rfl (by omega) ((st_nf (by decide)).trans rfl) ?_
        have b8 := wb8 hW s.toNat
        refine am_iconst eX9_hill_65 ?_
        refine am_icmp_ne ⟨by omega, by omega⟩ ⟨by omega, by omega⟩ eX9_hill_66 (fun c9 => ?_) (fun c9 => ?_)
        · refine am_iconst eX9_hill_73 ?_
          refine md_put eX9_hill_74 fX9_123 rfl rfl (by decide) trivial ?_
          refine am_heq (congrArg (fun z => en_h z x) st_st) ?_
          refine am_aload_n eX9_hill_77 rfl ?_
          refine md_getI (v := 0) eX9_hill_78 fX9_123 rfl (by decide) st_eq ?_
          refine am_if_le ⟨by omega, by omega⟩ eX9_hill_81 (fun _ => ?_) (fun z => absurd z (by decide))
          refine am_aload_n eX9_hill_86 rfl ?_
          refine md_getA eX9_hill_87 fX9_29 (by decide) (by decide) ?_
          refine am_iconst eX9_hill_90 ?_
          refine am_iload_n eX9_hill_91 rfl ?_
          refine am_imul eX9_hill_92 ?_
          refine am_aload_n eX9_hill_93 rfl ?_
          refine md_getA eX9_hill_94 fX9_26 (by decide) (by decide) ?_
          refine am_iload_n eX9_hill_97 rfl ?_
          refine md_ald (f := 8) (j := s.toNat) (v := m 8 s.toNat) eX9_hill_98 (by show _ < 12; omega) rfl (by omega) ((st_nf (by decide)).trans rfl) ?_
          have b11 := wb8 hW s.toNat
          refine am_iadd eX9_hill_99 ?_
          refine am_iload_n eX9_hill_100 rfl ?_
          refine md_ast (f := 9) (j := ((3 * s.toNat) + (m 8 s.toNat).toNat)) eX9_hill_101 (by show _ < 36; omega) rfl (by omega) ?_
          refine am_aload_n eX9_hill_102 rfl ?_
          refine md_getA eX9_hill_103 fX9_32 (by decide) (by decide) ?_
          refine am_iconst eX9_hill_106 ?_
          refine am_iload_n eX9_hill_107 rfl ?_
          refine am_imul eX9_hill_108 ?_
          refine am_aload_n eX9_hill_109 rfl ?_
          refine md_getA eX9_hill_110 fX9_26 (by decide) (by decide) ?_
          refine am_iload_n eX9_hill_113 rfl ?_
          refine md_ald (f := 8) (j := s.toNat) (v := m 8 s.toNat) eX9_hill_114 (by show _ < 12; omega) rfl (by omega) ((st_nf (by decide)).trans ((st_nf (by decide)).trans rfl)) ?_
          have b12 := wb8 hW s.toNat
          refine am_iadd eX9_hill_115 ?_
          refine am_iload_n eX9_hill_116 rfl ?_
          refine md_ast (f := 10) (j := ((3 * s.toNat) + (m 8 s.toNat).toNat)) eX9_hill_117 (by show _ < 36; omega) rfl (by omega) ?_
          refine am_aload_n eX9_hill_118 rfl ?_
          refine md_getA eX9_hill_119 fX9_26 (by decide) (by decide) ?_
          refine am_iload_n eX9_hill_122 rfl ?_
          refine am_dup2 eX9_hill_123 ?_
          refine md_ald (f := 8) (j := s.toNat) (v := m 8 s.toNat) eX9_hill_124 (by show _ < 12; omega) rfl (by omega) ((st_nf (by decide)).trans ((st_nf (by decide)).trans ((st_nf (by decide)).trans rfl))) ?_
          have b13 := wb8 hW s.toNat
          refine am_iconst eX9_hill_125 ?_
          refine am_iadd eX9_hill_126 ?_
          refine md_ast (f := 8) (j := s.toNat) eX9_hill_127 (by show _ < 12; omega) rfl (by omega) ?_
          refine am_aload_n eX9_hill_128 rfl ?_
          refine md_getA eX9_hill_129 fX9_26 (by decide) (by decide) ?_
          refine am_iload_n eX9_hill_132 rfl ?_
          refine md_ald (f := 8) (j := s.toNat) (v := ((m 8 s.toNat) + 1)) eX9_hill_133 (by show _ < 12; omega) rfl (by omega) st_eq ?_
          refine am_ireturn eX9_hill_134 rfl trivial (Nat.zero_le _) (Nat.zero_le _) ?_
          exact am_is_m (by first | rfl | (unfold an_hill; (try simp only [Int.toNat_zero, Int.toNat_one]); (repeat' split) <;> first | rfl | omega | (simp only [Nat.mul_zero, Nat.mul_one] at *; omega))) (by first | rfl | (unfold sp_hill; (try simp only [Int.toNat_zero, Int.toNat_one]); (repeat' split) <;> first | rfl | (exfalso; omega)))
        · refine am_iconst eX9_hill_69 ?_
          refine am_goto eX9_hill_70 ?_
          refine md_put eX9_hill_74 fX9_123 rfl rfl (by decide) trivial ?_
          refine am_heq (congrArg (fun z => en_h z x) st_st) ?_
          refine am_aload_n eX9_hill_77 rfl ?_
          refine md_getI (v := 3) eX9_hill_78 fX9_123 rfl (by decide) st_eq ?_
          refine am_if_le ⟨by omega, by omega⟩ eX9_hill_81 (fun z => absurd z (by decide)) (fun _ => ?_)
          refine am_iconst eX9_hill_84 ?_
          refine am_ireturn eX9_hill_85 rfl trivial (Nat.zero_le _) (Nat.zero_le _) ?_
          exact am_is_m (by first | rfl | (unfold an_hill; (try simp only [Int.toNat_zero, Int.toNat_one]); (repeat' split) <;> first | rfl | omega | (simp only [Nat.mul_zero, Nat.mul_one] at *; omega))) (by first | rfl | (unfold sp_hill; (try simp only [Int.toNat_zero, Int.toNat_one]); (repeat' split) <;> first | rfl | (exfalso; omega)))
      · refine am_iconst eX9_hill_55 ?_
        refine am_goto eX9_hill_56 ?_
        refine md_put eX9_hill_74 fX9_123 rfl rfl (by decide) trivial ?_
        refine am_heq (congrArg (fun z => en_h z x) st_st) ?_
        refine am_aload_n eX9_hill_77 rfl ?_
        refine md_getI (v := 2) eX9_hill_78 fX9_123 rfl (by decide) st_eq ?_
        refine am_if_le ⟨by omega, by omega⟩ eX9_hill_81 (fun z => absurd z (by decide)) (fun _ => ?_)
        refine am_iconst eX9_hill_84 ?_
        refine am_ireturn eX9_hill_85 rfl trivial (Nat.zero_le _) (Nat.zero_le _) ?_
        exact am_is_m (by first | rfl | (unfold an_hill; (try simp only [Int.toNat_zero, Int.toNat_one]); (repeat' split) <;> first | rfl | omega | (simp only [Nat.mul_zero, Nat.mul_one] at *; omega))) (by first | rfl | (unfold sp_hill; (try simp only [Int.toNat_zero, Int.toNat_one]); (repeat' split) <;> first | rfl | (exfalso; omega)))
  · refine am_iconst eX9_hill_9 ?_
    refine am_goto eX9_hill_10 ?_
    refine md_put eX9_hill_14 fX9_123 rfl rfl (by decide) trivial ?_
    refine am_aload_n eX9_hill_17 rfl ?_
    refine md_getI (v := 1) eX9_hill_18 fX9_123 rfl (by decide) st_eq ?_
    refine am_if_le ⟨by omega, by omega⟩ eX9_hill_21 (fun z => absurd z (by decide)) (fun _ => ?_)
    refine am_iconst eX9_hill_24 ?_
    refine am_ireturn eX9_hill_25 rfl trivial (Nat.zero_le _) (Nat.zero_le _) ?_
    exact am_is_m (by first | rfl | (unfold an_hill; (try simp only [Int.toNat_zero, Int.toNat_one]); (repeat' split) <;> first | rfl | omega | (simp only [Nat.mul_zero, Nat.mul_one] at *; omega))) (by first | rfl | (unfold sp_hill; (try simp only [Int.toNat_zero, Int.toNat_one]); (repeat' split) <;> first | rfl | (exfalso; omega)))
set_option maxRecDepth 100000 in
set_option maxHeartbeats 4000000 in
theorem c_X9_air {G : am_G} {m x : sg_S} {T : Int} (hW : md_wb T m) {s a : Int} (hr_s : -2147483648 ≤ s ∧ s < 2147483648) (hr_a : -2147483648 ≤ a ∧ a < 2147483648)   : am_Con G yX9_air wX9_air 3 0 0 [am_R (9, 0), am_I s, am_I a] (en_h m x) (am_is (am_I (an_air m s a)) (en_h (sp_air m s a) x)) := by
  refine am_of2 (Y := mX9_air) (by decide +kernel) rfl (fun z => by cases z) rfl rfl (Nat.le_of_ble_eq_true rfl) fun X => ?_
  refine am_aload_n eX9_air_0 rfl ?_
  refine am_aload_n eX9_air_1 rfl ?_
  refine am_iload_n eX9_air_2 rfl ?_
  refine am_cV eX9_air_3 kX9_137 (c_X9_isStretch (m := m) (x := x) (T := T) hW (a := s) ⟨by omega, by omega⟩) rfl rfl en_9 (by decide) (by decide) (Nat.le_of_ble_eq_true rfl) (Nat.zero_le _) (Nat.zero_le _) ?_
  have b1 := wb3 hW 0
  refine am_bz_ne eX9_air_6 (fun c2 => ?_) (fun c2 => ?_)
  · refine am_iload_n eX9_air_13 rfl ?_
    refine am_iconst eX9_air_14 ?_
    refine am_iconst eX9_air_15 ?_
    refine am_cS eX9_air_16 kX9_129 (c_X9_in (v := a) (lo := 0) (hi := 2) ⟨by omega, by omega⟩ ⟨by omega, by omega⟩ ⟨by omega, by omega⟩) rfl rfl (by decide) (by decide) (Nat.le_of_ble_eq_true rfl) (Nat.zero_le _) (Nat.zero_le _) ?_
    refine am_bz_eq eX9_air_19 (fun c3 => ?_) (fun c3 => ?_)
    · refine am_iconst eX9_air_26 ?_
      refine md_put eX9_air_27 fX9_123 rfl rfl (by decide) trivial ?_
      refine am_aload_n eX9_air_30 rfl ?_
      refine md_getI (v := 2) eX9_air_31 fX9_123 rfl (by decide) st_eq ?_
      refine am_if_le ⟨by omega, by omega⟩ eX9_air_34 (fun z => absurd z (by decide)) (fun _ => ?_)
      refine am_iconst eX9_air_37 ?_
      refine am_ireturn eX9_air_38 rfl trivial (Nat.zero_le _) (Nat.zero_le _) ?_
      exact am_is_m (by first | rfl | (unfold an_air; (try simp only [Int.toNat_zero, Int.toNat_one]); (repeat' split) <;> first | rfl | omega | (simp only [Nat.mul_zero, Nat.mul_one] at *; omega))) (by first | rfl | (unfold sp_air; (try simp only [Int.toNat_zero, Int.toNat_one]); (repeat' split) <;> first | rfl | (exfalso; omega)))
    · refine am_iconst eX9_air_22 ?_
      refine am_goto eX9_air_23 ?_
      refine md_put eX9_air_27 fX9_123 rfl rfl (by decide) trivial ?_
      refine am_aload_n eX9_air_30 rfl ?_
      refine md_getI (v := 0) eX9_air_31 fX9_123 rfl (by decide) st_eq ?_
      refine am_if_le ⟨by omega, by omega⟩ eX9_air_34 (fun _ => ?_) (fun z => absurd z (by decide))
      refine am_aload_n eX9_air_39 rfl ?_
      refine md_getA eX9_air_40 fX9_23 (by decide) (by decide) ?_
      refine am_iload_n eX9_air_43 rfl ?_
      refine md_ald (f := 7) (j := s.toNat) (v := m 7 s.toNat) eX9_air_44 (by show _ < 12; omega) rfl (by omega) ((st_nf (by decide)).trans rfl) ?_
      have b6 := wb7 hW s.toNat
      refine am_istore_n eX9_air_45 (by decide) ?_
      refine am_aload_n eX9_air_46 rfl ?_
      refine md_getA eX9_air_47 fX9_23 (by decide) (by decide) ?_
      refine am_iload_n eX9_air_50 rfl ?_
      refine am_iload_n eX9_air_51 rfl ?_
      refine md_ast (f := 7) (j := s.toNat) eX9_air_52 (by show _ < 12; omega) rfl (by omega) ?_
      refine am_iload_n eX9_air_53 rfl ?_
      refine am_ireturn eX9_air_54 rfl trivial (Nat.zero_le _) (Nat.zero_le _) ?_
      exact am_is_m (by first | rfl | (unfold an_air; (try simp only [Int.toNat_zero, Int.toNat_one]); (repeat' split) <;> first | rfl | omega | (simp only [Nat.mul_zero, Nat.mul_one] at *; omega))) (by first | rfl | (unfold sp_air; (try simp only [Int.toNat_zero, Int.toNat_one]); (repeat' split) <;> first | rfl | (exfalso; omega)))
  · refine am_iconst eX9_air_9 ?_
    refine am_goto eX9_air_10 ?_
    refine md_put eX9_air_27 fX9_123 rfl rfl (by decide) trivial ?_
    refine am_aload_n eX9_air_30 rfl ?_
    refine md_getI (v := 1) eX9_air_31 fX9_123 rfl (by decide) st_eq ?_
    refine am_if_le ⟨by omega, by omega⟩ eX9_air_34 (fun z => absurd z (by decide)) (fun _ => ?_)
    refine am_iconst eX9_air_37 ?_
    refine am_ireturn eX9_air_38 rfl trivial (Nat.zero_le _) (Nat.zero_le _) ?_
    exact am_is_m (by first | rfl | (unfold an_air; (try simp only [Int.toNat_zero, Int.toNat_one]); (repeat' split) <;> first | rfl | omega | (simp only [Nat.mul_zero, Nat.mul_one] at *; omega))) (by first | rfl | (unfold sp_air; (try simp only [Int.toNat_zero, Int.toNat_one]); (repeat' split) <;> first | rfl | (exfalso; omega)))
set_option maxRecDepth 100000 in
set_option maxHeartbeats 4000000 in
theorem c_X9_tire {G : am_G} {m x : sg_S} {T : Int} (hW : md_wb T m) {t a : Int} (hr_t : -2147483648 ≤ t ∧ t < 2147483648) (hr_a : -2147483648 ≤ a ∧ a < 2147483648)   : am_Con G yX9_tire wX9_tire 3 0 0 [am_R (9, 0), am_I t, am_I a] (en_h m x) (am_is (am_I (an_tire m t a)) (en_h (sp_tire m t a) x)) := by
  refine am_of2 (Y := mX9_tire) (by decide +kernel) rfl (fun z => by cases z) rfl rfl (Nat.le_of_ble_eq_true rfl) fun X => ?_
  refine am_aload_n eX9_tire_0 rfl ?_
  refine am_aload_n eX9_tire_1 rfl ?_
  refine am_iload_n eX9_tire_2 rfl ?_
  refine am_cV eX9_tire_3 kX9_141 (c_X9_isTower (m := m) (x := x) (T := T) hW (a := t) ⟨by omega, by omega⟩) rfl rfl en_9 (by decide) (by decide) (Nat.le_of_ble_eq_true rfl) (Nat.zero_le _) (Nat.zero_le _) ?_
  have b1 := wb3 hW 0
  refine am_bz_ne eX9_tire_6 (fun c2 => ?_) (fun c2 => ?_)
  · refine am_iload_n eX9_tire_13 rfl ?_
    refine am_iconst eX9_tire_14 ?_
    refine am_sipush eX9_tire_15 (by decide) ?_
    refine am_cS eX9_tire_18 kX9_129 (c_X9_in (v := a) (lo := 0) (hi := 1009) ⟨by omega, by omega⟩ ⟨by omega, by omega⟩ ⟨by omega, by omega⟩) rfl rfl (by decide) (by decide) (Nat.le_of_ble_eq_true rfl) (Nat.zero_le _) (Nat.zero_le _) ?_
    refine am_bz_eq eX9_tire_21 (fun c3 => ?_) (fun c3 => ?_)
    · refine am_iconst eX9_tire_28 ?_
      refine md_put eX9_tire_29 fX9_123 rfl rfl (by decide) trivial ?_
      refine am_aload_n eX9_tire_32 rfl ?_
      refine md_getI (v := 2) eX9_tire_33 fX9_123 rfl (by decide) st_eq ?_
      refine am_if_le ⟨by omega, by omega⟩ eX9_tire_36 (fun z => absurd z (by decide)) (fun _ => ?_)
      refine am_iconst eX9_tire_39 ?_
      refine am_ireturn eX9_tire_40 rfl trivial (Nat.zero_le _) (Nat.zero_le _) ?_
      exact am_is_m (by first | rfl | (unfold an_tire; (try simp only [Int.toNat_zero, Int.toNat_one]); (repeat' split) <;> first | rfl | omega | (simp only [Nat.mul_zero, Nat.mul_one] at *; omega))) (by first | rfl | (unfold sp_tire; (try simp only [Int.toNat_zero, Int.toNat_one]); (repeat' split) <;> first | rfl | (exfalso; omega)))
    · refine am_iconst eX9_tire_24 ?_
      refine am_goto eX9_tire_25 ?_
      refine md_put eX9_tire_29 fX9_123 rfl rfl (by decide) trivial ?_
      refine am_aload_n eX9_tire_32 rfl ?_
      refine md_getI (v := 0) eX9_tire_33 fX9_123 rfl (by decide) st_eq ?_
      refine am_if_le ⟨by omega, by omega⟩ eX9_tire_36 (fun _ => ?_) (fun z => absurd z (by decide))
      refine am_aload_n eX9_tire_41 rfl ?_
      refine md_getA eX9_tire_42 fX9_20 (by decide) (by decide) ?_
      refine am_iload_n eX9_tire_45 rfl ?_
      refine md_ald (f := 6) (j := t.toNat) (v := m 6 t.toNat) eX9_tire_46 (by show _ < 12; omega) rfl (by omega) ((st_nf (by decide)).trans rfl) ?_
      have b6 := wb6 hW t.toNat
      refine am_istore_n eX9_tire_47 (by decide) ?_
      refine am_aload_n eX9_tire_48 rfl ?_
      refine md_getA eX9_tire_49 fX9_20 (by decide) (by decide) ?_
      refine am_iload_n eX9_tire_52 rfl ?_
      refine am_iload_n eX9_tire_53 rfl ?_
      refine md_ast (f := 6) (j := t.toNat) eX9_tire_54 (by show _ < 12; omega) rfl (by omega) ?_
      refine am_iload_n eX9_tire_55 rfl ?_
      refine am_ireturn eX9_tire_56 rfl trivial (Nat.zero_le _) (Nat.zero_le _) ?_
      exact am_is_m (by first | rfl | (unfold an_tire; (try simp only [Int.toNat_zero, Int.toNat_one]); (repeat' split) <;> first | rfl | omega | (simp only [Nat.mul_zero, Nat.mul_one] at *; omega))) (by first | rfl | (unfold sp_tire; (try simp only [Int.toNat_zero, Int.toNat_one]); (repeat' split) <;> first | rfl | (exfalso; omega)))
  · refine am_iconst eX9_tire_9 ?_
    refine am_goto eX9_tire_10 ?_
    refine md_put eX9_tire_29 fX9_123 rfl rfl (by decide) trivial ?_
    refine am_aload_n eX9_tire_32 rfl ?_
    refine md_getI (v := 1) eX9_tire_33 fX9_123 rfl (by decide) st_eq ?_
    refine am_if_le ⟨by omega, by omega⟩ eX9_tire_36 (fun z => absurd z (by decide)) (fun _ => ?_)
    refine am_iconst eX9_tire_39 ?_
    refine am_ireturn eX9_tire_40 rfl trivial (Nat.zero_le _) (Nat.zero_le _) ?_
    exact am_is_m (by first | rfl | (unfold an_tire; (try simp only [Int.toNat_zero, Int.toNat_one]); (repeat' split) <;> first | rfl | omega | (simp only [Nat.mul_zero, Nat.mul_one] at *; omega))) (by first | rfl | (unfold sp_tire; (try simp only [Int.toNat_zero, Int.toNat_one]); (repeat' split) <;> first | rfl | (exfalso; omega)))
set_option maxRecDepth 100000 in
set_option maxHeartbeats 4000000 in
theorem c_X9_seed {G : am_G} {m x : sg_S} {T : Int} (hW : md_wb T m) {a : Int} (hr_a : -2147483648 ≤ a ∧ a < 2147483648)   : am_Con G yX9_seed wX9_seed 2 0 0 [am_R (9, 0), am_I a] (en_h m x) (am_is (am_I (an_seed m a)) (en_h (sp_seed m a) x)) := by
  refine am_of2 (Y := mX9_seed) (by decide +kernel) rfl (fun z => by cases z) rfl rfl (Nat.le_of_ble_eq_true rfl) fun X => ?_
  refine am_aload_n eX9_seed_0 rfl ?_
  refine am_iload_n eX9_seed_1 rfl ?_
  refine am_iconst eX9_seed_2 ?_
  refine am_sipush eX9_seed_3 (by decide) ?_
  refine am_cS eX9_seed_6 kX9_129 (c_X9_in (v := a) (lo := 0) (hi := 9999) ⟨by omega, by omega⟩ ⟨by omega, by omega⟩ ⟨by omega, by omega⟩) rfl rfl (by decide) (by decide) (Nat.le_of_ble_eq_true rfl) (Nat.zero_le _) (Nat.zero_le _) ?_
  refine am_bz_eq eX9_seed_9 (fun c1 => ?_) (fun c1 => ?_)
  · refine am_iconst eX9_seed_16 ?_
    refine md_put eX9_seed_17 fX9_123 rfl rfl (by decide) trivial ?_
    refine am_aload_n eX9_seed_20 rfl ?_
    refine md_getI (v := 1) eX9_seed_21 fX9_123 rfl (by decide) st_eq ?_
    refine am_if_le ⟨by omega, by omega⟩ eX9_seed_24 (fun z => absurd z (by decide)) (fun _ => ?_)
    refine am_iconst eX9_seed_27 ?_
    refine am_ireturn eX9_seed_28 rfl trivial (Nat.zero_le _) (Nat.zero_le _) ?_
    exact am_is_m (by first | rfl | (unfold an_seed; (try simp only [Int.toNat_zero, Int.toNat_one]); (repeat' split) <;> first | rfl | omega | (simp only [Nat.mul_zero, Nat.mul_one] at *; omega))) (by first | rfl | (unfold sp_seed; (try simp only [Int.toNat_zero, Int.toNat_one]); (repeat' split) <;> first | rfl | (exfalso; omega)))
  · refine am_iconst eX9_seed_12 ?_
    refine am_goto eX9_seed_13 ?_
    refine md_put eX9_seed_17 fX9_123 rfl rfl (by decide) trivial ?_
    refine am_aload_n eX9_seed_20 rfl ?_
    refine md_getI (v := 0) eX9_seed_21 fX9_123 rfl (by decide) st_eq ?_
    refine am_if_le ⟨by omega, by omega⟩ eX9_seed_24 (fun _ => ?_) (fun z => absurd z (by decide))
    refine am_aload_n eX9_seed_29 rfl ?_
    refine md_getI (v := m 11 0) eX9_seed_30 fX9_144 rfl (by decide) ((st_nf (by decide)).trans rfl) ?_
    have b4 := wb11 hW 0
    refine am_istore_n eX9_seed_33 (by decide) ?_
    refine am_aload_n eX9_seed_34 rfl ?_
    refine am_iload_n eX9_seed_35 rfl ?_
    refine md_put eX9_seed_36 fX9_144 rfl rfl (by decide) trivial ?_
    refine am_iload_n eX9_seed_39 rfl ?_
    refine am_ireturn eX9_seed_40 rfl trivial (Nat.zero_le _) (Nat.zero_le _) ?_
    exact am_is_m (by first | rfl | (unfold an_seed; (try simp only [Int.toNat_zero, Int.toNat_one]); (repeat' split) <;> first | rfl | omega | (simp only [Nat.mul_zero, Nat.mul_one] at *; omega))) (by first | rfl | (unfold sp_seed; (try simp only [Int.toNat_zero, Int.toNat_one]); (repeat' split) <;> first | rfl | (exfalso; omega)))
set_option maxRecDepth 100000 in
set_option maxHeartbeats 4000000 in
theorem c_X9_isDay {G : am_G} {m x : sg_S} {T : Int} (hW : md_wb T m) : am_Con G yX9_isDay wX9_isDay 2 0 0 [am_R (9, 0)] (en_h m x) (am_is (am_I (bz (decide (360 ≤ m 1 0 % 1440 ∧ m 1 0 % 1440 ≤ 1079)))) (en_h m x)) := by
  refine am_of2 (Y := mX9_isDay) (by decide +kernel) rfl (fun z => by cases z) rfl rfl (Nat.le_of_ble_eq_true rfl) fun X => ?_
  refine am_aload_n eX9_isDay_0 rfl ?_
  refine md_getI (v := m 1 0) eX9_isDay_1 fX9_7 rfl (by decide) rfl ?_
  have b1 := wb1 hW 0
  refine am_sipush eX9_isDay_4 (by decide) ?_
  refine am_irem ⟨by omega, by omega⟩ (by omega) ⟨by omega, by omega⟩ (by omega) eX9_isDay_7 ?_
  refine am_sipush eX9_isDay_8 (by decide) ?_
  refine am_sipush eX9_isDay_11 (by decide) ?_
  refine am_cS eX9_isDay_14 kX9_129 (c_X9_in (v := ((m 1 0) % 1440)) (lo := 360) (hi := 1079) ⟨by omega, by omega⟩ ⟨by omega, by omega⟩ ⟨by omega, by omega⟩) rfl rfl (by decide) (by decide) (Nat.le_of_ble_eq_true rfl) (Nat.zero_le _) (Nat.zero_le _) ?_
  refine am_ireturn eX9_isDay_17 rfl (bz_01 _) (Nat.zero_le _) (Nat.zero_le _) ?_
  exact am_is_I rfl rfl
set_option maxRecDepth 100000 in
set_option maxHeartbeats 4000000 in
theorem c_X9_down {G : am_G} {h : am_AH} {a b : Int} (h1 : -100000 ≤ a ∧ a ≤ 100000) (h2 : 1 ≤ b ∧ b ≤ 1000) : am_Con G yX9_down wX9_down 1 0 0 [am_I a, am_I b] h (am_is (am_I (a / b)) h) := by
  refine am_of2 (Y := mX9_down) (by decide +kernel) rfl (fun z => by cases z) rfl rfl (Nat.le_of_ble_eq_true rfl) fun X => ?_
  refine am_iload_n eX9_down_0 rfl ?_
  refine am_if_lt ⟨by omega, by omega⟩ eX9_down_1 (fun c1 => ?_) (fun c1 => ?_)
  · refine am_iload_n eX9_down_10 rfl ?_
    refine am_ineg eX9_down_11 ?_
    refine am_iload_n eX9_down_12 rfl ?_
    refine am_iadd eX9_down_13 ?_
    refine am_iconst eX9_down_14 ?_
    refine am_isub eX9_down_15 ?_
    refine am_iload_n eX9_down_16 rfl ?_
    refine am_idiv ⟨by omega, by omega⟩ (by omega) ⟨by omega, by omega⟩ (by omega) eX9_down_17 ?_
    refine am_ineg eX9_down_18 ?_
    refine am_ireturn eX9_down_19 rfl trivial (Nat.zero_le _) (Nat.zero_le _) ?_
    exact am_is_I (md_down (by omega) (by omega)) rfl
  · refine am_iload_n eX9_down_4 rfl ?_
    refine am_iload_n eX9_down_5 rfl ?_
    refine am_idiv ⟨by omega, by omega⟩ (by omega) ⟨by omega, by omega⟩ (by omega) eX9_down_6 ?_
    refine am_goto eX9_down_7 ?_
    refine am_ireturn eX9_down_19 rfl trivial (Nat.zero_le _) (Nat.zero_le _) ?_
    exact am_is_rf
set_option maxRecDepth 100000 in
set_option maxHeartbeats 4000000 in
theorem c_X9_type {G : am_G} {m x : sg_S} {T : Int} (hW : md_wb T m) {a : Int} (hr_a : -2147483648 ≤ a ∧ a < 2147483648)   : am_Con G yX9_type wX9_type 2 0 0 [am_R (9, 0), am_I a] (en_h m x) (am_is (am_I (an_type m a)) (en_h (sp_type m a) x)) := by
  refine am_of2 (Y := mX9_type) (by decide +kernel) rfl (fun z => by cases z) rfl rfl (Nat.le_of_ble_eq_true rfl) fun X => ?_
  refine am_aload_n eX9_type_0 rfl ?_
  refine am_iload_n eX9_type_1 rfl ?_
  refine am_iconst eX9_type_2 ?_
  refine am_sipush eX9_type_3 (by decide) ?_
  refine am_cS eX9_type_6 kX9_129 (c_X9_in (v := a) (lo := 0) (hi := 9999) ⟨by omega, by omega⟩ ⟨by omega, by omega⟩ ⟨by omega, by omega⟩) rfl rfl (by decide) (by decide) (Nat.le_of_ble_eq_true rfl) (Nat.zero_le _) (Nat.zero_le _) ?_
  refine am_bz_ne eX9_type_9 (fun c1 => ?_) (fun c1 => ?_)
  · refine am_aload_n eX9_type_16 rfl ?_
    refine md_getI (v := m 24 0) eX9_type_17 fX9_161 rfl (by decide) rfl ?_
    have b2 := wb24 hW 0
    refine am_bipush eX9_type_20 (by decide) ?_
    refine am_icmp_ne ⟨by omega, by omega⟩ ⟨by omega, by omega⟩ eX9_type_22 (fun c3 => ?_) (fun c3 => ?_)
    · refine am_iconst eX9_type_29 ?_
      refine md_put eX9_type_30 fX9_123 rfl rfl (by decide) trivial ?_
      refine am_aload_n eX9_type_33 rfl ?_
      refine md_getI (v := 0) eX9_type_34 fX9_123 rfl (by decide) st_eq ?_
      refine am_if_le ⟨by omega, by omega⟩ eX9_type_37 (fun _ => ?_) (fun z => absurd z (by decide))
      refine am_aload_n eX9_type_42 rfl ?_
      refine md_getA eX9_type_43 fX9_72 (by decide) (by decide) ?_
      refine am_aload_n eX9_type_46 rfl ?_
      refine md_getI (v := m 24 0) eX9_type_47 fX9_161 rfl (by decide) ((st_nf (by decide)).trans rfl) ?_
      have b5 := wb24 hW 0
      refine am_iload_n eX9_type_50 rfl ?_
      refine md_ast (f := 25) (j := (m 24 0).toNat) eX9_type_51 (by show _ < 12; omega) rfl (by omega) ?_
      refine am_aload_n eX9_type_52 rfl ?_
      refine am_dup (by simp) eX9_type_53 ?_
      refine md_getI (v := m 24 0) eX9_type_54 fX9_161 rfl (by decide) ((st_nf (by decide)).trans ((st_nf (by decide)).trans rfl)) ?_
      have b6 := wb24 hW 0
      refine am_iconst eX9_type_57 ?_
      refine am_iadd eX9_type_58 ?_
      refine md_put eX9_type_59 fX9_161 rfl rfl (by decide) trivial ?_
      refine am_aload_n eX9_type_62 rfl ?_
      refine md_getI (v := ((m 24 0) + 1)) eX9_type_63 fX9_161 rfl (by decide) st_eq ?_
      refine am_ireturn eX9_type_66 rfl trivial (Nat.zero_le _) (Nat.zero_le _) ?_
      exact am_is_m (by first | rfl | (unfold an_type; (try simp only [Int.toNat_zero, Int.toNat_one]); (repeat' split) <;> first | rfl | omega | (simp only [Nat.mul_zero, Nat.mul_one] at *; omega))) (by first | rfl | (unfold sp_type; (try simp only [Int.toNat_zero, Int.toNat_one]); (repeat' split) <;> first | rfl | (exfalso; omega)))
    · refine am_iconst eX9_type_25 ?_
      refine am_goto eX9_type_26 ?_
      refine md_put eX9_type_30 fX9_123 rfl rfl (by decide) trivial ?_
      refine am_aload_n eX9_type_33 rfl ?_
      refine md_getI (v := 2) eX9_type_34 fX9_123 rfl (by decide) st_eq ?_
      refine am_if_le ⟨by omega, by omega⟩ eX9_type_37 (fun z => absurd z (by decide)) (fun _ => ?_)
      refine am_iconst eX9_type_40 ?_
      refine am_ireturn eX9_type_41 rfl trivial (Nat.zero_le _) (Nat.zero_le _) ?_
      exact am_is_m (by first | rfl | (unfold an_type; (try simp only [Int.toNat_zero, Int.toNat_one]); (repeat' split) <;> first | rfl | omega | (simp only [Nat.mul_zero, Nat.mul_one] at *; omega))) (by first | rfl | (unfold sp_type; (try simp only [Int.toNat_zero, Int.toNat_one]); (repeat' split) <;> first | rfl | (exfalso; omega)))
  · refine am_iconst eX9_type_12 ?_
    refine am_goto eX9_type_13 ?_
    refine md_put eX9_type_30 fX9_123 rfl rfl (by decide) trivial ?_
    refine am_aload_n eX9_type_33 rfl ?_
    refine md_getI (v := 1) eX9_type_34 fX9_123 rfl (by decide) st_eq ?_
    refine am_if_le ⟨by omega, by omega⟩ eX9_type_37 (fun z => absurd z (by decide)) (fun _ => ?_)
    refine am_iconst eX9_type_40 ?_
    refine am_ireturn eX9_type_41 rfl trivial (Nat.zero_le _) (Nat.zero_le _) ?_
    exact am_is_m (by first | rfl | (unfold an_type; (try simp only [Int.toNat_zero, Int.toNat_one]); (repeat' split) <;> first | rfl | omega | (simp only [Nat.mul_zero, Nat.mul_one] at *; omega))) (by first | rfl | (unfold sp_type; (try simp only [Int.toNat_zero, Int.toNat_one]); (repeat' split) <;> first | rfl | (exfalso; omega)))
set_option maxRecDepth 100000 in
set_option maxHeartbeats 4000000 in
theorem c_X9_clear {G : am_G} {m x : sg_S} {T : Int} (hW : md_wb T m)    : am_Con G yX9_clear wX9_clear 1 0 0 [am_R (9, 0)] (en_h m x) (am_is (am_I (an_clear m )) (en_h (sp_clear m ) x)) := by
  refine am_of2 (Y := mX9_clear) (by decide +kernel) rfl (fun z => by cases z) rfl rfl (Nat.le_of_ble_eq_true rfl) fun X => ?_
  refine am_aload_n eX9_clear_0 rfl ?_
  refine am_iconst eX9_clear_1 ?_
  refine md_put eX9_clear_2 fX9_123 rfl rfl (by decide) trivial ?_
  refine am_aload_n eX9_clear_5 rfl ?_
  refine md_getI (v := m 24 0) eX9_clear_6 fX9_161 rfl (by decide) ((st_nf (by decide)).trans rfl) ?_
  have b1 := wb24 hW 0
  refine am_istore_n eX9_clear_9 (by decide) ?_
  refine am_aload_n eX9_clear_10 rfl ?_
  refine am_iconst eX9_clear_11 ?_
  refine md_put eX9_clear_12 fX9_161 rfl rfl (by decide) trivial ?_
  refine am_iload_n eX9_clear_15 rfl ?_
  refine am_ireturn eX9_clear_16 rfl trivial (Nat.zero_le _) (Nat.zero_le _) ?_
  exact am_is_m (by first | rfl | (unfold an_clear; (try simp only [Int.toNat_zero, Int.toNat_one]); (repeat' split) <;> first | rfl | omega | (simp only [Nat.mul_zero, Nat.mul_one] at *; omega))) (by first | rfl | (unfold sp_clear; (try simp only [Int.toNat_zero, Int.toNat_one]); (repeat' split) <;> first | rfl | (exfalso; omega)))
set_option maxRecDepth 100000 in
set_option maxHeartbeats 4000000 in
theorem c_X9_writes {G : am_G} {m x : sg_S} {T : Int} (hW : md_wb T m) {w sg ow : Int} (h1 : 0 ≤ w ∧ w < 24) (hr_sg : -2147483648 ≤ sg ∧ sg < 2147483648) (hb_ow : ow = 0 ∨ ow = 1) : am_Con G yX9_writes wX9_writes 1 0 0 [am_R (9, 0), am_I w, am_I sg, am_I ow] (en_h m x) (am_vd (en_h (sp_writes m w sg ow) x)) := by
  refine am_of2 (Y := mX9_writes) (by decide +kernel) rfl (fun z => by cases z) rfl rfl (Nat.le_of_ble_eq_true rfl) fun X => ?_
  refine am_aload_n eX9_writes_0 rfl ?_
  refine md_getA eX9_writes_1 fX9_51 (by decide) (by decide) ?_
  refine am_iload_n eX9_writes_4 rfl ?_
  refine md_ald (f := 17) (j := w.toNat) (v := m 17 w.toNat) eX9_writes_5 (by show _ < 24; omega) rfl (by omega) rfl ?_
  have b1 := wb17 hW w.toNat
  refine am_sipush eX9_writes_6 (by decide) ?_
  refine am_icmp_ge ⟨by omega, by omega⟩ ⟨by omega, by omega⟩ eX9_writes_9 (fun c2 => ?_) (fun c2 => ?_)
  · refine am_return eX9_writes_63 rfl (Nat.zero_le _) (Nat.zero_le _) ?_
    exact am_vd_m (by unfold sp_writes; (repeat' split) <;> first | rfl | (exfalso; omega))
  · refine am_sipush eX9_writes_12 (by decide) ?_
    refine am_iload_n eX9_writes_15 rfl ?_
    refine am_imul eX9_writes_16 ?_
    refine am_aload_n eX9_writes_17 rfl ?_
    refine md_getA eX9_writes_18 fX9_51 (by decide) (by decide) ?_
    refine am_iload_n eX9_writes_21 rfl ?_
    refine md_ald (f := 17) (j := w.toNat) (v := m 17 w.toNat) eX9_writes_22 (by show _ < 24; omega) rfl (by omega) rfl ?_
    have b3 := wb17 hW w.toNat
    refine am_iadd eX9_writes_23 ?_
    refine am_istore eX9_writes_24 (by decide) ?_
    refine am_aload_n eX9_writes_26 rfl ?_
    refine md_getA eX9_writes_27 fX9_54 (by decide) (by decide) ?_
    refine am_iload eX9_writes_30 rfl ?_
    refine am_aload_n eX9_writes_32 rfl ?_
    refine md_getI (v := m 1 0) eX9_writes_33 fX9_7 rfl (by decide) rfl ?_
    have b4 := wb1 hW 0
    refine md_ast (f := 18) (j := ((300 * w.toNat) + (m 17 w.toNat).toNat)) eX9_writes_36 (by show _ < 7200; omega) rfl (by omega) ?_
    refine am_aload_n eX9_writes_37 rfl ?_
    refine md_getA eX9_writes_38 fX9_57 (by decide) (by decide) ?_
    refine am_iload eX9_writes_41 rfl ?_
    refine am_iload_n eX9_writes_43 rfl ?_
    refine md_ast (f := 19) (j := ((300 * w.toNat) + (m 17 w.toNat).toNat)) eX9_writes_44 (by show _ < 7200; omega) rfl (by omega) ?_
    refine am_aload_n eX9_writes_45 rfl ?_
    refine md_getA eX9_writes_46 fX9_60 (by decide) (by decide) ?_
    refine am_iload eX9_writes_49 rfl ?_
    refine am_iload_n eX9_writes_51 rfl ?_
    refine md_bast (f := 20) (j := ((300 * w.toNat) + (m 17 w.toNat).toNat)) eX9_writes_52 (by show _ < 7200; omega) rfl (by omega) (by omega) ?_
    refine am_aload_n eX9_writes_53 rfl ?_
    refine md_getA eX9_writes_54 fX9_51 (by decide) (by decide) ?_
    refine am_iload_n eX9_writes_57 rfl ?_
    refine am_dup2 eX9_writes_58 ?_
    refine md_ald (f := 17) (j := w.toNat) (v := m 17 w.toNat) eX9_writes_59 (by show _ < 24; omega) rfl (by omega) ((st_nf (by decide)).trans ((st_nf (by decide)).trans ((st_nf (by decide)).trans rfl))) ?_
    have b5 := wb17 hW w.toNat
    refine am_iconst eX9_writes_60 ?_
    refine am_iadd eX9_writes_61 ?_
    refine md_ast (f := 17) (j := w.toNat) eX9_writes_62 (by show _ < 24; omega) rfl (by omega) ?_
    refine am_return eX9_writes_63 rfl (Nat.zero_le _) (Nat.zero_le _) ?_
    exact am_vd_m (by unfold sp_writes; (repeat' split) <;> first | rfl | (exfalso; omega))
set_option maxRecDepth 100000 in
set_option maxHeartbeats 4000000 in
theorem c_X9_spy {G : am_G} {m x : sg_S} {T : Int} (hW : md_wb T m) {t : Int} (hr_t : -2147483648 ≤ t ∧ t < 2147483648)   : am_Con G yX9_spy wX9_spy 3 0 0 [am_R (9, 0), am_I t] (en_h m x) (am_is (am_I (an_spy m t)) (en_h (sp_spy m t) x)) := by
  refine am_of2 (Y := mX9_spy) (by decide +kernel) rfl (fun z => by cases z) rfl rfl (Nat.le_of_ble_eq_true rfl) fun X => ?_
  refine am_aload_n eX9_spy_0 rfl ?_
  refine am_aload_n eX9_spy_1 rfl ?_
  refine am_iload_n eX9_spy_2 rfl ?_
  refine am_cV eX9_spy_3 kX9_141 (c_X9_isTower (m := m) (x := x) (T := T) hW (a := t) ⟨by omega, by omega⟩) rfl rfl en_9 (by decide) (by decide) (Nat.le_of_ble_eq_true rfl) (Nat.zero_le _) (Nat.zero_le _) ?_
  have b1 := wb3 hW 0
  refine am_bz_ne eX9_spy_6 (fun c2 => ?_) (fun c2 => ?_)
  · refine am_aload_n eX9_spy_13 rfl ?_
    refine md_getI (v := m 39 0) eX9_spy_14 fX9_186 rfl (by decide) rfl ?_
    have b3 := wb39 hW 0
    refine am_bipush eX9_spy_17 (by decide) ?_
    refine am_icmp_eq ⟨by omega, by omega⟩ ⟨by omega, by omega⟩ eX9_spy_19 (fun c4 => ?_) (fun c4 => ?_)
    · refine am_iconst eX9_spy_32 ?_
      refine am_goto eX9_spy_33 ?_
      refine md_put eX9_spy_37 fX9_123 rfl rfl (by decide) trivial ?_
      refine am_aload_n eX9_spy_40 rfl ?_
      refine md_getI (v := 2) eX9_spy_41 fX9_123 rfl (by decide) st_eq ?_
      refine am_if_le ⟨by omega, by omega⟩ eX9_spy_44 (fun z => absurd z (by decide)) (fun _ => ?_)
      refine am_iconst eX9_spy_47 ?_
      refine am_ireturn eX9_spy_48 rfl trivial (Nat.zero_le _) (Nat.zero_le _) ?_
      exact am_is_m (by first | rfl | (unfold an_spy; (try simp only [Int.toNat_zero, Int.toNat_one]); (repeat' split) <;> first | rfl | omega | (simp only [Nat.mul_zero, Nat.mul_one] at *; omega))) (by first | rfl | (unfold sp_spy; (try simp only [Int.toNat_zero, Int.toNat_one]); (repeat' split) <;> first | rfl | (exfalso; omega)))
    · refine am_iload_n eX9_spy_22 rfl ?_
      refine am_aload_n eX9_spy_23 rfl ?_
      refine md_getI (v := m 3 0) eX9_spy_24 fX9_126 rfl (by decide) rfl ?_
      have b6 := wb3 hW 0
      refine am_iconst eX9_spy_27 ?_
      refine am_isub eX9_spy_28 ?_
      refine am_icmp_ne ⟨by omega, by omega⟩ ⟨by omega, by omega⟩ eX9_spy_29 (fun c7 => ?_) (fun c7 => ?_)
      · refine am_iconst eX9_spy_36 ?_
        refine md_put eX9_spy_37 fX9_123 rfl rfl (by decide) trivial ?_
        refine am_aload_n eX9_spy_40 rfl ?_
        refine md_getI (v := 0) eX9_spy_41 fX9_123 rfl (by decide) st_eq ?_
        refine am_if_le ⟨by omega, by omega⟩ eX9_spy_44 (fun _ => ?_) (fun z => absurd z (by decide))
        refine am_aload_n eX9_spy_49 rfl ?_
        refine md_getA eX9_spy_50 fX9_114 (by decide) (by decide) ?_
        refine am_aload_n eX9_spy_53 rfl ?_
        refine md_getI (v := m 39 0) eX9_spy_54 fX9_186 rfl (by decide) ((st_nf (by decide)).trans rfl) ?_
        have b9 := wb39 hW 0
        refine am_iload_n eX9_spy_57 rfl ?_
        refine md_ast (f := 40) (j := (m 39 0).toNat) eX9_spy_58 (by show _ < 6; omega) rfl (by omega) ?_
        refine am_aload_n eX9_spy_59 rfl ?_
        refine am_dup (by simp) eX9_spy_60 ?_
        refine md_getI (v := m 39 0) eX9_spy_61 fX9_186 rfl (by decide) ((st_nf (by decide)).trans ((st_nf (by decide)).trans rfl)) ?_
        have b10 := wb39 hW 0
        refine am_iconst eX9_spy_64 ?_
        refine am_iadd eX9_spy_65 ?_
        refine md_put eX9_spy_66 fX9_186 rfl rfl (by decide) trivial ?_
        refine am_aload_n eX9_spy_69 rfl ?_
        refine md_getI (v := ((m 39 0) + 1)) eX9_spy_70 fX9_186 rfl (by decide) st_eq ?_
        refine am_iconst eX9_spy_73 ?_
        refine am_isub eX9_spy_74 ?_
        refine am_ireturn eX9_spy_75 rfl trivial (Nat.zero_le _) (Nat.zero_le _) ?_
        exact am_is_m (by first | rfl | (unfold an_spy; (try simp only [Int.toNat_zero, Int.toNat_one]); (repeat' split) <;> first | rfl | omega | (simp only [Nat.mul_zero, Nat.mul_one] at *; omega))) (by first | rfl | (unfold sp_spy; (try simp only [Int.toNat_zero, Int.toNat_one]); (repeat' split) <;> first | rfl | (exfalso; omega)))
      · refine am_iconst eX9_spy_32 ?_
        refine am_goto eX9_spy_33 ?_
        refine md_put eX9_spy_37 fX9_123 rfl rfl (by decide) trivial ?_
        refine am_aload_n eX9_spy_40 rfl ?_
        refine md_getI (v := 2) eX9_spy_41 fX9_123 rfl (by decide) st_eq ?_
        refine am_if_le ⟨by omega, by omega⟩ eX9_spy_44 (fun z => absurd z (by decide)) (fun _ => ?_)
        refine am_iconst eX9_spy_47 ?_
        refine am_ireturn eX9_spy_48 rfl trivial (Nat.zero_le _) (Nat.zero_le _) ?_
        exact am_is_m (by first | rfl | (unfold an_spy; (try simp only [Int.toNat_zero, Int.toNat_one]); (repeat' split) <;> first | rfl | omega | (simp only [Nat.mul_zero, Nat.mul_one] at *; omega))) (by first | rfl | (unfold sp_spy; (try simp only [Int.toNat_zero, Int.toNat_one]); (repeat' split) <;> first | rfl | (exfalso; omega)))
  · refine am_iconst eX9_spy_9 ?_
    refine am_goto eX9_spy_10 ?_
    refine md_put eX9_spy_37 fX9_123 rfl rfl (by decide) trivial ?_
    refine am_aload_n eX9_spy_40 rfl ?_
    refine md_getI (v := 1) eX9_spy_41 fX9_123 rfl (by decide) st_eq ?_
    refine am_if_le ⟨by omega, by omega⟩ eX9_spy_44 (fun z => absurd z (by decide)) (fun _ => ?_)
    refine am_iconst eX9_spy_47 ?_
    refine am_ireturn eX9_spy_48 rfl trivial (Nat.zero_le _) (Nat.zero_le _) ?_
    exact am_is_m (by first | rfl | (unfold an_spy; (try simp only [Int.toNat_zero, Int.toNat_one]); (repeat' split) <;> first | rfl | omega | (simp only [Nat.mul_zero, Nat.mul_one] at *; omega))) (by first | rfl | (unfold sp_spy; (try simp only [Int.toNat_zero, Int.toNat_one]); (repeat' split) <;> first | rfl | (exfalso; omega)))
set_option maxRecDepth 100000 in
set_option maxHeartbeats 4000000 in
theorem c_X9_minute {G : am_G} {m x : sg_S} {T : Int} (hW : md_wb T m)    : am_Con G yX9_minute wX9_minute 1 0 0 [am_R (9, 0)] (en_h m x) (am_is (am_I (an_minute m )) (en_h (sp_minute m ) x)) := by
  refine am_of2 (Y := mX9_minute) (by decide +kernel) rfl (fun z => by cases z) rfl rfl (Nat.le_of_ble_eq_true rfl) fun X => ?_
  refine am_aload_n eX9_minute_0 rfl ?_
  refine am_iconst eX9_minute_1 ?_
  refine md_put eX9_minute_2 fX9_123 rfl rfl (by decide) trivial ?_
  refine am_aload_n eX9_minute_5 rfl ?_
  refine md_getI (v := m 1 0) eX9_minute_6 fX9_7 rfl (by decide) ((st_nf (by decide)).trans rfl) ?_
  have b1 := wb1 hW 0
  refine am_ireturn eX9_minute_9 rfl trivial (Nat.zero_le _) (Nat.zero_le _) ?_
  exact am_is_m (by first | rfl | (unfold an_minute; (try simp only [Int.toNat_zero, Int.toNat_one]); (repeat' split) <;> first | rfl | omega | (simp only [Nat.mul_zero, Nat.mul_one] at *; omega))) (by first | rfl | (unfold sp_minute; (try simp only [Int.toNat_zero, Int.toNat_one]); (repeat' split) <;> first | rfl | (exfalso; omega)))
set_option maxRecDepth 100000 in
set_option maxHeartbeats 4000000 in
theorem c_X9_towers {G : am_G} {m x : sg_S} {T : Int} (hW : md_wb T m)    : am_Con G yX9_towers wX9_towers 1 0 0 [am_R (9, 0)] (en_h m x) (am_is (am_I (an_towers m )) (en_h (sp_towers m ) x)) := by
  refine am_of2 (Y := mX9_towers) (by decide +kernel) rfl (fun z => by cases z) rfl rfl (Nat.le_of_ble_eq_true rfl) fun X => ?_
  refine am_aload_n eX9_towers_0 rfl ?_
  refine am_iconst eX9_towers_1 ?_
  refine md_put eX9_towers_2 fX9_123 rfl rfl (by decide) trivial ?_
  refine am_aload_n eX9_towers_5 rfl ?_
  refine md_getI (v := m 3 0) eX9_towers_6 fX9_126 rfl (by decide) ((st_nf (by decide)).trans rfl) ?_
  have b1 := wb3 hW 0
  refine am_ireturn eX9_towers_9 rfl trivial (Nat.zero_le _) (Nat.zero_le _) ?_
  exact am_is_m (by first | rfl | (unfold an_towers; (try simp only [Int.toNat_zero, Int.toNat_one]); (repeat' split) <;> first | rfl | omega | (simp only [Nat.mul_zero, Nat.mul_one] at *; omega))) (by first | rfl | (unfold sp_towers; (try simp only [Int.toNat_zero, Int.toNat_one]); (repeat' split) <;> first | rfl | (exfalso; omega)))
set_option maxRecDepth 100000 in
set_option maxHeartbeats 4000000 in
theorem c_X9_shows {G : am_G} {m x : sg_S} {T : Int} (hW : md_wb T m) {t u : Int} (hr_t : -2147483648 ≤ t ∧ t < 2147483648) (hb_u : u = 0 ∨ u = 1)  : am_Con G yX9_shows wX9_shows 3 0 0 [am_R (9, 0), am_I t, am_I u] (en_h m x) (am_is (am_I (an_shows m t u)) (en_h (sp_shows m t u) x)) := by
  refine am_of2 (Y := mX9_shows) (by decide +kernel) rfl (fun z => by cases z) rfl rfl (Nat.le_of_ble_eq_true rfl) fun X => ?_
  refine am_aload_n eX9_shows_0 rfl ?_
  refine am_aload_n eX9_shows_1 rfl ?_
  refine am_iload_n eX9_shows_2 rfl ?_
  refine am_cV eX9_shows_3 kX9_141 (c_X9_isTower (m := m) (x := x) (T := T) hW (a := t) ⟨by omega, by omega⟩) rfl rfl en_9 (by decide) (by decide) (Nat.le_of_ble_eq_true rfl) (Nat.zero_le _) (Nat.zero_le _) ?_
  have b1 := wb3 hW 0
  refine am_bz_eq eX9_shows_6 (fun c2 => ?_) (fun c2 => ?_)
  · refine am_iconst eX9_shows_13 ?_
    refine md_put eX9_shows_14 fX9_123 rfl rfl (by decide) trivial ?_
    refine am_aload_n eX9_shows_17 rfl ?_
    refine md_getI (v := 1) eX9_shows_18 fX9_123 rfl (by decide) st_eq ?_
    refine am_if_le ⟨by omega, by omega⟩ eX9_shows_21 (fun z => absurd z (by decide)) (fun _ => ?_)
    refine am_iconst eX9_shows_24 ?_
    refine am_goto eX9_shows_25 ?_
    refine am_ireturn eX9_shows_38 rfl trivial (Nat.zero_le _) (Nat.zero_le _) ?_
    exact am_is_m (by first | rfl | (unfold an_shows; (try simp only [Int.toNat_zero, Int.toNat_one]); (repeat' split) <;> first | rfl | omega | (simp only [Nat.mul_zero, Nat.mul_one] at *; omega))) (by first | rfl | (unfold sp_shows; (try simp only [Int.toNat_zero, Int.toNat_one]); (repeat' split) <;> first | rfl | (exfalso; omega)))
  · refine am_iconst eX9_shows_9 ?_
    refine am_goto eX9_shows_10 ?_
    refine md_put eX9_shows_14 fX9_123 rfl rfl (by decide) trivial ?_
    refine am_aload_n eX9_shows_17 rfl ?_
    refine md_getI (v := 0) eX9_shows_18 fX9_123 rfl (by decide) st_eq ?_
    refine am_if_le ⟨by omega, by omega⟩ eX9_shows_21 (fun _ => ?_) (fun z => absurd z (by decide))
    refine am_aload_n eX9_shows_28 rfl ?_
    refine md_getA eX9_shows_29 fX9_44 (by decide) (by decide) ?_
    refine am_iload_n eX9_shows_32 rfl ?_
    refine am_iload_n eX9_shows_33 rfl ?_
    refine am_cS eX9_shows_34 kX9_171 (c_X9_at (a := t) (u := u) (by omega)) rfl rfl (by decide) (by decide) (Nat.le_of_ble_eq_true rfl) (Nat.zero_le _) (Nat.zero_le _) ?_
    refine md_ald (f := 15) (j := (2 * t.toNat + u.toNat)) (v := m 15 (2 * t.toNat + u.toNat)) eX9_shows_37 (by show _ < 24; omega) rfl (by omega) ((st_nf (by decide)).trans rfl) ?_
    have b5 := wb15 hW (2 * t.toNat + u.toNat)
    refine am_ireturn eX9_shows_38 rfl trivial (Nat.zero_le _) (Nat.zero_le _) ?_
    exact am_is_m (by first | rfl | (unfold an_shows; (try simp only [Int.toNat_zero, Int.toNat_one]); (repeat' split) <;> first | rfl | omega | (simp only [Nat.mul_zero, Nat.mul_one] at *; omega))) (by first | rfl | (unfold sp_shows; (try simp only [Int.toNat_zero, Int.toNat_one]); (repeat' split) <;> first | rfl | (exfalso; omega)))
set_option maxRecDepth 100000 in
set_option maxHeartbeats 4000000 in
theorem c_X9_keeps {G : am_G} {m x : sg_S} {T : Int} (hW : md_wb T m) {t u p : Int} (hr_t : -2147483648 ≤ t ∧ t < 2147483648) (hr_p : -2147483648 ≤ p ∧ p < 2147483648) (hb_u : u = 0 ∨ u = 1)  : am_Con G yX9_keeps wX9_keeps 3 0 0 [am_R (9, 0), am_I t, am_I u, am_I p] (en_h m x) (am_is (am_I (an_keeps m t u p)) (en_h (sp_keeps m t u p) x)) := by
  refine am_of2 (Y := mX9_keeps) (by decide +kernel) rfl (fun z => by cases z) rfl rfl (Nat.le_of_ble_eq_true rfl) fun X => ?_
  refine am_aload_n eX9_keeps_0 rfl ?_
  refine am_aload_n eX9_keeps_1 rfl ?_
  refine am_iload_n eX9_keeps_2 rfl ?_
  refine am_cV eX9_keeps_3 kX9_141 (c_X9_isTower (m := m) (x := x) (T := T) hW (a := t) ⟨by omega, by omega⟩) rfl rfl en_9 (by decide) (by decide) (Nat.le_of_ble_eq_true rfl) (Nat.zero_le _) (Nat.zero_le _) ?_
  have b1 := wb3 hW 0
  refine am_bz_eq eX9_keeps_6 (fun c2 => ?_) (fun c2 => ?_)
  · refine am_iconst eX9_keeps_17 ?_
    refine md_put eX9_keeps_18 fX9_123 rfl rfl (by decide) trivial ?_
    refine am_aload_n eX9_keeps_21 rfl ?_
    refine md_getI (v := 1) eX9_keeps_22 fX9_123 rfl (by decide) st_eq ?_
    refine am_if_le ⟨by omega, by omega⟩ eX9_keeps_25 (fun z => absurd z (by decide)) (fun _ => ?_)
    refine am_iconst eX9_keeps_28 ?_
    refine am_ireturn eX9_keeps_29 rfl trivial (Nat.zero_le _) (Nat.zero_le _) ?_
    exact am_is_m (by first | rfl | (unfold an_keeps; (try simp only [Int.toNat_zero, Int.toNat_one]); (repeat' split) <;> first | rfl | omega | (simp only [Nat.mul_zero, Nat.mul_one] at *; omega))) (by first | rfl | (unfold sp_keeps; (try simp only [Int.toNat_zero, Int.toNat_one]); (repeat' split) <;> first | rfl | (exfalso; omega)))
  · refine am_iload_n eX9_keeps_9 rfl ?_
    refine am_if_lt ⟨by omega, by omega⟩ eX9_keeps_10 (fun c4 => ?_) (fun c4 => ?_)
    · refine am_iconst eX9_keeps_17 ?_
      refine md_put eX9_keeps_18 fX9_123 rfl rfl (by decide) trivial ?_
      refine am_aload_n eX9_keeps_21 rfl ?_
      refine md_getI (v := 1) eX9_keeps_22 fX9_123 rfl (by decide) st_eq ?_
      refine am_if_le ⟨by omega, by omega⟩ eX9_keeps_25 (fun z => absurd z (by decide)) (fun _ => ?_)
      refine am_iconst eX9_keeps_28 ?_
      refine am_ireturn eX9_keeps_29 rfl trivial (Nat.zero_le _) (Nat.zero_le _) ?_
      exact am_is_m (by first | rfl | (unfold an_keeps; (try simp only [Int.toNat_zero, Int.toNat_one]); (repeat' split) <;> first | rfl | omega | (simp only [Nat.mul_zero, Nat.mul_one] at *; omega))) (by first | rfl | (unfold sp_keeps; (try simp only [Int.toNat_zero, Int.toNat_one]); (repeat' split) <;> first | rfl | (exfalso; omega)))
    · refine am_iconst eX9_keeps_13 ?_
      refine am_goto eX9_keeps_14 ?_
      refine md_put eX9_keeps_18 fX9_123 rfl rfl (by decide) trivial ?_
      refine am_aload_n eX9_keeps_21 rfl ?_
      refine md_getI (v := 0) eX9_keeps_22 fX9_123 rfl (by decide) st_eq ?_
      refine am_if_le ⟨by omega, by omega⟩ eX9_keeps_25 (fun _ => ?_) (fun z => absurd z (by decide))
      refine am_iload_n eX9_keeps_30 rfl ?_
      refine am_aload_n eX9_keeps_31 rfl ?_
      refine md_getA eX9_keeps_32 fX9_35 (by decide) (by decide) ?_
      refine am_iload_n eX9_keeps_35 rfl ?_
      refine am_iload_n eX9_keeps_36 rfl ?_
      refine am_cS eX9_keeps_37 kX9_171 (c_X9_at (a := t) (u := u) (by omega)) rfl rfl (by decide) (by decide) (Nat.le_of_ble_eq_true rfl) (Nat.zero_le _) (Nat.zero_le _) ?_
      refine md_ald (f := 12) (j := (2 * t.toNat + u.toNat)) (v := m 12 (2 * t.toNat + u.toNat)) eX9_keeps_40 (by show _ < 24; omega) rfl (by omega) ((st_nf (by decide)).trans rfl) ?_
      have b7 := wb12 hW (2 * t.toNat + u.toNat)
      refine am_icmp_ge ⟨by omega, by omega⟩ ⟨by omega, by omega⟩ eX9_keeps_41 (fun c8 => ?_) (fun c8 => ?_)
      · refine am_iconst eX9_keeps_63 ?_
        refine am_ireturn eX9_keeps_64 rfl trivial (Nat.zero_le _) (Nat.zero_le _) ?_
        exact am_is_m (by first | rfl | (unfold an_keeps; (try simp only [Int.toNat_zero, Int.toNat_one]); (repeat' split) <;> first | rfl | omega | (simp only [Nat.mul_zero, Nat.mul_one] at *; omega))) (by first | rfl | (unfold sp_keeps; (try simp only [Int.toNat_zero, Int.toNat_one]); (repeat' split) <;> first | rfl | (exfalso; omega)))
      · refine am_aload_n eX9_keeps_44 rfl ?_
        refine md_getA eX9_keeps_45 fX9_41 (by decide) (by decide) ?_
        refine am_sipush eX9_keeps_48 (by decide) ?_
        refine am_iload_n eX9_keeps_51 rfl ?_
        refine am_iload_n eX9_keeps_52 rfl ?_
        refine am_cS eX9_keeps_53 kX9_171 (c_X9_at (a := t) (u := u) (by omega)) rfl rfl (by decide) (by decide) (Nat.le_of_ble_eq_true rfl) (Nat.zero_le _) (Nat.zero_le _) ?_
        refine am_imul eX9_keeps_56 ?_
        refine am_iload_n eX9_keeps_57 rfl ?_
        refine am_iadd eX9_keeps_58 ?_
        refine md_ald (f := 14) (j := ((220 * (2 * t.toNat + u.toNat)) + p.toNat)) (v := m 14 ((220 * (2 * t.toNat + u.toNat)) + p.toNat)) eX9_keeps_59 (by show _ < 5280; omega) rfl (by omega) ((st_nf (by decide)).trans rfl) ?_
        have b9 := wb14 hW ((220 * (2 * t.toNat + u.toNat)) + p.toNat)
        refine am_goto eX9_keeps_60 ?_
        refine am_ireturn eX9_keeps_64 rfl trivial (Nat.zero_le _) (Nat.zero_le _) ?_
        exact am_is_m (by first | rfl | (unfold an_keeps; (try simp only [Int.toNat_zero, Int.toNat_one]); (repeat' split) <;> first | rfl | omega | (simp only [Nat.mul_zero, Nat.mul_one] at *; omega))) (by first | rfl | (unfold sp_keeps; (try simp only [Int.toNat_zero, Int.toNat_one]); (repeat' split) <;> first | rfl | (exfalso; omega)))
set_option maxRecDepth 100000 in
set_option maxHeartbeats 4000000 in
theorem c_X9_logs {G : am_G} {m x : sg_S} {T : Int} (hW : md_wb T m) {t u : Int} (hr_t : -2147483648 ≤ t ∧ t < 2147483648) (hb_u : u = 0 ∨ u = 1)  : am_Con G yX9_logs wX9_logs 3 0 0 [am_R (9, 0), am_I t, am_I u] (en_h m x) (am_is (am_I (an_logs m t u)) (en_h (sp_logs m t u) x)) := by
  refine am_of2 (Y := mX9_logs) (by decide +kernel) rfl (fun z => by cases z) rfl rfl (Nat.le_of_ble_eq_true rfl) fun X => ?_
  refine am_aload_n eX9_logs_0 rfl ?_
  refine am_aload_n eX9_logs_1 rfl ?_
  refine am_iload_n eX9_logs_2 rfl ?_
  refine am_cV eX9_logs_3 kX9_141 (c_X9_isTower (m := m) (x := x) (T := T) hW (a := t) ⟨by omega, by omega⟩) rfl rfl en_9 (by decide) (by decide) (Nat.le_of_ble_eq_true rfl) (Nat.zero_le _) (Nat.zero_le _) ?_
  have b1 := wb3 hW 0
  refine am_bz_eq eX9_logs_6 (fun c2 => ?_) (fun c2 => ?_)
  · refine am_iconst eX9_logs_13 ?_
    refine md_put eX9_logs_14 fX9_123 rfl rfl (by decide) trivial ?_
    refine am_aload_n eX9_logs_17 rfl ?_
    refine md_getI (v := 1) eX9_logs_18 fX9_123 rfl (by decide) st_eq ?_
    refine am_if_le ⟨by omega, by omega⟩ eX9_logs_21 (fun z => absurd z (by decide)) (fun _ => ?_)
    refine am_iconst eX9_logs_24 ?_
    refine am_goto eX9_logs_25 ?_
    refine am_ireturn eX9_logs_38 rfl trivial (Nat.zero_le _) (Nat.zero_le _) ?_
    exact am_is_m (by first | rfl | (unfold an_logs; (try simp only [Int.toNat_zero, Int.toNat_one]); (repeat' split) <;> first | rfl | omega | (simp only [Nat.mul_zero, Nat.mul_one] at *; omega))) (by first | rfl | (unfold sp_logs; (try simp only [Int.toNat_zero, Int.toNat_one]); (repeat' split) <;> first | rfl | (exfalso; omega)))
  · refine am_iconst eX9_logs_9 ?_
    refine am_goto eX9_logs_10 ?_
    refine md_put eX9_logs_14 fX9_123 rfl rfl (by decide) trivial ?_
    refine am_aload_n eX9_logs_17 rfl ?_
    refine md_getI (v := 0) eX9_logs_18 fX9_123 rfl (by decide) st_eq ?_
    refine am_if_le ⟨by omega, by omega⟩ eX9_logs_21 (fun _ => ?_) (fun z => absurd z (by decide))
    refine am_aload_n eX9_logs_28 rfl ?_
    refine md_getA eX9_logs_29 fX9_51 (by decide) (by decide) ?_
    refine am_iload_n eX9_logs_32 rfl ?_
    refine am_iload_n eX9_logs_33 rfl ?_
    refine am_cS eX9_logs_34 kX9_171 (c_X9_at (a := t) (u := u) (by omega)) rfl rfl (by decide) (by decide) (Nat.le_of_ble_eq_true rfl) (Nat.zero_le _) (Nat.zero_le _) ?_
    refine md_ald (f := 17) (j := (2 * t.toNat + u.toNat)) (v := m 17 (2 * t.toNat + u.toNat)) eX9_logs_37 (by show _ < 24; omega) rfl (by omega) ((st_nf (by decide)).trans rfl) ?_
    have b5 := wb17 hW (2 * t.toNat + u.toNat)
    refine am_ireturn eX9_logs_38 rfl trivial (Nat.zero_le _) (Nat.zero_le _) ?_
    exact am_is_m (by first | rfl | (unfold an_logs; (try simp only [Int.toNat_zero, Int.toNat_one]); (repeat' split) <;> first | rfl | omega | (simp only [Nat.mul_zero, Nat.mul_one] at *; omega))) (by first | rfl | (unfold sp_logs; (try simp only [Int.toNat_zero, Int.toNat_one]); (repeat' split) <;> first | rfl | (exfalso; omega)))
set_option maxRecDepth 100000 in
set_option maxHeartbeats 4000000 in
theorem c_X9_log {G : am_G} {m x : sg_S} {T : Int} (hW : md_wb T m) {t u n a : Int} (hr_t : -2147483648 ≤ t ∧ t < 2147483648) (hr_n : -2147483648 ≤ n ∧ n < 2147483648) (hr_a : -2147483648 ≤ a ∧ a < 2147483648) (hb_u : u = 0 ∨ u = 1)  : am_Con G yX9_log wX9_log 3 0 0 [am_R (9, 0), am_I t, am_I u, am_I n, am_I a] (en_h m x) (am_is (am_I (an_log m t u n a)) (en_h (sp_log m t u n a) x)) := by
  refine am_of2 (Y := mX9_log) (by decide +kernel) rfl (fun z => by cases z) rfl rfl (Nat.le_of_ble_eq_true rfl) fun X => ?_
  refine am_aload_n eX9_log_0 rfl ?_
  refine am_aload_n eX9_log_1 rfl ?_
  refine am_iload_n eX9_log_2 rfl ?_
  refine am_cV eX9_log_3 kX9_141 (c_X9_isTower (m := m) (x := x) (T := T) hW (a := t) ⟨by omega, by omega⟩) rfl rfl en_9 (by decide) (by decide) (Nat.le_of_ble_eq_true rfl) (Nat.zero_le _) (Nat.zero_le _) ?_
  have b1 := wb3 hW 0
  refine am_bz_eq eX9_log_6 (fun c2 => ?_) (fun c2 => ?_)
  · refine am_iconst eX9_log_13 ?_
    refine am_goto eX9_log_14 ?_
    refine md_put eX9_log_32 fX9_123 rfl rfl (by decide) trivial ?_
    refine am_aload_n eX9_log_35 rfl ?_
    refine md_getI (v := 1) eX9_log_36 fX9_123 rfl (by decide) st_eq ?_
    refine am_if_le ⟨by omega, by omega⟩ eX9_log_39 (fun z => absurd z (by decide)) (fun _ => ?_)
    refine am_iconst eX9_log_42 ?_
    refine am_ireturn eX9_log_43 rfl trivial (Nat.zero_le _) (Nat.zero_le _) ?_
    exact am_is_m (by first | rfl | (unfold an_log; (try simp only [Int.toNat_zero, Int.toNat_one]); (repeat' split) <;> first | rfl | omega | (simp only [Nat.mul_zero, Nat.mul_one] at *; omega))) (by first | rfl | (unfold sp_log; (try simp only [Int.toNat_zero, Int.toNat_one]); (repeat' split) <;> first | rfl | (exfalso; omega)))
  · refine am_iload_n eX9_log_9 rfl ?_
    refine am_if_ge ⟨by omega, by omega⟩ eX9_log_10 (fun c4 => ?_) (fun c4 => ?_)
    · refine am_iload eX9_log_17 rfl ?_
      refine am_iconst eX9_log_19 ?_
      refine am_iconst eX9_log_20 ?_
      refine am_cS eX9_log_21 kX9_129 (c_X9_in (v := a) (lo := 0) (hi := 2) ⟨by omega, by omega⟩ ⟨by omega, by omega⟩ ⟨by omega, by omega⟩) rfl rfl (by decide) (by decide) (Nat.le_of_ble_eq_true rfl) (Nat.zero_le _) (Nat.zero_le _) ?_
      refine am_bz_eq eX9_log_24 (fun c5 => ?_) (fun c5 => ?_)
      · refine am_iconst eX9_log_31 ?_
        refine md_put eX9_log_32 fX9_123 rfl rfl (by decide) trivial ?_
        refine am_aload_n eX9_log_35 rfl ?_
        refine md_getI (v := 2) eX9_log_36 fX9_123 rfl (by decide) st_eq ?_
        refine am_if_le ⟨by omega, by omega⟩ eX9_log_39 (fun z => absurd z (by decide)) (fun _ => ?_)
        refine am_iconst eX9_log_42 ?_
        refine am_ireturn eX9_log_43 rfl trivial (Nat.zero_le _) (Nat.zero_le _) ?_
        exact am_is_m (by first | rfl | (unfold an_log; (try simp only [Int.toNat_zero, Int.toNat_one]); (repeat' split) <;> first | rfl | omega | (simp only [Nat.mul_zero, Nat.mul_one] at *; omega))) (by first | rfl | (unfold sp_log; (try simp only [Int.toNat_zero, Int.toNat_one]); (repeat' split) <;> first | rfl | (exfalso; omega)))
      · refine am_iconst eX9_log_27 ?_
        refine am_goto eX9_log_28 ?_
        refine md_put eX9_log_32 fX9_123 rfl rfl (by decide) trivial ?_
        refine am_aload_n eX9_log_35 rfl ?_
        refine md_getI (v := 0) eX9_log_36 fX9_123 rfl (by decide) st_eq ?_
        refine am_if_le ⟨by omega, by omega⟩ eX9_log_39 (fun _ => ?_) (fun z => absurd z (by decide))
        refine am_iload_n eX9_log_44 rfl ?_
        refine am_aload_n eX9_log_45 rfl ?_
        refine md_getA eX9_log_46 fX9_51 (by decide) (by decide) ?_
        refine am_iload_n eX9_log_49 rfl ?_
        refine am_iload_n eX9_log_50 rfl ?_
        refine am_cS eX9_log_51 kX9_171 (c_X9_at (a := t) (u := u) (by omega)) rfl rfl (by decide) (by decide) (Nat.le_of_ble_eq_true rfl) (Nat.zero_le _) (Nat.zero_le _) ?_
        refine md_ald (f := 17) (j := (2 * t.toNat + u.toNat)) (v := m 17 (2 * t.toNat + u.toNat)) eX9_log_54 (by show _ < 24; omega) rfl (by omega) ((st_nf (by decide)).trans rfl) ?_
        have b8 := wb17 hW (2 * t.toNat + u.toNat)
        refine am_icmp_lt ⟨by omega, by omega⟩ ⟨by omega, by omega⟩ eX9_log_55 (fun c9 => ?_) (fun c9 => ?_)
        · refine am_sipush eX9_log_60 (by decide) ?_
          refine am_iload_n eX9_log_63 rfl ?_
          refine am_iload_n eX9_log_64 rfl ?_
          refine am_cS eX9_log_65 kX9_171 (c_X9_at (a := t) (u := u) (by omega)) rfl rfl (by decide) (by decide) (Nat.le_of_ble_eq_true rfl) (Nat.zero_le _) (Nat.zero_le _) ?_
          refine am_imul eX9_log_68 ?_
          refine am_iload_n eX9_log_69 rfl ?_
          refine am_iadd eX9_log_70 ?_
          refine am_istore eX9_log_71 (by decide) ?_
          refine am_iload eX9_log_73 rfl ?_
          refine am_if_ne ⟨by omega, by omega⟩ eX9_log_75 (fun c10 => ?_) (fun c10 => ?_)
          · refine am_iload eX9_log_88 rfl ?_
            refine am_iconst eX9_log_90 ?_
            refine am_icmp_ne ⟨by omega, by omega⟩ ⟨by omega, by omega⟩ eX9_log_91 (fun c11 => ?_) (fun c11 => ?_)
            · refine am_aload_n eX9_log_104 rfl ?_
              refine md_getA eX9_log_105 fX9_60 (by decide) (by decide) ?_
              refine am_iload eX9_log_108 rfl ?_
              refine md_bald (f := 20) (j := ((300 * (2 * t.toNat + u.toNat)) + n.toNat)) (v := m 20 ((300 * (2 * t.toNat + u.toNat)) + n.toNat)) eX9_log_110 (by show _ < 7200; omega) rfl (by omega) ((st_nf (by decide)).trans rfl) ?_
              have b12 := wb20 hW ((300 * (2 * t.toNat + u.toNat)) + n.toNat)
              refine am_if_eq ⟨by omega, by omega⟩ eX9_log_111 (fun c13 => ?_) (fun c13 => ?_)
              · refine am_iconst eX9_log_118 ?_
                refine am_ireturn eX9_log_119 rfl trivial (Nat.zero_le _) (Nat.zero_le _) ?_
                exact am_is_m (by first | rfl | (unfold an_log; (try simp only [Int.toNat_zero, Int.toNat_one]); (repeat' split) <;> first | rfl | omega | (simp only [Nat.mul_zero, Nat.mul_one] at *; omega))) (by first | rfl | (unfold sp_log; (try simp only [Int.toNat_zero, Int.toNat_one]); (repeat' split) <;> first | rfl | (exfalso; omega)))
              · refine am_iconst eX9_log_114 ?_
                refine am_goto eX9_log_115 ?_
                refine am_ireturn eX9_log_119 rfl trivial (Nat.zero_le _) (Nat.zero_le _) ?_
                exact am_is_m (by first | rfl | (unfold an_log; (try simp only [Int.toNat_zero, Int.toNat_one]); (repeat' split) <;> first | rfl | omega | (simp only [Nat.mul_zero, Nat.mul_one] at *; omega))) (by first | rfl | (unfold sp_log; (try simp only [Int.toNat_zero, Int.toNat_one]); (repeat' split) <;> first | rfl | (exfalso; omega)))
            · refine am_aload_n eX9_log_94 rfl ?_
              refine md_getA eX9_log_95 fX9_57 (by decide) (by decide) ?_
              refine am_iload eX9_log_98 rfl ?_
              refine md_ald (f := 19) (j := ((300 * (2 * t.toNat + u.toNat)) + n.toNat)) (v := m 19 ((300 * (2 * t.toNat + u.toNat)) + n.toNat)) eX9_log_100 (by show _ < 7200; omega) rfl (by omega) ((st_nf (by decide)).trans rfl) ?_
              have b14 := wb19 hW ((300 * (2 * t.toNat + u.toNat)) + n.toNat)
              refine am_goto eX9_log_101 ?_
              refine am_ireturn eX9_log_119 rfl trivial (Nat.zero_le _) (Nat.zero_le _) ?_
              exact am_is_m (by first | rfl | (unfold an_log; (try simp only [Int.toNat_zero, Int.toNat_one]); (repeat' split) <;> first | rfl | omega | (simp only [Nat.mul_zero, Nat.mul_one] at *; omega))) (by first | rfl | (unfold sp_log; (try simp only [Int.toNat_zero, Int.toNat_one]); (repeat' split) <;> first | rfl | (exfalso; omega)))
          · refine am_aload_n eX9_log_78 rfl ?_
            refine md_getA eX9_log_79 fX9_54 (by decide) (by decide) ?_
            refine am_iload eX9_log_82 rfl ?_
            refine md_ald (f := 18) (j := ((300 * (2 * t.toNat + u.toNat)) + n.toNat)) (v := m 18 ((300 * (2 * t.toNat + u.toNat)) + n.toNat)) eX9_log_84 (by show _ < 7200; omega) rfl (by omega) ((st_nf (by decide)).trans rfl) ?_
            have b15 := wb18 hW ((300 * (2 * t.toNat + u.toNat)) + n.toNat)
            refine am_goto eX9_log_85 ?_
            refine am_ireturn eX9_log_119 rfl trivial (Nat.zero_le _) (Nat.zero_le _) ?_
            exact am_is_m (by first | rfl | (unfold an_log; (try simp only [Int.toNat_zero, Int.toNat_one]); (repeat' split) <;> first | rfl | omega | (simp only [Nat.mul_zero, Nat.mul_one] at *; omega))) (by first | rfl | (unfold sp_log; (try simp only [Int.toNat_zero, Int.toNat_one]); (repeat' split) <;> first | rfl | (exfalso; omega)))
        · refine am_iconst eX9_log_58 ?_
          refine am_ireturn eX9_log_59 rfl trivial (Nat.zero_le _) (Nat.zero_le _) ?_
          exact am_is_m (by first | rfl | (unfold an_log; (try simp only [Int.toNat_zero, Int.toNat_one]); (repeat' split) <;> first | rfl | omega | (simp only [Nat.mul_zero, Nat.mul_one] at *; omega))) (by first | rfl | (unfold sp_log; (try simp only [Int.toNat_zero, Int.toNat_one]); (repeat' split) <;> first | rfl | (exfalso; omega)))
    · refine am_iconst eX9_log_13 ?_
      refine am_goto eX9_log_14 ?_
      refine md_put eX9_log_32 fX9_123 rfl rfl (by decide) trivial ?_
      refine am_aload_n eX9_log_35 rfl ?_
      refine md_getI (v := 1) eX9_log_36 fX9_123 rfl (by decide) st_eq ?_
      refine am_if_le ⟨by omega, by omega⟩ eX9_log_39 (fun z => absurd z (by decide)) (fun _ => ?_)
      refine am_iconst eX9_log_42 ?_
      refine am_ireturn eX9_log_43 rfl trivial (Nat.zero_le _) (Nat.zero_le _) ?_
      exact am_is_m (by first | rfl | (unfold an_log; (try simp only [Int.toNat_zero, Int.toNat_one]); (repeat' split) <;> first | rfl | omega | (simp only [Nat.mul_zero, Nat.mul_one] at *; omega))) (by first | rfl | (unfold sp_log; (try simp only [Int.toNat_zero, Int.toNat_one]); (repeat' split) <;> first | rfl | (exfalso; omega)))
set_option maxRecDepth 100000 in
set_option maxHeartbeats 4000000 in
theorem c_X9_came {G : am_G} {m x : sg_S} {T : Int} (hW : md_wb T m) {u : Int}  (hb_u : u = 0 ∨ u = 1)  : am_Con G yX9_came wX9_came 1 0 0 [am_R (9, 0), am_I u] (en_h m x) (am_is (am_I (an_came m u)) (en_h (sp_came m u) x)) := by
  refine am_of2 (Y := mX9_came) (by decide +kernel) rfl (fun z => by cases z) rfl rfl (Nat.le_of_ble_eq_true rfl) fun X => ?_
  rcases hb_u with rfl | rfl
  · refine am_aload_n eX9_came_0 rfl ?_
    refine am_iconst eX9_came_1 ?_
    refine md_put eX9_came_2 fX9_123 rfl rfl (by decide) trivial ?_
    refine am_aload_n eX9_came_5 rfl ?_
    refine md_getA eX9_came_6 fX9_96 (by decide) (by decide) ?_
    refine am_iload_n eX9_came_9 rfl ?_
    refine am_if_eq ⟨by omega, by omega⟩ eX9_came_10 (fun _ => ?_) (fun z => absurd z (by decide))
    refine am_iconst eX9_came_17 ?_
    refine md_ald (f := 33) (j := 0) (v := m 33 0) eX9_came_18 (by show _ < 2; omega) rfl (by omega) ((st_nf (by decide)).trans rfl) ?_
    have b2 := wb33 hW 0
    refine am_ireturn eX9_came_19 rfl trivial (Nat.zero_le _) (Nat.zero_le _) ?_
    exact am_is_m (by first | rfl | (unfold an_came; (try simp only [Int.toNat_zero, Int.toNat_one]); (repeat' split) <;> first | rfl | omega | (simp only [Nat.mul_zero, Nat.mul_one] at *; omega))) (by first | rfl | (unfold sp_came; (try simp only [Int.toNat_zero, Int.toNat_one]); (repeat' split) <;> first | rfl | (exfalso; omega)))
  · refine am_aload_n eX9_came_0 rfl ?_
    refine am_iconst eX9_came_1 ?_
    refine md_put eX9_came_2 fX9_123 rfl rfl (by decide) trivial ?_
    refine am_aload_n eX9_came_5 rfl ?_
    refine md_getA eX9_came_6 fX9_96 (by decide) (by decide) ?_
    refine am_iload_n eX9_came_9 rfl ?_
    refine am_if_eq ⟨by omega, by omega⟩ eX9_came_10 (fun z => absurd z (by decide)) (fun _ => ?_)
    refine am_iconst eX9_came_13 ?_
    refine am_goto eX9_came_14 ?_
    refine md_ald (f := 33) (j := 1) (v := m 33 1) eX9_came_18 (by show _ < 2; omega) rfl (by omega) ((st_nf (by decide)).trans rfl) ?_
    have b2 := wb33 hW 1
    refine am_ireturn eX9_came_19 rfl trivial (Nat.zero_le _) (Nat.zero_le _) ?_
    exact am_is_m (by first | rfl | (unfold an_came; (try simp only [Int.toNat_zero, Int.toNat_one]); (repeat' split) <;> first | rfl | omega | (simp only [Nat.mul_zero, Nat.mul_one] at *; omega))) (by first | rfl | (unfold sp_came; (try simp only [Int.toNat_zero, Int.toNat_one]); (repeat' split) <;> first | rfl | (exfalso; omega)))
set_option maxRecDepth 100000 in
set_option maxHeartbeats 4000000 in
theorem c_X9_open {G : am_G} {m x : sg_S} {T : Int} (hW : md_wb T m) {u : Int}  (hb_u : u = 0 ∨ u = 1)  : am_Con G yX9_open wX9_open 1 0 0 [am_R (9, 0), am_I u] (en_h m x) (am_is (am_I (an_open m u)) (en_h (sp_open m u) x)) := by
  refine am_of2 (Y := mX9_open) (by decide +kernel) rfl (fun z => by cases z) rfl rfl (Nat.le_of_ble_eq_true rfl) fun X => ?_
  rcases hb_u with rfl | rfl
  · refine am_aload_n eX9_open_0 rfl ?_
    refine am_iconst eX9_open_1 ?_
    refine md_put eX9_open_2 fX9_123 rfl rfl (by decide) trivial ?_
    refine am_aload_n eX9_open_5 rfl ?_
    refine md_getA eX9_open_6 fX9_81 (by decide) (by decide) ?_
    refine am_iload_n eX9_open_9 rfl ?_
    refine am_if_eq ⟨by omega, by omega⟩ eX9_open_10 (fun _ => ?_) (fun z => absurd z (by decide))
    refine am_iconst eX9_open_17 ?_
    refine md_ald (f := 28) (j := 0) (v := m 28 0) eX9_open_18 (by show _ < 2; omega) rfl (by omega) ((st_nf (by decide)).trans rfl) ?_
    have b2 := wb28 hW 0
    refine am_ireturn eX9_open_19 rfl trivial (Nat.zero_le _) (Nat.zero_le _) ?_
    exact am_is_m (by first | rfl | (unfold an_open; (try simp only [Int.toNat_zero, Int.toNat_one]); (repeat' split) <;> first | rfl | omega | (simp only [Nat.mul_zero, Nat.mul_one] at *; omega))) (by first | rfl | (unfold sp_open; (try simp only [Int.toNat_zero, Int.toNat_one]); (repeat' split) <;> first | rfl | (exfalso; omega)))
  · refine am_aload_n eX9_open_0 rfl ?_
    refine am_iconst eX9_open_1 ?_
    refine md_put eX9_open_2 fX9_123 rfl rfl (by decide) trivial ?_
    refine am_aload_n eX9_open_5 rfl ?_
    refine md_getA eX9_open_6 fX9_81 (by decide) (by decide) ?_
    refine am_iload_n eX9_open_9 rfl ?_
    refine am_if_eq ⟨by omega, by omega⟩ eX9_open_10 (fun z => absurd z (by decide)) (fun _ => ?_)
    refine am_iconst eX9_open_13 ?_
    refine am_goto eX9_open_14 ?_
    refine md_ald (f := 28) (j := 1) (v := m 28 1) eX9_open_18 (by show _ < 2; omega) rfl (by omega) ((st_nf (by decide)).trans rfl) ?_
    have b2 := wb28 hW 1
    refine am_ireturn eX9_open_19 rfl trivial (Nat.zero_le _) (Nat.zero_le _) ?_
    exact am_is_m (by first | rfl | (unfold an_open; (try simp only [Int.toNat_zero, Int.toNat_one]); (repeat' split) <;> first | rfl | omega | (simp only [Nat.mul_zero, Nat.mul_one] at *; omega))) (by first | rfl | (unfold sp_open; (try simp only [Int.toNat_zero, Int.toNat_one]); (repeat' split) <;> first | rfl | (exfalso; omega)))
set_option maxRecDepth 100000 in
set_option maxHeartbeats 4000000 in
theorem c_X9_told {G : am_G} {m x : sg_S} {T : Int} (hW : md_wb T m) {u n a : Int} (hr_n : -2147483648 ≤ n ∧ n < 2147483648) (hr_a : -2147483648 ≤ a ∧ a < 2147483648) (hb_u : u = 0 ∨ u = 1)  : am_Con G yX9_told wX9_told 2 0 0 [am_R (9, 0), am_I u, am_I n, am_I a] (en_h m x) (am_is (am_I (an_told m u n a)) (en_h (sp_told m u n a) x)) := by
  refine am_of2 (Y := mX9_told) (by decide +kernel) rfl (fun z => by cases z) rfl rfl (Nat.le_of_ble_eq_true rfl) fun X => ?_
  rcases hb_u with rfl | rfl
  · refine am_iload_n eX9_told_0 rfl ?_
    refine am_if_eq ⟨by omega, by omega⟩ eX9_told_1 (fun _ => ?_) (fun z => absurd z (by decide))
    refine am_iconst eX9_told_8 ?_
    refine am_istore eX9_told_9 (by decide) ?_
    refine am_aload_n eX9_told_11 rfl ?_
    refine am_iload_n eX9_told_12 rfl ?_
    refine am_iconst eX9_told_13 ?_
    refine am_aload_n eX9_told_14 rfl ?_
    refine md_getA eX9_told_15 fX9_96 (by decide) (by decide) ?_
    refine am_iload eX9_told_18 rfl ?_
    refine md_ald (f := 33) (j := 0) (v := m 33 0) eX9_told_20 (by show _ < 2; omega) rfl (by omega) rfl ?_
    have b2 := wb33 hW 0
    refine am_iconst eX9_told_21 ?_
    refine am_isub eX9_told_22 ?_
    refine am_cS eX9_told_23 kX9_129 (c_X9_in (v := n) (lo := 0) (hi := ((m 33 0) - 1)) ⟨by omega, by omega⟩ ⟨by omega, by omega⟩ ⟨by omega, by omega⟩) rfl rfl (by decide) (by decide) (Nat.le_of_ble_eq_true rfl) (Nat.zero_le _) (Nat.zero_le _) ?_
    refine am_bz_ne eX9_told_26 (fun c3 => ?_) (fun c3 => ?_)
    · refine am_iload_n eX9_told_33 rfl ?_
      refine am_iconst eX9_told_34 ?_
      refine am_iconst eX9_told_35 ?_
      refine am_cS eX9_told_36 kX9_129 (c_X9_in (v := a) (lo := 0) (hi := 3) ⟨by omega, by omega⟩ ⟨by omega, by omega⟩ ⟨by omega, by omega⟩) rfl rfl (by decide) (by decide) (Nat.le_of_ble_eq_true rfl) (Nat.zero_le _) (Nat.zero_le _) ?_
      refine am_bz_eq eX9_told_39 (fun c4 => ?_) (fun c4 => ?_)
      · refine am_iconst eX9_told_46 ?_
        refine md_put eX9_told_47 fX9_123 rfl rfl (by decide) trivial ?_
        refine am_aload_n eX9_told_50 rfl ?_
        refine md_getI (v := 2) eX9_told_51 fX9_123 rfl (by decide) st_eq ?_
        refine am_if_le ⟨by omega, by omega⟩ eX9_told_54 (fun z => absurd z (by decide)) (fun _ => ?_)
        refine am_iconst eX9_told_57 ?_
        refine am_ireturn eX9_told_58 rfl trivial (Nat.zero_le _) (Nat.zero_le _) ?_
        exact am_is_m (by first | rfl | (unfold an_told; (try simp only [Int.toNat_zero, Int.toNat_one]); (repeat' split) <;> first | rfl | omega | (simp only [Nat.mul_zero, Nat.mul_one] at *; omega))) (by first | rfl | (unfold sp_told; (try simp only [Int.toNat_zero, Int.toNat_one]); (repeat' split) <;> first | rfl | (exfalso; omega)))
      · refine am_iconst eX9_told_42 ?_
        refine am_goto eX9_told_43 ?_
        refine md_put eX9_told_47 fX9_123 rfl rfl (by decide) trivial ?_
        refine am_aload_n eX9_told_50 rfl ?_
        refine md_getI (v := 0) eX9_told_51 fX9_123 rfl (by decide) st_eq ?_
        refine am_if_le ⟨by omega, by omega⟩ eX9_told_54 (fun _ => ?_) (fun z => absurd z (by decide))
        refine am_bipush eX9_told_59 (by decide) ?_
        refine am_iload eX9_told_61 rfl ?_
        refine am_imul eX9_told_63 ?_
        refine am_steq (st' := am_I 0 :: _) rfl ?_
        refine am_iload_n eX9_told_64 rfl ?_
        refine am_iadd eX9_told_65 ?_
        refine am_istore eX9_told_66 (by decide) ?_
        refine am_iload_n eX9_told_68 rfl ?_
        refine am_if_ne ⟨by omega, by omega⟩ eX9_told_69 (fun c7 => ?_) (fun c7 => ?_)
        · refine am_iload_n eX9_told_82 rfl ?_
          refine am_iconst eX9_told_83 ?_
          refine am_icmp_ne ⟨by omega, by omega⟩ ⟨by omega, by omega⟩ eX9_told_84 (fun c8 => ?_) (fun c8 => ?_)
          · refine am_iload_n eX9_told_97 rfl ?_
            refine am_iconst eX9_told_98 ?_
            refine am_icmp_ne ⟨by omega, by omega⟩ ⟨by omega, by omega⟩ eX9_told_99 (fun c9 => ?_) (fun c9 => ?_)
            · refine am_aload_n eX9_told_114 rfl ?_
              refine md_getA eX9_told_115 fX9_105 (by decide) (by decide) ?_
              refine am_iload eX9_told_118 rfl ?_
              refine md_bald (f := 36) (j := (0 + n.toNat)) (v := m 36 (0 + n.toNat)) eX9_told_120 (by show _ < 80; omega) rfl (by omega) ((st_nf (by decide)).trans rfl) ?_
              have b10 := wb36 hW (0 + n.toNat)
              refine am_if_eq ⟨by omega, by omega⟩ eX9_told_121 (fun c11 => ?_) (fun c11 => ?_)
              · refine am_iconst eX9_told_128 ?_
                refine am_ireturn eX9_told_129 rfl trivial (Nat.zero_le _) (Nat.zero_le _) ?_
                exact am_is_m (by first | rfl | (unfold an_told; (try simp only [Int.toNat_zero, Int.toNat_one]); (repeat' split) <;> first | rfl | omega | (simp only [Nat.mul_zero, Nat.mul_one] at *; omega))) (by first | rfl | (unfold sp_told; (try simp only [Int.toNat_zero, Int.toNat_one]); (repeat' split) <;> first | rfl | (exfalso; omega)))
              · refine am_iconst eX9_told_124 ?_
                refine am_goto eX9_told_125 ?_
                refine am_ireturn eX9_told_129 rfl trivial (Nat.zero_le _) (Nat.zero_le _) ?_
                exact am_is_m (by first | rfl | (unfold an_told; (try simp only [Int.toNat_zero, Int.toNat_one]); (repeat' split) <;> first | rfl | omega | (simp only [Nat.mul_zero, Nat.mul_one] at *; omega))) (by first | rfl | (unfold sp_told; (try simp only [Int.toNat_zero, Int.toNat_one]); (repeat' split) <;> first | rfl | (exfalso; omega)))
            · refine am_aload_n eX9_told_102 rfl ?_
              refine md_getA eX9_told_103 fX9_108 (by decide) (by decide) ?_
              refine am_iload eX9_told_106 rfl ?_
              refine md_ald (f := 37) (j := (0 + n.toNat)) (v := m 37 (0 + n.toNat)) eX9_told_108 (by show _ < 80; omega) rfl (by omega) ((st_nf (by decide)).trans rfl) ?_
              have b12 := wb37 hW (0 + n.toNat)
              refine am_iconst eX9_told_109 ?_
              refine am_idiv ⟨by omega, by omega⟩ (by omega) ⟨by omega, by omega⟩ (by omega) eX9_told_110 ?_
              refine am_goto eX9_told_111 ?_
              refine am_ireturn eX9_told_129 rfl trivial (Nat.zero_le _) (Nat.zero_le _) ?_
              exact am_is_m (by first | rfl | (unfold an_told; (try simp only [Int.toNat_zero, Int.toNat_one]); (repeat' split) <;> first | rfl | omega | (simp only [Nat.mul_zero, Nat.mul_one] at *; omega))) (by first | rfl | (unfold sp_told; (try simp only [Int.toNat_zero, Int.toNat_one]); (repeat' split) <;> first | rfl | (exfalso; omega)))
          · refine am_aload_n eX9_told_87 rfl ?_
            refine md_getA eX9_told_88 fX9_99 (by decide) (by decide) ?_
            refine am_iload eX9_told_91 rfl ?_
            refine md_ald (f := 34) (j := (0 + n.toNat)) (v := m 34 (0 + n.toNat)) eX9_told_93 (by show _ < 80; omega) rfl (by omega) ((st_nf (by decide)).trans rfl) ?_
            have b13 := wb34 hW (0 + n.toNat)
            refine am_goto eX9_told_94 ?_
            refine am_ireturn eX9_told_129 rfl trivial (Nat.zero_le _) (Nat.zero_le _) ?_
            exact am_is_m (by first | rfl | (unfold an_told; (try simp only [Int.toNat_zero, Int.toNat_one]); (repeat' split) <;> first | rfl | omega | (simp only [Nat.mul_zero, Nat.mul_one] at *; omega))) (by first | rfl | (unfold sp_told; (try simp only [Int.toNat_zero, Int.toNat_one]); (repeat' split) <;> first | rfl | (exfalso; omega)))
        · refine am_aload_n eX9_told_72 rfl ?_
          refine md_getA eX9_told_73 fX9_102 (by decide) (by decide) ?_
          refine am_iload eX9_told_76 rfl ?_
          refine md_ald (f := 35) (j := (0 + n.toNat)) (v := m 35 (0 + n.toNat)) eX9_told_78 (by show _ < 80; omega) rfl (by omega) ((st_nf (by decide)).trans rfl) ?_
          have b14 := wb35 hW (0 + n.toNat)
          refine am_goto eX9_told_79 ?_
          refine am_ireturn eX9_told_129 rfl trivial (Nat.zero_le _) (Nat.zero_le _) ?_
          exact am_is_m (by first | rfl | (unfold an_told; (try simp only [Int.toNat_zero, Int.toNat_one]); (repeat' split) <;> first | rfl | omega | (simp only [Nat.mul_zero, Nat.mul_one] at *; omega))) (by first | rfl | (unfold sp_told; (try simp only [Int.toNat_zero, Int.toNat_one]); (repeat' split) <;> first | rfl | (exfalso; omega)))
    · refine am_iconst eX9_told_29 ?_
      refine am_goto eX9_told_30 ?_
      refine md_put eX9_told_47 fX9_123 rfl rfl (by decide) trivial ?_
      refine am_aload_n eX9_told_50 rfl ?_
      refine md_getI (v := 1) eX9_told_51 fX9_123 rfl (by decide) st_eq ?_
      refine am_if_le ⟨by omega, by omega⟩ eX9_told_54 (fun z => absurd z (by decide)) (fun _ => ?_)
      refine am_iconst eX9_told_57 ?_
      refine am_ireturn eX9_told_58 rfl trivial (Nat.zero_le _) (Nat.zero_le _) ?_
      exact am_is_m (by first | rfl | (unfold an_told; (try simp only [Int.toNat_zero, Int.toNat_one]); (repeat' split) <;> first | rfl | omega | (simp only [Nat.mul_zero, Nat.mul_one] at *; omega))) (by first | rfl | (unfold sp_told; (try simp only [Int.toNat_zero, Int.toNat_one]); (repeat' split) <;> first | rfl | (exfalso; omega)))
  · refine am_iload_n eX9_told_0 rfl ?_
    refine am_if_eq ⟨by omega, by omega⟩ eX9_told_1 (fun z => absurd z (by decide)) (fun _ => ?_)
    refine am_iconst eX9_told_4 ?_
    refine am_goto eX9_told_5 ?_
    refine am_istore eX9_told_9 (by decide) ?_
    refine am_aload_n eX9_told_11 rfl ?_
    refine am_iload_n eX9_told_12 rfl ?_
    refine am_iconst eX9_told_13 ?_
    refine am_aload_n eX9_told_14 rfl ?_
    refine md_getA eX9_told_15 fX9_96 (by decide) (by decide) ?_
    refine am_iload eX9_told_18 rfl ?_
    refine md_ald (f := 33) (j := 1) (v := m 33 1) eX9_told_20 (by show _ < 2; omega) rfl (by omega) rfl ?_
    have b2 := wb33 hW 1
    refine am_iconst eX9_told_21 ?_
    refine am_isub eX9_told_22 ?_
    refine am_cS eX9_told_23 kX9_129 (c_X9_in (v := n) (lo := 0) (hi := ((m 33 1) - 1)) ⟨by omega, by omega⟩ ⟨by omega, by omega⟩ ⟨by omega, by omega⟩) rfl rfl (by decide) (by decide) (Nat.le_of_ble_eq_true rfl) (Nat.zero_le _) (Nat.zero_le _) ?_
    refine am_bz_ne eX9_told_26 (fun c3 => ?_) (fun c3 => ?_)
    · refine am_iload_n eX9_told_33 rfl ?_
      refine am_iconst eX9_told_34 ?_
      refine am_iconst eX9_told_35 ?_
      refine am_cS eX9_told_36 kX9_129 (c_X9_in (v := a) (lo := 0) (hi := 3) ⟨by omega, by omega⟩ ⟨by omega, by omega⟩ ⟨by omega, by omega⟩) rfl rfl (by decide) (by decide) (Nat.le_of_ble_eq_true rfl) (Nat.zero_le _) (Nat.zero_le _) ?_
      refine am_bz_eq eX9_told_39 (fun c4 => ?_) (fun c4 => ?_)
      · refine am_iconst eX9_told_46 ?_
        refine md_put eX9_told_47 fX9_123 rfl rfl (by decide) trivial ?_
        refine am_aload_n eX9_told_50 rfl ?_
        refine md_getI (v := 2) eX9_told_51 fX9_123 rfl (by decide) st_eq ?_
        refine am_if_le ⟨by omega, by omega⟩ eX9_told_54 (fun z => absurd z (by decide)) (fun _ => ?_)
        refine am_iconst eX9_told_57 ?_
        refine am_ireturn eX9_told_58 rfl trivial (Nat.zero_le _) (Nat.zero_le _) ?_
        exact am_is_m (by first | rfl | (unfold an_told; (try simp only [Int.toNat_zero, Int.toNat_one]); (repeat' split) <;> first | rfl | omega | (simp only [Nat.mul_zero, Nat.mul_one] at *; omega))) (by first | rfl | (unfold sp_told; (try simp only [Int.toNat_zero, Int.toNat_one]); (repeat' split) <;> first | rfl | (exfalso; omega)))
      · refine am_iconst eX9_told_42 ?_
        refine am_goto eX9_told_43 ?_
        refine md_put eX9_told_47 fX9_123 rfl rfl (by decide) trivial ?_
        refine am_aload_n eX9_told_50 rfl ?_
        refine md_getI (v := 0) eX9_told_51 fX9_123 rfl (by decide) st_eq ?_
        refine am_if_le ⟨by omega, by omega⟩ eX9_told_54 (fun _ => ?_) (fun z => absurd z (by decide))
        refine am_bipush eX9_told_59 (by decide) ?_
        refine am_iload eX9_told_61 rfl ?_
        refine am_imul eX9_told_63 ?_
        refine am_steq (st' := am_I 40 :: _) rfl ?_
        refine am_iload_n eX9_told_64 rfl ?_
        refine am_iadd eX9_told_65 ?_
        refine am_istore eX9_told_66 (by decide) ?_
        refine am_iload_n eX9_told_68 rfl ?_
        refine am_if_ne ⟨by omega, by omega⟩ eX9_told_69 (fun c7 => ?_) (fun c7 => ?_)
        · refine am_iload_n eX9_told_82 rfl ?_
          refine am_iconst eX9_told_83 ?_
          refine am_icmp_ne ⟨by omega, by omega⟩ ⟨by omega, by omega⟩ eX9_told_84 (fun c8 => ?_) (fun c8 => ?_)
          · refine am_iload_n eX9_told_97 rfl ?_
            refine am_iconst eX9_told_98 ?_
            refine am_icmp_ne ⟨by omega, by omega⟩ ⟨by omega, by omega⟩ eX9_told_99 (fun c9 => ?_) (fun c9 => ?_)
            · refine am_aload_n eX9_told_114 rfl ?_
              refine md_getA eX9_told_115 fX9_105 (by decide) (by decide) ?_
              refine am_iload eX9_told_118 rfl ?_
              refine md_bald (f := 36) (j := (40 + n.toNat)) (v := m 36 (40 + n.toNat)) eX9_told_120 (by show _ < 80; omega) rfl (by omega) ((st_nf (by decide)).trans rfl) ?_
              have b10 := wb36 hW (40 + n.toNat)
              refine am_if_eq ⟨by omega, by omega⟩ eX9_told_121 (fun c11 => ?_) (fun c11 => ?_)
              · refine am_iconst eX9_told_128 ?_
                refine am_ireturn eX9_told_129 rfl trivial (Nat.zero_le _) (Nat.zero_le _) ?_
                exact am_is_m (by first | rfl | (unfold an_told; (try simp only [Int.toNat_zero, Int.toNat_one]); (repeat' split) <;> first | rfl | omega | (simp only [Nat.mul_zero, Nat.mul_one] at *; omega))) (by first | rfl | (unfold sp_told; (try simp only [Int.toNat_zero, Int.toNat_one]); (repeat' split) <;> first | rfl | (exfalso; omega)))
              · refine am_iconst eX9_told_124 ?_
                refine am_goto eX9_told_125 ?_
                refine am_ireturn eX9_told_129 rfl trivial (Nat.zero_le _) (Nat.zero_le _) ?_
                exact am_is_m (by first | rfl | (unfold an_told; (try simp only [Int.toNat_zero, Int.toNat_one]); (repeat' split) <;> first | rfl | omega | (simp only [Nat.mul_zero, Nat.mul_one] at *; omega))) (by first | rfl | (unfold sp_told; (try simp only [Int.toNat_zero, Int.toNat_one]); (repeat' split) <;> first | rfl | (exfalso; omega)))
            · refine am_aload_n eX9_told_102 rfl ?_
              refine md_getA eX9_told_103 fX9_108 (by decide) (by decide) ?_
              refine am_iload eX9_told_106 rfl ?_
              refine md_ald (f := 37) (j := (40 + n.toNat)) (v := m 37 (40 + n.toNat)) eX9_told_108 (by show _ < 80; omega) rfl (by omega) ((st_nf (by decide)).trans rfl) ?_
              have b12 := wb37 hW (40 + n.toNat)
              refine am_iconst eX9_told_109 ?_
              refine am_idiv ⟨by omega, by omega⟩ (by omega) ⟨by omega, by omega⟩ (by omega) eX9_told_110 ?_
              refine am_goto eX9_told_111 ?_
              refine am_ireturn eX9_told_129 rfl trivial (Nat.zero_le _) (Nat.zero_le _) ?_
              exact am_is_m (by first | rfl | (unfold an_told; (try simp only [Int.toNat_zero, Int.toNat_one]); (repeat' split) <;> first | rfl | omega | (simp only [Nat.mul_zero, Nat.mul_one] at *; omega))) (by first | rfl | (unfold sp_told; (try simp only [Int.toNat_zero, Int.toNat_one]); (repeat' split) <;> first | rfl | (exfalso; omega)))
          · refine am_aload_n eX9_told_87 rfl ?_
            refine md_getA eX9_told_88 fX9_99 (by decide) (by decide) ?_
            refine am_iload eX9_told_91 rfl ?_
            refine md_ald (f := 34) (j := (40 + n.toNat)) (v := m 34 (40 + n.toNat)) eX9_told_93 (by show _ < 80; omega) rfl (by omega) ((st_nf (by decide)).trans rfl) ?_
            have b13 := wb34 hW (40 + n.toNat)
            refine am_goto eX9_told_94 ?_
            refine am_ireturn eX9_told_129 rfl trivial (Nat.zero_le _) (Nat.zero_le _) ?_
            exact am_is_m (by first | rfl | (unfold an_told; (try simp only [Int.toNat_zero, Int.toNat_one]); (repeat' split) <;> first | rfl | omega | (simp only [Nat.mul_zero, Nat.mul_one] at *; omega))) (by first | rfl | (unfold sp_told; (try simp only [Int.toNat_zero, Int.toNat_one]); (repeat' split) <;> first | rfl | (exfalso; omega)))
        · refine am_aload_n eX9_told_72 rfl ?_
          refine md_getA eX9_told_73 fX9_102 (by decide) (by decide) ?_
          refine am_iload eX9_told_76 rfl ?_
          refine md_ald (f := 35) (j := (40 + n.toNat)) (v := m 35 (40 + n.toNat)) eX9_told_78 (by show _ < 80; omega) rfl (by omega) ((st_nf (by decide)).trans rfl) ?_
          have b14 := wb35 hW (40 + n.toNat)
          refine am_goto eX9_told_79 ?_
          refine am_ireturn eX9_told_129 rfl trivial (Nat.zero_le _) (Nat.zero_le _) ?_
          exact am_is_m (by first | rfl | (unfold an_told; (try simp only [Int.toNat_zero, Int.toNat_one]); (repeat' split) <;> first | rfl | omega | (simp only [Nat.mul_zero, Nat.mul_one] at *; omega))) (by first | rfl | (unfold sp_told; (try simp only [Int.toNat_zero, Int.toNat_one]); (repeat' split) <;> first | rfl | (exfalso; omega)))
    · refine am_iconst eX9_told_29 ?_
      refine am_goto eX9_told_30 ?_
      refine md_put eX9_told_47 fX9_123 rfl rfl (by decide) trivial ?_
      refine am_aload_n eX9_told_50 rfl ?_
      refine md_getI (v := 1) eX9_told_51 fX9_123 rfl (by decide) st_eq ?_
      refine am_if_le ⟨by omega, by omega⟩ eX9_told_54 (fun z => absurd z (by decide)) (fun _ => ?_)
      refine am_iconst eX9_told_57 ?_
      refine am_ireturn eX9_told_58 rfl trivial (Nat.zero_le _) (Nat.zero_le _) ?_
      exact am_is_m (by first | rfl | (unfold an_told; (try simp only [Int.toNat_zero, Int.toNat_one]); (repeat' split) <;> first | rfl | omega | (simp only [Nat.mul_zero, Nat.mul_one] at *; omega))) (by first | rfl | (unfold sp_told; (try simp only [Int.toNat_zero, Int.toNat_one]); (repeat' split) <;> first | rfl | (exfalso; omega)))
set_option maxRecDepth 100000 in
set_option maxHeartbeats 4000000 in
theorem c_X9_seen {G : am_G} {m x : sg_S} {T : Int} (hW : md_wb T m) {n : Int} (hr_n : -2147483648 ≤ n ∧ n < 2147483648)   : am_Con G yX9_seen wX9_seen 2 0 0 [am_R (9, 0), am_I n] (en_h m x) (am_is (am_I (an_seen m n)) (en_h (sp_seen m n) x)) := by
  refine am_of2 (Y := mX9_seen) (by decide +kernel) rfl (fun z => by cases z) rfl rfl (Nat.le_of_ble_eq_true rfl) fun X => ?_
  refine am_aload_n eX9_seen_0 rfl ?_
  refine am_iload_n eX9_seen_1 rfl ?_
  refine am_iconst eX9_seen_2 ?_
  refine am_aload_n eX9_seen_3 rfl ?_
  refine md_getI (v := m 39 0) eX9_seen_4 fX9_186 rfl (by decide) rfl ?_
  have b1 := wb39 hW 0
  refine am_iconst eX9_seen_7 ?_
  refine am_isub eX9_seen_8 ?_
  refine am_cS eX9_seen_9 kX9_129 (c_X9_in (v := n) (lo := 0) (hi := ((m 39 0) - 1)) ⟨by omega, by omega⟩ ⟨by omega, by omega⟩ ⟨by omega, by omega⟩) rfl rfl (by decide) (by decide) (Nat.le_of_ble_eq_true rfl) (Nat.zero_le _) (Nat.zero_le _) ?_
  refine am_bz_eq eX9_seen_12 (fun c2 => ?_) (fun c2 => ?_)
  · refine am_iconst eX9_seen_19 ?_
    refine md_put eX9_seen_20 fX9_123 rfl rfl (by decide) trivial ?_
    refine am_aload_n eX9_seen_23 rfl ?_
    refine md_getI (v := 1) eX9_seen_24 fX9_123 rfl (by decide) st_eq ?_
    refine am_if_le ⟨by omega, by omega⟩ eX9_seen_27 (fun z => absurd z (by decide)) (fun _ => ?_)
    refine am_iconst eX9_seen_30 ?_
    refine am_goto eX9_seen_31 ?_
    refine am_ireturn eX9_seen_40 rfl trivial (Nat.zero_le _) (Nat.zero_le _) ?_
    exact am_is_m (by first | rfl | (unfold an_seen; (try simp only [Int.toNat_zero, Int.toNat_one]); (repeat' split) <;> first | rfl | omega | (simp only [Nat.mul_zero, Nat.mul_one] at *; omega))) (by first | rfl | (unfold sp_seen; (try simp only [Int.toNat_zero, Int.toNat_one]); (repeat' split) <;> first | rfl | (exfalso; omega)))
  · refine am_iconst eX9_seen_15 ?_
    refine am_goto eX9_seen_16 ?_
    refine md_put eX9_seen_20 fX9_123 rfl rfl (by decide) trivial ?_
    refine am_aload_n eX9_seen_23 rfl ?_
    refine md_getI (v := 0) eX9_seen_24 fX9_123 rfl (by decide) st_eq ?_
    refine am_if_le ⟨by omega, by omega⟩ eX9_seen_27 (fun _ => ?_) (fun z => absurd z (by decide))
    refine am_aload_n eX9_seen_34 rfl ?_
    refine md_getA eX9_seen_35 fX9_117 (by decide) (by decide) ?_
    refine am_iload_n eX9_seen_38 rfl ?_
    refine md_ald (f := 41) (j := n.toNat) (v := m 41 n.toNat) eX9_seen_39 (by show _ < 6; omega) rfl (by omega) ((st_nf (by decide)).trans rfl) ?_
    have b5 := wb41 hW n.toNat
    refine am_ireturn eX9_seen_40 rfl trivial (Nat.zero_le _) (Nat.zero_le _) ?_
    exact am_is_m (by first | rfl | (unfold an_seen; (try simp only [Int.toNat_zero, Int.toNat_one]); (repeat' split) <;> first | rfl | omega | (simp only [Nat.mul_zero, Nat.mul_one] at *; omega))) (by first | rfl | (unfold sp_seen; (try simp only [Int.toNat_zero, Int.toNat_one]); (repeat' split) <;> first | rfl | (exfalso; omega)))
set_option maxRecDepth 100000 in
set_option maxHeartbeats 4000000 in
theorem c_X9_comes {G : am_G} {m x : sg_S} {T : Int} (hW : md_wb T m) {a : Int} (hr_a : -2147483648 ≤ a ∧ a < 2147483648)   : am_Con G yX9_comes wX9_comes 2 0 0 [am_R (9, 0), am_I a] (en_h m x) (am_is (am_I (an_comes m a)) (en_h (sp_comes m a) x)) := by
  refine am_of2 (Y := mX9_comes) (by decide +kernel) rfl (fun z => by cases z) rfl rfl (Nat.le_of_ble_eq_true rfl) fun X => ?_
  refine am_aload_n eX9_comes_0 rfl ?_
  refine am_iload_n eX9_comes_1 rfl ?_
  refine am_iconst eX9_comes_2 ?_
  refine am_bipush eX9_comes_3 (by decide) ?_
  refine am_cS eX9_comes_5 kX9_129 (c_X9_in (v := a) (lo := 1) (hi := 99) ⟨by omega, by omega⟩ ⟨by omega, by omega⟩ ⟨by omega, by omega⟩) rfl rfl (by decide) (by decide) (Nat.le_of_ble_eq_true rfl) (Nat.zero_le _) (Nat.zero_le _) ?_
  refine am_bz_eq eX9_comes_8 (fun c1 => ?_) (fun c1 => ?_)
  · refine am_iconst eX9_comes_15 ?_
    refine md_put eX9_comes_16 fX9_123 rfl rfl (by decide) trivial ?_
    refine am_aload_n eX9_comes_19 rfl ?_
    refine md_getI (v := 1) eX9_comes_20 fX9_123 rfl (by decide) st_eq ?_
    refine am_if_le ⟨by omega, by omega⟩ eX9_comes_23 (fun z => absurd z (by decide)) (fun _ => ?_)
    refine am_iconst eX9_comes_26 ?_
    refine am_goto eX9_comes_27 ?_
    refine am_ireturn eX9_comes_50 rfl trivial (Nat.zero_le _) (Nat.zero_le _) ?_
    exact am_is_m (by first | rfl | (unfold an_comes; (try simp only [Int.toNat_zero, Int.toNat_one]); (repeat' split) <;> first | rfl | omega | (simp only [Nat.mul_zero, Nat.mul_one] at *; omega))) (by first | rfl | (unfold sp_comes; (try simp only [Int.toNat_zero, Int.toNat_one]); (repeat' split) <;> first | rfl | (exfalso; omega)))
  · refine am_iconst eX9_comes_11 ?_
    refine am_goto eX9_comes_12 ?_
    refine md_put eX9_comes_16 fX9_123 rfl rfl (by decide) trivial ?_
    refine am_aload_n eX9_comes_19 rfl ?_
    refine md_getI (v := 0) eX9_comes_20 fX9_123 rfl (by decide) st_eq ?_
    refine am_if_le ⟨by omega, by omega⟩ eX9_comes_23 (fun _ => ?_) (fun z => absurd z (by decide))
    refine am_aload_n eX9_comes_30 rfl ?_
    refine md_getI (v := m 3 0) eX9_comes_31 fX9_126 rfl (by decide) ((st_nf (by decide)).trans rfl) ?_
    have b4 := wb3 hW 0
    refine am_iconst eX9_comes_34 ?_
    refine am_icmp_ge ⟨by omega, by omega⟩ ⟨by omega, by omega⟩ eX9_comes_35 (fun c5 => ?_) (fun c5 => ?_)
    · refine am_aload_n eX9_comes_42 rfl ?_
      refine md_getI (v := m 3 0) eX9_comes_43 fX9_126 rfl (by decide) ((st_nf (by decide)).trans rfl) ?_
      have b6 := wb3 hW 0
      refine am_iload_n eX9_comes_46 rfl ?_
      refine am_iadd eX9_comes_47 ?_
      refine am_iconst eX9_comes_48 ?_
      refine am_isub eX9_comes_49 ?_
      refine am_ireturn eX9_comes_50 rfl trivial (Nat.zero_le _) (Nat.zero_le _) ?_
      exact am_is_m (by first | rfl | (unfold an_comes; (try simp only [Int.toNat_zero, Int.toNat_one]); (repeat' split) <;> first | rfl | omega | (simp only [Nat.mul_zero, Nat.mul_one] at *; omega))) (by first | rfl | (unfold sp_comes; (try simp only [Int.toNat_zero, Int.toNat_one]); (repeat' split) <;> first | rfl | (exfalso; omega)))
    · refine am_iconst eX9_comes_38 ?_
      refine am_goto eX9_comes_39 ?_
      refine am_ireturn eX9_comes_50 rfl trivial (Nat.zero_le _) (Nat.zero_le _) ?_
      exact am_is_m (by first | rfl | (unfold an_comes; (try simp only [Int.toNat_zero, Int.toNat_one]); (repeat' split) <;> first | rfl | omega | (simp only [Nat.mul_zero, Nat.mul_one] at *; omega))) (by first | rfl | (unfold sp_comes; (try simp only [Int.toNat_zero, Int.toNat_one]); (repeat' split) <;> first | rfl | (exfalso; omega)))
set_option maxRecDepth 100000 in
set_option maxHeartbeats 4000000 in
theorem c_X9_comesAnew {G : am_G} {m x : sg_S} {T : Int} (hW : md_wb T m) {a : Int} (hr_a : -2147483648 ≤ a ∧ a < 2147483648)   : am_Con G yX9_comesAnew wX9_comesAnew 2 0 0 [am_R (9, 0), am_I a] (en_h m x) (am_is (am_I (an_comesAnew m a)) (en_h (sp_comesAnew m a) x)) := by
  refine am_of2 (Y := mX9_comesAnew) (by decide +kernel) rfl (fun z => by cases z) rfl rfl (Nat.le_of_ble_eq_true rfl) fun X => ?_
  refine am_aload_n eX9_comesAnew_0 rfl ?_
  refine am_iload_n eX9_comesAnew_1 rfl ?_
  refine am_iconst eX9_comesAnew_2 ?_
  refine am_bipush eX9_comesAnew_3 (by decide) ?_
  refine am_cS eX9_comesAnew_5 kX9_129 (c_X9_in (v := a) (lo := 1) (hi := 99) ⟨by omega, by omega⟩ ⟨by omega, by omega⟩ ⟨by omega, by omega⟩) rfl rfl (by decide) (by decide) (Nat.le_of_ble_eq_true rfl) (Nat.zero_le _) (Nat.zero_le _) ?_
  refine am_bz_eq eX9_comesAnew_8 (fun c1 => ?_) (fun c1 => ?_)
  · refine am_iconst eX9_comesAnew_15 ?_
    refine md_put eX9_comesAnew_16 fX9_123 rfl rfl (by decide) trivial ?_
    refine am_aload_n eX9_comesAnew_19 rfl ?_
    refine md_getI (v := 1) eX9_comesAnew_20 fX9_123 rfl (by decide) st_eq ?_
    refine am_if_le ⟨by omega, by omega⟩ eX9_comesAnew_23 (fun z => absurd z (by decide)) (fun _ => ?_)
    refine am_iconst eX9_comesAnew_26 ?_
    refine am_goto eX9_comesAnew_27 ?_
    refine am_ireturn eX9_comesAnew_50 rfl trivial (Nat.zero_le _) (Nat.zero_le _) ?_
    exact am_is_m (by first | rfl | (unfold an_comesAnew; (try simp only [Int.toNat_zero, Int.toNat_one]); (repeat' split) <;> first | rfl | omega | (simp only [Nat.mul_zero, Nat.mul_one] at *; omega))) (by first | rfl | (unfold sp_comesAnew; (try simp only [Int.toNat_zero, Int.toNat_one]); (repeat' split) <;> first | rfl | (exfalso; omega)))
  · refine am_iconst eX9_comesAnew_11 ?_
    refine am_goto eX9_comesAnew_12 ?_
    refine md_put eX9_comesAnew_16 fX9_123 rfl rfl (by decide) trivial ?_
    refine am_aload_n eX9_comesAnew_19 rfl ?_
    refine md_getI (v := 0) eX9_comesAnew_20 fX9_123 rfl (by decide) st_eq ?_
    refine am_if_le ⟨by omega, by omega⟩ eX9_comesAnew_23 (fun _ => ?_) (fun z => absurd z (by decide))
    refine am_aload_n eX9_comesAnew_30 rfl ?_
    refine md_getI (v := m 3 0) eX9_comesAnew_31 fX9_126 rfl (by decide) ((st_nf (by decide)).trans rfl) ?_
    have b4 := wb3 hW 0
    refine am_iconst eX9_comesAnew_34 ?_
    refine am_icmp_ge ⟨by omega, by omega⟩ ⟨by omega, by omega⟩ eX9_comesAnew_35 (fun c5 => ?_) (fun c5 => ?_)
    · refine am_aload_n eX9_comesAnew_42 rfl ?_
      refine md_getI (v := m 3 0) eX9_comesAnew_43 fX9_126 rfl (by decide) ((st_nf (by decide)).trans rfl) ?_
      have b6 := wb3 hW 0
      refine am_iload_n eX9_comesAnew_46 rfl ?_
      refine am_iadd eX9_comesAnew_47 ?_
      refine am_iconst eX9_comesAnew_48 ?_
      refine am_isub eX9_comesAnew_49 ?_
      refine am_ireturn eX9_comesAnew_50 rfl trivial (Nat.zero_le _) (Nat.zero_le _) ?_
      exact am_is_m (by first | rfl | (unfold an_comesAnew; (try simp only [Int.toNat_zero, Int.toNat_one]); (repeat' split) <;> first | rfl | omega | (simp only [Nat.mul_zero, Nat.mul_one] at *; omega))) (by first | rfl | (unfold sp_comesAnew; (try simp only [Int.toNat_zero, Int.toNat_one]); (repeat' split) <;> first | rfl | (exfalso; omega)))
    · refine am_iconst eX9_comesAnew_38 ?_
      refine am_goto eX9_comesAnew_39 ?_
      refine am_ireturn eX9_comesAnew_50 rfl trivial (Nat.zero_le _) (Nat.zero_le _) ?_
      exact am_is_m (by first | rfl | (unfold an_comesAnew; (try simp only [Int.toNat_zero, Int.toNat_one]); (repeat' split) <;> first | rfl | omega | (simp only [Nat.mul_zero, Nat.mul_one] at *; omega))) (by first | rfl | (unfold sp_comesAnew; (try simp only [Int.toNat_zero, Int.toNat_one]); (repeat' split) <;> first | rfl | (exfalso; omega)))
set_option maxRecDepth 100000 in
set_option maxHeartbeats 4000000 in
theorem c_X9_thrown {G : am_G} {m x : sg_S} {T : Int} (hW : md_wb T m) : am_Con G yX9_thrown wX9_thrown 1 0 0 [am_R (9, 0)] (en_h m x) (am_is (am_I (m 0 0)) (en_h m x)) := by
  refine am_of2 (Y := mX9_thrown) (by decide +kernel) rfl (fun z => by cases z) rfl rfl (Nat.le_of_ble_eq_true rfl) fun X => ?_
  refine am_aload_n eX9_thrown_0 rfl ?_
  refine md_getI (v := m 0 0) eX9_thrown_1 fX9_123 rfl (by decide) rfl ?_
  have b1 := wb0 hW 0
  refine am_ireturn eX9_thrown_4 rfl trivial (Nat.zero_le _) (Nat.zero_le _) ?_
  exact am_is_I rfl rfl
set_option maxRecDepth 100000 in
set_option maxHeartbeats 4000000 in
theorem c_X9_reads {G : am_G} {m x : sg_S} {T : Int} (hW : md_wb T m) {t sg : Int} (h1 : 0 ≤ t ∧ t < 12) (h2 : 0 ≤ sg ∧ sg ≤ 96) : am_Con G yX9_reads wX9_reads 1 0 0 [am_R (9, 0), am_I t, am_I sg] (en_h m x) (am_is (am_I (an_reads m t sg)) (en_h m x)) := by
  refine am_of2 (Y := mX9_reads) (by decide +kernel) rfl (fun z => by cases z) rfl rfl (Nat.le_of_ble_eq_true rfl) fun X => ?_
  refine am_bipush eX9_reads_0 (by decide) ?_
  refine am_aload_n eX9_reads_2 rfl ?_
  refine md_getI (v := m 1 0) eX9_reads_3 fX9_7 rfl (by decide) rfl ?_
  have b1 := wb1 hW 0
  refine am_imul eX9_reads_6 ?_
  refine am_bipush eX9_reads_7 (by decide) ?_
  refine am_iload_n eX9_reads_9 rfl ?_
  refine am_imul eX9_reads_10 ?_
  refine am_iadd eX9_reads_11 ?_
  refine am_bipush eX9_reads_12 (by decide) ?_
  refine am_iload_n eX9_reads_14 rfl ?_
  refine am_imul eX9_reads_15 ?_
  refine am_iadd eX9_reads_16 ?_
  refine am_aload_n eX9_reads_17 rfl ?_
  refine md_getI (v := m 11 0) eX9_reads_18 fX9_144 rfl (by decide) rfl ?_
  have b2 := wb11 hW 0
  refine am_iadd eX9_reads_21 ?_
  refine am_sipush eX9_reads_22 (by decide) ?_
  refine am_irem ⟨by omega, by omega⟩ (by omega) ⟨by omega, by omega⟩ (by omega) eX9_reads_25 ?_
  refine am_istore_n eX9_reads_26 (by decide) ?_
  refine am_iload_n eX9_reads_27 rfl ?_
  refine am_aload_n eX9_reads_28 rfl ?_
  refine md_getA eX9_reads_29 fX9_20 (by decide) (by decide) ?_
  refine am_iload_n eX9_reads_32 rfl ?_
  refine md_ald (f := 6) (j := t.toNat) (v := m 6 t.toNat) eX9_reads_33 (by show _ < 12; omega) rfl (by omega) rfl ?_
  have b3 := wb6 hW t.toNat
  refine am_icmp_ge ⟨by omega, by omega⟩ ⟨by omega, by omega⟩ eX9_reads_34 (fun c4 => ?_) (fun c4 => ?_)
  · refine am_iload_n eX9_reads_61 rfl ?_
    refine am_ireturn eX9_reads_62 rfl trivial (Nat.zero_le _) (Nat.zero_le _) ?_
    exact am_is_m (by unfold an_reads; (repeat' split) <;> first | rfl | omega) rfl
  · refine am_iload_n eX9_reads_37 rfl ?_
    refine am_bipush eX9_reads_38 (by decide) ?_
    refine am_icmp_ge ⟨by omega, by omega⟩ ⟨by omega, by omega⟩ eX9_reads_40 (fun c5 => ?_) (fun c5 => ?_)
    · refine am_iload_n eX9_reads_61 rfl ?_
      refine am_ireturn eX9_reads_62 rfl trivial (Nat.zero_le _) (Nat.zero_le _) ?_
      exact am_is_m (by unfold an_reads; (repeat' split) <;> first | rfl | omega) rfl
    · refine am_iload_n eX9_reads_43 rfl ?_
      refine am_iconst eX9_reads_44 ?_
      refine am_irem ⟨by omega, by omega⟩ (by omega) ⟨by omega, by omega⟩ (by omega) eX9_reads_45 ?_
      refine am_if_ne ⟨by omega, by omega⟩ eX9_reads_46 (fun c6 => ?_) (fun c6 => ?_)
      · refine am_iload_n eX9_reads_55 rfl ?_
        refine am_iconst eX9_reads_56 ?_
        refine am_isub eX9_reads_57 ?_
        refine am_goto eX9_reads_58 ?_
        refine am_ireturn eX9_reads_62 rfl trivial (Nat.zero_le _) (Nat.zero_le _) ?_
        exact am_is_m (by unfold an_reads; (repeat' split) <;> first | rfl | omega) rfl
      · refine am_iload_n eX9_reads_49 rfl ?_
        refine am_iconst eX9_reads_50 ?_
        refine am_iadd eX9_reads_51 ?_
        refine am_goto eX9_reads_52 ?_
        refine am_ireturn eX9_reads_62 rfl trivial (Nat.zero_le _) (Nat.zero_le _) ?_
        exact am_is_m (by unfold an_reads; (repeat' split) <;> first | rfl | omega) rfl
