theorem am_ldrop {G : am_G} {X : am_X} {Y : am_Y} {d mc ms : Nat} {Q : State → Prop} {pc k n : Nat} {ls : List (Option am_AV)} {st : List am_AV} {h : am_AH} (i : Nat) (kk : am_W G X Y d mc ms Q pc (ls.set i none) st h k n) : am_W G X Y d mc ms Q pc ls st h k n := by
  refine am_lless (List.length_set) (fun j v hj => ?_) kk
  by_cases e : j = i
  · subst e
    by_cases hl : j < ls.length
    · rw [List.getElem?_set_self hl] at hj
      cases hj
    · rw [List.getElem?_eq_none (by rw [List.length_set]; omega)] at hj
      cases hj
  · rw [List.getElem?_set_ne (Ne.symm e)] at hj
    exact hj
theorem md_mulb {a b : Int} (h1 : -99 ≤ a ∧ a ≤ 99) (h2 : 0 ≤ b ∧ b ≤ 19) : -1881 ≤ a * b ∧ a * b ≤ 1881 := by
  have h3 : a * b ≤ 99 * b := Int.mul_le_mul_of_nonneg_right h1.2 h2.1
  have h4 : (-99) * b ≤ a * b := Int.mul_le_mul_of_nonneg_right h1.1 h2.1
  omega
theorem md_divb {a b : Int} (h1 : -1881 ≤ a ∧ a ≤ 1881) (h2 : 1 ≤ b) : -1881 ≤ a / b ∧ a / b ≤ 1881 := by
  have hb : 0 < b := by omega
  refine ⟨Int.le_ediv_of_mul_le hb ?_, Int.le_of_lt_add_one (Int.ediv_lt_of_lt_mul hb ?_)⟩
  · have : (-1881) * b ≤ (-1881) * 1 := Int.mul_le_mul_of_nonpos_left (by decide) h2
    omega
  · have : (1881 + 1) * 1 ≤ (1881 + 1) * b := Int.mul_le_mul_of_nonneg_left h2 (by decide)
    omega
/-- whether a stretch can be seen along: its first n hills looked at -/
def sp_sl (σ : sg_S) (s : Nat) : Nat → Int
  | 0 => bz (decide ((360 ≤ σ 1 0 % 1440 ∧ σ 1 0 % 1440 ≤ 1079) ∧ (σ 7 s = 0 ∨ σ 7 s = 1 ∧ σ 5 (s + 1) ≤ 10)))
  | n + 1 => bz (decide (sp_sl σ s n = 1 ∧ σ 9 (3 * s + n) ≤ σ 4 s + (σ 4 (s + 1) - σ 4 s) * σ 10 (3 * s + n) / σ 5 (s + 1)))
theorem sp_sl_01 {σ : sg_S} {s : Nat} : ∀ n, sp_sl σ s n = 0 ∨ sp_sl σ s n = 1
  | 0 => bz_01 _
  | _ + 1 => bz_01 _
def an_see (σ : sg_S) (s : Nat) : Int := sp_sl σ s (σ 8 s).toNat
set_option maxRecDepth 100000 in
set_option maxHeartbeats 4000000 in
theorem lp_X9_seesAlong {G : am_G} {m x : sg_S} {T : Int} (hW : md_wb T m) {s : Int} (hs : 0 ≤ s ∧ s ≤ m 3 0 - 2) (hF : 1 ≤ m 5 (s.toNat + 1)) (X : am_X) : ∀ (n : Nat) (i : Nat) (kv : Int) (fv : Int), (kv = 3 * s + i) → (fv = sp_sl m s.toNat i) → (i + n = (m 8 s.toNat).toNat) → am_W G X mX9_seesAlong 3 0 0 (am_end G X 0 0 (am_is (am_I (an_see m s.toNat)) (en_h m x))) 52 [some (am_R (9, 0)), some (am_I s), some (am_I (m 5 (s.toNat + 1))), some (am_I fv), some (am_I kv), none] [] (en_h m x) 0 0 := by
  intro n
  induction n with
  | zero =>
    intro i kv fv hk hf hn
    have bb := wb8 hW s.toNat
    have b0 := wb3 hW 0
    have b5 := wb5 hW (s.toNat + 1)
    have bf := sp_sl_01 (σ := m) (s := s.toNat) i
    refine am_iload eX9_seesAlong_52 rfl ?_
    refine am_iconst eX9_seesAlong_54 ?_
    refine am_iload_n eX9_seesAlong_55 rfl ?_
    refine am_imul eX9_seesAlong_56 ?_
    refine am_aload_n eX9_seesAlong_57 rfl ?_
    refine md_getA eX9_seesAlong_58 fX9_26 (by decide) (by decide) ?_
    refine am_iload_n eX9_seesAlong_61 rfl ?_
    refine md_ald (f := 8) (j := s.toNat) (v := m 8 s.toNat) eX9_seesAlong_62 (by show _ < 12; omega) rfl (by omega) rfl ?_
    have b1 := wb8 hW s.toNat
    refine am_iadd eX9_seesAlong_63 ?_
    refine am_icmp_ge ⟨by omega, by omega⟩ ⟨by omega, by omega⟩ eX9_seesAlong_64 (fun c2 => ?_) (fun c2 => absurd c2 (by omega))
    refine am_iload_n eX9_seesAlong_131 rfl ?_
    refine am_ireturn eX9_seesAlong_132 rfl (by show _ = (0 : Int) ∨ _ = (1 : Int); omega) (Nat.zero_le _) (Nat.zero_le _) ?_
    exact am_is_I (by rw [hf]; unfold an_see; rw [← hn]; rfl) rfl
  | succ n ih =>
    intro i kv fv hk hf hn
    have bb := wb8 hW s.toNat
    have b0 := wb3 hW 0
    have b5 := wb5 hW (s.toNat + 1)
    have bf := sp_sl_01 (σ := m) (s := s.toNat) i
    refine am_iload eX9_seesAlong_52 rfl ?_
    refine am_iconst eX9_seesAlong_54 ?_
    refine am_iload_n eX9_seesAlong_55 rfl ?_
    refine am_imul eX9_seesAlong_56 ?_
    refine am_aload_n eX9_seesAlong_57 rfl ?_
    refine md_getA eX9_seesAlong_58 fX9_26 (by decide) (by decide) ?_
    refine am_iload_n eX9_seesAlong_61 rfl ?_
    refine md_ald (f := 8) (j := s.toNat) (v := m 8 s.toNat) eX9_seesAlong_62 (by show _ < 12; omega) rfl (by omega) rfl ?_
    have b1 := wb8 hW s.toNat
    refine am_iadd eX9_seesAlong_63 ?_
    refine am_icmp_ge ⟨by omega, by omega⟩ ⟨by omega, by omega⟩ eX9_seesAlong_64 (fun c2 => absurd c2 (by omega)) (fun c2 => ?_)
    refine am_aload_n eX9_seesAlong_67 rfl ?_
    refine md_getA eX9_seesAlong_68 fX9_13 (by decide) (by decide) ?_
    refine am_iload_n eX9_seesAlong_71 rfl ?_
    refine md_ald (f := 4) (j := s.toNat) (v := m 4 s.toNat) eX9_seesAlong_72 (by show _ < 12; omega) rfl (by omega) rfl ?_
    have b3 := wb4 hW s.toNat
    refine am_aload_n eX9_seesAlong_73 rfl ?_
    refine md_getA eX9_seesAlong_74 fX9_13 (by decide) (by decide) ?_
    refine am_iload_n eX9_seesAlong_77 rfl ?_
    refine am_iconst eX9_seesAlong_78 ?_
    refine am_iadd eX9_seesAlong_79 ?_
    refine md_ald (f := 4) (j := (s.toNat + 1)) (v := m 4 (s.toNat + 1)) eX9_seesAlong_80 (by show _ < 12; omega) rfl (by omega) rfl ?_
    have b4 := wb4 hW (s.toNat + 1)
    refine am_aload_n eX9_seesAlong_81 rfl ?_
    refine md_getA eX9_seesAlong_82 fX9_13 (by decide) (by decide) ?_
    refine am_iload_n eX9_seesAlong_85 rfl ?_
    refine md_ald (f := 4) (j := s.toNat) (v := m 4 s.toNat) eX9_seesAlong_86 (by show _ < 12; omega) rfl (by omega) rfl ?_
    have b5 := wb4 hW s.toNat
    refine am_isub eX9_seesAlong_87 ?_
    refine am_aload_n eX9_seesAlong_88 rfl ?_
    refine md_getA eX9_seesAlong_89 fX9_32 (by decide) (by decide) ?_
    refine am_iload eX9_seesAlong_92 rfl ?_
    refine md_ald (f := 10) (j := (3 * s.toNat + i)) (v := m 10 (3 * s.toNat + i)) eX9_seesAlong_94 (by show _ < 36; omega) rfl (by omega) rfl ?_
    have b6 := wb10 hW (3 * s.toNat + i)
    refine am_imul eX9_seesAlong_95 ?_
    have hmul := md_mulb (a := m 4 (s.toNat + 1) - m 4 s.toNat) (b := m 10 (3 * s.toNat + i)) (by omega) (by omega)
    have hdv := md_divb hmul hF
    refine am_iload_n eX9_seesAlong_96 rfl ?_
    refine am_cS eX9_seesAlong_97 kX9_151 (c_X9_down (a := (((m 4 (s.toNat + 1)) - (m 4 s.toNat)) * (m 10 (3 * s.toNat + i)))) (b := (m 5 (s.toNat + 1))) (by omega) (by omega)) rfl rfl (by decide) (by decide) (Nat.le_of_ble_eq_true rfl) (Nat.zero_le _) (Nat.zero_le _) ?_
    refine am_iadd eX9_seesAlong_100 ?_
    refine am_istore eX9_seesAlong_101 (by decide) ?_
    refine am_iload_n eX9_seesAlong_103 rfl ?_
    refine am_if_eq ⟨by omega, by omega⟩ eX9_seesAlong_104 (fun c7 => ?_) (fun c7 => ?_)
    · refine am_iconst eX9_seesAlong_123 ?_
      refine am_istore_n eX9_seesAlong_124 (by decide) ?_
      refine am_iinc eX9_seesAlong_125 rfl (by decide) ?_
      refine am_goto eX9_seesAlong_128 ?_
      refine am_ldrop 5 ?_
      exact ih (i + 1) _ _ (by omega) (by simp only [sp_sl]; exact bz_w (fun z => by omega) (fun z => by omega)) (by omega)
    · refine am_aload_n eX9_seesAlong_107 rfl ?_
      refine md_getA eX9_seesAlong_108 fX9_29 (by decide) (by decide) ?_
      refine am_iload eX9_seesAlong_111 rfl ?_
      refine md_ald (f := 9) (j := (3 * s.toNat + i)) (v := m 9 (3 * s.toNat + i)) eX9_seesAlong_113 (by show _ < 36; omega) rfl (by omega) rfl ?_
      have b8 := wb9 hW (3 * s.toNat + i)
      refine am_iload eX9_seesAlong_114 rfl ?_
      refine am_icmp_gt ⟨by omega, by omega⟩ ⟨by omega, by omega⟩ eX9_seesAlong_116 (fun c9 => ?_) (fun c9 => ?_)
      · refine am_iconst eX9_seesAlong_123 ?_
        refine am_istore_n eX9_seesAlong_124 (by decide) ?_
        refine am_iinc eX9_seesAlong_125 rfl (by decide) ?_
        refine am_goto eX9_seesAlong_128 ?_
        refine am_ldrop 5 ?_
        exact ih (i + 1) _ _ (by omega) (by simp only [sp_sl]; exact bz_w (fun z => by omega) (fun z => by omega)) (by omega)
      · refine am_iconst eX9_seesAlong_119 ?_
        refine am_goto eX9_seesAlong_120 ?_
        refine am_istore_n eX9_seesAlong_124 (by decide) ?_
        refine am_iinc eX9_seesAlong_125 rfl (by decide) ?_
        refine am_goto eX9_seesAlong_128 ?_
        refine am_ldrop 5 ?_
        exact ih (i + 1) _ _ (by omega) (by simp only [sp_sl]; exact bz_w (fun z => by omega) (fun z => by omega)) (by omega)
set_option maxRecDepth 100000 in
set_option maxHeartbeats 4000000 in
theorem c_X9_seesAlong {G : am_G} {m x : sg_S} {T : Int} (hW : md_wb T m) {s : Int} (hs : 0 ≤ s ∧ s ≤ m 3 0 - 2) (hF : 1 ≤ m 5 (s.toNat + 1)) : am_Con G yX9_seesAlong wX9_seesAlong 3 0 0 [am_R (9, 0), am_I s] (en_h m x) (am_is (am_I (an_see m s.toNat)) (en_h m x)) := by
  refine am_of2 (Y := mX9_seesAlong) (by decide +kernel) rfl (fun z => by cases z) rfl rfl (Nat.le_of_ble_eq_true rfl) fun X => ?_
  have b0 := wb3 hW 0
  refine am_aload_n eX9_seesAlong_0 rfl ?_
  refine md_getA eX9_seesAlong_1 fX9_17 (by decide) (by decide) ?_
  refine am_iload_n eX9_seesAlong_4 rfl ?_
  refine am_iconst eX9_seesAlong_5 ?_
  refine am_iadd eX9_seesAlong_6 ?_
  refine md_ald (f := 5) (j := (s.toNat + 1)) (v := m 5 (s.toNat + 1)) eX9_seesAlong_7 (by show _ < 12; omega) rfl (by omega) rfl ?_
  have b1 := wb5 hW (s.toNat + 1)
  refine am_istore_n eX9_seesAlong_8 (by decide) ?_
  refine am_aload_n eX9_seesAlong_9 rfl ?_
  refine am_cV eX9_seesAlong_10 kX9_147 (c_X9_isDay (m := m) (x := x) (T := T) hW) rfl rfl en_9 (by decide) (by decide) (Nat.le_of_ble_eq_true rfl) (Nat.zero_le _) (Nat.zero_le _) ?_
  refine am_bz_eq eX9_seesAlong_13 (fun c2 => ?_) (fun c2 => ?_)
  · refine am_iconst eX9_seesAlong_45 ?_
    refine am_istore_n eX9_seesAlong_46 (by decide) ?_
    refine am_iconst eX9_seesAlong_47 ?_
    refine am_iload_n eX9_seesAlong_48 rfl ?_
    refine am_imul eX9_seesAlong_49 ?_
    refine am_istore eX9_seesAlong_50 (by decide) ?_
    have b0 := wb3 hW 0
    exact lp_X9_seesAlong hW hs hF X _ 0 _ _ (by omega) (by simp only [sp_sl]; exact bz_w (fun z => by omega) (fun z => by omega)) (Nat.zero_add _)
  · refine am_aload_n eX9_seesAlong_16 rfl ?_
    refine md_getA eX9_seesAlong_17 fX9_23 (by decide) (by decide) ?_
    refine am_iload_n eX9_seesAlong_20 rfl ?_
    refine md_ald (f := 7) (j := s.toNat) (v := m 7 s.toNat) eX9_seesAlong_21 (by show _ < 12; omega) rfl (by omega) rfl ?_
    have b3 := wb7 hW s.toNat
    refine am_if_eq ⟨by omega, by omega⟩ eX9_seesAlong_22 (fun c4 => ?_) (fun c4 => ?_)
    · refine am_iconst eX9_seesAlong_41 ?_
      refine am_goto eX9_seesAlong_42 ?_
      refine am_istore_n eX9_seesAlong_46 (by decide) ?_
      refine am_iconst eX9_seesAlong_47 ?_
      refine am_iload_n eX9_seesAlong_48 rfl ?_
      refine am_imul eX9_seesAlong_49 ?_
      refine am_istore eX9_seesAlong_50 (by decide) ?_
      have b0 := wb3 hW 0
      exact lp_X9_seesAlong hW hs hF X _ 0 _ _ (by omega) (by simp only [sp_sl]; exact bz_w (fun z => by omega) (fun z => by omega)) (Nat.zero_add _)
    · refine am_aload_n eX9_seesAlong_25 rfl ?_
      refine md_getA eX9_seesAlong_26 fX9_23 (by decide) (by decide) ?_
      refine am_iload_n eX9_seesAlong_29 rfl ?_
      refine md_ald (f := 7) (j := s.toNat) (v := m 7 s.toNat) eX9_seesAlong_30 (by show _ < 12; omega) rfl (by omega) rfl ?_
      have b5 := wb7 hW s.toNat
      refine am_iconst eX9_seesAlong_31 ?_
      refine am_icmp_ne ⟨by omega, by omega⟩ ⟨by omega, by omega⟩ eX9_seesAlong_32 (fun c6 => ?_) (fun c6 => ?_)
      · refine am_iconst eX9_seesAlong_45 ?_
        refine am_istore_n eX9_seesAlong_46 (by decide) ?_
        refine am_iconst eX9_seesAlong_47 ?_
        refine am_iload_n eX9_seesAlong_48 rfl ?_
        refine am_imul eX9_seesAlong_49 ?_
        refine am_istore eX9_seesAlong_50 (by decide) ?_
        have b0 := wb3 hW 0
        exact lp_X9_seesAlong hW hs hF X _ 0 _ _ (by omega) (by simp only [sp_sl]; exact bz_w (fun z => by omega) (fun z => by omega)) (Nat.zero_add _)
      · refine am_iload_n eX9_seesAlong_35 rfl ?_
        refine am_bipush eX9_seesAlong_36 (by decide) ?_
        refine am_icmp_gt ⟨by omega, by omega⟩ ⟨by omega, by omega⟩ eX9_seesAlong_38 (fun c7 => ?_) (fun c7 => ?_)
        · refine am_iconst eX9_seesAlong_45 ?_
          refine am_istore_n eX9_seesAlong_46 (by decide) ?_
          refine am_iconst eX9_seesAlong_47 ?_
          refine am_iload_n eX9_seesAlong_48 rfl ?_
          refine am_imul eX9_seesAlong_49 ?_
          refine am_istore eX9_seesAlong_50 (by decide) ?_
          have b0 := wb3 hW 0
          exact lp_X9_seesAlong hW hs hF X _ 0 _ _ (by omega) (by simp only [sp_sl]; exact bz_w (fun z => by omega) (fun z => by omega)) (Nat.zero_add _)
        · refine am_iconst eX9_seesAlong_41 ?_
          refine am_goto eX9_seesAlong_42 ?_
          refine am_istore_n eX9_seesAlong_46 (by decide) ?_
          refine am_iconst eX9_seesAlong_47 ?_
          refine am_iload_n eX9_seesAlong_48 rfl ?_
          refine am_imul eX9_seesAlong_49 ?_
          refine am_istore eX9_seesAlong_50 (by decide) ?_
          have b0 := wb3 hW 0
          exact lp_X9_seesAlong hW hs hF X _ 0 _ _ (by omega) (by simp only [sp_sl]; exact bz_w (fun z => by omega) (fun z => by omega)) (Nat.zero_add _)
def sp_sees (σ : sg_S) (s : Int) : sg_S := if ¬ (0 ≤ s ∧ s ≤ σ 3 0 - 2) then st σ 0 0 1 else st σ 0 0 0
theorem sp_sl_st {σ : sg_S} {f j : Nat} {v : Int} (h1 : f ≠ 1) (h4 : f ≠ 4) (h5 : f ≠ 5) (h7 : f ≠ 7) (h9 : f ≠ 9) (h10 : f ≠ 10) {s : Nat} : ∀ n, sp_sl (st σ f j v) s n = sp_sl σ s n
  | 0 => by simp [sp_sl, st, Ne.symm h1, Ne.symm h7, Ne.symm h5]
  | n + 1 => by simp [sp_sl, sp_sl_st h1 h4 h5 h7 h9 h10 n, st, Ne.symm h9, Ne.symm h4, Ne.symm h10, Ne.symm h5]
theorem an_see_st {σ : sg_S} {f j : Nat} {v : Int} (h1 : f ≠ 1) (h4 : f ≠ 4) (h5 : f ≠ 5) (h7 : f ≠ 7) (h8 : f ≠ 8) (h9 : f ≠ 9) (h10 : f ≠ 10) {s : Nat} : an_see (st σ f j v) s = an_see σ s := by
  unfold an_see
  rw [sp_sl_st h1 h4 h5 h7 h9 h10, st_nf (Ne.symm h8)]
def an_sees (σ : sg_S) (s : Int) : Int := if ¬ (0 ≤ s ∧ s ≤ σ 3 0 - 2) then 0 else an_see σ s.toNat
set_option maxRecDepth 100000 in
set_option maxHeartbeats 4000000 in
theorem c_X9_sees {G : am_G} {m x : sg_S} {T : Int} (hW : md_wb T m) {s : Int} (hr_s : -2147483648 ≤ s ∧ s < 2147483648) (hF : ∀ t : Nat, (t : Int) < m 3 0 → 1 ≤ m 5 t) : am_Con G yX9_sees wX9_sees 4 0 0 [am_R (9, 0), am_I s] (en_h m x) (am_is (am_I (an_sees m s)) (en_h (sp_sees m s) x)) := by
  refine am_of2 (Y := mX9_sees) (by decide +kernel) rfl (fun z => by cases z) rfl rfl (Nat.le_of_ble_eq_true rfl) fun X => ?_
  have b0 := wb3 hW 0
  refine am_aload_n eX9_sees_0 rfl ?_
  refine am_aload_n eX9_sees_1 rfl ?_
  refine am_iload_n eX9_sees_2 rfl ?_
  refine am_cV eX9_sees_3 kX9_137 (c_X9_isStretch (m := m) (x := x) (T := T) hW (a := s) ⟨by omega, by omega⟩) rfl rfl en_9 (by decide) (by decide) (Nat.le_of_ble_eq_true rfl) (Nat.zero_le _) (Nat.zero_le _) ?_
  have b1 := wb3 hW 0
  refine am_bz_eq eX9_sees_6 (fun c2 => ?_) (fun c2 => ?_)
  · refine am_iconst eX9_sees_13 ?_
    refine md_put eX9_sees_14 fX9_123 rfl rfl (by decide) trivial ?_
    refine am_aload_n eX9_sees_17 rfl ?_
    refine md_getI (v := 1) eX9_sees_18 fX9_123 rfl (by decide) st_eq ?_
    refine am_if_ne ⟨by omega, by omega⟩ eX9_sees_21 (fun _ => ?_) (fun z => absurd z (by decide))
    refine am_iconst eX9_sees_36 ?_
    refine am_ireturn eX9_sees_37 rfl (Or.inl rfl) (Nat.zero_le _) (Nat.zero_le _) ?_
    exact am_is_m (by unfold an_sees; split <;> first | rfl | omega | (rw [an_see_st (by decide) (by decide) (by decide) (by decide) (by decide) (by decide) (by decide)] at *; omega)) (by unfold sp_sees; (repeat' split) <;> first | rfl | (exfalso; omega))
  · refine am_iconst eX9_sees_9 ?_
    refine am_goto eX9_sees_10 ?_
    refine md_put eX9_sees_14 fX9_123 rfl rfl (by decide) trivial ?_
    refine am_aload_n eX9_sees_17 rfl ?_
    refine md_getI (v := 0) eX9_sees_18 fX9_123 rfl (by decide) st_eq ?_
    refine am_if_ne ⟨by omega, by omega⟩ eX9_sees_21 (fun z => absurd z (by decide)) (fun _ => ?_)
    refine am_aload_n eX9_sees_24 rfl ?_
    refine am_iload_n eX9_sees_25 rfl ?_
    refine am_cV eX9_sees_26 kX9_197 (c_X9_seesAlong (m := (st m 0 0 0)) (x := x) (T := T) (wb_st (f := 0) hW (by show (0 : Int) ≤ _; omega) (by show _ ≤ (3 : Int); omega)) (s := s) (by simp only [st]; simp; omega) (by simp only [st]; simp; exact hF _ (by omega))) rfl rfl en_9 (by decide) (by decide) (Nat.le_of_ble_eq_true rfl) (Nat.zero_le _) (Nat.zero_le _) ?_
    obtain ⟨f5, hf5⟩ : ∃ z, z = an_see (st m 0 0 0) s.toNat := ⟨_, rfl⟩
    rw [← hf5]
    have qf5 : f5 = 0 ∨ f5 = 1 := by rw [hf5]; exact sp_sl_01 _
    refine am_if_eq ⟨by omega, by omega⟩ eX9_sees_29 (fun c6 => ?_) (fun c6 => ?_)
    · refine am_iconst eX9_sees_36 ?_
      refine am_ireturn eX9_sees_37 rfl (Or.inl rfl) (Nat.zero_le _) (Nat.zero_le _) ?_
      exact am_is_m (by unfold an_sees; split <;> first | rfl | omega | (rw [an_see_st (by decide) (by decide) (by decide) (by decide) (by decide) (by decide) (by decide)] at *; omega)) (by unfold sp_sees; (repeat' split) <;> first | rfl | (exfalso; omega))
    · refine am_iconst eX9_sees_32 ?_
      refine am_goto eX9_sees_33 ?_
      refine am_ireturn eX9_sees_37 rfl (Or.inr rfl) (Nat.zero_le _) (Nat.zero_le _) ?_
      exact am_is_m (by unfold an_sees; split <;> first | rfl | omega | (rw [an_see_st (by decide) (by decide) (by decide) (by decide) (by decide) (by decide) (by decide)] at *; omega)) (by unfold sp_sees; (repeat' split) <;> first | rfl | (exfalso; omega))
/-- the first n spies look at tower t, which newly shows sg -/
def sp_spyl (σ : sg_S) (t sg : Int) : Nat → sg_S
  | 0 => σ
  | n + 1 => if σ 40 n = t ∧ sg < 92 ∧ (360 ≤ σ 1 0 % 1440 ∧ σ 1 0 % 1440 ≤ 1079) ∧ σ 7 t.toNat ≠ 2 ∧ σ 41 n < 200 then st (st (sp_spyl σ t sg n) 42 (200 * n + (σ 41 n).toNat) sg) 41 n (σ 41 n + 1) else sp_spyl σ t sg n
theorem sp_spyl_f {σ : sg_S} {t sg : Int} {f j : Nat} (h1 : f ≠ 41) (h2 : f ≠ 42) : ∀ n, sp_spyl σ t sg n f j = σ f j
  | 0 => rfl
  | n + 1 => by
    simp only [sp_spyl]
    split
    · rw [st_nf h1, st_nf h2]; exact sp_spyl_f h1 h2 n
    · exact sp_spyl_f h1 h2 n
theorem sp_spyl_41 {σ : sg_S} {t sg : Int} {j : Nat} : ∀ n, n ≤ j → sp_spyl σ t sg n 41 j = σ 41 j
  | 0, _ => rfl
  | n + 1, h => by
    simp only [sp_spyl]
    split
    · rw [st_ni (by omega), st_nf (by decide)]; exact sp_spyl_41 n (by omega)
    · exact sp_spyl_41 n (by omega)
theorem sp_spyl_wb {T : Int} {σ : sg_S} (hW : md_wb T σ) {t sg : Int} (h0 : 0 ≤ sg) : ∀ n, md_wb T (sp_spyl σ t sg n)
  | 0 => hW
  | n + 1 => by
    have h := sp_spyl_wb hW (t := t) h0 n
    have b := wb41 hW n
    simp only [sp_spyl]
    split
    · exact wb_st (wb_st h (by show (0 : Int) ≤ _; omega) (by show _ ≤ (91 : Int); omega)) (by show (0 : Int) ≤ _; omega) (by show _ ≤ (200 : Int); omega)
    · exact h
set_option maxRecDepth 100000 in
set_option maxHeartbeats 4000000 in
theorem lp_X9_spies {G : am_G} {m x : sg_S} {T : Int} (hW : md_wb T m) {t sg : Int} (ht : 0 ≤ t ∧ t < 12) (hg : 0 ≤ sg ∧ sg ≤ 96) (X : am_X) : ∀ (n : Nat) (i : Nat) (kv : Int) (m1 : sg_S), (kv = i) → (m1 = sp_spyl m t sg i) → (i + n = (m 39 0).toNat) → am_W G X mX9_spies 3 0 0 (am_end G X 0 0 (am_vd (en_h (sp_spyl m t sg (m 39 0).toNat) x))) 2 [some (am_R (9, 0)), some (am_I t), some (am_I sg), some (am_I kv)] [] (en_h m1 x) 0 0 := by
  intro n
  induction n with
  | zero =>
    intro i kv m1 hk hm hn
    have bb := wb39 hW 0
    have hW1 : md_wb T m1 := by rw [hm]; exact sp_spyl_wb hW hg.1 _
    refine am_iload_n eX9_spies_2 rfl ?_
    refine am_aload_n eX9_spies_3 rfl ?_
    refine md_getI (v := m 39 0) eX9_spies_4 fX9_186 rfl (by decide) (by rw [hm]; exact sp_spyl_f (by decide) (by decide) _) ?_
    have b1 := wb39 hW 0
    refine am_icmp_ge ⟨by omega, by omega⟩ ⟨by omega, by omega⟩ eX9_spies_7 (fun c2 => ?_) (fun c2 => absurd c2 (by omega))
    refine am_return eX9_spies_89 rfl (Nat.zero_le _) (Nat.zero_le _) ?_
    exact am_vd_m (by rw [hm, ← hn]; rfl)
  | succ n ih =>
    intro i kv m1 hk hm hn
    have bb := wb39 hW 0
    have hW1 : md_wb T m1 := by rw [hm]; exact sp_spyl_wb hW hg.1 _
    refine am_iload_n eX9_spies_2 rfl ?_
    refine am_aload_n eX9_spies_3 rfl ?_
    refine md_getI (v := m 39 0) eX9_spies_4 fX9_186 rfl (by decide) (by rw [hm]; exact sp_spyl_f (by decide) (by decide) _) ?_
    have b1 := wb39 hW 0
    refine am_icmp_ge ⟨by omega, by omega⟩ ⟨by omega, by omega⟩ eX9_spies_7 (fun c2 => absurd c2 (by omega)) (fun c2 => ?_)
    refine am_aload_n eX9_spies_10 rfl ?_
    refine md_getA eX9_spies_11 fX9_114 (by decide) (by decide) ?_
    refine am_iload_n eX9_spies_14 rfl ?_
    refine md_ald (f := 40) (j := i) (v := m 40 i) eX9_spies_15 (by show _ < 6; omega) rfl (by omega) (by rw [hm]; exact sp_spyl_f (by decide) (by decide) _) ?_
    have b3 := wb40 hW i
    refine am_iload_n eX9_spies_16 rfl ?_
    refine am_icmp_ne ⟨by omega, by omega⟩ ⟨by omega, by omega⟩ eX9_spies_17 (fun c4 => ?_) (fun c4 => ?_)
    · refine am_iinc eX9_spies_83 rfl (by decide) ?_
      refine am_goto eX9_spies_86 ?_
      exact ih (i + 1) _ _ (by omega) (by simp only [sp_spyl]; rw [hm]; first | (rw [if_pos (by omega)]) | (rw [if_neg (by omega)])) (by omega)
    · refine am_iload_n eX9_spies_20 rfl ?_
      refine am_bipush eX9_spies_21 (by decide) ?_
      refine am_icmp_ge ⟨by omega, by omega⟩ ⟨by omega, by omega⟩ eX9_spies_23 (fun c5 => ?_) (fun c5 => ?_)
      · refine am_iinc eX9_spies_83 rfl (by decide) ?_
        refine am_goto eX9_spies_86 ?_
        exact ih (i + 1) _ _ (by omega) (by simp only [sp_spyl]; rw [hm]; first | (rw [if_pos (by omega)]) | (rw [if_neg (by omega)])) (by omega)
      · refine am_aload_n eX9_spies_26 rfl ?_
        refine am_cV eX9_spies_27 kX9_147 (c_X9_isDay (m := m1) (x := x) (T := T) hW1) rfl rfl en_9 (by decide) (by decide) (Nat.le_of_ble_eq_true rfl) (Nat.zero_le _) (Nat.zero_le _) ?_
        refine am_topI (w := bz (decide (360 ≤ m 1 0 % 1440 ∧ m 1 0 % 1440 ≤ 1079))) (by rw [hm, sp_spyl_f (by decide) (by decide)]) ?_
        refine am_bz_eq eX9_spies_30 (fun c6 => ?_) (fun c6 => ?_)
        · refine am_iinc eX9_spies_83 rfl (by decide) ?_
          refine am_goto eX9_spies_86 ?_
          exact ih (i + 1) _ _ (by omega) (by simp only [sp_spyl]; rw [hm]; first | (rw [if_pos (by omega)]) | (rw [if_neg (by omega)])) (by omega)
        · refine am_aload_n eX9_spies_33 rfl ?_
          refine md_getA eX9_spies_34 fX9_23 (by decide) (by decide) ?_
          refine am_iload_n eX9_spies_37 rfl ?_
          refine md_ald (f := 7) (j := t.toNat) (v := m 7 t.toNat) eX9_spies_38 (by show _ < 12; omega) rfl (by omega) (by rw [hm]; exact sp_spyl_f (by decide) (by decide) _) ?_
          have b7 := wb7 hW t.toNat
          refine am_iconst eX9_spies_39 ?_
          refine am_icmp_eq ⟨by omega, by omega⟩ ⟨by omega, by omega⟩ eX9_spies_40 (fun c8 => ?_) (fun c8 => ?_)
          · refine am_iinc eX9_spies_83 rfl (by decide) ?_
            refine am_goto eX9_spies_86 ?_
            exact ih (i + 1) _ _ (by omega) (by simp only [sp_spyl]; rw [hm]; first | (rw [if_pos (by omega)]) | (rw [if_neg (by omega)])) (by omega)
          · refine am_aload_n eX9_spies_43 rfl ?_
            refine md_getA eX9_spies_44 fX9_117 (by decide) (by decide) ?_
            refine am_iload_n eX9_spies_47 rfl ?_
            refine md_ald (f := 41) (j := i) (v := m 41 i) eX9_spies_48 (by show _ < 6; omega) rfl (by omega) (by rw [hm]; exact sp_spyl_41 _ (Nat.le_refl _)) ?_
            have b9 := wb41 hW i
            refine am_sipush eX9_spies_49 (by decide) ?_
            refine am_icmp_ge ⟨by omega, by omega⟩ ⟨by omega, by omega⟩ eX9_spies_52 (fun c10 => ?_) (fun c10 => ?_)
            · refine am_iinc eX9_spies_83 rfl (by decide) ?_
              refine am_goto eX9_spies_86 ?_
              exact ih (i + 1) _ _ (by omega) (by simp only [sp_spyl]; rw [hm]; first | (rw [if_pos (by omega)]) | (rw [if_neg (by omega)])) (by omega)
            · refine am_aload_n eX9_spies_55 rfl ?_
              refine md_getA eX9_spies_56 fX9_120 (by decide) (by decide) ?_
              refine am_sipush eX9_spies_59 (by decide) ?_
              refine am_iload_n eX9_spies_62 rfl ?_
              refine am_imul eX9_spies_63 ?_
              refine am_aload_n eX9_spies_64 rfl ?_
              refine md_getA eX9_spies_65 fX9_117 (by decide) (by decide) ?_
              refine am_iload_n eX9_spies_68 rfl ?_
              refine md_ald (f := 41) (j := i) (v := m 41 i) eX9_spies_69 (by show _ < 6; omega) rfl (by omega) (by rw [hm]; exact sp_spyl_41 _ (Nat.le_refl _)) ?_
              have b11 := wb41 hW i
              refine am_iadd eX9_spies_70 ?_
              refine am_iload_n eX9_spies_71 rfl ?_
              refine md_ast (f := 42) (j := ((200 * i) + (m 41 i).toNat)) eX9_spies_72 (by show _ < 1200; omega) rfl (by omega) ?_
              refine am_aload_n eX9_spies_73 rfl ?_
              refine md_getA eX9_spies_74 fX9_117 (by decide) (by decide) ?_
              refine am_iload_n eX9_spies_77 rfl ?_
              refine am_dup2 eX9_spies_78 ?_
              refine md_ald (f := 41) (j := i) (v := m 41 i) eX9_spies_79 (by show _ < 6; omega) rfl (by omega) ((st_nf (by decide)).trans (by rw [hm]; exact sp_spyl_41 _ (Nat.le_refl _))) ?_
              have b12 := wb41 hW i
              refine am_iconst eX9_spies_80 ?_
              refine am_iadd eX9_spies_81 ?_
              refine md_ast (f := 41) (j := i) eX9_spies_82 (by show _ < 6; omega) rfl (by omega) ?_
              refine am_iinc eX9_spies_83 rfl (by decide) ?_
              refine am_goto eX9_spies_86 ?_
              exact ih (i + 1) _ _ (by omega) (by simp only [sp_spyl]; rw [hm]; first | (rw [if_pos (by omega)]) | (rw [if_neg (by omega)])) (by omega)
set_option maxRecDepth 100000 in
set_option maxHeartbeats 4000000 in
theorem c_X9_spies {G : am_G} {m x : sg_S} {T : Int} (hW : md_wb T m) {t sg : Int} (ht : 0 ≤ t ∧ t < 12) (hg : 0 ≤ sg ∧ sg ≤ 96) : am_Con G yX9_spies wX9_spies 3 0 0 [am_R (9, 0), am_I t, am_I sg] (en_h m x) (am_vd (en_h (sp_spyl m t sg (m 39 0).toNat) x)) := by
  refine am_of2 (Y := mX9_spies) (by decide +kernel) rfl (fun z => by cases z) rfl rfl (Nat.le_of_ble_eq_true rfl) fun X => ?_
  refine am_iconst eX9_spies_0 ?_
  refine am_istore_n eX9_spies_1 (by decide) ?_
  exact lp_X9_spies hW ht hg X _ 0 _ _ rfl rfl (Nat.zero_add _)
