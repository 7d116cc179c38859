theorem sp_low_eq {σ τ : sg_S} (h : ∀ j, τ 22 j = σ 22 j ∧ τ 23 j = σ 23 j) {b : Nat} {p : Int} : ∀ n, sp_low τ b p n = sp_low σ b p n
  | 0 => rfl
  | n + 1 => by simp only [sp_low, sp_low_eq h n, (h _).1, (h _).2]
/-- the lowest spot of a phrase in a book -/
def sp_lo (σ : sg_S) (b : Nat) (p : Int) : Int := sp_low σ b p (σ 21 b).toNat
/-- the row of signs made, after the first n phrases -/
def sp_mst (σ : sg_S) (b u : Nat) : Nat → sg_S
  | 0 => st (st σ 26 0 96) 26 u 92
  | n + 1 => st (st (sp_mst σ b u n) 26 (u + 1 + 2 * n) (sp_lo σ b (σ 25 n) / 92)) 26 (u + 1 + 2 * n + 1) (sp_lo σ b (σ 25 n) % 92)
def sp_mk (σ : sg_S) (b u : Nat) : Nat → Nat → sg_S
  | 0, i => st (sp_mst σ b u i) 26 (u + 1 + 2 * i) 93
  | n + 1, i => if sp_lo σ b (σ 25 i) = -1 then sp_mst σ b u i else sp_mk σ b u n (i + 1)
def an_mk (σ : sg_S) (b u : Nat) : Nat → Nat → Int
  | 0, i => u + 2 * i + 2
  | n + 1, i => if sp_lo σ b (σ 25 i) = -1 then -1 else an_mk σ b u n (i + 1)
theorem sp_mst_f {σ : sg_S} {b u f j : Nat} (h : f ≠ 26) : ∀ n, sp_mst σ b u n f j = σ f j
  | 0 => by simp only [sp_mst]; rw [st_nf h, st_nf h]
  | n + 1 => by simp only [sp_mst]; rw [st_nf h, st_nf h]; exact sp_mst_f h n
theorem sp_mk_f {σ : sg_S} {b u f j : Nat} (h : f ≠ 26) : ∀ n i, sp_mk σ b u n i f j = σ f j
  | 0, i => by simp only [sp_mk]; rw [st_nf h]; exact sp_mst_f h i
  | n + 1, i => by
    simp only [sp_mk]
    split
    · exact sp_mst_f h i
    · exact sp_mk_f h n (i + 1)
theorem sp_lo_in {T : Int} {σ : sg_S} (hW : md_wb T σ) {b : Nat} {p : Int} : -1 ≤ sp_lo σ b p ∧ sp_lo σ b p ≤ 8463 := sp_low_in hW _
theorem sp_mst_wb {T : Int} {σ : sg_S} (hW : md_wb T σ) {b u : Nat} : ∀ n, (∀ i, i < n → sp_lo σ b (σ 25 i) ≠ -1) → md_wb T (sp_mst σ b u n)
  | 0, _ => wb_st (wb_st hW (by show (0 : Int) ≤ _; omega) (by show _ ≤ (96 : Int); omega)) (by show (0 : Int) ≤ _; omega) (by show _ ≤ (96 : Int); omega)
  | n + 1, h => by
    have h1 := sp_lo_in hW (b := b) (p := σ 25 n)
    have h2 := h n (by omega)
    exact wb_st (wb_st (sp_mst_wb hW n fun i hi => h i (by omega)) (by show (0 : Int) ≤ _; omega) (by show _ ≤ (96 : Int); omega)) (by show (0 : Int) ≤ _; omega) (by show _ ≤ (96 : Int); omega)
theorem sp_mk_wb {T : Int} {σ : sg_S} (hW : md_wb T σ) {b u : Nat} : ∀ n i, (∀ k, k < i → sp_lo σ b (σ 25 k) ≠ -1) → md_wb T (sp_mk σ b u n i)
  | 0, i, h => wb_st (sp_mst_wb hW i h) (by show (0 : Int) ≤ _; omega) (by show _ ≤ (96 : Int); omega)
  | n + 1, i, h => by
    simp only [sp_mk]
    split
    · exact sp_mst_wb hW i h
    · rename_i hc
      exact sp_mk_wb hW n (i + 1) fun k hk => by
        rcases Nat.lt_or_ge k i with z | z
        · exact h k z
        · rw [show k = i by omega]; exact hc
theorem an_mk_in {σ : sg_S} {b u : Nat} : ∀ n i, an_mk σ b u n i = -1 ∨ an_mk σ b u n i = u + 2 * ((i + n : Nat) : Int) + 2
  | 0, i => Or.inr (by simp [an_mk])
  | n + 1, i => by
    simp only [an_mk]
    split
    · exact Or.inl rfl
    · have := an_mk_in (σ := σ) (b := b) (u := u) n (i + 1)
      omega
set_option maxRecDepth 100000 in
set_option maxHeartbeats 4000000 in
theorem lp_X9_makesSigns {G : am_G} {m x : sg_S} {T : Int} (hW : md_wb T m) {b u : Int} {un : Nat} (hb : 0 ≤ b ∧ b ≤ 2) (eu : u = (un : Int)) (hu : un ≤ 1) {A9 : Int} {B9 : sg_S} (X : am_X) : ∀ (n : Nat) (i : Nat) (nv : Int) (kv : Int) (m1 : sg_S), (kv = i) → (nv = (un : Int) + 1 + 2 * (i : Int)) → (m1 = sp_mst m b.toNat un i) → (i + n = (m 24 0).toNat) → (an_mk m b.toNat un n i = A9) → (sp_mk m b.toNat un n i = B9) → (∀ k, k < i → sp_lo m b.toNat (m 25 k) ≠ -1) → am_W G X mX9_makesSigns 2 0 0 (am_end G X 0 0 (am_is (am_I A9) (en_h B9 x))) 36 [some (am_R (9, 0)), some (am_I b), some (am_I u), some (am_I nv), some (am_I kv), none] [] (en_h m1 x) 0 0 := by
  intro n
  induction n with
  | zero =>
    intro i nv kv m1 hk hv hm hn hA hB hL
    have b24 := wb24 hW 0
    have hW1 : md_wb T m1 := by rw [hm]; exact sp_mst_wb hW i hL
    have hF1 : ∀ f j : Nat, f ≠ 26 → m1 f j = m f j := fun f j h => by rw [hm]; exact sp_mst_f h i
    refine am_iload eX9_makesSigns_36 rfl ?_
    refine am_aload_n eX9_makesSigns_38 rfl ?_
    refine md_getI (v := m 24 0) eX9_makesSigns_39 fX9_161 rfl (by decide) (hF1 24 0 (by decide)) ?_
    have b1 := wb24 hW 0
    refine am_icmp_ge ⟨by omega, by omega⟩ ⟨by omega, by omega⟩ eX9_makesSigns_42 (fun c2 => ?_) (fun c2 => absurd c2 (by omega))
    refine am_aload_n eX9_makesSigns_100 rfl ?_
    refine md_getA eX9_makesSigns_101 fX9_75 (by decide) (by decide) ?_
    refine am_iload_n eX9_makesSigns_104 rfl ?_
    refine am_bipush eX9_makesSigns_105 (by decide) ?_
    refine md_ast (f := 26) (j := (un + 1 + 2 * i)) eX9_makesSigns_107 (by show _ < 40; omega) rfl (by omega) ?_
    refine am_iload_n eX9_makesSigns_108 rfl ?_
    refine am_iconst eX9_makesSigns_109 ?_
    refine am_iadd eX9_makesSigns_110 ?_
    refine am_ireturn eX9_makesSigns_111 rfl trivial (Nat.zero_le _) (Nat.zero_le _) ?_
    exact am_is_m (by rw [← hA]; simp only [an_mk] <;> first | omega | (rw [if_pos (by omega)])) (by rw [← hB, hm]; simp only [sp_mk] <;> first | rfl | (rw [if_pos (by omega)]))
  | succ n ih =>
    intro i nv kv m1 hk hv hm hn hA hB hL
    have b24 := wb24 hW 0
    have hW1 : md_wb T m1 := by rw [hm]; exact sp_mst_wb hW i hL
    have hF1 : ∀ f j : Nat, f ≠ 26 → m1 f j = m f j := fun f j h => by rw [hm]; exact sp_mst_f h i
    refine am_iload eX9_makesSigns_36 rfl ?_
    refine am_aload_n eX9_makesSigns_38 rfl ?_
    refine md_getI (v := m 24 0) eX9_makesSigns_39 fX9_161 rfl (by decide) (hF1 24 0 (by decide)) ?_
    have b1 := wb24 hW 0
    refine am_icmp_ge ⟨by omega, by omega⟩ ⟨by omega, by omega⟩ eX9_makesSigns_42 (fun c2 => absurd c2 (by omega)) (fun c2 => ?_)
    refine am_aload_n eX9_makesSigns_45 rfl ?_
    refine am_iload_n eX9_makesSigns_46 rfl ?_
    refine am_aload_n eX9_makesSigns_47 rfl ?_
    refine md_getA eX9_makesSigns_48 fX9_72 (by decide) (by decide) ?_
    refine am_iload eX9_makesSigns_51 rfl ?_
    refine md_ald (f := 25) (j := i) (v := m 25 i) eX9_makesSigns_53 (by show _ < 12; omega) rfl (by omega) (hF1 25 i (by decide)) ?_
    have b3 := wb25 hW i
    refine am_cV eX9_makesSigns_54 kX9_164 (c_X9_lowestSpot (m := m1) (x := x) (T := T) hW1 (b := b) (s := (m 25 i)) (by omega) ⟨by omega, by omega⟩) rfl rfl en_9 (by decide) (by decide) (Nat.le_of_ble_eq_true rfl) (Nat.zero_le _) (Nat.zero_le _) ?_
    rw [sp_low_eq (σ := m) (fun j => ⟨hF1 22 j (by decide), hF1 23 j (by decide)⟩), hF1 21 _ (by decide), show sp_low m b.toNat (m 25 i) (m 21 b.toNat).toNat = sp_lo m b.toNat (m 25 i) from rfl]
    obtain ⟨f9, hf9⟩ : ∃ z, z = sp_lo m b.toNat (m 25 i) := ⟨_, rfl⟩
    have q9 := sp_lo_in hW (b := b.toNat) (p := (m 25 i))
    rw [← hf9]
    rw [← hf9] at q9
    refine am_istore eX9_makesSigns_57 (by decide) ?_
    refine am_iload eX9_makesSigns_59 rfl ?_
    refine am_iconst eX9_makesSigns_61 ?_
    refine am_icmp_ne ⟨by omega, by omega⟩ ⟨by omega, by omega⟩ eX9_makesSigns_62 (fun c4 => ?_) (fun c4 => ?_)
    · refine am_aload_n eX9_makesSigns_67 rfl ?_
      refine md_getA eX9_makesSigns_68 fX9_75 (by decide) (by decide) ?_
      refine am_iload_n eX9_makesSigns_71 rfl ?_
      refine am_iload eX9_makesSigns_72 rfl ?_
      refine am_bipush eX9_makesSigns_74 (by decide) ?_
      refine am_idiv ⟨by omega, by omega⟩ (by omega) ⟨by omega, by omega⟩ (by omega) eX9_makesSigns_76 ?_
      refine md_ast (f := 26) (j := (un + 1 + 2 * i)) eX9_makesSigns_77 (by show _ < 40; omega) rfl (by omega) ?_
      refine am_aload_n eX9_makesSigns_78 rfl ?_
      refine md_getA eX9_makesSigns_79 fX9_75 (by decide) (by decide) ?_
      refine am_iload_n eX9_makesSigns_82 rfl ?_
      refine am_iconst eX9_makesSigns_83 ?_
      refine am_iadd eX9_makesSigns_84 ?_
      refine am_iload eX9_makesSigns_85 rfl ?_
      refine am_bipush eX9_makesSigns_87 (by decide) ?_
      refine am_irem ⟨by omega, by omega⟩ (by omega) ⟨by omega, by omega⟩ (by omega) eX9_makesSigns_89 ?_
      refine md_ast (f := 26) (j := ((un + 1 + 2 * i) + 1)) eX9_makesSigns_90 (by show _ < 40; omega) rfl (by omega) ?_
      refine am_iinc eX9_makesSigns_91 rfl (by decide) ?_
      refine am_iinc eX9_makesSigns_94 rfl (by decide) ?_
      refine am_goto eX9_makesSigns_97 ?_
      refine am_ldrop 5 ?_
      exact ih (i + 1) _ _ _ (by omega) (by omega) (by rw [hm, hf9]; rfl) (by omega) (by rw [← hA]; simp only [an_mk]; rw [if_neg (by omega)]) (by rw [← hB]; simp only [sp_mk]; rw [if_neg (by omega)]) (fun k hk => by
                                                                                                                                                                                                                                                                                      rcases Nat.lt_or_ge k i with z | z
                                                                                                                                                                                                                                                                                      · exact hL k z
                                                                                                                                                                                                                                                                                      · rw [show k = i by omega]; omega)
    · refine am_iconst eX9_makesSigns_65 ?_
      refine am_ireturn eX9_makesSigns_66 rfl trivial (Nat.zero_le _) (Nat.zero_le _) ?_
      exact am_is_m (by rw [← hA]; simp only [an_mk] <;> first | omega | (rw [if_pos (by omega)])) (by rw [← hB, hm]; simp only [sp_mk] <;> first | rfl | (rw [if_pos (by omega)]))
set_option maxRecDepth 100000 in
set_option maxHeartbeats 4000000 in
theorem c_X9_makesSigns {G : am_G} {m x : sg_S} {T : Int} (hW : md_wb T m) {b u : Int} (hb : 0 ≤ b ∧ b ≤ 2) (hb_u : u = 0 ∨ u = 1) : am_Con G yX9_makesSigns wX9_makesSigns 2 0 0 [am_R (9, 0), am_I b, am_I u] (en_h m x) (am_is (am_I (an_mk m b.toNat u.toNat (m 24 0).toNat 0)) (en_h (sp_mk m b.toNat u.toNat (m 24 0).toNat 0) x)) := by
  refine am_of2 (Y := mX9_makesSigns) (by decide +kernel) rfl (fun z => by cases z) rfl rfl (Nat.le_of_ble_eq_true rfl) fun X => ?_
  have b24 := wb24 hW 0
  rcases hb_u with rfl | rfl
  · refine am_iconst eX9_makesSigns_0 ?_
    refine am_istore_n eX9_makesSigns_1 (by decide) ?_
    refine am_aload_n eX9_makesSigns_2 rfl ?_
    refine md_getA eX9_makesSigns_3 fX9_75 (by decide) (by decide) ?_
    refine am_iconst eX9_makesSigns_6 ?_
    refine am_bipush eX9_makesSigns_7 (by decide) ?_
    refine md_ast (f := 26) (j := 0) eX9_makesSigns_9 (by show _ < 40; omega) rfl (by omega) ?_
    refine am_iload_n eX9_makesSigns_10 rfl ?_
    refine am_iload_n eX9_makesSigns_11 rfl ?_
    refine am_if_eq ⟨by omega, by omega⟩ eX9_makesSigns_12 (fun _ => ?_) (fun z => absurd z (by decide))
    refine am_iconst eX9_makesSigns_19 ?_
    refine am_iadd eX9_makesSigns_20 ?_
    refine am_steq (st' := am_I 0 :: _) rfl ?_
    refine am_istore_n eX9_makesSigns_21 (by decide) ?_
    refine am_aload_n eX9_makesSigns_22 rfl ?_
    refine md_getA eX9_makesSigns_23 fX9_75 (by decide) (by decide) ?_
    refine am_iload_n eX9_makesSigns_26 rfl ?_
    refine am_bipush eX9_makesSigns_27 (by decide) ?_
    refine md_ast (f := 26) (j := 0) eX9_makesSigns_29 (by show _ < 40; omega) rfl (by omega) ?_
    refine am_heq (congrArg (fun z => en_h z x) st_st) ?_
    refine am_iinc eX9_makesSigns_30 rfl (by decide) ?_
    refine am_iconst eX9_makesSigns_33 ?_
    refine am_istore eX9_makesSigns_34 (by decide) ?_
    exact lp_X9_makesSigns hW (u := 0) (un := 0) hb rfl (by decide) X (m 24 0).toNat 0 _ _ _ (by omega) (by omega) (by simp only [sp_mst] <;> first | rfl | exact st_st.symm) (Nat.zero_add _) rfl rfl (fun k hk => absurd hk (Nat.not_lt_zero k))
  · refine am_iconst eX9_makesSigns_0 ?_
    refine am_istore_n eX9_makesSigns_1 (by decide) ?_
    refine am_aload_n eX9_makesSigns_2 rfl ?_
    refine md_getA eX9_makesSigns_3 fX9_75 (by decide) (by decide) ?_
    refine am_iconst eX9_makesSigns_6 ?_
    refine am_bipush eX9_makesSigns_7 (by decide) ?_
    refine md_ast (f := 26) (j := 0) eX9_makesSigns_9 (by show _ < 40; omega) rfl (by omega) ?_
    refine am_iload_n eX9_makesSigns_10 rfl ?_
    refine am_iload_n eX9_makesSigns_11 rfl ?_
    refine am_if_eq ⟨by omega, by omega⟩ eX9_makesSigns_12 (fun z => absurd z (by decide)) (fun _ => ?_)
    refine am_iconst eX9_makesSigns_15 ?_
    refine am_goto eX9_makesSigns_16 ?_
    refine am_iadd eX9_makesSigns_20 ?_
    refine am_steq (st' := am_I 1 :: _) rfl ?_
    refine am_istore_n eX9_makesSigns_21 (by decide) ?_
    refine am_aload_n eX9_makesSigns_22 rfl ?_
    refine md_getA eX9_makesSigns_23 fX9_75 (by decide) (by decide) ?_
    refine am_iload_n eX9_makesSigns_26 rfl ?_
    refine am_bipush eX9_makesSigns_27 (by decide) ?_
    refine md_ast (f := 26) (j := 1) eX9_makesSigns_29 (by show _ < 40; omega) rfl (by omega) ?_
    refine am_iinc eX9_makesSigns_30 rfl (by decide) ?_
    refine am_iconst eX9_makesSigns_33 ?_
    refine am_istore eX9_makesSigns_34 (by decide) ?_
    exact lp_X9_makesSigns hW (u := 1) (un := 1) hb rfl (by decide) X (m 24 0).toNat 0 _ _ _ (by omega) (by omega) (by simp only [sp_mst] <;> first | rfl | exact st_st.symm) (Nat.zero_add _) rfl rfl (fun k hk => absurd hk (Nat.not_lt_zero k))
