/-- the dispatch row made, after the first n phrases -/
def sq_mst (σ : sg_S) (b u : Nat) : Nat → sg_S
  | 0 => st (st σ 50 0 96) 50 u 92
  | n + 1 => st (st (sq_mst σ b u n) 50 (u + 1 + 2 * n) (sp_lo σ b (σ 25 n) / 92)) 50 (u + 1 + 2 * n + 1) (sp_lo σ b (σ 25 n) % 92)
def sq_mk (σ : sg_S) (b u : Nat) : Nat → Nat → sg_S
  | 0, i => st (sq_mst σ b u i) 50 (u + 1 + 2 * i) 93
  | n + 1, i => if sp_lo σ b (σ 25 i) = -1 then sq_mst σ b u i else sq_mk σ b u n (i + 1)
theorem sq_mst_f {σ : sg_S} {b u f j : Nat} (h : f ≠ 50) : ∀ n, sq_mst σ b u n f j = σ f j
  | 0 => by simp only [sq_mst]; rw [st_nf h, st_nf h]
  | n + 1 => by simp only [sq_mst]; rw [st_nf h, st_nf h]; exact sq_mst_f h n
theorem sq_mk_f {σ : sg_S} {b u f j : Nat} (h : f ≠ 50) : ∀ n i, sq_mk σ b u n i f j = σ f j
  | 0, i => by simp only [sq_mk]; rw [st_nf h]; exact sq_mst_f h i
  | n + 1, i => by
    simp only [sq_mk]
    split
    · exact sq_mst_f h i
    · exact sq_mk_f h n (i + 1)
theorem sq_mst_wb {T : Int} {σ : sg_S} (hW : md_wb T σ) {b u : Nat} (n : Nat) : md_wb T (sq_mst σ b u n) := wb_of hW fun f j hf => sq_mst_f (by omega) n
theorem sq_mk_wb {T : Int} {σ : sg_S} (hW : md_wb T σ) {b u : Nat} (n i : Nat) : md_wb T (sq_mk σ b u n i) := wb_of hW fun f j hf => sq_mk_f (by omega) n i
theorem sq_mst_26 {σ τ : sg_S} {b u : Nat} (hu : u ≤ 1) (hl : ∀ p, sp_lo τ b p = sp_lo σ b p) (h25 : ∀ j, τ 25 j = σ 25 j) : ∀ n z : Nat, z < u + 1 + 2 * n → sq_mst σ b u n 50 z = sp_mst τ b u n 26 z
  | 0, z, hz => by
    simp only [sq_mst, sp_mst, st]
    by_cases c : z = u
    · simp [c]
    · have : z = 0 := by omega
      simp [c, this]
  | n + 1, z, hz => by
    simp only [sq_mst, sp_mst, hl, h25]
    simp only [st, true_and]
    by_cases c1 : z = u + 1 + 2 * n + 1
    · rw [if_pos c1, if_pos c1]
    · rw [if_neg c1, if_neg c1]
      by_cases c2 : z = u + 1 + 2 * n
      · rw [if_pos c2, if_pos c2]
      · rw [if_neg c2, if_neg c2]
        exact sq_mst_26 hu hl h25 n z (by omega)
theorem sq_mk_26 {σ τ : sg_S} {b u : Nat} (hu : u ≤ 1) (hl : ∀ p, sp_lo τ b p = sp_lo σ b p) (h25 : ∀ j, τ 25 j = σ 25 j) : ∀ n i z : Nat, an_mk σ b u n i ≠ -1 → (z : Int) < an_mk σ b u n i → sq_mk σ b u n i 50 z = sp_mk τ b u n i 26 z
  | 0, i, z, _, hz => by
    simp only [an_mk] at hz
    simp only [sq_mk, sp_mk]
    simp only [st, true_and]
    by_cases c : z = u + 1 + 2 * i
    · rw [if_pos c, if_pos c]
    · rw [if_neg c, if_neg c]
      exact sq_mst_26 hu hl h25 i z (by omega)
  | n + 1, i, z, hn, hz => by
    simp only [an_mk] at hn hz
    simp only [sq_mk, sp_mk, hl, h25]
    by_cases c : sp_lo σ b (σ 25 i) = -1
    · rw [if_pos c] at hn; exact absurd rfl hn
    · rw [if_neg c] at hn hz
      rw [if_neg c, if_neg c]
      exact sq_mk_26 hu hl h25 n (i + 1) z hn hz
theorem sp_lo_eq {σ τ : sg_S} (h : ∀ f j, f = 21 ∨ f = 22 ∨ f = 23 → τ f j = σ f j) {b : Nat} {p : Int} : sp_lo τ b p = sp_lo σ b p := by
  unfold sp_lo
  rw [h 21 b (Or.inl rfl)]
  exact sp_low_eq (fun j => ⟨h 22 j (Or.inr (Or.inl rfl)), h 23 j (Or.inr (Or.inr rfl))⟩) _
set_option maxRecDepth 100000 in
set_option maxHeartbeats 4000000 in
theorem lq_X8_layOut {G : am_G} {m x : sg_S} {T : Int} (hW : md_wb T x) {b : Nat} (hb : b < 3) {un : Nat} (hu : un ≤ 1) {uv : Int} {A9 : Int} {B9 : sg_S} (X : am_X) : ∀ (n i : Nat) (nv kv : Int) (lo : Option am_AV) (m1 : sg_S), kv = (i : Int) → nv = (un : Int) + 1 + 2 * (i : Int) → m1 = sq_mst x b un i → i + n = (x 24 0).toNat → an_mk x b un n i = A9 → sq_mk x b un n i = B9 → am_W G X mX8_layOut 2 0 0 (am_end G X 0 0 (am_is (am_I A9) (en_h m B9))) 31 [some (am_R (8, 0)), some (am_R (1, b)), some (am_I uv), some (am_I nv), some (am_I kv), lo] [] (en_h m m1) 0 0 := by
  intro n
  induction n with
  | zero =>
    intro i nv kv lo m1 hk hv hm hn hA hB
    have b24 := wb24 hW 0
    have hW1 : md_wb T m1 := by rw [hm]; exact sq_mst_wb hW i
    have hF1 : ∀ f j : Nat, f ≠ 50 → m1 f j = x f j := fun f j h => by rw [hm]; exact sq_mst_f h i
    refine am_iload eX8_layOut_31 rfl ?_
    refine am_aload_n eX8_layOut_33 rfl ?_
    refine am_getf (v := am_I (m1 24 0)) eX8_layOut_34 fX8_140 (en_c8 (m := m) (x := m1)) rfl ?_
    refine am_topI (w := x 24 0) (hF1 24 0 (by decide)) ?_
    have b1 := wb24 hW 0
    refine am_icmp_ge ⟨by omega, by omega⟩ ⟨by omega, by omega⟩ eX8_layOut_37 (fun c2 => ?_) (fun c2 => absurd c2 (by omega))
    refine am_aload_n eX8_layOut_95 rfl ?_
    refine am_getf eX8_layOut_96 fX8_36 (en_c8 (m := m) (x := m1)) rfl ?_
    refine am_iload_n eX8_layOut_99 rfl ?_
    refine am_iinc eX8_layOut_100 rfl (by decide) ?_
    refine am_bipush eX8_layOut_103 (by decide) ?_
    refine cx_astp (j := (un + 1 + 2 * i)) eX8_layOut_105 (en_c204 (m := m) (x := m1)) (by omega) (by decide) (by omega) (am_heq cx_row ?_)
    refine am_iload_n eX8_layOut_106 rfl ?_
    refine am_ireturn eX8_layOut_107 rfl trivial (Nat.zero_le _) (Nat.zero_le _) ?_
    exact cx_is (by rw [← hA]; simp only [an_mk] <;> first | omega | (rw [if_pos (by omega)])) (by rw [← hB, hm]; simp only [sq_mk] <;> first | rfl | (rw [if_pos (by omega)]))
  | succ n ih =>
    intro i nv kv lo m1 hk hv hm hn hA hB
    have b24 := wb24 hW 0
    have hW1 : md_wb T m1 := by rw [hm]; exact sq_mst_wb hW i
    have hF1 : ∀ f j : Nat, f ≠ 50 → m1 f j = x f j := fun f j h => by rw [hm]; exact sq_mst_f h i
    refine am_iload eX8_layOut_31 rfl ?_
    refine am_aload_n eX8_layOut_33 rfl ?_
    refine am_getf (v := am_I (m1 24 0)) eX8_layOut_34 fX8_140 (en_c8 (m := m) (x := m1)) rfl ?_
    refine am_topI (w := x 24 0) (hF1 24 0 (by decide)) ?_
    have b1 := wb24 hW 0
    refine am_icmp_ge ⟨by omega, by omega⟩ ⟨by omega, by omega⟩ eX8_layOut_37 (fun c2 => absurd c2 (by omega)) (fun c2 => ?_)
    refine am_aload_n eX8_layOut_40 rfl ?_
    refine am_aload_n eX8_layOut_41 rfl ?_
    refine am_getf eX8_layOut_42 fX8_32 (en_c8 (m := m) (x := m1)) rfl ?_
    refine am_iload eX8_layOut_45 rfl ?_
    refine cx_aldp (j := i) (v := x 25 i) eX8_layOut_47 (en_c203 (m := m) (x := m1)) (by omega) (by decide) (by omega) (hF1 25 i (by decide)) ?_
    have b3 := wb25 hW i
    refine am_cV eX8_layOut_48 kX8_294 (c_X1_lowestSpotOf (m := m) (x := m1) hW1 (i := b) hb (s := (x 25 i)) ⟨by omega, by omega⟩) rfl rfl (en_c1 (m := m) (x := m1) (i := b) hb) (by decide) (by decide) (Nat.le_of_ble_eq_true rfl) (Nat.zero_le _) (Nat.zero_le _) ?_
    rw [sp_lo_eq (σ := x) (fun f j h => hF1 f j (by omega))]
    obtain ⟨f9, hf9⟩ : ∃ z, z = sp_lo x b (x 25 i) := ⟨_, rfl⟩
    have q9 := sp_lo_in hW (b := b) (p := x 25 i)
    rw [← hf9]
    rw [← hf9] at q9
    refine am_istore eX8_layOut_51 (by decide) ?_
    refine am_iload eX8_layOut_53 rfl ?_
    refine am_iconst eX8_layOut_55 ?_
    refine am_icmp_ne ⟨by omega, by omega⟩ ⟨by omega, by omega⟩ eX8_layOut_56 (fun c4 => ?_) (fun c4 => ?_)
    · refine am_aload_n eX8_layOut_61 rfl ?_
      refine am_getf eX8_layOut_62 fX8_36 (en_c8 (m := m) (x := m1)) rfl ?_
      refine am_iload_n eX8_layOut_65 rfl ?_
      refine am_iinc eX8_layOut_66 rfl (by decide) ?_
      refine am_iload eX8_layOut_69 rfl ?_
      refine am_bipush eX8_layOut_71 (by decide) ?_
      refine am_idiv ⟨by omega, by omega⟩ (by omega) ⟨by omega, by omega⟩ (by omega) eX8_layOut_73 ?_
      refine cx_astp (j := (un + 1 + 2 * i)) eX8_layOut_74 (en_c204 (m := m) (x := m1)) (by omega) (by decide) (by omega) (am_heq cx_row ?_)
      refine am_aload_n eX8_layOut_75 rfl ?_
      refine am_getf eX8_layOut_76 fX8_36 (en_c8 (m := m) (x := (st m1 50 (un + 1 + 2 * i) (f9 / 92)))) rfl ?_
      refine am_iload_n eX8_layOut_79 rfl ?_
      refine am_iinc eX8_layOut_80 rfl (by decide) ?_
      refine am_iload eX8_layOut_83 rfl ?_
      refine am_bipush eX8_layOut_85 (by decide) ?_
      refine am_irem ⟨by omega, by omega⟩ (by omega) ⟨by omega, by omega⟩ (by omega) eX8_layOut_87 ?_
      refine cx_astp (j := ((un + 1 + 2 * i) + 1)) eX8_layOut_88 (en_c204 (m := m) (x := (st m1 50 (un + 1 + 2 * i) (f9 / 92)))) (by omega) (by decide) (by omega) (am_heq cx_row ?_)
      refine am_iinc eX8_layOut_89 rfl (by decide) ?_
      refine am_goto eX8_layOut_92 ?_
      exact ih (i + 1) _ _ _ _ (by omega) (by omega) (by rw [hm, hf9]; rfl) (by omega) (by rw [← hA]; simp only [an_mk]; rw [if_neg (by omega)]) (by rw [← hB]; simp only [sq_mk]; rw [if_neg (by omega)])
    · refine am_iconst eX8_layOut_59 ?_
      refine am_ireturn eX8_layOut_60 rfl trivial (Nat.zero_le _) (Nat.zero_le _) ?_
      exact cx_is (by rw [← hA]; simp only [an_mk] <;> first | omega | (rw [if_pos (by omega)])) (by rw [← hB, hm]; simp only [sq_mk] <;> first | rfl | (rw [if_pos (by omega)]))
set_option maxRecDepth 100000 in
set_option maxHeartbeats 4000000 in
theorem c_X8_layOut {G : am_G} {m x : sg_S} {T : Int} (hW : md_wb T x) {b : Nat} (hb : b < 3) {u : Int} (hb_u : u = 0 ∨ u = 1) : am_Con G yX8_layOut wX8_layOut 2 0 0 [am_R (8, 0), am_R (1, b), am_I u] (en_h m x) (am_is (am_I (an_mk x b u.toNat (x 24 0).toNat 0)) (en_h m (sq_mk x b u.toNat (x 24 0).toNat 0))) := by
  refine am_of2 (Y := mX8_layOut) (by decide +kernel) rfl (fun z => by cases z) rfl rfl (Nat.le_of_ble_eq_true rfl) fun X => ?_
  rcases hb_u with rfl | rfl
  · refine am_iconst eX8_layOut_0 ?_
    refine am_istore_n eX8_layOut_1 (by decide) ?_
    refine am_iload_n eX8_layOut_2 rfl ?_
    refine am_if_eq ⟨by omega, by omega⟩ eX8_layOut_3 (fun _ => ?_) (fun z => absurd z (by decide))
    refine am_aload_n eX8_layOut_17 rfl ?_
    refine am_getf eX8_layOut_18 fX8_36 (en_c8 (m := m) (x := x)) rfl ?_
    refine am_iload_n eX8_layOut_21 rfl ?_
    refine am_iinc eX8_layOut_22 rfl (by decide) ?_
    refine am_bipush eX8_layOut_25 (by decide) ?_
    refine cx_astp (j := 0) eX8_layOut_27 (en_c204 (m := m) (x := x)) (by omega) (by decide) (by omega) (am_heq cx_row ?_)
    refine am_iconst eX8_layOut_28 ?_
    refine am_istore eX8_layOut_29 (by decide) ?_
    exact lq_X8_layOut hW hb (un := 0) (by decide) X _ 0 _ _ _ _ rfl (by decide) (by simp only [sq_mst]; exact st_st.symm) (Nat.zero_add _) rfl rfl
  · refine am_iconst eX8_layOut_0 ?_
    refine am_istore_n eX8_layOut_1 (by decide) ?_
    refine am_iload_n eX8_layOut_2 rfl ?_
    refine am_if_eq ⟨by omega, by omega⟩ eX8_layOut_3 (fun z => absurd z (by decide)) (fun _ => ?_)
    refine am_aload_n eX8_layOut_6 rfl ?_
    refine am_getf eX8_layOut_7 fX8_36 (en_c8 (m := m) (x := x)) rfl ?_
    refine am_iload_n eX8_layOut_10 rfl ?_
    refine am_iinc eX8_layOut_11 rfl (by decide) ?_
    refine am_bipush eX8_layOut_14 (by decide) ?_
    refine cx_astp (j := 0) eX8_layOut_16 (en_c204 (m := m) (x := x)) (by omega) (by decide) (by omega) (am_heq cx_row ?_)
    refine am_aload_n eX8_layOut_17 rfl ?_
    refine am_getf eX8_layOut_18 fX8_36 (en_c8 (m := m) (x := (st x 50 0 96))) rfl ?_
    refine am_iload_n eX8_layOut_21 rfl ?_
    refine am_iinc eX8_layOut_22 rfl (by decide) ?_
    refine am_bipush eX8_layOut_25 (by decide) ?_
    refine cx_astp (j := 1) eX8_layOut_27 (en_c204 (m := m) (x := (st x 50 0 96))) (by omega) (by decide) (by omega) (am_heq cx_row ?_)
    refine am_iconst eX8_layOut_28 ?_
    refine am_istore eX8_layOut_29 (by decide) ?_
    exact lq_X8_layOut hW hb (un := 1) (by decide) X _ 0 _ _ _ _ rfl (by decide) rfl (Nat.zero_add _) rfl rfl

