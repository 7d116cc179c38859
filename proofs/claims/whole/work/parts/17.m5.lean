def sp_opens0 (σ : sg_S) (w : Nat) (u : Int) : sg_S := if u = 0 ∧ ¬ (0 < σ 28 w ∧ σ 30 (40 * w + (σ 28 w).toNat - 1) ≠ 0) then st σ 28 w 0 else σ
def sp_opens1 (σ : sg_S) (w : Nat) (u : Int) : sg_S := st (st (st (st σ 29 (40 * w + (σ 28 w).toNat) (σ 1 0)) 30 (40 * w + (σ 28 w).toNat) u) 31 (40 * w + (σ 28 w).toNat) 0) 28 w (σ 28 w + 1)
def sp_opens (σ : sg_S) (w : Nat) (u : Int) : sg_S := sp_opens1 (sp_opens0 σ w u) w u
theorem sp_opens0_f {σ : sg_S} {w : Nat} {u : Int} {f j : Nat} (h : f ≠ 28) : sp_opens0 σ w u f j = σ f j := by
  unfold sp_opens0
  split
  · rw [st_nf h]
  · rfl
theorem sp_opens0_28 {σ : sg_S} {w : Nat} {u : Int} : sp_opens0 σ w u 28 w = 0 ∨ sp_opens0 σ w u 28 w = σ 28 w := by
  unfold sp_opens0
  split
  · left; rw [st_eq]
  · right; rfl
theorem sp_opens_f {σ : sg_S} {w : Nat} {u : Int} {f j : Nat} (h : f < 28 ∨ 31 < f) : sp_opens σ w u f j = σ f j := by
  unfold sp_opens sp_opens1
  rw [st_nf (by omega), st_nf (by omega), st_nf (by omega), st_nf (by omega), sp_opens0_f (by omega)]
theorem sp_opens_wb {T : Int} {σ : sg_S} (hW : md_wb T σ) {w : Nat} {u : Int} (hu : u = 0 ∨ u = 1) (h1 : σ 28 w ≤ 38) : md_wb T (sp_opens σ w u) := by
  have b28 := wb28 hW w
  have h0 : md_wb T (sp_opens0 σ w u) := by
    unfold sp_opens0
    split
    · exact wb_st hW (by show (0 : Int) ≤ _; omega) (by show _ ≤ (39 : Int); omega)
    · exact hW
  have b1 := h0.1 1 0 (by decide)
  have b1' := wb1 h0 0
  have h2 := sp_opens0_28 (σ := σ) (w := w) (u := u)
  unfold sp_opens sp_opens1
  exact wb_st (wb_st (wb_st (wb_st h0 (by show (0 : Int) ≤ _; omega) b1.2) (by show (0 : Int) ≤ _; omega) (by show _ ≤ (1 : Int); omega)) (by show (0 : Int) ≤ _; omega) (by show _ ≤ (60 : Int); omega)) (by show (0 : Int) ≤ _; omega) (by show _ ≤ (39 : Int); omega)
set_option maxRecDepth 100000 in
set_option maxHeartbeats 4000000 in
theorem c_X9_opens {G : am_G} {m x : sg_S} {T : Int} (hW : md_wb T m) {w u : Int} (hw : 0 ≤ w ∧ w < 2) (hb_u : u = 0 ∨ u = 1) (h8 : m 28 w.toNat ≤ 38) : am_Con G yX9_opens wX9_opens 1 0 0 [am_R (9, 0), am_I w, am_I u] (en_h m x) (am_vd (en_h (sp_opens m w.toNat u) x)) := by
  refine am_of2 (Y := mX9_opens) (by decide +kernel) rfl (fun z => by cases z) rfl rfl (Nat.le_of_ble_eq_true rfl) fun X => ?_
  refine am_aload_n eX9_opens_0 rfl ?_
  refine md_getA eX9_opens_1 fX9_81 (by decide) (by decide) ?_
  refine am_iload_n eX9_opens_4 rfl ?_
  refine md_ald (f := 28) (j := w.toNat) (v := m 28 w.toNat) eX9_opens_5 (by show _ < 2; omega) rfl (by omega) rfl ?_
  have b1 := wb28 hW w.toNat
  refine am_istore_n eX9_opens_6 (by decide) ?_
  refine am_iload_n eX9_opens_7 rfl ?_
  refine am_if_le ⟨by omega, by omega⟩ eX9_opens_8 (fun c2 => ?_) (fun c2 => ?_)
  · refine am_iconst eX9_opens_31 ?_
    refine am_istore eX9_opens_32 (by decide) ?_
    refine am_iload_n eX9_opens_34 rfl ?_
    refine am_if_ne ⟨by omega, by omega⟩ eX9_opens_35 (fun c3 => ?_) (fun c3 => ?_)
    · refine am_aload_n eX9_opens_50 rfl ?_
      refine md_getA eX9_opens_51 fX9_81 (by decide) (by decide) ?_
      refine am_iload_n eX9_opens_54 rfl ?_
      refine md_ald (f := 28) (j := w.toNat) (v := m 28 w.toNat) eX9_opens_55 (by show _ < 2; omega) rfl (by omega) rfl ?_
      have b4 := wb28 hW w.toNat
      refine am_bipush eX9_opens_56 (by decide) ?_
      refine am_icmp_ne ⟨by omega, by omega⟩ ⟨by omega, by omega⟩ eX9_opens_58 (fun c5 => ?_) (fun c5 => absurd c5 (by omega))
      refine am_bipush eX9_opens_71 (by decide) ?_
      refine am_iload_n eX9_opens_73 rfl ?_
      refine am_imul eX9_opens_74 ?_
      refine am_aload_n eX9_opens_75 rfl ?_
      refine md_getA eX9_opens_76 fX9_81 (by decide) (by decide) ?_
      refine am_iload_n eX9_opens_79 rfl ?_
      refine md_ald (f := 28) (j := w.toNat) (v := m 28 w.toNat) eX9_opens_80 (by show _ < 2; omega) rfl (by omega) rfl ?_
      have b6 := wb28 hW w.toNat
      refine am_iadd eX9_opens_81 ?_
      refine am_istore eX9_opens_82 (by decide) ?_
      refine am_aload_n eX9_opens_84 rfl ?_
      refine md_getA eX9_opens_85 fX9_84 (by decide) (by decide) ?_
      refine am_iload eX9_opens_88 rfl ?_
      refine am_aload_n eX9_opens_90 rfl ?_
      refine md_getI (v := m 1 0) eX9_opens_91 fX9_7 rfl (by decide) rfl ?_
      have b7 := wb1 hW 0
      refine md_ast (f := 29) (j := ((40 * w.toNat) + (m 28 w.toNat).toNat)) eX9_opens_94 (by show _ < 80; omega) rfl (by omega) ?_
      refine am_aload_n eX9_opens_95 rfl ?_
      refine md_getA eX9_opens_96 fX9_87 (by decide) (by decide) ?_
      refine am_iload eX9_opens_99 rfl ?_
      refine am_iload_n eX9_opens_101 rfl ?_
      refine md_bast (f := 30) (j := ((40 * w.toNat) + (m 28 w.toNat).toNat)) eX9_opens_102 (by show _ < 80; omega) rfl (by omega) (by omega) ?_
      refine am_aload_n eX9_opens_103 rfl ?_
      refine md_getA eX9_opens_104 fX9_90 (by decide) (by decide) ?_
      refine am_iload eX9_opens_107 rfl ?_
      refine am_iconst eX9_opens_109 ?_
      refine md_ast (f := 31) (j := ((40 * w.toNat) + (m 28 w.toNat).toNat)) eX9_opens_110 (by show _ < 80; omega) rfl (by omega) ?_
      refine am_aload_n eX9_opens_111 rfl ?_
      refine md_getA eX9_opens_112 fX9_81 (by decide) (by decide) ?_
      refine am_iload_n eX9_opens_115 rfl ?_
      refine am_dup2 eX9_opens_116 ?_
      refine md_ald (f := 28) (j := w.toNat) (v := m 28 w.toNat) eX9_opens_117 (by show _ < 2; omega) rfl (by omega) ((st_nf (by decide)).trans ((st_nf (by decide)).trans ((st_nf (by decide)).trans rfl))) ?_
      have b8 := wb28 hW w.toNat
      refine am_iconst eX9_opens_118 ?_
      refine am_iadd eX9_opens_119 ?_
      refine md_ast (f := 28) (j := w.toNat) eX9_opens_120 (by show _ < 2; omega) rfl (by omega) ?_
      refine am_return eX9_opens_121 rfl (Nat.zero_le _) (Nat.zero_le _) ?_
      exact am_vd_m (by unfold sp_opens sp_opens0; first | (rw [if_pos ⟨by omega, by omega⟩]; simp [sp_opens1, st]) | (rw [if_neg (by omega)]; rfl))
    · refine am_iload eX9_opens_38 rfl ?_
      refine am_if_ne ⟨by omega, by omega⟩ eX9_opens_40 (fun z => absurd z (by decide)) (fun _ => ?_)
      refine am_aload_n eX9_opens_43 rfl ?_
      refine md_getA eX9_opens_44 fX9_81 (by decide) (by decide) ?_
      refine am_iload_n eX9_opens_47 rfl ?_
      refine am_iconst eX9_opens_48 ?_
      refine md_ast (f := 28) (j := w.toNat) eX9_opens_49 (by show _ < 2; omega) rfl (by omega) ?_
      refine am_aload_n eX9_opens_50 rfl ?_
      refine md_getA eX9_opens_51 fX9_81 (by decide) (by decide) ?_
      refine am_iload_n eX9_opens_54 rfl ?_
      refine md_ald (f := 28) (j := w.toNat) (v := 0) eX9_opens_55 (by show _ < 2; omega) rfl (by omega) st_eq ?_
      refine am_bipush eX9_opens_56 (by decide) ?_
      refine am_icmp_ne ⟨by omega, by omega⟩ ⟨by omega, by omega⟩ eX9_opens_58 (fun _ => ?_) (fun z => absurd z (by decide))
      refine am_bipush eX9_opens_71 (by decide) ?_
      refine am_iload_n eX9_opens_73 rfl ?_
      refine am_imul eX9_opens_74 ?_
      refine am_aload_n eX9_opens_75 rfl ?_
      refine md_getA eX9_opens_76 fX9_81 (by decide) (by decide) ?_
      refine am_iload_n eX9_opens_79 rfl ?_
      refine md_ald (f := 28) (j := w.toNat) (v := 0) eX9_opens_80 (by show _ < 2; omega) rfl (by omega) st_eq ?_
      refine am_iadd eX9_opens_81 ?_
      refine am_istore eX9_opens_82 (by decide) ?_
      refine am_aload_n eX9_opens_84 rfl ?_
      refine md_getA eX9_opens_85 fX9_84 (by decide) (by decide) ?_
      refine am_iload eX9_opens_88 rfl ?_
      refine am_aload_n eX9_opens_90 rfl ?_
      refine md_getI (v := m 1 0) eX9_opens_91 fX9_7 rfl (by decide) ((st_nf (by decide)).trans rfl) ?_
      have b11 := wb1 hW 0
      refine md_ast (f := 29) (j := ((40 * w.toNat) + 0)) eX9_opens_94 (by show _ < 80; omega) rfl (by omega) ?_
      refine am_aload_n eX9_opens_95 rfl ?_
      refine md_getA eX9_opens_96 fX9_87 (by decide) (by decide) ?_
      refine am_iload eX9_opens_99 rfl ?_
      refine am_iload_n eX9_opens_101 rfl ?_
      refine md_bast (f := 30) (j := ((40 * w.toNat) + 0)) eX9_opens_102 (by show _ < 80; omega) rfl (by omega) (by omega) ?_
      refine am_aload_n eX9_opens_103 rfl ?_
      refine md_getA eX9_opens_104 fX9_90 (by decide) (by decide) ?_
      refine am_iload eX9_opens_107 rfl ?_
      refine am_iconst eX9_opens_109 ?_
      refine md_ast (f := 31) (j := ((40 * w.toNat) + 0)) eX9_opens_110 (by show _ < 80; omega) rfl (by omega) ?_
      refine am_aload_n eX9_opens_111 rfl ?_
      refine md_getA eX9_opens_112 fX9_81 (by decide) (by decide) ?_
      refine am_iload_n eX9_opens_115 rfl ?_
      refine am_dup2 eX9_opens_116 ?_
      refine md_ald (f := 28) (j := w.toNat) (v := 0) eX9_opens_117 (by show _ < 2; omega) rfl (by omega) ((st_nf (by decide)).trans ((st_nf (by decide)).trans ((st_nf (by decide)).trans st_eq))) ?_
      refine am_iconst eX9_opens_118 ?_
      refine am_iadd eX9_opens_119 ?_
      refine am_steq (st' := am_I 1 :: _) rfl ?_
      refine md_ast (f := 28) (j := w.toNat) eX9_opens_120 (by show _ < 2; omega) rfl (by omega) ?_
      refine am_return eX9_opens_121 rfl (Nat.zero_le _) (Nat.zero_le _) ?_
      exact am_vd_m (by unfold sp_opens sp_opens0; first | (rw [if_pos ⟨by omega, by omega⟩]; simp [sp_opens1, st]) | (rw [if_neg (by omega)]; rfl))
  · refine am_aload_n eX9_opens_11 rfl ?_
    refine md_getA eX9_opens_12 fX9_87 (by decide) (by decide) ?_
    refine am_bipush eX9_opens_15 (by decide) ?_
    refine am_iload_n eX9_opens_17 rfl ?_
    refine am_imul eX9_opens_18 ?_
    refine am_iload_n eX9_opens_19 rfl ?_
    refine am_iadd eX9_opens_20 ?_
    refine am_iconst eX9_opens_21 ?_
    refine am_isub eX9_opens_22 ?_
    refine md_bald (f := 30) (j := (((40 * w.toNat) + (m 28 w.toNat).toNat) - 1)) (v := m 30 (((40 * w.toNat) + (m 28 w.toNat).toNat) - 1)) eX9_opens_23 (by show _ < 80; omega) rfl (by omega) rfl ?_
    have b12 := wb30 hW (((40 * w.toNat) + (m 28 w.toNat).toNat) - 1)
    refine am_if_eq ⟨by omega, by omega⟩ eX9_opens_24 (fun c13 => ?_) (fun c13 => ?_)
    · refine am_iconst eX9_opens_31 ?_
      refine am_istore eX9_opens_32 (by decide) ?_
      refine am_iload_n eX9_opens_34 rfl ?_
      refine am_if_ne ⟨by omega, by omega⟩ eX9_opens_35 (fun c14 => ?_) (fun c14 => ?_)
      · refine am_aload_n eX9_opens_50 rfl ?_
        refine md_getA eX9_opens_51 fX9_81 (by decide) (by decide) ?_
        refine am_iload_n eX9_opens_54 rfl ?_
        refine md_ald (f := 28) (j := w.toNat) (v := m 28 w.toNat) eX9_opens_55 (by show _ < 2; omega) rfl (by omega) rfl ?_
        have b15 := wb28 hW w.toNat
        refine am_bipush eX9_opens_56 (by decide) ?_
        refine am_icmp_ne ⟨by omega, by omega⟩ ⟨by omega, by omega⟩ eX9_opens_58 (fun c16 => ?_) (fun c16 => absurd c16 (by omega))
        refine am_bipush eX9_opens_71 (by decide) ?_
        refine am_iload_n eX9_opens_73 rfl ?_
        refine am_imul eX9_opens_74 ?_
        refine am_aload_n eX9_opens_75 rfl ?_
        refine md_getA eX9_opens_76 fX9_81 (by decide) (by decide) ?_
        refine am_iload_n eX9_opens_79 rfl ?_
        refine md_ald (f := 28) (j := w.toNat) (v := m 28 w.toNat) eX9_opens_80 (by show _ < 2; omega) rfl (by omega) rfl ?_
        have b17 := wb28 hW w.toNat
        refine am_iadd eX9_opens_81 ?_
        refine am_istore eX9_opens_82 (by decide) ?_
        refine am_aload_n eX9_opens_84 rfl ?_
        refine md_getA eX9_opens_85 fX9_84 (by decide) (by decide) ?_
        refine am_iload eX9_opens_88 rfl ?_
        refine am_aload_n eX9_opens_90 rfl ?_
        refine md_getI (v := m 1 0) eX9_opens_91 fX9_7 rfl (by decide) rfl ?_
        have b18 := wb1 hW 0
        refine md_ast (f := 29) (j := ((40 * w.toNat) + (m 28 w.toNat).toNat)) eX9_opens_94 (by show _ < 80; omega) rfl (by omega) ?_
        refine am_aload_n eX9_opens_95 rfl ?_
        refine md_getA eX9_opens_96 fX9_87 (by decide) (by decide) ?_
        refine am_iload eX9_opens_99 rfl ?_
        refine am_iload_n eX9_opens_101 rfl ?_
        refine md_bast (f := 30) (j := ((40 * w.toNat) + (m 28 w.toNat).toNat)) eX9_opens_102 (by show _ < 80; omega) rfl (by omega) (by omega) ?_
        refine am_aload_n eX9_opens_103 rfl ?_
        refine md_getA eX9_opens_104 fX9_90 (by decide) (by decide) ?_
        refine am_iload eX9_opens_107 rfl ?_
        refine am_iconst eX9_opens_109 ?_
        refine md_ast (f := 31) (j := ((40 * w.toNat) + (m 28 w.toNat).toNat)) eX9_opens_110 (by show _ < 80; omega) rfl (by omega) ?_
        refine am_aload_n eX9_opens_111 rfl ?_
        refine md_getA eX9_opens_112 fX9_81 (by decide) (by decide) ?_
        refine am_iload_n eX9_opens_115 rfl ?_
        refine am_dup2 eX9_opens_116 ?_
        refine md_ald (f := 28) (j := w.toNat) (v := m 28 w.toNat) eX9_opens_117 (by show _ < 2; omega) rfl (by omega) ((st_nf (by decide)).trans ((st_nf (by decide)).trans ((st_nf (by decide)).trans rfl))) ?_
        have b19 := wb28 hW w.toNat
        refine am_iconst eX9_opens_118 ?_
        refine am_iadd eX9_opens_119 ?_
        refine md_ast (f := 28) (j := w.toNat) eX9_opens_120 (by show _ < 2; omega) rfl (by omega) ?_
        refine am_return eX9_opens_121 rfl (Nat.zero_le _) (Nat.zero_le _) ?_
        exact am_vd_m (by unfold sp_opens sp_opens0; first | (rw [if_pos ⟨by omega, by omega⟩]; simp [sp_opens1, st]) | (rw [if_neg (by omega)]; rfl))
      · refine am_iload eX9_opens_38 rfl ?_
        refine am_if_ne ⟨by omega, by omega⟩ eX9_opens_40 (fun z => absurd z (by decide)) (fun _ => ?_)
        refine am_aload_n eX9_opens_43 rfl ?_
        refine md_getA eX9_opens_44 fX9_81 (by decide) (by decide) ?_
        refine am_iload_n eX9_opens_47 rfl ?_
        refine am_iconst eX9_opens_48 ?_
        refine md_ast (f := 28) (j := w.toNat) eX9_opens_49 (by show _ < 2; omega) rfl (by omega) ?_
        refine am_aload_n eX9_opens_50 rfl ?_
        refine md_getA eX9_opens_51 fX9_81 (by decide) (by decide) ?_
        refine am_iload_n eX9_opens_54 rfl ?_
        refine md_ald (f := 28) (j := w.toNat) (v := 0) eX9_opens_55 (by show _ < 2; omega) rfl (by omega) st_eq ?_
        refine am_bipush eX9_opens_56 (by decide) ?_
        refine am_icmp_ne ⟨by omega, by omega⟩ ⟨by omega, by omega⟩ eX9_opens_58 (fun _ => ?_) (fun z => absurd z (by decide))
        refine am_bipush eX9_opens_71 (by decide) ?_
        refine am_iload_n eX9_opens_73 rfl ?_
        refine am_imul eX9_opens_74 ?_
        refine am_aload_n eX9_opens_75 rfl ?_
        refine md_getA eX9_opens_76 fX9_81 (by decide) (by decide) ?_
        refine am_iload_n eX9_opens_79 rfl ?_
        refine md_ald (f := 28) (j := w.toNat) (v := 0) eX9_opens_80 (by show _ < 2; omega) rfl (by omega) st_eq ?_
        refine am_iadd eX9_opens_81 ?_
        refine am_istore eX9_opens_82 (by decide) ?_
        refine am_aload_n eX9_opens_84 rfl ?_
        refine md_getA eX9_opens_85 fX9_84 (by decide) (by decide) ?_
        refine am_iload eX9_opens_88 rfl ?_
        refine am_aload_n eX9_opens_90 rfl ?_
        refine md_getI (v := m 1 0) eX9_opens_91 fX9_7 rfl (by decide) ((st_nf (by decide)).trans rfl) ?_
        have b22 := wb1 hW 0
        refine md_ast (f := 29) (j := ((40 * w.toNat) + 0)) eX9_opens_94 (by show _ < 80; omega) rfl (by omega) ?_
        refine am_aload_n eX9_opens_95 rfl ?_
        refine md_getA eX9_opens_96 fX9_87 (by decide) (by decide) ?_
        refine am_iload eX9_opens_99 rfl ?_
        refine am_iload_n eX9_opens_101 rfl ?_
        refine md_bast (f := 30) (j := ((40 * w.toNat) + 0)) eX9_opens_102 (by show _ < 80; omega) rfl (by omega) (by omega) ?_
        refine am_aload_n eX9_opens_103 rfl ?_
        refine md_getA eX9_opens_104 fX9_90 (by decide) (by decide) ?_
        refine am_iload eX9_opens_107 rfl ?_
        refine am_iconst eX9_opens_109 ?_
        refine md_ast (f := 31) (j := ((40 * w.toNat) + 0)) eX9_opens_110 (by show _ < 80; omega) rfl (by omega) ?_
        refine am_aload_n eX9_opens_111 rfl ?_
        refine md_getA eX9_opens_112 fX9_81 (by decide) (by decide) ?_
        refine am_iload_n eX9_opens_115 rfl ?_
        refine am_dup2 eX9_opens_116 ?_
        refine md_ald (f := 28) (j := w.toNat) (v := 0) eX9_opens_117 (by show _ < 2; omega) rfl (by omega) ((st_nf (by decide)).trans ((st_nf (by decide)).trans ((st_nf (by decide)).trans st_eq))) ?_
        refine am_iconst eX9_opens_118 ?_
        refine am_iadd eX9_opens_119 ?_
        refine am_steq (st' := am_I 1 :: _) rfl ?_
        refine md_ast (f := 28) (j := w.toNat) eX9_opens_120 (by show _ < 2; omega) rfl (by omega) ?_
        refine am_return eX9_opens_121 rfl (Nat.zero_le _) (Nat.zero_le _) ?_
        exact am_vd_m (by unfold sp_opens sp_opens0; first | (rw [if_pos ⟨by omega, by omega⟩]; simp [sp_opens1, st]) | (rw [if_neg (by omega)]; rfl))
    · refine am_iconst eX9_opens_27 ?_
      refine am_goto eX9_opens_28 ?_
      refine am_istore eX9_opens_32 (by decide) ?_
      refine am_iload_n eX9_opens_34 rfl ?_
      refine am_if_ne ⟨by omega, by omega⟩ eX9_opens_35 (fun c23 => ?_) (fun c23 => ?_)
      · refine am_aload_n eX9_opens_50 rfl ?_
        refine md_getA eX9_opens_51 fX9_81 (by decide) (by decide) ?_
        refine am_iload_n eX9_opens_54 rfl ?_
        refine md_ald (f := 28) (j := w.toNat) (v := m 28 w.toNat) eX9_opens_55 (by show _ < 2; omega) rfl (by omega) rfl ?_
        have b24 := wb28 hW w.toNat
        refine am_bipush eX9_opens_56 (by decide) ?_
        refine am_icmp_ne ⟨by omega, by omega⟩ ⟨by omega, by omega⟩ eX9_opens_58 (fun c25 => ?_) (fun c25 => absurd c25 (by omega))
        refine am_bipush eX9_opens_71 (by decide) ?_
        refine am_iload_n eX9_opens_73 rfl ?_
        refine am_imul eX9_opens_74 ?_
        refine am_aload_n eX9_opens_75 rfl ?_
        refine md_getA eX9_opens_76 fX9_81 (by decide) (by decide) ?_
        refine am_iload_n eX9_opens_79 rfl ?_
        refine md_ald (f := 28) (j := w.toNat) (v := m 28 w.toNat) eX9_opens_80 (by show _ < 2; omega) rfl (by omega) rfl ?_
        have b26 := wb28 hW w.toNat
        refine am_iadd eX9_opens_81 ?_
        refine am_istore eX9_opens_82 (by decide) ?_
        refine am_aload_n eX9_opens_84 rfl ?_
        refine md_getA eX9_opens_85 fX9_84 (by decide) (by decide) ?_
        refine am_iload eX9_opens_88 rfl ?_
        refine am_aload_n eX9_opens_90 rfl ?_
        refine md_getI (v := m 1 0) eX9_opens_91 fX9_7 rfl (by decide) rfl ?_
        have b27 := wb1 hW 0
        refine md_ast (f := 29) (j := ((40 * w.toNat) + (m 28 w.toNat).toNat)) eX9_opens_94 (by show _ < 80; omega) rfl (by omega) ?_
        refine am_aload_n eX9_opens_95 rfl ?_
        refine md_getA eX9_opens_96 fX9_87 (by decide) (by decide) ?_
        refine am_iload eX9_opens_99 rfl ?_
        refine am_iload_n eX9_opens_101 rfl ?_
        refine md_bast (f := 30) (j := ((40 * w.toNat) + (m 28 w.toNat).toNat)) eX9_opens_102 (by show _ < 80; omega) rfl (by omega) (by omega) ?_
        refine am_aload_n eX9_opens_103 rfl ?_
        refine md_getA eX9_opens_104 fX9_90 (by decide) (by decide) ?_
        refine am_iload eX9_opens_107 rfl ?_
        refine am_iconst eX9_opens_109 ?_
        refine md_ast (f := 31) (j := ((40 * w.toNat) + (m 28 w.toNat).toNat)) eX9_opens_110 (by show _ < 80; omega) rfl (by omega) ?_
        refine am_aload_n eX9_opens_111 rfl ?_
        refine md_getA eX9_opens_112 fX9_81 (by decide) (by decide) ?_
        refine am_iload_n eX9_opens_115 rfl ?_
        refine am_dup2 eX9_opens_116 ?_
        refine md_ald (f := 28) (j := w.toNat) (v := m 28 w.toNat) eX9_opens_117 (by show _ < 2; omega) rfl (by omega) ((st_nf (by decide)).trans ((st_nf (by decide)).trans ((st_nf (by decide)).trans rfl))) ?_
        have b28 := wb28 hW w.toNat
        refine am_iconst eX9_opens_118 ?_
        refine am_iadd eX9_opens_119 ?_
        refine md_ast (f := 28) (j := w.toNat) eX9_opens_120 (by show _ < 2; omega) rfl (by omega) ?_
        refine am_return eX9_opens_121 rfl (Nat.zero_le _) (Nat.zero_le _) ?_
        exact am_vd_m (by unfold sp_opens sp_opens0; first | (rw [if_pos ⟨by omega, by omega⟩]; simp [sp_opens1, st]) | (rw [if_neg (by omega)]; rfl))
      · refine am_iload eX9_opens_38 rfl ?_
        refine am_if_ne ⟨by omega, by omega⟩ eX9_opens_40 (fun _ => ?_) (fun z => absurd z (by decide))
        refine am_aload_n eX9_opens_50 rfl ?_
        refine md_getA eX9_opens_51 fX9_81 (by decide) (by decide) ?_
        refine am_iload_n eX9_opens_54 rfl ?_
        refine md_ald (f := 28) (j := w.toNat) (v := m 28 w.toNat) eX9_opens_55 (by show _ < 2; omega) rfl (by omega) rfl ?_
        have b30 := wb28 hW w.toNat
        refine am_bipush eX9_opens_56 (by decide) ?_
        refine am_icmp_ne ⟨by omega, by omega⟩ ⟨by omega, by omega⟩ eX9_opens_58 (fun c31 => ?_) (fun c31 => absurd c31 (by omega))
        refine am_bipush eX9_opens_71 (by decide) ?_
        refine am_iload_n eX9_opens_73 rfl ?_
        refine am_imul eX9_opens_74 ?_
        refine am_aload_n eX9_opens_75 rfl ?_
        refine md_getA eX9_opens_76 fX9_81 (by decide) (by decide) ?_
        refine am_iload_n eX9_opens_79 rfl ?_
        refine md_ald (f := 28) (j := w.toNat) (v := m 28 w.toNat) eX9_opens_80 (by show _ < 2; omega) rfl (by omega) rfl ?_
        have b32 := wb28 hW w.toNat
        refine am_iadd eX9_opens_81 ?_
        refine am_istore eX9_opens_82 (by decide) ?_
        refine am_aload_n eX9_opens_84 rfl ?_
        refine md_getA eX9_opens_85 fX9_84 (by decide) (by decide) ?_
        refine am_iload eX9_opens_88 rfl ?_
        refine am_aload_n eX9_opens_90 rfl ?_
        refine md_getI (v := m 1 0) eX9_opens_91 fX9_7 rfl (by decide) rfl ?_
        have b33 := wb1 hW 0
        refine md_ast (f := 29) (j := ((40 * w.toNat) + (m 28 w.toNat).toNat)) eX9_opens_94 (by show _ < 80; omega) rfl (by omega) ?_
        refine am_aload_n eX9_opens_95 rfl ?_
        refine md_getA eX9_opens_96 fX9_87 (by decide) (by decide) ?_
        refine am_iload eX9_opens_99 rfl ?_
        refine am_iload_n eX9_opens_101 rfl ?_
        refine md_bast (f := 30) (j := ((40 * w.toNat) + (m 28 w.toNat).toNat)) eX9_opens_102 (by show _ < 80; omega) rfl (by omega) (by omega) ?_
        refine am_aload_n eX9_opens_103 rfl ?_
        refine md_getA eX9_opens_104 fX9_90 (by decide) (by decide) ?_
        refine am_iload eX9_opens_107 rfl ?_
        refine am_iconst eX9_opens_109 ?_
        refine md_ast (f := 31) (j := ((40 * w.toNat) + (m 28 w.toNat).toNat)) eX9_opens_110 (by show _ < 80; omega) rfl (by omega) ?_
        refine am_aload_n eX9_opens_111 rfl ?_
        refine md_getA eX9_opens_112 fX9_81 (by decide) (by decide) ?_
        refine am_iload_n eX9_opens_115 rfl ?_
        refine am_dup2 eX9_opens_116 ?_
        refine md_ald (f := 28) (j := w.toNat) (v := m 28 w.toNat) eX9_opens_117 (by show _ < 2; omega) rfl (by omega) ((st_nf (by decide)).trans ((st_nf (by decide)).trans ((st_nf (by decide)).trans rfl))) ?_
        have b34 := wb28 hW w.toNat
        refine am_iconst eX9_opens_118 ?_
        refine am_iadd eX9_opens_119 ?_
        refine md_ast (f := 28) (j := w.toNat) eX9_opens_120 (by show _ < 2; omega) rfl (by omega) ?_
        refine am_return eX9_opens_121 rfl (Nat.zero_le _) (Nat.zero_le _) ?_
        exact am_vd_m (by unfold sp_opens sp_opens0; first | (rw [if_pos ⟨by omega, by omega⟩]; simp [sp_opens1, st]) | (rw [if_neg (by omega)]; rfl))
def sp_tapes (σ : sg_S) (w : Nat) (s : Int) : sg_S :=
  if s = 92 then sp_opens (st σ 27 w (if s = 96 then 1 else 0)) w (σ 27 w)
  else if s = 94 then st (st σ 27 w (if s = 96 then 1 else 0)) 28 w 0
  else if 0 < σ 28 w ∧ s = 93 then sp_ends (st σ 27 w (if s = 96 then 1 else 0)) w
  else if 0 < σ 28 w ∧ s < 92 ∧ σ 31 (40 * w + (σ 28 w).toNat - 1) < 60 then st (st (st σ 27 w (if s = 96 then 1 else 0)) 32 (60 * (40 * w + (σ 28 w).toNat - 1) + (σ 31 (40 * w + (σ 28 w).toNat - 1)).toNat) s) 31 (40 * w + (σ 28 w).toNat - 1) (σ 31 (40 * w + (σ 28 w).toNat - 1) + 1)
  else st σ 27 w (if s = 96 then 1 else 0)
theorem sp_tapes_f {σ : sg_S} {w : Nat} {s : Int} {f j : Nat} (h : f < 27 ∨ 38 < f) : sp_tapes σ w s f j = σ f j := by
  unfold sp_tapes
  split
  · rw [sp_opens_f (by omega), st_nf (by omega)]
  · split
    · rw [st_nf (by omega), st_nf (by omega)]
    · split
      · rw [sp_ends_f (by omega), st_nf (by omega)]
      · split
        · rw [st_nf (by omega), st_nf (by omega), st_nf (by omega)]
        · rw [st_nf (by omega)]
theorem sp_tapes_wb {T : Int} {σ : sg_S} (hW : md_wb T σ) {w : Nat} {s : Int} (hs : 0 ≤ s ∧ s ≤ 96) (h1 : σ 28 w ≤ 38) : md_wb T (sp_tapes σ w s) := by
  have b28 := wb28 hW w
  have h0 : md_wb T (st σ 27 w (if s = 96 then 1 else 0)) := by
    refine wb_st hW ?_ ?_
    · show (0 : Int) ≤ _; split <;> decide
    · show _ ≤ (1 : Int); split <;> decide
  have e28 : (st σ 27 w (if s = 96 then 1 else 0)) 28 w = σ 28 w := st_nf (by decide)
  unfold sp_tapes
  split
  · exact sp_opens_wb h0 (by have := wb27 hW w; omega) (by rw [e28]; exact h1)
  · split
    · exact wb_st h0 (by show (0 : Int) ≤ _; omega) (by show _ ≤ (39 : Int); omega)
    · split
      · exact sp_ends_wb h0 (by rw [e28]; omega)
      · split
        · have b31 := wb31 hW (40 * w + (σ 28 w).toNat - 1)
          exact wb_st (wb_st h0 (by show (0 : Int) ≤ _; omega) (by show _ ≤ (91 : Int); omega)) (by show (0 : Int) ≤ _; omega) (by show _ ≤ (60 : Int); omega)
        · exact h0
set_option maxRecDepth 100000 in
set_option maxHeartbeats 4000000 in
theorem c_X9_tapes {G : am_G} {m x : sg_S} {T : Int} (hW : md_wb T m) {w s : Int} (hw : 0 ≤ w ∧ w < 2) (hs : 0 ≤ s ∧ s ≤ 96) (h8 : m 28 w.toNat ≤ 38) : am_Con G yX9_tapes wX9_tapes 2 0 0 [am_R (9, 0), am_I w, am_I s] (en_h m x) (am_vd (en_h (sp_tapes m w.toNat s) x)) := by
  refine am_of2 (Y := mX9_tapes) (by decide +kernel) rfl (fun z => by cases z) rfl rfl (Nat.le_of_ble_eq_true rfl) fun X => ?_
  refine am_aload_n eX9_tapes_0 rfl ?_
  refine md_getA eX9_tapes_1 fX9_78 (by decide) (by decide) ?_
  refine am_iload_n eX9_tapes_4 rfl ?_
  refine md_bald (f := 27) (j := w.toNat) (v := m 27 w.toNat) eX9_tapes_5 (by show _ < 2; omega) rfl (by omega) rfl ?_
  have b1 := wb27 hW w.toNat
  refine am_istore_n eX9_tapes_6 (by decide) ?_
  refine am_aload_n eX9_tapes_7 rfl ?_
  refine md_getA eX9_tapes_8 fX9_78 (by decide) (by decide) ?_
  refine am_iload_n eX9_tapes_11 rfl ?_
  refine am_iload_n eX9_tapes_12 rfl ?_
  refine am_bipush eX9_tapes_13 (by decide) ?_
  refine am_icmp_ne ⟨by omega, by omega⟩ ⟨by omega, by omega⟩ eX9_tapes_15 (fun c2 => ?_) (fun c2 => ?_)
  · refine am_iconst eX9_tapes_22 ?_
    refine md_bast (f := 27) (j := w.toNat) eX9_tapes_23 (by show _ < 2; omega) rfl (by omega) (Or.inl rfl) ?_
    refine am_iload_n eX9_tapes_24 rfl ?_
    refine am_bipush eX9_tapes_25 (by decide) ?_
    refine am_icmp_ne ⟨by omega, by omega⟩ ⟨by omega, by omega⟩ eX9_tapes_27 (fun c3 => ?_) (fun c3 => ?_)
    · refine am_iload_n eX9_tapes_39 rfl ?_
      refine am_bipush eX9_tapes_40 (by decide) ?_
      refine am_icmp_ne ⟨by omega, by omega⟩ ⟨by omega, by omega⟩ eX9_tapes_42 (fun c4 => ?_) (fun c4 => ?_)
      · refine am_aload_n eX9_tapes_55 rfl ?_
        refine md_getA eX9_tapes_56 fX9_81 (by decide) (by decide) ?_
        refine am_iload_n eX9_tapes_59 rfl ?_
        refine md_ald (f := 28) (j := w.toNat) (v := m 28 w.toNat) eX9_tapes_60 (by show _ < 2; omega) rfl (by omega) ((st_nf (by decide)).trans rfl) ?_
        have b5 := wb28 hW w.toNat
        refine am_if_le ⟨by omega, by omega⟩ eX9_tapes_61 (fun c6 => ?_) (fun c6 => ?_)
        · refine am_aload_n eX9_tapes_78 rfl ?_
          refine md_getA eX9_tapes_79 fX9_81 (by decide) (by decide) ?_
          refine am_iload_n eX9_tapes_82 rfl ?_
          refine md_ald (f := 28) (j := w.toNat) (v := m 28 w.toNat) eX9_tapes_83 (by show _ < 2; omega) rfl (by omega) ((st_nf (by decide)).trans rfl) ?_
          have b7 := wb28 hW w.toNat
          refine am_if_le ⟨by omega, by omega⟩ eX9_tapes_84 (fun c8 => ?_) (fun c8 => ?_)
          · refine am_return eX9_tapes_150 rfl (Nat.zero_le _) (Nat.zero_le _) ?_
            exact am_vd_m (by unfold sp_tapes; (repeat' split) <;> first | rfl | (exfalso; omega))
          · refine am_iload_n eX9_tapes_87 rfl ?_
            refine am_bipush eX9_tapes_88 (by decide) ?_
            refine am_icmp_ge ⟨by omega, by omega⟩ ⟨by omega, by omega⟩ eX9_tapes_90 (fun c9 => ?_) (fun c9 => ?_)
            · refine am_return eX9_tapes_150 rfl (Nat.zero_le _) (Nat.zero_le _) ?_
              exact am_vd_m (by unfold sp_tapes; (repeat' split) <;> first | rfl | (exfalso; omega))
            · refine am_bipush eX9_tapes_93 (by decide) ?_
              refine am_iload_n eX9_tapes_95 rfl ?_
              refine am_imul eX9_tapes_96 ?_
              refine am_aload_n eX9_tapes_97 rfl ?_
              refine md_getA eX9_tapes_98 fX9_81 (by decide) (by decide) ?_
              refine am_iload_n eX9_tapes_101 rfl ?_
              refine md_ald (f := 28) (j := w.toNat) (v := m 28 w.toNat) eX9_tapes_102 (by show _ < 2; omega) rfl (by omega) ((st_nf (by decide)).trans rfl) ?_
              have b10 := wb28 hW w.toNat
              refine am_iadd eX9_tapes_103 ?_
              refine am_iconst eX9_tapes_104 ?_
              refine am_isub eX9_tapes_105 ?_
              refine am_istore eX9_tapes_106 (by decide) ?_
              refine am_aload_n eX9_tapes_108 rfl ?_
              refine md_getA eX9_tapes_109 fX9_90 (by decide) (by decide) ?_
              refine am_iload eX9_tapes_112 rfl ?_
              refine md_ald (f := 31) (j := (((40 * w.toNat) + (m 28 w.toNat).toNat) - 1)) (v := m 31 (((40 * w.toNat) + (m 28 w.toNat).toNat) - 1)) eX9_tapes_114 (by show _ < 80; omega) rfl (by omega) ((st_nf (by decide)).trans rfl) ?_
              have b11 := wb31 hW (((40 * w.toNat) + (m 28 w.toNat).toNat) - 1)
              refine am_bipush eX9_tapes_115 (by decide) ?_
              refine am_icmp_ge ⟨by omega, by omega⟩ ⟨by omega, by omega⟩ eX9_tapes_117 (fun c12 => ?_) (fun c12 => ?_)
              · refine am_return eX9_tapes_150 rfl (Nat.zero_le _) (Nat.zero_le _) ?_
                exact am_vd_m (by unfold sp_tapes; (repeat' split) <;> first | rfl | (exfalso; omega))
              · refine am_aload_n eX9_tapes_120 rfl ?_
                refine md_getA eX9_tapes_121 fX9_93 (by decide) (by decide) ?_
                refine am_bipush eX9_tapes_124 (by decide) ?_
                refine am_iload eX9_tapes_126 rfl ?_
                refine am_imul eX9_tapes_128 ?_
                refine am_aload_n eX9_tapes_129 rfl ?_
                refine md_getA eX9_tapes_130 fX9_90 (by decide) (by decide) ?_
                refine am_iload eX9_tapes_133 rfl ?_
                refine md_ald (f := 31) (j := (((40 * w.toNat) + (m 28 w.toNat).toNat) - 1)) (v := m 31 (((40 * w.toNat) + (m 28 w.toNat).toNat) - 1)) eX9_tapes_135 (by show _ < 80; omega) rfl (by omega) ((st_nf (by decide)).trans rfl) ?_
                have b13 := wb31 hW (((40 * w.toNat) + (m 28 w.toNat).toNat) - 1)
                refine am_iadd eX9_tapes_136 ?_
                refine am_iload_n eX9_tapes_137 rfl ?_
                refine md_ast (f := 32) (j := ((60 * (((40 * w.toNat) + (m 28 w.toNat).toNat) - 1)) + (m 31 (((40 * w.toNat) + (m 28 w.toNat).toNat) - 1)).toNat)) eX9_tapes_138 (by show _ < 4800; omega) rfl (by omega) ?_
                refine am_aload_n eX9_tapes_139 rfl ?_
                refine md_getA eX9_tapes_140 fX9_90 (by decide) (by decide) ?_
                refine am_iload eX9_tapes_143 rfl ?_
                refine am_dup2 eX9_tapes_145 ?_
                refine md_ald (f := 31) (j := (((40 * w.toNat) + (m 28 w.toNat).toNat) - 1)) (v := m 31 (((40 * w.toNat) + (m 28 w.toNat).toNat) - 1)) eX9_tapes_146 (by show _ < 80; omega) rfl (by omega) ((st_nf (by decide)).trans ((st_nf (by decide)).trans rfl)) ?_
                have b14 := wb31 hW (((40 * w.toNat) + (m 28 w.toNat).toNat) - 1)
                refine am_iconst eX9_tapes_147 ?_
                refine am_iadd eX9_tapes_148 ?_
                refine md_ast (f := 31) (j := (((40 * w.toNat) + (m 28 w.toNat).toNat) - 1)) eX9_tapes_149 (by show _ < 80; omega) rfl (by omega) ?_
                refine am_return eX9_tapes_150 rfl (Nat.zero_le _) (Nat.zero_le _) ?_
                exact am_vd_m (by unfold sp_tapes; (repeat' split) <;> first | rfl | (exfalso; omega))
        · refine am_iload_n eX9_tapes_64 rfl ?_
          refine am_bipush eX9_tapes_65 (by decide) ?_
          refine am_icmp_ne ⟨by omega, by omega⟩ ⟨by omega, by omega⟩ eX9_tapes_67 (fun c15 => ?_) (fun c15 => ?_)
          · refine am_aload_n eX9_tapes_78 rfl ?_
            refine md_getA eX9_tapes_79 fX9_81 (by decide) (by decide) ?_
            refine am_iload_n eX9_tapes_82 rfl ?_
            refine md_ald (f := 28) (j := w.toNat) (v := m 28 w.toNat) eX9_tapes_83 (by show _ < 2; omega) rfl (by omega) ((st_nf (by decide)).trans rfl) ?_
            have b16 := wb28 hW w.toNat
            refine am_if_le ⟨by omega, by omega⟩ eX9_tapes_84 (fun c17 => ?_) (fun c17 => ?_)
            · refine am_return eX9_tapes_150 rfl (Nat.zero_le _) (Nat.zero_le _) ?_
              exact am_vd_m (by unfold sp_tapes; (repeat' split) <;> first | rfl | (exfalso; omega))
            · refine am_iload_n eX9_tapes_87 rfl ?_
              refine am_bipush eX9_tapes_88 (by decide) ?_
              refine am_icmp_ge ⟨by omega, by omega⟩ ⟨by omega, by omega⟩ eX9_tapes_90 (fun c18 => ?_) (fun c18 => ?_)
              · refine am_return eX9_tapes_150 rfl (Nat.zero_le _) (Nat.zero_le _) ?_
                exact am_vd_m (by unfold sp_tapes; (repeat' split) <;> first | rfl | (exfalso; omega))
              · refine am_bipush eX9_tapes_93 (by decide) ?_
                refine am_iload_n eX9_tapes_95 rfl ?_
                refine am_imul eX9_tapes_96 ?_
                refine am_aload_n eX9_tapes_97 rfl ?_
                refine md_getA eX9_tapes_98 fX9_81 (by decide) (by decide) ?_
                refine am_iload_n eX9_tapes_101 rfl ?_
                refine md_ald (f := 28) (j := w.toNat) (v := m 28 w.toNat) eX9_tapes_102 (by show _ < 2; omega) rfl (by omega) ((st_nf (by decide)).trans rfl) ?_
                have b19 := wb28 hW w.toNat
                refine am_iadd eX9_tapes_103 ?_
                refine am_iconst eX9_tapes_104 ?_
                refine am_isub eX9_tapes_105 ?_
                refine am_istore eX9_tapes_106 (by decide) ?_
                refine am_aload_n eX9_tapes_108 rfl ?_
                refine md_getA eX9_tapes_109 fX9_90 (by decide) (by decide) ?_
                refine am_iload eX9_tapes_112 rfl ?_
                refine md_ald (f := 31) (j := (((40 * w.toNat) + (m 28 w.toNat).toNat) - 1)) (v := m 31 (((40 * w.toNat) + (m 28 w.toNat).toNat) - 1)) eX9_tapes_114 (by show _ < 80; omega) rfl (by omega) ((st_nf (by decide)).trans rfl) ?_
                have b20 := wb31 hW (((40 * w.toNat) + (m 28 w.toNat).toNat) - 1)
                refine am_bipush eX9_tapes_115 (by decide) ?_
                refine am_icmp_ge ⟨by omega, by omega⟩ ⟨by omega, by omega⟩ eX9_tapes_117 (fun c21 => ?_) (fun c21 => ?_)
                · refine am_return eX9_tapes_150 rfl (Nat.zero_le _) (Nat.zero_le _) ?_
                  exact am_vd_m (by unfold sp_tapes; (repeat' split) <;> first | rfl | (exfalso; omega))
                · refine am_aload_n eX9_tapes_120 rfl ?_
                  refine md_getA eX9_tapes_121 fX9_93 (by decide) (by decide) ?_
                  refine am_bipush eX9_tapes_124 (by decide) ?_
                  refine am_iload eX9_tapes_126 rfl ?_
                  refine am_imul eX9_tapes_128 ?_
                  refine am_aload_n eX9_tapes_129 rfl ?_
                  refine md_getA eX9_tapes_130 fX9_90 (by decide) (by decide) ?_
                  refine am_iload eX9_tapes_133 rfl ?_
                  refine md_ald (f := 31) (j := (((40 * w.toNat) + (m 28 w.toNat).toNat) - 1)) (v := m 31 (((40 * w.toNat) + (m 28 w.toNat).toNat) - 1)) eX9_tapes_135 (by show _ < 80; omega) rfl (by omega) ((st_nf (by decide)).trans rfl) ?_
                  have b22 := wb31 hW (((40 * w.toNat) + (m 28 w.toNat).toNat) - 1)
                  refine am_iadd eX9_tapes_136 ?_
                  refine am_iload_n eX9_tapes_137 rfl ?_
                  refine md_ast (f := 32) (j := ((60 * (((40 * w.toNat) + (m 28 w.toNat).toNat) - 1)) + (m 31 (((40 * w.toNat) + (m 28 w.toNat).toNat) - 1)).toNat)) eX9_tapes_138 (by show _ < 4800; omega) rfl (by omega) ?_
                  refine am_aload_n eX9_tapes_139 rfl ?_
                  refine md_getA eX9_tapes_140 fX9_90 (by decide) (by decide) ?_
                  refine am_iload eX9_tapes_143 rfl ?_
                  refine am_dup2 eX9_tapes_145 ?_
                  refine md_ald (f := 31) (j := (((40 * w.toNat) + (m 28 w.toNat).toNat) - 1)) (v := m 31 (((40 * w.toNat) + (m 28 w.toNat).toNat) - 1)) eX9_tapes_146 (by show _ < 80; omega) rfl (by omega) ((st_nf (by decide)).trans ((st_nf (by decide)).trans rfl)) ?_
                  have b23 := wb31 hW (((40 * w.toNat) + (m 28 w.toNat).toNat) - 1)
                  refine am_iconst eX9_tapes_147 ?_
                  refine am_iadd eX9_tapes_148 ?_
                  refine md_ast (f := 31) (j := (((40 * w.toNat) + (m 28 w.toNat).toNat) - 1)) eX9_tapes_149 (by show _ < 80; omega) rfl (by omega) ?_
                  refine am_return eX9_tapes_150 rfl (Nat.zero_le _) (Nat.zero_le _) ?_
                  exact am_vd_m (by unfold sp_tapes; (repeat' split) <;> first | rfl | (exfalso; omega))
          · refine am_aload_n eX9_tapes_70 rfl ?_
            refine am_iload_n eX9_tapes_71 rfl ?_
            refine am_cV_v eX9_tapes_72 kX9_193 (c_X9_ends (m := (st m 27 w.toNat 0)) (x := x) (T := T) (wb_st (f := 27) hW (by show (0 : Int) ≤ _; omega) (by show _ ≤ (1 : Int); omega)) (w := w) (by omega) (by rw [((st_nf (by decide)).trans rfl)]; omega)) rfl rfl en_9 (by decide) (by decide) (Nat.le_of_ble_eq_true rfl) (Nat.zero_le _) (Nat.zero_le _) ?_
            obtain ⟨m24, hm24⟩ : ∃ z, z = sp_ends (st m 27 w.toNat 0) w.toNat := ⟨_, rfl⟩
            rw [← hm24]
            refine am_goto eX9_tapes_75 ?_
            refine am_return eX9_tapes_150 rfl (Nat.zero_le _) (Nat.zero_le _) ?_
            exact am_vd_m (by rw [hm24]; unfold sp_tapes; (repeat' split) <;> first | rfl | (exfalso; omega))
      · refine am_aload_n eX9_tapes_45 rfl ?_
        refine md_getA eX9_tapes_46 fX9_81 (by decide) (by decide) ?_
        refine am_iload_n eX9_tapes_49 rfl ?_
        refine am_iconst eX9_tapes_50 ?_
        refine md_ast (f := 28) (j := w.toNat) eX9_tapes_51 (by show _ < 2; omega) rfl (by omega) ?_
        refine am_goto eX9_tapes_52 ?_
        refine am_return eX9_tapes_150 rfl (Nat.zero_le _) (Nat.zero_le _) ?_
        exact am_vd_m (by unfold sp_tapes; (repeat' split) <;> first | rfl | (exfalso; omega))
    · refine am_aload_n eX9_tapes_30 rfl ?_
      refine am_iload_n eX9_tapes_31 rfl ?_
      refine am_iload_n eX9_tapes_32 rfl ?_
      refine am_cV_v eX9_tapes_33 kX9_189 (c_X9_opens (m := (st m 27 w.toNat 0)) (x := x) (T := T) (wb_st (f := 27) hW (by show (0 : Int) ≤ _; omega) (by show _ ≤ (1 : Int); omega)) (w := w) (u := (m 27 w.toNat)) (by omega) (by omega) (by rw [((st_nf (by decide)).trans rfl)]; omega)) rfl rfl en_9 (by decide) (by decide) (Nat.le_of_ble_eq_true rfl) (Nat.zero_le _) (Nat.zero_le _) ?_
      obtain ⟨m25, hm25⟩ : ∃ z, z = sp_opens (st m 27 w.toNat 0) w.toNat (m 27 w.toNat) := ⟨_, rfl⟩
      rw [← hm25]
      refine am_goto eX9_tapes_36 ?_
      refine am_return eX9_tapes_150 rfl (Nat.zero_le _) (Nat.zero_le _) ?_
      exact am_vd_m (by rw [hm25]; unfold sp_tapes; (repeat' split) <;> first | rfl | (exfalso; omega))
  · refine am_iconst eX9_tapes_18 ?_
    refine am_goto eX9_tapes_19 ?_
    refine md_bast (f := 27) (j := w.toNat) eX9_tapes_23 (by show _ < 2; omega) rfl (by omega) (Or.inr rfl) ?_
    refine am_iload_n eX9_tapes_24 rfl ?_
    refine am_bipush eX9_tapes_25 (by decide) ?_
    refine am_icmp_ne ⟨by omega, by omega⟩ ⟨by omega, by omega⟩ eX9_tapes_27 (fun c26 => ?_) (fun c26 => ?_)
    · refine am_iload_n eX9_tapes_39 rfl ?_
      refine am_bipush eX9_tapes_40 (by decide) ?_
      refine am_icmp_ne ⟨by omega, by omega⟩ ⟨by omega, by omega⟩ eX9_tapes_42 (fun c27 => ?_) (fun c27 => ?_)
      · refine am_aload_n eX9_tapes_55 rfl ?_
        refine md_getA eX9_tapes_56 fX9_81 (by decide) (by decide) ?_
        refine am_iload_n eX9_tapes_59 rfl ?_
        refine md_ald (f := 28) (j := w.toNat) (v := m 28 w.toNat) eX9_tapes_60 (by show _ < 2; omega) rfl (by omega) ((st_nf (by decide)).trans rfl) ?_
        have b28 := wb28 hW w.toNat
        refine am_if_le ⟨by omega, by omega⟩ eX9_tapes_61 (fun c29 => ?_) (fun c29 => ?_)
        · refine am_aload_n eX9_tapes_78 rfl ?_
          refine md_getA eX9_tapes_79 fX9_81 (by decide) (by decide) ?_
          refine am_iload_n eX9_tapes_82 rfl ?_
          refine md_ald (f := 28) (j := w.toNat) (v := m 28 w.toNat) eX9_tapes_83 (by show _ < 2; omega) rfl (by omega) ((st_nf (by decide)).trans rfl) ?_
          have b30 := wb28 hW w.toNat
          refine am_if_le ⟨by omega, by omega⟩ eX9_tapes_84 (fun c31 => ?_) (fun c31 => ?_)
          · refine am_return eX9_tapes_150 rfl (Nat.zero_le _) (Nat.zero_le _) ?_
            exact am_vd_m (by unfold sp_tapes; (repeat' split) <;> first | rfl | (exfalso; omega))
          · refine am_iload_n eX9_tapes_87 rfl ?_
            refine am_bipush eX9_tapes_88 (by decide) ?_
            refine am_icmp_ge ⟨by omega, by omega⟩ ⟨by omega, by omega⟩ eX9_tapes_90 (fun c32 => ?_) (fun c32 => ?_)
            · refine am_return eX9_tapes_150 rfl (Nat.zero_le _) (Nat.zero_le _) ?_
              exact am_vd_m (by unfold sp_tapes; (repeat' split) <;> first | rfl | (exfalso; omega))
            · refine am_bipush eX9_tapes_93 (by decide) ?_
              refine am_iload_n eX9_tapes_95 rfl ?_
              refine am_imul eX9_tapes_96 ?_
              refine am_aload_n eX9_tapes_97 rfl ?_
              refine md_getA eX9_tapes_98 fX9_81 (by decide) (by decide) ?_
              refine am_iload_n eX9_tapes_101 rfl ?_
              refine md_ald (f := 28) (j := w.toNat) (v := m 28 w.toNat) eX9_tapes_102 (by show _ < 2; omega) rfl (by omega) ((st_nf (by decide)).trans rfl) ?_
              have b33 := wb28 hW w.toNat
              refine am_iadd eX9_tapes_103 ?_
              refine am_iconst eX9_tapes_104 ?_
              refine am_isub eX9_tapes_105 ?_
              refine am_istore eX9_tapes_106 (by decide) ?_
              refine am_aload_n eX9_tapes_108 rfl ?_
              refine md_getA eX9_tapes_109 fX9_90 (by decide) (by decide) ?_
              refine am_iload eX9_tapes_112 rfl ?_
              refine md_ald (f := 31) (j := (((40 * w.toNat) + (m 28 w.toNat).toNat) - 1)) (v := m 31 (((40 * w.toNat) + (m 28 w.toNat).toNat) - 1)) eX9_tapes_114 (by show _ < 80; omega) rfl (by omega) ((st_nf (by decide)).trans rfl) ?_
              have b34 := wb31 hW (((40 * w.toNat) + (m 28 w.toNat).toNat) - 1)
              refine am_bipush eX9_tapes_115 (by decide) ?_
              refine am_icmp_ge ⟨by omega, by omega⟩ ⟨by omega, by omega⟩ eX9_tapes_117 (fun c35 => ?_) (fun c35 => ?_)
              · refine am_return eX9_tapes_150 rfl (Nat.zero_le _) (Nat.zero_le _) ?_
                exact am_vd_m (by unfold sp_tapes; (repeat' split) <;> first | rfl | (exfalso; omega))
              · refine am_aload_n eX9_tapes_120 rfl ?_
                refine md_getA eX9_tapes_121 fX9_93 (by decide) (by decide) ?_
                refine am_bipush eX9_tapes_124 (by decide) ?_
                refine am_iload eX9_tapes_126 rfl ?_
                refine am_imul eX9_tapes_128 ?_
                refine am_aload_n eX9_tapes_129 rfl ?_
                refine md_getA eX9_tapes_130 fX9_90 (by decide) (by decide) ?_
                refine am_iload eX9_tapes_133 rfl ?_
                refine md_ald (f := 31) (j := (((40 * w.toNat) + (m 28 w.toNat).toNat) - 1)) (v := m 31 (((40 * w.toNat) + (m 28 w.toNat).toNat) - 1)) eX9_tapes_135 (by show _ < 80; omega) rfl (by omega) ((st_nf (by decide)).trans rfl) ?_
                have b36 := wb31 hW (((40 * w.toNat) + (m 28 w.toNat).toNat) - 1)
                refine am_iadd eX9_tapes_136 ?_
                refine am_iload_n eX9_tapes_137 rfl ?_
                refine md_ast (f := 32) (j := ((60 * (((40 * w.toNat) + (m 28 w.toNat).toNat) - 1)) + (m 31 (((40 * w.toNat) + (m 28 w.toNat).toNat) - 1)).toNat)) eX9_tapes_138 (by show _ < 4800; omega) rfl (by omega) ?_
                refine am_aload_n eX9_tapes_139 rfl ?_
                refine md_getA eX9_tapes_140 fX9_90 (by decide) (by decide) ?_
                refine am_iload eX9_tapes_143 rfl ?_
                refine am_dup2 eX9_tapes_145 ?_
                refine md_ald (f := 31) (j := (((40 * w.toNat) + (m 28 w.toNat).toNat) - 1)) (v := m 31 (((40 * w.toNat) + (m 28 w.toNat).toNat) - 1)) eX9_tapes_146 (by show _ < 80; omega) rfl (by omega) ((st_nf (by decide)).trans ((st_nf (by decide)).trans rfl)) ?_
                have b37 := wb31 hW (((40 * w.toNat) + (m 28 w.toNat).toNat) - 1)
                refine am_iconst eX9_tapes_147 ?_
                refine am_iadd eX9_tapes_148 ?_
                refine md_ast (f := 31) (j := (((40 * w.toNat) + (m 28 w.toNat).toNat) - 1)) eX9_tapes_149 (by show _ < 80; omega) rfl (by omega) ?_
                refine am_return eX9_tapes_150 rfl (Nat.zero_le _) (Nat.zero_le _) ?_
                exact am_vd_m (by unfold sp_tapes; (repeat' split) <;> first | rfl | (exfalso; omega))
        · refine am_iload_n eX9_tapes_64 rfl ?_
          refine am_bipush eX9_tapes_65 (by decide) ?_
          refine am_icmp_ne ⟨by omega, by omega⟩ ⟨by omega, by omega⟩ eX9_tapes_67 (fun c38 => ?_) (fun c38 => ?_)
          · refine am_aload_n eX9_tapes_78 rfl ?_
            refine md_getA eX9_tapes_79 fX9_81 (by decide) (by decide) ?_
            refine am_iload_n eX9_tapes_82 rfl ?_
            refine md_ald (f := 28) (j := w.toNat) (v := m 28 w.toNat) eX9_tapes_83 (by show _ < 2; omega) rfl (by omega) ((st_nf (by decide)).trans rfl) ?_
            have b39 := wb28 hW w.toNat
            refine am_if_le ⟨by omega, by omega⟩ eX9_tapes_84 (fun c40 => ?_) (fun c40 => ?_)
            · refine am_return eX9_tapes_150 rfl (Nat.zero_le _) (Nat.zero_le _) ?_
              exact am_vd_m (by unfold sp_tapes; (repeat' split) <;> first | rfl | (exfalso; omega))
            · refine am_iload_n eX9_tapes_87 rfl ?_
              refine am_bipush eX9_tapes_88 (by decide) ?_
              refine am_icmp_ge ⟨by omega, by omega⟩ ⟨by omega, by omega⟩ eX9_tapes_90 (fun c41 => ?_) (fun c41 => ?_)
              · refine am_return eX9_tapes_150 rfl (Nat.zero_le _) (Nat.zero_le _) ?_
                exact am_vd_m (by unfold sp_tapes; (repeat' split) <;> first | rfl | (exfalso; omega))
              · refine am_bipush eX9_tapes_93 (by decide) ?_
                refine am_iload_n eX9_tapes_95 rfl ?_
                refine am_imul eX9_tapes_96 ?_
                refine am_aload_n eX9_tapes_97 rfl ?_
                refine md_getA eX9_tapes_98 fX9_81 (by decide) (by decide) ?_
                refine am_iload_n eX9_tapes_101 rfl ?_
                refine md_ald (f := 28) (j := w.toNat) (v := m 28 w.toNat) eX9_tapes_102 (by show _ < 2; omega) rfl (by omega) ((st_nf (by decide)).trans rfl) ?_
                have b42 := wb28 hW w.toNat
                refine am_iadd eX9_tapes_103 ?_
                refine am_iconst eX9_tapes_104 ?_
                refine am_isub eX9_tapes_105 ?_
                refine am_istore eX9_tapes_106 (by decide) ?_
                refine am_aload_n eX9_tapes_108 rfl ?_
                refine md_getA eX9_tapes_109 fX9_90 (by decide) (by decide) ?_
                refine am_iload eX9_tapes_112 rfl ?_
                refine md_ald (f := 31) (j := (((40 * w.toNat) + (m 28 w.toNat).toNat) - 1)) (v := m 31 (((40 * w.toNat) + (m 28 w.toNat).toNat) - 1)) eX9_tapes_114 (by show _ < 80; omega) rfl (by omega) ((st_nf (by decide)).trans rfl) ?_
                have b43 := wb31 hW (((40 * w.toNat) + (m 28 w.toNat).toNat) - 1)
                refine am_bipush eX9_tapes_115 (by decide) ?_
                refine am_icmp_ge ⟨by omega, by omega⟩ ⟨by omega, by omega⟩ eX9_tapes_117 (fun c44 => ?_) (fun c44 => ?_)
                · refine am_return eX9_tapes_150 rfl (Nat.zero_le _) (Nat.zero_le _) ?_
                  exact am_vd_m (by unfold sp_tapes; (repeat' split) <;> first | rfl | (exfalso; omega))
                · refine am_aload_n eX9_tapes_120 rfl ?_
                  refine md_getA eX9_tapes_121 fX9_93 (by decide) (by decide) ?_
                  refine am_bipush eX9_tapes_124 (by decide) ?_
                  refine am_iload eX9_tapes_126 rfl ?_
                  refine am_imul eX9_tapes_128 ?_
                  refine am_aload_n eX9_tapes_129 rfl ?_
                  refine md_getA eX9_tapes_130 fX9_90 (by decide) (by decide) ?_
                  refine am_iload eX9_tapes_133 rfl ?_
                  refine md_ald (f := 31) (j := (((40 * w.toNat) + (m 28 w.toNat).toNat) - 1)) (v := m 31 (((40 * w.toNat) + (m 28 w.toNat).toNat) - 1)) eX9_tapes_135 (by show _ < 80; omega) rfl (by omega) ((st_nf (by decide)).trans rfl) ?_
                  have b45 := wb31 hW (((40 * w.toNat) + (m 28 w.toNat).toNat) - 1)
                  refine am_iadd eX9_tapes_136 ?_
                  refine am_iload_n eX9_tapes_137 rfl ?_
                  refine md_ast (f := 32) (j := ((60 * (((40 * w.toNat) + (m 28 w.toNat).toNat) - 1)) + (m 31 (((40 * w.toNat) + (m 28 w.toNat).toNat) - 1)).toNat)) eX9_tapes_138 (by show _ < 4800; omega) rfl (by omega) ?_
                  refine am_aload_n eX9_tapes_139 rfl ?_
                  refine md_getA eX9_tapes_140 fX9_90 (by decide) (by decide) ?_
                  refine am_iload eX9_tapes_143 rfl ?_
                  refine am_dup2 eX9_tapes_145 ?_
                  refine md_ald (f := 31) (j := (((40 * w.toNat) + (m 28 w.toNat).toNat) - 1)) (v := m 31 (((40 * w.toNat) + (m 28 w.toNat).toNat) - 1)) eX9_tapes_146 (by show _ < 80; omega) rfl (by omega) ((st_nf (by decide)).trans ((st_nf (by decide)).trans rfl)) ?_
                  have b46 := wb31 hW (((40 * w.toNat) + (m 28 w.toNat).toNat) - 1)
                  refine am_iconst eX9_tapes_147 ?_
                  refine am_iadd eX9_tapes_148 ?_
                  refine md_ast (f := 31) (j := (((40 * w.toNat) + (m 28 w.toNat).toNat) - 1)) eX9_tapes_149 (by show _ < 80; omega) rfl (by omega) ?_
                  refine am_return eX9_tapes_150 rfl (Nat.zero_le _) (Nat.zero_le _) ?_
                  exact am_vd_m (by unfold sp_tapes; (repeat' split) <;> first | rfl | (exfalso; omega))
          · refine am_aload_n eX9_tapes_70 rfl ?_
            refine am_iload_n eX9_tapes_71 rfl ?_
            refine am_cV_v eX9_tapes_72 kX9_193 (c_X9_ends (m := (st m 27 w.toNat 1)) (x := x) (T := T) (wb_st (f := 27) hW (by show (0 : Int) ≤ _; omega) (by show _ ≤ (1 : Int); omega)) (w := w) (by omega) (by rw [((st_nf (by decide)).trans rfl)]; omega)) rfl rfl en_9 (by decide) (by decide) (Nat.le_of_ble_eq_true rfl) (Nat.zero_le _) (Nat.zero_le _) ?_
            obtain ⟨m47, hm47⟩ : ∃ z, z = sp_ends (st m 27 w.toNat 1) w.toNat := ⟨_, rfl⟩
            rw [← hm47]
            refine am_goto eX9_tapes_75 ?_
            refine am_return eX9_tapes_150 rfl (Nat.zero_le _) (Nat.zero_le _) ?_
            exact am_vd_m (by rw [hm47]; unfold sp_tapes; (repeat' split) <;> first | rfl | (exfalso; omega))
      · refine am_aload_n eX9_tapes_45 rfl ?_
        refine md_getA eX9_tapes_46 fX9_81 (by decide) (by decide) ?_
        refine am_iload_n eX9_tapes_49 rfl ?_
        refine am_iconst eX9_tapes_50 ?_
        refine md_ast (f := 28) (j := w.toNat) eX9_tapes_51 (by show _ < 2; omega) rfl (by omega) ?_
        refine am_goto eX9_tapes_52 ?_
        refine am_return eX9_tapes_150 rfl (Nat.zero_le _) (Nat.zero_le _) ?_
        exact am_vd_m (by unfold sp_tapes; (repeat' split) <;> first | rfl | (exfalso; omega))
    · refine am_aload_n eX9_tapes_30 rfl ?_
      refine am_iload_n eX9_tapes_31 rfl ?_
      refine am_iload_n eX9_tapes_32 rfl ?_
      refine am_cV_v eX9_tapes_33 kX9_189 (c_X9_opens (m := (st m 27 w.toNat 1)) (x := x) (T := T) (wb_st (f := 27) hW (by show (0 : Int) ≤ _; omega) (by show _ ≤ (1 : Int); omega)) (w := w) (u := (m 27 w.toNat)) (by omega) (by omega) (by rw [((st_nf (by decide)).trans rfl)]; omega)) rfl rfl en_9 (by decide) (by decide) (Nat.le_of_ble_eq_true rfl) (Nat.zero_le _) (Nat.zero_le _) ?_
      obtain ⟨m48, hm48⟩ : ∃ z, z = sp_opens (st m 27 w.toNat 1) w.toNat (m 27 w.toNat) := ⟨_, rfl⟩
      rw [← hm48]
      refine am_goto eX9_tapes_36 ?_
      refine am_return eX9_tapes_150 rfl (Nat.zero_le _) (Nat.zero_le _) ?_
      exact am_vd_m (by rw [hm48]; unfold sp_tapes; (repeat' split) <;> first | rfl | (exfalso; omega))
theorem c_X9_keepsAtN {G : am_G} {m x : sg_S} {T : Int} (hW : md_wb T m) {w p s : Int} {wn pn : Nat} (ew : w = (wn : Int)) (ep : p = (pn : Int)) (hw : wn < 24) (hp : (pn : Int) ≤ m 12 wn) (hl : m 12 wn < 220) (hr_s : -2147483648 ≤ s ∧ s < 2147483648) : am_Con G yX9_keepsAt wX9_keepsAt 1 0 0 [am_R (9, 0), am_I w, am_I p, am_I s] (en_h m x) (am_vd (en_h (sp_kp m wn pn s) x)) := by
  subst ew; subst ep
  have h := c_X9_keepsAt (G := G) (x := x) hW (w := (wn : Int)) (p := (pn : Int)) (s := s) (by omega) (by rw [Int.toNat_natCast]; omega) (by rw [Int.toNat_natCast]; omega) hr_s
  rwa [Int.toNat_natCast, Int.toNat_natCast] at h
theorem c_X9_tapesN {G : am_G} {m x : sg_S} {T : Int} (hW : md_wb T m) {w s : Int} {wn : Nat} (ew : w = (wn : Int)) (hw : wn < 2) (hs : 0 ≤ s ∧ s ≤ 96) (h8 : m 28 wn ≤ 38) : am_Con G yX9_tapes wX9_tapes 2 0 0 [am_R (9, 0), am_I w, am_I s] (en_h m x) (am_vd (en_h (sp_tapes m wn s) x)) := by
  subst ew
  have h := c_X9_tapes (G := G) (x := x) hW (w := (wn : Int)) (s := s) (by omega) hs (by rw [Int.toNat_natCast]; exact h8)
  rwa [Int.toNat_natCast] at h
def sp_lk (σ : sg_S) (t u : Int) : Int := if u = 0 then t + 1 else t - 1
def sp_ln (t u : Int) : Nat := if u = 0 then t.toNat + 1 else t.toNat - 1
/-- a tower looks, for a way: what becomes -/
def sp_looks (σ : sg_S) (t u : Int) : sg_S :=
  if ¬ (0 ≤ sp_lk σ t u ∧ sp_lk σ t u ≤ σ 3 0 - 1) then σ
  else if σ 15 (2 * (sp_ln t u) + u.toNat) ≠ -1 ∧ σ 16 (2 * (sp_ln t u) + u.toNat) = 0 ∧ ((t = if u = 0 then 0 else σ 3 0 - 1) ∨ σ 12 (2 * t.toNat + u.toNat) < 10) ∧ an_see σ (if u = 0 then t.toNat else (sp_ln t u)) = 1 then
    if t = if u = 0 then 0 else σ 3 0 - 1 then
      sp_tapes (sp_writes (st σ 16 (2 * (sp_ln t u) + u.toNat) 1) (2 * t + u) (an_reads σ t (σ 15 (2 * (sp_ln t u) + u.toNat))) 0) u.toNat (an_reads σ t (σ 15 (2 * (sp_ln t u) + u.toNat)))
    else
      sp_kp (sp_writes (st σ 16 (2 * (sp_ln t u) + u.toNat) 1) (2 * t + u) (an_reads σ t (σ 15 (2 * (sp_ln t u) + u.toNat))) 0) (2 * t.toNat + u.toNat) (σ 12 (2 * t.toNat + u.toNat)).toNat (an_reads σ t (σ 15 (2 * (sp_ln t u) + u.toNat)))
  else σ
theorem an_reads_in {T : Int} {σ : sg_S} (hW : md_wb T σ) {t sg : Int} (h : 0 ≤ sg ∧ sg ≤ 96) : 0 ≤ an_reads σ t sg ∧ an_reads σ t sg ≤ 96 ∧ (sg < 92 → an_reads σ t sg < 92) ∧ (92 ≤ sg → an_reads σ t sg = sg) := by
  unfold an_reads
  split
  · split <;> omega
  · omega
theorem an_reads_st {σ : sg_S} {f j : Nat} {v t sg : Int} (h1 : f ≠ 1) (h2 : f ≠ 11) (h3 : f ≠ 6) : an_reads (st σ f j v) t sg = an_reads σ t sg := by
  simp [an_reads, st, Ne.symm h1, Ne.symm h2, Ne.symm h3]
set_option maxRecDepth 100000 in
set_option maxHeartbeats 4000000 in
theorem c_X9_looks {G : am_G} {m x : sg_S} {T : Int} (hW : md_wb T m) {t u : Int} (ht : 0 ≤ t ∧ t ≤ m 3 0 - 1) (hb_u : u = 0 ∨ u = 1) (hF : ∀ t : Nat, (t : Int) < m 3 0 → 1 ≤ m 5 t) (h8 : ∀ w, m 28 w ≤ 38) : am_Con G yX9_looks wX9_looks 5 0 0 [am_R (9, 0), am_I t, am_I u] (en_h m x) (am_vd (en_h (sp_looks m t u) x)) := by
  refine am_of2 (Y := mX9_looks) (by decide +kernel) rfl (fun z => by cases z) rfl rfl (Nat.le_of_ble_eq_true rfl) fun X => ?_
  have bb3 := wb3 hW 0
  rcases hb_u with rfl | rfl
  · refine am_iload_n eX9_looks_0 rfl ?_
    refine am_if_eq ⟨by omega, by omega⟩ eX9_looks_1 (fun _ => ?_) (fun z => absurd z (by decide))
    refine am_iload_n eX9_looks_10 rfl ?_
    refine am_iconst eX9_looks_11 ?_
    refine am_iadd eX9_looks_12 ?_
    refine am_istore_n eX9_looks_13 (by decide) ?_
    refine am_aload_n eX9_looks_14 rfl ?_
    refine am_iload_n eX9_looks_15 rfl ?_
    refine am_cV eX9_looks_16 kX9_141 (c_X9_isTower (m := m) (x := x) (T := T) hW (a := (t + 1)) ⟨by omega, by omega⟩) rfl rfl en_9 (by decide) (by decide) (Nat.le_of_ble_eq_true rfl) (Nat.zero_le _) (Nat.zero_le _) ?_
    have b2 := wb3 hW 0
    refine am_bz_ne eX9_looks_19 (fun c3 => ?_) (fun c3 => ?_)
    · refine am_iload_n eX9_looks_23 rfl ?_
      refine am_iload_n eX9_looks_24 rfl ?_
      refine am_cS eX9_looks_25 kX9_171 (c_X9_at (a := (t + 1)) (u := 0) (Or.inl rfl)) rfl rfl (by decide) (by decide) (Nat.le_of_ble_eq_true rfl) (Nat.zero_le _) (Nat.zero_le _) ?_
      refine am_istore eX9_looks_28 (by decide) ?_
      refine am_iload_n eX9_looks_30 rfl ?_
      refine am_iload_n eX9_looks_31 rfl ?_
      refine am_cS eX9_looks_32 kX9_171 (c_X9_at (a := t) (u := 0) (Or.inl rfl)) rfl rfl (by decide) (by decide) (Nat.le_of_ble_eq_true rfl) (Nat.zero_le _) (Nat.zero_le _) ?_
      refine am_istore eX9_looks_35 (by decide) ?_
      refine am_aload_n eX9_looks_37 rfl ?_
      refine am_iload_n eX9_looks_38 rfl ?_
      refine am_iload_n eX9_looks_39 rfl ?_
      refine am_cV eX9_looks_40 kX9_178 (c_X9_isEnd (m := m) (x := x) (T := T) hW (a := t) (u := 0) ⟨by omega, by omega⟩ (Or.inl rfl)) rfl rfl en_9 (by decide) (by decide) (Nat.le_of_ble_eq_true rfl) (Nat.zero_le _) (Nat.zero_le _) ?_
      refine am_topI (w := bz (decide (t = 0))) (by simp [st]) ?_
      have b4 := wb3 hW 0
      refine am_istore eX9_looks_43 (by decide) ?_
      refine am_aload_n eX9_looks_45 rfl ?_
      refine md_getA eX9_looks_46 fX9_44 (by decide) (by decide) ?_
      refine am_iload eX9_looks_49 rfl ?_
      refine md_ald (f := 15) (j := (2 * (t.toNat + 1) + 0)) (v := m 15 (2 * (t.toNat + 1) + 0)) eX9_looks_51 (by show _ < 24; omega) rfl (by omega) rfl ?_
      have b5 := wb15 hW (2 * (t.toNat + 1) + 0)
      refine am_iconst eX9_looks_52 ?_
      refine am_icmp_eq ⟨by omega, by omega⟩ ⟨by omega, by omega⟩ eX9_looks_53 (fun c6 => ?_) (fun c6 => ?_)
      · refine am_iconst eX9_looks_87 ?_
        refine am_istore eX9_looks_88 (by decide) ?_
        refine am_iload eX9_looks_90 rfl ?_
        refine am_if_eq ⟨by omega, by omega⟩ eX9_looks_92 (fun _ => ?_) (fun z => absurd z (by decide))
        refine am_return eX9_looks_180 rfl (Nat.zero_le _) (Nat.zero_le _) ?_
        exact am_vd_m (by unfold sp_looks; simp only [sp_lk, sp_ln, if_true, if_false]; (try simp only [Int.toNat_zero, Int.toNat_one]); (repeat' split) <;> first | rfl | (exfalso; omega))
      · refine am_aload_n eX9_looks_56 rfl ?_
        refine md_getA eX9_looks_57 fX9_47 (by decide) (by decide) ?_
        refine am_iload eX9_looks_60 rfl ?_
        refine md_bald (f := 16) (j := (2 * (t.toNat + 1) + 0)) (v := m 16 (2 * (t.toNat + 1) + 0)) eX9_looks_62 (by show _ < 24; omega) rfl (by omega) rfl ?_
        have b8 := wb16 hW (2 * (t.toNat + 1) + 0)
        refine am_if_ne ⟨by omega, by omega⟩ eX9_looks_63 (fun c9 => ?_) (fun c9 => ?_)
        · refine am_iconst eX9_looks_87 ?_
          refine am_istore eX9_looks_88 (by decide) ?_
          refine am_iload eX9_looks_90 rfl ?_
          refine am_if_eq ⟨by omega, by omega⟩ eX9_looks_92 (fun _ => ?_) (fun z => absurd z (by decide))
          refine am_return eX9_looks_180 rfl (Nat.zero_le _) (Nat.zero_le _) ?_
          exact am_vd_m (by unfold sp_looks; simp only [sp_lk, sp_ln, if_true, if_false]; (try simp only [Int.toNat_zero, Int.toNat_one]); (repeat' split) <;> first | rfl | (exfalso; omega))
        · refine am_iload eX9_looks_66 rfl ?_
          refine am_bz_ne eX9_looks_68 (fun c11 => ?_) (fun c11 => ?_)
          · refine am_iconst eX9_looks_83 ?_
            refine am_goto eX9_looks_84 ?_
            refine am_istore eX9_looks_88 (by decide) ?_
            refine am_iload eX9_looks_90 rfl ?_
            refine am_if_eq ⟨by omega, by omega⟩ eX9_looks_92 (fun z => absurd z (by decide)) (fun _ => ?_)
            refine am_aload_n eX9_looks_95 rfl ?_
            refine am_iload_n eX9_looks_96 rfl ?_
            refine am_if_eq ⟨by omega, by omega⟩ eX9_looks_97 (fun _ => ?_) (fun z => absurd z (by decide))
            refine am_iload_n eX9_looks_104 rfl ?_
            refine am_cV eX9_looks_105 kX9_197 (c_X9_seesAlong (m := m) (x := x) (T := T) hW (s := t) (by omega) (by exact hF _ (by omega))) rfl rfl en_9 (by decide) (by decide) (Nat.le_of_ble_eq_true rfl) (Nat.zero_le _) (Nat.zero_le _) ?_
            obtain ⟨f14, hf14⟩ : ∃ z, z = an_see m t.toNat := ⟨_, rfl⟩
            rw [← hf14]
            have qf14 : f14 = 0 ∨ f14 = 1 := by rw [hf14]; exact sp_sl_01 _
            refine am_if_eq ⟨by omega, by omega⟩ eX9_looks_108 (fun c15 => ?_) (fun c15 => ?_)
            · refine am_return eX9_looks_180 rfl (Nat.zero_le _) (Nat.zero_le _) ?_
              exact am_vd_m (by unfold sp_looks; simp only [sp_lk, sp_ln, if_true, if_false]; (try simp only [Int.toNat_zero, Int.toNat_one]); (repeat' split) <;> first | rfl | (exfalso; omega))
            · refine am_aload_n eX9_looks_111 rfl ?_
              refine md_getA eX9_looks_112 fX9_47 (by decide) (by decide) ?_
              refine am_iload eX9_looks_115 rfl ?_
              refine am_iconst eX9_looks_117 ?_
              refine md_bast (f := 16) (j := (2 * (t.toNat + 1) + 0)) eX9_looks_118 (by show _ < 24; omega) rfl (by omega) (Or.inr rfl) ?_
              refine am_aload_n eX9_looks_119 rfl ?_
              refine am_iload_n eX9_looks_120 rfl ?_
              refine am_aload_n eX9_looks_121 rfl ?_
              refine md_getA eX9_looks_122 fX9_44 (by decide) (by decide) ?_
              refine am_iload eX9_looks_125 rfl ?_
              refine md_ald (f := 15) (j := (2 * (t.toNat + 1) + 0)) (v := m 15 (2 * (t.toNat + 1) + 0)) eX9_looks_127 (by show _ < 24; omega) rfl (by omega) ((st_nf (by decide)).trans rfl) ?_
              have b16 := wb15 hW (2 * (t.toNat + 1) + 0)
              refine am_cV eX9_looks_128 kX9_200 (c_X9_reads (m := (st m 16 (2 * (t.toNat + 1) + 0) 1)) (x := x) (T := T) (wb_st (f := 16) hW (by show (0 : Int) ≤ _; omega) (by show _ ≤ (1 : Int); omega)) (t := t) (sg := (m 15 (2 * (t.toNat + 1) + 0))) (by omega) (by omega)) rfl rfl en_9 (by decide) (by decide) (Nat.le_of_ble_eq_true rfl) (Nat.zero_le _) (Nat.zero_le _) ?_
              refine am_topI (w := (an_reads m t (m 15 (2 * (t.toNat + 1) + 0)))) (by rw [an_reads_st (by decide) (by decide) (by decide)]) ?_
              have qf17 := an_reads_in hW (t := t) (sg := (m 15 (2 * (t.toNat + 1) + 0))) (by omega)
              obtain ⟨f17, hf17⟩ : ∃ z, z = (an_reads m t (m 15 (2 * (t.toNat + 1) + 0))) := ⟨_, rfl⟩
              rw [← hf17] at qf17
              rw [← hf17]
              refine am_istore eX9_looks_131 (by decide) ?_
              refine am_aload_n eX9_looks_133 rfl ?_
              refine am_iload eX9_looks_134 rfl ?_
              refine am_iload eX9_looks_136 rfl ?_
              refine am_iconst eX9_looks_138 ?_
              refine am_cV_v eX9_looks_139 kX9_182 (c_X9_writes (m := (st m 16 (2 * (t.toNat + 1) + 0) 1)) (x := x) (T := T) (wb_st (f := 16) hW (by show (0 : Int) ≤ _; omega) (by show _ ≤ (1 : Int); omega)) (w := (2 * t + 0)) (sg := f17) (ow := 0) (by omega) ⟨by omega, by omega⟩ (Or.inl rfl)) rfl rfl en_9 (by decide) (by decide) (Nat.le_of_ble_eq_true rfl) (Nat.zero_le _) (Nat.zero_le _) ?_
              obtain ⟨m18, hm18⟩ : ∃ z, z = sp_writes (st m 16 (2 * (t.toNat + 1) + 0) 1) (2 * t + 0) f17 0 := ⟨_, rfl⟩
              rw [← hm18]
              have hWm18 : md_wb T m18 := by rw [hm18]; exact sp_writes_wb (wb_st (f := 16) hW (by show (0 : Int) ≤ _; omega) (by show _ ≤ (1 : Int); omega)) (by omega) (Or.inl rfl)
              refine am_iload eX9_looks_142 rfl ?_
              refine am_bz_eq eX9_looks_144 (fun c19 => ?_) (fun c19 => ?_)
              · refine am_aload_n eX9_looks_165 rfl ?_
                refine am_iload eX9_looks_166 rfl ?_
                refine am_aload_n eX9_looks_168 rfl ?_
                refine md_getA eX9_looks_169 fX9_35 (by decide) (by decide) ?_
                refine am_iload eX9_looks_172 rfl ?_
                refine md_ald (f := 12) (j := (2 * t.toNat + 0)) (v := m 12 (2 * t.toNat + 0)) eX9_looks_174 (by show _ < 24; omega) rfl (by omega) ((congrFun (congrFun hm18 12) (2 * t.toNat + 0)).trans ((sp_writes_f (by decide)).trans ((st_nf (by decide)).trans rfl))) ?_
                have b20 := wb12 hW (2 * t.toNat + 0)
                refine am_iload eX9_looks_175 rfl ?_
                refine am_cV_v eX9_looks_177 kX9_174 (c_X9_keepsAtN (m := m18) (x := x) (T := T) hWm18 (w := (2 * t + 0)) (p := (m 12 (2 * t.toNat + 0))) (s := f17) (wn := (2 * t.toNat + 0)) (pn := (m 12 (2 * t.toNat + 0)).toNat) (by omega) (by omega) (by omega) (by rw [((congrFun (congrFun hm18 12) (2 * t.toNat + 0)).trans ((sp_writes_f (by decide)).trans ((st_nf (by decide)).trans rfl)))]; omega) (by rw [((congrFun (congrFun hm18 12) (2 * t.toNat + 0)).trans ((sp_writes_f (by decide)).trans ((st_nf (by decide)).trans rfl)))]; omega) ⟨by omega, by omega⟩) rfl rfl en_9 (by decide) (by decide) (Nat.le_of_ble_eq_true rfl) (Nat.zero_le _) (Nat.zero_le _) ?_
                obtain ⟨m21, hm21⟩ : ∃ z, z = sp_kp m18 (2 * t.toNat + 0) (m 12 (2 * t.toNat + 0)).toNat f17 := ⟨_, rfl⟩
                rw [← hm21]
                have hWm21 : md_wb T m21 := by rw [hm21]; exact sp_kp_wb hWm18 (by omega) (by rw [((congrFun (congrFun hm18 12) (2 * t.toNat + 0)).trans ((sp_writes_f (by decide)).trans ((st_nf (by decide)).trans rfl)))]; omega)
                refine am_return eX9_looks_180 rfl (Nat.zero_le _) (Nat.zero_le _) ?_
                exact am_vd_m (by rw [hm21]; rw [hm18]; rw [hf17]; unfold sp_looks; simp only [sp_lk, sp_ln, if_true, if_false]; (try simp only [Int.toNat_zero, Int.toNat_one]); (repeat' split) <;> first | rfl | (exfalso; omega))
              · refine am_aload_n eX9_looks_147 rfl ?_
                refine am_iload_n eX9_looks_148 rfl ?_
                refine am_if_eq ⟨by omega, by omega⟩ eX9_looks_149 (fun _ => ?_) (fun z => absurd z (by decide))
                refine am_iconst eX9_looks_156 ?_
                refine am_iload eX9_looks_157 rfl ?_
                refine am_cV_v eX9_looks_159 kX9_203 (c_X9_tapesN (m := m18) (x := x) (T := T) hWm18 (w := 0) (s := f17) (wn := 0) (by omega) (by omega) (by omega) (by rw [((congrFun (congrFun hm18 28) 0).trans ((sp_writes_f (by decide)).trans ((st_nf (by decide)).trans rfl)))]; exact h8 _)) rfl rfl en_9 (by decide) (by decide) (Nat.le_of_ble_eq_true rfl) (Nat.zero_le _) (Nat.zero_le _) ?_
                obtain ⟨m23, hm23⟩ : ∃ z, z = sp_tapes m18 0 f17 := ⟨_, rfl⟩
                rw [← hm23]
                refine am_goto eX9_looks_162 ?_
                refine am_return eX9_looks_180 rfl (Nat.zero_le _) (Nat.zero_le _) ?_
                exact am_vd_m (by rw [hm23]; rw [hm18]; rw [hf17]; unfold sp_looks; simp only [sp_lk, sp_ln, if_true, if_false]; (try simp only [Int.toNat_zero, Int.toNat_one]); (repeat' split) <;> first | rfl | (exfalso; omega))
          · refine am_aload_n eX9_looks_71 rfl ?_
            refine md_getA eX9_looks_72 fX9_35 (by decide) (by decide) ?_
            refine am_iload eX9_looks_75 rfl ?_
            refine md_ald (f := 12) (j := (2 * t.toNat + 0)) (v := m 12 (2 * t.toNat + 0)) eX9_looks_77 (by show _ < 24; omega) rfl (by omega) rfl ?_
            have b24 := wb12 hW (2 * t.toNat + 0)
            refine am_bipush eX9_looks_78 (by decide) ?_
            refine am_icmp_ge ⟨by omega, by omega⟩ ⟨by omega, by omega⟩ eX9_looks_80 (fun c25 => ?_) (fun c25 => ?_)
            · refine am_iconst eX9_looks_87 ?_
              refine am_istore eX9_looks_88 (by decide) ?_
              refine am_iload eX9_looks_90 rfl ?_
              refine am_if_eq ⟨by omega, by omega⟩ eX9_looks_92 (fun _ => ?_) (fun z => absurd z (by decide))
              refine am_return eX9_looks_180 rfl (Nat.zero_le _) (Nat.zero_le _) ?_
              exact am_vd_m (by unfold sp_looks; simp only [sp_lk, sp_ln, if_true, if_false]; (try simp only [Int.toNat_zero, Int.toNat_one]); (repeat' split) <;> first | rfl | (exfalso; omega))
            · refine am_iconst eX9_looks_83 ?_
              refine am_goto eX9_looks_84 ?_
              refine am_istore eX9_looks_88 (by decide) ?_
              refine am_iload eX9_looks_90 rfl ?_
              refine am_if_eq ⟨by omega, by omega⟩ eX9_looks_92 (fun z => absurd z (by decide)) (fun _ => ?_)
              refine am_aload_n eX9_looks_95 rfl ?_
              refine am_iload_n eX9_looks_96 rfl ?_
              refine am_if_eq ⟨by omega, by omega⟩ eX9_looks_97 (fun _ => ?_) (fun z => absurd z (by decide))
              refine am_iload_n eX9_looks_104 rfl ?_
              refine am_cV eX9_looks_105 kX9_197 (c_X9_seesAlong (m := m) (x := x) (T := T) hW (s := t) (by omega) (by exact hF _ (by omega))) rfl rfl en_9 (by decide) (by decide) (Nat.le_of_ble_eq_true rfl) (Nat.zero_le _) (Nat.zero_le _) ?_
              obtain ⟨f29, hf29⟩ : ∃ z, z = an_see m t.toNat := ⟨_, rfl⟩
              rw [← hf29]
              have qf29 : f29 = 0 ∨ f29 = 1 := by rw [hf29]; exact sp_sl_01 _
              refine am_if_eq ⟨by omega, by omega⟩ eX9_looks_108 (fun c30 => ?_) (fun c30 => ?_)
              · refine am_return eX9_looks_180 rfl (Nat.zero_le _) (Nat.zero_le _) ?_
                exact am_vd_m (by unfold sp_looks; simp only [sp_lk, sp_ln, if_true, if_false]; (try simp only [Int.toNat_zero, Int.toNat_one]); (repeat' split) <;> first | rfl | (exfalso; omega))
              · refine am_aload_n eX9_looks_111 rfl ?_
                refine md_getA eX9_looks_112 fX9_47 (by decide) (by decide) ?_
                refine am_iload eX9_looks_115 rfl ?_
                refine am_iconst eX9_looks_117 ?_
                refine md_bast (f := 16) (j := (2 * (t.toNat + 1) + 0)) eX9_looks_118 (by show _ < 24; omega) rfl (by omega) (Or.inr rfl) ?_
                refine am_aload_n eX9_looks_119 rfl ?_
                refine am_iload_n eX9_looks_120 rfl ?_
                refine am_aload_n eX9_looks_121 rfl ?_
                refine md_getA eX9_looks_122 fX9_44 (by decide) (by decide) ?_
                refine am_iload eX9_looks_125 rfl ?_
                refine md_ald (f := 15) (j := (2 * (t.toNat + 1) + 0)) (v := m 15 (2 * (t.toNat + 1) + 0)) eX9_looks_127 (by show _ < 24; omega) rfl (by omega) ((st_nf (by decide)).trans rfl) ?_
                have b31 := wb15 hW (2 * (t.toNat + 1) + 0)
                refine am_cV eX9_looks_128 kX9_200 (c_X9_reads (m := (st m 16 (2 * (t.toNat + 1) + 0) 1)) (x := x) (T := T) (wb_st (f := 16) hW (by show (0 : Int) ≤ _; omega) (by show _ ≤ (1 : Int); omega)) (t := t) (sg := (m 15 (2 * (t.toNat + 1) + 0))) (by omega) (by omega)) rfl rfl en_9 (by decide) (by decide) (Nat.le_of_ble_eq_true rfl) (Nat.zero_le _) (Nat.zero_le _) ?_
                refine am_topI (w := (an_reads m t (m 15 (2 * (t.toNat + 1) + 0)))) (by rw [an_reads_st (by decide) (by decide) (by decide)]) ?_
                have qf32 := an_reads_in hW (t := t) (sg := (m 15 (2 * (t.toNat + 1) + 0))) (by omega)
                obtain ⟨f32, hf32⟩ : ∃ z, z = (an_reads m t (m 15 (2 * (t.toNat + 1) + 0))) := ⟨_, rfl⟩
                rw [← hf32] at qf32
                rw [← hf32]
                refine am_istore eX9_looks_131 (by decide) ?_
                refine am_aload_n eX9_looks_133 rfl ?_
                refine am_iload eX9_looks_134 rfl ?_
                refine am_iload eX9_looks_136 rfl ?_
                refine am_iconst eX9_looks_138 ?_
                refine am_cV_v eX9_looks_139 kX9_182 (c_X9_writes (m := (st m 16 (2 * (t.toNat + 1) + 0) 1)) (x := x) (T := T) (wb_st (f := 16) hW (by show (0 : Int) ≤ _; omega) (by show _ ≤ (1 : Int); omega)) (w := (2 * t + 0)) (sg := f32) (ow := 0) (by omega) ⟨by omega, by omega⟩ (Or.inl rfl)) rfl rfl en_9 (by decide) (by decide) (Nat.le_of_ble_eq_true rfl) (Nat.zero_le _) (Nat.zero_le _) ?_
                obtain ⟨m33, hm33⟩ : ∃ z, z = sp_writes (st m 16 (2 * (t.toNat + 1) + 0) 1) (2 * t + 0) f32 0 := ⟨_, rfl⟩
                rw [← hm33]
                have hWm33 : md_wb T m33 := by rw [hm33]; exact sp_writes_wb (wb_st (f := 16) hW (by show (0 : Int) ≤ _; omega) (by show _ ≤ (1 : Int); omega)) (by omega) (Or.inl rfl)
                refine am_iload eX9_looks_142 rfl ?_
                refine am_bz_eq eX9_looks_144 (fun c34 => ?_) (fun c34 => ?_)
                · refine am_aload_n eX9_looks_165 rfl ?_
                  refine am_iload eX9_looks_166 rfl ?_
                  refine am_aload_n eX9_looks_168 rfl ?_
                  refine md_getA eX9_looks_169 fX9_35 (by decide) (by decide) ?_
                  refine am_iload eX9_looks_172 rfl ?_
                  refine md_ald (f := 12) (j := (2 * t.toNat + 0)) (v := m 12 (2 * t.toNat + 0)) eX9_looks_174 (by show _ < 24; omega) rfl (by omega) ((congrFun (congrFun hm33 12) (2 * t.toNat + 0)).trans ((sp_writes_f (by decide)).trans ((st_nf (by decide)).trans rfl))) ?_
                  have b35 := wb12 hW (2 * t.toNat + 0)
                  refine am_iload eX9_looks_175 rfl ?_
                  refine am_cV_v eX9_looks_177 kX9_174 (c_X9_keepsAtN (m := m33) (x := x) (T := T) hWm33 (w := (2 * t + 0)) (p := (m 12 (2 * t.toNat + 0))) (s := f32) (wn := (2 * t.toNat + 0)) (pn := (m 12 (2 * t.toNat + 0)).toNat) (by omega) (by omega) (by omega) (by rw [((congrFun (congrFun hm33 12) (2 * t.toNat + 0)).trans ((sp_writes_f (by decide)).trans ((st_nf (by decide)).trans rfl)))]; omega) (by rw [((congrFun (congrFun hm33 12) (2 * t.toNat + 0)).trans ((sp_writes_f (by decide)).trans ((st_nf (by decide)).trans rfl)))]; omega) ⟨by omega, by omega⟩) rfl rfl en_9 (by decide) (by decide) (Nat.le_of_ble_eq_true rfl) (Nat.zero_le _) (Nat.zero_le _) ?_
                  obtain ⟨m36, hm36⟩ : ∃ z, z = sp_kp m33 (2 * t.toNat + 0) (m 12 (2 * t.toNat + 0)).toNat f32 := ⟨_, rfl⟩
                  rw [← hm36]
                  have hWm36 : md_wb T m36 := by rw [hm36]; exact sp_kp_wb hWm33 (by omega) (by rw [((congrFun (congrFun hm33 12) (2 * t.toNat + 0)).trans ((sp_writes_f (by decide)).trans ((st_nf (by decide)).trans rfl)))]; omega)
                  refine am_return eX9_looks_180 rfl (Nat.zero_le _) (Nat.zero_le _) ?_
                  exact am_vd_m (by rw [hm36]; rw [hm33]; rw [hf32]; unfold sp_looks; simp only [sp_lk, sp_ln, if_true, if_false]; (try simp only [Int.toNat_zero, Int.toNat_one]); (repeat' split) <;> first | rfl | (exfalso; omega))
                · refine am_aload_n eX9_looks_147 rfl ?_
                  refine am_iload_n eX9_looks_148 rfl ?_
                  refine am_if_eq ⟨by omega, by omega⟩ eX9_looks_149 (fun _ => ?_) (fun z => absurd z (by decide))
                  refine am_iconst eX9_looks_156 ?_
                  refine am_iload eX9_looks_157 rfl ?_
                  refine am_cV_v eX9_looks_159 kX9_203 (c_X9_tapesN (m := m33) (x := x) (T := T) hWm33 (w := 0) (s := f32) (wn := 0) (by omega) (by omega) (by omega) (by rw [((congrFun (congrFun hm33 28) 0).trans ((sp_writes_f (by decide)).trans ((st_nf (by decide)).trans rfl)))]; exact h8 _)) rfl rfl en_9 (by decide) (by decide) (Nat.le_of_ble_eq_true rfl) (Nat.zero_le _) (Nat.zero_le _) ?_
                  obtain ⟨m38, hm38⟩ : ∃ z, z = sp_tapes m33 0 f32 := ⟨_, rfl⟩
                  rw [← hm38]
                  refine am_goto eX9_looks_162 ?_
                  refine am_return eX9_looks_180 rfl (Nat.zero_le _) (Nat.zero_le _) ?_
                  exact am_vd_m (by rw [hm38]; rw [hm33]; rw [hf32]; unfold sp_looks; simp only [sp_lk, sp_ln, if_true, if_false]; (try simp only [Int.toNat_zero, Int.toNat_one]); (repeat' split) <;> first | rfl | (exfalso; omega))
    · refine am_return eX9_looks_22 rfl (Nat.zero_le _) (Nat.zero_le _) ?_
      exact am_vd_m (by unfold sp_looks; simp only [sp_lk, sp_ln, if_true, if_false]; (try simp only [Int.toNat_zero, Int.toNat_one]); (repeat' split) <;> first | rfl | (exfalso; omega))
  · refine am_iload_n eX9_looks_0 rfl ?_
    refine am_if_eq ⟨by omega, by omega⟩ eX9_looks_1 (fun z => absurd z (by decide)) (fun _ => ?_)
    refine am_iload_n eX9_looks_4 rfl ?_
    refine am_iconst eX9_looks_5 ?_
    refine am_isub eX9_looks_6 ?_
    refine am_goto eX9_looks_7 ?_
    refine am_istore_n eX9_looks_13 (by decide) ?_
    refine am_aload_n eX9_looks_14 rfl ?_
    refine am_iload_n eX9_looks_15 rfl ?_
    refine am_cV eX9_looks_16 kX9_141 (c_X9_isTower (m := m) (x := x) (T := T) hW (a := (t - 1)) ⟨by omega, by omega⟩) rfl rfl en_9 (by decide) (by decide) (Nat.le_of_ble_eq_true rfl) (Nat.zero_le _) (Nat.zero_le _) ?_
    have b2 := wb3 hW 0
    refine am_bz_ne eX9_looks_19 (fun c3 => ?_) (fun c3 => ?_)
    · refine am_iload_n eX9_looks_23 rfl ?_
      refine am_iload_n eX9_looks_24 rfl ?_
      refine am_cS eX9_looks_25 kX9_171 (c_X9_at (a := (t - 1)) (u := 1) (Or.inr rfl)) rfl rfl (by decide) (by decide) (Nat.le_of_ble_eq_true rfl) (Nat.zero_le _) (Nat.zero_le _) ?_
      refine am_istore eX9_looks_28 (by decide) ?_
      refine am_iload_n eX9_looks_30 rfl ?_
      refine am_iload_n eX9_looks_31 rfl ?_
      refine am_cS eX9_looks_32 kX9_171 (c_X9_at (a := t) (u := 1) (Or.inr rfl)) rfl rfl (by decide) (by decide) (Nat.le_of_ble_eq_true rfl) (Nat.zero_le _) (Nat.zero_le _) ?_
      refine am_istore eX9_looks_35 (by decide) ?_
      refine am_aload_n eX9_looks_37 rfl ?_
      refine am_iload_n eX9_looks_38 rfl ?_
      refine am_iload_n eX9_looks_39 rfl ?_
      refine am_cV eX9_looks_40 kX9_178 (c_X9_isEnd (m := m) (x := x) (T := T) hW (a := t) (u := 1) ⟨by omega, by omega⟩ (Or.inr rfl)) rfl rfl en_9 (by decide) (by decide) (Nat.le_of_ble_eq_true rfl) (Nat.zero_le _) (Nat.zero_le _) ?_
      refine am_topI (w := bz (decide (t = m 3 0 - 1))) (by simp [st]) ?_
      have b4 := wb3 hW 0
      refine am_istore eX9_looks_43 (by decide) ?_
      refine am_aload_n eX9_looks_45 rfl ?_
      refine md_getA eX9_looks_46 fX9_44 (by decide) (by decide) ?_
      refine am_iload eX9_looks_49 rfl ?_
      refine md_ald (f := 15) (j := (2 * (t.toNat - 1) + 1)) (v := m 15 (2 * (t.toNat - 1) + 1)) eX9_looks_51 (by show _ < 24; omega) rfl (by omega) rfl ?_
      have b5 := wb15 hW (2 * (t.toNat - 1) + 1)
      refine am_iconst eX9_looks_52 ?_
      refine am_icmp_eq ⟨by omega, by omega⟩ ⟨by omega, by omega⟩ eX9_looks_53 (fun c6 => ?_) (fun c6 => ?_)
      · refine am_iconst eX9_looks_87 ?_
        refine am_istore eX9_looks_88 (by decide) ?_
        refine am_iload eX9_looks_90 rfl ?_
        refine am_if_eq ⟨by omega, by omega⟩ eX9_looks_92 (fun _ => ?_) (fun z => absurd z (by decide))
        refine am_return eX9_looks_180 rfl (Nat.zero_le _) (Nat.zero_le _) ?_
        exact am_vd_m (by unfold sp_looks; simp only [sp_lk, sp_ln, if_true, if_false]; (try simp only [Int.toNat_zero, Int.toNat_one]); (repeat' split) <;> first | rfl | (exfalso; omega))
      · refine am_aload_n eX9_looks_56 rfl ?_
        refine md_getA eX9_looks_57 fX9_47 (by decide) (by decide) ?_
        refine am_iload eX9_looks_60 rfl ?_
        refine md_bald (f := 16) (j := (2 * (t.toNat - 1) + 1)) (v := m 16 (2 * (t.toNat - 1) + 1)) eX9_looks_62 (by show _ < 24; omega) rfl (by omega) rfl ?_
        have b8 := wb16 hW (2 * (t.toNat - 1) + 1)
        refine am_if_ne ⟨by omega, by omega⟩ eX9_looks_63 (fun c9 => ?_) (fun c9 => ?_)
        · refine am_iconst eX9_looks_87 ?_
          refine am_istore eX9_looks_88 (by decide) ?_
          refine am_iload eX9_looks_90 rfl ?_
          refine am_if_eq ⟨by omega, by omega⟩ eX9_looks_92 (fun _ => ?_) (fun z => absurd z (by decide))
          refine am_return eX9_looks_180 rfl (Nat.zero_le _) (Nat.zero_le _) ?_
          exact am_vd_m (by unfold sp_looks; simp only [sp_lk, sp_ln, if_true, if_false]; (try simp only [Int.toNat_zero, Int.toNat_one]); (repeat' split) <;> first | rfl | (exfalso; omega))
        · refine am_iload eX9_looks_66 rfl ?_
          refine am_bz_ne eX9_looks_68 (fun c11 => ?_) (fun c11 => ?_)
          · refine am_iconst eX9_looks_83 ?_
            refine am_goto eX9_looks_84 ?_
            refine am_istore eX9_looks_88 (by decide) ?_
            refine am_iload eX9_looks_90 rfl ?_
            refine am_if_eq ⟨by omega, by omega⟩ eX9_looks_92 (fun z => absurd z (by decide)) (fun _ => ?_)
            refine am_aload_n eX9_looks_95 rfl ?_
            refine am_iload_n eX9_looks_96 rfl ?_
            refine am_if_eq ⟨by omega, by omega⟩ eX9_looks_97 (fun z => absurd z (by decide)) (fun _ => ?_)
            refine am_iload_n eX9_looks_100 rfl ?_
            refine am_goto eX9_looks_101 ?_
            refine am_cV eX9_looks_105 kX9_197 (c_X9_seesAlong (m := m) (x := x) (T := T) hW (s := (t - 1)) (by omega) (by exact hF _ (by omega))) rfl rfl en_9 (by decide) (by decide) (Nat.le_of_ble_eq_true rfl) (Nat.zero_le _) (Nat.zero_le _) ?_
            rw [show ((t - 1)).toNat = (t.toNat - 1) by omega]
            obtain ⟨f14, hf14⟩ : ∃ z, z = an_see m (t.toNat - 1) := ⟨_, rfl⟩
            rw [← hf14]
            have qf14 : f14 = 0 ∨ f14 = 1 := by rw [hf14]; exact sp_sl_01 _
            refine am_if_eq ⟨by omega, by omega⟩ eX9_looks_108 (fun c15 => ?_) (fun c15 => ?_)
            · refine am_return eX9_looks_180 rfl (Nat.zero_le _) (Nat.zero_le _) ?_
              exact am_vd_m (by unfold sp_looks; simp only [sp_lk, sp_ln, if_true, if_false]; (try simp only [Int.toNat_zero, Int.toNat_one]); (repeat' split) <;> first | rfl | (exfalso; omega))
            · refine am_aload_n eX9_looks_111 rfl ?_
              refine md_getA eX9_looks_112 fX9_47 (by decide) (by decide) ?_
              refine am_iload eX9_looks_115 rfl ?_
              refine am_iconst eX9_looks_117 ?_
              refine md_bast (f := 16) (j := (2 * (t.toNat - 1) + 1)) eX9_looks_118 (by show _ < 24; omega) rfl (by omega) (Or.inr rfl) ?_
              refine am_aload_n eX9_looks_119 rfl ?_
              refine am_iload_n eX9_looks_120 rfl ?_
              refine am_aload_n eX9_looks_121 rfl ?_
              refine md_getA eX9_looks_122 fX9_44 (by decide) (by decide) ?_
              refine am_iload eX9_looks_125 rfl ?_
              refine md_ald (f := 15) (j := (2 * (t.toNat - 1) + 1)) (v := m 15 (2 * (t.toNat - 1) + 1)) eX9_looks_127 (by show _ < 24; omega) rfl (by omega) ((st_nf (by decide)).trans rfl) ?_
              have b16 := wb15 hW (2 * (t.toNat - 1) + 1)
              refine am_cV eX9_looks_128 kX9_200 (c_X9_reads (m := (st m 16 (2 * (t.toNat - 1) + 1) 1)) (x := x) (T := T) (wb_st (f := 16) hW (by show (0 : Int) ≤ _; omega) (by show _ ≤ (1 : Int); omega)) (t := t) (sg := (m 15 (2 * (t.toNat - 1) + 1))) (by omega) (by omega)) rfl rfl en_9 (by decide) (by decide) (Nat.le_of_ble_eq_true rfl) (Nat.zero_le _) (Nat.zero_le _) ?_
              refine am_topI (w := (an_reads m t (m 15 (2 * (t.toNat - 1) + 1)))) (by rw [an_reads_st (by decide) (by decide) (by decide)]) ?_
              have qf17 := an_reads_in hW (t := t) (sg := (m 15 (2 * (t.toNat - 1) + 1))) (by omega)
              obtain ⟨f17, hf17⟩ : ∃ z, z = (an_reads m t (m 15 (2 * (t.toNat - 1) + 1))) := ⟨_, rfl⟩
              rw [← hf17] at qf17
              rw [← hf17]
              refine am_istore eX9_looks_131 (by decide) ?_
              refine am_aload_n eX9_looks_133 rfl ?_
              refine am_iload eX9_looks_134 rfl ?_
              refine am_iload eX9_looks_136 rfl ?_
              refine am_iconst eX9_looks_138 ?_
              refine am_cV_v eX9_looks_139 kX9_182 (c_X9_writes (m := (st m 16 (2 * (t.toNat - 1) + 1) 1)) (x := x) (T := T) (wb_st (f := 16) hW (by show (0 : Int) ≤ _; omega) (by show _ ≤ (1 : Int); omega)) (w := (2 * t + 1)) (sg := f17) (ow := 0) (by omega) ⟨by omega, by omega⟩ (Or.inl rfl)) rfl rfl en_9 (by decide) (by decide) (Nat.le_of_ble_eq_true rfl) (Nat.zero_le _) (Nat.zero_le _) ?_
              obtain ⟨m18, hm18⟩ : ∃ z, z = sp_writes (st m 16 (2 * (t.toNat - 1) + 1) 1) (2 * t + 1) f17 0 := ⟨_, rfl⟩
              rw [← hm18]
              have hWm18 : md_wb T m18 := by rw [hm18]; exact sp_writes_wb (wb_st (f := 16) hW (by show (0 : Int) ≤ _; omega) (by show _ ≤ (1 : Int); omega)) (by omega) (Or.inl rfl)
              refine am_iload eX9_looks_142 rfl ?_
              refine am_bz_eq eX9_looks_144 (fun c19 => ?_) (fun c19 => ?_)
              · refine am_aload_n eX9_looks_165 rfl ?_
                refine am_iload eX9_looks_166 rfl ?_
                refine am_aload_n eX9_looks_168 rfl ?_
                refine md_getA eX9_looks_169 fX9_35 (by decide) (by decide) ?_
                refine am_iload eX9_looks_172 rfl ?_
                refine md_ald (f := 12) (j := (2 * t.toNat + 1)) (v := m 12 (2 * t.toNat + 1)) eX9_looks_174 (by show _ < 24; omega) rfl (by omega) ((congrFun (congrFun hm18 12) (2 * t.toNat + 1)).trans ((sp_writes_f (by decide)).trans ((st_nf (by decide)).trans rfl))) ?_
                have b20 := wb12 hW (2 * t.toNat + 1)
                refine am_iload eX9_looks_175 rfl ?_
                refine am_cV_v eX9_looks_177 kX9_174 (c_X9_keepsAtN (m := m18) (x := x) (T := T) hWm18 (w := (2 * t + 1)) (p := (m 12 (2 * t.toNat + 1))) (s := f17) (wn := (2 * t.toNat + 1)) (pn := (m 12 (2 * t.toNat + 1)).toNat) (by omega) (by omega) (by omega) (by rw [((congrFun (congrFun hm18 12) (2 * t.toNat + 1)).trans ((sp_writes_f (by decide)).trans ((st_nf (by decide)).trans rfl)))]; omega) (by rw [((congrFun (congrFun hm18 12) (2 * t.toNat + 1)).trans ((sp_writes_f (by decide)).trans ((st_nf (by decide)).trans rfl)))]; omega) ⟨by omega, by omega⟩) rfl rfl en_9 (by decide) (by decide) (Nat.le_of_ble_eq_true rfl) (Nat.zero_le _) (Nat.zero_le _) ?_
                obtain ⟨m21, hm21⟩ : ∃ z, z = sp_kp m18 (2 * t.toNat + 1) (m 12 (2 * t.toNat + 1)).toNat f17 := ⟨_, rfl⟩
                rw [← hm21]
                have hWm21 : md_wb T m21 := by rw [hm21]; exact sp_kp_wb hWm18 (by omega) (by rw [((congrFun (congrFun hm18 12) (2 * t.toNat + 1)).trans ((sp_writes_f (by decide)).trans ((st_nf (by decide)).trans rfl)))]; omega)
                refine am_return eX9_looks_180 rfl (Nat.zero_le _) (Nat.zero_le _) ?_
                exact am_vd_m (by rw [hm21]; rw [hm18]; rw [hf17]; unfold sp_looks; simp only [sp_lk, sp_ln, if_true, if_false]; (try simp only [Int.toNat_zero, Int.toNat_one]); (repeat' split) <;> first | rfl | (exfalso; omega))
              · refine am_aload_n eX9_looks_147 rfl ?_
                refine am_iload_n eX9_looks_148 rfl ?_
                refine am_if_eq ⟨by omega, by omega⟩ eX9_looks_149 (fun z => absurd z (by decide)) (fun _ => ?_)
                refine am_iconst eX9_looks_152 ?_
                refine am_goto eX9_looks_153 ?_
                refine am_iload eX9_looks_157 rfl ?_
                refine am_cV_v eX9_looks_159 kX9_203 (c_X9_tapesN (m := m18) (x := x) (T := T) hWm18 (w := 1) (s := f17) (wn := 1) (by omega) (by omega) (by omega) (by rw [((congrFun (congrFun hm18 28) 1).trans ((sp_writes_f (by decide)).trans ((st_nf (by decide)).trans rfl)))]; exact h8 _)) rfl rfl en_9 (by decide) (by decide) (Nat.le_of_ble_eq_true rfl) (Nat.zero_le _) (Nat.zero_le _) ?_
                obtain ⟨m23, hm23⟩ : ∃ z, z = sp_tapes m18 1 f17 := ⟨_, rfl⟩
                rw [← hm23]
                refine am_goto eX9_looks_162 ?_
                refine am_return eX9_looks_180 rfl (Nat.zero_le _) (Nat.zero_le _) ?_
                exact am_vd_m (by rw [hm23]; rw [hm18]; rw [hf17]; unfold sp_looks; simp only [sp_lk, sp_ln, if_true, if_false]; (try simp only [Int.toNat_zero, Int.toNat_one]); (repeat' split) <;> first | rfl | (exfalso; omega))
          · refine am_aload_n eX9_looks_71 rfl ?_
            refine md_getA eX9_looks_72 fX9_35 (by decide) (by decide) ?_
            refine am_iload eX9_looks_75 rfl ?_
            refine md_ald (f := 12) (j := (2 * t.toNat + 1)) (v := m 12 (2 * t.toNat + 1)) eX9_looks_77 (by show _ < 24; omega) rfl (by omega) rfl ?_
            have b24 := wb12 hW (2 * t.toNat + 1)
            refine am_bipush eX9_looks_78 (by decide) ?_
            refine am_icmp_ge ⟨by omega, by omega⟩ ⟨by omega, by omega⟩ eX9_looks_80 (fun c25 => ?_) (fun c25 => ?_)
            · refine am_iconst eX9_looks_87 ?_
              refine am_istore eX9_looks_88 (by decide) ?_
              refine am_iload eX9_looks_90 rfl ?_
              refine am_if_eq ⟨by omega, by omega⟩ eX9_looks_92 (fun _ => ?_) (fun z => absurd z (by decide))
              refine am_return eX9_looks_180 rfl (Nat.zero_le _) (Nat.zero_le _) ?_
              exact am_vd_m (by unfold sp_looks; simp only [sp_lk, sp_ln, if_true, if_false]; (try simp only [Int.toNat_zero, Int.toNat_one]); (repeat' split) <;> first | rfl | (exfalso; omega))
            · refine am_iconst eX9_looks_83 ?_
              refine am_goto eX9_looks_84 ?_
              refine am_istore eX9_looks_88 (by decide) ?_
              refine am_iload eX9_looks_90 rfl ?_
              refine am_if_eq ⟨by omega, by omega⟩ eX9_looks_92 (fun z => absurd z (by decide)) (fun _ => ?_)
              refine am_aload_n eX9_looks_95 rfl ?_
              refine am_iload_n eX9_looks_96 rfl ?_
              refine am_if_eq ⟨by omega, by omega⟩ eX9_looks_97 (fun z => absurd z (by decide)) (fun _ => ?_)
              refine am_iload_n eX9_looks_100 rfl ?_
              refine am_goto eX9_looks_101 ?_
              refine am_cV eX9_looks_105 kX9_197 (c_X9_seesAlong (m := m) (x := x) (T := T) hW (s := (t - 1)) (by omega) (by exact hF _ (by omega))) rfl rfl en_9 (by decide) (by decide) (Nat.le_of_ble_eq_true rfl) (Nat.zero_le _) (Nat.zero_le _) ?_
              rw [show ((t - 1)).toNat = (t.toNat - 1) by omega]
              obtain ⟨f29, hf29⟩ : ∃ z, z = an_see m (t.toNat - 1) := ⟨_, rfl⟩
              rw [← hf29]
              have qf29 : f29 = 0 ∨ f29 = 1 := by rw [hf29]; exact sp_sl_01 _
              refine am_if_eq ⟨by omega, by omega⟩ eX9_looks_108 (fun c30 => ?_) (fun c30 => ?_)
              · refine am_return eX9_looks_180 rfl (Nat.zero_le _) (Nat.zero_le _) ?_
                exact am_vd_m (by unfold sp_looks; simp only [sp_lk, sp_ln, if_true, if_false]; (try simp only [Int.toNat_zero, Int.toNat_one]); (repeat' split) <;> first | rfl | (exfalso; omega))
              · refine am_aload_n eX9_looks_111 rfl ?_
                refine md_getA eX9_looks_112 fX9_47 (by decide) (by decide) ?_
                refine am_iload eX9_looks_115 rfl ?_
                refine am_iconst eX9_looks_117 ?_
                refine md_bast (f := 16) (j := (2 * (t.toNat - 1) + 1)) eX9_looks_118 (by show _ < 24; omega) rfl (by omega) (Or.inr rfl) ?_
                refine am_aload_n eX9_looks_119 rfl ?_
                refine am_iload_n eX9_looks_120 rfl ?_
                refine am_aload_n eX9_looks_121 rfl ?_
                refine md_getA eX9_looks_122 fX9_44 (by decide) (by decide) ?_
                refine am_iload eX9_looks_125 rfl ?_
                refine md_ald (f := 15) (j := (2 * (t.toNat - 1) + 1)) (v := m 15 (2 * (t.toNat - 1) + 1)) eX9_looks_127 (by show _ < 24; omega) rfl (by omega) ((st_nf (by decide)).trans rfl) ?_
                have b31 := wb15 hW (2 * (t.toNat - 1) + 1)
                refine am_cV eX9_looks_128 kX9_200 (c_X9_reads (m := (st m 16 (2 * (t.toNat - 1) + 1) 1)) (x := x) (T := T) (wb_st (f := 16) hW (by show (0 : Int) ≤ _; omega) (by show _ ≤ (1 : Int); omega)) (t := t) (sg := (m 15 (2 * (t.toNat - 1) + 1))) (by omega) (by omega)) rfl rfl en_9 (by decide) (by decide) (Nat.le_of_ble_eq_true rfl) (Nat.zero_le _) (Nat.zero_le _) ?_
                refine am_topI (w := (an_reads m t (m 15 (2 * (t.toNat - 1) + 1)))) (by rw [an_reads_st (by decide) (by decide) (by decide)]) ?_
                have qf32 := an_reads_in hW (t := t) (sg := (m 15 (2 * (t.toNat - 1) + 1))) (by omega)
                obtain ⟨f32, hf32⟩ : ∃ z, z = (an_reads m t (m 15 (2 * (t.toNat - 1) + 1))) := ⟨_, rfl⟩
                rw [← hf32] at qf32
                rw [← hf32]
                refine am_istore eX9_looks_131 (by decide) ?_
                refine am_aload_n eX9_looks_133 rfl ?_
                refine am_iload eX9_looks_134 rfl ?_
                refine am_iload eX9_looks_136 rfl ?_
                refine am_iconst eX9_looks_138 ?_
                refine am_cV_v eX9_looks_139 kX9_182 (c_X9_writes (m := (st m 16 (2 * (t.toNat - 1) + 1) 1)) (x := x) (T := T) (wb_st (f := 16) hW (by show (0 : Int) ≤ _; omega) (by show _ ≤ (1 : Int); omega)) (w := (2 * t + 1)) (sg := f32) (ow := 0) (by omega) ⟨by omega, by omega⟩ (Or.inl rfl)) rfl rfl en_9 (by decide) (by decide) (Nat.le_of_ble_eq_true rfl) (Nat.zero_le _) (Nat.zero_le _) ?_
                obtain ⟨m33, hm33⟩ : ∃ z, z = sp_writes (st m 16 (2 * (t.toNat - 1) + 1) 1) (2 * t + 1) f32 0 := ⟨_, rfl⟩
                rw [← hm33]
                have hWm33 : md_wb T m33 := by rw [hm33]; exact sp_writes_wb (wb_st (f := 16) hW (by show (0 : Int) ≤ _; omega) (by show _ ≤ (1 : Int); omega)) (by omega) (Or.inl rfl)
                refine am_iload eX9_looks_142 rfl ?_
                refine am_bz_eq eX9_looks_144 (fun c34 => ?_) (fun c34 => ?_)
                · refine am_aload_n eX9_looks_165 rfl ?_
                  refine am_iload eX9_looks_166 rfl ?_
                  refine am_aload_n eX9_looks_168 rfl ?_
                  refine md_getA eX9_looks_169 fX9_35 (by decide) (by decide) ?_
                  refine am_iload eX9_looks_172 rfl ?_
                  refine md_ald (f := 12) (j := (2 * t.toNat + 1)) (v := m 12 (2 * t.toNat + 1)) eX9_looks_174 (by show _ < 24; omega) rfl (by omega) ((congrFun (congrFun hm33 12) (2 * t.toNat + 1)).trans ((sp_writes_f (by decide)).trans ((st_nf (by decide)).trans rfl))) ?_
                  have b35 := wb12 hW (2 * t.toNat + 1)
                  refine am_iload eX9_looks_175 rfl ?_
                  refine am_cV_v eX9_looks_177 kX9_174 (c_X9_keepsAtN (m := m33) (x := x) (T := T) hWm33 (w := (2 * t + 1)) (p := (m 12 (2 * t.toNat + 1))) (s := f32) (wn := (2 * t.toNat + 1)) (pn := (m 12 (2 * t.toNat + 1)).toNat) (by omega) (by omega) (by omega) (by rw [((congrFun (congrFun hm33 12) (2 * t.toNat + 1)).trans ((sp_writes_f (by decide)).trans ((st_nf (by decide)).trans rfl)))]; omega) (by rw [((congrFun (congrFun hm33 12) (2 * t.toNat + 1)).trans ((sp_writes_f (by decide)).trans ((st_nf (by decide)).trans rfl)))]; omega) ⟨by omega, by omega⟩) rfl rfl en_9 (by decide) (by decide) (Nat.le_of_ble_eq_true rfl) (Nat.zero_le _) (Nat.zero_le _) ?_
                  obtain ⟨m36, hm36⟩ : ∃ z, z = sp_kp m33 (2 * t.toNat + 1) (m 12 (2 * t.toNat + 1)).toNat f32 := ⟨_, rfl⟩
                  rw [← hm36]
                  have hWm36 : md_wb T m36 := by rw [hm36]; exact sp_kp_wb hWm33 (by omega) (by rw [((congrFun (congrFun hm33 12) (2 * t.toNat + 1)).trans ((sp_writes_f (by decide)).trans ((st_nf (by decide)).trans rfl)))]; omega)
                  refine am_return eX9_looks_180 rfl (Nat.zero_le _) (Nat.zero_le _) ?_
                  exact am_vd_m (by rw [hm36]; rw [hm33]; rw [hf32]; unfold sp_looks; simp only [sp_lk, sp_ln, if_true, if_false]; (try simp only [Int.toNat_zero, Int.toNat_one]); (repeat' split) <;> first | rfl | (exfalso; omega))
                · refine am_aload_n eX9_looks_147 rfl ?_
                  refine am_iload_n eX9_looks_148 rfl ?_
                  refine am_if_eq ⟨by omega, by omega⟩ eX9_looks_149 (fun z => absurd z (by decide)) (fun _ => ?_)
                  refine am_iconst eX9_looks_152 ?_
                  refine am_goto eX9_looks_153 ?_
                  refine am_iload eX9_looks_157 rfl ?_
                  refine am_cV_v eX9_looks_159 kX9_203 (c_X9_tapesN (m := m33) (x := x) (T := T) hWm33 (w := 1) (s := f32) (wn := 1) (by omega) (by omega) (by omega) (by rw [((congrFun (congrFun hm33 28) 1).trans ((sp_writes_f (by decide)).trans ((st_nf (by decide)).trans rfl)))]; exact h8 _)) rfl rfl en_9 (by decide) (by decide) (Nat.le_of_ble_eq_true rfl) (Nat.zero_le _) (Nat.zero_le _) ?_
                  obtain ⟨m38, hm38⟩ : ∃ z, z = sp_tapes m33 1 f32 := ⟨_, rfl⟩
                  rw [← hm38]
                  refine am_goto eX9_looks_162 ?_
                  refine am_return eX9_looks_180 rfl (Nat.zero_le _) (Nat.zero_le _) ?_
                  exact am_vd_m (by rw [hm38]; rw [hm33]; rw [hf32]; unfold sp_looks; simp only [sp_lk, sp_ln, if_true, if_false]; (try simp only [Int.toNat_zero, Int.toNat_one]); (repeat' split) <;> first | rfl | (exfalso; omega))
    · refine am_return eX9_looks_22 rfl (Nat.zero_le _) (Nat.zero_le _) ?_
      exact am_vd_m (by unfold sp_looks; simp only [sp_lk, sp_ln, if_true, if_false]; (try simp only [Int.toNat_zero, Int.toNat_one]); (repeat' split) <;> first | rfl | (exfalso; omega))
