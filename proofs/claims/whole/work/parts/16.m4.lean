theorem sp_writes_f {σ : sg_S} {w sg ow : Int} {f j : Nat} (h : f < 17 ∨ 20 < f) : sp_writes σ w sg ow f j = σ f j := by
  unfold sp_writes
  split
  · rw [st_nf (by omega), st_nf (by omega), st_nf (by omega), st_nf (by omega)]
  · rfl
theorem sp_writes_wb {T : Int} {σ : sg_S} (hW : md_wb T σ) {w sg ow : Int} (h1 : 0 ≤ sg ∧ sg ≤ 96) (h2 : ow = 0 ∨ ow = 1) : md_wb T (sp_writes σ w sg ow) := by
  have b1 := (hW.1 1 0 (by decide)).2
  have b0 := wb1 hW 0
  have b17 := wb17 hW w.toNat
  unfold sp_writes
  split
  · exact wb_st (wb_st (wb_st (wb_st hW (by show (0 : Int) ≤ _; omega) b1) (by show (0 : Int) ≤ _; omega) (by show _ ≤ (96 : Int); omega)) (by show (0 : Int) ≤ _; omega) (by show _ ≤ (1 : Int); omega)) (by show (0 : Int) ≤ _; omega) (by show _ ≤ (300 : Int); omega)
  · exact hW
theorem sp_kp_f {σ : sg_S} {w p : Nat} {s : Int} {f j : Nat} (h1 : f ≠ 12) (h2 : f ≠ 14) : sp_kp σ w p s f j = σ f j := by
  simp [sp_kp, h1, h2]
theorem sp_kp_12 {σ : sg_S} {w p : Nat} {s : Int} : sp_kp σ w p s 12 w = σ 12 w + 1 := by simp [sp_kp]
theorem sp_kp_wb {T : Int} {σ : sg_S} (hW : md_wb T σ) {w p : Nat} {s : Int} (h1 : 0 ≤ s ∧ s ≤ 96) (h2 : σ 12 w < 200) : md_wb T (sp_kp σ w p s) := by
  have b12 := wb12 hW w
  refine ⟨fun f j hf => ?_, hW.2⟩
  simp only [sp_kp]
  split
  · rename_i h; obtain ⟨rfl, rfl⟩ := h
    exact ⟨by show (0 : Int) ≤ _; omega, by show _ ≤ (200 : Int); omega⟩
  · split
    · rename_i h; obtain ⟨rfl, -⟩ := h
      split
      · exact ⟨by show (0 : Int) ≤ _; omega, by show _ ≤ (96 : Int); omega⟩
      · exact wb14 hW _
    · exact hW.1 f j hf
/-- signs copied from an open dispatch to one that came -/
def sp_cs (σ : sg_S) (to its i : Nat) : sg_S := fun f j => if f = 38 ∧ 60 * to ≤ j ∧ j < 60 * to + i then σ 32 (60 * its + (j - 60 * to)) else σ f j
theorem sp_cs_f {σ : sg_S} {to its i f j : Nat} (h : f ≠ 38) : sp_cs σ to its i f j = σ f j := by simp [sp_cs, h]
theorem sp_cs_0 {σ : sg_S} {to its : Nat} : sp_cs σ to its 0 = σ := by
  funext f j
  simp only [sp_cs]
  rw [if_neg (by omega)]
theorem sp_cs_s {σ : sg_S} {to its i : Nat} : st (sp_cs σ to its i) 38 (60 * to + i) (σ 32 (60 * its + i)) = sp_cs σ to its (i + 1) := by
  funext f j
  simp only [st, sp_cs]
  by_cases h1 : f = 38
  · subst h1
    by_cases h2 : j = 60 * to + i
    · subst h2
      rw [if_pos ⟨rfl, rfl⟩, if_pos ⟨rfl, by omega, by omega⟩]
      congr 1
      omega
    · rw [if_neg (fun z => h2 z.2)]
      by_cases h3 : 60 * to ≤ j ∧ j < 60 * to + i
      · rw [if_pos ⟨rfl, h3⟩, if_pos ⟨rfl, by omega, by omega⟩]
      · rw [if_neg (fun z => h3 z.2), if_neg (fun z => h3 ⟨z.2.1, by omega⟩)]
  · rw [if_neg (fun z => h1 z.1), if_neg (fun z => h1 z.1), if_neg (fun z => h1 z.1)]
def sp_ends (σ : sg_S) (w : Nat) : sg_S :=
  if σ 33 w < 40 then st (sp_cs (st (st (st (st (st σ 28 w (σ 28 w - 1)) 34 (40 * w + (σ 33 w).toNat) (σ 29 (40 * w + (σ 28 w - 1).toNat))) 35 (40 * w + (σ 33 w).toNat) (σ 1 0)) 36 (40 * w + (σ 33 w).toNat) (σ 30 (40 * w + (σ 28 w - 1).toNat))) 37 (40 * w + (σ 33 w).toNat) (σ 31 (40 * w + (σ 28 w - 1).toNat))) (40 * w + (σ 33 w).toNat) (40 * w + (σ 28 w - 1).toNat) (σ 31 (40 * w + (σ 28 w - 1).toNat)).toNat) 33 w (σ 33 w + 1)
  else st σ 28 w (σ 28 w - 1)
set_option maxRecDepth 100000 in
set_option maxHeartbeats 4000000 in
theorem lp_X9_ends {G : am_G} {m x : sg_S} {T : Int} (hW : md_wb T m) {w av bv : Int} {a b : Nat} (hw : 0 ≤ w ∧ w < 2) (ha : av = (a : Int)) (hb : bv = (b : Int)) (ha8 : a < 80) (hb8 : b < 80) (X : am_X) : ∀ (n : Nat) (i : Nat) (kv : Int) (m1 : sg_S), (kv = i) → (m1 = sp_cs m a b i) → (i + n = (m 31 b).toNat) → am_W G X mX9_ends 1 0 0 (am_end G X 0 0 (am_vd (en_h (st (sp_cs m a b (m 31 b).toNat) 33 w.toNat (m 33 w.toNat + 1)) x))) 94 [some (am_R (9, 0)), some (am_I w), some (am_I bv), some (am_I av), some (am_I kv)] [] (en_h m1 x) 0 0 := by
  intro n
  induction n with
  | zero =>
    intro i kv m1 hk hm hn
    have bb := wb31 hW b
    have b38 := wb33 hW w.toNat
    refine am_iload eX9_ends_94 rfl ?_
    refine am_aload_n eX9_ends_96 rfl ?_
    refine md_getA eX9_ends_97 fX9_90 (by decide) (by decide) ?_
    refine am_iload_n eX9_ends_100 rfl ?_
    refine md_ald (f := 31) (j := b) (v := m 31 b) eX9_ends_101 (by show _ < 80; omega) rfl (by omega) ((congrFun (congrFun hm 31) b).trans (sp_cs_f (by decide))) ?_
    have b1 := wb31 hW b
    refine am_icmp_ge ⟨by omega, by omega⟩ ⟨by omega, by omega⟩ eX9_ends_102 (fun c2 => ?_) (fun c2 => absurd c2 (by omega))
    refine am_aload_n eX9_ends_135 rfl ?_
    refine md_getA eX9_ends_136 fX9_96 (by decide) (by decide) ?_
    refine am_iload_n eX9_ends_139 rfl ?_
    refine am_dup2 eX9_ends_140 ?_
    refine md_ald (f := 33) (j := w.toNat) (v := m 33 w.toNat) eX9_ends_141 (by show _ < 2; omega) rfl (by omega) ((congrFun (congrFun hm 33) w.toNat).trans (sp_cs_f (by decide))) ?_
    have b3 := wb33 hW w.toNat
    refine am_iconst eX9_ends_142 ?_
    refine am_iadd eX9_ends_143 ?_
    refine md_ast (f := 33) (j := w.toNat) eX9_ends_144 (by show _ < 2; omega) rfl (by omega) ?_
    refine am_return eX9_ends_145 rfl (Nat.zero_le _) (Nat.zero_le _) ?_
    exact am_vd_m (by rw [hm, ← hn]; rfl)
  | succ n ih =>
    intro i kv m1 hk hm hn
    have bb := wb31 hW b
    have b38 := wb33 hW w.toNat
    refine am_iload eX9_ends_94 rfl ?_
    refine am_aload_n eX9_ends_96 rfl ?_
    refine md_getA eX9_ends_97 fX9_90 (by decide) (by decide) ?_
    refine am_iload_n eX9_ends_100 rfl ?_
    refine md_ald (f := 31) (j := b) (v := m 31 b) eX9_ends_101 (by show _ < 80; omega) rfl (by omega) ((congrFun (congrFun hm 31) b).trans (sp_cs_f (by decide))) ?_
    have b1 := wb31 hW b
    refine am_icmp_ge ⟨by omega, by omega⟩ ⟨by omega, by omega⟩ eX9_ends_102 (fun c2 => absurd c2 (by omega)) (fun c2 => ?_)
    refine am_aload_n eX9_ends_105 rfl ?_
    refine md_getA eX9_ends_106 fX9_111 (by decide) (by decide) ?_
    refine am_bipush eX9_ends_109 (by decide) ?_
    refine am_iload_n eX9_ends_111 rfl ?_
    refine am_imul eX9_ends_112 ?_
    refine am_iload eX9_ends_113 rfl ?_
    refine am_iadd eX9_ends_115 ?_
    refine am_aload_n eX9_ends_116 rfl ?_
    refine md_getA eX9_ends_117 fX9_93 (by decide) (by decide) ?_
    refine am_bipush eX9_ends_120 (by decide) ?_
    refine am_iload_n eX9_ends_122 rfl ?_
    refine am_imul eX9_ends_123 ?_
    refine am_iload eX9_ends_124 rfl ?_
    refine am_iadd eX9_ends_126 ?_
    refine md_ald (f := 32) (j := ((60 * b) + i)) (v := m 32 ((60 * b) + i)) eX9_ends_127 (by show _ < 4800; omega) rfl (by omega) ((congrFun (congrFun hm 32) ((60 * b) + i)).trans (sp_cs_f (by decide))) ?_
    have b3 := wb32 hW ((60 * b) + i)
    refine md_ast (f := 38) (j := ((60 * a) + i)) eX9_ends_128 (by show _ < 4800; omega) rfl (by omega) ?_
    refine am_iinc eX9_ends_129 rfl (by decide) ?_
    refine am_goto eX9_ends_132 ?_
    exact ih (i + 1) _ _ (by omega) (by rw [hm]; exact sp_cs_s) (by omega)
theorem sp_ends_wb0 {T : Int} {σ : sg_S} (hW : md_wb T σ) {w a b : Nat} (h1 : 0 < σ 28 w) : md_wb T (st (st (st (st (st σ 28 w (σ 28 w - 1)) 34 a (σ 29 b)) 35 a (σ 1 0)) 36 a (σ 30 b)) 37 a (σ 31 b)) := by
  have b28 := wb28 hW w
  have b29 := hW.1 29 b (by decide)
  have b1 := (hW.1 1 0 (by decide)).2
  have b0 := wb1 hW 0
  exact wb_st (wb_st (wb_st (wb_st (wb_st hW (by show (0 : Int) ≤ _; omega) (by show _ ≤ (39 : Int); omega)) b29.1 b29.2) (by show (0 : Int) ≤ _; omega) b1) (wb30 hW b).1 (wb30 hW b).2) (wb31 hW b).1 (wb31 hW b).2
theorem sp_cs_wb {T : Int} {σ : sg_S} (hW : md_wb T σ) {to its i : Nat} : md_wb T (sp_cs σ to its i) := by
  refine ⟨fun f j hf => ?_, hW.2⟩
  simp only [sp_cs]
  split
  · rename_i h; obtain ⟨rfl, -⟩ := h
    exact wb32 hW _
  · exact hW.1 f j hf
theorem sp_ends_wb {T : Int} {σ : sg_S} (hW : md_wb T σ) {w : Nat} (h1 : 0 < σ 28 w) : md_wb T (sp_ends σ w) := by
  have b28 := wb28 hW w
  have b33 := wb33 hW w
  unfold sp_ends
  split
  · exact wb_st (sp_cs_wb (sp_ends_wb0 hW h1)) (by show (0 : Int) ≤ _; omega) (by show _ ≤ (40 : Int); omega)
  · exact wb_st hW (by show (0 : Int) ≤ _; omega) (by show _ ≤ (39 : Int); omega)
theorem sp_ends_f {σ : sg_S} {w f j : Nat} (h : f < 27 ∨ 38 < f) : sp_ends σ w f j = σ f j := by
  unfold sp_ends
  split
  · rw [st_nf (by omega), sp_cs_f (by omega), st_nf (by omega), st_nf (by omega), st_nf (by omega), st_nf (by omega), st_nf (by omega)]
  · rw [st_nf (by omega)]
theorem am_mono {G : am_G} {X : am_X} {Y : am_Y} {d mc ms : Nat} {Q Q' : am_Re → am_AH → Prop} {pc k n : Nat} {ls : List (Option am_AV)} {st : List am_AV} {h : am_AH} (kk : am_W G X Y d mc ms (am_end G X mc ms Q) pc ls st h k n) (hq : ∀ r h', Q r h' → Q' r h') : am_W G X Y d mc ms (am_end G X mc ms Q') pc ls st h k n := by
  obtain ⟨p, e, R, s, m, args, below, meth, c, ι0⟩ := X
  intro ok ι H lr sr lc hr hl ht T hT XX
  obtain ⟨t, a1, o, b1, b2, b3⟩ := kk ok ι H lr sr lc hr hl ht T hT XX
  refine ⟨t, a1, o, b1, b2, ?_⟩
  rcases b3 with ⟨⟨r, w, κ, h', z1, z2, z3, z4, z5, z6, z7⟩, z8⟩ | ⟨q, z1, E, ce, L, ⟨x, κ, h', y1, y2, y3, y4, y5, y6⟩, z2⟩
  · exact Or.inl ⟨⟨r, w, κ, h', z1, z2, z3, z4, z5, z6, hq _ _ z7⟩, z8⟩
  · exact Or.inr ⟨q, z1, E, ce, L, ⟨x, κ, h', y1, y2, y3, y4, y5, hq _ _ y6⟩, z2⟩
set_option maxRecDepth 100000 in
set_option maxHeartbeats 4000000 in
theorem c_X9_ends {G : am_G} {m x : sg_S} {T : Int} (hW : md_wb T m) {w : Int} (hw : 0 ≤ w ∧ w < 2) (h0 : 0 < m 28 w.toNat) : am_Con G yX9_ends wX9_ends 1 0 0 [am_R (9, 0), am_I w] (en_h m x) (am_vd (en_h (sp_ends m w.toNat) x)) := by
  refine am_of2 (Y := mX9_ends) (by decide +kernel) rfl (fun z => by cases z) rfl rfl (Nat.le_of_ble_eq_true rfl) fun X => ?_
  refine am_aload_n eX9_ends_0 rfl ?_
  refine md_getA eX9_ends_1 fX9_81 (by decide) (by decide) ?_
  refine am_iload_n eX9_ends_4 rfl ?_
  refine am_dup2 eX9_ends_5 ?_
  refine md_ald (f := 28) (j := w.toNat) (v := m 28 w.toNat) eX9_ends_6 (by show _ < 2; omega) rfl (by omega) rfl ?_
  have b1 := wb28 hW w.toNat
  refine am_iconst eX9_ends_7 ?_
  refine am_isub eX9_ends_8 ?_
  refine md_ast (f := 28) (j := w.toNat) eX9_ends_9 (by show _ < 2; omega) rfl (by omega) ?_
  refine am_bipush eX9_ends_10 (by decide) ?_
  refine am_iload_n eX9_ends_12 rfl ?_
  refine am_imul eX9_ends_13 ?_
  refine am_aload_n eX9_ends_14 rfl ?_
  refine md_getA eX9_ends_15 fX9_81 (by decide) (by decide) ?_
  refine am_iload_n eX9_ends_18 rfl ?_
  refine md_ald (f := 28) (j := w.toNat) (v := ((m 28 w.toNat) - 1)) eX9_ends_19 (by show _ < 2; omega) rfl (by omega) st_eq ?_
  refine am_iadd eX9_ends_20 ?_
  refine am_istore_n eX9_ends_21 (by decide) ?_
  refine am_aload_n eX9_ends_22 rfl ?_
  refine md_getA eX9_ends_23 fX9_96 (by decide) (by decide) ?_
  refine am_iload_n eX9_ends_26 rfl ?_
  refine md_ald (f := 33) (j := w.toNat) (v := m 33 w.toNat) eX9_ends_27 (by show _ < 2; omega) rfl (by omega) ((st_nf (by decide)).trans rfl) ?_
  have b2 := wb33 hW w.toNat
  refine am_bipush eX9_ends_28 (by decide) ?_
  refine am_icmp_ge ⟨by omega, by omega⟩ ⟨by omega, by omega⟩ eX9_ends_30 (fun c3 => ?_) (fun c3 => ?_)
  · refine am_return eX9_ends_145 rfl (Nat.zero_le _) (Nat.zero_le _) ?_
    exact am_vd_m (by unfold sp_ends; rw [if_neg (by omega)])
  · refine am_bipush eX9_ends_33 (by decide) ?_
    refine am_iload_n eX9_ends_35 rfl ?_
    refine am_imul eX9_ends_36 ?_
    refine am_aload_n eX9_ends_37 rfl ?_
    refine md_getA eX9_ends_38 fX9_96 (by decide) (by decide) ?_
    refine am_iload_n eX9_ends_41 rfl ?_
    refine md_ald (f := 33) (j := w.toNat) (v := m 33 w.toNat) eX9_ends_42 (by show _ < 2; omega) rfl (by omega) ((st_nf (by decide)).trans rfl) ?_
    have b4 := wb33 hW w.toNat
    refine am_iadd eX9_ends_43 ?_
    refine am_istore_n eX9_ends_44 (by decide) ?_
    refine am_aload_n eX9_ends_45 rfl ?_
    refine md_getA eX9_ends_46 fX9_99 (by decide) (by decide) ?_
    refine am_iload_n eX9_ends_49 rfl ?_
    refine am_aload_n eX9_ends_50 rfl ?_
    refine md_getA eX9_ends_51 fX9_84 (by decide) (by decide) ?_
    refine am_iload_n eX9_ends_54 rfl ?_
    refine md_ald (f := 29) (j := ((40 * w.toNat) + (((m 28 w.toNat) - 1)).toNat)) (v := m 29 ((40 * w.toNat) + (((m 28 w.toNat) - 1)).toNat)) eX9_ends_55 (by show _ < 80; omega) rfl (by omega) ((st_nf (by decide)).trans rfl) ?_
    have b5 := wb29 hW ((40 * w.toNat) + (((m 28 w.toNat) - 1)).toNat)
    refine md_ast (f := 34) (j := ((40 * w.toNat) + (m 33 w.toNat).toNat)) eX9_ends_56 (by show _ < 80; omega) rfl (by omega) ?_
    refine am_aload_n eX9_ends_57 rfl ?_
    refine md_getA eX9_ends_58 fX9_102 (by decide) (by decide) ?_
    refine am_iload_n eX9_ends_61 rfl ?_
    refine am_aload_n eX9_ends_62 rfl ?_
    refine md_getI (v := m 1 0) eX9_ends_63 fX9_7 rfl (by decide) ((st_nf (by decide)).trans ((st_nf (by decide)).trans rfl)) ?_
    have b6 := wb1 hW 0
    refine md_ast (f := 35) (j := ((40 * w.toNat) + (m 33 w.toNat).toNat)) eX9_ends_66 (by show _ < 80; omega) rfl (by omega) ?_
    refine am_aload_n eX9_ends_67 rfl ?_
    refine md_getA eX9_ends_68 fX9_105 (by decide) (by decide) ?_
    refine am_iload_n eX9_ends_71 rfl ?_
    refine am_aload_n eX9_ends_72 rfl ?_
    refine md_getA eX9_ends_73 fX9_87 (by decide) (by decide) ?_
    refine am_iload_n eX9_ends_76 rfl ?_
    refine md_bald (f := 30) (j := ((40 * w.toNat) + (((m 28 w.toNat) - 1)).toNat)) (v := m 30 ((40 * w.toNat) + (((m 28 w.toNat) - 1)).toNat)) eX9_ends_77 (by show _ < 80; omega) rfl (by omega) ((st_nf (by decide)).trans ((st_nf (by decide)).trans ((st_nf (by decide)).trans rfl))) ?_
    have b7 := wb30 hW ((40 * w.toNat) + (((m 28 w.toNat) - 1)).toNat)
    refine md_bast (f := 36) (j := ((40 * w.toNat) + (m 33 w.toNat).toNat)) eX9_ends_78 (by show _ < 80; omega) rfl (by omega) (by omega) ?_
    refine am_aload_n eX9_ends_79 rfl ?_
    refine md_getA eX9_ends_80 fX9_108 (by decide) (by decide) ?_
    refine am_iload_n eX9_ends_83 rfl ?_
    refine am_aload_n eX9_ends_84 rfl ?_
    refine md_getA eX9_ends_85 fX9_90 (by decide) (by decide) ?_
    refine am_iload_n eX9_ends_88 rfl ?_
    refine md_ald (f := 31) (j := ((40 * w.toNat) + (((m 28 w.toNat) - 1)).toNat)) (v := m 31 ((40 * w.toNat) + (((m 28 w.toNat) - 1)).toNat)) eX9_ends_89 (by show _ < 80; omega) rfl (by omega) ((st_nf (by decide)).trans ((st_nf (by decide)).trans ((st_nf (by decide)).trans ((st_nf (by decide)).trans rfl)))) ?_
    have b8 := wb31 hW ((40 * w.toNat) + (((m 28 w.toNat) - 1)).toNat)
    refine md_ast (f := 37) (j := ((40 * w.toNat) + (m 33 w.toNat).toNat)) eX9_ends_90 (by show _ < 80; omega) rfl (by omega) ?_
    refine am_iconst eX9_ends_91 ?_
    refine am_istore eX9_ends_92 (by decide) ?_
    have hz : md_wb T (st (st (st (st (st m 28 w.toNat ((m 28 w.toNat) - 1)) 34 ((40 * w.toNat) + (m 33 w.toNat).toNat) (m 29 ((40 * w.toNat) + (((m 28 w.toNat) - 1)).toNat))) 35 ((40 * w.toNat) + (m 33 w.toNat).toNat) (m 1 0)) 36 ((40 * w.toNat) + (m 33 w.toNat).toNat) (m 30 ((40 * w.toNat) + (((m 28 w.toNat) - 1)).toNat))) 37 ((40 * w.toNat) + (m 33 w.toNat).toNat) (m 31 ((40 * w.toNat) + (((m 28 w.toNat) - 1)).toNat))) := sp_ends_wb0 hW h0
    refine am_mono (lp_X9_ends hz hw (a := 40 * w.toNat + (m 33 w.toNat).toNat) (b := 40 * w.toNat + (m 28 w.toNat - 1).toNat) (by omega) (by omega) (by omega) (by omega) X _ 0 _ _ rfl sp_cs_0.symm (Nat.zero_add _)) ?_
    exact fun r h' q => by obtain ⟨q1, q2⟩ := q; refine ⟨q1, ?_⟩; rw [q2]; unfold sp_ends; rw [if_pos (by omega)]; simp [st]
