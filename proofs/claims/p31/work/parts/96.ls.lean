/-! the law from its first row -/
theorem lw_I_0 {k : Nat} {x m : sg_S} {N : Nat} (hR : sg_R k x) (hN : 2 ≤ N ∧ N ≤ 5) (h3 : x 3 0 = (N : Int)) (hbw : bw x 6 6) (h9 : m 0 0 = 3) (hf : ∀ f j, f ≠ 0 → f ≠ 3 → f ≠ 4 → f ≠ 5 → f ≠ 21 → f ≠ 22 → f ≠ 23 → x f j = s_0 f j) : lw_I k x m N (fun _ => 0) := by
  have z : ∀ f j, f ≠ 0 → f ≠ 1 → f ≠ 3 → f ≠ 4 → f ≠ 5 → f ≠ 15 → f ≠ 21 → f ≠ 22 → f ≠ 23 → x f j = 0 := fun f j h0 h1 h3 h4 h5 h15 h21 h22 h23 => (hf f j h0 h3 h4 h5 h21 h22 h23).trans (s0_0 ⟨h1, h15⟩)
  have z15 : ∀ j, x 15 j = -1 := fun j => (hf 15 j (by decide) (by decide) (by decide) (by decide) (by decide) (by decide) (by decide)).trans rfl
  have h0 : ∀ a, wy_h x a = 0 := fun a => by unfold wy_h; rw [z15]; simp
  have w0 : ∀ u, wy_W x u N (fun _ => 0) (fun _ => 0) (fun _ => 0) 0 (x 1 0) := fun u => by
    refine ⟨fun _ => 0, ⟨fun t ht he => ?_, fun t j i ht he hj hi => ?_, fun t ht he hh => ?_, fun t ht he => ⟨?_, fun j hj hT => absurd hT (Nat.not_lt_zero j)⟩⟩, rfl, 0, Nat.le_refl _, ?_, ?_, Or.inl ⟨rfl, ?_⟩, fun k hk => absurd hk (Nat.not_lt_zero k)⟩
    · rw [h0, z 12 _ (by decide) (by decide) (by decide) (by decide) (by decide) (by decide) (by decide) (by decide) (by decide)]; rfl
    · rw [z 12 _ (by decide) (by decide) (by decide) (by decide) (by decide) (by decide) (by decide) (by decide) (by decide)] at hj; omega
    · rw [h0] at hh; cases hh
    · rw [z 17 _ (by decide) (by decide) (by decide) (by decide) (by decide) (by decide) (by decide) (by decide) (by decide)]; simp
    · exact z 33 _ (by decide) (by decide) (by decide) (by decide) (by decide) (by decide) (by decide) (by decide) (by decide)
    · exact z 27 _ (by decide) (by decide) (by decide) (by decide) (by decide) (by decide) (by decide) (by decide) (by decide)
    · exact z 28 _ (by decide) (by decide) (by decide) (by decide) (by decide) (by decide) (by decide) (by decide) (by decide)
  refine ⟨hR, ⟨hN.1, hN.2, h3⟩, ⟨z 39 0 (by decide) (by decide) (by decide) (by decide) (by decide) (by decide) (by decide) (by decide) (by decide), fun j => z 6 j (by decide) (by decide) (by decide) (by decide) (by decide) (by decide) (by decide) (by decide) (by decide)⟩, hbw, h9, by decide, fun _ _ => 0, fun _ _ => 0, fun _ _ => 0, fun _ _ => 0, fun _ _ => 0, fun u => ⟨Nat.zero_le _, rfl, fun d hd => absurd hd (Nat.not_lt_zero d)⟩, ⟨w0 1, w0 0⟩, fun u d hd => absurd hd (Nat.not_lt_zero d), fun d _ hd => absurd hd (Nat.not_lt_zero d), fun d _ hd => absurd hd (Nat.not_lt_zero d)⟩
set_option maxRecDepth 100000 in
set_option maxHeartbeats 4000000 in
theorem law_rows {HH : List (Nat × Nat × Nat × Nat)} {G : am_G} {X : am_X} {Q : State → Prop} (hL : G.2.2.2.2.2.2.1 ≤ 260) {N k : Nat} {mo : Int} (hmo : 0 ≤ mo ∧ mo ≤ 40) (kkE : ∀ (ls : List (Option am_AV)) (h : am_AH) (kc nc : Nat), ls[4]? = some (some (am_I 1)) → kc ≤ 600104 → nc ≤ 7301314 → am_W G X (mLh HH) 8 600104 7301314 Q 936 ls [] h kc nc) {x : sg_S} (hR : sg_R k x) (hk9 : k ≤ 20) (hN : 2 ≤ N ∧ N ≤ 5) (h3 : x 3 0 = (N : Int)) (hbw : bw x 6 6) (hf : ∀ f j, f ≠ 0 → f ≠ 3 → f ≠ 4 → f ≠ 5 → f ≠ 21 → f ≠ 22 → f ≠ 23 → x f j = s_0 f j) {kc nc : Nat} (hk : kc ≤ 3000) (hn : nc ≤ 50000) : am_W G X (mLh HH) 8 600104 7301314 Q 145 [some (am_R am_scr), some (am_R (8, 0)), none, some (am_I (N : Int)), some (am_I 1), some (am_I mo), none, none, none, none, none, none, none, none, none, none, none, none, none, none, none, none] [] (en_h m_0 x) kc nc := by
  have hm0 : m_0 0 0 = ((0 : Nat) : Int) := rfl
  have hm1 : (st m_0 0 0 1) 0 0 = ((1 : Nat) : Int) := st_eq
  have hm2 : (st (st m_0 0 0 1) 0 0 2) 0 0 = ((2 : Nat) : Int) := st_eq
  have hm3 : (st (st (st m_0 0 0 1) 0 0 2) 0 0 3) 0 0 = 3 := st_eq
  have hz0 : ∀ z, m_0 (1 + 0) z = 0 := fun z => rfl
  have hz1 : ∀ z, (st m_0 0 0 1) (1 + 1) z = 0 := fun z => (st_nf (by decide)).trans rfl
  have hz2 : ∀ z, (st (st m_0 0 0 1) 0 0 2) (1 + 2) z = 0 := fun z => (st_nf (by decide)).trans ((st_nf (by decide)).trans rfl)
  refine am_sipush eL_law_145 (by decide) ?_
  refine am_istore eL_law_148 (Nat.le_of_ble_eq_true rfl) ?_
  refine am_lseq (ls' := [some (am_R am_scr), some (am_R (8, 0)), none, some (am_I (N : Int)), some (am_I 1), some (am_I mo), some (am_I 360), none, none, none, none, none, none, none, none, none, none, none, none, none, none, none]) rfl ?_
  refine am_bipush eL_law_150 (by decide) ?_
  refine am_newa (kd := 0) (9, 0) eL_law_152 rfl x_arr0 (by decide) (by decide) (by decide) (en_9n (by rw [hm0]; decide)) (am_nk (by decide)) (by omega) (by omega) ?_
  refine am_heq (h' := am_up (en_h m_0 x) (9, 0) (am_A 0 40 (fun _ => am_I 0))) rfl ?_
  refine am_heq (h' := en_h (st m_0 0 0 1) x) (cl_new (i := 0) hm0 (fun z => hz0 z)) ?_
  refine am_astore eL_law_154 (Nat.le_of_ble_eq_true rfl) ?_
  refine am_lseq (ls' := [some (am_R am_scr), some (am_R (8, 0)), none, some (am_I (N : Int)), some (am_I 1), some (am_I mo), some (am_I 360), some (am_R (9, 0)), none, none, none, none, none, none, none, none, none, none, none, none, none, none]) rfl ?_
  refine am_bipush eL_law_156 (by decide) ?_
  refine am_newa (kd := 0) (9, 1) eL_law_158 rfl x_arr0 (by decide) (by decide) (by decide) (en_9n (by rw [hm1]; decide)) (am_nk (by decide)) (by omega) (by omega) ?_
  refine am_heq (h' := am_up (en_h (st m_0 0 0 1) x) (9, 1) (am_A 0 40 (fun _ => am_I 0))) rfl ?_
  refine am_heq (h' := en_h (st (st m_0 0 0 1) 0 0 2) x) (cl_new (i := 1) hm1 (fun z => hz1 z)) ?_
  refine am_astore eL_law_160 (Nat.le_of_ble_eq_true rfl) ?_
  refine am_lseq (ls' := [some (am_R am_scr), some (am_R (8, 0)), none, some (am_I (N : Int)), some (am_I 1), some (am_I mo), some (am_I 360), some (am_R (9, 0)), some (am_R (9, 1)), none, none, none, none, none, none, none, none, none, none, none, none, none]) rfl ?_
  refine am_bipush eL_law_162 (by decide) ?_
  refine am_newa (kd := 0) (9, 2) eL_law_164 rfl x_arr0 (by decide) (by decide) (by decide) (en_9n (by rw [hm2]; decide)) (am_nk (by decide)) (by omega) (by omega) ?_
  refine am_heq (h' := am_up (en_h (st (st m_0 0 0 1) 0 0 2) x) (9, 2) (am_A 0 40 (fun _ => am_I 0))) rfl ?_
  refine am_heq (h' := en_h (st (st (st m_0 0 0 1) 0 0 2) 0 0 3) x) (cl_new (i := 2) hm2 (fun z => hz2 z)) ?_
  refine am_astore eL_law_166 (Nat.le_of_ble_eq_true rfl) ?_
  refine am_lseq (ls' := [some (am_R am_scr), some (am_R (8, 0)), none, some (am_I (N : Int)), some (am_I 1), some (am_I mo), some (am_I 360), some (am_R (9, 0)), some (am_R (9, 1)), some (am_R (9, 2)), none, none, none, none, none, none, none, none, none, none, none, none]) rfl ?_
  refine am_iconst eL_law_168 ?_
  refine am_istore eL_law_169 (Nat.le_of_ble_eq_true rfl) ?_
  refine am_lseq (ls' := [some (am_R am_scr), some (am_R (8, 0)), none, some (am_I (N : Int)), some (am_I 1), some (am_I mo), some (am_I 360), some (am_R (9, 0)), some (am_R (9, 1)), some (am_R (9, 2)), some (am_I 0), none, none, none, none, none, none, none, none, none, none, none]) rfl ?_
  refine am_iconst eL_law_171 ?_
  refine am_istore eL_law_172 (Nat.le_of_ble_eq_true rfl) ?_
  refine am_lseq (ls' := [some (am_R am_scr), some (am_R (8, 0)), none, some (am_I (N : Int)), some (am_I 1), some (am_I mo), some (am_I 360), some (am_R (9, 0)), some (am_R (9, 1)), some (am_R (9, 2)), some (am_I 0), some (am_I 0), none, none, none, none, none, none, none, none, none, none]) rfl ?_
  refine am_iconst eL_law_174 ?_
  refine am_istore eL_law_175 (Nat.le_of_ble_eq_true rfl) ?_
  refine am_lseq (ls' := [some (am_R am_scr), some (am_R (8, 0)), none, some (am_I (N : Int)), some (am_I 1), some (am_I mo), some (am_I 360), some (am_R (9, 0)), some (am_R (9, 1)), some (am_R (9, 2)), some (am_I 0), some (am_I 0), some (am_I 1), none, none, none, none, none, none, none, none, none]) rfl ?_
  have e1 : x 1 0 = 360 := (hf 1 0 (by decide) (by decide) (by decide) (by decide) (by decide) (by decide) (by decide)).trans rfl
  exact law_loop hL hmo kkE 40 1 k 1 360 0 0 x (st (st (st m_0 0 0 1) 0 0 2) 0 0 3) (fun _ => 0) _ _ rfl (by decide) (by decide) (lw_I_0 hR hN h3 hbw hm3 hf) (by omega) e1.symm rfl rfl (by omega) (by omega)
set_option maxRecDepth 100000 in
set_option maxHeartbeats 4000000 in
theorem law_writes {HH : List (Nat × Nat × Nat × Nat)} {G : am_G} {X : am_X} {Q : State → Prop} (hL : G.2.2.2.2.2.2.1 ≤ 260) {N : Nat} (kkE : ∀ (ls : List (Option am_AV)) (h : am_AH) (kc nc : Nat), ls[4]? = some (some (am_I 1)) → kc ≤ 600104 → nc ≤ 7301314 → am_W G X (mLh HH) 8 600104 7301314 Q 936 ls [] h kc nc) (hN : 2 ≤ N ∧ N ≤ 5) {v : Int} :
    ∀ (f i : Nat) (kv : Int) (x : sg_S) (kc nc : Nat), kv = (i : Int) → i + f = 6 → sg_R (N + 2 * i) x → x 3 0 = (N : Int) → bw x i i → (∀ f j, f ≠ 0 → f ≠ 3 → f ≠ 4 → f ≠ 5 → f ≠ 21 → f ≠ 22 → f ≠ 23 → x f j = s_0 f j) → kc ≤ 1000 + 10 * i → nc ≤ 30000 + 50 * i → am_W G X (mLh HH) 8 600104 7301314 Q 67 [some (am_R am_scr), some (am_R (8, 0)), some (am_I v), some (am_I (N : Int)), some (am_I kv), none, none, none, none, none, none, none, none, none, none, none, none, none, none, none, none, none] [] (en_h m_0 x) kc nc := by
  intro f
  induction f with
  | zero =>
    intro i kv x kc nc hi hf6 hR h3 hbw hf hk hn
    obtain rfl : i = 6 := by omega
    refine am_iload eL_law_67 rfl ?_
    refine am_bipush eL_law_69 (by decide) ?_
    refine am_icmp_ge ⟨by omega, by omega⟩ ⟨by omega, by omega⟩ eL_law_71 (fun c71 => ?_) (fun c71 => absurd c71 (by omega))
    refine am_iconst eL_law_126 ?_
    refine am_istore eL_law_127 (Nat.le_of_ble_eq_true rfl) ?_
    refine am_lseq (ls' := [some (am_R am_scr), some (am_R (8, 0)), some (am_I v), some (am_I (N : Int)), some (am_I 1), none, none, none, none, none, none, none, none, none, none, none, none, none, none, none, none, none]) rfl ?_
    refine am_aload_n eL_law_129 rfl ?_
    refine am_slen eL_law_130 ?_
    refine am_bipush eL_law_131 (by decide) ?_
    refine am_icmp_ge ⟨by omega, by omega⟩ ⟨by omega, by omega⟩ eL_law_133 (fun c133 => ?_) (fun c133 => ?_)
    · have dummy := c133
      refine am_bipush eL_law_141 (by decide) ?_
      refine am_istore eL_law_143 (Nat.le_of_ble_eq_true rfl) ?_
      refine am_lseq (ls' := [some (am_R am_scr), some (am_R (8, 0)), some (am_I v), some (am_I (N : Int)), some (am_I 1), some (am_I 40), none, none, none, none, none, none, none, none, none, none, none, none, none, none, none, none]) rfl ?_
      refine am_lnone 2 ?_
      refine am_lseq (ls' := [some (am_R am_scr), some (am_R (8, 0)), none, some (am_I (N : Int)), some (am_I 1), some (am_I 40), none, none, none, none, none, none, none, none, none, none, none, none, none, none, none, none]) rfl ?_
      exact law_rows hL ⟨by omega, by omega⟩ kkE hR (by omega) hN h3 hbw hf (by omega) (by omega)
    · have dummy := c133
      refine am_aload_n eL_law_136 rfl ?_
      refine am_slen eL_law_137 ?_
      refine am_goto eL_law_138 ?_
      refine am_istore eL_law_143 (Nat.le_of_ble_eq_true rfl) ?_
      refine am_lseq (ls' := [some (am_R am_scr), some (am_R (8, 0)), some (am_I v), some (am_I (N : Int)), some (am_I 1), some (am_I (G.2.2.2.2.2.2.1 : Nat)), none, none, none, none, none, none, none, none, none, none, none, none, none, none, none, none]) rfl ?_
      refine am_lnone 2 ?_
      refine am_lseq (ls' := [some (am_R am_scr), some (am_R (8, 0)), none, some (am_I (N : Int)), some (am_I 1), some (am_I (G.2.2.2.2.2.2.1 : Nat)), none, none, none, none, none, none, none, none, none, none, none, none, none, none, none, none]) rfl ?_
      exact law_rows hL ⟨by omega, by omega⟩ kkE hR (by omega) hN h3 hbw hf (by omega) (by omega)
  | succ f ih =>
    intro i kv x kc nc hi hf6 hR h3 hbw hf hk hn
    refine am_iload eL_law_67 rfl ?_
    refine am_bipush eL_law_69 (by decide) ?_
    refine am_icmp_ge ⟨by omega, by omega⟩ ⟨by omega, by omega⟩ eL_law_71 (fun c71 => absurd c71 (by omega)) (fun c71 => ?_)
    refine am_aload_n eL_law_74 rfl ?_
    refine am_iconst eL_law_75 ?_
    refine am_iload_n eL_law_76 rfl ?_
    refine am_iload eL_law_77 rfl ?_
    refine am_ishr eL_law_79 (fun z1 r_z1 => ?_)
    refine am_bipush eL_law_80 (by decide) ?_
    refine am_cSr (st := [am_I 0, am_R (8, 0)]) eL_law_82 kL_17 (c_L_low r_z1 ⟨by omega, by omega⟩ (by omega)) rfl rfl (by decide) (Nat.le_of_ble_eq_true rfl) (by simp) (by omega) (by omega) (fun p h_p => ?_)
    obtain ⟨h_p1, h_p2⟩ := h_p
    refine am_iload eL_law_85 rfl ?_
    refine am_bipush eL_law_87 (by decide) ?_
    refine am_iload eL_law_89 rfl ?_
    refine am_iadd eL_law_91 ?_
    obtain ⟨y1, y2, y3⟩ := bw_0 (p := p) (kI := kv) (v := 100 + kv) hbw (by omega) (by omega) hi (by omega)
    have hN0 := hR.2.2.2.2.2.2.2.2.2.1
    refine am_cVr (mc' := 4) (ms' := 24) (st := []) eL_law_92 kL_24 (wr_is (c_X8_write (m := m_0) (x := x) hR.1 (a := 0) (p := p) (l := kv) (v := 100 + kv) ⟨by omega, by omega⟩ ⟨by omega, by omega⟩ ⟨by omega, by omega⟩ ⟨by omega, by omega⟩ hN0) y2) rfl rfl (en_c8 (m := m_0) (x := x)) (by decide) (Nat.le_of_ble_eq_true rfl) (by simp) (by omega) (by omega) ?_
    have hR1 : sg_R (N + 2 * i + 1) (sp_write x 0 p kv (100 + kv)) := sr_write hR
    generalize sp_write x 0 p kv (100 + kv) = x1 at y1 y2 y3 hR1 ⊢
    refine am_pop (by simp) eL_law_95 ?_
    refine am_aload_n eL_law_96 rfl ?_
    refine am_iconst eL_law_97 ?_
    refine am_iload eL_law_98 rfl ?_
    refine am_iload_n eL_law_100 rfl ?_
    refine am_iconst eL_law_101 ?_
    refine am_iload eL_law_102 rfl ?_
    refine am_iadd eL_law_104 ?_
    refine am_ishr eL_law_105 (fun z2 r_z2 => ?_)
    refine am_bipush eL_law_106 (by decide) ?_
    refine am_cSr (st := [am_I kv, am_I 1, am_R (8, 0)]) eL_law_108 kL_17 (c_L_low r_z2 ⟨by omega, by omega⟩ (by omega)) rfl rfl (by decide) (Nat.le_of_ble_eq_true rfl) (by simp) (by omega) (by omega) (fun l h_l => ?_)
    obtain ⟨h_l1, h_l2⟩ := h_l
    refine am_bipush eL_law_111 (by decide) ?_
    refine am_iload eL_law_113 rfl ?_
    refine am_iadd eL_law_115 ?_
    obtain ⟨y4, y5, y6⟩ := bw_1 (l := l) (kI := kv) (v := 100 + kv) y1 (by omega) (by omega) hi (by omega)
    have hN1 := hR1.2.2.2.2.2.2.2.2.2.1
    refine am_cVr (mc' := 4) (ms' := 24) (st := []) eL_law_116 kL_24 (wr_is (c_X8_write (m := m_0) (x := x1) hR1.1 (a := 1) (p := kv) (l := l) (v := 100 + kv) ⟨by omega, by omega⟩ ⟨by omega, by omega⟩ ⟨by omega, by omega⟩ ⟨by omega, by omega⟩ hN1) y5) rfl rfl (en_c8 (m := m_0) (x := x1)) (by decide) (Nat.le_of_ble_eq_true rfl) (by simp) (by omega) (by omega) ?_
    have hR2 : sg_R (N + 2 * (i + 1)) (sp_write x1 1 kv l (100 + kv)) := sr_write hR1
    generalize sp_write x1 1 kv l (100 + kv) = x2 at y4 y5 y6 hR2 ⊢
    refine am_pop (by simp) eL_law_119 ?_
    refine am_iinc eL_law_120 rfl (Nat.le_of_ble_eq_true rfl) ?_
    refine am_lseq (ls' := [some (am_R am_scr), some (am_R (8, 0)), some (am_I v), some (am_I (N : Int)), some (am_I (kv + 1)), none, none, none, none, none, none, none, none, none, none, none, none, none, none, none, none, none]) rfl ?_
    refine am_goto eL_law_123 ?_
    exact ih (i + 1) _ x2 _ _ (by omega) (by omega) hR2 (by rw [y6 3 0 (by decide) (by decide) (by decide) (by decide), y3 3 0 (by decide) (by decide) (by decide) (by decide)]; exact h3) y4 (fun f j a b c d e g h => by rw [y6 f j a e g h, y3 f j a e g h]; exact hf f j a b c d e g h) (by omega) (by omega)
set_option maxRecDepth 100000 in
set_option maxHeartbeats 4000000 in
theorem law_towers {HH : List (Nat × Nat × Nat × Nat)} {G : am_G} {X : am_X} {Q : State → Prop} (hL : G.2.2.2.2.2.2.1 ≤ 260) {N : Nat} (kkE : ∀ (ls : List (Option am_AV)) (h : am_AH) (kc nc : Nat), ls[4]? = some (some (am_I 1)) → kc ≤ 600104 → nc ≤ 7301314 → am_W G X (mLh HH) 8 600104 7301314 Q 936 ls [] h kc nc) (hN : 2 ≤ N ∧ N ≤ 5) {v : Int} :
    ∀ (f i : Nat) (kv : Int) (x : sg_S) (kc nc : Nat), kv = (i : Int) → i + f = N → sg_R i x → x 3 0 = (i : Int) → (∀ f j, f ≠ 0 → f ≠ 3 → f ≠ 4 → f ≠ 5 → x f j = s_0 f j) → kc ≤ 100 + 30 * i → nc ≤ 5000 + 2400 * i → am_W G X (mLh HH) 8 600104 7301314 Q 25 [some (am_R am_scr), some (am_R (8, 0)), some (am_I v), some (am_I (N : Int)), some (am_I kv), none, none, none, none, none, none, none, none, none, none, none, none, none, none, none, none, none] [] (en_h m_0 x) kc nc := by
  intro f
  induction f with
  | zero =>
    intro i kv x kc nc hi hfN hR h3 hf hk hn
    obtain rfl : i = N := by omega
    refine am_iload eL_law_25 rfl ?_
    refine am_iload_n eL_law_27 rfl ?_
    refine am_icmp_ge ⟨by omega, by omega⟩ ⟨by omega, by omega⟩ eL_law_28 (fun c28 => ?_) (fun c28 => absurd c28 (by omega))
    refine am_iconst eL_law_64 ?_
    refine am_istore eL_law_65 (Nat.le_of_ble_eq_true rfl) ?_
    refine am_lseq (ls' := [some (am_R am_scr), some (am_R (8, 0)), some (am_I v), some (am_I (i : Int)), some (am_I 0), none, none, none, none, none, none, none, none, none, none, none, none, none, none, none, none, none]) rfl ?_
    refine law_writes hL kkE hN 6 0 0 x _ _ rfl (by decide) hR h3 ⟨⟨?_, ?_⟩, fun j hj => absurd hj (Nat.not_lt_zero j), fun j hj => absurd hj (Nat.not_lt_zero j)⟩ (fun f j a b c d _ _ _ => hf f j a b c d) (by omega) (by omega)
    · exact (hf 21 0 (by decide) (by decide) (by decide) (by decide)).trans (s0_0 (by decide))
    · exact (hf 21 1 (by decide) (by decide) (by decide) (by decide)).trans (s0_0 (by decide))
  | succ f ih =>
    intro i kv x kc nc hi hfN hR h3 hf hk hn
    refine am_iload eL_law_25 rfl ?_
    refine am_iload_n eL_law_27 rfl ?_
    refine am_icmp_ge ⟨by omega, by omega⟩ ⟨by omega, by omega⟩ eL_law_28 (fun c28 => absurd c28 (by omega)) (fun c28 => ?_)
    refine am_aload_n eL_law_31 rfl ?_
    refine am_iload_n eL_law_32 rfl ?_
    refine am_iload eL_law_33 rfl ?_
    refine am_ishr eL_law_35 (fun z1 r_z1 => ?_)
    refine am_bipush eL_law_36 (by decide) ?_
    refine am_cSr (st := [am_R (8, 0)]) eL_law_38 kL_17 (c_L_low r_z1 ⟨by omega, by omega⟩ (by omega)) rfl rfl (by decide) (Nat.le_of_ble_eq_true rfl) (by simp) (by omega) (by omega) (fun a h_a => ?_)
    obtain ⟨h_a1, h_a2⟩ := h_a
    refine am_iconst eL_law_41 ?_
    refine am_iload_n eL_law_42 rfl ?_
    refine am_iload eL_law_43 rfl ?_
    refine am_iconst eL_law_45 ?_
    refine am_iadd eL_law_46 ?_
    refine am_ishr eL_law_47 (fun z2 r_z2 => ?_)
    refine am_bipush eL_law_48 (by decide) ?_
    refine am_cSr (st := [am_I 1, am_I a, am_R (8, 0)]) eL_law_50 kL_17 (c_L_low r_z2 ⟨by omega, by omega⟩ (by omega)) rfl rfl (by decide) (Nat.le_of_ble_eq_true rfl) (by simp) (by omega) (by omega) (fun c h_c => ?_)
    obtain ⟨h_c1, h_c2⟩ := h_c
    refine am_iadd eL_law_53 ?_
    obtain ⟨b, hb⟩ : ∃ b, b = 1 + c := ⟨_, rfl⟩
    rw [← hb]
    have rb : 1 ≤ b ∧ b ≤ 20 := by omega
    have x2 : x 2 0 = 0 := (hf 2 0 (by decide) (by decide) (by decide) (by decide)).trans (s0_0 (by decide))
    have eS : sp_tower x a b = st (st (st (st x 0 0 0) 4 i a) 5 i b) 3 0 ((i : Int) + 1) := by unfold sp_tower; rw [if_neg (by omega), if_neg (by omega), h3, Int.toNat_natCast]
    have e00 : sp_tower x a b 0 0 = 0 := by rw [eS, st_nf (by decide), st_nf (by decide), st_nf (by decide), st_eq]
    have hU := hR.2.2.2.2.2.2.2.1
    have hR1 : sg_R (i + 1) (sp_tower x a b) := sr_tower hR
    refine am_cVr (mc' := 20) (ms' := 2300) (st := []) eL_law_54 kL_21 (wr_is (c_X8_tower (m := m_0) (x := x) hR.1 (a := a) (b := b) ⟨by omega, by omega⟩ ⟨by omega, by omega⟩ hU) e00) rfl rfl (en_c8 (m := m_0) (x := x)) (by decide) (Nat.le_of_ble_eq_true rfl) (by simp) (by omega) (by omega) ?_
    refine am_pop (by simp) eL_law_57 ?_
    refine am_iinc eL_law_58 rfl (Nat.le_of_ble_eq_true rfl) ?_
    refine am_lseq (ls' := [some (am_R am_scr), some (am_R (8, 0)), some (am_I v), some (am_I (N : Int)), some (am_I (kv + 1)), none, none, none, none, none, none, none, none, none, none, none, none, none, none, none, none, none]) rfl ?_
    refine am_goto eL_law_61 ?_
    exact ih (i + 1) _ (sp_tower x a b) _ _ (by omega) (by omega) hR1 (by rw [eS, st_eq]; omega) (fun f j h0 h3 h4 h5 => by rw [eS, st_nf h3, st_nf h5, st_nf h4, st_nf h0]; exact hf f j h0 h3 h4 h5) (by omega) (by omega)
set_option maxRecDepth 100000 in
set_option maxHeartbeats 4000000 in
theorem law_start {HH : List (Nat × Nat × Nat × Nat)} {G : am_G} {X : am_X} {Q : State → Prop} (hL : G.2.2.2.2.2.2.1 ≤ 260) (kkE : ∀ (ls : List (Option am_AV)) (h : am_AH) (kc nc : Nat), ls[4]? = some (some (am_I 1)) → kc ≤ 600104 → nc ≤ 7301314 → am_W G X (mLh HH) 8 600104 7301314 Q 936 ls [] h kc nc) : am_W G X (mLh HH) 8 600104 7301314 Q 0 [some (am_R am_scr), none, none, none, none, none, none, none, none, none, none, none, none, none, none, none, none, none, none, none, none, none] [] (fun _ => none) 0 0 := by
  refine am_new (8, 0) eL_law_0 lL_8 rfl (am_nk (by decide)) (by omega) (by omega) ?_
  refine am_heq (h' := h_a) rfl ?_
  refine am_dup (by simp) eL_law_3 ?_
  refine am_cI (h1 := h_8 h_a) (st := [am_R (8, 0)]) eL_law_4 kL_10 (c_X8_init (h := h_a) rfl (fun q hq => am_up_ne hq)) rfl rfl (by decide) (Nat.le_of_ble_eq_true rfl) (by simp) (by omega) (by omega) ?_
  refine am_aext (nm := (202, 0)) (kd := 5) (len := 3) (f := am_uf (am_uf (am_uf (fun _ => am_N) (0 : Int).toNat (am_R (1, 0))) (1 : Int).toNat (am_R (1, 1))) (2 : Int).toNat (am_R (1, 2))) (g := fun b => am_R (1, b)) rfl (fun j hj => ?_) ?_
  · rcases (show j = 0 ∨ j = 1 ∨ j = 2 by omega) with rfl | rfl | rfl <;> rfl
  refine am_heq (h' := en_h m_0 s_0) h_c_eq ?_
  refine am_astore_n eL_law_7 (Nat.le_of_ble_eq_true rfl) ?_
  refine am_lseq (ls' := [some (am_R am_scr), some (am_R (8, 0)), none, none, none, none, none, none, none, none, none, none, none, none, none, none, none, none, none, none, none, none]) rfl ?_
  refine am_aload_n eL_law_8 rfl ?_
  refine am_iconst eL_law_9 ?_
  refine am_cSr (st := []) eL_law_10 kL_11 (c_L_cell ⟨by omega, by omega⟩ hL) rfl rfl (by decide) (Nat.le_of_ble_eq_true rfl) (by simp) (by omega) (by omega) (fun v r_v => ?_)
  refine am_istore_n eL_law_13 (Nat.le_of_ble_eq_true rfl) ?_
  refine am_lseq (ls' := [some (am_R am_scr), some (am_R (8, 0)), some (am_I v), none, none, none, none, none, none, none, none, none, none, none, none, none, none, none, none, none, none, none]) rfl ?_
  refine am_iconst eL_law_14 ?_
  refine am_iload_n eL_law_15 rfl ?_
  refine am_iconst eL_law_16 ?_
  refine am_cSr (st := [am_I 2]) eL_law_17 kL_17 (c_L_low r_v ⟨by omega, by omega⟩ (by omega)) rfl rfl (by decide) (Nat.le_of_ble_eq_true rfl) (by simp) (by omega) (by omega) (fun z h_z => ?_)
  obtain ⟨h_z1, h_z2⟩ := h_z
  refine am_iadd eL_law_20 ?_
  obtain ⟨N, hN⟩ : ∃ N : Nat, 2 + z = (N : Int) := ⟨(2 + z).toNat, by omega⟩
  rw [hN]
  refine am_istore_n eL_law_21 (Nat.le_of_ble_eq_true rfl) ?_
  refine am_lseq (ls' := [some (am_R am_scr), some (am_R (8, 0)), some (am_I v), some (am_I (N : Int)), none, none, none, none, none, none, none, none, none, none, none, none, none, none, none, none, none, none]) rfl ?_
  refine am_iconst eL_law_22 ?_
  refine am_istore eL_law_23 (Nat.le_of_ble_eq_true rfl) ?_
  refine am_lseq (ls' := [some (am_R am_scr), some (am_R (8, 0)), some (am_I v), some (am_I (N : Int)), some (am_I 0), none, none, none, none, none, none, none, none, none, none, none, none, none, none, none, none, none]) rfl ?_
  exact law_towers hL kkE ⟨by omega, by omega⟩ N 0 0 s_0 _ _ rfl (by omega) sr_start (s0_0 (by decide)) (fun _ _ _ _ _ _ => rfl) (by omega) (by omega)
