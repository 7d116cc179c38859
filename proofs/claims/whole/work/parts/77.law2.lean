set_option maxRecDepth 100000 in
set_option maxHeartbeats 4000000 in
theorem law_c10 {HH : List (Nat × Nat × Nat × Nat)} {G : am_G} {X : am_X} {Q : State → Prop} {σ : sg_S} {j : Nat} {iv : Int} {kc nc : Nat} (hR : sg_R j σ) (hj : j < 512) (hi : iv = 5 * (j : Int)) (hL1 : iv + 4 < (G.2.2.2.2.2.2.1 : Int)) (hL : G.2.2.2.2.2.2.1 ≤ 2560) (hk : kc ≤ 100 + 20 * j + 2 * (σ 51 0).toNat) (hn : nc ≤ 50000 + 2400 * j + 66 * (σ 51 0).toNat)
    (kk : ∀ (σ' : sg_S) (l5 l6 : Option am_AV) (kc' nc' : Nat), sg_R (j + 1) σ' → kc' ≤ 100 + 20 * (j + 1) + 2 * (σ' 51 0).toNat → nc' ≤ 50000 + 2400 * (j + 1) + 66 * (σ' 51 0).toNat → am_W G X (mLh HH) 11 601024 7293034 Q 2080 (lwL iv l5 l6) [] (en_h σ' σ') kc' nc') : am_W G X (mLh HH) 11 601024 7293034 Q 889 (lwL iv none none) [] (en_h σ σ) kc nc := by
  obtain ⟨hW, hT, h16, hJ⟩ := id hR
  obtain ⟨hP, hD, hB, hF, hU, hV, hN, h52⟩ := id hJ
  have h51 : 0 ≤ σ 51 0 := hD.1.1
  have hle := si_le hP
  obtain ⟨a1, e1⟩ : ∃ z, z = (G.2.2.2.2.2.2.2 (iv + 1).toNat).toInt := ⟨_, rfl⟩
  have r1 : -2147483648 ≤ a1 ∧ a1 < 2147483648 := by rw [e1]; exact xs_r _
  have hR1 : sg_R (j + 1) (sp_spy σ a1) := sr_spy hR
  have h51a : (sp_spy σ a1) 51 0 = σ 51 0 := by
    unfold sp_spy
    (repeat' split) <;> simp [st]
  have hMC : ∀ f j, f < 43 → (sp_spy σ a1) f j = (sp_spy σ a1) f j := fun _ _ _ => rfl
  have hWM : md_wb 110000 (sp_spy σ a1) := wb_of hR1.1 hMC
  obtain ⟨S, hS⟩ : ∃ S, S = sp_spy σ a1 := ⟨_, rfl⟩
  have hMS : ∀ f j, f < 43 → (sp_spy σ a1) f j = S f j := fun f j hf => (hMC f j hf).trans (by rw [hS])
  rw [← hS] at hR1 h51a
  have h00 : (sp_spy σ a1) 0 0 = S 0 0 := hMS 0 0 (by decide)
  have w0 := wb0 hWM 0
  rw [h00] at w0
  have fin : am_W G X (mLh HH) 11 601024 7293034 Q 2080 (lwL iv (some (am_I (S 0 0))) (some (am_I (an_spy σ a1)))) [] (en_h (sp_spy σ a1) (lx_w S (an_spy σ a1))) (kc + 4) (nc + 240) := by
    rw [en_m_ag (m := lx_w S (an_spy σ a1)) (fun f j hf => (hMS f j hf).trans (lx_lo (by omega)).symm)]
    exact kk (lx_w S (an_spy σ a1)) _ _ _ _ (sg_R_w hR1) (by rw [lx_lo (by decide)]; omega) (by rw [lx_lo (by decide)]; omega)
  refine am_aload_n eL_law_889 rfl ?_
  refine lw_arg (a := a1) eL_law_890 eL_law_891 eL_law_893 eL_law_894 eL_law_895 (by omega) (by omega) hL e1 ?_
  refine am_aload_n eL_law_896 rfl ?_
  refine am_callSH (mc' := 4) (ms' := 240) eL_law_897 kL_144 (c_L_spy (c := S) (by rw [hS]; exact c_X8_spy (m := σ) hW r1 hU.2.2.2) (rg_spy hW)) rfl rfl (by decide) (Nat.le_of_ble_eq_true rfl) (by simp) (by omega) (by omega) (fun r h' hq => ?_) (fun x h' hq => by obtain ⟨q1, -⟩ := hq; cases q1)
  obtain ⟨q1, rfl⟩ := hq
  cases q1
  refine am_steq (st' := [am_I (S 0 0)]) rfl ?_
  refine am_istore eL_law_900 (Nat.le_of_ble_eq_true rfl) ?_
  refine am_lseq (ls' := lwL iv (some (am_I (S 0 0))) none) rfl ?_
  refine am_aload_n eL_law_902 rfl ?_
  refine lw_arg (a := a1) eL_law_903 eL_law_904 eL_law_906 eL_law_907 eL_law_908 (by omega) (by omega) hL e1 ?_
  refine am_cV eL_law_909 kL_146 (c_X9_spy (m := σ) (x := lx_w S (an_spy σ a1)) hW r1) rfl rfl en_9 (by decide) (by decide) (Nat.le_of_ble_eq_true rfl) (by omega) (by omega) ?_
  refine am_istore eL_law_912 (Nat.le_of_ble_eq_true rfl) ?_
  refine am_lseq (ls' := lwL iv (some (am_I (S 0 0))) (some (am_I (an_spy σ a1)))) rfl ?_
  refine am_aload_n eL_law_914 rfl ?_
  refine am_cV eL_law_915 kL_107 (c_X9_thrown (m := sp_spy σ a1) (x := lx_w S (an_spy σ a1)) hWM) rfl rfl en_9 (by decide) (by decide) (Nat.le_of_ble_eq_true rfl) (by omega) (by omega) ?_
  refine am_iload eL_law_918 rfl ?_
  refine am_topI_ h00 ?_
  refine am_icmp_eq ⟨by omega, by omega⟩ ⟨by omega, by omega⟩ eL_law_920 (fun _ => ?_) (fun z => absurd rfl z)
  refine am_iload eL_law_925 rfl ?_
  refine am_if_ne ⟨by omega, by omega⟩ eL_law_927 (fun _ => am_goto eL_law_942 fin) (fun c1 => ?_)
  refine am_aload_n eL_law_930 rfl ?_
  refine am_iconst eL_law_931 ?_
  refine am_lald (len := 1) (x := (an_spy σ a1)) eL_law_932 en_98 (by decide) (by decide) (by decide) (congrArg am_J (lx_at c1)) ?_
  refine am_iload eL_law_933 rfl ?_
  refine am_i2l (rg_spy hW) eL_law_935 ?_
  refine am_lcmp (rg_spy hW) (rg_spy hW) eL_law_936 (fun z hz hf => ?_)
  exact am_if_eq hz eL_law_937 (fun _ => am_goto eL_law_942 fin) (fun c => absurd (hf.mpr rfl) c)
set_option maxRecDepth 100000 in
set_option maxHeartbeats 4000000 in
theorem law_c11 {HH : List (Nat × Nat × Nat × Nat)} {G : am_G} {X : am_X} {Q : State → Prop} {σ : sg_S} {j : Nat} {iv : Int} {kc nc : Nat} (hR : sg_R j σ) (hj : j < 512) (hi : iv = 5 * (j : Int)) (hL1 : iv + 4 < (G.2.2.2.2.2.2.1 : Int)) (hL : G.2.2.2.2.2.2.1 ≤ 2560) (hk : kc ≤ 100 + 20 * j + 2 * (σ 51 0).toNat) (hn : nc ≤ 50000 + 2400 * j + 66 * (σ 51 0).toNat)
    (kk : ∀ (σ' : sg_S) (l5 l6 : Option am_AV) (kc' nc' : Nat), sg_R (j + 1) σ' → kc' ≤ 100 + 20 * (j + 1) + 2 * (σ' 51 0).toNat → nc' ≤ 50000 + 2400 * (j + 1) + 66 * (σ' 51 0).toNat → am_W G X (mLh HH) 11 601024 7293034 Q 2080 (lwL iv l5 l6) [] (en_h σ' σ') kc' nc') : am_W G X (mLh HH) 11 601024 7293034 Q 945 (lwL iv none none) [] (en_h σ σ) kc nc := by
  obtain ⟨hW, hT, h16, hJ⟩ := id hR
  obtain ⟨hP, hD, hB, hF, hU, hV, hN, h52⟩ := id hJ
  have h51 : 0 ≤ σ 51 0 := hD.1.1
  have hle := si_le hP
  obtain ⟨a1, e1⟩ : ∃ z, z = (G.2.2.2.2.2.2.2 (iv + 1).toNat).toInt := ⟨_, rfl⟩
  have r1 : -2147483648 ≤ a1 ∧ a1 < 2147483648 := by rw [e1]; exact xs_r _
  have hR1 : sg_R (j + 1) (bs_pass σ a1) := sr_pass hR hj
  have h51a := bs_pass_51 (σ := σ) (a := a1)
  have h51b := si_le hR1.2.2.2.1
  have hMC : ∀ f j, f < 43 → (sp_pass σ a1) f j = (bs_pass σ a1) f j := fun f j hf => (congrFun (ag_pass (σ := σ) (a := a1) f (by omega)) j).symm
  have hWM : md_wb 110000 (sp_pass σ a1) := wb_of hR1.1 hMC
  obtain ⟨S, hS⟩ : ∃ S, S = bs_pass σ a1 := ⟨_, rfl⟩
  have hMS : ∀ f j, f < 43 → (sp_pass σ a1) f j = S f j := fun f j hf => (hMC f j hf).trans (by rw [hS])
  rw [← hS] at hR1 h51a h51b
  have h00 : (sp_pass σ a1) 0 0 = S 0 0 := hMS 0 0 (by decide)
  have w0 := wb0 hWM 0
  rw [h00] at w0
  have fin : am_W G X (mLh HH) 11 601024 7293034 Q 2080 (lwL iv (some (am_I (S 0 0))) (some (am_I (an_pass σ a1)))) [] (en_h (sp_pass σ a1) (lx_w S (an_pass σ a1))) (kc + (2 * (S 51 0 - σ 51 0).toNat + 1)) (nc + (66 * (S 51 0 - σ 51 0).toNat + 6)) := by
    rw [en_m_ag (m := lx_w S (an_pass σ a1)) (fun f j hf => (hMS f j hf).trans (lx_lo (by omega)).symm)]
    exact kk (lx_w S (an_pass σ a1)) _ _ _ _ (sg_R_w hR1) (by rw [lx_lo (by decide)]; omega) (by rw [lx_lo (by decide)]; omega)
  refine am_aload_n eL_law_945 rfl ?_
  refine lw_arg (a := a1) eL_law_946 eL_law_947 eL_law_949 eL_law_950 eL_law_951 (by omega) (by omega) hL e1 ?_
  refine am_aload_n eL_law_952 rfl ?_
  have hC := c_X8_pass (G := G) (sg_J_L j) (m := σ) hW hJ (a := a1) r1 (by omega) (mc := 2 * (bs_pass σ a1 51 0 - σ 51 0).toNat + 1) (ms := 66 * (bs_pass σ a1 51 0 - σ 51 0).toNat + 6) ⟨by omega, by omega⟩ ⟨by omega, by omega⟩
  rw [← hS] at hC
  refine am_callSH (mc' := (2 * (S 51 0 - σ 51 0).toNat + 1)) (ms' := (66 * (S 51 0 - σ 51 0).toNat + 6)) eL_law_953 kL_147 (c_L_pass (c := S) hC (rg_pass hW)) rfl rfl (by decide) (Nat.le_of_ble_eq_true rfl) (by simp) (by omega) (by omega) (fun r h' hq => ?_) (fun x h' hq => by obtain ⟨q1, -⟩ := hq; cases q1)
  obtain ⟨q1, rfl⟩ := hq
  cases q1
  refine am_steq (st' := [am_I (S 0 0)]) rfl ?_
  refine am_istore eL_law_956 (Nat.le_of_ble_eq_true rfl) ?_
  refine am_lseq (ls' := lwL iv (some (am_I (S 0 0))) none) rfl ?_
  refine am_aload_n eL_law_958 rfl ?_
  refine lw_arg (a := a1) eL_law_959 eL_law_960 eL_law_962 eL_law_963 eL_law_964 (by omega) (by omega) hL e1 ?_
  refine am_cV eL_law_965 kL_149 (c_X9_pass (m := σ) (x := lx_w S (an_pass σ a1)) hW (sg_J_M j) ⟨si_mono hP (Nat.le_refl _) h51, hF⟩ r1 (by omega)) rfl rfl en_9 (by decide) (by decide) (Nat.le_of_ble_eq_true rfl) (by omega) (by omega) ?_
  refine am_istore eL_law_968 (Nat.le_of_ble_eq_true rfl) ?_
  refine am_lseq (ls' := lwL iv (some (am_I (S 0 0))) (some (am_I (an_pass σ a1)))) rfl ?_
  refine am_aload_n eL_law_970 rfl ?_
  refine am_cV eL_law_971 kL_107 (c_X9_thrown (m := sp_pass σ a1) (x := lx_w S (an_pass σ a1)) hWM) rfl rfl en_9 (by decide) (by decide) (Nat.le_of_ble_eq_true rfl) (by omega) (by omega) ?_
  refine am_iload eL_law_974 rfl ?_
  refine am_topI_ h00 ?_
  refine am_icmp_eq ⟨by omega, by omega⟩ ⟨by omega, by omega⟩ eL_law_976 (fun _ => ?_) (fun z => absurd rfl z)
  refine am_iload eL_law_981 rfl ?_
  refine am_if_ne ⟨by omega, by omega⟩ eL_law_983 (fun _ => am_goto eL_law_998 fin) (fun c1 => ?_)
  refine am_aload_n eL_law_986 rfl ?_
  refine am_iconst eL_law_987 ?_
  refine am_lald (len := 1) (x := (an_pass σ a1)) eL_law_988 en_98 (by decide) (by decide) (by decide) (congrArg am_J (lx_at c1)) ?_
  refine am_iload eL_law_989 rfl ?_
  refine am_i2l (rg_pass hW) eL_law_991 ?_
  refine am_lcmp (rg_pass hW) (rg_pass hW) eL_law_992 (fun z hz hf => ?_)
  exact am_if_eq hz eL_law_993 (fun _ => am_goto eL_law_998 fin) (fun c => absurd (hf.mpr rfl) c)
set_option maxRecDepth 100000 in
set_option maxHeartbeats 4000000 in
theorem law_c12 {HH : List (Nat × Nat × Nat × Nat)} {G : am_G} {X : am_X} {Q : State → Prop} {σ : sg_S} {j : Nat} {iv : Int} {kc nc : Nat} (hR : sg_R j σ) (hj : j < 512) (hi : iv = 5 * (j : Int)) (hL1 : iv + 4 < (G.2.2.2.2.2.2.1 : Int)) (hL : G.2.2.2.2.2.2.1 ≤ 2560) (hk : kc ≤ 100 + 20 * j + 2 * (σ 51 0).toNat) (hn : nc ≤ 50000 + 2400 * j + 66 * (σ 51 0).toNat)
    (kk : ∀ (σ' : sg_S) (l5 l6 : Option am_AV) (kc' nc' : Nat), sg_R (j + 1) σ' → kc' ≤ 100 + 20 * (j + 1) + 2 * (σ' 51 0).toNat → nc' ≤ 50000 + 2400 * (j + 1) + 66 * (σ' 51 0).toNat → am_W G X (mLh HH) 11 601024 7293034 Q 2080 (lwL iv l5 l6) [] (en_h σ' σ') kc' nc') : am_W G X (mLh HH) 11 601024 7293034 Q 1001 (lwL iv none none) [] (en_h σ σ) kc nc := by
  obtain ⟨hW, hT, h16, hJ⟩ := id hR
  obtain ⟨hP, hD, hB, hF, hU, hV, hN, h52⟩ := id hJ
  have h51 : 0 ≤ σ 51 0 := hD.1.1
  have hle := si_le hP
  have hR1 : sg_R (j + 1) (sp_minute σ) := sr_minute hR
  have h51a : (sp_minute σ) 51 0 = σ 51 0 := by
    unfold sp_minute
    (repeat' split) <;> simp [st]
  have hMC : ∀ f j, f < 43 → (sp_minute σ) f j = (sp_minute σ) f j := fun _ _ _ => rfl
  have hWM : md_wb 110000 (sp_minute σ) := wb_of hR1.1 hMC
  have fin : am_W G X (mLh HH) 11 601024 7293034 Q 2080 (lwL iv none none) [] (en_h (sp_minute σ) (sp_minute σ)) kc nc := kk (sp_minute σ) _ _ _ _ hR1 (by rw [h51a]; omega) (by rw [h51a]; omega)
  refine am_aload_n eL_law_1001 rfl ?_
  refine am_cV eL_law_1002 kL_150 (c_X8_minute (m := σ) (x := σ) hW) rfl rfl en_c8 (by decide) (by decide) (Nat.le_of_ble_eq_true rfl) (by omega) (by omega) ?_
  refine am_aload_n eL_law_1005 rfl ?_
  refine am_cV eL_law_1006 kL_153 (c_X9_minute (m := σ) (x := sp_minute σ) hW) rfl rfl en_9 (by decide) (by decide) (Nat.le_of_ble_eq_true rfl) (by omega) (by omega) ?_
  exact am_icmp_eq (rg_minute hW) (rg_minute hW) eL_law_1009 (fun _ => fin) (fun z => absurd rfl z)
set_option maxRecDepth 100000 in
set_option maxHeartbeats 4000000 in
theorem law_c13 {HH : List (Nat × Nat × Nat × Nat)} {G : am_G} {X : am_X} {Q : State → Prop} {σ : sg_S} {j : Nat} {iv : Int} {kc nc : Nat} (hR : sg_R j σ) (hj : j < 512) (hi : iv = 5 * (j : Int)) (hL1 : iv + 4 < (G.2.2.2.2.2.2.1 : Int)) (hL : G.2.2.2.2.2.2.1 ≤ 2560) (hk : kc ≤ 100 + 20 * j + 2 * (σ 51 0).toNat) (hn : nc ≤ 50000 + 2400 * j + 66 * (σ 51 0).toNat)
    (kk : ∀ (σ' : sg_S) (l5 l6 : Option am_AV) (kc' nc' : Nat), sg_R (j + 1) σ' → kc' ≤ 100 + 20 * (j + 1) + 2 * (σ' 51 0).toNat → nc' ≤ 50000 + 2400 * (j + 1) + 66 * (σ' 51 0).toNat → am_W G X (mLh HH) 11 601024 7293034 Q 2080 (lwL iv l5 l6) [] (en_h σ' σ') kc' nc') : am_W G X (mLh HH) 11 601024 7293034 Q 1014 (lwL iv none none) [] (en_h σ σ) kc nc := by
  obtain ⟨hW, hT, h16, hJ⟩ := id hR
  obtain ⟨hP, hD, hB, hF, hU, hV, hN, h52⟩ := id hJ
  have h51 : 0 ≤ σ 51 0 := hD.1.1
  have hle := si_le hP
  have hR1 : sg_R (j + 1) (sp_towers σ) := sr_towers hR
  have h51a : (sp_towers σ) 51 0 = σ 51 0 := by
    unfold sp_towers
    (repeat' split) <;> simp [st]
  have hMC : ∀ f j, f < 43 → (sp_towers σ) f j = (sp_towers σ) f j := fun _ _ _ => rfl
  have hWM : md_wb 110000 (sp_towers σ) := wb_of hR1.1 hMC
  have fin : am_W G X (mLh HH) 11 601024 7293034 Q 2080 (lwL iv none none) [] (en_h (sp_towers σ) (sp_towers σ)) kc nc := kk (sp_towers σ) _ _ _ _ hR1 (by rw [h51a]; omega) (by rw [h51a]; omega)
  refine am_aload_n eL_law_1014 rfl ?_
  refine am_cV eL_law_1015 kL_154 (c_X8_towers (m := σ) (x := σ) hW) rfl rfl en_c8 (by decide) (by decide) (Nat.le_of_ble_eq_true rfl) (by omega) (by omega) ?_
  refine am_aload_n eL_law_1018 rfl ?_
  refine am_cV eL_law_1019 kL_157 (c_X9_towers (m := σ) (x := sp_towers σ) hW) rfl rfl en_9 (by decide) (by decide) (Nat.le_of_ble_eq_true rfl) (by omega) (by omega) ?_
  exact am_icmp_eq (rg_towers hW) (rg_towers hW) eL_law_1022 (fun _ => fin) (fun z => absurd rfl z)
set_option maxRecDepth 100000 in
set_option maxHeartbeats 4000000 in
theorem law_c14 {HH : List (Nat × Nat × Nat × Nat)} {G : am_G} {X : am_X} {Q : State → Prop} {σ : sg_S} {j : Nat} {iv : Int} {kc nc : Nat} (hR : sg_R j σ) (hj : j < 512) (hi : iv = 5 * (j : Int)) (hL1 : iv + 4 < (G.2.2.2.2.2.2.1 : Int)) (hL : G.2.2.2.2.2.2.1 ≤ 2560) (hk : kc ≤ 100 + 20 * j + 2 * (σ 51 0).toNat) (hn : nc ≤ 50000 + 2400 * j + 66 * (σ 51 0).toNat)
    (kk : ∀ (σ' : sg_S) (l5 l6 : Option am_AV) (kc' nc' : Nat), sg_R (j + 1) σ' → kc' ≤ 100 + 20 * (j + 1) + 2 * (σ' 51 0).toNat → nc' ≤ 50000 + 2400 * (j + 1) + 66 * (σ' 51 0).toNat → am_W G X (mLh HH) 11 601024 7293034 Q 2080 (lwL iv l5 l6) [] (en_h σ' σ') kc' nc') : am_W G X (mLh HH) 11 601024 7293034 Q 1027 (lwL iv none none) [] (en_h σ σ) kc nc := by
  obtain ⟨hW, hT, h16, hJ⟩ := id hR
  obtain ⟨hP, hD, hB, hF, hU, hV, hN, h52⟩ := id hJ
  have h51 : 0 ≤ σ 51 0 := hD.1.1
  have hle := si_le hP
  obtain ⟨a1, e1⟩ : ∃ z, z = (G.2.2.2.2.2.2.2 (iv + 1).toNat).toInt := ⟨_, rfl⟩
  have r1 : -2147483648 ≤ a1 ∧ a1 < 2147483648 := by rw [e1]; exact xs_r _
  have hR1 : sg_R (j + 1) (sp_sees σ a1) := sr_sees hR
  have h51a : (sp_sees σ a1) 51 0 = σ 51 0 := by
    unfold sp_sees
    (repeat' split) <;> simp [st]
  have hMC : ∀ f j, f < 43 → (sp_sees σ a1) f j = (sp_sees σ a1) f j := fun _ _ _ => rfl
  have hWM : md_wb 110000 (sp_sees σ a1) := wb_of hR1.1 hMC
  obtain ⟨S, hS⟩ : ∃ S, S = sp_sees σ a1 := ⟨_, rfl⟩
  have hMS : ∀ f j, f < 43 → (sp_sees σ a1) f j = S f j := fun f j hf => (hMC f j hf).trans (by rw [hS])
  rw [← hS] at hR1 h51a
  have h00 : (sp_sees σ a1) 0 0 = S 0 0 := hMS 0 0 (by decide)
  have w0 := wb0 hWM 0
  rw [h00] at w0
  have fin : am_W G X (mLh HH) 11 601024 7293034 Q 2080 (lwL iv (some (am_I (S 0 0))) (some (am_I (an_sees σ a1)))) [] (en_h (sp_sees σ a1) (lx_w S (an_sees σ a1))) (kc + 4) (nc + 24) := by
    rw [en_m_ag (m := lx_w S (an_sees σ a1)) (fun f j hf => (hMS f j hf).trans (lx_lo (by omega)).symm)]
    exact kk (lx_w S (an_sees σ a1)) _ _ _ _ (sg_R_w hR1) (by rw [lx_lo (by decide)]; omega) (by rw [lx_lo (by decide)]; omega)
  refine am_aload_n eL_law_1027 rfl ?_
  refine lw_arg (a := a1) eL_law_1028 eL_law_1029 eL_law_1031 eL_law_1032 eL_law_1033 (by omega) (by omega) hL e1 ?_
  refine am_aload_n eL_law_1034 rfl ?_
  refine am_callSH (mc' := 4) (ms' := 24) eL_law_1035 kL_158 (c_L_sees (c := S) (by rw [hS]; exact c_X8_sees (m := σ) hW r1 hF) rg_sees) rfl rfl (by decide) (Nat.le_of_ble_eq_true rfl) (by simp) (by omega) (by omega) (fun r h' hq => ?_) (fun x h' hq => by obtain ⟨q1, -⟩ := hq; cases q1)
  obtain ⟨q1, rfl⟩ := hq
  cases q1
  refine am_steq (st' := [am_I (S 0 0)]) rfl ?_
  refine am_istore eL_law_1038 (Nat.le_of_ble_eq_true rfl) ?_
  refine am_lseq (ls' := lwL iv (some (am_I (S 0 0))) none) rfl ?_
  refine am_aload_n eL_law_1040 rfl ?_
  refine lw_arg (a := a1) eL_law_1041 eL_law_1042 eL_law_1044 eL_law_1045 eL_law_1046 (by omega) (by omega) hL e1 ?_
  refine am_cV eL_law_1047 kL_160 (c_X9_sees (m := σ) (x := lx_w S (an_sees σ a1)) hW r1 hF) rfl rfl en_9 (by decide) (by decide) (Nat.le_of_ble_eq_true rfl) (by omega) (by omega) ?_
  refine am_istore eL_law_1050 (Nat.le_of_ble_eq_true rfl) ?_
  refine am_lseq (ls' := lwL iv (some (am_I (S 0 0))) (some (am_I (an_sees σ a1)))) rfl ?_
  refine am_aload_n eL_law_1052 rfl ?_
  refine am_cV eL_law_1053 kL_107 (c_X9_thrown (m := sp_sees σ a1) (x := lx_w S (an_sees σ a1)) hWM) rfl rfl en_9 (by decide) (by decide) (Nat.le_of_ble_eq_true rfl) (by omega) (by omega) ?_
  refine am_iload eL_law_1056 rfl ?_
  refine am_topI_ h00 ?_
  refine am_icmp_eq ⟨by omega, by omega⟩ ⟨by omega, by omega⟩ eL_law_1058 (fun _ => ?_) (fun z => absurd rfl z)
  refine am_iload eL_law_1063 rfl ?_
  refine am_if_ne ⟨by omega, by omega⟩ eL_law_1065 (fun _ => am_goto eL_law_1087 fin) (fun c1 => ?_)
  refine am_aload_n eL_law_1068 rfl ?_
  refine am_iconst eL_law_1069 ?_
  refine am_lald (len := 1) (x := (an_sees σ a1)) eL_law_1070 en_98 (by decide) (by decide) (by decide) (congrArg am_J (lx_at c1)) ?_
  refine am_iload eL_law_1071 rfl ?_
  rcases rg_sees (σ := σ) (s := a1) with q | q
  · rw [q] at fin ⊢
    refine am_if_eq ⟨by decide, by decide⟩ eL_law_1073 (fun _ => ?_) (fun z => absurd rfl z)
    refine am_lconst (x := 0) eL_law_1080 ?_
    refine am_steq (st' := am_J 0 :: _) rfl ?_
    refine am_lcmp ⟨by decide, by decide⟩ ⟨by decide, by decide⟩ eL_law_1081 (fun z hz hf => ?_)
    exact am_if_eq hz eL_law_1082 (fun _ => am_goto eL_law_1087 fin) (fun c => absurd (hf.mpr rfl) c)
  · rw [q] at fin ⊢
    refine am_if_eq ⟨by decide, by decide⟩ eL_law_1073 (fun z => absurd z (by decide)) (fun _ => ?_)
    refine am_lconst (x := 1) eL_law_1076 ?_
    refine am_steq (st' := am_J 1 :: _) rfl ?_
    refine am_goto eL_law_1077 ?_
    refine am_lcmp ⟨by decide, by decide⟩ ⟨by decide, by decide⟩ eL_law_1081 (fun z hz hf => ?_)
    exact am_if_eq hz eL_law_1082 (fun _ => am_goto eL_law_1087 fin) (fun c => absurd (hf.mpr rfl) c)
set_option maxRecDepth 100000 in
set_option maxHeartbeats 4000000 in
theorem law_c15 {HH : List (Nat × Nat × Nat × Nat)} {G : am_G} {X : am_X} {Q : State → Prop} {σ : sg_S} {j : Nat} {iv : Int} {kc nc : Nat} (hR : sg_R j σ) (hj : j < 512) (hi : iv = 5 * (j : Int)) (hL1 : iv + 4 < (G.2.2.2.2.2.2.1 : Int)) (hL : G.2.2.2.2.2.2.1 ≤ 2560) (hk : kc ≤ 100 + 20 * j + 2 * (σ 51 0).toNat) (hn : nc ≤ 50000 + 2400 * j + 66 * (σ 51 0).toNat)
    (kk : ∀ (σ' : sg_S) (l5 l6 : Option am_AV) (kc' nc' : Nat), sg_R (j + 1) σ' → kc' ≤ 100 + 20 * (j + 1) + 2 * (σ' 51 0).toNat → nc' ≤ 50000 + 2400 * (j + 1) + 66 * (σ' 51 0).toNat → am_W G X (mLh HH) 11 601024 7293034 Q 2080 (lwL iv l5 l6) [] (en_h σ' σ') kc' nc') : am_W G X (mLh HH) 11 601024 7293034 Q 1090 (lwL iv none none) [] (en_h σ σ) kc nc := by
  obtain ⟨hW, hT, h16, hJ⟩ := id hR
  obtain ⟨hP, hD, hB, hF, hU, hV, hN, h52⟩ := id hJ
  have h51 : 0 ≤ σ 51 0 := hD.1.1
  have hle := si_le hP
  obtain ⟨a1, e1⟩ : ∃ z, z = (G.2.2.2.2.2.2.2 (iv + 1).toNat).toInt := ⟨_, rfl⟩
  have r1 : -2147483648 ≤ a1 ∧ a1 < 2147483648 := by rw [e1]; exact xs_r _
  obtain ⟨a2, e2⟩ : ∃ z, z = (G.2.2.2.2.2.2.2 (iv + 2).toNat).toInt := ⟨_, rfl⟩
  have r2 : -2147483648 ≤ a2 ∧ a2 < 2147483648 := by rw [e2]; exact xs_r _
  have b2 := lz_01 (v := a2)
  have hR1 : sg_R (j + 1) (sp_shows σ a1 (lz a2)) := sr_shows hR
  have h51a : (sp_shows σ a1 (lz a2)) 51 0 = σ 51 0 := by
    unfold sp_shows
    (repeat' split) <;> simp [st]
  have hMC : ∀ f j, f < 43 → (sp_shows σ a1 (lz a2)) f j = (sp_shows σ a1 (lz a2)) f j := fun _ _ _ => rfl
  have hWM : md_wb 110000 (sp_shows σ a1 (lz a2)) := wb_of hR1.1 hMC
  obtain ⟨S, hS⟩ : ∃ S, S = sp_shows σ a1 (lz a2) := ⟨_, rfl⟩
  have hMS : ∀ f j, f < 43 → (sp_shows σ a1 (lz a2)) f j = S f j := fun f j hf => (hMC f j hf).trans (by rw [hS])
  rw [← hS] at hR1 h51a
  have h00 : (sp_shows σ a1 (lz a2)) 0 0 = S 0 0 := hMS 0 0 (by decide)
  have w0 := wb0 hWM 0
  rw [h00] at w0
  have fin : am_W G X (mLh HH) 11 601024 7293034 Q 2080 (lwL iv (some (am_I (S 0 0))) (some (am_I (an_shows σ a1 (lz a2))))) [] (en_h (sp_shows σ a1 (lz a2)) (lx_w S (an_shows σ a1 (lz a2)))) (kc + 4) (nc + 24) := by
    rw [en_m_ag (m := lx_w S (an_shows σ a1 (lz a2))) (fun f j hf => (hMS f j hf).trans (lx_lo (by omega)).symm)]
    exact kk (lx_w S (an_shows σ a1 (lz a2))) _ _ _ _ (sg_R_w hR1) (by rw [lx_lo (by decide)]; omega) (by rw [lx_lo (by decide)]; omega)
  refine am_aload_n eL_law_1090 rfl ?_
  refine lw_arg (a := a1) eL_law_1091 eL_law_1092 eL_law_1094 eL_law_1095 eL_law_1096 (by omega) (by omega) hL e1 ?_
  refine lw_arg (a := a2) eL_law_1097 eL_law_1098 eL_law_1100 eL_law_1101 eL_law_1102 (by omega) (by omega) hL e2 ?_
  refine lw_bool eL_law_1103 eL_law_1106 eL_law_1107 eL_law_1110 r2 ?_
  refine am_aload_n eL_law_1111 rfl ?_
  refine am_callSH (mc' := 4) (ms' := 24) eL_law_1112 kL_161 (c_L_shows (c := S) (by rw [hS]; exact c_X8_shows (m := σ) hW r1 b2 h16) (rg_shows hW)) rfl rfl (by decide) (Nat.le_of_ble_eq_true rfl) (by simp) (by omega) (by omega) (fun r h' hq => ?_) (fun x h' hq => by obtain ⟨q1, -⟩ := hq; cases q1)
  obtain ⟨q1, rfl⟩ := hq
  cases q1
  refine am_steq (st' := [am_I (S 0 0)]) rfl ?_
  refine am_istore eL_law_1115 (Nat.le_of_ble_eq_true rfl) ?_
  refine am_lseq (ls' := lwL iv (some (am_I (S 0 0))) none) rfl ?_
  refine am_aload_n eL_law_1117 rfl ?_
  refine lw_arg (a := a1) eL_law_1118 eL_law_1119 eL_law_1121 eL_law_1122 eL_law_1123 (by omega) (by omega) hL e1 ?_
  refine lw_arg (a := a2) eL_law_1124 eL_law_1125 eL_law_1127 eL_law_1128 eL_law_1129 (by omega) (by omega) hL e2 ?_
  refine lw_bool eL_law_1130 eL_law_1133 eL_law_1134 eL_law_1137 r2 ?_
  refine am_cV eL_law_1138 kL_164 (c_X9_shows (m := σ) (x := lx_w S (an_shows σ a1 (lz a2))) hW r1 b2) rfl rfl en_9 (by decide) (by decide) (Nat.le_of_ble_eq_true rfl) (by omega) (by omega) ?_
  refine am_istore eL_law_1141 (Nat.le_of_ble_eq_true rfl) ?_
  refine am_lseq (ls' := lwL iv (some (am_I (S 0 0))) (some (am_I (an_shows σ a1 (lz a2))))) rfl ?_
  refine am_aload_n eL_law_1143 rfl ?_
  refine am_cV eL_law_1144 kL_107 (c_X9_thrown (m := sp_shows σ a1 (lz a2)) (x := lx_w S (an_shows σ a1 (lz a2))) hWM) rfl rfl en_9 (by decide) (by decide) (Nat.le_of_ble_eq_true rfl) (by omega) (by omega) ?_
  refine am_iload eL_law_1147 rfl ?_
  refine am_topI_ h00 ?_
  refine am_icmp_eq ⟨by omega, by omega⟩ ⟨by omega, by omega⟩ eL_law_1149 (fun _ => ?_) (fun z => absurd rfl z)
  refine am_iload eL_law_1154 rfl ?_
  refine am_if_ne ⟨by omega, by omega⟩ eL_law_1156 (fun _ => am_goto eL_law_1171 fin) (fun c1 => ?_)
  refine am_aload_n eL_law_1159 rfl ?_
  refine am_iconst eL_law_1160 ?_
  refine am_lald (len := 1) (x := (an_shows σ a1 (lz a2))) eL_law_1161 en_98 (by decide) (by decide) (by decide) (congrArg am_J (lx_at c1)) ?_
  refine am_iload eL_law_1162 rfl ?_
  refine am_i2l (rg_shows hW) eL_law_1164 ?_
  refine am_lcmp (rg_shows hW) (rg_shows hW) eL_law_1165 (fun z hz hf => ?_)
  exact am_if_eq hz eL_law_1166 (fun _ => am_goto eL_law_1171 fin) (fun c => absurd (hf.mpr rfl) c)
set_option maxRecDepth 100000 in
set_option maxHeartbeats 4000000 in
theorem law_c16 {HH : List (Nat × Nat × Nat × Nat)} {G : am_G} {X : am_X} {Q : State → Prop} {σ : sg_S} {j : Nat} {iv : Int} {kc nc : Nat} (hR : sg_R j σ) (hj : j < 512) (hi : iv = 5 * (j : Int)) (hL1 : iv + 4 < (G.2.2.2.2.2.2.1 : Int)) (hL : G.2.2.2.2.2.2.1 ≤ 2560) (hk : kc ≤ 100 + 20 * j + 2 * (σ 51 0).toNat) (hn : nc ≤ 50000 + 2400 * j + 66 * (σ 51 0).toNat)
    (kk : ∀ (σ' : sg_S) (l5 l6 : Option am_AV) (kc' nc' : Nat), sg_R (j + 1) σ' → kc' ≤ 100 + 20 * (j + 1) + 2 * (σ' 51 0).toNat → nc' ≤ 50000 + 2400 * (j + 1) + 66 * (σ' 51 0).toNat → am_W G X (mLh HH) 11 601024 7293034 Q 2080 (lwL iv l5 l6) [] (en_h σ' σ') kc' nc') : am_W G X (mLh HH) 11 601024 7293034 Q 1174 (lwL iv none none) [] (en_h σ σ) kc nc := by
  obtain ⟨hW, hT, h16, hJ⟩ := id hR
  obtain ⟨hP, hD, hB, hF, hU, hV, hN, h52⟩ := id hJ
  have h51 : 0 ≤ σ 51 0 := hD.1.1
  have hle := si_le hP
  obtain ⟨a1, e1⟩ : ∃ z, z = (G.2.2.2.2.2.2.2 (iv + 1).toNat).toInt := ⟨_, rfl⟩
  have r1 : -2147483648 ≤ a1 ∧ a1 < 2147483648 := by rw [e1]; exact xs_r _
  obtain ⟨a2, e2⟩ : ∃ z, z = (G.2.2.2.2.2.2.2 (iv + 2).toNat).toInt := ⟨_, rfl⟩
  have r2 : -2147483648 ≤ a2 ∧ a2 < 2147483648 := by rw [e2]; exact xs_r _
  have b2 := lz_01 (v := a2)
  obtain ⟨a3, e3⟩ : ∃ z, z = (G.2.2.2.2.2.2.2 (iv + 3).toNat).toInt := ⟨_, rfl⟩
  have r3 : -2147483648 ≤ a3 ∧ a3 < 2147483648 := by rw [e3]; exact xs_r _
  have hR1 : sg_R (j + 1) (sp_keeps σ a1 (lz a2) a3) := sr_keeps hR
  have h51a : (sp_keeps σ a1 (lz a2) a3) 51 0 = σ 51 0 := by
    unfold sp_keeps
    (repeat' split) <;> simp [st]
  have hMC : ∀ f j, f < 43 → (sp_keeps σ a1 (lz a2) a3) f j = (sp_keeps σ a1 (lz a2) a3) f j := fun _ _ _ => rfl
  have hWM : md_wb 110000 (sp_keeps σ a1 (lz a2) a3) := wb_of hR1.1 hMC
  obtain ⟨S, hS⟩ : ∃ S, S = sp_keeps σ a1 (lz a2) a3 := ⟨_, rfl⟩
  have hMS : ∀ f j, f < 43 → (sp_keeps σ a1 (lz a2) a3) f j = S f j := fun f j hf => (hMC f j hf).trans (by rw [hS])
  rw [← hS] at hR1 h51a
  have h00 : (sp_keeps σ a1 (lz a2) a3) 0 0 = S 0 0 := hMS 0 0 (by decide)
  have w0 := wb0 hWM 0
  rw [h00] at w0
  have fin : am_W G X (mLh HH) 11 601024 7293034 Q 2080 (lwL iv (some (am_I (S 0 0))) (some (am_I (an_keeps σ a1 (lz a2) a3)))) [] (en_h (sp_keeps σ a1 (lz a2) a3) (lx_w S (an_keeps σ a1 (lz a2) a3))) (kc + 4) (nc + 24) := by
    rw [en_m_ag (m := lx_w S (an_keeps σ a1 (lz a2) a3)) (fun f j hf => (hMS f j hf).trans (lx_lo (by omega)).symm)]
    exact kk (lx_w S (an_keeps σ a1 (lz a2) a3)) _ _ _ _ (sg_R_w hR1) (by rw [lx_lo (by decide)]; omega) (by rw [lx_lo (by decide)]; omega)
  refine am_aload_n eL_law_1174 rfl ?_
  refine lw_arg (a := a1) eL_law_1175 eL_law_1176 eL_law_1178 eL_law_1179 eL_law_1180 (by omega) (by omega) hL e1 ?_
  refine lw_arg (a := a2) eL_law_1181 eL_law_1182 eL_law_1184 eL_law_1185 eL_law_1186 (by omega) (by omega) hL e2 ?_
  refine lw_bool eL_law_1187 eL_law_1190 eL_law_1191 eL_law_1194 r2 ?_
  refine lw_arg (a := a3) eL_law_1195 eL_law_1196 eL_law_1198 eL_law_1199 eL_law_1200 (by omega) (by omega) hL e3 ?_
  refine am_aload_n eL_law_1201 rfl ?_
  refine am_callSH (mc' := 4) (ms' := 24) eL_law_1202 kL_165 (c_L_keeps (c := S) (by rw [hS]; exact c_X8_keeps (m := σ) hW r1 r3 b2) (rg_keeps hW)) rfl rfl (by decide) (Nat.le_of_ble_eq_true rfl) (by simp) (by omega) (by omega) (fun r h' hq => ?_) (fun x h' hq => by obtain ⟨q1, -⟩ := hq; cases q1)
  obtain ⟨q1, rfl⟩ := hq
  cases q1
  refine am_steq (st' := [am_I (S 0 0)]) rfl ?_
  refine am_istore eL_law_1205 (Nat.le_of_ble_eq_true rfl) ?_
  refine am_lseq (ls' := lwL iv (some (am_I (S 0 0))) none) rfl ?_
  refine am_aload_n eL_law_1207 rfl ?_
  refine lw_arg (a := a1) eL_law_1208 eL_law_1209 eL_law_1211 eL_law_1212 eL_law_1213 (by omega) (by omega) hL e1 ?_
  refine lw_arg (a := a2) eL_law_1214 eL_law_1215 eL_law_1217 eL_law_1218 eL_law_1219 (by omega) (by omega) hL e2 ?_
  refine lw_bool eL_law_1220 eL_law_1223 eL_law_1224 eL_law_1227 r2 ?_
  refine lw_arg (a := a3) eL_law_1228 eL_law_1229 eL_law_1231 eL_law_1232 eL_law_1233 (by omega) (by omega) hL e3 ?_
  refine am_cV eL_law_1234 kL_168 (c_X9_keeps (m := σ) (x := lx_w S (an_keeps σ a1 (lz a2) a3)) hW r1 r3 b2) rfl rfl en_9 (by decide) (by decide) (Nat.le_of_ble_eq_true rfl) (by omega) (by omega) ?_
  refine am_istore eL_law_1237 (Nat.le_of_ble_eq_true rfl) ?_
  refine am_lseq (ls' := lwL iv (some (am_I (S 0 0))) (some (am_I (an_keeps σ a1 (lz a2) a3)))) rfl ?_
  refine am_aload_n eL_law_1239 rfl ?_
  refine am_cV eL_law_1240 kL_107 (c_X9_thrown (m := sp_keeps σ a1 (lz a2) a3) (x := lx_w S (an_keeps σ a1 (lz a2) a3)) hWM) rfl rfl en_9 (by decide) (by decide) (Nat.le_of_ble_eq_true rfl) (by omega) (by omega) ?_
  refine am_iload eL_law_1243 rfl ?_
  refine am_topI_ h00 ?_
  refine am_icmp_eq ⟨by omega, by omega⟩ ⟨by omega, by omega⟩ eL_law_1245 (fun _ => ?_) (fun z => absurd rfl z)
  refine am_iload eL_law_1250 rfl ?_
  refine am_if_ne ⟨by omega, by omega⟩ eL_law_1252 (fun _ => am_goto eL_law_1267 fin) (fun c1 => ?_)
  refine am_aload_n eL_law_1255 rfl ?_
  refine am_iconst eL_law_1256 ?_
  refine am_lald (len := 1) (x := (an_keeps σ a1 (lz a2) a3)) eL_law_1257 en_98 (by decide) (by decide) (by decide) (congrArg am_J (lx_at c1)) ?_
  refine am_iload eL_law_1258 rfl ?_
  refine am_i2l (rg_keeps hW) eL_law_1260 ?_
  refine am_lcmp (rg_keeps hW) (rg_keeps hW) eL_law_1261 (fun z hz hf => ?_)
  exact am_if_eq hz eL_law_1262 (fun _ => am_goto eL_law_1267 fin) (fun c => absurd (hf.mpr rfl) c)
set_option maxRecDepth 100000 in
set_option maxHeartbeats 4000000 in
theorem law_c17 {HH : List (Nat × Nat × Nat × Nat)} {G : am_G} {X : am_X} {Q : State → Prop} {σ : sg_S} {j : Nat} {iv : Int} {kc nc : Nat} (hR : sg_R j σ) (hj : j < 512) (hi : iv = 5 * (j : Int)) (hL1 : iv + 4 < (G.2.2.2.2.2.2.1 : Int)) (hL : G.2.2.2.2.2.2.1 ≤ 2560) (hk : kc ≤ 100 + 20 * j + 2 * (σ 51 0).toNat) (hn : nc ≤ 50000 + 2400 * j + 66 * (σ 51 0).toNat)
    (kk : ∀ (σ' : sg_S) (l5 l6 : Option am_AV) (kc' nc' : Nat), sg_R (j + 1) σ' → kc' ≤ 100 + 20 * (j + 1) + 2 * (σ' 51 0).toNat → nc' ≤ 50000 + 2400 * (j + 1) + 66 * (σ' 51 0).toNat → am_W G X (mLh HH) 11 601024 7293034 Q 2080 (lwL iv l5 l6) [] (en_h σ' σ') kc' nc') : am_W G X (mLh HH) 11 601024 7293034 Q 1270 (lwL iv none none) [] (en_h σ σ) kc nc := by
  obtain ⟨hW, hT, h16, hJ⟩ := id hR
  obtain ⟨hP, hD, hB, hF, hU, hV, hN, h52⟩ := id hJ
  have h51 : 0 ≤ σ 51 0 := hD.1.1
  have hle := si_le hP
  obtain ⟨a1, e1⟩ : ∃ z, z = (G.2.2.2.2.2.2.2 (iv + 1).toNat).toInt := ⟨_, rfl⟩
  have r1 : -2147483648 ≤ a1 ∧ a1 < 2147483648 := by rw [e1]; exact xs_r _
  obtain ⟨a2, e2⟩ : ∃ z, z = (G.2.2.2.2.2.2.2 (iv + 2).toNat).toInt := ⟨_, rfl⟩
  have r2 : -2147483648 ≤ a2 ∧ a2 < 2147483648 := by rw [e2]; exact xs_r _
  have b2 := lz_01 (v := a2)
  have hR1 : sg_R (j + 1) (sp_logs σ a1 (lz a2)) := sr_logs hR
  have h51a : (sp_logs σ a1 (lz a2)) 51 0 = σ 51 0 := by
    unfold sp_logs
    (repeat' split) <;> simp [st]
  have hMC : ∀ f j, f < 43 → (sp_logs σ a1 (lz a2)) f j = (sp_logs σ a1 (lz a2)) f j := fun _ _ _ => rfl
  have hWM : md_wb 110000 (sp_logs σ a1 (lz a2)) := wb_of hR1.1 hMC
  obtain ⟨S, hS⟩ : ∃ S, S = sp_logs σ a1 (lz a2) := ⟨_, rfl⟩
  have hMS : ∀ f j, f < 43 → (sp_logs σ a1 (lz a2)) f j = S f j := fun f j hf => (hMC f j hf).trans (by rw [hS])
  rw [← hS] at hR1 h51a
  have h00 : (sp_logs σ a1 (lz a2)) 0 0 = S 0 0 := hMS 0 0 (by decide)
  have w0 := wb0 hWM 0
  rw [h00] at w0
  have fin : am_W G X (mLh HH) 11 601024 7293034 Q 2080 (lwL iv (some (am_I (S 0 0))) (some (am_I (an_logs σ a1 (lz a2))))) [] (en_h (sp_logs σ a1 (lz a2)) (lx_w S (an_logs σ a1 (lz a2)))) (kc + 4) (nc + 24) := by
    rw [en_m_ag (m := lx_w S (an_logs σ a1 (lz a2))) (fun f j hf => (hMS f j hf).trans (lx_lo (by omega)).symm)]
    exact kk (lx_w S (an_logs σ a1 (lz a2))) _ _ _ _ (sg_R_w hR1) (by rw [lx_lo (by decide)]; omega) (by rw [lx_lo (by decide)]; omega)
  refine am_aload_n eL_law_1270 rfl ?_
  refine lw_arg (a := a1) eL_law_1271 eL_law_1272 eL_law_1274 eL_law_1275 eL_law_1276 (by omega) (by omega) hL e1 ?_
  refine lw_arg (a := a2) eL_law_1277 eL_law_1278 eL_law_1280 eL_law_1281 eL_law_1282 (by omega) (by omega) hL e2 ?_
  refine lw_bool eL_law_1283 eL_law_1286 eL_law_1287 eL_law_1290 r2 ?_
  refine am_aload_n eL_law_1291 rfl ?_
  refine am_callSH (mc' := 4) (ms' := 24) eL_law_1292 kL_169 (c_L_logs (c := S) (by rw [hS]; exact c_X8_logs (m := σ) hW r1 b2) (rg_logs hW)) rfl rfl (by decide) (Nat.le_of_ble_eq_true rfl) (by simp) (by omega) (by omega) (fun r h' hq => ?_) (fun x h' hq => by obtain ⟨q1, -⟩ := hq; cases q1)
  obtain ⟨q1, rfl⟩ := hq
  cases q1
  refine am_steq (st' := [am_I (S 0 0)]) rfl ?_
  refine am_istore eL_law_1295 (Nat.le_of_ble_eq_true rfl) ?_
  refine am_lseq (ls' := lwL iv (some (am_I (S 0 0))) none) rfl ?_
  refine am_aload_n eL_law_1297 rfl ?_
  refine lw_arg (a := a1) eL_law_1298 eL_law_1299 eL_law_1301 eL_law_1302 eL_law_1303 (by omega) (by omega) hL e1 ?_
  refine lw_arg (a := a2) eL_law_1304 eL_law_1305 eL_law_1307 eL_law_1308 eL_law_1309 (by omega) (by omega) hL e2 ?_
  refine lw_bool eL_law_1310 eL_law_1313 eL_law_1314 eL_law_1317 r2 ?_
  refine am_cV eL_law_1318 kL_171 (c_X9_logs (m := σ) (x := lx_w S (an_logs σ a1 (lz a2))) hW r1 b2) rfl rfl en_9 (by decide) (by decide) (Nat.le_of_ble_eq_true rfl) (by omega) (by omega) ?_
  refine am_istore eL_law_1321 (Nat.le_of_ble_eq_true rfl) ?_
  refine am_lseq (ls' := lwL iv (some (am_I (S 0 0))) (some (am_I (an_logs σ a1 (lz a2))))) rfl ?_
  refine am_aload_n eL_law_1323 rfl ?_
  refine am_cV eL_law_1324 kL_107 (c_X9_thrown (m := sp_logs σ a1 (lz a2)) (x := lx_w S (an_logs σ a1 (lz a2))) hWM) rfl rfl en_9 (by decide) (by decide) (Nat.le_of_ble_eq_true rfl) (by omega) (by omega) ?_
  refine am_iload eL_law_1327 rfl ?_
  refine am_topI_ h00 ?_
  refine am_icmp_eq ⟨by omega, by omega⟩ ⟨by omega, by omega⟩ eL_law_1329 (fun _ => ?_) (fun z => absurd rfl z)
  refine am_iload eL_law_1334 rfl ?_
  refine am_if_ne ⟨by omega, by omega⟩ eL_law_1336 (fun _ => am_goto eL_law_1351 fin) (fun c1 => ?_)
  refine am_aload_n eL_law_1339 rfl ?_
  refine am_iconst eL_law_1340 ?_
  refine am_lald (len := 1) (x := (an_logs σ a1 (lz a2))) eL_law_1341 en_98 (by decide) (by decide) (by decide) (congrArg am_J (lx_at c1)) ?_
  refine am_iload eL_law_1342 rfl ?_
  refine am_i2l (rg_logs hW) eL_law_1344 ?_
  refine am_lcmp (rg_logs hW) (rg_logs hW) eL_law_1345 (fun z hz hf => ?_)
  exact am_if_eq hz eL_law_1346 (fun _ => am_goto eL_law_1351 fin) (fun c => absurd (hf.mpr rfl) c)
set_option maxRecDepth 100000 in
set_option maxHeartbeats 4000000 in
theorem law_c18 {HH : List (Nat × Nat × Nat × Nat)} {G : am_G} {X : am_X} {Q : State → Prop} {σ : sg_S} {j : Nat} {iv : Int} {kc nc : Nat} (hR : sg_R j σ) (hj : j < 512) (hi : iv = 5 * (j : Int)) (hL1 : iv + 4 < (G.2.2.2.2.2.2.1 : Int)) (hL : G.2.2.2.2.2.2.1 ≤ 2560) (hk : kc ≤ 100 + 20 * j + 2 * (σ 51 0).toNat) (hn : nc ≤ 50000 + 2400 * j + 66 * (σ 51 0).toNat)
    (kk : ∀ (σ' : sg_S) (l5 l6 : Option am_AV) (kc' nc' : Nat), sg_R (j + 1) σ' → kc' ≤ 100 + 20 * (j + 1) + 2 * (σ' 51 0).toNat → nc' ≤ 50000 + 2400 * (j + 1) + 66 * (σ' 51 0).toNat → am_W G X (mLh HH) 11 601024 7293034 Q 2080 (lwL iv l5 l6) [] (en_h σ' σ') kc' nc') : am_W G X (mLh HH) 11 601024 7293034 Q 1354 (lwL iv none none) [] (en_h σ σ) kc nc := by
  obtain ⟨hW, hT, h16, hJ⟩ := id hR
  obtain ⟨hP, hD, hB, hF, hU, hV, hN, h52⟩ := id hJ
  have h51 : 0 ≤ σ 51 0 := hD.1.1
  have hle := si_le hP
  obtain ⟨a1, e1⟩ : ∃ z, z = (G.2.2.2.2.2.2.2 (iv + 1).toNat).toInt := ⟨_, rfl⟩
  have r1 : -2147483648 ≤ a1 ∧ a1 < 2147483648 := by rw [e1]; exact xs_r _
  obtain ⟨a2, e2⟩ : ∃ z, z = (G.2.2.2.2.2.2.2 (iv + 2).toNat).toInt := ⟨_, rfl⟩
  have r2 : -2147483648 ≤ a2 ∧ a2 < 2147483648 := by rw [e2]; exact xs_r _
  have b2 := lz_01 (v := a2)
  obtain ⟨a3, e3⟩ : ∃ z, z = (G.2.2.2.2.2.2.2 (iv + 3).toNat).toInt := ⟨_, rfl⟩
  have r3 : -2147483648 ≤ a3 ∧ a3 < 2147483648 := by rw [e3]; exact xs_r _
  obtain ⟨a4, e4⟩ : ∃ z, z = (G.2.2.2.2.2.2.2 (iv + 4).toNat).toInt := ⟨_, rfl⟩
  have r4 : -2147483648 ≤ a4 ∧ a4 < 2147483648 := by rw [e4]; exact xs_r _
  have hR1 : sg_R (j + 1) (sp_log σ a1 (lz a2) a3 a4) := sr_log hR
  have h51a : (sp_log σ a1 (lz a2) a3 a4) 51 0 = σ 51 0 := by
    unfold sp_log
    (repeat' split) <;> simp [st]
  have hMC : ∀ f j, f < 43 → (sp_log σ a1 (lz a2) a3 a4) f j = (sp_log σ a1 (lz a2) a3 a4) f j := fun _ _ _ => rfl
  have hWM : md_wb 110000 (sp_log σ a1 (lz a2) a3 a4) := wb_of hR1.1 hMC
  obtain ⟨S, hS⟩ : ∃ S, S = sp_log σ a1 (lz a2) a3 a4 := ⟨_, rfl⟩
  have hMS : ∀ f j, f < 43 → (sp_log σ a1 (lz a2) a3 a4) f j = S f j := fun f j hf => (hMC f j hf).trans (by rw [hS])
  rw [← hS] at hR1 h51a
  have h00 : (sp_log σ a1 (lz a2) a3 a4) 0 0 = S 0 0 := hMS 0 0 (by decide)
  have w0 := wb0 hWM 0
  rw [h00] at w0
  have fin : am_W G X (mLh HH) 11 601024 7293034 Q 2080 (lwL iv (some (am_I (S 0 0))) (some (am_I (an_log σ a1 (lz a2) a3 a4)))) [] (en_h (sp_log σ a1 (lz a2) a3 a4) (lx_w S (an_log σ a1 (lz a2) a3 a4))) (kc + 4) (nc + 24) := by
    rw [en_m_ag (m := lx_w S (an_log σ a1 (lz a2) a3 a4)) (fun f j hf => (hMS f j hf).trans (lx_lo (by omega)).symm)]
    exact kk (lx_w S (an_log σ a1 (lz a2) a3 a4)) _ _ _ _ (sg_R_w hR1) (by rw [lx_lo (by decide)]; omega) (by rw [lx_lo (by decide)]; omega)
  refine am_aload_n eL_law_1354 rfl ?_
  refine lw_arg (a := a1) eL_law_1355 eL_law_1356 eL_law_1358 eL_law_1359 eL_law_1360 (by omega) (by omega) hL e1 ?_
  refine lw_arg (a := a2) eL_law_1361 eL_law_1362 eL_law_1364 eL_law_1365 eL_law_1366 (by omega) (by omega) hL e2 ?_
  refine lw_bool eL_law_1367 eL_law_1370 eL_law_1371 eL_law_1374 r2 ?_
  refine lw_arg (a := a3) eL_law_1375 eL_law_1376 eL_law_1378 eL_law_1379 eL_law_1380 (by omega) (by omega) hL e3 ?_
  refine lw_arg (a := a4) eL_law_1381 eL_law_1382 eL_law_1384 eL_law_1385 eL_law_1386 (by omega) (by omega) hL e4 ?_
  refine am_aload_n eL_law_1387 rfl ?_
  refine am_callSH (mc' := 4) (ms' := 24) eL_law_1388 kL_172 (c_L_log (c := S) (by rw [hS]; exact c_X8_log (m := σ) hW r1 r3 r4 b2) (rg_log hW)) rfl rfl (by decide) (Nat.le_of_ble_eq_true rfl) (by simp) (by omega) (by omega) (fun r h' hq => ?_) (fun x h' hq => by obtain ⟨q1, -⟩ := hq; cases q1)
  obtain ⟨q1, rfl⟩ := hq
  cases q1
  refine am_steq (st' := [am_I (S 0 0)]) rfl ?_
  refine am_istore eL_law_1391 (Nat.le_of_ble_eq_true rfl) ?_
  refine am_lseq (ls' := lwL iv (some (am_I (S 0 0))) none) rfl ?_
  refine am_aload_n eL_law_1393 rfl ?_
  refine lw_arg (a := a1) eL_law_1394 eL_law_1395 eL_law_1397 eL_law_1398 eL_law_1399 (by omega) (by omega) hL e1 ?_
  refine lw_arg (a := a2) eL_law_1400 eL_law_1401 eL_law_1403 eL_law_1404 eL_law_1405 (by omega) (by omega) hL e2 ?_
  refine lw_bool eL_law_1406 eL_law_1409 eL_law_1410 eL_law_1413 r2 ?_
  refine lw_arg (a := a3) eL_law_1414 eL_law_1415 eL_law_1417 eL_law_1418 eL_law_1419 (by omega) (by omega) hL e3 ?_
  refine lw_arg (a := a4) eL_law_1420 eL_law_1421 eL_law_1423 eL_law_1424 eL_law_1425 (by omega) (by omega) hL e4 ?_
  refine am_cV eL_law_1426 kL_175 (c_X9_log (m := σ) (x := lx_w S (an_log σ a1 (lz a2) a3 a4)) hW r1 r3 r4 b2) rfl rfl en_9 (by decide) (by decide) (Nat.le_of_ble_eq_true rfl) (by omega) (by omega) ?_
  refine am_istore eL_law_1429 (Nat.le_of_ble_eq_true rfl) ?_
  refine am_lseq (ls' := lwL iv (some (am_I (S 0 0))) (some (am_I (an_log σ a1 (lz a2) a3 a4)))) rfl ?_
  refine am_aload_n eL_law_1431 rfl ?_
  refine am_cV eL_law_1432 kL_107 (c_X9_thrown (m := sp_log σ a1 (lz a2) a3 a4) (x := lx_w S (an_log σ a1 (lz a2) a3 a4)) hWM) rfl rfl en_9 (by decide) (by decide) (Nat.le_of_ble_eq_true rfl) (by omega) (by omega) ?_
  refine am_iload eL_law_1435 rfl ?_
  refine am_topI_ h00 ?_
  refine am_icmp_eq ⟨by omega, by omega⟩ ⟨by omega, by omega⟩ eL_law_1437 (fun _ => ?_) (fun z => absurd rfl z)
  refine am_iload eL_law_1442 rfl ?_
  refine am_if_ne ⟨by omega, by omega⟩ eL_law_1444 (fun _ => am_goto eL_law_1459 fin) (fun c1 => ?_)
  refine am_aload_n eL_law_1447 rfl ?_
  refine am_iconst eL_law_1448 ?_
  refine am_lald (len := 1) (x := (an_log σ a1 (lz a2) a3 a4)) eL_law_1449 en_98 (by decide) (by decide) (by decide) (congrArg am_J (lx_at c1)) ?_
  refine am_iload eL_law_1450 rfl ?_
  refine am_i2l (rg_log hW) eL_law_1452 ?_
  refine am_lcmp (rg_log hW) (rg_log hW) eL_law_1453 (fun z hz hf => ?_)
  exact am_if_eq hz eL_law_1454 (fun _ => am_goto eL_law_1459 fin) (fun c => absurd (hf.mpr rfl) c)
set_option maxRecDepth 100000 in
set_option maxHeartbeats 4000000 in
theorem law_c19 {HH : List (Nat × Nat × Nat × Nat)} {G : am_G} {X : am_X} {Q : State → Prop} {σ : sg_S} {j : Nat} {iv : Int} {kc nc : Nat} (hR : sg_R j σ) (hj : j < 512) (hi : iv = 5 * (j : Int)) (hL1 : iv + 4 < (G.2.2.2.2.2.2.1 : Int)) (hL : G.2.2.2.2.2.2.1 ≤ 2560) (hk : kc ≤ 100 + 20 * j + 2 * (σ 51 0).toNat) (hn : nc ≤ 50000 + 2400 * j + 66 * (σ 51 0).toNat)
    (kk : ∀ (σ' : sg_S) (l5 l6 : Option am_AV) (kc' nc' : Nat), sg_R (j + 1) σ' → kc' ≤ 100 + 20 * (j + 1) + 2 * (σ' 51 0).toNat → nc' ≤ 50000 + 2400 * (j + 1) + 66 * (σ' 51 0).toNat → am_W G X (mLh HH) 11 601024 7293034 Q 2080 (lwL iv l5 l6) [] (en_h σ' σ') kc' nc') : am_W G X (mLh HH) 11 601024 7293034 Q 1462 (lwL iv none none) [] (en_h σ σ) kc nc := by
  obtain ⟨hW, hT, h16, hJ⟩ := id hR
  obtain ⟨hP, hD, hB, hF, hU, hV, hN, h52⟩ := id hJ
  have h51 : 0 ≤ σ 51 0 := hD.1.1
  have hle := si_le hP
  obtain ⟨a1, e1⟩ : ∃ z, z = (G.2.2.2.2.2.2.2 (iv + 1).toNat).toInt := ⟨_, rfl⟩
  have r1 : -2147483648 ≤ a1 ∧ a1 < 2147483648 := by rw [e1]; exact xs_r _
  obtain ⟨a2, e2⟩ : ∃ z, z = (G.2.2.2.2.2.2.2 (iv + 2).toNat).toInt := ⟨_, rfl⟩
  have r2 : -2147483648 ≤ a2 ∧ a2 < 2147483648 := by rw [e2]; exact xs_r _
  obtain ⟨a3, e3⟩ : ∃ z, z = (G.2.2.2.2.2.2.2 (iv + 3).toNat).toInt := ⟨_, rfl⟩
  have r3 : -2147483648 ≤ a3 ∧ a3 < 2147483648 := by rw [e3]; exact xs_r _
  have b3 := lz_01 (v := a3)
  have hR1 : sg_R (j + 1) (sp_differs σ a1 a2 (lz a3)) := sr_differs hR
  have h51a : (sp_differs σ a1 a2 (lz a3)) 51 0 = σ 51 0 := by
    unfold sp_differs
    (repeat' split) <;> simp [st]
  have hMC : ∀ f j, f < 43 → (sp_differs σ a1 a2 (lz a3)) f j = (sp_differs σ a1 a2 (lz a3)) f j := fun _ _ _ => rfl
  have hWM : md_wb 110000 (sp_differs σ a1 a2 (lz a3)) := wb_of hR1.1 hMC
  obtain ⟨S, hS⟩ : ∃ S, S = sp_differs σ a1 a2 (lz a3) := ⟨_, rfl⟩
  have hMS : ∀ f j, f < 43 → (sp_differs σ a1 a2 (lz a3)) f j = S f j := fun f j hf => (hMC f j hf).trans (by rw [hS])
  rw [← hS] at hR1 h51a
  have h00 : (sp_differs σ a1 a2 (lz a3)) 0 0 = S 0 0 := hMS 0 0 (by decide)
  have w0 := wb0 hWM 0
  rw [h00] at w0
  have fin : am_W G X (mLh HH) 11 601024 7293034 Q 2080 (lwL iv (some (am_I (S 0 0))) (some (am_I (an_differs σ a1 a2 (lz a3))))) [] (en_h (sp_differs σ a1 a2 (lz a3)) (lx_w S (an_differs σ a1 a2 (lz a3)))) (kc + 4) (nc + 24) := by
    rw [en_m_ag (m := lx_w S (an_differs σ a1 a2 (lz a3))) (fun f j hf => (hMS f j hf).trans (lx_lo (by omega)).symm)]
    exact kk (lx_w S (an_differs σ a1 a2 (lz a3))) _ _ _ _ (sg_R_w hR1) (by rw [lx_lo (by decide)]; omega) (by rw [lx_lo (by decide)]; omega)
  refine am_aload_n eL_law_1462 rfl ?_
  refine lw_arg (a := a1) eL_law_1463 eL_law_1464 eL_law_1466 eL_law_1467 eL_law_1468 (by omega) (by omega) hL e1 ?_
  refine lw_arg (a := a2) eL_law_1469 eL_law_1470 eL_law_1472 eL_law_1473 eL_law_1474 (by omega) (by omega) hL e2 ?_
  refine lw_arg (a := a3) eL_law_1475 eL_law_1476 eL_law_1478 eL_law_1479 eL_law_1480 (by omega) (by omega) hL e3 ?_
  refine lw_bool eL_law_1481 eL_law_1484 eL_law_1485 eL_law_1488 r3 ?_
  refine am_aload_n eL_law_1489 rfl ?_
  refine am_callSH (mc' := 4) (ms' := 24) eL_law_1490 kL_176 (c_L_differs (c := S) (by rw [hS]; exact c_X8_differs (m := σ) hW r1 r2 b3) (rg_differs hW)) rfl rfl (by decide) (Nat.le_of_ble_eq_true rfl) (by simp) (by omega) (by omega) (fun r h' hq => ?_) (fun x h' hq => by obtain ⟨q1, -⟩ := hq; cases q1)
  obtain ⟨q1, rfl⟩ := hq
  cases q1
  refine am_steq (st' := [am_I (S 0 0)]) rfl ?_
  refine am_istore eL_law_1493 (Nat.le_of_ble_eq_true rfl) ?_
  refine am_lseq (ls' := lwL iv (some (am_I (S 0 0))) none) rfl ?_
  refine am_aload_n eL_law_1495 rfl ?_
  refine lw_arg (a := a1) eL_law_1496 eL_law_1497 eL_law_1499 eL_law_1500 eL_law_1501 (by omega) (by omega) hL e1 ?_
  refine lw_arg (a := a2) eL_law_1502 eL_law_1503 eL_law_1505 eL_law_1506 eL_law_1507 (by omega) (by omega) hL e2 ?_
  refine lw_arg (a := a3) eL_law_1508 eL_law_1509 eL_law_1511 eL_law_1512 eL_law_1513 (by omega) (by omega) hL e3 ?_
  refine lw_bool eL_law_1514 eL_law_1517 eL_law_1518 eL_law_1521 r3 ?_
  refine am_cV eL_law_1522 kL_179 (c_X9_differs (m := σ) (x := lx_w S (an_differs σ a1 a2 (lz a3))) hW r1 r2 b3) rfl rfl en_9 (by decide) (by decide) (Nat.le_of_ble_eq_true rfl) (by omega) (by omega) ?_
  refine am_istore eL_law_1525 (Nat.le_of_ble_eq_true rfl) ?_
  refine am_lseq (ls' := lwL iv (some (am_I (S 0 0))) (some (am_I (an_differs σ a1 a2 (lz a3))))) rfl ?_
  refine am_aload_n eL_law_1527 rfl ?_
  refine am_cV eL_law_1528 kL_107 (c_X9_thrown (m := sp_differs σ a1 a2 (lz a3)) (x := lx_w S (an_differs σ a1 a2 (lz a3))) hWM) rfl rfl en_9 (by decide) (by decide) (Nat.le_of_ble_eq_true rfl) (by omega) (by omega) ?_
  refine am_iload eL_law_1531 rfl ?_
  refine am_topI_ h00 ?_
  refine am_icmp_eq ⟨by omega, by omega⟩ ⟨by omega, by omega⟩ eL_law_1533 (fun _ => ?_) (fun z => absurd rfl z)
  refine am_iload eL_law_1538 rfl ?_
  refine am_if_ne ⟨by omega, by omega⟩ eL_law_1540 (fun _ => am_goto eL_law_1555 fin) (fun c1 => ?_)
  refine am_aload_n eL_law_1543 rfl ?_
  refine am_iconst eL_law_1544 ?_
  refine am_lald (len := 1) (x := (an_differs σ a1 a2 (lz a3))) eL_law_1545 en_98 (by decide) (by decide) (by decide) (congrArg am_J (lx_at c1)) ?_
  refine am_iload eL_law_1546 rfl ?_
  refine am_i2l (rg_differs hW) eL_law_1548 ?_
  refine am_lcmp (rg_differs hW) (rg_differs hW) eL_law_1549 (fun z hz hf => ?_)
  exact am_if_eq hz eL_law_1550 (fun _ => am_goto eL_law_1555 fin) (fun c => absurd (hf.mpr rfl) c)
