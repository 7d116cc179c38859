set_option maxRecDepth 100000 in
set_option maxHeartbeats 4000000 in
theorem law_c0 {HH : List (Nat × Nat × Nat × Nat)} {G : am_G} {X : am_X} {Q : State → Prop} {σ : sg_S} {j : Nat} {iv : Int} {kc nc : Nat} (hR : sg_R j σ) (hj : j < 512) (hi : iv = 5 * (j : Int)) (hL1 : iv + 4 < (G.2.2.2.2.2.2.1 : Int)) (hL : G.2.2.2.2.2.2.1 ≤ 2560) (hk : kc ≤ 100 + 20 * j + 2 * (σ 51 0).toNat) (hn : nc ≤ 50000 + 2400 * j + 66 * (σ 51 0).toNat)
    (kk : ∀ (σ' : sg_S) (l5 l6 : Option am_AV) (kc' nc' : Nat), sg_R (j + 1) σ' → kc' ≤ 100 + 20 * (j + 1) + 2 * (σ' 51 0).toNat → nc' ≤ 50000 + 2400 * (j + 1) + 66 * (σ' 51 0).toNat → am_W G X (mLh HH) 11 601024 7293034 Q 2080 (lwL iv l5 l6) [] (en_h σ' σ') kc' nc') : am_W G X (mLh HH) 11 601024 7293034 Q 164 (lwL iv none none) [] (en_h σ σ) kc nc := by
  obtain ⟨hW, hT, h16, hJ⟩ := id hR
  obtain ⟨hP, hD, hB, hF, hU, hV, hN, h52⟩ := id hJ
  have h51 : 0 ≤ σ 51 0 := hD.1.1
  have hle := si_le hP
  obtain ⟨a1, e1⟩ : ∃ z, z = (G.2.2.2.2.2.2.2 (iv + 1).toNat).toInt := ⟨_, rfl⟩
  have r1 : -2147483648 ≤ a1 ∧ a1 < 2147483648 := by rw [e1]; exact xs_r _
  obtain ⟨a2, e2⟩ : ∃ z, z = (G.2.2.2.2.2.2.2 (iv + 2).toNat).toInt := ⟨_, rfl⟩
  have r2 : -2147483648 ≤ a2 ∧ a2 < 2147483648 := by rw [e2]; exact xs_r _
  have hR1 : sg_R (j + 1) (sp_tower σ a1 a2) := sr_tower hR
  have h51a : (sp_tower σ a1 a2) 51 0 = σ 51 0 := by
    unfold sp_tower
    (repeat' split) <;> simp [st]
  have hMC : ∀ f j, f < 43 → (sp_tower σ a1 a2) f j = (sp_tower σ a1 a2) f j := fun _ _ _ => rfl
  have hWM : md_wb 110000 (sp_tower σ a1 a2) := wb_of hR1.1 hMC
  obtain ⟨S, hS⟩ : ∃ S, S = sp_tower σ a1 a2 := ⟨_, rfl⟩
  have hMS : ∀ f j, f < 43 → (sp_tower σ a1 a2) f j = S f j := fun f j hf => (hMC f j hf).trans (by rw [hS])
  rw [← hS] at hR1 h51a
  have h00 : (sp_tower σ a1 a2) 0 0 = S 0 0 := hMS 0 0 (by decide)
  have w0 := wb0 hWM 0
  rw [h00] at w0
  have fin : am_W G X (mLh HH) 11 601024 7293034 Q 2080 (lwL iv (some (am_I (S 0 0))) (some (am_I (an_tower σ a1 a2)))) [] (en_h (sp_tower σ a1 a2) (lx_w S (an_tower σ a1 a2))) (kc + 20) (nc + 2300) := by
    rw [en_m_ag (m := lx_w S (an_tower σ a1 a2)) (fun f j hf => (hMS f j hf).trans (lx_lo (by omega)).symm)]
    exact kk (lx_w S (an_tower σ a1 a2)) _ _ _ _ (sg_R_w hR1) (by rw [lx_lo (by decide)]; omega) (by rw [lx_lo (by decide)]; omega)
  refine am_aload_n eL_law_164 rfl ?_
  refine lw_arg (a := a1) eL_law_165 eL_law_166 eL_law_168 eL_law_169 eL_law_170 (by omega) (by omega) hL e1 ?_
  refine lw_arg (a := a2) eL_law_171 eL_law_172 eL_law_174 eL_law_175 eL_law_176 (by omega) (by omega) hL e2 ?_
  refine am_aload_n eL_law_177 rfl ?_
  refine am_callSH (mc' := 20) (ms' := 2300) eL_law_178 kL_101 (c_L_tower (c := S) (by rw [hS]; exact c_X8_tower (m := σ) hW r1 r2 hU) (rg_tower hW)) rfl rfl (by decide) (Nat.le_of_ble_eq_true rfl) (by simp) (by omega) (by omega) (fun r h' hq => ?_) (fun x h' hq => by obtain ⟨q1, -⟩ := hq; cases q1)
  obtain ⟨q1, rfl⟩ := hq
  cases q1
  refine am_steq (st' := [am_I (S 0 0)]) rfl ?_
  refine am_istore eL_law_181 (Nat.le_of_ble_eq_true rfl) ?_
  refine am_lseq (ls' := lwL iv (some (am_I (S 0 0))) none) rfl ?_
  refine am_aload_n eL_law_183 rfl ?_
  refine lw_arg (a := a1) eL_law_184 eL_law_185 eL_law_187 eL_law_188 eL_law_189 (by omega) (by omega) hL e1 ?_
  refine lw_arg (a := a2) eL_law_190 eL_law_191 eL_law_193 eL_law_194 eL_law_195 (by omega) (by omega) hL e2 ?_
  refine am_cV eL_law_196 kL_106 (c_X9_tower (m := σ) (x := lx_w S (an_tower σ a1 a2)) hW r1 r2) rfl rfl en_9 (by decide) (by decide) (Nat.le_of_ble_eq_true rfl) (by omega) (by omega) ?_
  refine am_istore eL_law_199 (Nat.le_of_ble_eq_true rfl) ?_
  refine am_lseq (ls' := lwL iv (some (am_I (S 0 0))) (some (am_I (an_tower σ a1 a2)))) rfl ?_
  refine am_aload_n eL_law_201 rfl ?_
  refine am_cV eL_law_202 kL_107 (c_X9_thrown (m := sp_tower σ a1 a2) (x := lx_w S (an_tower σ a1 a2)) hWM) rfl rfl en_9 (by decide) (by decide) (Nat.le_of_ble_eq_true rfl) (by omega) (by omega) ?_
  refine am_iload eL_law_205 rfl ?_
  refine am_topI_ h00 ?_
  refine am_icmp_eq ⟨by omega, by omega⟩ ⟨by omega, by omega⟩ eL_law_207 (fun _ => ?_) (fun z => absurd rfl z)
  refine am_iload eL_law_212 rfl ?_
  refine am_if_ne ⟨by omega, by omega⟩ eL_law_214 (fun _ => am_goto eL_law_229 fin) (fun c1 => ?_)
  refine am_aload_n eL_law_217 rfl ?_
  refine am_iconst eL_law_218 ?_
  refine am_lald (len := 1) (x := (an_tower σ a1 a2)) eL_law_219 en_98 (by decide) (by decide) (by decide) (congrArg am_J (lx_at c1)) ?_
  refine am_iload eL_law_220 rfl ?_
  refine am_i2l (rg_tower hW) eL_law_222 ?_
  refine am_lcmp (rg_tower hW) (rg_tower hW) eL_law_223 (fun z hz hf => ?_)
  exact am_if_eq hz eL_law_224 (fun _ => am_goto eL_law_229 fin) (fun c => absurd (hf.mpr rfl) c)
set_option maxRecDepth 100000 in
set_option maxHeartbeats 4000000 in
theorem law_c1 {HH : List (Nat × Nat × Nat × Nat)} {G : am_G} {X : am_X} {Q : State → Prop} {σ : sg_S} {j : Nat} {iv : Int} {kc nc : Nat} (hR : sg_R j σ) (hj : j < 512) (hi : iv = 5 * (j : Int)) (hL1 : iv + 4 < (G.2.2.2.2.2.2.1 : Int)) (hL : G.2.2.2.2.2.2.1 ≤ 2560) (hk : kc ≤ 100 + 20 * j + 2 * (σ 51 0).toNat) (hn : nc ≤ 50000 + 2400 * j + 66 * (σ 51 0).toNat)
    (kk : ∀ (σ' : sg_S) (l5 l6 : Option am_AV) (kc' nc' : Nat), sg_R (j + 1) σ' → kc' ≤ 100 + 20 * (j + 1) + 2 * (σ' 51 0).toNat → nc' ≤ 50000 + 2400 * (j + 1) + 66 * (σ' 51 0).toNat → am_W G X (mLh HH) 11 601024 7293034 Q 2080 (lwL iv l5 l6) [] (en_h σ' σ') kc' nc') : am_W G X (mLh HH) 11 601024 7293034 Q 232 (lwL iv none none) [] (en_h σ σ) kc nc := by
  obtain ⟨hW, hT, h16, hJ⟩ := id hR
  obtain ⟨hP, hD, hB, hF, hU, hV, hN, h52⟩ := id hJ
  have h51 : 0 ≤ σ 51 0 := hD.1.1
  have hle := si_le hP
  obtain ⟨a1, e1⟩ : ∃ z, z = (G.2.2.2.2.2.2.2 (iv + 1).toNat).toInt := ⟨_, rfl⟩
  have r1 : -2147483648 ≤ a1 ∧ a1 < 2147483648 := by rw [e1]; exact xs_r _
  obtain ⟨a2, e2⟩ : ∃ z, z = (G.2.2.2.2.2.2.2 (iv + 2).toNat).toInt := ⟨_, rfl⟩
  have r2 : -2147483648 ≤ a2 ∧ a2 < 2147483648 := by rw [e2]; exact xs_r _
  obtain ⟨a3, e3⟩ : ∃ z, z = (G.2.2.2.2.2.2.2 (iv + 3).toNat).toInt := ⟨_, rfl⟩
  have r3 : -2147483648 ≤ a3 ∧ a3 < 2147483648 := by rw [e3]; exact xs_r _
  have hR1 : sg_R (j + 1) (sp_hill σ a1 a2 a3) := sr_hill hR
  have h51a : (sp_hill σ a1 a2 a3) 51 0 = σ 51 0 := by
    unfold sp_hill
    (repeat' split) <;> simp [st]
  have hMC : ∀ f j, f < 43 → (sp_hill σ a1 a2 a3) f j = (sp_hill σ a1 a2 a3) f j := fun _ _ _ => rfl
  have hWM : md_wb 110000 (sp_hill σ a1 a2 a3) := wb_of hR1.1 hMC
  obtain ⟨S, hS⟩ : ∃ S, S = sp_hill σ a1 a2 a3 := ⟨_, rfl⟩
  have hMS : ∀ f j, f < 43 → (sp_hill σ a1 a2 a3) f j = S f j := fun f j hf => (hMC f j hf).trans (by rw [hS])
  rw [← hS] at hR1 h51a
  have h00 : (sp_hill σ a1 a2 a3) 0 0 = S 0 0 := hMS 0 0 (by decide)
  have w0 := wb0 hWM 0
  rw [h00] at w0
  have fin : am_W G X (mLh HH) 11 601024 7293034 Q 2080 (lwL iv (some (am_I (S 0 0))) (some (am_I (an_hill σ a1 a2 a3)))) [] (en_h (sp_hill σ a1 a2 a3) (lx_w S (an_hill σ a1 a2 a3))) (kc + 4) (nc + 24) := by
    rw [en_m_ag (m := lx_w S (an_hill σ a1 a2 a3)) (fun f j hf => (hMS f j hf).trans (lx_lo (by omega)).symm)]
    exact kk (lx_w S (an_hill σ a1 a2 a3)) _ _ _ _ (sg_R_w hR1) (by rw [lx_lo (by decide)]; omega) (by rw [lx_lo (by decide)]; omega)
  refine am_aload_n eL_law_232 rfl ?_
  refine lw_arg (a := a1) eL_law_233 eL_law_234 eL_law_236 eL_law_237 eL_law_238 (by omega) (by omega) hL e1 ?_
  refine lw_arg (a := a2) eL_law_239 eL_law_240 eL_law_242 eL_law_243 eL_law_244 (by omega) (by omega) hL e2 ?_
  refine lw_arg (a := a3) eL_law_245 eL_law_246 eL_law_248 eL_law_249 eL_law_250 (by omega) (by omega) hL e3 ?_
  refine am_aload_n eL_law_251 rfl ?_
  refine am_callSH (mc' := 4) (ms' := 24) eL_law_252 kL_111 (c_L_hill (c := S) (by rw [hS]; exact c_X8_hill (m := σ) hW r1 r2 r3) (rg_hill hW)) rfl rfl (by decide) (Nat.le_of_ble_eq_true rfl) (by simp) (by omega) (by omega) (fun r h' hq => ?_) (fun x h' hq => by obtain ⟨q1, -⟩ := hq; cases q1)
  obtain ⟨q1, rfl⟩ := hq
  cases q1
  refine am_steq (st' := [am_I (S 0 0)]) rfl ?_
  refine am_istore eL_law_255 (Nat.le_of_ble_eq_true rfl) ?_
  refine am_lseq (ls' := lwL iv (some (am_I (S 0 0))) none) rfl ?_
  refine am_aload_n eL_law_257 rfl ?_
  refine lw_arg (a := a1) eL_law_258 eL_law_259 eL_law_261 eL_law_262 eL_law_263 (by omega) (by omega) hL e1 ?_
  refine lw_arg (a := a2) eL_law_264 eL_law_265 eL_law_267 eL_law_268 eL_law_269 (by omega) (by omega) hL e2 ?_
  refine lw_arg (a := a3) eL_law_270 eL_law_271 eL_law_273 eL_law_274 eL_law_275 (by omega) (by omega) hL e3 ?_
  refine am_cV eL_law_276 kL_114 (c_X9_hill (m := σ) (x := lx_w S (an_hill σ a1 a2 a3)) hW r1 r2 r3) rfl rfl en_9 (by decide) (by decide) (Nat.le_of_ble_eq_true rfl) (by omega) (by omega) ?_
  refine am_istore eL_law_279 (Nat.le_of_ble_eq_true rfl) ?_
  refine am_lseq (ls' := lwL iv (some (am_I (S 0 0))) (some (am_I (an_hill σ a1 a2 a3)))) rfl ?_
  refine am_aload_n eL_law_281 rfl ?_
  refine am_cV eL_law_282 kL_107 (c_X9_thrown (m := sp_hill σ a1 a2 a3) (x := lx_w S (an_hill σ a1 a2 a3)) hWM) rfl rfl en_9 (by decide) (by decide) (Nat.le_of_ble_eq_true rfl) (by omega) (by omega) ?_
  refine am_iload eL_law_285 rfl ?_
  refine am_topI_ h00 ?_
  refine am_icmp_eq ⟨by omega, by omega⟩ ⟨by omega, by omega⟩ eL_law_287 (fun _ => ?_) (fun z => absurd rfl z)
  refine am_iload eL_law_292 rfl ?_
  refine am_if_ne ⟨by omega, by omega⟩ eL_law_294 (fun _ => am_goto eL_law_309 fin) (fun c1 => ?_)
  refine am_aload_n eL_law_297 rfl ?_
  refine am_iconst eL_law_298 ?_
  refine am_lald (len := 1) (x := (an_hill σ a1 a2 a3)) eL_law_299 en_98 (by decide) (by decide) (by decide) (congrArg am_J (lx_at c1)) ?_
  refine am_iload eL_law_300 rfl ?_
  refine am_i2l (rg_hill hW) eL_law_302 ?_
  refine am_lcmp (rg_hill hW) (rg_hill hW) eL_law_303 (fun z hz hf => ?_)
  exact am_if_eq hz eL_law_304 (fun _ => am_goto eL_law_309 fin) (fun c => absurd (hf.mpr rfl) c)
set_option maxRecDepth 100000 in
set_option maxHeartbeats 4000000 in
theorem law_c2 {HH : List (Nat × Nat × Nat × Nat)} {G : am_G} {X : am_X} {Q : State → Prop} {σ : sg_S} {j : Nat} {iv : Int} {kc nc : Nat} (hR : sg_R j σ) (hj : j < 512) (hi : iv = 5 * (j : Int)) (hL1 : iv + 4 < (G.2.2.2.2.2.2.1 : Int)) (hL : G.2.2.2.2.2.2.1 ≤ 2560) (hk : kc ≤ 100 + 20 * j + 2 * (σ 51 0).toNat) (hn : nc ≤ 50000 + 2400 * j + 66 * (σ 51 0).toNat)
    (kk : ∀ (σ' : sg_S) (l5 l6 : Option am_AV) (kc' nc' : Nat), sg_R (j + 1) σ' → kc' ≤ 100 + 20 * (j + 1) + 2 * (σ' 51 0).toNat → nc' ≤ 50000 + 2400 * (j + 1) + 66 * (σ' 51 0).toNat → am_W G X (mLh HH) 11 601024 7293034 Q 2080 (lwL iv l5 l6) [] (en_h σ' σ') kc' nc') : am_W G X (mLh HH) 11 601024 7293034 Q 312 (lwL iv none none) [] (en_h σ σ) kc nc := by
  obtain ⟨hW, hT, h16, hJ⟩ := id hR
  obtain ⟨hP, hD, hB, hF, hU, hV, hN, h52⟩ := id hJ
  have h51 : 0 ≤ σ 51 0 := hD.1.1
  have hle := si_le hP
  obtain ⟨a1, e1⟩ : ∃ z, z = (G.2.2.2.2.2.2.2 (iv + 1).toNat).toInt := ⟨_, rfl⟩
  have r1 : -2147483648 ≤ a1 ∧ a1 < 2147483648 := by rw [e1]; exact xs_r _
  obtain ⟨a2, e2⟩ : ∃ z, z = (G.2.2.2.2.2.2.2 (iv + 2).toNat).toInt := ⟨_, rfl⟩
  have r2 : -2147483648 ≤ a2 ∧ a2 < 2147483648 := by rw [e2]; exact xs_r _
  have hR1 : sg_R (j + 1) (sp_air σ a1 a2) := sr_air hR
  have h51a : (sp_air σ a1 a2) 51 0 = σ 51 0 := by
    unfold sp_air
    (repeat' split) <;> simp [st]
  have hMC : ∀ f j, f < 43 → (sp_air σ a1 a2) f j = (sp_air σ a1 a2) f j := fun _ _ _ => rfl
  have hWM : md_wb 110000 (sp_air σ a1 a2) := wb_of hR1.1 hMC
  obtain ⟨S, hS⟩ : ∃ S, S = sp_air σ a1 a2 := ⟨_, rfl⟩
  have hMS : ∀ f j, f < 43 → (sp_air σ a1 a2) f j = S f j := fun f j hf => (hMC f j hf).trans (by rw [hS])
  rw [← hS] at hR1 h51a
  have h00 : (sp_air σ a1 a2) 0 0 = S 0 0 := hMS 0 0 (by decide)
  have w0 := wb0 hWM 0
  rw [h00] at w0
  have fin : am_W G X (mLh HH) 11 601024 7293034 Q 2080 (lwL iv (some (am_I (S 0 0))) (some (am_I (an_air σ a1 a2)))) [] (en_h (sp_air σ a1 a2) (lx_w S (an_air σ a1 a2))) (kc + 4) (nc + 24) := by
    rw [en_m_ag (m := lx_w S (an_air σ a1 a2)) (fun f j hf => (hMS f j hf).trans (lx_lo (by omega)).symm)]
    exact kk (lx_w S (an_air σ a1 a2)) _ _ _ _ (sg_R_w hR1) (by rw [lx_lo (by decide)]; omega) (by rw [lx_lo (by decide)]; omega)
  refine am_aload_n eL_law_312 rfl ?_
  refine lw_arg (a := a1) eL_law_313 eL_law_314 eL_law_316 eL_law_317 eL_law_318 (by omega) (by omega) hL e1 ?_
  refine lw_arg (a := a2) eL_law_319 eL_law_320 eL_law_322 eL_law_323 eL_law_324 (by omega) (by omega) hL e2 ?_
  refine am_aload_n eL_law_325 rfl ?_
  refine am_callSH (mc' := 4) (ms' := 24) eL_law_326 kL_115 (c_L_air (c := S) (by rw [hS]; exact c_X8_air (m := σ) hW r1 r2) (rg_air hW)) rfl rfl (by decide) (Nat.le_of_ble_eq_true rfl) (by simp) (by omega) (by omega) (fun r h' hq => ?_) (fun x h' hq => by obtain ⟨q1, -⟩ := hq; cases q1)
  obtain ⟨q1, rfl⟩ := hq
  cases q1
  refine am_steq (st' := [am_I (S 0 0)]) rfl ?_
  refine am_istore eL_law_329 (Nat.le_of_ble_eq_true rfl) ?_
  refine am_lseq (ls' := lwL iv (some (am_I (S 0 0))) none) rfl ?_
  refine am_aload_n eL_law_331 rfl ?_
  refine lw_arg (a := a1) eL_law_332 eL_law_333 eL_law_335 eL_law_336 eL_law_337 (by omega) (by omega) hL e1 ?_
  refine lw_arg (a := a2) eL_law_338 eL_law_339 eL_law_341 eL_law_342 eL_law_343 (by omega) (by omega) hL e2 ?_
  refine am_cV eL_law_344 kL_117 (c_X9_air (m := σ) (x := lx_w S (an_air σ a1 a2)) hW r1 r2) rfl rfl en_9 (by decide) (by decide) (Nat.le_of_ble_eq_true rfl) (by omega) (by omega) ?_
  refine am_istore eL_law_347 (Nat.le_of_ble_eq_true rfl) ?_
  refine am_lseq (ls' := lwL iv (some (am_I (S 0 0))) (some (am_I (an_air σ a1 a2)))) rfl ?_
  refine am_aload_n eL_law_349 rfl ?_
  refine am_cV eL_law_350 kL_107 (c_X9_thrown (m := sp_air σ a1 a2) (x := lx_w S (an_air σ a1 a2)) hWM) rfl rfl en_9 (by decide) (by decide) (Nat.le_of_ble_eq_true rfl) (by omega) (by omega) ?_
  refine am_iload eL_law_353 rfl ?_
  refine am_topI_ h00 ?_
  refine am_icmp_eq ⟨by omega, by omega⟩ ⟨by omega, by omega⟩ eL_law_355 (fun _ => ?_) (fun z => absurd rfl z)
  refine am_iload eL_law_360 rfl ?_
  refine am_if_ne ⟨by omega, by omega⟩ eL_law_362 (fun _ => am_goto eL_law_377 fin) (fun c1 => ?_)
  refine am_aload_n eL_law_365 rfl ?_
  refine am_iconst eL_law_366 ?_
  refine am_lald (len := 1) (x := (an_air σ a1 a2)) eL_law_367 en_98 (by decide) (by decide) (by decide) (congrArg am_J (lx_at c1)) ?_
  refine am_iload eL_law_368 rfl ?_
  refine am_i2l (rg_air hW) eL_law_370 ?_
  refine am_lcmp (rg_air hW) (rg_air hW) eL_law_371 (fun z hz hf => ?_)
  exact am_if_eq hz eL_law_372 (fun _ => am_goto eL_law_377 fin) (fun c => absurd (hf.mpr rfl) c)
set_option maxRecDepth 100000 in
set_option maxHeartbeats 4000000 in
theorem law_c3 {HH : List (Nat × Nat × Nat × Nat)} {G : am_G} {X : am_X} {Q : State → Prop} {σ : sg_S} {j : Nat} {iv : Int} {kc nc : Nat} (hR : sg_R j σ) (hj : j < 512) (hi : iv = 5 * (j : Int)) (hL1 : iv + 4 < (G.2.2.2.2.2.2.1 : Int)) (hL : G.2.2.2.2.2.2.1 ≤ 2560) (hk : kc ≤ 100 + 20 * j + 2 * (σ 51 0).toNat) (hn : nc ≤ 50000 + 2400 * j + 66 * (σ 51 0).toNat)
    (kk : ∀ (σ' : sg_S) (l5 l6 : Option am_AV) (kc' nc' : Nat), sg_R (j + 1) σ' → kc' ≤ 100 + 20 * (j + 1) + 2 * (σ' 51 0).toNat → nc' ≤ 50000 + 2400 * (j + 1) + 66 * (σ' 51 0).toNat → am_W G X (mLh HH) 11 601024 7293034 Q 2080 (lwL iv l5 l6) [] (en_h σ' σ') kc' nc') : am_W G X (mLh HH) 11 601024 7293034 Q 380 (lwL iv none none) [] (en_h σ σ) kc nc := by
  obtain ⟨hW, hT, h16, hJ⟩ := id hR
  obtain ⟨hP, hD, hB, hF, hU, hV, hN, h52⟩ := id hJ
  have h51 : 0 ≤ σ 51 0 := hD.1.1
  have hle := si_le hP
  obtain ⟨a1, e1⟩ : ∃ z, z = (G.2.2.2.2.2.2.2 (iv + 1).toNat).toInt := ⟨_, rfl⟩
  have r1 : -2147483648 ≤ a1 ∧ a1 < 2147483648 := by rw [e1]; exact xs_r _
  obtain ⟨a2, e2⟩ : ∃ z, z = (G.2.2.2.2.2.2.2 (iv + 2).toNat).toInt := ⟨_, rfl⟩
  have r2 : -2147483648 ≤ a2 ∧ a2 < 2147483648 := by rw [e2]; exact xs_r _
  have hR1 : sg_R (j + 1) (sp_tire σ a1 a2) := sr_tire hR
  have h51a : (sp_tire σ a1 a2) 51 0 = σ 51 0 := by
    unfold sp_tire
    (repeat' split) <;> simp [st]
  have hMC : ∀ f j, f < 43 → (sp_tire σ a1 a2) f j = (sp_tire σ a1 a2) f j := fun _ _ _ => rfl
  have hWM : md_wb 110000 (sp_tire σ a1 a2) := wb_of hR1.1 hMC
  obtain ⟨S, hS⟩ : ∃ S, S = sp_tire σ a1 a2 := ⟨_, rfl⟩
  have hMS : ∀ f j, f < 43 → (sp_tire σ a1 a2) f j = S f j := fun f j hf => (hMC f j hf).trans (by rw [hS])
  rw [← hS] at hR1 h51a
  have h00 : (sp_tire σ a1 a2) 0 0 = S 0 0 := hMS 0 0 (by decide)
  have w0 := wb0 hWM 0
  rw [h00] at w0
  have fin : am_W G X (mLh HH) 11 601024 7293034 Q 2080 (lwL iv (some (am_I (S 0 0))) (some (am_I (an_tire σ a1 a2)))) [] (en_h (sp_tire σ a1 a2) (lx_w S (an_tire σ a1 a2))) (kc + 4) (nc + 24) := by
    rw [en_m_ag (m := lx_w S (an_tire σ a1 a2)) (fun f j hf => (hMS f j hf).trans (lx_lo (by omega)).symm)]
    exact kk (lx_w S (an_tire σ a1 a2)) _ _ _ _ (sg_R_w hR1) (by rw [lx_lo (by decide)]; omega) (by rw [lx_lo (by decide)]; omega)
  refine am_aload_n eL_law_380 rfl ?_
  refine lw_arg (a := a1) eL_law_381 eL_law_382 eL_law_384 eL_law_385 eL_law_386 (by omega) (by omega) hL e1 ?_
  refine lw_arg (a := a2) eL_law_387 eL_law_388 eL_law_390 eL_law_391 eL_law_392 (by omega) (by omega) hL e2 ?_
  refine am_aload_n eL_law_393 rfl ?_
  refine am_callSH (mc' := 4) (ms' := 24) eL_law_394 kL_118 (c_L_tire (c := S) (by rw [hS]; exact c_X8_tire (m := σ) hW r1 r2) (rg_tire hW)) rfl rfl (by decide) (Nat.le_of_ble_eq_true rfl) (by simp) (by omega) (by omega) (fun r h' hq => ?_) (fun x h' hq => by obtain ⟨q1, -⟩ := hq; cases q1)
  obtain ⟨q1, rfl⟩ := hq
  cases q1
  refine am_steq (st' := [am_I (S 0 0)]) rfl ?_
  refine am_istore eL_law_397 (Nat.le_of_ble_eq_true rfl) ?_
  refine am_lseq (ls' := lwL iv (some (am_I (S 0 0))) none) rfl ?_
  refine am_aload_n eL_law_399 rfl ?_
  refine lw_arg (a := a1) eL_law_400 eL_law_401 eL_law_403 eL_law_404 eL_law_405 (by omega) (by omega) hL e1 ?_
  refine lw_arg (a := a2) eL_law_406 eL_law_407 eL_law_409 eL_law_410 eL_law_411 (by omega) (by omega) hL e2 ?_
  refine am_cV eL_law_412 kL_120 (c_X9_tire (m := σ) (x := lx_w S (an_tire σ a1 a2)) hW r1 r2) rfl rfl en_9 (by decide) (by decide) (Nat.le_of_ble_eq_true rfl) (by omega) (by omega) ?_
  refine am_istore eL_law_415 (Nat.le_of_ble_eq_true rfl) ?_
  refine am_lseq (ls' := lwL iv (some (am_I (S 0 0))) (some (am_I (an_tire σ a1 a2)))) rfl ?_
  refine am_aload_n eL_law_417 rfl ?_
  refine am_cV eL_law_418 kL_107 (c_X9_thrown (m := sp_tire σ a1 a2) (x := lx_w S (an_tire σ a1 a2)) hWM) rfl rfl en_9 (by decide) (by decide) (Nat.le_of_ble_eq_true rfl) (by omega) (by omega) ?_
  refine am_iload eL_law_421 rfl ?_
  refine am_topI_ h00 ?_
  refine am_icmp_eq ⟨by omega, by omega⟩ ⟨by omega, by omega⟩ eL_law_423 (fun _ => ?_) (fun z => absurd rfl z)
  refine am_iload eL_law_428 rfl ?_
  refine am_if_ne ⟨by omega, by omega⟩ eL_law_430 (fun _ => am_goto eL_law_445 fin) (fun c1 => ?_)
  refine am_aload_n eL_law_433 rfl ?_
  refine am_iconst eL_law_434 ?_
  refine am_lald (len := 1) (x := (an_tire σ a1 a2)) eL_law_435 en_98 (by decide) (by decide) (by decide) (congrArg am_J (lx_at c1)) ?_
  refine am_iload eL_law_436 rfl ?_
  refine am_i2l (rg_tire hW) eL_law_438 ?_
  refine am_lcmp (rg_tire hW) (rg_tire hW) eL_law_439 (fun z hz hf => ?_)
  exact am_if_eq hz eL_law_440 (fun _ => am_goto eL_law_445 fin) (fun c => absurd (hf.mpr rfl) c)
set_option maxRecDepth 100000 in
set_option maxHeartbeats 4000000 in
theorem law_c4 {HH : List (Nat × Nat × Nat × Nat)} {G : am_G} {X : am_X} {Q : State → Prop} {σ : sg_S} {j : Nat} {iv : Int} {kc nc : Nat} (hR : sg_R j σ) (hj : j < 512) (hi : iv = 5 * (j : Int)) (hL1 : iv + 4 < (G.2.2.2.2.2.2.1 : Int)) (hL : G.2.2.2.2.2.2.1 ≤ 2560) (hk : kc ≤ 100 + 20 * j + 2 * (σ 51 0).toNat) (hn : nc ≤ 50000 + 2400 * j + 66 * (σ 51 0).toNat)
    (kk : ∀ (σ' : sg_S) (l5 l6 : Option am_AV) (kc' nc' : Nat), sg_R (j + 1) σ' → kc' ≤ 100 + 20 * (j + 1) + 2 * (σ' 51 0).toNat → nc' ≤ 50000 + 2400 * (j + 1) + 66 * (σ' 51 0).toNat → am_W G X (mLh HH) 11 601024 7293034 Q 2080 (lwL iv l5 l6) [] (en_h σ' σ') kc' nc') : am_W G X (mLh HH) 11 601024 7293034 Q 448 (lwL iv none none) [] (en_h σ σ) kc nc := by
  obtain ⟨hW, hT, h16, hJ⟩ := id hR
  obtain ⟨hP, hD, hB, hF, hU, hV, hN, h52⟩ := id hJ
  have h51 : 0 ≤ σ 51 0 := hD.1.1
  have hle := si_le hP
  obtain ⟨a1, e1⟩ : ∃ z, z = (G.2.2.2.2.2.2.2 (iv + 1).toNat).toInt := ⟨_, rfl⟩
  have r1 : -2147483648 ≤ a1 ∧ a1 < 2147483648 := by rw [e1]; exact xs_r _
  have hR1 : sg_R (j + 1) (sp_seed σ a1) := sr_seed hR
  have h51a : (sp_seed σ a1) 51 0 = σ 51 0 := by
    unfold sp_seed
    (repeat' split) <;> simp [st]
  have hMC : ∀ f j, f < 43 → (sp_seed σ a1) f j = (sp_seed σ a1) f j := fun _ _ _ => rfl
  have hWM : md_wb 110000 (sp_seed σ a1) := wb_of hR1.1 hMC
  obtain ⟨S, hS⟩ : ∃ S, S = sp_seed σ a1 := ⟨_, rfl⟩
  have hMS : ∀ f j, f < 43 → (sp_seed σ a1) f j = S f j := fun f j hf => (hMC f j hf).trans (by rw [hS])
  rw [← hS] at hR1 h51a
  have h00 : (sp_seed σ a1) 0 0 = S 0 0 := hMS 0 0 (by decide)
  have w0 := wb0 hWM 0
  rw [h00] at w0
  have fin : am_W G X (mLh HH) 11 601024 7293034 Q 2080 (lwL iv (some (am_I (S 0 0))) (some (am_I (an_seed σ a1)))) [] (en_h (sp_seed σ a1) (lx_w S (an_seed σ a1))) (kc + 4) (nc + 24) := by
    rw [en_m_ag (m := lx_w S (an_seed σ a1)) (fun f j hf => (hMS f j hf).trans (lx_lo (by omega)).symm)]
    exact kk (lx_w S (an_seed σ a1)) _ _ _ _ (sg_R_w hR1) (by rw [lx_lo (by decide)]; omega) (by rw [lx_lo (by decide)]; omega)
  refine am_aload_n eL_law_448 rfl ?_
  refine lw_arg (a := a1) eL_law_449 eL_law_450 eL_law_452 eL_law_453 eL_law_454 (by omega) (by omega) hL e1 ?_
  refine am_aload_n eL_law_455 rfl ?_
  refine am_callSH (mc' := 4) (ms' := 24) eL_law_456 kL_121 (c_L_seed (c := S) (by rw [hS]; exact c_X8_seed (m := σ) hW r1) (rg_seed hW)) rfl rfl (by decide) (Nat.le_of_ble_eq_true rfl) (by simp) (by omega) (by omega) (fun r h' hq => ?_) (fun x h' hq => by obtain ⟨q1, -⟩ := hq; cases q1)
  obtain ⟨q1, rfl⟩ := hq
  cases q1
  refine am_steq (st' := [am_I (S 0 0)]) rfl ?_
  refine am_istore eL_law_459 (Nat.le_of_ble_eq_true rfl) ?_
  refine am_lseq (ls' := lwL iv (some (am_I (S 0 0))) none) rfl ?_
  refine am_aload_n eL_law_461 rfl ?_
  refine lw_arg (a := a1) eL_law_462 eL_law_463 eL_law_465 eL_law_466 eL_law_467 (by omega) (by omega) hL e1 ?_
  refine am_cV eL_law_468 kL_124 (c_X9_seed (m := σ) (x := lx_w S (an_seed σ a1)) hW r1) rfl rfl en_9 (by decide) (by decide) (Nat.le_of_ble_eq_true rfl) (by omega) (by omega) ?_
  refine am_istore eL_law_471 (Nat.le_of_ble_eq_true rfl) ?_
  refine am_lseq (ls' := lwL iv (some (am_I (S 0 0))) (some (am_I (an_seed σ a1)))) rfl ?_
  refine am_aload_n eL_law_473 rfl ?_
  refine am_cV eL_law_474 kL_107 (c_X9_thrown (m := sp_seed σ a1) (x := lx_w S (an_seed σ a1)) hWM) rfl rfl en_9 (by decide) (by decide) (Nat.le_of_ble_eq_true rfl) (by omega) (by omega) ?_
  refine am_iload eL_law_477 rfl ?_
  refine am_topI_ h00 ?_
  refine am_icmp_eq ⟨by omega, by omega⟩ ⟨by omega, by omega⟩ eL_law_479 (fun _ => ?_) (fun z => absurd rfl z)
  refine am_iload eL_law_484 rfl ?_
  refine am_if_ne ⟨by omega, by omega⟩ eL_law_486 (fun _ => am_goto eL_law_501 fin) (fun c1 => ?_)
  refine am_aload_n eL_law_489 rfl ?_
  refine am_iconst eL_law_490 ?_
  refine am_lald (len := 1) (x := (an_seed σ a1)) eL_law_491 en_98 (by decide) (by decide) (by decide) (congrArg am_J (lx_at c1)) ?_
  refine am_iload eL_law_492 rfl ?_
  refine am_i2l (rg_seed hW) eL_law_494 ?_
  refine am_lcmp (rg_seed hW) (rg_seed hW) eL_law_495 (fun z hz hf => ?_)
  exact am_if_eq hz eL_law_496 (fun _ => am_goto eL_law_501 fin) (fun c => absurd (hf.mpr rfl) c)
set_option maxRecDepth 100000 in
set_option maxHeartbeats 4000000 in
theorem law_c5 {HH : List (Nat × Nat × Nat × Nat)} {G : am_G} {X : am_X} {Q : State → Prop} {σ : sg_S} {j : Nat} {iv : Int} {kc nc : Nat} (hR : sg_R j σ) (hj : j < 512) (hi : iv = 5 * (j : Int)) (hL1 : iv + 4 < (G.2.2.2.2.2.2.1 : Int)) (hL : G.2.2.2.2.2.2.1 ≤ 2560) (hk : kc ≤ 100 + 20 * j + 2 * (σ 51 0).toNat) (hn : nc ≤ 50000 + 2400 * j + 66 * (σ 51 0).toNat)
    (kk : ∀ (σ' : sg_S) (l5 l6 : Option am_AV) (kc' nc' : Nat), sg_R (j + 1) σ' → kc' ≤ 100 + 20 * (j + 1) + 2 * (σ' 51 0).toNat → nc' ≤ 50000 + 2400 * (j + 1) + 66 * (σ' 51 0).toNat → am_W G X (mLh HH) 11 601024 7293034 Q 2080 (lwL iv l5 l6) [] (en_h σ' σ') kc' nc') : am_W G X (mLh HH) 11 601024 7293034 Q 504 (lwL iv none none) [] (en_h σ σ) kc nc := by
  obtain ⟨hW, hT, h16, hJ⟩ := id hR
  obtain ⟨hP, hD, hB, hF, hU, hV, hN, h52⟩ := id hJ
  have h51 : 0 ≤ σ 51 0 := hD.1.1
  have hle := si_le hP
  obtain ⟨a1, e1⟩ : ∃ z, z = (G.2.2.2.2.2.2.2 (iv + 1).toNat).toInt := ⟨_, rfl⟩
  have r1 : -2147483648 ≤ a1 ∧ a1 < 2147483648 := by rw [e1]; exact xs_r _
  obtain ⟨a2, e2⟩ : ∃ z, z = (G.2.2.2.2.2.2.2 (iv + 2).toNat).toInt := ⟨_, rfl⟩
  have r2 : -2147483648 ≤ a2 ∧ a2 < 2147483648 := by rw [e2]; exact xs_r _
  obtain ⟨a3, e3⟩ : ∃ z, z = (G.2.2.2.2.2.2.2 (iv + 3).toNat).toInt := ⟨_, rfl⟩
  have r3 : -2147483648 ≤ a3 ∧ a3 < 2147483648 := by rw [e3]; exact xs_r _
  obtain ⟨a4, e4⟩ : ∃ z, z = (G.2.2.2.2.2.2.2 (iv + 4).toNat).toInt := ⟨_, rfl⟩
  have r4 : -2147483648 ≤ a4 ∧ a4 < 2147483648 := by rw [e4]; exact xs_r _
  have hR1 : sg_R (j + 1) (sp_write σ a1 a2 a3 a4) := sr_write hR
  have h51a : (sp_write σ a1 a2 a3 a4) 51 0 = σ 51 0 := by
    unfold sp_write
    (repeat' split) <;> simp [st]
  have hMC : ∀ f j, f < 43 → (sp_write σ a1 a2 a3 a4) f j = (sp_write σ a1 a2 a3 a4) f j := fun _ _ _ => rfl
  have hWM : md_wb 110000 (sp_write σ a1 a2 a3 a4) := wb_of hR1.1 hMC
  obtain ⟨S, hS⟩ : ∃ S, S = sp_write σ a1 a2 a3 a4 := ⟨_, rfl⟩
  have hMS : ∀ f j, f < 43 → (sp_write σ a1 a2 a3 a4) f j = S f j := fun f j hf => (hMC f j hf).trans (by rw [hS])
  rw [← hS] at hR1 h51a
  have h00 : (sp_write σ a1 a2 a3 a4) 0 0 = S 0 0 := hMS 0 0 (by decide)
  have w0 := wb0 hWM 0
  rw [h00] at w0
  have fin : am_W G X (mLh HH) 11 601024 7293034 Q 2080 (lwL iv (some (am_I (S 0 0))) (some (am_I (an_write σ a1 a2 a3 a4)))) [] (en_h (sp_write σ a1 a2 a3 a4) (lx_w S (an_write σ a1 a2 a3 a4))) (kc + 4) (nc + 24) := by
    rw [en_m_ag (m := lx_w S (an_write σ a1 a2 a3 a4)) (fun f j hf => (hMS f j hf).trans (lx_lo (by omega)).symm)]
    exact kk (lx_w S (an_write σ a1 a2 a3 a4)) _ _ _ _ (sg_R_w hR1) (by rw [lx_lo (by decide)]; omega) (by rw [lx_lo (by decide)]; omega)
  refine am_aload_n eL_law_504 rfl ?_
  refine lw_arg (a := a1) eL_law_505 eL_law_506 eL_law_508 eL_law_509 eL_law_510 (by omega) (by omega) hL e1 ?_
  refine lw_arg (a := a2) eL_law_511 eL_law_512 eL_law_514 eL_law_515 eL_law_516 (by omega) (by omega) hL e2 ?_
  refine lw_arg (a := a3) eL_law_517 eL_law_518 eL_law_520 eL_law_521 eL_law_522 (by omega) (by omega) hL e3 ?_
  refine lw_arg (a := a4) eL_law_523 eL_law_524 eL_law_526 eL_law_527 eL_law_528 (by omega) (by omega) hL e4 ?_
  refine am_aload_n eL_law_529 rfl ?_
  refine am_callSH (mc' := 4) (ms' := 24) eL_law_530 kL_125 (c_L_write (c := S) (by rw [hS]; exact c_X8_write (m := σ) hW r1 r2 r3 r4 hN) (rg_write hW)) rfl rfl (by decide) (Nat.le_of_ble_eq_true rfl) (by simp) (by omega) (by omega) (fun r h' hq => ?_) (fun x h' hq => by obtain ⟨q1, -⟩ := hq; cases q1)
  obtain ⟨q1, rfl⟩ := hq
  cases q1
  refine am_steq (st' := [am_I (S 0 0)]) rfl ?_
  refine am_istore eL_law_533 (Nat.le_of_ble_eq_true rfl) ?_
  refine am_lseq (ls' := lwL iv (some (am_I (S 0 0))) none) rfl ?_
  refine am_aload_n eL_law_535 rfl ?_
  refine lw_arg (a := a1) eL_law_536 eL_law_537 eL_law_539 eL_law_540 eL_law_541 (by omega) (by omega) hL e1 ?_
  refine lw_arg (a := a2) eL_law_542 eL_law_543 eL_law_545 eL_law_546 eL_law_547 (by omega) (by omega) hL e2 ?_
  refine lw_arg (a := a3) eL_law_548 eL_law_549 eL_law_551 eL_law_552 eL_law_553 (by omega) (by omega) hL e3 ?_
  refine lw_arg (a := a4) eL_law_554 eL_law_555 eL_law_557 eL_law_558 eL_law_559 (by omega) (by omega) hL e4 ?_
  refine am_cV eL_law_560 kL_128 (c_X9_write (m := σ) (x := lx_w S (an_write σ a1 a2 a3 a4)) hW r1 r2 r3 r4) rfl rfl en_9 (by decide) (by decide) (Nat.le_of_ble_eq_true rfl) (by omega) (by omega) ?_
  refine am_istore eL_law_563 (Nat.le_of_ble_eq_true rfl) ?_
  refine am_lseq (ls' := lwL iv (some (am_I (S 0 0))) (some (am_I (an_write σ a1 a2 a3 a4)))) rfl ?_
  refine am_aload_n eL_law_565 rfl ?_
  refine am_cV eL_law_566 kL_107 (c_X9_thrown (m := sp_write σ a1 a2 a3 a4) (x := lx_w S (an_write σ a1 a2 a3 a4)) hWM) rfl rfl en_9 (by decide) (by decide) (Nat.le_of_ble_eq_true rfl) (by omega) (by omega) ?_
  refine am_iload eL_law_569 rfl ?_
  refine am_topI_ h00 ?_
  refine am_icmp_eq ⟨by omega, by omega⟩ ⟨by omega, by omega⟩ eL_law_571 (fun _ => ?_) (fun z => absurd rfl z)
  refine am_iload eL_law_576 rfl ?_
  refine am_if_ne ⟨by omega, by omega⟩ eL_law_578 (fun _ => am_goto eL_law_593 fin) (fun c1 => ?_)
  refine am_aload_n eL_law_581 rfl ?_
  refine am_iconst eL_law_582 ?_
  refine am_lald (len := 1) (x := (an_write σ a1 a2 a3 a4)) eL_law_583 en_98 (by decide) (by decide) (by decide) (congrArg am_J (lx_at c1)) ?_
  refine am_iload eL_law_584 rfl ?_
  refine am_i2l (rg_write hW) eL_law_586 ?_
  refine am_lcmp (rg_write hW) (rg_write hW) eL_law_587 (fun z hz hf => ?_)
  exact am_if_eq hz eL_law_588 (fun _ => am_goto eL_law_593 fin) (fun c => absurd (hf.mpr rfl) c)
set_option maxRecDepth 100000 in
set_option maxHeartbeats 4000000 in
theorem law_c6 {HH : List (Nat × Nat × Nat × Nat)} {G : am_G} {X : am_X} {Q : State → Prop} {σ : sg_S} {j : Nat} {iv : Int} {kc nc : Nat} (hR : sg_R j σ) (hj : j < 512) (hi : iv = 5 * (j : Int)) (hL1 : iv + 4 < (G.2.2.2.2.2.2.1 : Int)) (hL : G.2.2.2.2.2.2.1 ≤ 2560) (hk : kc ≤ 100 + 20 * j + 2 * (σ 51 0).toNat) (hn : nc ≤ 50000 + 2400 * j + 66 * (σ 51 0).toNat)
    (kk : ∀ (σ' : sg_S) (l5 l6 : Option am_AV) (kc' nc' : Nat), sg_R (j + 1) σ' → kc' ≤ 100 + 20 * (j + 1) + 2 * (σ' 51 0).toNat → nc' ≤ 50000 + 2400 * (j + 1) + 66 * (σ' 51 0).toNat → am_W G X (mLh HH) 11 601024 7293034 Q 2080 (lwL iv l5 l6) [] (en_h σ' σ') kc' nc') : am_W G X (mLh HH) 11 601024 7293034 Q 596 (lwL iv none none) [] (en_h σ σ) kc nc := by
  obtain ⟨hW, hT, h16, hJ⟩ := id hR
  obtain ⟨hP, hD, hB, hF, hU, hV, hN, h52⟩ := id hJ
  have h51 : 0 ≤ σ 51 0 := hD.1.1
  have hle := si_le hP
  obtain ⟨a1, e1⟩ : ∃ z, z = (G.2.2.2.2.2.2.2 (iv + 1).toNat).toInt := ⟨_, rfl⟩
  have r1 : -2147483648 ≤ a1 ∧ a1 < 2147483648 := by rw [e1]; exact xs_r _
  have hR1 : sg_R (j + 1) (sp_type σ a1) := sr_type hR
  have h51a : (sp_type σ a1) 51 0 = σ 51 0 := by
    unfold sp_type
    (repeat' split) <;> simp [st]
  have hMC : ∀ f j, f < 43 → (sp_type σ a1) f j = (sp_type σ a1) f j := fun _ _ _ => rfl
  have hWM : md_wb 110000 (sp_type σ a1) := wb_of hR1.1 hMC
  obtain ⟨S, hS⟩ : ∃ S, S = sp_type σ a1 := ⟨_, rfl⟩
  have hMS : ∀ f j, f < 43 → (sp_type σ a1) f j = S f j := fun f j hf => (hMC f j hf).trans (by rw [hS])
  rw [← hS] at hR1 h51a
  have h00 : (sp_type σ a1) 0 0 = S 0 0 := hMS 0 0 (by decide)
  have w0 := wb0 hWM 0
  rw [h00] at w0
  have fin : am_W G X (mLh HH) 11 601024 7293034 Q 2080 (lwL iv (some (am_I (S 0 0))) (some (am_I (an_type σ a1)))) [] (en_h (sp_type σ a1) (lx_w S (an_type σ a1))) (kc + 4) (nc + 24) := by
    rw [en_m_ag (m := lx_w S (an_type σ a1)) (fun f j hf => (hMS f j hf).trans (lx_lo (by omega)).symm)]
    exact kk (lx_w S (an_type σ a1)) _ _ _ _ (sg_R_w hR1) (by rw [lx_lo (by decide)]; omega) (by rw [lx_lo (by decide)]; omega)
  refine am_aload_n eL_law_596 rfl ?_
  refine lw_arg (a := a1) eL_law_597 eL_law_598 eL_law_600 eL_law_601 eL_law_602 (by omega) (by omega) hL e1 ?_
  refine am_aload_n eL_law_603 rfl ?_
  refine am_callSH (mc' := 4) (ms' := 24) eL_law_604 kL_129 (c_L_type (c := S) (by rw [hS]; exact c_X8_type (m := σ) hW r1) (rg_type hW)) rfl rfl (by decide) (Nat.le_of_ble_eq_true rfl) (by simp) (by omega) (by omega) (fun r h' hq => ?_) (fun x h' hq => by obtain ⟨q1, -⟩ := hq; cases q1)
  obtain ⟨q1, rfl⟩ := hq
  cases q1
  refine am_steq (st' := [am_I (S 0 0)]) rfl ?_
  refine am_istore eL_law_607 (Nat.le_of_ble_eq_true rfl) ?_
  refine am_lseq (ls' := lwL iv (some (am_I (S 0 0))) none) rfl ?_
  refine am_aload_n eL_law_609 rfl ?_
  refine lw_arg (a := a1) eL_law_610 eL_law_611 eL_law_613 eL_law_614 eL_law_615 (by omega) (by omega) hL e1 ?_
  refine am_cV eL_law_616 kL_131 (c_X9_type (m := σ) (x := lx_w S (an_type σ a1)) hW r1) rfl rfl en_9 (by decide) (by decide) (Nat.le_of_ble_eq_true rfl) (by omega) (by omega) ?_
  refine am_istore eL_law_619 (Nat.le_of_ble_eq_true rfl) ?_
  refine am_lseq (ls' := lwL iv (some (am_I (S 0 0))) (some (am_I (an_type σ a1)))) rfl ?_
  refine am_aload_n eL_law_621 rfl ?_
  refine am_cV eL_law_622 kL_107 (c_X9_thrown (m := sp_type σ a1) (x := lx_w S (an_type σ a1)) hWM) rfl rfl en_9 (by decide) (by decide) (Nat.le_of_ble_eq_true rfl) (by omega) (by omega) ?_
  refine am_iload eL_law_625 rfl ?_
  refine am_topI_ h00 ?_
  refine am_icmp_eq ⟨by omega, by omega⟩ ⟨by omega, by omega⟩ eL_law_627 (fun _ => ?_) (fun z => absurd rfl z)
  refine am_iload eL_law_632 rfl ?_
  refine am_if_ne ⟨by omega, by omega⟩ eL_law_634 (fun _ => am_goto eL_law_649 fin) (fun c1 => ?_)
  refine am_aload_n eL_law_637 rfl ?_
  refine am_iconst eL_law_638 ?_
  refine am_lald (len := 1) (x := (an_type σ a1)) eL_law_639 en_98 (by decide) (by decide) (by decide) (congrArg am_J (lx_at c1)) ?_
  refine am_iload eL_law_640 rfl ?_
  refine am_i2l (rg_type hW) eL_law_642 ?_
  refine am_lcmp (rg_type hW) (rg_type hW) eL_law_643 (fun z hz hf => ?_)
  exact am_if_eq hz eL_law_644 (fun _ => am_goto eL_law_649 fin) (fun c => absurd (hf.mpr rfl) c)
set_option maxRecDepth 100000 in
set_option maxHeartbeats 4000000 in
theorem law_c7 {HH : List (Nat × Nat × Nat × Nat)} {G : am_G} {X : am_X} {Q : State → Prop} {σ : sg_S} {j : Nat} {iv : Int} {kc nc : Nat} (hR : sg_R j σ) (hj : j < 512) (hi : iv = 5 * (j : Int)) (hL1 : iv + 4 < (G.2.2.2.2.2.2.1 : Int)) (hL : G.2.2.2.2.2.2.1 ≤ 2560) (hk : kc ≤ 100 + 20 * j + 2 * (σ 51 0).toNat) (hn : nc ≤ 50000 + 2400 * j + 66 * (σ 51 0).toNat)
    (kk : ∀ (σ' : sg_S) (l5 l6 : Option am_AV) (kc' nc' : Nat), sg_R (j + 1) σ' → kc' ≤ 100 + 20 * (j + 1) + 2 * (σ' 51 0).toNat → nc' ≤ 50000 + 2400 * (j + 1) + 66 * (σ' 51 0).toNat → am_W G X (mLh HH) 11 601024 7293034 Q 2080 (lwL iv l5 l6) [] (en_h σ' σ') kc' nc') : am_W G X (mLh HH) 11 601024 7293034 Q 652 (lwL iv none none) [] (en_h σ σ) kc nc := by
  obtain ⟨hW, hT, h16, hJ⟩ := id hR
  obtain ⟨hP, hD, hB, hF, hU, hV, hN, h52⟩ := id hJ
  have h51 : 0 ≤ σ 51 0 := hD.1.1
  have hle := si_le hP
  have hR1 : sg_R (j + 1) (sp_clear σ) := sr_clear hR
  have h51a : (sp_clear σ) 51 0 = σ 51 0 := by
    unfold sp_clear
    (repeat' split) <;> simp [st]
  have hMC : ∀ f j, f < 43 → (sp_clear σ) f j = (sp_clear σ) f j := fun _ _ _ => rfl
  have hWM : md_wb 110000 (sp_clear σ) := wb_of hR1.1 hMC
  have fin : am_W G X (mLh HH) 11 601024 7293034 Q 2080 (lwL iv none none) [] (en_h (sp_clear σ) (sp_clear σ)) kc nc := kk (sp_clear σ) _ _ _ _ hR1 (by rw [h51a]; omega) (by rw [h51a]; omega)
  refine am_aload_n eL_law_652 rfl ?_
  refine am_cV eL_law_653 kL_132 (c_X8_clear (m := σ) (x := σ) hW) rfl rfl en_c8 (by decide) (by decide) (Nat.le_of_ble_eq_true rfl) (by omega) (by omega) ?_
  refine am_aload_n eL_law_656 rfl ?_
  refine am_cV eL_law_657 kL_135 (c_X9_clear (m := σ) (x := sp_clear σ) hW) rfl rfl en_9 (by decide) (by decide) (Nat.le_of_ble_eq_true rfl) (by omega) (by omega) ?_
  exact am_icmp_eq (rg_clear hW) (rg_clear hW) eL_law_660 (fun _ => fin) (fun z => absurd rfl z)
set_option maxRecDepth 100000 in
set_option maxHeartbeats 4000000 in
theorem law_c8 {HH : List (Nat × Nat × Nat × Nat)} {G : am_G} {X : am_X} {Q : State → Prop} {σ : sg_S} {j : Nat} {iv : Int} {kc nc : Nat} (hR : sg_R j σ) (hj : j < 512) (hi : iv = 5 * (j : Int)) (hL1 : iv + 4 < (G.2.2.2.2.2.2.1 : Int)) (hL : G.2.2.2.2.2.2.1 ≤ 2560) (hk : kc ≤ 100 + 20 * j + 2 * (σ 51 0).toNat) (hn : nc ≤ 50000 + 2400 * j + 66 * (σ 51 0).toNat)
    (kk : ∀ (σ' : sg_S) (l5 l6 : Option am_AV) (kc' nc' : Nat), sg_R (j + 1) σ' → kc' ≤ 100 + 20 * (j + 1) + 2 * (σ' 51 0).toNat → nc' ≤ 50000 + 2400 * (j + 1) + 66 * (σ' 51 0).toNat → am_W G X (mLh HH) 11 601024 7293034 Q 2080 (lwL iv l5 l6) [] (en_h σ' σ') kc' nc') : am_W G X (mLh HH) 11 601024 7293034 Q 665 (lwL iv none none) [] (en_h σ σ) kc nc := by
  obtain ⟨hW, hT, h16, hJ⟩ := id hR
  obtain ⟨hP, hD, hB, hF, hU, hV, hN, h52⟩ := id hJ
  have h51 : 0 ≤ σ 51 0 := hD.1.1
  have hle := si_le hP
  obtain ⟨a1, e1⟩ : ∃ z, z = (G.2.2.2.2.2.2.2 (iv + 1).toNat).toInt := ⟨_, rfl⟩
  have r1 : -2147483648 ≤ a1 ∧ a1 < 2147483648 := by rw [e1]; exact xs_r _
  have b1 := lz_01 (v := a1)
  obtain ⟨a2, e2⟩ : ∃ z, z = (G.2.2.2.2.2.2.2 (iv + 2).toNat).toInt := ⟨_, rfl⟩
  have r2 : -2147483648 ≤ a2 ∧ a2 < 2147483648 := by rw [e2]; exact xs_r _
  obtain ⟨a3, e3⟩ : ∃ z, z = (G.2.2.2.2.2.2.2 (iv + 3).toNat).toInt := ⟨_, rfl⟩
  have r3 : -2147483648 ≤ a3 ∧ a3 < 2147483648 := by rw [e3]; exact xs_r _
  have b3 := lz_01 (v := a3)
  have hR1 : sg_R (j + 1) (bs_send σ (lz a1) a2 (lz a3)) := sr_send hR b3
  have h51a : (bs_send σ (lz a1) a2 (lz a3)) 51 0 = σ 51 0 := by
    unfold bs_send
    rw [mg_hi (by decide)]
    split
    · exact sq_mk_f (by decide) _ _
    · rfl
  have hMC : ∀ f j, f < 43 → (sp_send σ (lz a1) a2 (lz a3)) f j = (bs_send σ (lz a1) a2 (lz a3)) f j := fun f j hf => by unfold bs_send; rw [mg_lo (by omega)]
  have hWM : md_wb 110000 (sp_send σ (lz a1) a2 (lz a3)) := wb_of hR1.1 hMC
  obtain ⟨S, hS⟩ : ∃ S, S = bs_send σ (lz a1) a2 (lz a3) := ⟨_, rfl⟩
  have hMS : ∀ f j, f < 43 → (sp_send σ (lz a1) a2 (lz a3)) f j = S f j := fun f j hf => (hMC f j hf).trans (by rw [hS])
  rw [← hS] at hR1 h51a
  have h00 : (sp_send σ (lz a1) a2 (lz a3)) 0 0 = S 0 0 := hMS 0 0 (by decide)
  have w0 := wb0 hWM 0
  rw [h00] at w0
  have fin : am_W G X (mLh HH) 11 601024 7293034 Q 2080 (lwL iv (some (am_I (S 0 0))) (some (am_I (an_send σ (lz a1) a2 (lz a3))))) [] (en_h (sp_send σ (lz a1) a2 (lz a3)) (lx_w S (an_send σ (lz a1) a2 (lz a3)))) (kc + 4) (nc + 24) := by
    rw [en_m_ag (m := lx_w S (an_send σ (lz a1) a2 (lz a3))) (fun f j hf => (hMS f j hf).trans (lx_lo (by omega)).symm)]
    exact kk (lx_w S (an_send σ (lz a1) a2 (lz a3))) _ _ _ _ (sg_R_w hR1) (by rw [lx_lo (by decide)]; omega) (by rw [lx_lo (by decide)]; omega)
  refine am_aload_n eL_law_665 rfl ?_
  refine lw_arg (a := a1) eL_law_666 eL_law_667 eL_law_669 eL_law_670 eL_law_671 (by omega) (by omega) hL e1 ?_
  refine lw_bool eL_law_672 eL_law_675 eL_law_676 eL_law_679 r1 ?_
  refine lw_arg (a := a2) eL_law_680 eL_law_681 eL_law_683 eL_law_684 eL_law_685 (by omega) (by omega) hL e2 ?_
  refine lw_arg (a := a3) eL_law_686 eL_law_687 eL_law_689 eL_law_690 eL_law_691 (by omega) (by omega) hL e3 ?_
  refine lw_bool eL_law_692 eL_law_695 eL_law_696 eL_law_699 r3 ?_
  refine am_aload_n eL_law_700 rfl ?_
  refine am_callSH (mc' := 4) (ms' := 24) eL_law_701 kL_136 (c_L_send (c := S) (by rw [hS]; exact c_X8_send (m := σ) hW r2 b1 b3 hV) (rg_send b3 hW)) rfl rfl (by decide) (Nat.le_of_ble_eq_true rfl) (by simp) (by omega) (by omega) (fun r h' hq => ?_) (fun x h' hq => by obtain ⟨q1, -⟩ := hq; cases q1)
  obtain ⟨q1, rfl⟩ := hq
  cases q1
  refine am_steq (st' := [am_I (S 0 0)]) rfl ?_
  refine am_istore eL_law_704 (Nat.le_of_ble_eq_true rfl) ?_
  refine am_lseq (ls' := lwL iv (some (am_I (S 0 0))) none) rfl ?_
  refine am_aload_n eL_law_706 rfl ?_
  refine lw_arg (a := a1) eL_law_707 eL_law_708 eL_law_710 eL_law_711 eL_law_712 (by omega) (by omega) hL e1 ?_
  refine lw_bool eL_law_713 eL_law_716 eL_law_717 eL_law_720 r1 ?_
  refine lw_arg (a := a2) eL_law_721 eL_law_722 eL_law_724 eL_law_725 eL_law_726 (by omega) (by omega) hL e2 ?_
  refine lw_arg (a := a3) eL_law_727 eL_law_728 eL_law_730 eL_law_731 eL_law_732 (by omega) (by omega) hL e3 ?_
  refine lw_bool eL_law_733 eL_law_736 eL_law_737 eL_law_740 r3 ?_
  refine am_cV eL_law_741 kL_139 (c_X9_send (m := σ) (x := lx_w S (an_send σ (lz a1) a2 (lz a3))) hW r2 b1 b3 hV) rfl rfl en_9 (by decide) (by decide) (Nat.le_of_ble_eq_true rfl) (by omega) (by omega) ?_
  refine am_istore eL_law_744 (Nat.le_of_ble_eq_true rfl) ?_
  refine am_lseq (ls' := lwL iv (some (am_I (S 0 0))) (some (am_I (an_send σ (lz a1) a2 (lz a3))))) rfl ?_
  refine am_aload_n eL_law_746 rfl ?_
  refine am_cV eL_law_747 kL_107 (c_X9_thrown (m := sp_send σ (lz a1) a2 (lz a3)) (x := lx_w S (an_send σ (lz a1) a2 (lz a3))) hWM) rfl rfl en_9 (by decide) (by decide) (Nat.le_of_ble_eq_true rfl) (by omega) (by omega) ?_
  refine am_iload eL_law_750 rfl ?_
  refine am_topI_ h00 ?_
  refine am_icmp_eq ⟨by omega, by omega⟩ ⟨by omega, by omega⟩ eL_law_752 (fun _ => ?_) (fun z => absurd rfl z)
  refine am_iload eL_law_757 rfl ?_
  refine am_if_ne ⟨by omega, by omega⟩ eL_law_759 (fun _ => am_goto eL_law_774 fin) (fun c1 => ?_)
  refine am_aload_n eL_law_762 rfl ?_
  refine am_iconst eL_law_763 ?_
  refine am_lald (len := 1) (x := (an_send σ (lz a1) a2 (lz a3))) eL_law_764 en_98 (by decide) (by decide) (by decide) (congrArg am_J (lx_at c1)) ?_
  refine am_iload eL_law_765 rfl ?_
  refine am_i2l (rg_send b3 hW) eL_law_767 ?_
  refine am_lcmp (rg_send b3 hW) (rg_send b3 hW) eL_law_768 (fun z hz hf => ?_)
  exact am_if_eq hz eL_law_769 (fun _ => am_goto eL_law_774 fin) (fun c => absurd (hf.mpr rfl) c)
set_option maxRecDepth 100000 in
set_option maxHeartbeats 4000000 in
theorem law_c9 {HH : List (Nat × Nat × Nat × Nat)} {G : am_G} {X : am_X} {Q : State → Prop} {σ : sg_S} {j : Nat} {iv : Int} {kc nc : Nat} (hR : sg_R j σ) (hj : j < 512) (hi : iv = 5 * (j : Int)) (hL1 : iv + 4 < (G.2.2.2.2.2.2.1 : Int)) (hL : G.2.2.2.2.2.2.1 ≤ 2560) (hk : kc ≤ 100 + 20 * j + 2 * (σ 51 0).toNat) (hn : nc ≤ 50000 + 2400 * j + 66 * (σ 51 0).toNat)
    (kk : ∀ (σ' : sg_S) (l5 l6 : Option am_AV) (kc' nc' : Nat), sg_R (j + 1) σ' → kc' ≤ 100 + 20 * (j + 1) + 2 * (σ' 51 0).toNat → nc' ≤ 50000 + 2400 * (j + 1) + 66 * (σ' 51 0).toNat → am_W G X (mLh HH) 11 601024 7293034 Q 2080 (lwL iv l5 l6) [] (en_h σ' σ') kc' nc') : am_W G X (mLh HH) 11 601024 7293034 Q 777 (lwL iv none none) [] (en_h σ σ) kc nc := by
  obtain ⟨hW, hT, h16, hJ⟩ := id hR
  obtain ⟨hP, hD, hB, hF, hU, hV, hN, h52⟩ := id hJ
  have h51 : 0 ≤ σ 51 0 := hD.1.1
  have hle := si_le hP
  obtain ⟨a1, e1⟩ : ∃ z, z = (G.2.2.2.2.2.2.2 (iv + 1).toNat).toInt := ⟨_, rfl⟩
  have r1 : -2147483648 ≤ a1 ∧ a1 < 2147483648 := by rw [e1]; exact xs_r _
  obtain ⟨a2, e2⟩ : ∃ z, z = (G.2.2.2.2.2.2.2 (iv + 2).toNat).toInt := ⟨_, rfl⟩
  have r2 : -2147483648 ≤ a2 ∧ a2 < 2147483648 := by rw [e2]; exact xs_r _
  have b2 := lz_01 (v := a2)
  obtain ⟨a3, e3⟩ : ∃ z, z = (G.2.2.2.2.2.2.2 (iv + 3).toNat).toInt := ⟨_, rfl⟩
  have r3 : -2147483648 ≤ a3 ∧ a3 < 2147483648 := by rw [e3]; exact xs_r _
  have b3 := lz_01 (v := a3)
  have hR1 : sg_R (j + 1) (sp_mark σ a1 (lz a2) (lz a3)) := sr_mark hR b2
  have h51a : (sp_mark σ a1 (lz a2) (lz a3)) 51 0 = σ 51 0 := by
    unfold sp_mark
    split
    · exact st_nf (by decide)
    · by_cases c : (a1 = if lz a2 = 0 then 0 else σ 3 0 - 1) ∨ 200 ≤ σ 12 (2 * a1.toNat + (lz a2).toNat)
      · rw [if_pos c]; exact st_nf (by decide)
      · rw [if_neg c, sp_writes_f (by decide), sp_kp_f (by decide) (by decide), st_nf (by decide), st_nf (by decide)]
  have hMC : ∀ f j, f < 43 → (sp_mark σ a1 (lz a2) (lz a3)) f j = (sp_mark σ a1 (lz a2) (lz a3)) f j := fun _ _ _ => rfl
  have hWM : md_wb 110000 (sp_mark σ a1 (lz a2) (lz a3)) := wb_of hR1.1 hMC
  obtain ⟨S, hS⟩ : ∃ S, S = sp_mark σ a1 (lz a2) (lz a3) := ⟨_, rfl⟩
  have hMS : ∀ f j, f < 43 → (sp_mark σ a1 (lz a2) (lz a3)) f j = S f j := fun f j hf => (hMC f j hf).trans (by rw [hS])
  rw [← hS] at hR1 h51a
  have h00 : (sp_mark σ a1 (lz a2) (lz a3)) 0 0 = S 0 0 := hMS 0 0 (by decide)
  have w0 := wb0 hWM 0
  rw [h00] at w0
  have fin : am_W G X (mLh HH) 11 601024 7293034 Q 2080 (lwL iv (some (am_I (S 0 0))) (some (am_I (an_mark σ a1 (lz a2) (lz a3))))) [] (en_h (sp_mark σ a1 (lz a2) (lz a3)) (lx_w S (an_mark σ a1 (lz a2) (lz a3)))) (kc + 4) (nc + 24) := by
    rw [en_m_ag (m := lx_w S (an_mark σ a1 (lz a2) (lz a3))) (fun f j hf => (hMS f j hf).trans (lx_lo (by omega)).symm)]
    exact kk (lx_w S (an_mark σ a1 (lz a2) (lz a3))) _ _ _ _ (sg_R_w hR1) (by rw [lx_lo (by decide)]; omega) (by rw [lx_lo (by decide)]; omega)
  refine am_aload_n eL_law_777 rfl ?_
  refine lw_arg (a := a1) eL_law_778 eL_law_779 eL_law_781 eL_law_782 eL_law_783 (by omega) (by omega) hL e1 ?_
  refine lw_arg (a := a2) eL_law_784 eL_law_785 eL_law_787 eL_law_788 eL_law_789 (by omega) (by omega) hL e2 ?_
  refine lw_bool eL_law_790 eL_law_793 eL_law_794 eL_law_797 r2 ?_
  refine lw_arg (a := a3) eL_law_798 eL_law_799 eL_law_801 eL_law_802 eL_law_803 (by omega) (by omega) hL e3 ?_
  refine lw_bool eL_law_804 eL_law_807 eL_law_808 eL_law_811 r3 ?_
  refine am_aload_n eL_law_812 rfl ?_
  refine am_callSH (mc' := 4) (ms' := 24) eL_law_813 kL_140 (c_L_mark (c := S) (by rw [hS]; exact c_X8_mark (m := σ) hW r1 b2 b3) (rg_mark hW)) rfl rfl (by decide) (Nat.le_of_ble_eq_true rfl) (by simp) (by omega) (by omega) (fun r h' hq => ?_) (fun x h' hq => by obtain ⟨q1, -⟩ := hq; cases q1)
  obtain ⟨q1, rfl⟩ := hq
  cases q1
  refine am_steq (st' := [am_I (S 0 0)]) rfl ?_
  refine am_istore eL_law_816 (Nat.le_of_ble_eq_true rfl) ?_
  refine am_lseq (ls' := lwL iv (some (am_I (S 0 0))) none) rfl ?_
  refine am_aload_n eL_law_818 rfl ?_
  refine lw_arg (a := a1) eL_law_819 eL_law_820 eL_law_822 eL_law_823 eL_law_824 (by omega) (by omega) hL e1 ?_
  refine lw_arg (a := a2) eL_law_825 eL_law_826 eL_law_828 eL_law_829 eL_law_830 (by omega) (by omega) hL e2 ?_
  refine lw_bool eL_law_831 eL_law_834 eL_law_835 eL_law_838 r2 ?_
  refine lw_arg (a := a3) eL_law_839 eL_law_840 eL_law_842 eL_law_843 eL_law_844 (by omega) (by omega) hL e3 ?_
  refine lw_bool eL_law_845 eL_law_848 eL_law_849 eL_law_852 r3 ?_
  refine am_cV eL_law_853 kL_143 (c_X9_mark (m := σ) (x := lx_w S (an_mark σ a1 (lz a2) (lz a3))) hW r1 b2 b3) rfl rfl en_9 (by decide) (by decide) (Nat.le_of_ble_eq_true rfl) (by omega) (by omega) ?_
  refine am_istore eL_law_856 (Nat.le_of_ble_eq_true rfl) ?_
  refine am_lseq (ls' := lwL iv (some (am_I (S 0 0))) (some (am_I (an_mark σ a1 (lz a2) (lz a3))))) rfl ?_
  refine am_aload_n eL_law_858 rfl ?_
  refine am_cV eL_law_859 kL_107 (c_X9_thrown (m := sp_mark σ a1 (lz a2) (lz a3)) (x := lx_w S (an_mark σ a1 (lz a2) (lz a3))) hWM) rfl rfl en_9 (by decide) (by decide) (Nat.le_of_ble_eq_true rfl) (by omega) (by omega) ?_
  refine am_iload eL_law_862 rfl ?_
  refine am_topI_ h00 ?_
  refine am_icmp_eq ⟨by omega, by omega⟩ ⟨by omega, by omega⟩ eL_law_864 (fun _ => ?_) (fun z => absurd rfl z)
  refine am_iload eL_law_869 rfl ?_
  refine am_if_ne ⟨by omega, by omega⟩ eL_law_871 (fun _ => am_goto eL_law_886 fin) (fun c1 => ?_)
  refine am_aload_n eL_law_874 rfl ?_
  refine am_iconst eL_law_875 ?_
  refine am_lald (len := 1) (x := (an_mark σ a1 (lz a2) (lz a3))) eL_law_876 en_98 (by decide) (by decide) (by decide) (congrArg am_J (lx_at c1)) ?_
  refine am_iload eL_law_877 rfl ?_
  refine am_i2l (rg_mark hW) eL_law_879 ?_
  refine am_lcmp (rg_mark hW) (rg_mark hW) eL_law_880 (fun z hz hf => ?_)
  exact am_if_eq hz eL_law_881 (fun _ => am_goto eL_law_886 fin) (fun c => absurd (hf.mpr rfl) c)
