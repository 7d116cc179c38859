def sp_write (σ : sg_S) (a p l v : Int) : sg_S := if ¬ (0 ≤ a ∧ a ≤ 2) then st σ 0 0 1 else if ¬ (0 ≤ p ∧ p ≤ 91) ∨ ¬ (0 ≤ l ∧ l ≤ 91) ∨ ¬ (-1 ≤ v ∧ v ≤ 9999) then st σ 0 0 2 else if (sp_fnd σ a.toNat (92 * p + l) (σ 21 a.toNat).toNat) = -1 ∧ v ≠ -1 ∧ σ 21 a.toNat = 200 then st σ 0 0 3 else if v ≠ -1 then (if (sp_fnd σ a.toNat (92 * p + l) (σ 21 a.toNat).toNat) = -1 then st (st (st (st σ 0 0 0) 21 a.toNat (σ 21 a.toNat + 1)) 22 (200 * a.toNat + (σ 21 a.toNat).toNat) (92 * p + l)) 23 (200 * a.toNat + (σ 21 a.toNat).toNat) v else st (st (st (st σ 0 0 0) 21 a.toNat (σ 21 a.toNat + 0)) 22 (sp_fnd σ a.toNat (92 * p + l) (σ 21 a.toNat).toNat).toNat (92 * p + l)) 23 (sp_fnd σ a.toNat (92 * p + l) (σ 21 a.toNat).toNat).toNat v) else if (sp_fnd σ a.toNat (92 * p + l) (σ 21 a.toNat).toNat) ≠ -1 then st (st (st (st σ 0 0 0) 21 a.toNat (σ 21 a.toNat - 1)) 22 (sp_fnd σ a.toNat (92 * p + l) (σ 21 a.toNat).toNat).toNat (σ 22 (200 * a.toNat + (σ 21 a.toNat - 1).toNat))) 23 (sp_fnd σ a.toNat (92 * p + l) (σ 21 a.toNat).toNat).toNat (σ 23 (200 * a.toNat + (σ 21 a.toNat - 1).toNat)) else st σ 0 0 0
def an_write (σ : sg_S) (a p l v : Int) : Int := if ¬ (0 ≤ a ∧ a ≤ 2) then 0 else if ¬ (0 ≤ p ∧ p ≤ 91) ∨ ¬ (0 ≤ l ∧ l ≤ 91) ∨ ¬ (-1 ≤ v ∧ v ≤ 9999) then 0 else if (sp_fnd σ a.toNat (92 * p + l) (σ 21 a.toNat).toNat) = -1 ∧ v ≠ -1 ∧ σ 21 a.toNat = 200 then 0 else if (sp_fnd σ a.toNat (92 * p + l) (σ 21 a.toNat).toNat) = -1 then -1 else σ 23 (sp_fnd σ a.toNat (92 * p + l) (σ 21 a.toNat).toNat).toNat
theorem sp_fnd_st {σ : sg_S} {f j : Nat} {v : Int} (h : f ≠ 22) {b : Nat} {s : Int} : ∀ n, sp_fnd (st σ f j v) b s n = sp_fnd σ b s n
  | 0 => rfl
  | n + 1 => by simp only [sp_fnd, sp_fnd_st h n, st_nf (Ne.symm h)]
set_option maxRecDepth 100000 in
set_option maxHeartbeats 4000000 in
theorem c_X9_write {G : am_G} {m x : sg_S} {T : Int} (hW : md_wb T m) {a p l v : Int} (hr_a : -2147483648 ≤ a ∧ a < 2147483648) (hr_p : -2147483648 ≤ p ∧ p < 2147483648) (hr_l : -2147483648 ≤ l ∧ l < 2147483648) (hr_v : -2147483648 ≤ v ∧ v < 2147483648)   : am_Con G yX9_write wX9_write 3 0 0 [am_R (9, 0), am_I a, am_I p, am_I l, am_I v] (en_h m x) (am_is (am_I (an_write m a p l v)) (en_h (sp_write m a p l v) x)) := by
  refine am_of2 (Y := mX9_write) (by decide +kernel) rfl (fun z => by cases z) rfl rfl (Nat.le_of_ble_eq_true rfl) fun X => ?_
  refine am_aload_n eX9_write_0 rfl ?_
  refine am_iload_n eX9_write_1 rfl ?_
  refine am_cS eX9_write_2 kX9_155 (c_X9_isBook (a := a) ⟨by omega, by omega⟩) rfl rfl (by decide) (by decide) (Nat.le_of_ble_eq_true rfl) (Nat.zero_le _) (Nat.zero_le _) ?_
  refine am_bz_ne eX9_write_5 (fun c1 => ?_) (fun c1 => ?_)
  · refine am_iload_n eX9_write_12 rfl ?_
    refine am_iconst eX9_write_13 ?_
    refine am_bipush eX9_write_14 (by decide) ?_
    refine am_cS eX9_write_16 kX9_129 (c_X9_in (v := p) (lo := 0) (hi := 91) ⟨by omega, by omega⟩ ⟨by omega, by omega⟩ ⟨by omega, by omega⟩) rfl rfl (by decide) (by decide) (Nat.le_of_ble_eq_true rfl) (Nat.zero_le _) (Nat.zero_le _) ?_
    refine am_bz_eq eX9_write_19 (fun c2 => ?_) (fun c2 => ?_)
    · refine am_iconst eX9_write_44 ?_
      refine am_goto eX9_write_45 ?_
      refine md_put eX9_write_49 fX9_123 rfl rfl (by decide) trivial ?_
      refine am_aload_n eX9_write_52 rfl ?_
      refine md_getI (v := 2) eX9_write_53 fX9_123 rfl (by decide) st_eq ?_
      refine am_if_le ⟨by omega, by omega⟩ eX9_write_56 (fun z => absurd z (by decide)) (fun _ => ?_)
      refine am_iconst eX9_write_59 ?_
      refine am_ireturn eX9_write_60 rfl trivial (Nat.zero_le _) (Nat.zero_le _) ?_
      exact am_is_m (by first | rfl | (unfold an_write; (repeat' split) <;> first | rfl | omega)) (by first | rfl | (unfold sp_write; (repeat' split) <;> first | rfl | (exfalso; omega)))
    · refine am_iload_n eX9_write_22 rfl ?_
      refine am_iconst eX9_write_23 ?_
      refine am_bipush eX9_write_24 (by decide) ?_
      refine am_cS eX9_write_26 kX9_129 (c_X9_in (v := l) (lo := 0) (hi := 91) ⟨by omega, by omega⟩ ⟨by omega, by omega⟩ ⟨by omega, by omega⟩) rfl rfl (by decide) (by decide) (Nat.le_of_ble_eq_true rfl) (Nat.zero_le _) (Nat.zero_le _) ?_
      refine am_bz_eq eX9_write_29 (fun c4 => ?_) (fun c4 => ?_)
      · refine am_iconst eX9_write_44 ?_
        refine am_goto eX9_write_45 ?_
        refine md_put eX9_write_49 fX9_123 rfl rfl (by decide) trivial ?_
        refine am_aload_n eX9_write_52 rfl ?_
        refine md_getI (v := 2) eX9_write_53 fX9_123 rfl (by decide) st_eq ?_
        refine am_if_le ⟨by omega, by omega⟩ eX9_write_56 (fun z => absurd z (by decide)) (fun _ => ?_)
        refine am_iconst eX9_write_59 ?_
        refine am_ireturn eX9_write_60 rfl trivial (Nat.zero_le _) (Nat.zero_le _) ?_
        exact am_is_m (by first | rfl | (unfold an_write; (repeat' split) <;> first | rfl | omega)) (by first | rfl | (unfold sp_write; (repeat' split) <;> first | rfl | (exfalso; omega)))
      · refine am_iload eX9_write_32 rfl ?_
        refine am_iconst eX9_write_34 ?_
        refine am_sipush eX9_write_35 (by decide) ?_
        refine am_cS eX9_write_38 kX9_129 (c_X9_in (v := v) (lo := (-1)) (hi := 9999) ⟨by omega, by omega⟩ ⟨by omega, by omega⟩ ⟨by omega, by omega⟩) rfl rfl (by decide) (by decide) (Nat.le_of_ble_eq_true rfl) (Nat.zero_le _) (Nat.zero_le _) ?_
        refine am_bz_ne eX9_write_41 (fun c6 => ?_) (fun c6 => ?_)
        · refine am_iconst eX9_write_48 ?_
          refine md_put eX9_write_49 fX9_123 rfl rfl (by decide) trivial ?_
          refine am_aload_n eX9_write_52 rfl ?_
          refine md_getI (v := 0) eX9_write_53 fX9_123 rfl (by decide) st_eq ?_
          refine am_if_le ⟨by omega, by omega⟩ eX9_write_56 (fun _ => ?_) (fun z => absurd z (by decide))
          refine am_aload_n eX9_write_61 rfl ?_
          refine am_iload_n eX9_write_62 rfl ?_
          refine am_bipush eX9_write_63 (by decide) ?_
          refine am_iload_n eX9_write_65 rfl ?_
          refine am_imul eX9_write_66 ?_
          refine am_iload_n eX9_write_67 rfl ?_
          refine am_iadd eX9_write_68 ?_
          refine am_cV eX9_write_69 kX9_158 (c_X9_spotOf (m := (st m 0 0 0)) (x := x) (T := T) (wb_st (f := 0) hW (by show (0 : Int) ≤ _; omega) (by show _ ≤ (3 : Int); omega)) (b := a) (s := ((92 * p) + l)) (by omega) ⟨by omega, by omega⟩) rfl rfl en_9 (by decide) (by decide) (Nat.le_of_ble_eq_true rfl) (Nat.zero_le _) (Nat.zero_le _) ?_
          rw [sp_fnd_st (by decide), show (st m 0 0 0) 21 a.toNat = m 21 a.toNat from st_nf (by decide)]
          obtain ⟨f8, hf8⟩ : ∃ z, z = sp_fnd m a.toNat ((92 * p) + l) (m 21 a.toNat).toNat := ⟨_, rfl⟩
          rw [← hf8]
          have b9 := wb21 hW a.toNat
          have qf8 := sp_fnd_in (σ := m) (b := a.toNat) (s := ((92 * p) + l)) (m 21 a.toNat).toNat
          rw [← hf8] at qf8
          refine am_istore eX9_write_72 (by decide) ?_
          refine am_aload_n eX9_write_74 rfl ?_
          refine am_iload eX9_write_75 rfl ?_
          refine am_iconst eX9_write_77 ?_
          refine am_icmp_ne ⟨by omega, by omega⟩ ⟨by omega, by omega⟩ eX9_write_78 (fun c10 => ?_) (fun c10 => ?_)
          · refine am_iconst eX9_write_103 ?_
            refine md_put eX9_write_104 fX9_123 rfl rfl (by decide) trivial ?_
            refine am_heq (congrArg (fun z => en_h z x) st_st) ?_
            refine am_aload_n eX9_write_107 rfl ?_
            refine md_getI (v := 0) eX9_write_108 fX9_123 rfl (by decide) st_eq ?_
            refine am_if_le ⟨by omega, by omega⟩ eX9_write_111 (fun _ => ?_) (fun z => absurd z (by decide))
            refine am_iload eX9_write_116 rfl ?_
            refine am_iconst eX9_write_118 ?_
            refine am_icmp_ne ⟨by omega, by omega⟩ ⟨by omega, by omega⟩ eX9_write_119 (fun c12 => ?_) (fun c12 => ?_)
            · refine am_aload_n eX9_write_126 rfl ?_
              refine md_getA eX9_write_127 fX9_69 (by decide) (by decide) ?_
              refine am_iload eX9_write_130 rfl ?_
              refine md_ald (f := 23) (j := f8.toNat) (v := m 23 f8.toNat) eX9_write_132 (by show _ < 600; omega) rfl (by omega) ((st_nf (by decide)).trans rfl) ?_
              have b13 := wb23 hW f8.toNat
              refine am_istore eX9_write_133 (by decide) ?_
              refine am_iload eX9_write_135 rfl ?_
              refine am_iconst eX9_write_137 ?_
              refine am_icmp_eq ⟨by omega, by omega⟩ ⟨by omega, by omega⟩ eX9_write_138 (fun c14 => ?_) (fun c14 => ?_)
              · refine am_iload eX9_write_211 rfl ?_
                refine am_iconst eX9_write_213 ?_
                refine am_icmp_eq ⟨by omega, by omega⟩ ⟨by omega, by omega⟩ eX9_write_214 (fun c15 => ?_) (fun c15 => ?_)
                · refine am_iload eX9_write_275 rfl ?_
                  refine am_ireturn eX9_write_277 rfl trivial (Nat.zero_le _) (Nat.zero_le _) ?_
                  exact am_is_m (by first | rfl | (unfold an_write; (try (rw [← hf8])); (repeat' split) <;> first | rfl | omega)) (by first | rfl | (unfold sp_write; (try (rw [← hf8])); (repeat' split) <;> first | rfl | (exfalso; omega)))
                · refine am_aload_n eX9_write_217 rfl ?_
                  refine md_getA eX9_write_218 fX9_63 (by decide) (by decide) ?_
                  refine am_iload_n eX9_write_221 rfl ?_
                  refine am_dup2 eX9_write_222 ?_
                  refine md_ald (f := 21) (j := a.toNat) (v := m 21 a.toNat) eX9_write_223 (by show _ < 3; omega) rfl (by omega) ((st_nf (by decide)).trans rfl) ?_
                  have b16 := wb21 hW a.toNat
                  refine am_iconst eX9_write_224 ?_
                  refine am_isub eX9_write_225 ?_
                  refine md_ast (f := 21) (j := a.toNat) eX9_write_226 (by show _ < 3; omega) rfl (by omega) ?_
                  refine am_aload_n eX9_write_227 rfl ?_
                  refine md_getA eX9_write_228 fX9_66 (by decide) (by decide) ?_
                  refine am_iload eX9_write_231 rfl ?_
                  refine am_aload_n eX9_write_233 rfl ?_
                  refine md_getA eX9_write_234 fX9_66 (by decide) (by decide) ?_
                  refine am_sipush eX9_write_237 (by decide) ?_
                  refine am_iload_n eX9_write_240 rfl ?_
                  refine am_imul eX9_write_241 ?_
                  refine am_aload_n eX9_write_242 rfl ?_
                  refine md_getA eX9_write_243 fX9_63 (by decide) (by decide) ?_
                  refine am_iload_n eX9_write_246 rfl ?_
                  refine md_ald (f := 21) (j := a.toNat) (v := ((m 21 a.toNat) - 1)) eX9_write_247 (by show _ < 3; omega) rfl (by omega) st_eq ?_
                  refine am_iadd eX9_write_248 ?_
                  refine md_ald (f := 22) (j := ((200 * a.toNat) + (((m 21 a.toNat) - 1)).toNat)) (v := m 22 ((200 * a.toNat) + (((m 21 a.toNat) - 1)).toNat)) eX9_write_249 (by show _ < 600; omega) rfl (by omega) ((st_nf (by decide)).trans ((st_nf (by decide)).trans rfl)) ?_
                  have b17 := wb22 hW ((200 * a.toNat) + (((m 21 a.toNat) - 1)).toNat)
                  refine md_ast (f := 22) (j := f8.toNat) eX9_write_250 (by show _ < 600; omega) rfl (by omega) ?_
                  refine am_aload_n eX9_write_251 rfl ?_
                  refine md_getA eX9_write_252 fX9_69 (by decide) (by decide) ?_
                  refine am_iload eX9_write_255 rfl ?_
                  refine am_aload_n eX9_write_257 rfl ?_
                  refine md_getA eX9_write_258 fX9_69 (by decide) (by decide) ?_
                  refine am_sipush eX9_write_261 (by decide) ?_
                  refine am_iload_n eX9_write_264 rfl ?_
                  refine am_imul eX9_write_265 ?_
                  refine am_aload_n eX9_write_266 rfl ?_
                  refine md_getA eX9_write_267 fX9_63 (by decide) (by decide) ?_
                  refine am_iload_n eX9_write_270 rfl ?_
                  refine md_ald (f := 21) (j := a.toNat) (v := ((m 21 a.toNat) - 1)) eX9_write_271 (by show _ < 3; omega) rfl (by omega) ((st_nf (by decide)).trans st_eq) ?_
                  refine am_iadd eX9_write_272 ?_
                  refine md_ald (f := 23) (j := ((200 * a.toNat) + (((m 21 a.toNat) - 1)).toNat)) (v := m 23 ((200 * a.toNat) + (((m 21 a.toNat) - 1)).toNat)) eX9_write_273 (by show _ < 600; omega) rfl (by omega) ((st_nf (by decide)).trans ((st_nf (by decide)).trans ((st_nf (by decide)).trans rfl))) ?_
                  have b18 := wb23 hW ((200 * a.toNat) + (((m 21 a.toNat) - 1)).toNat)
                  refine md_ast (f := 23) (j := f8.toNat) eX9_write_274 (by show _ < 600; omega) rfl (by omega) ?_
                  refine am_iload eX9_write_275 rfl ?_
                  refine am_ireturn eX9_write_277 rfl trivial (Nat.zero_le _) (Nat.zero_le _) ?_
                  exact am_is_m (by first | rfl | (unfold an_write; (try (rw [← hf8])); (repeat' split) <;> first | rfl | omega)) (by first | rfl | (unfold sp_write; (try (rw [← hf8])); (repeat' split) <;> first | rfl | (exfalso; omega)))
              · refine am_iload eX9_write_141 rfl ?_
                refine am_iconst eX9_write_143 ?_
                refine am_icmp_ne ⟨by omega, by omega⟩ ⟨by omega, by omega⟩ eX9_write_144 (fun c19 => ?_) (fun c19 => ?_)
                · refine am_iload eX9_write_162 rfl ?_
                  refine am_istore eX9_write_164 (by decide) ?_
                  refine am_aload_n eX9_write_166 rfl ?_
                  refine md_getA eX9_write_167 fX9_63 (by decide) (by decide) ?_
                  refine am_iload_n eX9_write_170 rfl ?_
                  refine am_dup2 eX9_write_171 ?_
                  refine md_ald (f := 21) (j := a.toNat) (v := m 21 a.toNat) eX9_write_172 (by show _ < 3; omega) rfl (by omega) ((st_nf (by decide)).trans rfl) ?_
                  have b20 := wb21 hW a.toNat
                  refine am_iload eX9_write_173 rfl ?_
                  refine am_iconst eX9_write_175 ?_
                  refine am_icmp_ne ⟨by omega, by omega⟩ ⟨by omega, by omega⟩ eX9_write_176 (fun c21 => ?_) (fun c21 => ?_)
                  · refine am_iconst eX9_write_183 ?_
                    refine am_iadd eX9_write_184 ?_
                    refine md_ast (f := 21) (j := a.toNat) eX9_write_185 (by show _ < 3; omega) rfl (by omega) ?_
                    refine am_aload_n eX9_write_186 rfl ?_
                    refine md_getA eX9_write_187 fX9_66 (by decide) (by decide) ?_
                    refine am_iload eX9_write_190 rfl ?_
                    refine am_bipush eX9_write_192 (by decide) ?_
                    refine am_iload_n eX9_write_194 rfl ?_
                    refine am_imul eX9_write_195 ?_
                    refine am_iload_n eX9_write_196 rfl ?_
                    refine am_iadd eX9_write_197 ?_
                    refine md_ast (f := 22) (j := f8.toNat) eX9_write_198 (by show _ < 600; omega) rfl (by omega) ?_
                    refine am_aload_n eX9_write_199 rfl ?_
                    refine md_getA eX9_write_200 fX9_69 (by decide) (by decide) ?_
                    refine am_iload eX9_write_203 rfl ?_
                    refine am_iload eX9_write_205 rfl ?_
                    refine md_ast (f := 23) (j := f8.toNat) eX9_write_207 (by show _ < 600; omega) rfl (by omega) ?_
                    refine am_goto eX9_write_208 ?_
                    refine am_iload eX9_write_275 rfl ?_
                    refine am_ireturn eX9_write_277 rfl trivial (Nat.zero_le _) (Nat.zero_le _) ?_
                    exact am_is_m (by first | rfl | (unfold an_write; (try (rw [← hf8])); (repeat' split) <;> first | rfl | omega)) (by first | rfl | (unfold sp_write; (try (rw [← hf8])); (repeat' split) <;> first | rfl | (exfalso; omega)))
                  · refine am_iconst eX9_write_179 ?_
                    refine am_goto eX9_write_180 ?_
                    refine am_iadd eX9_write_184 ?_
                    refine md_ast (f := 21) (j := a.toNat) eX9_write_185 (by show _ < 3; omega) rfl (by omega) ?_
                    refine am_aload_n eX9_write_186 rfl ?_
                    refine md_getA eX9_write_187 fX9_66 (by decide) (by decide) ?_
                    refine am_iload eX9_write_190 rfl ?_
                    refine am_bipush eX9_write_192 (by decide) ?_
                    refine am_iload_n eX9_write_194 rfl ?_
                    refine am_imul eX9_write_195 ?_
                    refine am_iload_n eX9_write_196 rfl ?_
                    refine am_iadd eX9_write_197 ?_
                    refine md_ast (f := 22) (j := f8.toNat) eX9_write_198 (by show _ < 600; omega) rfl (by omega) ?_
                    refine am_aload_n eX9_write_199 rfl ?_
                    refine md_getA eX9_write_200 fX9_69 (by decide) (by decide) ?_
                    refine am_iload eX9_write_203 rfl ?_
                    refine am_iload eX9_write_205 rfl ?_
                    refine md_ast (f := 23) (j := f8.toNat) eX9_write_207 (by show _ < 600; omega) rfl (by omega) ?_
                    refine am_goto eX9_write_208 ?_
                    refine am_iload eX9_write_275 rfl ?_
                    refine am_ireturn eX9_write_277 rfl trivial (Nat.zero_le _) (Nat.zero_le _) ?_
                    exact am_is_m (by first | rfl | (unfold an_write; (try (rw [← hf8])); (repeat' split) <;> first | rfl | omega)) (by first | rfl | (unfold sp_write; (try (rw [← hf8])); (repeat' split) <;> first | rfl | (exfalso; omega)))
                · refine am_sipush eX9_write_147 (by decide) ?_
                  refine am_iload_n eX9_write_150 rfl ?_
                  refine am_imul eX9_write_151 ?_
                  refine am_aload_n eX9_write_152 rfl ?_
                  refine md_getA eX9_write_153 fX9_63 (by decide) (by decide) ?_
                  refine am_iload_n eX9_write_156 rfl ?_
                  refine md_ald (f := 21) (j := a.toNat) (v := m 21 a.toNat) eX9_write_157 (by show _ < 3; omega) rfl (by omega) ((st_nf (by decide)).trans rfl) ?_
                  have b22 := wb21 hW a.toNat
                  refine am_iadd eX9_write_158 ?_
                  refine am_goto eX9_write_159 ?_
                  refine am_istore eX9_write_164 (by decide) ?_
                  refine am_aload_n eX9_write_166 rfl ?_
                  refine md_getA eX9_write_167 fX9_63 (by decide) (by decide) ?_
                  refine am_iload_n eX9_write_170 rfl ?_
                  refine am_dup2 eX9_write_171 ?_
                  refine md_ald (f := 21) (j := a.toNat) (v := m 21 a.toNat) eX9_write_172 (by show _ < 3; omega) rfl (by omega) ((st_nf (by decide)).trans rfl) ?_
                  have b23 := wb21 hW a.toNat
                  refine am_iload eX9_write_173 rfl ?_
                  refine am_iconst eX9_write_175 ?_
                  refine am_icmp_ne ⟨by omega, by omega⟩ ⟨by omega, by omega⟩ eX9_write_176 (fun c24 => ?_) (fun c24 => ?_)
                  · refine am_iconst eX9_write_183 ?_
                    refine am_iadd eX9_write_184 ?_
                    refine md_ast (f := 21) (j := a.toNat) eX9_write_185 (by show _ < 3; omega) rfl (by omega) ?_
                    refine am_aload_n eX9_write_186 rfl ?_
                    refine md_getA eX9_write_187 fX9_66 (by decide) (by decide) ?_
                    refine am_iload eX9_write_190 rfl ?_
                    refine am_bipush eX9_write_192 (by decide) ?_
                    refine am_iload_n eX9_write_194 rfl ?_
                    refine am_imul eX9_write_195 ?_
                    refine am_iload_n eX9_write_196 rfl ?_
                    refine am_iadd eX9_write_197 ?_
                    refine md_ast (f := 22) (j := ((200 * a.toNat) + (m 21 a.toNat).toNat)) eX9_write_198 (by show _ < 600; omega) rfl (by omega) ?_
                    refine am_aload_n eX9_write_199 rfl ?_
                    refine md_getA eX9_write_200 fX9_69 (by decide) (by decide) ?_
                    refine am_iload eX9_write_203 rfl ?_
                    refine am_iload eX9_write_205 rfl ?_
                    refine md_ast (f := 23) (j := ((200 * a.toNat) + (m 21 a.toNat).toNat)) eX9_write_207 (by show _ < 600; omega) rfl (by omega) ?_
                    refine am_goto eX9_write_208 ?_
                    refine am_iload eX9_write_275 rfl ?_
                    refine am_ireturn eX9_write_277 rfl trivial (Nat.zero_le _) (Nat.zero_le _) ?_
                    exact am_is_m (by first | rfl | (unfold an_write; (try (rw [← hf8])); (repeat' split) <;> first | rfl | omega)) (by first | rfl | (unfold sp_write; (try (rw [← hf8])); (repeat' split) <;> first | rfl | (exfalso; omega)))
                  · refine am_iconst eX9_write_179 ?_
                    refine am_goto eX9_write_180 ?_
                    refine am_iadd eX9_write_184 ?_
                    refine md_ast (f := 21) (j := a.toNat) eX9_write_185 (by show _ < 3; omega) rfl (by omega) ?_
                    refine am_aload_n eX9_write_186 rfl ?_
                    refine md_getA eX9_write_187 fX9_66 (by decide) (by decide) ?_
                    refine am_iload eX9_write_190 rfl ?_
                    refine am_bipush eX9_write_192 (by decide) ?_
                    refine am_iload_n eX9_write_194 rfl ?_
                    refine am_imul eX9_write_195 ?_
                    refine am_iload_n eX9_write_196 rfl ?_
                    refine am_iadd eX9_write_197 ?_
                    refine md_ast (f := 22) (j := ((200 * a.toNat) + (m 21 a.toNat).toNat)) eX9_write_198 (by show _ < 600; omega) rfl (by omega) ?_
                    refine am_aload_n eX9_write_199 rfl ?_
                    refine md_getA eX9_write_200 fX9_69 (by decide) (by decide) ?_
                    refine am_iload eX9_write_203 rfl ?_
                    refine am_iload eX9_write_205 rfl ?_
                    refine md_ast (f := 23) (j := ((200 * a.toNat) + (m 21 a.toNat).toNat)) eX9_write_207 (by show _ < 600; omega) rfl (by omega) ?_
                    refine am_goto eX9_write_208 ?_
                    refine am_iload eX9_write_275 rfl ?_
                    refine am_ireturn eX9_write_277 rfl trivial (Nat.zero_le _) (Nat.zero_le _) ?_
                    exact am_is_m (by first | rfl | (unfold an_write; (try (rw [← hf8])); (repeat' split) <;> first | rfl | omega)) (by first | rfl | (unfold sp_write; (try (rw [← hf8])); (repeat' split) <;> first | rfl | (exfalso; omega)))
            · refine am_iconst eX9_write_122 ?_
              refine am_goto eX9_write_123 ?_
              refine am_istore eX9_write_133 (by decide) ?_
              refine am_iload eX9_write_135 rfl ?_
              refine am_iconst eX9_write_137 ?_
              refine am_icmp_eq ⟨by omega, by omega⟩ ⟨by omega, by omega⟩ eX9_write_138 (fun c25 => ?_) (fun c25 => ?_)
              · refine am_iload eX9_write_211 rfl ?_
                refine am_iconst eX9_write_213 ?_
                refine am_icmp_eq ⟨by omega, by omega⟩ ⟨by omega, by omega⟩ eX9_write_214 (fun c26 => ?_) (fun c26 => ?_)
                · refine am_iload eX9_write_275 rfl ?_
                  refine am_ireturn eX9_write_277 rfl trivial (Nat.zero_le _) (Nat.zero_le _) ?_
                  exact am_is_m (by first | rfl | (unfold an_write; (try (rw [← hf8])); (repeat' split) <;> first | rfl | omega)) (by first | rfl | (unfold sp_write; (try (rw [← hf8])); (repeat' split) <;> first | rfl | (exfalso; omega)))
                · refine am_aload_n eX9_write_217 rfl ?_
                  refine md_getA eX9_write_218 fX9_63 (by decide) (by decide) ?_
                  refine am_iload_n eX9_write_221 rfl ?_
                  refine am_dup2 eX9_write_222 ?_
                  refine md_ald (f := 21) (j := a.toNat) (v := m 21 a.toNat) eX9_write_223 (by show _ < 3; omega) rfl (by omega) ((st_nf (by decide)).trans rfl) ?_
                  have b27 := wb21 hW a.toNat
                  refine am_iconst eX9_write_224 ?_
                  refine am_isub eX9_write_225 ?_
                  refine md_ast (f := 21) (j := a.toNat) eX9_write_226 (by show _ < 3; omega) rfl (by omega) ?_
                  refine am_aload_n eX9_write_227 rfl ?_
                  refine md_getA eX9_write_228 fX9_66 (by decide) (by decide) ?_
                  refine am_iload eX9_write_231 rfl ?_
                  refine am_aload_n eX9_write_233 rfl ?_
                  refine md_getA eX9_write_234 fX9_66 (by decide) (by decide) ?_
                  refine am_sipush eX9_write_237 (by decide) ?_
                  refine am_iload_n eX9_write_240 rfl ?_
                  refine am_imul eX9_write_241 ?_
                  refine am_aload_n eX9_write_242 rfl ?_
                  refine md_getA eX9_write_243 fX9_63 (by decide) (by decide) ?_
                  refine am_iload_n eX9_write_246 rfl ?_
                  refine md_ald (f := 21) (j := a.toNat) (v := ((m 21 a.toNat) - 1)) eX9_write_247 (by show _ < 3; omega) rfl (by omega) st_eq ?_
                  refine am_iadd eX9_write_248 ?_
                  refine md_ald (f := 22) (j := ((200 * a.toNat) + (((m 21 a.toNat) - 1)).toNat)) (v := m 22 ((200 * a.toNat) + (((m 21 a.toNat) - 1)).toNat)) eX9_write_249 (by show _ < 600; omega) rfl (by omega) ((st_nf (by decide)).trans ((st_nf (by decide)).trans rfl)) ?_
                  have b28 := wb22 hW ((200 * a.toNat) + (((m 21 a.toNat) - 1)).toNat)
                  refine md_ast (f := 22) (j := f8.toNat) eX9_write_250 (by show _ < 600; omega) rfl (by omega) ?_
                  refine am_aload_n eX9_write_251 rfl ?_
                  refine md_getA eX9_write_252 fX9_69 (by decide) (by decide) ?_
                  refine am_iload eX9_write_255 rfl ?_
                  refine am_aload_n eX9_write_257 rfl ?_
                  refine md_getA eX9_write_258 fX9_69 (by decide) (by decide) ?_
                  refine am_sipush eX9_write_261 (by decide) ?_
                  refine am_iload_n eX9_write_264 rfl ?_
                  refine am_imul eX9_write_265 ?_
                  refine am_aload_n eX9_write_266 rfl ?_
                  refine md_getA eX9_write_267 fX9_63 (by decide) (by decide) ?_
                  refine am_iload_n eX9_write_270 rfl ?_
                  refine md_ald (f := 21) (j := a.toNat) (v := ((m 21 a.toNat) - 1)) eX9_write_271 (by show _ < 3; omega) rfl (by omega) ((st_nf (by decide)).trans st_eq) ?_
                  refine am_iadd eX9_write_272 ?_
                  refine md_ald (f := 23) (j := ((200 * a.toNat) + (((m 21 a.toNat) - 1)).toNat)) (v := m 23 ((200 * a.toNat) + (((m 21 a.toNat) - 1)).toNat)) eX9_write_273 (by show _ < 600; omega) rfl (by omega) ((st_nf (by decide)).trans ((st_nf (by decide)).trans ((st_nf (by decide)).trans rfl))) ?_
                  have b29 := wb23 hW ((200 * a.toNat) + (((m 21 a.toNat) - 1)).toNat)
                  refine md_ast (f := 23) (j := f8.toNat) eX9_write_274 (by show _ < 600; omega) rfl (by omega) ?_
                  refine am_iload eX9_write_275 rfl ?_
                  refine am_ireturn eX9_write_277 rfl trivial (Nat.zero_le _) (Nat.zero_le _) ?_
                  exact am_is_m (by first | rfl | (unfold an_write; (try (rw [← hf8])); (repeat' split) <;> first | rfl | omega)) (by first | rfl | (unfold sp_write; (try (rw [← hf8])); (repeat' split) <;> first | rfl | (exfalso; omega)))
              · refine am_iload eX9_write_141 rfl ?_
                refine am_iconst eX9_write_143 ?_
                refine am_icmp_ne ⟨by omega, by omega⟩ ⟨by omega, by omega⟩ eX9_write_144 (fun c30 => ?_) (fun c30 => ?_)
                · refine am_iload eX9_write_162 rfl ?_
                  refine am_istore eX9_write_164 (by decide) ?_
                  refine am_aload_n eX9_write_166 rfl ?_
                  refine md_getA eX9_write_167 fX9_63 (by decide) (by decide) ?_
                  refine am_iload_n eX9_write_170 rfl ?_
                  refine am_dup2 eX9_write_171 ?_
                  refine md_ald (f := 21) (j := a.toNat) (v := m 21 a.toNat) eX9_write_172 (by show _ < 3; omega) rfl (by omega) ((st_nf (by decide)).trans rfl) ?_
                  have b31 := wb21 hW a.toNat
                  refine am_iload eX9_write_173 rfl ?_
                  refine am_iconst eX9_write_175 ?_
                  refine am_icmp_ne ⟨by omega, by omega⟩ ⟨by omega, by omega⟩ eX9_write_176 (fun c32 => ?_) (fun c32 => ?_)
                  · refine am_iconst eX9_write_183 ?_
                    refine am_iadd eX9_write_184 ?_
                    refine md_ast (f := 21) (j := a.toNat) eX9_write_185 (by show _ < 3; omega) rfl (by omega) ?_
                    refine am_aload_n eX9_write_186 rfl ?_
                    refine md_getA eX9_write_187 fX9_66 (by decide) (by decide) ?_
                    refine am_iload eX9_write_190 rfl ?_
                    refine am_bipush eX9_write_192 (by decide) ?_
                    refine am_iload_n eX9_write_194 rfl ?_
                    refine am_imul eX9_write_195 ?_
                    refine am_iload_n eX9_write_196 rfl ?_
                    refine am_iadd eX9_write_197 ?_
                    refine md_ast (f := 22) (j := f8.toNat) eX9_write_198 (by show _ < 600; omega) rfl (by omega) ?_
                    refine am_aload_n eX9_write_199 rfl ?_
                    refine md_getA eX9_write_200 fX9_69 (by decide) (by decide) ?_
                    refine am_iload eX9_write_203 rfl ?_
                    refine am_iload eX9_write_205 rfl ?_
                    refine md_ast (f := 23) (j := f8.toNat) eX9_write_207 (by show _ < 600; omega) rfl (by omega) ?_
                    refine am_goto eX9_write_208 ?_
                    refine am_iload eX9_write_275 rfl ?_
                    refine am_ireturn eX9_write_277 rfl trivial (Nat.zero_le _) (Nat.zero_le _) ?_
                    exact am_is_m (by first | rfl | (unfold an_write; (try (rw [← hf8])); (repeat' split) <;> first | rfl | omega)) (by first | rfl | (unfold sp_write; (try (rw [← hf8])); (repeat' split) <;> first | rfl | (exfalso; omega)))
                  · refine am_iconst eX9_write_179 ?_
                    refine am_goto eX9_write_180 ?_
                    refine am_iadd eX9_write_184 ?_
                    refine md_ast (f := 21) (j := a.toNat) eX9_write_185 (by show _ < 3; omega) rfl (by omega) ?_
                    refine am_aload_n eX9_write_186 rfl ?_
                    refine md_getA eX9_write_187 fX9_66 (by decide) (by decide) ?_
                    refine am_iload eX9_write_190 rfl ?_
                    refine am_bipush eX9_write_192 (by decide) ?_
                    refine am_iload_n eX9_write_194 rfl ?_
                    refine am_imul eX9_write_195 ?_
                    refine am_iload_n eX9_write_196 rfl ?_
                    refine am_iadd eX9_write_197 ?_
                    refine md_ast (f := 22) (j := f8.toNat) eX9_write_198 (by show _ < 600; omega) rfl (by omega) ?_
                    refine am_aload_n eX9_write_199 rfl ?_
                    refine md_getA eX9_write_200 fX9_69 (by decide) (by decide) ?_
                    refine am_iload eX9_write_203 rfl ?_
                    refine am_iload eX9_write_205 rfl ?_
                    refine md_ast (f := 23) (j := f8.toNat) eX9_write_207 (by show _ < 600; omega) rfl (by omega) ?_
                    refine am_goto eX9_write_208 ?_
                    refine am_iload eX9_write_275 rfl ?_
                    refine am_ireturn eX9_write_277 rfl trivial (Nat.zero_le _) (Nat.zero_le _) ?_
                    exact am_is_m (by first | rfl | (unfold an_write; (try (rw [← hf8])); (repeat' split) <;> first | rfl | omega)) (by first | rfl | (unfold sp_write; (try (rw [← hf8])); (repeat' split) <;> first | rfl | (exfalso; omega)))
                · refine am_sipush eX9_write_147 (by decide) ?_
                  refine am_iload_n eX9_write_150 rfl ?_
                  refine am_imul eX9_write_151 ?_
                  refine am_aload_n eX9_write_152 rfl ?_
                  refine md_getA eX9_write_153 fX9_63 (by decide) (by decide) ?_
                  refine am_iload_n eX9_write_156 rfl ?_
                  refine md_ald (f := 21) (j := a.toNat) (v := m 21 a.toNat) eX9_write_157 (by show _ < 3; omega) rfl (by omega) ((st_nf (by decide)).trans rfl) ?_
                  have b33 := wb21 hW a.toNat
                  refine am_iadd eX9_write_158 ?_
                  refine am_goto eX9_write_159 ?_
                  refine am_istore eX9_write_164 (by decide) ?_
                  refine am_aload_n eX9_write_166 rfl ?_
                  refine md_getA eX9_write_167 fX9_63 (by decide) (by decide) ?_
                  refine am_iload_n eX9_write_170 rfl ?_
                  refine am_dup2 eX9_write_171 ?_
                  refine md_ald (f := 21) (j := a.toNat) (v := m 21 a.toNat) eX9_write_172 (by show _ < 3; omega) rfl (by omega) ((st_nf (by decide)).trans rfl) ?_
                  have b34 := wb21 hW a.toNat
                  refine am_iload eX9_write_173 rfl ?_
                  refine am_iconst eX9_write_175 ?_
                  refine am_icmp_ne ⟨by omega, by omega⟩ ⟨by omega, by omega⟩ eX9_write_176 (fun c35 => ?_) (fun c35 => ?_)
                  · refine am_iconst eX9_write_183 ?_
                    refine am_iadd eX9_write_184 ?_
                    refine md_ast (f := 21) (j := a.toNat) eX9_write_185 (by show _ < 3; omega) rfl (by omega) ?_
                    refine am_aload_n eX9_write_186 rfl ?_
                    refine md_getA eX9_write_187 fX9_66 (by decide) (by decide) ?_
                    refine am_iload eX9_write_190 rfl ?_
                    refine am_bipush eX9_write_192 (by decide) ?_
                    refine am_iload_n eX9_write_194 rfl ?_
                    refine am_imul eX9_write_195 ?_
                    refine am_iload_n eX9_write_196 rfl ?_
                    refine am_iadd eX9_write_197 ?_
                    refine md_ast (f := 22) (j := ((200 * a.toNat) + (m 21 a.toNat).toNat)) eX9_write_198 (by show _ < 600; omega) rfl (by omega) ?_
                    refine am_aload_n eX9_write_199 rfl ?_
                    refine md_getA eX9_write_200 fX9_69 (by decide) (by decide) ?_
                    refine am_iload eX9_write_203 rfl ?_
                    refine am_iload eX9_write_205 rfl ?_
                    refine md_ast (f := 23) (j := ((200 * a.toNat) + (m 21 a.toNat).toNat)) eX9_write_207 (by show _ < 600; omega) rfl (by omega) ?_
                    refine am_goto eX9_write_208 ?_
                    refine am_iload eX9_write_275 rfl ?_
                    refine am_ireturn eX9_write_277 rfl trivial (Nat.zero_le _) (Nat.zero_le _) ?_
                    exact am_is_m (by first | rfl | (unfold an_write; (try (rw [← hf8])); (repeat' split) <;> first | rfl | omega)) (by first | rfl | (unfold sp_write; (try (rw [← hf8])); (repeat' split) <;> first | rfl | (exfalso; omega)))
                  · refine am_iconst eX9_write_179 ?_
                    refine am_goto eX9_write_180 ?_
                    refine am_iadd eX9_write_184 ?_
                    refine md_ast (f := 21) (j := a.toNat) eX9_write_185 (by show _ < 3; omega) rfl (by omega) ?_
                    refine am_aload_n eX9_write_186 rfl ?_
                    refine md_getA eX9_write_187 fX9_66 (by decide) (by decide) ?_
                    refine am_iload eX9_write_190 rfl ?_
                    refine am_bipush eX9_write_192 (by decide) ?_
                    refine am_iload_n eX9_write_194 rfl ?_
                    refine am_imul eX9_write_195 ?_
                    refine am_iload_n eX9_write_196 rfl ?_
                    refine am_iadd eX9_write_197 ?_
                    refine md_ast (f := 22) (j := ((200 * a.toNat) + (m 21 a.toNat).toNat)) eX9_write_198 (by show _ < 600; omega) rfl (by omega) ?_
                    refine am_aload_n eX9_write_199 rfl ?_
                    refine md_getA eX9_write_200 fX9_69 (by decide) (by decide) ?_
                    refine am_iload eX9_write_203 rfl ?_
                    refine am_iload eX9_write_205 rfl ?_
                    refine md_ast (f := 23) (j := ((200 * a.toNat) + (m 21 a.toNat).toNat)) eX9_write_207 (by show _ < 600; omega) rfl (by omega) ?_
                    refine am_goto eX9_write_208 ?_
                    refine am_iload eX9_write_275 rfl ?_
                    refine am_ireturn eX9_write_277 rfl trivial (Nat.zero_le _) (Nat.zero_le _) ?_
                    exact am_is_m (by first | rfl | (unfold an_write; (try (rw [← hf8])); (repeat' split) <;> first | rfl | omega)) (by first | rfl | (unfold sp_write; (try (rw [← hf8])); (repeat' split) <;> first | rfl | (exfalso; omega)))
          · refine am_iload eX9_write_81 rfl ?_
            refine am_iconst eX9_write_83 ?_
            refine am_icmp_eq ⟨by omega, by omega⟩ ⟨by omega, by omega⟩ eX9_write_84 (fun c36 => ?_) (fun c36 => ?_)
            · refine am_iconst eX9_write_103 ?_
              refine md_put eX9_write_104 fX9_123 rfl rfl (by decide) trivial ?_
              refine am_heq (congrArg (fun z => en_h z x) st_st) ?_
              refine am_aload_n eX9_write_107 rfl ?_
              refine md_getI (v := 0) eX9_write_108 fX9_123 rfl (by decide) st_eq ?_
              refine am_if_le ⟨by omega, by omega⟩ eX9_write_111 (fun _ => ?_) (fun z => absurd z (by decide))
              refine am_iload eX9_write_116 rfl ?_
              refine am_iconst eX9_write_118 ?_
              refine am_icmp_ne ⟨by omega, by omega⟩ ⟨by omega, by omega⟩ eX9_write_119 (fun c38 => ?_) (fun c38 => ?_)
              · refine am_aload_n eX9_write_126 rfl ?_
                refine md_getA eX9_write_127 fX9_69 (by decide) (by decide) ?_
                refine am_iload eX9_write_130 rfl ?_
                refine md_ald (f := 23) (j := f8.toNat) (v := m 23 f8.toNat) eX9_write_132 (by show _ < 600; omega) rfl (by omega) ((st_nf (by decide)).trans rfl) ?_
                have b39 := wb23 hW f8.toNat
                refine am_istore eX9_write_133 (by decide) ?_
                refine am_iload eX9_write_135 rfl ?_
                refine am_iconst eX9_write_137 ?_
                refine am_icmp_eq ⟨by omega, by omega⟩ ⟨by omega, by omega⟩ eX9_write_138 (fun c40 => ?_) (fun c40 => ?_)
                · refine am_iload eX9_write_211 rfl ?_
                  refine am_iconst eX9_write_213 ?_
                  refine am_icmp_eq ⟨by omega, by omega⟩ ⟨by omega, by omega⟩ eX9_write_214 (fun c41 => ?_) (fun c41 => ?_)
                  · refine am_iload eX9_write_275 rfl ?_
                    refine am_ireturn eX9_write_277 rfl trivial (Nat.zero_le _) (Nat.zero_le _) ?_
                    exact am_is_m (by first | rfl | (unfold an_write; (try (rw [← hf8])); (repeat' split) <;> first | rfl | omega)) (by first | rfl | (unfold sp_write; (try (rw [← hf8])); (repeat' split) <;> first | rfl | (exfalso; omega)))
                  · refine am_aload_n eX9_write_217 rfl ?_
                    refine md_getA eX9_write_218 fX9_63 (by decide) (by decide) ?_
                    refine am_iload_n eX9_write_221 rfl ?_
                    refine am_dup2 eX9_write_222 ?_
                    refine md_ald (f := 21) (j := a.toNat) (v := m 21 a.toNat) eX9_write_223 (by show _ < 3; omega) rfl (by omega) ((st_nf (by decide)).trans rfl) ?_
                    have b42 := wb21 hW a.toNat
                    refine am_iconst eX9_write_224 ?_
                    refine am_isub eX9_write_225 ?_
                    refine md_ast (f := 21) (j := a.toNat) eX9_write_226 (by show _ < 3; omega) rfl (by omega) ?_
                    refine am_aload_n eX9_write_227 rfl ?_
                    refine md_getA eX9_write_228 fX9_66 (by decide) (by decide) ?_
                    refine am_iload eX9_write_231 rfl ?_
                    refine am_aload_n eX9_write_233 rfl ?_
                    refine md_getA eX9_write_234 fX9_66 (by decide) (by decide) ?_
                    refine am_sipush eX9_write_237 (by decide) ?_
                    refine am_iload_n eX9_write_240 rfl ?_
                    refine am_imul eX9_write_241 ?_
                    refine am_aload_n eX9_write_242 rfl ?_
                    refine md_getA eX9_write_243 fX9_63 (by decide) (by decide) ?_
                    refine am_iload_n eX9_write_246 rfl ?_
                    refine md_ald (f := 21) (j := a.toNat) (v := ((m 21 a.toNat) - 1)) eX9_write_247 (by show _ < 3; omega) rfl (by omega) st_eq ?_
                    refine am_iadd eX9_write_248 ?_
                    refine md_ald (f := 22) (j := ((200 * a.toNat) + (((m 21 a.toNat) - 1)).toNat)) (v := m 22 ((200 * a.toNat) + (((m 21 a.toNat) - 1)).toNat)) eX9_write_249 (by show _ < 600; omega) rfl (by omega) ((st_nf (by decide)).trans ((st_nf (by decide)).trans rfl)) ?_
                    have b43 := wb22 hW ((200 * a.toNat) + (((m 21 a.toNat) - 1)).toNat)
                    refine md_ast (f := 22) (j := f8.toNat) eX9_write_250 (by show _ < 600; omega) rfl (by omega) ?_
                    refine am_aload_n eX9_write_251 rfl ?_
                    refine md_getA eX9_write_252 fX9_69 (by decide) (by decide) ?_
                    refine am_iload eX9_write_255 rfl ?_
                    refine am_aload_n eX9_write_257 rfl ?_
                    refine md_getA eX9_write_258 fX9_69 (by decide) (by decide) ?_
                    refine am_sipush eX9_write_261 (by decide) ?_
                    refine am_iload_n eX9_write_264 rfl ?_
                    refine am_imul eX9_write_265 ?_
                    refine am_aload_n eX9_write_266 rfl ?_
                    refine md_getA eX9_write_267 fX9_63 (by decide) (by decide) ?_
                    refine am_iload_n eX9_write_270 rfl ?_
                    refine md_ald (f := 21) (j := a.toNat) (v := ((m 21 a.toNat) - 1)) eX9_write_271 (by show _ < 3; omega) rfl (by omega) ((st_nf (by decide)).trans st_eq) ?_
                    refine am_iadd eX9_write_272 ?_
                    refine md_ald (f := 23) (j := ((200 * a.toNat) + (((m 21 a.toNat) - 1)).toNat)) (v := m 23 ((200 * a.toNat) + (((m 21 a.toNat) - 1)).toNat)) eX9_write_273 (by show _ < 600; omega) rfl (by omega) ((st_nf (by decide)).trans ((st_nf (by decide)).trans ((st_nf (by decide)).trans rfl))) ?_
                    have b44 := wb23 hW ((200 * a.toNat) + (((m 21 a.toNat) - 1)).toNat)
                    refine md_ast (f := 23) (j := f8.toNat) eX9_write_274 (by show _ < 600; omega) rfl (by omega) ?_
                    refine am_iload eX9_write_275 rfl ?_
                    refine am_ireturn eX9_write_277 rfl trivial (Nat.zero_le _) (Nat.zero_le _) ?_
                    exact am_is_m (by first | rfl | (unfold an_write; (try (rw [← hf8])); (repeat' split) <;> first | rfl | omega)) (by first | rfl | (unfold sp_write; (try (rw [← hf8])); (repeat' split) <;> first | rfl | (exfalso; omega)))
                · refine am_iload eX9_write_141 rfl ?_
                  refine am_iconst eX9_write_143 ?_
                  refine am_icmp_ne ⟨by omega, by omega⟩ ⟨by omega, by omega⟩ eX9_write_144 (fun c45 => ?_) (fun c45 => ?_)
                  · refine am_iload eX9_write_162 rfl ?_
                    refine am_istore eX9_write_164 (by decide) ?_
                    refine am_aload_n eX9_write_166 rfl ?_
                    refine md_getA eX9_write_167 fX9_63 (by decide) (by decide) ?_
                    refine am_iload_n eX9_write_170 rfl ?_
                    refine am_dup2 eX9_write_171 ?_
                    refine md_ald (f := 21) (j := a.toNat) (v := m 21 a.toNat) eX9_write_172 (by show _ < 3; omega) rfl (by omega) ((st_nf (by decide)).trans rfl) ?_
                    have b46 := wb21 hW a.toNat
                    refine am_iload eX9_write_173 rfl ?_
                    refine am_iconst eX9_write_175 ?_
                    refine am_icmp_ne ⟨by omega, by omega⟩ ⟨by omega, by omega⟩ eX9_write_176 (fun c47 => ?_) (fun c47 => ?_)
                    · refine am_iconst eX9_write_183 ?_
                      refine am_iadd eX9_write_184 ?_
                      refine md_ast (f := 21) (j := a.toNat) eX9_write_185 (by show _ < 3; omega) rfl (by omega) ?_
                      refine am_aload_n eX9_write_186 rfl ?_
                      refine md_getA eX9_write_187 fX9_66 (by decide) (by decide) ?_
                      refine am_iload eX9_write_190 rfl ?_
                      refine am_bipush eX9_write_192 (by decide) ?_
                      refine am_iload_n eX9_write_194 rfl ?_
                      refine am_imul eX9_write_195 ?_
                      refine am_iload_n eX9_write_196 rfl ?_
                      refine am_iadd eX9_write_197 ?_
                      refine md_ast (f := 22) (j := f8.toNat) eX9_write_198 (by show _ < 600; omega) rfl (by omega) ?_
                      refine am_aload_n eX9_write_199 rfl ?_
                      refine md_getA eX9_write_200 fX9_69 (by decide) (by decide) ?_
                      refine am_iload eX9_write_203 rfl ?_
                      refine am_iload eX9_write_205 rfl ?_
                      refine md_ast (f := 23) (j := f8.toNat) eX9_write_207 (by show _ < 600; omega) rfl (by omega) ?_
                      refine am_goto eX9_write_208 ?_
                      refine am_iload eX9_write_275 rfl ?_
                      refine am_ireturn eX9_write_277 rfl trivial (Nat.zero_le _) (Nat.zero_le _) ?_
                      exact am_is_m (by first | rfl | (unfold an_write; (try (rw [← hf8])); (repeat' split) <;> first | rfl | omega)) (by first | rfl | (unfold sp_write; (try (rw [← hf8])); (repeat' split) <;> first | rfl | (exfalso; omega)))
                    · refine am_iconst eX9_write_179 ?_
                      refine am_goto eX9_write_180 ?_
                      refine am_iadd eX9_write_184 ?_
                      refine md_ast (f := 21) (j := a.toNat) eX9_write_185 (by show _ < 3; omega) rfl (by omega) ?_
                      refine am_aload_n eX9_write_186 rfl ?_
                      refine md_getA eX9_write_187 fX9_66 (by decide) (by decide) ?_
                      refine am_iload eX9_write_190 rfl ?_
                      refine am_bipush eX9_write_192 (by decide) ?_
                      refine am_iload_n eX9_write_194 rfl ?_
                      refine am_imul eX9_write_195 ?_
                      refine am_iload_n eX9_write_196 rfl ?_
                      refine am_iadd eX9_write_197 ?_
                      refine md_ast (f := 22) (j := f8.toNat) eX9_write_198 (by show _ < 600; omega) rfl (by omega) ?_
                      refine am_aload_n eX9_write_199 rfl ?_
                      refine md_getA eX9_write_200 fX9_69 (by decide) (by decide) ?_
                      refine am_iload eX9_write_203 rfl ?_
                      refine am_iload eX9_write_205 rfl ?_
                      refine md_ast (f := 23) (j := f8.toNat) eX9_write_207 (by show _ < 600; omega) rfl (by omega) ?_
                      refine am_goto eX9_write_208 ?_
                      refine am_iload eX9_write_275 rfl ?_
                      refine am_ireturn eX9_write_277 rfl trivial (Nat.zero_le _) (Nat.zero_le _) ?_
                      exact am_is_m (by first | rfl | (unfold an_write; (try (rw [← hf8])); (repeat' split) <;> first | rfl | omega)) (by first | rfl | (unfold sp_write; (try (rw [← hf8])); (repeat' split) <;> first | rfl | (exfalso; omega)))
                  · refine am_sipush eX9_write_147 (by decide) ?_
                    refine am_iload_n eX9_write_150 rfl ?_
                    refine am_imul eX9_write_151 ?_
                    refine am_aload_n eX9_write_152 rfl ?_
                    refine md_getA eX9_write_153 fX9_63 (by decide) (by decide) ?_
                    refine am_iload_n eX9_write_156 rfl ?_
                    refine md_ald (f := 21) (j := a.toNat) (v := m 21 a.toNat) eX9_write_157 (by show _ < 3; omega) rfl (by omega) ((st_nf (by decide)).trans rfl) ?_
                    have b48 := wb21 hW a.toNat
                    refine am_iadd eX9_write_158 ?_
                    refine am_goto eX9_write_159 ?_
                    refine am_istore eX9_write_164 (by decide) ?_
                    refine am_aload_n eX9_write_166 rfl ?_
                    refine md_getA eX9_write_167 fX9_63 (by decide) (by decide) ?_
                    refine am_iload_n eX9_write_170 rfl ?_
                    refine am_dup2 eX9_write_171 ?_
                    refine md_ald (f := 21) (j := a.toNat) (v := m 21 a.toNat) eX9_write_172 (by show _ < 3; omega) rfl (by omega) ((st_nf (by decide)).trans rfl) ?_
                    have b49 := wb21 hW a.toNat
                    refine am_iload eX9_write_173 rfl ?_
                    refine am_iconst eX9_write_175 ?_
                    refine am_icmp_ne ⟨by omega, by omega⟩ ⟨by omega, by omega⟩ eX9_write_176 (fun c50 => ?_) (fun c50 => ?_)
                    · refine am_iconst eX9_write_183 ?_
                      refine am_iadd eX9_write_184 ?_
                      refine md_ast (f := 21) (j := a.toNat) eX9_write_185 (by show _ < 3; omega) rfl (by omega) ?_
                      refine am_aload_n eX9_write_186 rfl ?_
                      refine md_getA eX9_write_187 fX9_66 (by decide) (by decide) ?_
                      refine am_iload eX9_write_190 rfl ?_
                      refine am_bipush eX9_write_192 (by decide) ?_
                      refine am_iload_n eX9_write_194 rfl ?_
                      refine am_imul eX9_write_195 ?_
                      refine am_iload_n eX9_write_196 rfl ?_
                      refine am_iadd eX9_write_197 ?_
                      refine md_ast (f := 22) (j := ((200 * a.toNat) + (m 21 a.toNat).toNat)) eX9_write_198 (by show _ < 600; omega) rfl (by omega) ?_
                      refine am_aload_n eX9_write_199 rfl ?_
                      refine md_getA eX9_write_200 fX9_69 (by decide) (by decide) ?_
                      refine am_iload eX9_write_203 rfl ?_
                      refine am_iload eX9_write_205 rfl ?_
                      refine md_ast (f := 23) (j := ((200 * a.toNat) + (m 21 a.toNat).toNat)) eX9_write_207 (by show _ < 600; omega) rfl (by omega) ?_
                      refine am_goto eX9_write_208 ?_
                      refine am_iload eX9_write_275 rfl ?_
                      refine am_ireturn eX9_write_277 rfl trivial (Nat.zero_le _) (Nat.zero_le _) ?_
                      exact am_is_m (by first | rfl | (unfold an_write; (try (rw [← hf8])); (repeat' split) <;> first | rfl | omega)) (by first | rfl | (unfold sp_write; (try (rw [← hf8])); (repeat' split) <;> first | rfl | (exfalso; omega)))
                    · refine am_iconst eX9_write_179 ?_
                      refine am_goto eX9_write_180 ?_
                      refine am_iadd eX9_write_184 ?_
                      refine md_ast (f := 21) (j := a.toNat) eX9_write_185 (by show _ < 3; omega) rfl (by omega) ?_
                      refine am_aload_n eX9_write_186 rfl ?_
                      refine md_getA eX9_write_187 fX9_66 (by decide) (by decide) ?_
                      refine am_iload eX9_write_190 rfl ?_
                      refine am_bipush eX9_write_192 (by decide) ?_
                      refine am_iload_n eX9_write_194 rfl ?_
                      refine am_imul eX9_write_195 ?_
                      refine am_iload_n eX9_write_196 rfl ?_
                      refine am_iadd eX9_write_197 ?_
                      refine md_ast (f := 22) (j := ((200 * a.toNat) + (m 21 a.toNat).toNat)) eX9_write_198 (by show _ < 600; omega) rfl (by omega) ?_
                      refine am_aload_n eX9_write_199 rfl ?_
                      refine md_getA eX9_write_200 fX9_69 (by decide) (by decide) ?_
                      refine am_iload eX9_write_203 rfl ?_
                      refine am_iload eX9_write_205 rfl ?_
                      refine md_ast (f := 23) (j := ((200 * a.toNat) + (m 21 a.toNat).toNat)) eX9_write_207 (by show _ < 600; omega) rfl (by omega) ?_
                      refine am_goto eX9_write_208 ?_
                      refine am_iload eX9_write_275 rfl ?_
                      refine am_ireturn eX9_write_277 rfl trivial (Nat.zero_le _) (Nat.zero_le _) ?_
                      exact am_is_m (by first | rfl | (unfold an_write; (try (rw [← hf8])); (repeat' split) <;> first | rfl | omega)) (by first | rfl | (unfold sp_write; (try (rw [← hf8])); (repeat' split) <;> first | rfl | (exfalso; omega)))
              · refine am_iconst eX9_write_122 ?_
                refine am_goto eX9_write_123 ?_
                refine am_istore eX9_write_133 (by decide) ?_
                refine am_iload eX9_write_135 rfl ?_
                refine am_iconst eX9_write_137 ?_
                refine am_icmp_eq ⟨by omega, by omega⟩ ⟨by omega, by omega⟩ eX9_write_138 (fun c51 => ?_) (fun c51 => ?_)
                · refine am_iload eX9_write_211 rfl ?_
                  refine am_iconst eX9_write_213 ?_
                  refine am_icmp_eq ⟨by omega, by omega⟩ ⟨by omega, by omega⟩ eX9_write_214 (fun c52 => ?_) (fun c52 => ?_)
                  · refine am_iload eX9_write_275 rfl ?_
                    refine am_ireturn eX9_write_277 rfl trivial (Nat.zero_le _) (Nat.zero_le _) ?_
                    exact am_is_m (by first | rfl | (unfold an_write; (try (rw [← hf8])); (repeat' split) <;> first | rfl | omega)) (by first | rfl | (unfold sp_write; (try (rw [← hf8])); (repeat' split) <;> first | rfl | (exfalso; omega)))
                  · refine am_aload_n eX9_write_217 rfl ?_
                    refine md_getA eX9_write_218 fX9_63 (by decide) (by decide) ?_
                    refine am_iload_n eX9_write_221 rfl ?_
                    refine am_dup2 eX9_write_222 ?_
                    refine md_ald (f := 21) (j := a.toNat) (v := m 21 a.toNat) eX9_write_223 (by show _ < 3; omega) rfl (by omega) ((st_nf (by decide)).trans rfl) ?_
                    have b53 := wb21 hW a.toNat
                    refine am_iconst eX9_write_224 ?_
                    refine am_isub eX9_write_225 ?_
                    refine md_ast (f := 21) (j := a.toNat) eX9_write_226 (by show _ < 3; omega) rfl (by omega) ?_
                    refine am_aload_n eX9_write_227 rfl ?_
                    refine md_getA eX9_write_228 fX9_66 (by decide) (by decide) ?_
                    refine am_iload eX9_write_231 rfl ?_
                    refine am_aload_n eX9_write_233 rfl ?_
                    refine md_getA eX9_write_234 fX9_66 (by decide) (by decide) ?_
                    refine am_sipush eX9_write_237 (by decide) ?_
                    refine am_iload_n eX9_write_240 rfl ?_
                    refine am_imul eX9_write_241 ?_
                    refine am_aload_n eX9_write_242 rfl ?_
                    refine md_getA eX9_write_243 fX9_63 (by decide) (by decide) ?_
                    refine am_iload_n eX9_write_246 rfl ?_
                    refine md_ald (f := 21) (j := a.toNat) (v := ((m 21 a.toNat) - 1)) eX9_write_247 (by show _ < 3; omega) rfl (by omega) st_eq ?_
                    refine am_iadd eX9_write_248 ?_
                    refine md_ald (f := 22) (j := ((200 * a.toNat) + (((m 21 a.toNat) - 1)).toNat)) (v := m 22 ((200 * a.toNat) + (((m 21 a.toNat) - 1)).toNat)) eX9_write_249 (by show _ < 600; omega) rfl (by omega) ((st_nf (by decide)).trans ((st_nf (by decide)).trans rfl)) ?_
                    have b54 := wb22 hW ((200 * a.toNat) + (((m 21 a.toNat) - 1)).toNat)
                    refine md_ast (f := 22) (j := f8.toNat) eX9_write_250 (by show _ < 600; omega) rfl (by omega) ?_
                    refine am_aload_n eX9_write_251 rfl ?_
                    refine md_getA eX9_write_252 fX9_69 (by decide) (by decide) ?_
                    refine am_iload eX9_write_255 rfl ?_
                    refine am_aload_n eX9_write_257 rfl ?_
                    refine md_getA eX9_write_258 fX9_69 (by decide) (by decide) ?_
                    refine am_sipush eX9_write_261 (by decide) ?_
                    refine am_iload_n eX9_write_264 rfl ?_
                    refine am_imul eX9_write_265 ?_
                    refine am_aload_n eX9_write_266 rfl ?_
                    refine md_getA eX9_write_267 fX9_63 (by decide) (by decide) ?_
                    refine am_iload_n eX9_write_270 rfl ?_
                    refine md_ald (f := 21) (j := a.toNat) (v := ((m 21 a.toNat) - 1)) eX9_write_271 (by show _ < 3; omega) rfl (by omega) ((st_nf (by decide)).trans st_eq) ?_
                    refine am_iadd eX9_write_272 ?_
                    refine md_ald (f := 23) (j := ((200 * a.toNat) + (((m 21 a.toNat) - 1)).toNat)) (v := m 23 ((200 * a.toNat) + (((m 21 a.toNat) - 1)).toNat)) eX9_write_273 (by show _ < 600; omega) rfl (by omega) ((st_nf (by decide)).trans ((st_nf (by decide)).trans ((st_nf (by decide)).trans rfl))) ?_
                    have b55 := wb23 hW ((200 * a.toNat) + (((m 21 a.toNat) - 1)).toNat)
                    refine md_ast (f := 23) (j := f8.toNat) eX9_write_274 (by show _ < 600; omega) rfl (by omega) ?_
                    refine am_iload eX9_write_275 rfl ?_
                    refine am_ireturn eX9_write_277 rfl trivial (Nat.zero_le _) (Nat.zero_le _) ?_
                    exact am_is_m (by first | rfl | (unfold an_write; (try (rw [← hf8])); (repeat' split) <;> first | rfl | omega)) (by first | rfl | (unfold sp_write; (try (rw [← hf8])); (repeat' split) <;> first | rfl | (exfalso; omega)))
                · refine am_iload eX9_write_141 rfl ?_
                  refine am_iconst eX9_write_143 ?_
                  refine am_icmp_ne ⟨by omega, by omega⟩ ⟨by omega, by omega⟩ eX9_write_144 (fun c56 => ?_) (fun c56 => ?_)
                  · refine am_iload eX9_write_162 rfl ?_
                    refine am_istore eX9_write_164 (by decide) ?_
                    refine am_aload_n eX9_write_166 rfl ?_
                    refine md_getA eX9_write_167 fX9_63 (by decide) (by decide) ?_
                    refine am_iload_n eX9_write_170 rfl ?_
                    refine am_dup2 eX9_write_171 ?_
                    refine md_ald (f := 21) (j := a.toNat) (v := m 21 a.toNat) eX9_write_172 (by show _ < 3; omega) rfl (by omega) ((st_nf (by decide)).trans rfl) ?_
                    have b57 := wb21 hW a.toNat
                    refine am_iload eX9_write_173 rfl ?_
                    refine am_iconst eX9_write_175 ?_
                    refine am_icmp_ne ⟨by omega, by omega⟩ ⟨by omega, by omega⟩ eX9_write_176 (fun c58 => ?_) (fun c58 => ?_)
                    · refine am_iconst eX9_write_183 ?_
                      refine am_iadd eX9_write_184 ?_
                      refine md_ast (f := 21) (j := a.toNat) eX9_write_185 (by show _ < 3; omega) rfl (by omega) ?_
                      refine am_aload_n eX9_write_186 rfl ?_
                      refine md_getA eX9_write_187 fX9_66 (by decide) (by decide) ?_
                      refine am_iload eX9_write_190 rfl ?_
                      refine am_bipush eX9_write_192 (by decide) ?_
                      refine am_iload_n eX9_write_194 rfl ?_
                      refine am_imul eX9_write_195 ?_
                      refine am_iload_n eX9_write_196 rfl ?_
                      refine am_iadd eX9_write_197 ?_
                      refine md_ast (f := 22) (j := f8.toNat) eX9_write_198 (by show _ < 600; omega) rfl (by omega) ?_
                      refine am_aload_n eX9_write_199 rfl ?_
                      refine md_getA eX9_write_200 fX9_69 (by decide) (by decide) ?_
                      refine am_iload eX9_write_203 rfl ?_
                      refine am_iload eX9_write_205 rfl ?_
                      refine md_ast (f := 23) (j := f8.toNat) eX9_write_207 (by show _ < 600; omega) rfl (by omega) ?_
                      refine am_goto eX9_write_208 ?_
                      refine am_iload eX9_write_275 rfl ?_
                      refine am_ireturn eX9_write_277 rfl trivial (Nat.zero_le _) (Nat.zero_le _) ?_
                      exact am_is_m (by first | rfl | (unfold an_write; (try (rw [← hf8])); (repeat' split) <;> first | rfl | omega)) (by first | rfl | (unfold sp_write; (try (rw [← hf8])); (repeat' split) <;> first | rfl | (exfalso; omega)))
                    · refine am_iconst eX9_write_179 ?_
                      refine am_goto eX9_write_180 ?_
                      refine am_iadd eX9_write_184 ?_
                      refine md_ast (f := 21) (j := a.toNat) eX9_write_185 (by show _ < 3; omega) rfl (by omega) ?_
                      refine am_aload_n eX9_write_186 rfl ?_
                      refine md_getA eX9_write_187 fX9_66 (by decide) (by decide) ?_
                      refine am_iload eX9_write_190 rfl ?_
                      refine am_bipush eX9_write_192 (by decide) ?_
                      refine am_iload_n eX9_write_194 rfl ?_
                      refine am_imul eX9_write_195 ?_
                      refine am_iload_n eX9_write_196 rfl ?_
                      refine am_iadd eX9_write_197 ?_
                      refine md_ast (f := 22) (j := f8.toNat) eX9_write_198 (by show _ < 600; omega) rfl (by omega) ?_
                      refine am_aload_n eX9_write_199 rfl ?_
                      refine md_getA eX9_write_200 fX9_69 (by decide) (by decide) ?_
                      refine am_iload eX9_write_203 rfl ?_
                      refine am_iload eX9_write_205 rfl ?_
                      refine md_ast (f := 23) (j := f8.toNat) eX9_write_207 (by show _ < 600; omega) rfl (by omega) ?_
                      refine am_goto eX9_write_208 ?_
                      refine am_iload eX9_write_275 rfl ?_
                      refine am_ireturn eX9_write_277 rfl trivial (Nat.zero_le _) (Nat.zero_le _) ?_
                      exact am_is_m (by first | rfl | (unfold an_write; (try (rw [← hf8])); (repeat' split) <;> first | rfl | omega)) (by first | rfl | (unfold sp_write; (try (rw [← hf8])); (repeat' split) <;> first | rfl | (exfalso; omega)))
                  · refine am_sipush eX9_write_147 (by decide) ?_
                    refine am_iload_n eX9_write_150 rfl ?_
                    refine am_imul eX9_write_151 ?_
                    refine am_aload_n eX9_write_152 rfl ?_
                    refine md_getA eX9_write_153 fX9_63 (by decide) (by decide) ?_
                    refine am_iload_n eX9_write_156 rfl ?_
                    refine md_ald (f := 21) (j := a.toNat) (v := m 21 a.toNat) eX9_write_157 (by show _ < 3; omega) rfl (by omega) ((st_nf (by decide)).trans rfl) ?_
                    have b59 := wb21 hW a.toNat
                    refine am_iadd eX9_write_158 ?_
                    refine am_goto eX9_write_159 ?_
                    refine am_istore eX9_write_164 (by decide) ?_
                    refine am_aload_n eX9_write_166 rfl ?_
                    refine md_getA eX9_write_167 fX9_63 (by decide) (by decide) ?_
                    refine am_iload_n eX9_write_170 rfl ?_
                    refine am_dup2 eX9_write_171 ?_
                    refine md_ald (f := 21) (j := a.toNat) (v := m 21 a.toNat) eX9_write_172 (by show _ < 3; omega) rfl (by omega) ((st_nf (by decide)).trans rfl) ?_
                    have b60 := wb21 hW a.toNat
                    refine am_iload eX9_write_173 rfl ?_
                    refine am_iconst eX9_write_175 ?_
                    refine am_icmp_ne ⟨by omega, by omega⟩ ⟨by omega, by omega⟩ eX9_write_176 (fun c61 => ?_) (fun c61 => ?_)
                    · refine am_iconst eX9_write_183 ?_
                      refine am_iadd eX9_write_184 ?_
                      refine md_ast (f := 21) (j := a.toNat) eX9_write_185 (by show _ < 3; omega) rfl (by omega) ?_
                      refine am_aload_n eX9_write_186 rfl ?_
                      refine md_getA eX9_write_187 fX9_66 (by decide) (by decide) ?_
                      refine am_iload eX9_write_190 rfl ?_
                      refine am_bipush eX9_write_192 (by decide) ?_
                      refine am_iload_n eX9_write_194 rfl ?_
                      refine am_imul eX9_write_195 ?_
                      refine am_iload_n eX9_write_196 rfl ?_
                      refine am_iadd eX9_write_197 ?_
                      refine md_ast (f := 22) (j := ((200 * a.toNat) + (m 21 a.toNat).toNat)) eX9_write_198 (by show _ < 600; omega) rfl (by omega) ?_
                      refine am_aload_n eX9_write_199 rfl ?_
                      refine md_getA eX9_write_200 fX9_69 (by decide) (by decide) ?_
                      refine am_iload eX9_write_203 rfl ?_
                      refine am_iload eX9_write_205 rfl ?_
                      refine md_ast (f := 23) (j := ((200 * a.toNat) + (m 21 a.toNat).toNat)) eX9_write_207 (by show _ < 600; omega) rfl (by omega) ?_
                      refine am_goto eX9_write_208 ?_
                      refine am_iload eX9_write_275 rfl ?_
                      refine am_ireturn eX9_write_277 rfl trivial (Nat.zero_le _) (Nat.zero_le _) ?_
                      exact am_is_m (by first | rfl | (unfold an_write; (try (rw [← hf8])); (repeat' split) <;> first | rfl | omega)) (by first | rfl | (unfold sp_write; (try (rw [← hf8])); (repeat' split) <;> first | rfl | (exfalso; omega)))
                    · refine am_iconst eX9_write_179 ?_
                      refine am_goto eX9_write_180 ?_
                      refine am_iadd eX9_write_184 ?_
                      refine md_ast (f := 21) (j := a.toNat) eX9_write_185 (by show _ < 3; omega) rfl (by omega) ?_
                      refine am_aload_n eX9_write_186 rfl ?_
                      refine md_getA eX9_write_187 fX9_66 (by decide) (by decide) ?_
                      refine am_iload eX9_write_190 rfl ?_
                      refine am_bipush eX9_write_192 (by decide) ?_
                      refine am_iload_n eX9_write_194 rfl ?_
                      refine am_imul eX9_write_195 ?_
                      refine am_iload_n eX9_write_196 rfl ?_
                      refine am_iadd eX9_write_197 ?_
                      refine md_ast (f := 22) (j := ((200 * a.toNat) + (m 21 a.toNat).toNat)) eX9_write_198 (by show _ < 600; omega) rfl (by omega) ?_
                      refine am_aload_n eX9_write_199 rfl ?_
                      refine md_getA eX9_write_200 fX9_69 (by decide) (by decide) ?_
                      refine am_iload eX9_write_203 rfl ?_
                      refine am_iload eX9_write_205 rfl ?_
                      refine md_ast (f := 23) (j := ((200 * a.toNat) + (m 21 a.toNat).toNat)) eX9_write_207 (by show _ < 600; omega) rfl (by omega) ?_
                      refine am_goto eX9_write_208 ?_
                      refine am_iload eX9_write_275 rfl ?_
                      refine am_ireturn eX9_write_277 rfl trivial (Nat.zero_le _) (Nat.zero_le _) ?_
                      exact am_is_m (by first | rfl | (unfold an_write; (try (rw [← hf8])); (repeat' split) <;> first | rfl | omega)) (by first | rfl | (unfold sp_write; (try (rw [← hf8])); (repeat' split) <;> first | rfl | (exfalso; omega)))
            · refine am_aload_n eX9_write_87 rfl ?_
              refine md_getA eX9_write_88 fX9_63 (by decide) (by decide) ?_
              refine am_iload_n eX9_write_91 rfl ?_
              refine md_ald (f := 21) (j := a.toNat) (v := m 21 a.toNat) eX9_write_92 (by show _ < 3; omega) rfl (by omega) ((st_nf (by decide)).trans rfl) ?_
              have b62 := wb21 hW a.toNat
              refine am_sipush eX9_write_93 (by decide) ?_
              refine am_icmp_ne ⟨by omega, by omega⟩ ⟨by omega, by omega⟩ eX9_write_96 (fun c63 => ?_) (fun c63 => ?_)
              · refine am_iconst eX9_write_103 ?_
                refine md_put eX9_write_104 fX9_123 rfl rfl (by decide) trivial ?_
                refine am_heq (congrArg (fun z => en_h z x) st_st) ?_
                refine am_aload_n eX9_write_107 rfl ?_
                refine md_getI (v := 0) eX9_write_108 fX9_123 rfl (by decide) st_eq ?_
                refine am_if_le ⟨by omega, by omega⟩ eX9_write_111 (fun _ => ?_) (fun z => absurd z (by decide))
                refine am_iload eX9_write_116 rfl ?_
                refine am_iconst eX9_write_118 ?_
                refine am_icmp_ne ⟨by omega, by omega⟩ ⟨by omega, by omega⟩ eX9_write_119 (fun c65 => ?_) (fun c65 => ?_)
                · refine am_aload_n eX9_write_126 rfl ?_
                  refine md_getA eX9_write_127 fX9_69 (by decide) (by decide) ?_
                  refine am_iload eX9_write_130 rfl ?_
                  refine md_ald (f := 23) (j := f8.toNat) (v := m 23 f8.toNat) eX9_write_132 (by show _ < 600; omega) rfl (by omega) ((st_nf (by decide)).trans rfl) ?_
                  have b66 := wb23 hW f8.toNat
                  refine am_istore eX9_write_133 (by decide) ?_
                  refine am_iload eX9_write_135 rfl ?_
                  refine am_iconst eX9_write_137 ?_
                  refine am_icmp_eq ⟨by omega, by omega⟩ ⟨by omega, by omega⟩ eX9_write_138 (fun c67 => ?_) (fun c67 => ?_)
                  · refine am_iload eX9_write_211 rfl ?_
                    refine am_iconst eX9_write_213 ?_
                    refine am_icmp_eq ⟨by omega, by omega⟩ ⟨by omega, by omega⟩ eX9_write_214 (fun c68 => ?_) (fun c68 => ?_)
                    · refine am_iload eX9_write_275 rfl ?_
                      refine am_ireturn eX9_write_277 rfl trivial (Nat.zero_le _) (Nat.zero_le _) ?_
                      exact am_is_m (by first | rfl | (unfold an_write; (try (rw [← hf8])); (repeat' split) <;> first | rfl | omega)) (by first | rfl | (unfold sp_write; (try (rw [← hf8])); (repeat' split) <;> first | rfl | (exfalso; omega)))
                    · refine am_aload_n eX9_write_217 rfl ?_
                      refine md_getA eX9_write_218 fX9_63 (by decide) (by decide) ?_
                      refine am_iload_n eX9_write_221 rfl ?_
                      refine am_dup2 eX9_write_222 ?_
                      refine md_ald (f := 21) (j := a.toNat) (v := m 21 a.toNat) eX9_write_223 (by show _ < 3; omega) rfl (by omega) ((st_nf (by decide)).trans rfl) ?_
                      have b69 := wb21 hW a.toNat
                      refine am_iconst eX9_write_224 ?_
                      refine am_isub eX9_write_225 ?_
                      refine md_ast (f := 21) (j := a.toNat) eX9_write_226 (by show _ < 3; omega) rfl (by omega) ?_
                      refine am_aload_n eX9_write_227 rfl ?_
                      refine md_getA eX9_write_228 fX9_66 (by decide) (by decide) ?_
                      refine am_iload eX9_write_231 rfl ?_
                      refine am_aload_n eX9_write_233 rfl ?_
                      refine md_getA eX9_write_234 fX9_66 (by decide) (by decide) ?_
                      refine am_sipush eX9_write_237 (by decide) ?_
                      refine am_iload_n eX9_write_240 rfl ?_
                      refine am_imul eX9_write_241 ?_
                      refine am_aload_n eX9_write_242 rfl ?_
                      refine md_getA eX9_write_243 fX9_63 (by decide) (by decide) ?_
                      refine am_iload_n eX9_write_246 rfl ?_
                      refine md_ald (f := 21) (j := a.toNat) (v := ((m 21 a.toNat) - 1)) eX9_write_247 (by show _ < 3; omega) rfl (by omega) st_eq ?_
                      refine am_iadd eX9_write_248 ?_
                      refine md_ald (f := 22) (j := ((200 * a.toNat) + (((m 21 a.toNat) - 1)).toNat)) (v := m 22 ((200 * a.toNat) + (((m 21 a.toNat) - 1)).toNat)) eX9_write_249 (by show _ < 600; omega) rfl (by omega) ((st_nf (by decide)).trans ((st_nf (by decide)).trans rfl)) ?_
                      have b70 := wb22 hW ((200 * a.toNat) + (((m 21 a.toNat) - 1)).toNat)
                      refine md_ast (f := 22) (j := f8.toNat) eX9_write_250 (by show _ < 600; omega) rfl (by omega) ?_
                      refine am_aload_n eX9_write_251 rfl ?_
                      refine md_getA eX9_write_252 fX9_69 (by decide) (by decide) ?_
                      refine am_iload eX9_write_255 rfl ?_
                      refine am_aload_n eX9_write_257 rfl ?_
                      refine md_getA eX9_write_258 fX9_69 (by decide) (by decide) ?_
                      refine am_sipush eX9_write_261 (by decide) ?_
                      refine am_iload_n eX9_write_264 rfl ?_
                      refine am_imul eX9_write_265 ?_
                      refine am_aload_n eX9_write_266 rfl ?_
                      refine md_getA eX9_write_267 fX9_63 (by decide) (by decide) ?_
                      refine am_iload_n eX9_write_270 rfl ?_
                      refine md_ald (f := 21) (j := a.toNat) (v := ((m 21 a.toNat) - 1)) eX9_write_271 (by show _ < 3; omega) rfl (by omega) ((st_nf (by decide)).trans st_eq) ?_
                      refine am_iadd eX9_write_272 ?_
                      refine md_ald (f := 23) (j := ((200 * a.toNat) + (((m 21 a.toNat) - 1)).toNat)) (v := m 23 ((200 * a.toNat) + (((m 21 a.toNat) - 1)).toNat)) eX9_write_273 (by show _ < 600; omega) rfl (by omega) ((st_nf (by decide)).trans ((st_nf (by decide)).trans ((st_nf (by decide)).trans rfl))) ?_
                      have b71 := wb23 hW ((200 * a.toNat) + (((m 21 a.toNat) - 1)).toNat)
                      refine md_ast (f := 23) (j := f8.toNat) eX9_write_274 (by show _ < 600; omega) rfl (by omega) ?_
                      refine am_iload eX9_write_275 rfl ?_
                      refine am_ireturn eX9_write_277 rfl trivial (Nat.zero_le _) (Nat.zero_le _) ?_
                      exact am_is_m (by first | rfl | (unfold an_write; (try (rw [← hf8])); (repeat' split) <;> first | rfl | omega)) (by first | rfl | (unfold sp_write; (try (rw [← hf8])); (repeat' split) <;> first | rfl | (exfalso; omega)))
                  · refine am_iload eX9_write_141 rfl ?_
                    refine am_iconst eX9_write_143 ?_
                    refine am_icmp_ne ⟨by omega, by omega⟩ ⟨by omega, by omega⟩ eX9_write_144 (fun c72 => ?_) (fun c72 => ?_)
                    · refine am_iload eX9_write_162 rfl ?_
                      refine am_istore eX9_write_164 (by decide) ?_
                      refine am_aload_n eX9_write_166 rfl ?_
                      refine md_getA eX9_write_167 fX9_63 (by decide) (by decide) ?_
                      refine am_iload_n eX9_write_170 rfl ?_
                      refine am_dup2 eX9_write_171 ?_
                      refine md_ald (f := 21) (j := a.toNat) (v := m 21 a.toNat) eX9_write_172 (by show _ < 3; omega) rfl (by omega) ((st_nf (by decide)).trans rfl) ?_
                      have b73 := wb21 hW a.toNat
                      refine am_iload eX9_write_173 rfl ?_
                      refine am_iconst eX9_write_175 ?_
                      refine am_icmp_ne ⟨by omega, by omega⟩ ⟨by omega, by omega⟩ eX9_write_176 (fun c74 => ?_) (fun c74 => ?_)
                      · refine am_iconst eX9_write_183 ?_
                        refine am_iadd eX9_write_184 ?_
                        refine md_ast (f := 21) (j := a.toNat) eX9_write_185 (by show _ < 3; omega) rfl (by omega) ?_
                        refine am_aload_n eX9_write_186 rfl ?_
                        refine md_getA eX9_write_187 fX9_66 (by decide) (by decide) ?_
                        refine am_iload eX9_write_190 rfl ?_
                        refine am_bipush eX9_write_192 (by decide) ?_
                        refine am_iload_n eX9_write_194 rfl ?_
                        refine am_imul eX9_write_195 ?_
                        refine am_iload_n eX9_write_196 rfl ?_
                        refine am_iadd eX9_write_197 ?_
                        refine md_ast (f := 22) (j := f8.toNat) eX9_write_198 (by show _ < 600; omega) rfl (by omega) ?_
                        refine am_aload_n eX9_write_199 rfl ?_
                        refine md_getA eX9_write_200 fX9_69 (by decide) (by decide) ?_
                        refine am_iload eX9_write_203 rfl ?_
                        refine am_iload eX9_write_205 rfl ?_
                        refine md_ast (f := 23) (j := f8.toNat) eX9_write_207 (by show _ < 600; omega) rfl (by omega) ?_
                        refine am_goto eX9_write_208 ?_
                        refine am_iload eX9_write_275 rfl ?_
                        refine am_ireturn eX9_write_277 rfl trivial (Nat.zero_le _) (Nat.zero_le _) ?_
                        exact am_is_m (by first | rfl | (unfold an_write; (try (rw [← hf8])); (repeat' split) <;> first | rfl | omega)) (by first | rfl | (unfold sp_write; (try (rw [← hf8])); (repeat' split) <;> first | rfl | (exfalso; omega)))
                      · refine am_iconst eX9_write_179 ?_
                        refine am_goto eX9_write_180 ?_
                        refine am_iadd eX9_write_184 ?_
                        refine md_ast (f := 21) (j := a.toNat) eX9_write_185 (by show _ < 3; omega) rfl (by omega) ?_
                        refine am_aload_n eX9_write_186 rfl ?_
                        refine md_getA eX9_write_187 fX9_66 (by decide) (by decide) ?_
                        refine am_iload eX9_write_190 rfl ?_
                        refine am_bipush eX9_write_192 (by decide) ?_
                        refine am_iload_n eX9_write_194 rfl ?_
                        refine am_imul eX9_write_195 ?_
                        refine am_iload_n eX9_write_196 rfl ?_
                        refine am_iadd eX9_write_197 ?_
                        refine md_ast (f := 22) (j := f8.toNat) eX9_write_198 (by show _ < 600; omega) rfl (by omega) ?_
                        refine am_aload_n eX9_write_199 rfl ?_
                        refine md_getA eX9_write_200 fX9_69 (by decide) (by decide) ?_
                        refine am_iload eX9_write_203 rfl ?_
                        refine am_iload eX9_write_205 rfl ?_
                        refine md_ast (f := 23) (j := f8.toNat) eX9_write_207 (by show _ < 600; omega) rfl (by omega) ?_
                        refine am_goto eX9_write_208 ?_
                        refine am_iload eX9_write_275 rfl ?_
                        refine am_ireturn eX9_write_277 rfl trivial (Nat.zero_le _) (Nat.zero_le _) ?_
                        exact am_is_m (by first | rfl | (unfold an_write; (try (rw [← hf8])); (repeat' split) <;> first | rfl | omega)) (by first | rfl | (unfold sp_write; (try (rw [← hf8])); (repeat' split) <;> first | rfl | (exfalso; omega)))
                    · refine am_sipush eX9_write_147 (by decide) ?_
                      refine am_iload_n eX9_write_150 rfl ?_
                      refine am_imul eX9_write_151 ?_
                      refine am_aload_n eX9_write_152 rfl ?_
                      refine md_getA eX9_write_153 fX9_63 (by decide) (by decide) ?_
                      refine am_iload_n eX9_write_156 rfl ?_
                      refine md_ald (f := 21) (j := a.toNat) (v := m 21 a.toNat) eX9_write_157 (by show _ < 3; omega) rfl (by omega) ((st_nf (by decide)).trans rfl) ?_
                      have b75 := wb21 hW a.toNat
                      refine am_iadd eX9_write_158 ?_
                      refine am_goto eX9_write_159 ?_
                      refine am_istore eX9_write_164 (by decide) ?_
                      refine am_aload_n eX9_write_166 rfl ?_
                      refine md_getA eX9_write_167 fX9_63 (by decide) (by decide) ?_
                      refine am_iload_n eX9_write_170 rfl ?_
                      refine am_dup2 eX9_write_171 ?_
                      refine md_ald (f := 21) (j := a.toNat) (v := m 21 a.toNat) eX9_write_172 (by show _ < 3; omega) rfl (by omega) ((st_nf (by decide)).trans rfl) ?_
                      have b76 := wb21 hW a.toNat
                      refine am_iload eX9_write_173 rfl ?_
                      refine am_iconst eX9_write_175 ?_
                      refine am_icmp_ne ⟨by omega, by omega⟩ ⟨by omega, by omega⟩ eX9_write_176 (fun c77 => ?_) (fun c77 => ?_)
                      · refine am_iconst eX9_write_183 ?_
                        refine am_iadd eX9_write_184 ?_
                        refine md_ast (f := 21) (j := a.toNat) eX9_write_185 (by show _ < 3; omega) rfl (by omega) ?_
                        refine am_aload_n eX9_write_186 rfl ?_
                        refine md_getA eX9_write_187 fX9_66 (by decide) (by decide) ?_
                        refine am_iload eX9_write_190 rfl ?_
                        refine am_bipush eX9_write_192 (by decide) ?_
                        refine am_iload_n eX9_write_194 rfl ?_
                        refine am_imul eX9_write_195 ?_
                        refine am_iload_n eX9_write_196 rfl ?_
                        refine am_iadd eX9_write_197 ?_
                        refine md_ast (f := 22) (j := ((200 * a.toNat) + (m 21 a.toNat).toNat)) eX9_write_198 (by show _ < 600; omega) rfl (by omega) ?_
                        refine am_aload_n eX9_write_199 rfl ?_
                        refine md_getA eX9_write_200 fX9_69 (by decide) (by decide) ?_
                        refine am_iload eX9_write_203 rfl ?_
                        refine am_iload eX9_write_205 rfl ?_
                        refine md_ast (f := 23) (j := ((200 * a.toNat) + (m 21 a.toNat).toNat)) eX9_write_207 (by show _ < 600; omega) rfl (by omega) ?_
                        refine am_goto eX9_write_208 ?_
                        refine am_iload eX9_write_275 rfl ?_
                        refine am_ireturn eX9_write_277 rfl trivial (Nat.zero_le _) (Nat.zero_le _) ?_
                        exact am_is_m (by first | rfl | (unfold an_write; (try (rw [← hf8])); (repeat' split) <;> first | rfl | omega)) (by first | rfl | (unfold sp_write; (try (rw [← hf8])); (repeat' split) <;> first | rfl | (exfalso; omega)))
                      · refine am_iconst eX9_write_179 ?_
                        refine am_goto eX9_write_180 ?_
                        refine am_iadd eX9_write_184 ?_
                        refine md_ast (f := 21) (j := a.toNat) eX9_write_185 (by show _ < 3; omega) rfl (by omega) ?_
                        refine am_aload_n eX9_write_186 rfl ?_
                        refine md_getA eX9_write_187 fX9_66 (by decide) (by decide) ?_
                        refine am_iload eX9_write_190 rfl ?_
                        refine am_bipush eX9_write_192 (by decide) ?_
                        refine am_iload_n eX9_write_194 rfl ?_
                        refine am_imul eX9_write_195 ?_
                        refine am_iload_n eX9_write_196 rfl ?_
                        refine am_iadd eX9_write_197 ?_
                        refine md_ast (f := 22) (j := ((200 * a.toNat) + (m 21 a.toNat).toNat)) eX9_write_198 (by show _ < 600; omega) rfl (by omega) ?_
                        refine am_aload_n eX9_write_199 rfl ?_
                        refine md_getA eX9_write_200 fX9_69 (by decide) (by decide) ?_
                        refine am_iload eX9_write_203 rfl ?_
                        refine am_iload eX9_write_205 rfl ?_
                        refine md_ast (f := 23) (j := ((200 * a.toNat) + (m 21 a.toNat).toNat)) eX9_write_207 (by show _ < 600; omega) rfl (by omega) ?_
                        refine am_goto eX9_write_208 ?_
                        refine am_iload eX9_write_275 rfl ?_
                        refine am_ireturn eX9_write_277 rfl trivial (Nat.zero_le _) (Nat.zero_le _) ?_
                        exact am_is_m (by first | rfl | (unfold an_write; (try (rw [← hf8])); (repeat' split) <;> first | rfl | omega)) (by first | rfl | (unfold sp_write; (try (rw [← hf8])); (repeat' split) <;> first | rfl | (exfalso; omega)))
                · refine am_iconst eX9_write_122 ?_
                  refine am_goto eX9_write_123 ?_
                  refine am_istore eX9_write_133 (by decide) ?_
                  refine am_iload eX9_write_135 rfl ?_
                  refine am_iconst eX9_write_137 ?_
                  refine am_icmp_eq ⟨by omega, by omega⟩ ⟨by omega, by omega⟩ eX9_write_138 (fun c78 => ?_) (fun c78 => ?_)
                  · refine am_iload eX9_write_211 rfl ?_
                    refine am_iconst eX9_write_213 ?_
                    refine am_icmp_eq ⟨by omega, by omega⟩ ⟨by omega, by omega⟩ eX9_write_214 (fun c79 => ?_) (fun c79 => ?_)
                    · refine am_iload eX9_write_275 rfl ?_
                      refine am_ireturn eX9_write_277 rfl trivial (Nat.zero_le _) (Nat.zero_le _) ?_
                      exact am_is_m (by first | rfl | (unfold an_write; (try (rw [← hf8])); (repeat' split) <;> first | rfl | omega)) (by first | rfl | (unfold sp_write; (try (rw [← hf8])); (repeat' split) <;> first | rfl | (exfalso; omega)))
                    · refine am_aload_n eX9_write_217 rfl ?_
                      refine md_getA eX9_write_218 fX9_63 (by decide) (by decide) ?_
                      refine am_iload_n eX9_write_221 rfl ?_
                      refine am_dup2 eX9_write_222 ?_
                      refine md_ald (f := 21) (j := a.toNat) (v := m 21 a.toNat) eX9_write_223 (by show _ < 3; omega) rfl (by omega) ((st_nf (by decide)).trans rfl) ?_
                      have b80 := wb21 hW a.toNat
                      refine am_iconst eX9_write_224 ?_
                      refine am_isub eX9_write_225 ?_
                      refine md_ast (f := 21) (j := a.toNat) eX9_write_226 (by show _ < 3; omega) rfl (by omega) ?_
                      refine am_aload_n eX9_write_227 rfl ?_
                      refine md_getA eX9_write_228 fX9_66 (by decide) (by decide) ?_
                      refine am_iload eX9_write_231 rfl ?_
                      refine am_aload_n eX9_write_233 rfl ?_
                      refine md_getA eX9_write_234 fX9_66 (by decide) (by decide) ?_
                      refine am_sipush eX9_write_237 (by decide) ?_
                      refine am_iload_n eX9_write_240 rfl ?_
                      refine am_imul eX9_write_241 ?_
                      refine am_aload_n eX9_write_242 rfl ?_
                      refine md_getA eX9_write_243 fX9_63 (by decide) (by decide) ?_
                      refine am_iload_n eX9_write_246 rfl ?_
                      refine md_ald (f := 21) (j := a.toNat) (v := ((m 21 a.toNat) - 1)) eX9_write_247 (by show _ < 3; omega) rfl (by omega) st_eq ?_
                      refine am_iadd eX9_write_248 ?_
                      refine md_ald (f := 22) (j := ((200 * a.toNat) + (((m 21 a.toNat) - 1)).toNat)) (v := m 22 ((200 * a.toNat) + (((m 21 a.toNat) - 1)).toNat)) eX9_write_249 (by show _ < 600; omega) rfl (by omega) ((st_nf (by decide)).trans ((st_nf (by decide)).trans rfl)) ?_
                      have b81 := wb22 hW ((200 * a.toNat) + (((m 21 a.toNat) - 1)).toNat)
                      refine md_ast (f := 22) (j := f8.toNat) eX9_write_250 (by show _ < 600; omega) rfl (by omega) ?_
                      refine am_aload_n eX9_write_251 rfl ?_
                      refine md_getA eX9_write_252 fX9_69 (by decide) (by decide) ?_
                      refine am_iload eX9_write_255 rfl ?_
                      refine am_aload_n eX9_write_257 rfl ?_
                      refine md_getA eX9_write_258 fX9_69 (by decide) (by decide) ?_
                      refine am_sipush eX9_write_261 (by decide) ?_
                      refine am_iload_n eX9_write_264 rfl ?_
                      refine am_imul eX9_write_265 ?_
                      refine am_aload_n eX9_write_266 rfl ?_
                      refine md_getA eX9_write_267 fX9_63 (by decide) (by decide) ?_
                      refine am_iload_n eX9_write_270 rfl ?_
                      refine md_ald (f := 21) (j := a.toNat) (v := ((m 21 a.toNat) - 1)) eX9_write_271 (by show _ < 3; omega) rfl (by omega) ((st_nf (by decide)).trans st_eq) ?_
                      refine am_iadd eX9_write_272 ?_
                      refine md_ald (f := 23) (j := ((200 * a.toNat) + (((m 21 a.toNat) - 1)).toNat)) (v := m 23 ((200 * a.toNat) + (((m 21 a.toNat) - 1)).toNat)) eX9_write_273 (by show _ < 600; omega) rfl (by omega) ((st_nf (by decide)).trans ((st_nf (by decide)).trans ((st_nf (by decide)).trans rfl))) ?_
                      have b82 := wb23 hW ((200 * a.toNat) + (((m 21 a.toNat) - 1)).toNat)
                      refine md_ast (f := 23) (j := f8.toNat) eX9_write_274 (by show _ < 600; omega) rfl (by omega) ?_
                      refine am_iload eX9_write_275 rfl ?_
                      refine am_ireturn eX9_write_277 rfl trivial (Nat.zero_le _) (Nat.zero_le _) ?_
                      exact am_is_m (by first | rfl | (unfold an_write; (try (rw [← hf8])); (repeat' split) <;> first | rfl | omega)) (by first | rfl | (unfold sp_write; (try (rw [← hf8])); (repeat' split) <;> first | rfl | (exfalso; omega)))
                  · refine am_iload eX9_write_141 rfl ?_
                    refine am_iconst eX9_write_143 ?_
                    refine am_icmp_ne ⟨by omega, by omega⟩ ⟨by omega, by omega⟩ eX9_write_144 (fun c83 => ?_) (fun c83 => ?_)
                    · refine am_iload eX9_write_162 rfl ?_
                      refine am_istore eX9_write_164 (by decide) ?_
                      refine am_aload_n eX9_write_166 rfl ?_
                      refine md_getA eX9_write_167 fX9_63 (by decide) (by decide) ?_
                      refine am_iload_n eX9_write_170 rfl ?_
                      refine am_dup2 eX9_write_171 ?_
                      refine md_ald (f := 21) (j := a.toNat) (v := m 21 a.toNat) eX9_write_172 (by show _ < 3; omega) rfl (by omega) ((st_nf (by decide)).trans rfl) ?_
                      have b84 := wb21 hW a.toNat
                      refine am_iload eX9_write_173 rfl ?_
                      refine am_iconst eX9_write_175 ?_
                      refine am_icmp_ne ⟨by omega, by omega⟩ ⟨by omega, by omega⟩ eX9_write_176 (fun c85 => ?_) (fun c85 => ?_)
                      · refine am_iconst eX9_write_183 ?_
                        refine am_iadd eX9_write_184 ?_
                        refine md_ast (f := 21) (j := a.toNat) eX9_write_185 (by show _ < 3; omega) rfl (by omega) ?_
                        refine am_aload_n eX9_write_186 rfl ?_
                        refine md_getA eX9_write_187 fX9_66 (by decide) (by decide) ?_
                        refine am_iload eX9_write_190 rfl ?_
                        refine am_bipush eX9_write_192 (by decide) ?_
                        refine am_iload_n eX9_write_194 rfl ?_
                        refine am_imul eX9_write_195 ?_
                        refine am_iload_n eX9_write_196 rfl ?_
                        refine am_iadd eX9_write_197 ?_
                        refine md_ast (f := 22) (j := f8.toNat) eX9_write_198 (by show _ < 600; omega) rfl (by omega) ?_
                        refine am_aload_n eX9_write_199 rfl ?_
                        refine md_getA eX9_write_200 fX9_69 (by decide) (by decide) ?_
                        refine am_iload eX9_write_203 rfl ?_
                        refine am_iload eX9_write_205 rfl ?_
                        refine md_ast (f := 23) (j := f8.toNat) eX9_write_207 (by show _ < 600; omega) rfl (by omega) ?_
                        refine am_goto eX9_write_208 ?_
                        refine am_iload eX9_write_275 rfl ?_
                        refine am_ireturn eX9_write_277 rfl trivial (Nat.zero_le _) (Nat.zero_le _) ?_
                        exact am_is_m (by first | rfl | (unfold an_write; (try (rw [← hf8])); (repeat' split) <;> first | rfl | omega)) (by first | rfl | (unfold sp_write; (try (rw [← hf8])); (repeat' split) <;> first | rfl | (exfalso; omega)))
                      · refine am_iconst eX9_write_179 ?_
                        refine am_goto eX9_write_180 ?_
                        refine am_iadd eX9_write_184 ?_
                        refine md_ast (f := 21) (j := a.toNat) eX9_write_185 (by show _ < 3; omega) rfl (by omega) ?_
                        refine am_aload_n eX9_write_186 rfl ?_
                        refine md_getA eX9_write_187 fX9_66 (by decide) (by decide) ?_
                        refine am_iload eX9_write_190 rfl ?_
                        refine am_bipush eX9_write_192 (by decide) ?_
                        refine am_iload_n eX9_write_194 rfl ?_
                        refine am_imul eX9_write_195 ?_
                        refine am_iload_n eX9_write_196 rfl ?_
                        refine am_iadd eX9_write_197 ?_
                        refine md_ast (f := 22) (j := f8.toNat) eX9_write_198 (by show _ < 600; omega) rfl (by omega) ?_
                        refine am_aload_n eX9_write_199 rfl ?_
                        refine md_getA eX9_write_200 fX9_69 (by decide) (by decide) ?_
                        refine am_iload eX9_write_203 rfl ?_
                        refine am_iload eX9_write_205 rfl ?_
                        refine md_ast (f := 23) (j := f8.toNat) eX9_write_207 (by show _ < 600; omega) rfl (by omega) ?_
                        refine am_goto eX9_write_208 ?_
                        refine am_iload eX9_write_275 rfl ?_
                        refine am_ireturn eX9_write_277 rfl trivial (Nat.zero_le _) (Nat.zero_le _) ?_
                        exact am_is_m (by first | rfl | (unfold an_write; (try (rw [← hf8])); (repeat' split) <;> first | rfl | omega)) (by first | rfl | (unfold sp_write; (try (rw [← hf8])); (repeat' split) <;> first | rfl | (exfalso; omega)))
                    · refine am_sipush eX9_write_147 (by decide) ?_
                      refine am_iload_n eX9_write_150 rfl ?_
                      refine am_imul eX9_write_151 ?_
                      refine am_aload_n eX9_write_152 rfl ?_
                      refine md_getA eX9_write_153 fX9_63 (by decide) (by decide) ?_
                      refine am_iload_n eX9_write_156 rfl ?_
                      refine md_ald (f := 21) (j := a.toNat) (v := m 21 a.toNat) eX9_write_157 (by show _ < 3; omega) rfl (by omega) ((st_nf (by decide)).trans rfl) ?_
                      have b86 := wb21 hW a.toNat
                      refine am_iadd eX9_write_158 ?_
                      refine am_goto eX9_write_159 ?_
                      refine am_istore eX9_write_164 (by decide) ?_
                      refine am_aload_n eX9_write_166 rfl ?_
                      refine md_getA eX9_write_167 fX9_63 (by decide) (by decide) ?_
                      refine am_iload_n eX9_write_170 rfl ?_
                      refine am_dup2 eX9_write_171 ?_
                      refine md_ald (f := 21) (j := a.toNat) (v := m 21 a.toNat) eX9_write_172 (by show _ < 3; omega) rfl (by omega) ((st_nf (by decide)).trans rfl) ?_
                      have b87 := wb21 hW a.toNat
                      refine am_iload eX9_write_173 rfl ?_
                      refine am_iconst eX9_write_175 ?_
                      refine am_icmp_ne ⟨by omega, by omega⟩ ⟨by omega, by omega⟩ eX9_write_176 (fun c88 => ?_) (fun c88 => ?_)
                      · refine am_iconst eX9_write_183 ?_
                        refine am_iadd eX9_write_184 ?_
                        refine md_ast (f := 21) (j := a.toNat) eX9_write_185 (by show _ < 3; omega) rfl (by omega) ?_
                        refine am_aload_n eX9_write_186 rfl ?_
                        refine md_getA eX9_write_187 fX9_66 (by decide) (by decide) ?_
                        refine am_iload eX9_write_190 rfl ?_
                        refine am_bipush eX9_write_192 (by decide) ?_
                        refine am_iload_n eX9_write_194 rfl ?_
                        refine am_imul eX9_write_195 ?_
                        refine am_iload_n eX9_write_196 rfl ?_
                        refine am_iadd eX9_write_197 ?_
                        refine md_ast (f := 22) (j := ((200 * a.toNat) + (m 21 a.toNat).toNat)) eX9_write_198 (by show _ < 600; omega) rfl (by omega) ?_
                        refine am_aload_n eX9_write_199 rfl ?_
                        refine md_getA eX9_write_200 fX9_69 (by decide) (by decide) ?_
                        refine am_iload eX9_write_203 rfl ?_
                        refine am_iload eX9_write_205 rfl ?_
                        refine md_ast (f := 23) (j := ((200 * a.toNat) + (m 21 a.toNat).toNat)) eX9_write_207 (by show _ < 600; omega) rfl (by omega) ?_
                        refine am_goto eX9_write_208 ?_
                        refine am_iload eX9_write_275 rfl ?_
                        refine am_ireturn eX9_write_277 rfl trivial (Nat.zero_le _) (Nat.zero_le _) ?_
                        exact am_is_m (by first | rfl | (unfold an_write; (try (rw [← hf8])); (repeat' split) <;> first | rfl | omega)) (by first | rfl | (unfold sp_write; (try (rw [← hf8])); (repeat' split) <;> first | rfl | (exfalso; omega)))
                      · refine am_iconst eX9_write_179 ?_
                        refine am_goto eX9_write_180 ?_
                        refine am_iadd eX9_write_184 ?_
                        refine md_ast (f := 21) (j := a.toNat) eX9_write_185 (by show _ < 3; omega) rfl (by omega) ?_
                        refine am_aload_n eX9_write_186 rfl ?_
                        refine md_getA eX9_write_187 fX9_66 (by decide) (by decide) ?_
                        refine am_iload eX9_write_190 rfl ?_
                        refine am_bipush eX9_write_192 (by decide) ?_
                        refine am_iload_n eX9_write_194 rfl ?_
                        refine am_imul eX9_write_195 ?_
                        refine am_iload_n eX9_write_196 rfl ?_
                        refine am_iadd eX9_write_197 ?_
                        refine md_ast (f := 22) (j := ((200 * a.toNat) + (m 21 a.toNat).toNat)) eX9_write_198 (by show _ < 600; omega) rfl (by omega) ?_
                        refine am_aload_n eX9_write_199 rfl ?_
                        refine md_getA eX9_write_200 fX9_69 (by decide) (by decide) ?_
                        refine am_iload eX9_write_203 rfl ?_
                        refine am_iload eX9_write_205 rfl ?_
                        refine md_ast (f := 23) (j := ((200 * a.toNat) + (m 21 a.toNat).toNat)) eX9_write_207 (by show _ < 600; omega) rfl (by omega) ?_
                        refine am_goto eX9_write_208 ?_
                        refine am_iload eX9_write_275 rfl ?_
                        refine am_ireturn eX9_write_277 rfl trivial (Nat.zero_le _) (Nat.zero_le _) ?_
                        exact am_is_m (by first | rfl | (unfold an_write; (try (rw [← hf8])); (repeat' split) <;> first | rfl | omega)) (by first | rfl | (unfold sp_write; (try (rw [← hf8])); (repeat' split) <;> first | rfl | (exfalso; omega)))
              · refine am_iconst eX9_write_99 ?_
                refine am_goto eX9_write_100 ?_
                refine md_put eX9_write_104 fX9_123 rfl rfl (by decide) trivial ?_
                refine am_heq (congrArg (fun z => en_h z x) st_st) ?_
                refine am_aload_n eX9_write_107 rfl ?_
                refine md_getI (v := 3) eX9_write_108 fX9_123 rfl (by decide) st_eq ?_
                refine am_if_le ⟨by omega, by omega⟩ eX9_write_111 (fun z => absurd z (by decide)) (fun _ => ?_)
                refine am_iconst eX9_write_114 ?_
                refine am_ireturn eX9_write_115 rfl trivial (Nat.zero_le _) (Nat.zero_le _) ?_
                exact am_is_m (by first | rfl | (unfold an_write; (try (rw [← hf8])); (repeat' split) <;> first | rfl | omega)) (by first | rfl | (unfold sp_write; (try (rw [← hf8])); (repeat' split) <;> first | rfl | (exfalso; omega)))
        · refine am_iconst eX9_write_44 ?_
          refine am_goto eX9_write_45 ?_
          refine md_put eX9_write_49 fX9_123 rfl rfl (by decide) trivial ?_
          refine am_aload_n eX9_write_52 rfl ?_
          refine md_getI (v := 2) eX9_write_53 fX9_123 rfl (by decide) st_eq ?_
          refine am_if_le ⟨by omega, by omega⟩ eX9_write_56 (fun z => absurd z (by decide)) (fun _ => ?_)
          refine am_iconst eX9_write_59 ?_
          refine am_ireturn eX9_write_60 rfl trivial (Nat.zero_le _) (Nat.zero_le _) ?_
          exact am_is_m (by first | rfl | (unfold an_write; (repeat' split) <;> first | rfl | omega)) (by first | rfl | (unfold sp_write; (repeat' split) <;> first | rfl | (exfalso; omega)))
  · refine am_iconst eX9_write_8 ?_
    refine am_goto eX9_write_9 ?_
    refine md_put eX9_write_49 fX9_123 rfl rfl (by decide) trivial ?_
    refine am_aload_n eX9_write_52 rfl ?_
    refine md_getI (v := 1) eX9_write_53 fX9_123 rfl (by decide) st_eq ?_
    refine am_if_le ⟨by omega, by omega⟩ eX9_write_56 (fun z => absurd z (by decide)) (fun _ => ?_)
    refine am_iconst eX9_write_59 ?_
    refine am_ireturn eX9_write_60 rfl trivial (Nat.zero_le _) (Nat.zero_le _) ?_
    exact am_is_m (by first | rfl | (unfold an_write; (repeat' split) <;> first | rfl | omega)) (by first | rfl | (unfold sp_write; (repeat' split) <;> first | rfl | (exfalso; omega)))
def sp_phrase (σ : sg_S) (u n p b : Int) : sg_S := if ¬ (0 ≤ n ∧ n ≤ σ 33 u.toNat - 1) ∨ ¬ (0 ≤ b ∧ b ≤ 2) ∨ ¬ (0 ≤ p ∧ p ≤ σ 37 (40 * u.toNat + n.toNat) / 2 - 1) then st σ 0 0 1 else st σ 0 0 0
def an_phrase (σ : sg_S) (u n p b : Int) : Int := if ¬ (0 ≤ n ∧ n ≤ σ 33 u.toNat - 1) ∨ ¬ (0 ≤ b ∧ b ≤ 2) ∨ ¬ (0 ≤ p ∧ p ≤ σ 37 (40 * u.toNat + n.toNat) / 2 - 1) then 0 else if (sp_fnd σ b.toNat (92 * σ 38 (60 * (40 * u.toNat + n.toNat) + 2 * p.toNat) + σ 38 ((60 * (40 * u.toNat + n.toNat) + 2 * p.toNat) + 1)) (σ 21 b.toNat).toNat) = -1 then -1 else σ 23 (sp_fnd σ b.toNat (92 * σ 38 (60 * (40 * u.toNat + n.toNat) + 2 * p.toNat) + σ 38 ((60 * (40 * u.toNat + n.toNat) + 2 * p.toNat) + 1)) (σ 21 b.toNat).toNat).toNat
set_option maxRecDepth 100000 in
set_option maxHeartbeats 4000000 in
theorem c_X9_phrase {G : am_G} {m x : sg_S} {T : Int} (hW : md_wb T m) {u n p b : Int} (hr_n : -2147483648 ≤ n ∧ n < 2147483648) (hr_p : -2147483648 ≤ p ∧ p < 2147483648) (hr_b : -2147483648 ≤ b ∧ b < 2147483648) (hb_u : u = 0 ∨ u = 1)  : am_Con G yX9_phrase wX9_phrase 3 0 0 [am_R (9, 0), am_I u, am_I n, am_I p, am_I b] (en_h m x) (am_is (am_I (an_phrase m u n p b)) (en_h (sp_phrase m u n p b) x)) := by
  refine am_of2 (Y := mX9_phrase) (by decide +kernel) rfl (fun z => by cases z) rfl rfl (Nat.le_of_ble_eq_true rfl) fun X => ?_
  rcases hb_u with rfl | rfl
  · refine am_iload_n eX9_phrase_0 rfl ?_
    refine am_if_eq ⟨by omega, by omega⟩ eX9_phrase_1 (fun _ => ?_) (fun z => absurd z (by decide))
    refine am_iconst eX9_phrase_8 ?_
    refine am_istore eX9_phrase_9 (by decide) ?_
    refine am_iload_n eX9_phrase_11 rfl ?_
    refine am_iconst eX9_phrase_12 ?_
    refine am_aload_n eX9_phrase_13 rfl ?_
    refine md_getA eX9_phrase_14 fX9_96 (by decide) (by decide) ?_
    refine am_iload eX9_phrase_17 rfl ?_
    refine md_ald (f := 33) (j := 0) (v := m 33 0) eX9_phrase_19 (by show _ < 2; omega) rfl (by omega) rfl ?_
    have b2 := wb33 hW 0
    refine am_iconst eX9_phrase_20 ?_
    refine am_isub eX9_phrase_21 ?_
    refine am_cS eX9_phrase_22 kX9_129 (c_X9_in (v := n) (lo := 0) (hi := ((m 33 0) - 1)) ⟨by omega, by omega⟩ ⟨by omega, by omega⟩ ⟨by omega, by omega⟩) rfl rfl (by decide) (by decide) (Nat.le_of_ble_eq_true rfl) (Nat.zero_le _) (Nat.zero_le _) ?_
    refine am_bz_eq eX9_phrase_25 (fun c3 => ?_) (fun c3 => ?_)
    · refine am_iconst eX9_phrase_40 ?_
      refine am_istore eX9_phrase_41 (by decide) ?_
      refine am_aload_n eX9_phrase_43 rfl ?_
      refine am_iload eX9_phrase_44 rfl ?_
      refine am_if_eq ⟨by omega, by omega⟩ eX9_phrase_46 (fun _ => ?_) (fun z => absurd z (by decide))
      refine am_iconst eX9_phrase_77 ?_
      refine md_put eX9_phrase_78 fX9_123 rfl rfl (by decide) trivial ?_
      refine am_aload_n eX9_phrase_81 rfl ?_
      refine md_getI (v := 1) eX9_phrase_82 fX9_123 rfl (by decide) st_eq ?_
      refine am_if_le ⟨by omega, by omega⟩ eX9_phrase_85 (fun z => absurd z (by decide)) (fun _ => ?_)
      refine am_iconst eX9_phrase_88 ?_
      refine am_ireturn eX9_phrase_89 rfl trivial (Nat.zero_le _) (Nat.zero_le _) ?_
      exact am_is_m (by unfold an_phrase; (try simp only [Int.toNat_zero, Int.toNat_one]); (repeat' split) <;> first | rfl | omega | (simp only [Nat.mul_zero, Nat.mul_one] at *; omega)) (by unfold sp_phrase; (try simp only [Int.toNat_zero, Int.toNat_one]); (repeat' split) <;> first | rfl | (exfalso; omega) | (exfalso; simp only [Nat.mul_zero, Nat.mul_one] at *; omega))
    · refine am_iload eX9_phrase_28 rfl ?_
      refine am_cS eX9_phrase_30 kX9_155 (c_X9_isBook (a := b) ⟨by omega, by omega⟩) rfl rfl (by decide) (by decide) (Nat.le_of_ble_eq_true rfl) (Nat.zero_le _) (Nat.zero_le _) ?_
      refine am_bz_eq eX9_phrase_33 (fun c6 => ?_) (fun c6 => ?_)
      · refine am_iconst eX9_phrase_40 ?_
        refine am_istore eX9_phrase_41 (by decide) ?_
        refine am_aload_n eX9_phrase_43 rfl ?_
        refine am_iload eX9_phrase_44 rfl ?_
        refine am_if_eq ⟨by omega, by omega⟩ eX9_phrase_46 (fun _ => ?_) (fun z => absurd z (by decide))
        refine am_iconst eX9_phrase_77 ?_
        refine md_put eX9_phrase_78 fX9_123 rfl rfl (by decide) trivial ?_
        refine am_aload_n eX9_phrase_81 rfl ?_
        refine md_getI (v := 1) eX9_phrase_82 fX9_123 rfl (by decide) st_eq ?_
        refine am_if_le ⟨by omega, by omega⟩ eX9_phrase_85 (fun z => absurd z (by decide)) (fun _ => ?_)
        refine am_iconst eX9_phrase_88 ?_
        refine am_ireturn eX9_phrase_89 rfl trivial (Nat.zero_le _) (Nat.zero_le _) ?_
        exact am_is_m (by unfold an_phrase; (try simp only [Int.toNat_zero, Int.toNat_one]); (repeat' split) <;> first | rfl | omega | (simp only [Nat.mul_zero, Nat.mul_one] at *; omega)) (by unfold sp_phrase; (try simp only [Int.toNat_zero, Int.toNat_one]); (repeat' split) <;> first | rfl | (exfalso; omega) | (exfalso; simp only [Nat.mul_zero, Nat.mul_one] at *; omega))
      · refine am_iconst eX9_phrase_36 ?_
        refine am_goto eX9_phrase_37 ?_
        refine am_istore eX9_phrase_41 (by decide) ?_
        refine am_aload_n eX9_phrase_43 rfl ?_
        refine am_iload eX9_phrase_44 rfl ?_
        refine am_if_eq ⟨by omega, by omega⟩ eX9_phrase_46 (fun z => absurd z (by decide)) (fun _ => ?_)
        refine am_iload_n eX9_phrase_49 rfl ?_
        refine am_iconst eX9_phrase_50 ?_
        refine am_aload_n eX9_phrase_51 rfl ?_
        refine md_getA eX9_phrase_52 fX9_108 (by decide) (by decide) ?_
        refine am_bipush eX9_phrase_55 (by decide) ?_
        refine am_iload eX9_phrase_57 rfl ?_
        refine am_imul eX9_phrase_59 ?_
        refine am_steq (st' := am_I 0 :: _) rfl ?_
        refine am_iload_n eX9_phrase_60 rfl ?_
        refine am_iadd eX9_phrase_61 ?_
        refine md_ald (f := 37) (j := (0 + n.toNat)) (v := m 37 (0 + n.toNat)) eX9_phrase_62 (by show _ < 80; omega) rfl (by omega) rfl ?_
        have b10 := wb37 hW (0 + n.toNat)
        refine am_iconst eX9_phrase_63 ?_
        refine am_idiv ⟨by omega, by omega⟩ (by omega) ⟨by omega, by omega⟩ (by omega) eX9_phrase_64 ?_
        refine am_iconst eX9_phrase_65 ?_
        refine am_isub eX9_phrase_66 ?_
        refine am_cS eX9_phrase_67 kX9_129 (c_X9_in (v := p) (lo := 0) (hi := (((m 37 (0 + n.toNat)) / 2) - 1)) ⟨by omega, by omega⟩ ⟨by omega, by omega⟩ ⟨by omega, by omega⟩) rfl rfl (by decide) (by decide) (Nat.le_of_ble_eq_true rfl) (Nat.zero_le _) (Nat.zero_le _) ?_
        refine am_bz_eq eX9_phrase_70 (fun c11 => ?_) (fun c11 => ?_)
        · refine am_iconst eX9_phrase_77 ?_
          refine md_put eX9_phrase_78 fX9_123 rfl rfl (by decide) trivial ?_
          refine am_aload_n eX9_phrase_81 rfl ?_
          refine md_getI (v := 1) eX9_phrase_82 fX9_123 rfl (by decide) st_eq ?_
          refine am_if_le ⟨by omega, by omega⟩ eX9_phrase_85 (fun z => absurd z (by decide)) (fun _ => ?_)
          refine am_iconst eX9_phrase_88 ?_
          refine am_ireturn eX9_phrase_89 rfl trivial (Nat.zero_le _) (Nat.zero_le _) ?_
          exact am_is_m (by unfold an_phrase; (try simp only [Int.toNat_zero, Int.toNat_one]); (repeat' split) <;> first | rfl | omega | (simp only [Nat.mul_zero, Nat.mul_one] at *; omega)) (by unfold sp_phrase; (try simp only [Int.toNat_zero, Int.toNat_one]); (repeat' split) <;> first | rfl | (exfalso; omega) | (exfalso; simp only [Nat.mul_zero, Nat.mul_one] at *; omega))
        · refine am_iconst eX9_phrase_73 ?_
          refine am_goto eX9_phrase_74 ?_
          refine md_put eX9_phrase_78 fX9_123 rfl rfl (by decide) trivial ?_
          refine am_aload_n eX9_phrase_81 rfl ?_
          refine md_getI (v := 0) eX9_phrase_82 fX9_123 rfl (by decide) st_eq ?_
          refine am_if_le ⟨by omega, by omega⟩ eX9_phrase_85 (fun _ => ?_) (fun z => absurd z (by decide))
          refine am_bipush eX9_phrase_90 (by decide) ?_
          refine am_bipush eX9_phrase_92 (by decide) ?_
          refine am_iload eX9_phrase_94 rfl ?_
          refine am_imul eX9_phrase_96 ?_
          refine am_steq (st' := am_I 0 :: _) rfl ?_
          refine am_iload_n eX9_phrase_97 rfl ?_
          refine am_iadd eX9_phrase_98 ?_
          refine am_imul eX9_phrase_99 ?_
          refine am_iconst eX9_phrase_100 ?_
          refine am_iload_n eX9_phrase_101 rfl ?_
          refine am_imul eX9_phrase_102 ?_
          refine am_iadd eX9_phrase_103 ?_
          refine am_istore eX9_phrase_104 (by decide) ?_
          refine am_aload_n eX9_phrase_106 rfl ?_
          refine am_iload eX9_phrase_107 rfl ?_
          refine am_bipush eX9_phrase_109 (by decide) ?_
          refine am_aload_n eX9_phrase_111 rfl ?_
          refine md_getA eX9_phrase_112 fX9_111 (by decide) (by decide) ?_
          refine am_iload eX9_phrase_115 rfl ?_
          refine md_ald (f := 38) (j := ((60 * (0 + n.toNat)) + (2 * p.toNat))) (v := m 38 ((60 * (0 + n.toNat)) + (2 * p.toNat))) eX9_phrase_117 (by show _ < 4800; omega) rfl (by omega) ((st_nf (by decide)).trans rfl) ?_
          have b14 := wb38 hW ((60 * (0 + n.toNat)) + (2 * p.toNat))
          refine am_imul eX9_phrase_118 ?_
          refine am_aload_n eX9_phrase_119 rfl ?_
          refine md_getA eX9_phrase_120 fX9_111 (by decide) (by decide) ?_
          refine am_iload eX9_phrase_123 rfl ?_
          refine am_iconst eX9_phrase_125 ?_
          refine am_iadd eX9_phrase_126 ?_
          refine md_ald (f := 38) (j := (((60 * (0 + n.toNat)) + (2 * p.toNat)) + 1)) (v := m 38 (((60 * (0 + n.toNat)) + (2 * p.toNat)) + 1)) eX9_phrase_127 (by show _ < 4800; omega) rfl (by omega) ((st_nf (by decide)).trans rfl) ?_
          have b15 := wb38 hW (((60 * (0 + n.toNat)) + (2 * p.toNat)) + 1)
          refine am_iadd eX9_phrase_128 ?_
          refine am_cV eX9_phrase_129 kX9_158 (c_X9_spotOf (m := (st m 0 0 0)) (x := x) (T := T) (wb_st (f := 0) hW (by show (0 : Int) ≤ _; omega) (by show _ ≤ (3 : Int); omega)) (b := b) (s := ((92 * (m 38 ((60 * (0 + n.toNat)) + (2 * p.toNat)))) + (m 38 (((60 * (0 + n.toNat)) + (2 * p.toNat)) + 1)))) (by omega) ⟨by omega, by omega⟩) rfl rfl en_9 (by decide) (by decide) (Nat.le_of_ble_eq_true rfl) (Nat.zero_le _) (Nat.zero_le _) ?_
          rw [sp_fnd_st (by decide), show (st m 0 0 0) 21 b.toNat = m 21 b.toNat from st_nf (by decide)]
          obtain ⟨f16, hf16⟩ : ∃ z, z = sp_fnd m b.toNat ((92 * (m 38 ((60 * (0 + n.toNat)) + (2 * p.toNat)))) + (m 38 (((60 * (0 + n.toNat)) + (2 * p.toNat)) + 1))) (m 21 b.toNat).toNat := ⟨_, rfl⟩
          rw [← hf16]
          have b17 := wb21 hW b.toNat
          have qf16 := sp_fnd_in (σ := m) (b := b.toNat) (s := ((92 * (m 38 ((60 * (0 + n.toNat)) + (2 * p.toNat)))) + (m 38 (((60 * (0 + n.toNat)) + (2 * p.toNat)) + 1)))) (m 21 b.toNat).toNat
          rw [← hf16] at qf16
          refine am_istore eX9_phrase_132 (by decide) ?_
          refine am_iload eX9_phrase_134 rfl ?_
          refine am_iconst eX9_phrase_136 ?_
          refine am_icmp_ne ⟨by omega, by omega⟩ ⟨by omega, by omega⟩ eX9_phrase_137 (fun c18 => ?_) (fun c18 => ?_)
          · refine am_aload_n eX9_phrase_144 rfl ?_
            refine md_getA eX9_phrase_145 fX9_69 (by decide) (by decide) ?_
            refine am_iload eX9_phrase_148 rfl ?_
            refine md_ald (f := 23) (j := f16.toNat) (v := m 23 f16.toNat) eX9_phrase_150 (by show _ < 600; omega) rfl (by omega) ((st_nf (by decide)).trans rfl) ?_
            have b19 := wb23 hW f16.toNat
            refine am_ireturn eX9_phrase_151 rfl trivial (Nat.zero_le _) (Nat.zero_le _) ?_
            exact am_is_m (by unfold an_phrase; (try simp only [Int.toNat_zero, Int.toNat_one]); (try rw [← hf16]); (repeat' split) <;> first | rfl | omega | (simp only [Nat.mul_zero, Nat.mul_one] at *; omega)) (by unfold sp_phrase; (try simp only [Int.toNat_zero, Int.toNat_one]); (repeat' split) <;> first | rfl | (exfalso; omega) | (exfalso; simp only [Nat.mul_zero, Nat.mul_one] at *; omega))
          · refine am_iconst eX9_phrase_140 ?_
            refine am_goto eX9_phrase_141 ?_
            refine am_ireturn eX9_phrase_151 rfl trivial (Nat.zero_le _) (Nat.zero_le _) ?_
            exact am_is_m (by unfold an_phrase; (try simp only [Int.toNat_zero, Int.toNat_one]); (try rw [← hf16]); (repeat' split) <;> first | rfl | omega | (simp only [Nat.mul_zero, Nat.mul_one] at *; omega)) (by unfold sp_phrase; (try simp only [Int.toNat_zero, Int.toNat_one]); (repeat' split) <;> first | rfl | (exfalso; omega) | (exfalso; simp only [Nat.mul_zero, Nat.mul_one] at *; omega))
  · refine am_iload_n eX9_phrase_0 rfl ?_
    refine am_if_eq ⟨by omega, by omega⟩ eX9_phrase_1 (fun z => absurd z (by decide)) (fun _ => ?_)
    refine am_iconst eX9_phrase_4 ?_
    refine am_goto eX9_phrase_5 ?_
    refine am_istore eX9_phrase_9 (by decide) ?_
    refine am_iload_n eX9_phrase_11 rfl ?_
    refine am_iconst eX9_phrase_12 ?_
    refine am_aload_n eX9_phrase_13 rfl ?_
    refine md_getA eX9_phrase_14 fX9_96 (by decide) (by decide) ?_
    refine am_iload eX9_phrase_17 rfl ?_
    refine md_ald (f := 33) (j := 1) (v := m 33 1) eX9_phrase_19 (by show _ < 2; omega) rfl (by omega) rfl ?_
    have b2 := wb33 hW 1
    refine am_iconst eX9_phrase_20 ?_
    refine am_isub eX9_phrase_21 ?_
    refine am_cS eX9_phrase_22 kX9_129 (c_X9_in (v := n) (lo := 0) (hi := ((m 33 1) - 1)) ⟨by omega, by omega⟩ ⟨by omega, by omega⟩ ⟨by omega, by omega⟩) rfl rfl (by decide) (by decide) (Nat.le_of_ble_eq_true rfl) (Nat.zero_le _) (Nat.zero_le _) ?_
    refine am_bz_eq eX9_phrase_25 (fun c3 => ?_) (fun c3 => ?_)
    · refine am_iconst eX9_phrase_40 ?_
      refine am_istore eX9_phrase_41 (by decide) ?_
      refine am_aload_n eX9_phrase_43 rfl ?_
      refine am_iload eX9_phrase_44 rfl ?_
      refine am_if_eq ⟨by omega, by omega⟩ eX9_phrase_46 (fun _ => ?_) (fun z => absurd z (by decide))
      refine am_iconst eX9_phrase_77 ?_
      refine md_put eX9_phrase_78 fX9_123 rfl rfl (by decide) trivial ?_
      refine am_aload_n eX9_phrase_81 rfl ?_
      refine md_getI (v := 1) eX9_phrase_82 fX9_123 rfl (by decide) st_eq ?_
      refine am_if_le ⟨by omega, by omega⟩ eX9_phrase_85 (fun z => absurd z (by decide)) (fun _ => ?_)
      refine am_iconst eX9_phrase_88 ?_
      refine am_ireturn eX9_phrase_89 rfl trivial (Nat.zero_le _) (Nat.zero_le _) ?_
      exact am_is_m (by unfold an_phrase; (try simp only [Int.toNat_zero, Int.toNat_one]); (repeat' split) <;> first | rfl | omega | (simp only [Nat.mul_zero, Nat.mul_one] at *; omega)) (by unfold sp_phrase; (try simp only [Int.toNat_zero, Int.toNat_one]); (repeat' split) <;> first | rfl | (exfalso; omega) | (exfalso; simp only [Nat.mul_zero, Nat.mul_one] at *; omega))
    · refine am_iload eX9_phrase_28 rfl ?_
      refine am_cS eX9_phrase_30 kX9_155 (c_X9_isBook (a := b) ⟨by omega, by omega⟩) rfl rfl (by decide) (by decide) (Nat.le_of_ble_eq_true rfl) (Nat.zero_le _) (Nat.zero_le _) ?_
      refine am_bz_eq eX9_phrase_33 (fun c6 => ?_) (fun c6 => ?_)
      · refine am_iconst eX9_phrase_40 ?_
        refine am_istore eX9_phrase_41 (by decide) ?_
        refine am_aload_n eX9_phrase_43 rfl ?_
        refine am_iload eX9_phrase_44 rfl ?_
        refine am_if_eq ⟨by omega, by omega⟩ eX9_phrase_46 (fun _ => ?_) (fun z => absurd z (by decide))
        refine am_iconst eX9_phrase_77 ?_
        refine md_put eX9_phrase_78 fX9_123 rfl rfl (by decide) trivial ?_
        refine am_aload_n eX9_phrase_81 rfl ?_
        refine md_getI (v := 1) eX9_phrase_82 fX9_123 rfl (by decide) st_eq ?_
        refine am_if_le ⟨by omega, by omega⟩ eX9_phrase_85 (fun z => absurd z (by decide)) (fun _ => ?_)
        refine am_iconst eX9_phrase_88 ?_
        refine am_ireturn eX9_phrase_89 rfl trivial (Nat.zero_le _) (Nat.zero_le _) ?_
        exact am_is_m (by unfold an_phrase; (try simp only [Int.toNat_zero, Int.toNat_one]); (repeat' split) <;> first | rfl | omega | (simp only [Nat.mul_zero, Nat.mul_one] at *; omega)) (by unfold sp_phrase; (try simp only [Int.toNat_zero, Int.toNat_one]); (repeat' split) <;> first | rfl | (exfalso; omega) | (exfalso; simp only [Nat.mul_zero, Nat.mul_one] at *; omega))
      · refine am_iconst eX9_phrase_36 ?_
        refine am_goto eX9_phrase_37 ?_
        refine am_istore eX9_phrase_41 (by decide) ?_
        refine am_aload_n eX9_phrase_43 rfl ?_
        refine am_iload eX9_phrase_44 rfl ?_
        refine am_if_eq ⟨by omega, by omega⟩ eX9_phrase_46 (fun z => absurd z (by decide)) (fun _ => ?_)
        refine am_iload_n eX9_phrase_49 rfl ?_
        refine am_iconst eX9_phrase_50 ?_
        refine am_aload_n eX9_phrase_51 rfl ?_
        refine md_getA eX9_phrase_52 fX9_108 (by decide) (by decide) ?_
        refine am_bipush eX9_phrase_55 (by decide) ?_
        refine am_iload eX9_phrase_57 rfl ?_
        refine am_imul eX9_phrase_59 ?_
        refine am_steq (st' := am_I 40 :: _) rfl ?_
        refine am_iload_n eX9_phrase_60 rfl ?_
        refine am_iadd eX9_phrase_61 ?_
        refine md_ald (f := 37) (j := (40 + n.toNat)) (v := m 37 (40 + n.toNat)) eX9_phrase_62 (by show _ < 80; omega) rfl (by omega) rfl ?_
        have b10 := wb37 hW (40 + n.toNat)
        refine am_iconst eX9_phrase_63 ?_
        refine am_idiv ⟨by omega, by omega⟩ (by omega) ⟨by omega, by omega⟩ (by omega) eX9_phrase_64 ?_
        refine am_iconst eX9_phrase_65 ?_
        refine am_isub eX9_phrase_66 ?_
        refine am_cS eX9_phrase_67 kX9_129 (c_X9_in (v := p) (lo := 0) (hi := (((m 37 (40 + n.toNat)) / 2) - 1)) ⟨by omega, by omega⟩ ⟨by omega, by omega⟩ ⟨by omega, by omega⟩) rfl rfl (by decide) (by decide) (Nat.le_of_ble_eq_true rfl) (Nat.zero_le _) (Nat.zero_le _) ?_
        refine am_bz_eq eX9_phrase_70 (fun c11 => ?_) (fun c11 => ?_)
        · refine am_iconst eX9_phrase_77 ?_
          refine md_put eX9_phrase_78 fX9_123 rfl rfl (by decide) trivial ?_
          refine am_aload_n eX9_phrase_81 rfl ?_
          refine md_getI (v := 1) eX9_phrase_82 fX9_123 rfl (by decide) st_eq ?_
          refine am_if_le ⟨by omega, by omega⟩ eX9_phrase_85 (fun z => absurd z (by decide)) (fun _ => ?_)
          refine am_iconst eX9_phrase_88 ?_
          refine am_ireturn eX9_phrase_89 rfl trivial (Nat.zero_le _) (Nat.zero_le _) ?_
          exact am_is_m (by unfold an_phrase; (try simp only [Int.toNat_zero, Int.toNat_one]); (repeat' split) <;> first | rfl | omega | (simp only [Nat.mul_zero, Nat.mul_one] at *; omega)) (by unfold sp_phrase; (try simp only [Int.toNat_zero, Int.toNat_one]); (repeat' split) <;> first | rfl | (exfalso; omega) | (exfalso; simp only [Nat.mul_zero, Nat.mul_one] at *; omega))
        · refine am_iconst eX9_phrase_73 ?_
          refine am_goto eX9_phrase_74 ?_
          refine md_put eX9_phrase_78 fX9_123 rfl rfl (by decide) trivial ?_
          refine am_aload_n eX9_phrase_81 rfl ?_
          refine md_getI (v := 0) eX9_phrase_82 fX9_123 rfl (by decide) st_eq ?_
          refine am_if_le ⟨by omega, by omega⟩ eX9_phrase_85 (fun _ => ?_) (fun z => absurd z (by decide))
          refine am_bipush eX9_phrase_90 (by decide) ?_
          refine am_bipush eX9_phrase_92 (by decide) ?_
          refine am_iload eX9_phrase_94 rfl ?_
          refine am_imul eX9_phrase_96 ?_
          refine am_steq (st' := am_I 40 :: _) rfl ?_
          refine am_iload_n eX9_phrase_97 rfl ?_
          refine am_iadd eX9_phrase_98 ?_
          refine am_imul eX9_phrase_99 ?_
          refine am_iconst eX9_phrase_100 ?_
          refine am_iload_n eX9_phrase_101 rfl ?_
          refine am_imul eX9_phrase_102 ?_
          refine am_iadd eX9_phrase_103 ?_
          refine am_istore eX9_phrase_104 (by decide) ?_
          refine am_aload_n eX9_phrase_106 rfl ?_
          refine am_iload eX9_phrase_107 rfl ?_
          refine am_bipush eX9_phrase_109 (by decide) ?_
          refine am_aload_n eX9_phrase_111 rfl ?_
          refine md_getA eX9_phrase_112 fX9_111 (by decide) (by decide) ?_
          refine am_iload eX9_phrase_115 rfl ?_
          refine md_ald (f := 38) (j := ((60 * (40 + n.toNat)) + (2 * p.toNat))) (v := m 38 ((60 * (40 + n.toNat)) + (2 * p.toNat))) eX9_phrase_117 (by show _ < 4800; omega) rfl (by omega) ((st_nf (by decide)).trans rfl) ?_
          have b14 := wb38 hW ((60 * (40 + n.toNat)) + (2 * p.toNat))
          refine am_imul eX9_phrase_118 ?_
          refine am_aload_n eX9_phrase_119 rfl ?_
          refine md_getA eX9_phrase_120 fX9_111 (by decide) (by decide) ?_
          refine am_iload eX9_phrase_123 rfl ?_
          refine am_iconst eX9_phrase_125 ?_
          refine am_iadd eX9_phrase_126 ?_
          refine md_ald (f := 38) (j := (((60 * (40 + n.toNat)) + (2 * p.toNat)) + 1)) (v := m 38 (((60 * (40 + n.toNat)) + (2 * p.toNat)) + 1)) eX9_phrase_127 (by show _ < 4800; omega) rfl (by omega) ((st_nf (by decide)).trans rfl) ?_
          have b15 := wb38 hW (((60 * (40 + n.toNat)) + (2 * p.toNat)) + 1)
          refine am_iadd eX9_phrase_128 ?_
          refine am_cV eX9_phrase_129 kX9_158 (c_X9_spotOf (m := (st m 0 0 0)) (x := x) (T := T) (wb_st (f := 0) hW (by show (0 : Int) ≤ _; omega) (by show _ ≤ (3 : Int); omega)) (b := b) (s := ((92 * (m 38 ((60 * (40 + n.toNat)) + (2 * p.toNat)))) + (m 38 (((60 * (40 + n.toNat)) + (2 * p.toNat)) + 1)))) (by omega) ⟨by omega, by omega⟩) rfl rfl en_9 (by decide) (by decide) (Nat.le_of_ble_eq_true rfl) (Nat.zero_le _) (Nat.zero_le _) ?_
          rw [sp_fnd_st (by decide), show (st m 0 0 0) 21 b.toNat = m 21 b.toNat from st_nf (by decide)]
          obtain ⟨f16, hf16⟩ : ∃ z, z = sp_fnd m b.toNat ((92 * (m 38 ((60 * (40 + n.toNat)) + (2 * p.toNat)))) + (m 38 (((60 * (40 + n.toNat)) + (2 * p.toNat)) + 1))) (m 21 b.toNat).toNat := ⟨_, rfl⟩
          rw [← hf16]
          have b17 := wb21 hW b.toNat
          have qf16 := sp_fnd_in (σ := m) (b := b.toNat) (s := ((92 * (m 38 ((60 * (40 + n.toNat)) + (2 * p.toNat)))) + (m 38 (((60 * (40 + n.toNat)) + (2 * p.toNat)) + 1)))) (m 21 b.toNat).toNat
          rw [← hf16] at qf16
          refine am_istore eX9_phrase_132 (by decide) ?_
          refine am_iload eX9_phrase_134 rfl ?_
          refine am_iconst eX9_phrase_136 ?_
          refine am_icmp_ne ⟨by omega, by omega⟩ ⟨by omega, by omega⟩ eX9_phrase_137 (fun c18 => ?_) (fun c18 => ?_)
          · refine am_aload_n eX9_phrase_144 rfl ?_
            refine md_getA eX9_phrase_145 fX9_69 (by decide) (by decide) ?_
            refine am_iload eX9_phrase_148 rfl ?_
            refine md_ald (f := 23) (j := f16.toNat) (v := m 23 f16.toNat) eX9_phrase_150 (by show _ < 600; omega) rfl (by omega) ((st_nf (by decide)).trans rfl) ?_
            have b19 := wb23 hW f16.toNat
            refine am_ireturn eX9_phrase_151 rfl trivial (Nat.zero_le _) (Nat.zero_le _) ?_
            exact am_is_m (by unfold an_phrase; (try simp only [Int.toNat_zero, Int.toNat_one]); (try rw [← hf16]); (repeat' split) <;> first | rfl | omega | (simp only [Nat.mul_zero, Nat.mul_one] at *; omega)) (by unfold sp_phrase; (try simp only [Int.toNat_zero, Int.toNat_one]); (repeat' split) <;> first | rfl | (exfalso; omega) | (exfalso; simp only [Nat.mul_zero, Nat.mul_one] at *; omega))
          · refine am_iconst eX9_phrase_140 ?_
            refine am_goto eX9_phrase_141 ?_
            refine am_ireturn eX9_phrase_151 rfl trivial (Nat.zero_le _) (Nat.zero_le _) ?_
            exact am_is_m (by unfold an_phrase; (try simp only [Int.toNat_zero, Int.toNat_one]); (try rw [← hf16]); (repeat' split) <;> first | rfl | omega | (simp only [Nat.mul_zero, Nat.mul_one] at *; omega)) (by unfold sp_phrase; (try simp only [Int.toNat_zero, Int.toNat_one]); (repeat' split) <;> first | rfl | (exfalso; omega) | (exfalso; simp only [Nat.mul_zero, Nat.mul_one] at *; omega))
