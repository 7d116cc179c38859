/-- n drafts put in, one behind the other, from the place p on -/
def sp_si (σ : sg_S) (w p : Nat) : Nat → sg_S
  | 0 => σ
  | n + 1 => sp_kp (sp_si σ w p n) w (p + n) (σ 26 n)
theorem sp_si_f {σ : sg_S} {w p f j : Nat} (h1 : f ≠ 12) (h2 : f ≠ 14) : ∀ n, sp_si σ w p n f j = σ f j
  | 0 => rfl
  | n + 1 => by simp only [sp_si]; rw [sp_kp_f h1 h2]; exact sp_si_f h1 h2 n
theorem sp_si_12 {σ : sg_S} {w p : Nat} : ∀ n : Nat, sp_si σ w p n 12 w = σ 12 w + n
  | 0 => by simp [sp_si]
  | n + 1 => by simp only [sp_si]; rw [sp_kp_12, sp_si_12 n]; omega
theorem sp_si_wb {T : Int} {σ : sg_S} (hW : md_wb T σ) {w p : Nat} : ∀ n : Nat, σ 12 w + n ≤ 200 → md_wb T (sp_si σ w p n)
  | 0, _ => hW
  | n + 1, h => by
    have b := wb26 hW n
    exact sp_kp_wb (sp_si_wb hW n (by omega)) (by omega) (by rw [sp_si_12]; omega)
/-- the arm to which a text is sent -/
def sp_sw (σ : sg_S) (u : Int) : Nat := if σ 3 0 < 2 then 0 else if u = 0 then 2 * 0 + 1 else 2 * ((σ 3 0).toNat - 1) + 0
def an_sk (σ : sg_S) (b r : Int) : Int := if σ 3 0 < 2 ∨ σ 24 0 = 0 then -1 else an_mk (st σ 0 0 0) b.toNat r.toNat (σ 24 0).toNat 0
def sp_sk (σ : sg_S) (b r : Int) : sg_S := if σ 3 0 < 2 ∨ σ 24 0 = 0 then st σ 0 0 0 else sp_mk (st σ 0 0 0) b.toNat r.toNat (σ 24 0).toNat 0
def sp_sent (M : sg_S) (w : Nat) (r a : Int) : sg_S := st (sp_si (st (st M 0 0 0) 2 0 1) w (if r = 0 then (M 12 w).toNat else (M 13 w).toNat) a.toNat) 13 w (M 13 w + (if r = 0 then 0 else a))
def sp_send (σ : sg_S) (u b r : Int) : sg_S :=
  if ¬ (0 ≤ b ∧ b ≤ 2) then st σ 0 0 1
  else if an_sk σ b r = -1 ∨ 200 < σ 12 (sp_sw σ u) + an_sk σ b r then st (sp_sk σ b r) 0 0 2
  else sp_sent (sp_sk σ b r) (sp_sw σ u) r (an_sk σ b r)
def an_send (σ : sg_S) (u b r : Int) : Int :=
  if ¬ (0 ≤ b ∧ b ≤ 2) then 0
  else if an_sk σ b r = -1 ∨ 200 < σ 12 (sp_sw σ u) + an_sk σ b r then 0
  else σ 12 (sp_sw σ u) + an_sk σ b r
set_option maxRecDepth 100000 in
set_option maxHeartbeats 4000000 in
theorem lp_X9_send {G : am_G} {m x : sg_S} {T : Int} (hW : md_wb T m) {u b r av wv pv : Int} {w p : Nat} (ew : wv = (w : Int)) (ep : pv = (p : Int)) (hw : w < 24) (ha : 0 ≤ av ∧ m 12 w + av ≤ 200) (ha4 : av ≤ 40) (hp : (p : Int) ≤ m 12 w) (hb_r : r = 0 ∨ r = 1) (X : am_X) : ∀ (n : Nat) (i : Nat) (kv : Int) (m1 : sg_S), (kv = i) → (m1 = sp_si m w p i) → (i + n = av.toNat) → am_W G X mX9_send 3 0 0 (am_end G X 0 0 (am_is (am_I (m 12 w + av)) (en_h (st (sp_si m w p av.toNat) 13 w (m 13 w + (if r = 0 then 0 else av))) x))) 159 [some (am_R (9, 0)), some (am_I u), some (am_I b), some (am_I r), some (am_I av), some (am_I wv), some (am_I pv), some (am_I kv)] [] (en_h m1 x) 0 0 := by
  intro n
  induction n with
  | zero =>
    intro i kv m1 hk hm hn
    have b12 := wb12 hW w
    have hW1 : md_wb T m1 := by rw [hm]; exact sp_si_wb hW i (by omega)
    have h12 : m1 12 w = m 12 w + i := by rw [hm]; exact sp_si_12 i
    refine am_iload eX9_send_159 rfl ?_
    refine am_iload eX9_send_161 rfl ?_
    refine am_icmp_ge ⟨by omega, by omega⟩ ⟨by omega, by omega⟩ eX9_send_163 (fun c1 => ?_) (fun c1 => absurd c1 (by omega))
    refine am_aload_n eX9_send_190 rfl ?_
    refine md_getA eX9_send_191 fX9_38 (by decide) (by decide) ?_
    refine am_iload eX9_send_194 rfl ?_
    refine am_dup2 eX9_send_196 ?_
    refine md_ald (f := 13) (j := w) (v := m 13 w) eX9_send_197 (by show _ < 24; omega) rfl (by omega) (by rw [hm]; exact sp_si_f (by decide) (by decide) i) ?_
    have b2 := wb13 hW w
    refine am_iload_n eX9_send_198 rfl ?_
    refine am_if_eq ⟨by omega, by omega⟩ eX9_send_199 (fun c3 => ?_) (fun c3 => ?_)
    · refine am_iconst eX9_send_207 ?_
      refine am_iadd eX9_send_208 ?_
      refine md_ast (f := 13) (j := w) eX9_send_209 (by show _ < 24; omega) rfl (by omega) ?_
      refine am_aload_n eX9_send_210 rfl ?_
      refine md_getA eX9_send_211 fX9_35 (by decide) (by decide) ?_
      refine am_iload eX9_send_214 rfl ?_
      refine md_ald (f := 12) (j := w) (v := (m 12 w + i)) eX9_send_216 (by show _ < 24; omega) rfl (by omega) ((st_nf (by decide)).trans (by rw [hm]; exact sp_si_12 i)) ?_
      refine am_ireturn eX9_send_217 rfl trivial (Nat.zero_le _) (Nat.zero_le _) ?_
      exact am_is_m (by omega) (by rw [hm, ← hn]; first | (rw [if_pos (by omega)]; rfl) | (rw [if_neg (by omega)]; rfl))
    · refine am_iload eX9_send_202 rfl ?_
      refine am_goto eX9_send_204 ?_
      refine am_iadd eX9_send_208 ?_
      refine md_ast (f := 13) (j := w) eX9_send_209 (by show _ < 24; omega) rfl (by omega) ?_
      refine am_aload_n eX9_send_210 rfl ?_
      refine md_getA eX9_send_211 fX9_35 (by decide) (by decide) ?_
      refine am_iload eX9_send_214 rfl ?_
      refine md_ald (f := 12) (j := w) (v := (m 12 w + i)) eX9_send_216 (by show _ < 24; omega) rfl (by omega) ((st_nf (by decide)).trans (by rw [hm]; exact sp_si_12 i)) ?_
      refine am_ireturn eX9_send_217 rfl trivial (Nat.zero_le _) (Nat.zero_le _) ?_
      exact am_is_m (by omega) (by rw [hm, ← hn]; first | (rw [if_pos (by omega)]; rfl) | (rw [if_neg (by omega)]; rfl))
  | succ n ih =>
    intro i kv m1 hk hm hn
    have b12 := wb12 hW w
    have hW1 : md_wb T m1 := by rw [hm]; exact sp_si_wb hW i (by omega)
    have h12 : m1 12 w = m 12 w + i := by rw [hm]; exact sp_si_12 i
    refine am_iload eX9_send_159 rfl ?_
    refine am_iload eX9_send_161 rfl ?_
    refine am_icmp_ge ⟨by omega, by omega⟩ ⟨by omega, by omega⟩ eX9_send_163 (fun c1 => absurd c1 (by omega)) (fun c1 => ?_)
    refine am_aload_n eX9_send_166 rfl ?_
    refine am_iload eX9_send_167 rfl ?_
    refine am_iload eX9_send_169 rfl ?_
    refine am_iload eX9_send_171 rfl ?_
    refine am_iadd eX9_send_173 ?_
    refine am_aload_n eX9_send_174 rfl ?_
    refine md_getA eX9_send_175 fX9_75 (by decide) (by decide) ?_
    refine am_iload eX9_send_178 rfl ?_
    refine md_ald (f := 26) (j := i) (v := m 26 i) eX9_send_180 (by show _ < 40; omega) rfl (by omega) (by rw [hm]; exact sp_si_f (by decide) (by decide) i) ?_
    have b2 := wb26 hW i
    refine am_cV_v eX9_send_181 kX9_174 (c_X9_keepsAtN (m := m1) (x := x) (T := T) hW1 (w := wv) (p := (pv + kv)) (s := (m 26 i)) (wn := w) (pn := p + i) (by omega) (by omega) (by omega) (by rw [h12]; omega) (by rw [h12]; omega) ⟨by omega, by omega⟩) rfl rfl en_9 (by decide) (by decide) (Nat.le_of_ble_eq_true rfl) (Nat.zero_le _) (Nat.zero_le _) ?_
    refine am_iinc eX9_send_184 rfl (by decide) ?_
    refine am_goto eX9_send_187 ?_
    exact ih (i + 1) _ _ (by omega) (by rw [hm]; rfl) (by omega)
set_option maxRecDepth 100000 in
set_option maxHeartbeats 4000000 in
theorem c_X9_send {G : am_G} {m x : sg_S} {T : Int} (hW : md_wb T m) {u b r : Int} (hr_b : -2147483648 ≤ b ∧ b < 2147483648) (hb_u : u = 0 ∨ u = 1) (hb_r : r = 0 ∨ r = 1) (hU : ∀ w, m 13 w ≤ m 12 w) : am_Con G yX9_send wX9_send 3 0 0 [am_R (9, 0), am_I u, am_I b, am_I r] (en_h m x) (am_is (am_I (an_send m u b r)) (en_h (sp_send m u b r) x)) := by
  refine am_of2 (Y := mX9_send) (by decide +kernel) rfl (fun z => by cases z) rfl rfl (Nat.le_of_ble_eq_true rfl) fun X => ?_
  have b3 := wb3 hW 0
  have b24 := wb24 hW 0
  rcases hb_u with rfl | rfl <;> rcases hb_r with rfl | rfl
  · refine am_aload_n eX9_send_0 rfl ?_
    refine am_iload_n eX9_send_1 rfl ?_
    refine am_cS eX9_send_2 kX9_155 (c_X9_isBook (a := b) ⟨by omega, by omega⟩) rfl rfl (by decide) (by decide) (Nat.le_of_ble_eq_true rfl) (Nat.zero_le _) (Nat.zero_le _) ?_
    refine am_bz_eq eX9_send_5 (fun c1 => ?_) (fun c1 => ?_)
    · refine am_iconst eX9_send_12 ?_
      refine md_put eX9_send_13 fX9_123 rfl rfl (by decide) trivial ?_
      refine am_aload_n eX9_send_16 rfl ?_
      refine md_getI (v := 1) eX9_send_17 fX9_123 rfl (by decide) st_eq ?_
      refine am_if_le ⟨by omega, by omega⟩ eX9_send_20 (fun z => absurd z (by decide)) (fun _ => ?_)
      refine am_iconst eX9_send_23 ?_
      refine am_ireturn eX9_send_24 rfl trivial (Nat.zero_le _) (Nat.zero_le _) ?_
      first | (exfalso; omega) | exact am_is_m (by unfold an_send an_sk; first | (rw [if_pos (by omega)]) | (rw [if_neg (by omega), if_pos (Or.inl (if_pos (by omega)))])) (by unfold sp_send; first | (rw [if_pos (by omega)]) | (unfold an_sk sp_sk; rw [if_neg (by omega), if_pos (Or.inl (if_pos (by omega))), if_pos (by omega)]; exact st_st.symm))
    · refine am_iconst eX9_send_8 ?_
      refine am_goto eX9_send_9 ?_
      refine md_put eX9_send_13 fX9_123 rfl rfl (by decide) trivial ?_
      refine am_aload_n eX9_send_16 rfl ?_
      refine md_getI (v := 0) eX9_send_17 fX9_123 rfl (by decide) st_eq ?_
      refine am_if_le ⟨by omega, by omega⟩ eX9_send_20 (fun _ => ?_) (fun z => absurd z (by decide))
      refine am_aload_n eX9_send_25 rfl ?_
      refine md_getI (v := m 3 0) eX9_send_26 fX9_126 rfl (by decide) ((st_nf (by decide)).trans rfl) ?_
      have b4 := wb3 hW 0
      refine am_iconst eX9_send_29 ?_
      refine am_icmp_lt ⟨by omega, by omega⟩ ⟨by omega, by omega⟩ eX9_send_30 (fun c5 => ?_) (fun c5 => ?_)
      · refine am_iconst eX9_send_40 ?_
        refine am_goto eX9_send_41 ?_
        refine am_istore eX9_send_50 (by decide) ?_
        refine am_aload_n eX9_send_52 rfl ?_
        refine md_getI (v := m 3 0) eX9_send_53 fX9_126 rfl (by decide) ((st_nf (by decide)).trans rfl) ?_
        have b6 := wb3 hW 0
        refine am_iconst eX9_send_56 ?_
        refine am_icmp_ge ⟨by omega, by omega⟩ ⟨by omega, by omega⟩ eX9_send_57 (fun c7 => ?_) (fun c7 => ?_)
        · refine am_iload_n eX9_send_64 rfl ?_
          refine am_if_eq ⟨by omega, by omega⟩ eX9_send_65 (fun _ => ?_) (fun z => absurd z (by decide))
          refine am_iconst eX9_send_81 ?_
          refine am_iconst eX9_send_82 ?_
          refine am_cS eX9_send_83 kX9_171 (c_X9_at (a := 0) (u := 1) (Or.inr rfl)) rfl rfl (by decide) (by decide) (Nat.le_of_ble_eq_true rfl) (Nat.zero_le _) (Nat.zero_le _) ?_
          refine am_istore eX9_send_86 (by decide) ?_
          refine am_aload_n eX9_send_88 rfl ?_
          refine am_iload eX9_send_89 rfl ?_
          refine am_iconst eX9_send_91 ?_
          refine am_icmp_eq ⟨by omega, by omega⟩ ⟨by omega, by omega⟩ eX9_send_92 (fun _ => ?_) (fun z => absurd z (by decide))
          refine am_iconst eX9_send_111 ?_
          refine am_goto eX9_send_112 ?_
          refine md_put eX9_send_116 fX9_123 rfl rfl (by decide) trivial ?_
          refine am_heq (congrArg (fun z => en_h z x) st_st) ?_
          refine am_aload_n eX9_send_119 rfl ?_
          refine md_getI (v := 2) eX9_send_120 fX9_123 rfl (by decide) st_eq ?_
          refine am_if_le ⟨by omega, by omega⟩ eX9_send_123 (fun z => absurd z (by decide)) (fun _ => ?_)
          refine am_iconst eX9_send_126 ?_
          refine am_ireturn eX9_send_127 rfl trivial (Nat.zero_le _) (Nat.zero_le _) ?_
          first | (exfalso; omega) | exact am_is_m (by unfold an_send an_sk; first | (rw [if_pos (by omega)]) | (rw [if_neg (by omega), if_pos (Or.inl (if_pos (by omega)))])) (by unfold sp_send; first | (rw [if_pos (by omega)]) | (unfold an_sk sp_sk; rw [if_neg (by omega), if_pos (Or.inl (if_pos (by omega))), if_pos (by omega)]; exact st_st.symm))
        · refine am_iconst eX9_send_60 ?_
          refine am_goto eX9_send_61 ?_
          refine am_istore eX9_send_86 (by decide) ?_
          refine am_aload_n eX9_send_88 rfl ?_
          refine am_iload eX9_send_89 rfl ?_
          refine am_iconst eX9_send_91 ?_
          refine am_icmp_eq ⟨by omega, by omega⟩ ⟨by omega, by omega⟩ eX9_send_92 (fun _ => ?_) (fun z => absurd z (by decide))
          refine am_iconst eX9_send_111 ?_
          refine am_goto eX9_send_112 ?_
          refine md_put eX9_send_116 fX9_123 rfl rfl (by decide) trivial ?_
          refine am_heq (congrArg (fun z => en_h z x) st_st) ?_
          refine am_aload_n eX9_send_119 rfl ?_
          refine md_getI (v := 2) eX9_send_120 fX9_123 rfl (by decide) st_eq ?_
          refine am_if_le ⟨by omega, by omega⟩ eX9_send_123 (fun z => absurd z (by decide)) (fun _ => ?_)
          refine am_iconst eX9_send_126 ?_
          refine am_ireturn eX9_send_127 rfl trivial (Nat.zero_le _) (Nat.zero_le _) ?_
          first | (exfalso; omega) | exact am_is_m (by unfold an_send an_sk; first | (rw [if_pos (by omega)]) | (rw [if_neg (by omega), if_pos (Or.inl (if_pos (by omega)))])) (by unfold sp_send; first | (rw [if_pos (by omega)]) | (unfold an_sk sp_sk; rw [if_neg (by omega), if_pos (Or.inl (if_pos (by omega))), if_pos (by omega)]; exact st_st.symm))
      · refine am_aload_n eX9_send_33 rfl ?_
        refine md_getI (v := m 24 0) eX9_send_34 fX9_161 rfl (by decide) ((st_nf (by decide)).trans rfl) ?_
        have b13 := wb24 hW 0
        refine am_if_ne ⟨by omega, by omega⟩ eX9_send_37 (fun c14 => ?_) (fun c14 => ?_)
        · refine am_aload_n eX9_send_44 rfl ?_
          refine am_iload_n eX9_send_45 rfl ?_
          refine am_iload_n eX9_send_46 rfl ?_
          have hW0 : md_wb T (st m 0 0 0) := wb_st hW (by show (0 : Int) ≤ _; omega) (by show _ ≤ (3 : Int); omega)
          refine am_cV eX9_send_47 kX9_167 (c_X9_makesSigns (m := st m 0 0 0) (x := x) (T := T) hW0 (b := b) (u := 0) (by omega) (by omega)) rfl rfl en_9 (by decide) (by decide) (Nat.le_of_ble_eq_true rfl) (Nat.zero_le _) (Nat.zero_le _) ?_
          have eA : an_sk m b 0 = an_mk (st m 0 0 0) b.toNat (0 : Int).toNat (m 24 0).toNat 0 := by unfold an_sk; rw [if_neg (by omega)]
          have eM : sp_sk m b 0 = sp_mk (st m 0 0 0) b.toNat (0 : Int).toNat (m 24 0).toNat 0 := by unfold sp_sk; rw [if_neg (by omega)]
          rw [show st m 0 0 0 24 0 = m 24 0 from st_nf (by decide), ← eA, ← eM]
          have qA := an_mk_in (σ := st m 0 0 0) (b := b.toNat) (u := (0 : Int).toNat) (m 24 0).toNat 0
          rw [← eA] at qA
          obtain ⟨m1, hm1⟩ : ∃ z, z = sp_sk m b 0 := ⟨_, rfl⟩
          obtain ⟨fa, hfa⟩ : ∃ z, z = an_sk m b 0 := ⟨_, rfl⟩
          rw [← hfa] at qA
          rw [← hm1, ← hfa]
          have hWm1 : md_wb T m1 := by rw [hm1, eM]; exact sp_mk_wb hW0 _ _ (fun k hk => absurd hk (Nat.not_lt_zero k))
          have e_m1 : ∀ f j : Nat, f ≠ 26 → f ≠ 0 → m1 f j = m f j := fun f j h1 h2 => by rw [hm1, eM, sp_mk_f h1, st_nf h2]
          refine am_istore eX9_send_50 (by decide) ?_
          refine am_aload_n eX9_send_52 rfl ?_
          refine md_getI (v := m 3 0) eX9_send_53 fX9_126 rfl (by decide) (e_m1 3 0 (by decide) (by decide)) ?_
          have b15 := wb3 hW 0
          refine am_iconst eX9_send_56 ?_
          refine am_icmp_ge ⟨by omega, by omega⟩ ⟨by omega, by omega⟩ eX9_send_57 (fun c16 => ?_) (fun c16 => ?_)
          · refine am_iload_n eX9_send_64 rfl ?_
            refine am_if_eq ⟨by omega, by omega⟩ eX9_send_65 (fun _ => ?_) (fun z => absurd z (by decide))
            refine am_iconst eX9_send_81 ?_
            refine am_iconst eX9_send_82 ?_
            refine am_cS eX9_send_83 kX9_171 (c_X9_at (a := 0) (u := 1) (Or.inr rfl)) rfl rfl (by decide) (by decide) (Nat.le_of_ble_eq_true rfl) (Nat.zero_le _) (Nat.zero_le _) ?_
            refine am_istore eX9_send_86 (by decide) ?_
            refine am_aload_n eX9_send_88 rfl ?_
            refine am_iload eX9_send_89 rfl ?_
            refine am_iconst eX9_send_91 ?_
            refine am_icmp_eq ⟨by omega, by omega⟩ ⟨by omega, by omega⟩ eX9_send_92 (fun c18 => ?_) (fun c18 => ?_)
            · refine am_iconst eX9_send_111 ?_
              refine am_goto eX9_send_112 ?_
              refine md_put eX9_send_116 fX9_123 rfl rfl (by decide) trivial ?_
              refine am_aload_n eX9_send_119 rfl ?_
              refine md_getI (v := 2) eX9_send_120 fX9_123 rfl (by decide) st_eq ?_
              refine am_if_le ⟨by omega, by omega⟩ eX9_send_123 (fun z => absurd z (by decide)) (fun _ => ?_)
              refine am_iconst eX9_send_126 ?_
              refine am_ireturn eX9_send_127 rfl trivial (Nat.zero_le _) (Nat.zero_le _) ?_
              have eS : sp_sw m 0 = (2 * 0 + 1) := by first | (exfalso; omega) | unfold sp_sw; first | rw [if_neg (by omega), if_pos (by omega)] | rw [if_neg (by omega), if_neg (by omega)]
              exact am_is_m (by unfold an_send; rw [eS, ← hfa, if_neg (by omega), if_pos (by omega)]) (by unfold sp_send; rw [eS, ← hfa, ← hm1, if_neg (by omega), if_pos (by omega)])
            · refine am_aload_n eX9_send_95 rfl ?_
              refine md_getA eX9_send_96 fX9_35 (by decide) (by decide) ?_
              refine am_iload eX9_send_99 rfl ?_
              refine md_ald (f := 12) (j := (2 * 0 + 1)) (v := m 12 (2 * 0 + 1)) eX9_send_101 (by show _ < 24; omega) rfl (by omega) (e_m1 12 (2 * 0 + 1) (by decide) (by decide)) ?_
              have b20 := wb12 hW (2 * 0 + 1)
              refine am_iload eX9_send_102 rfl ?_
              refine am_iadd eX9_send_104 ?_
              refine am_sipush eX9_send_105 (by decide) ?_
              refine am_icmp_le ⟨by omega, by omega⟩ ⟨by omega, by omega⟩ eX9_send_108 (fun c21 => ?_) (fun c21 => ?_)
              · refine am_iconst eX9_send_115 ?_
                refine md_put eX9_send_116 fX9_123 rfl rfl (by decide) trivial ?_
                refine am_aload_n eX9_send_119 rfl ?_
                refine md_getI (v := 0) eX9_send_120 fX9_123 rfl (by decide) st_eq ?_
                refine am_if_le ⟨by omega, by omega⟩ eX9_send_123 (fun _ => ?_) (fun z => absurd z (by decide))
                refine am_aload_n eX9_send_128 rfl ?_
                refine am_iconst eX9_send_129 ?_
                refine md_put eX9_send_130 fX9_133 rfl rfl (by decide) (Or.inr rfl) ?_
                refine am_iload_n eX9_send_133 rfl ?_
                refine am_if_eq ⟨by omega, by omega⟩ eX9_send_134 (fun _ => ?_) (fun z => absurd z (by decide))
                refine am_aload_n eX9_send_147 rfl ?_
                refine md_getA eX9_send_148 fX9_35 (by decide) (by decide) ?_
                refine am_iload eX9_send_151 rfl ?_
                refine md_ald (f := 12) (j := (2 * 0 + 1)) (v := m 12 (2 * 0 + 1)) eX9_send_153 (by show _ < 24; omega) rfl (by omega) ((st_nf (by decide)).trans ((st_nf (by decide)).trans (e_m1 12 (2 * 0 + 1) (by decide) (by decide)))) ?_
                have b24 := wb12 hW (2 * 0 + 1)
                refine am_istore eX9_send_154 (by decide) ?_
                refine am_iconst eX9_send_156 ?_
                refine am_istore eX9_send_157 (by decide) ?_
                have eS : sp_sw m 0 = (2 * 0 + 1) := by first | (exfalso; omega) | unfold sp_sw; first | rw [if_neg (by omega), if_pos (by omega)] | rw [if_neg (by omega), if_neg (by omega)]
                have g12 : (st (st m1 0 0 0) 2 0 1) 12 (2 * 0 + 1) = m 12 (2 * 0 + 1) := ((st_nf (by decide)).trans ((st_nf (by decide)).trans (e_m1 12 (2 * 0 + 1) (by decide) (by decide))))
                have g13 : (st (st m1 0 0 0) 2 0 1) 13 (2 * 0 + 1) = m 13 (2 * 0 + 1) := ((st_nf (by decide)).trans ((st_nf (by decide)).trans (e_m1 13 (2 * 0 + 1) (by decide) (by decide))))
                have u12 := wb12 hW (2 * 0 + 1)
                have u13 := wb13 hW (2 * 0 + 1)
                have u14 := hU (2 * 0 + 1)
                have hz : md_wb T (st (st m1 0 0 0) 2 0 1) := wb_st (wb_st hWm1 (by show (0 : Int) ≤ _; omega) (by show _ ≤ (3 : Int); omega)) (by show (0 : Int) ≤ _; omega) (by show _ ≤ (1 : Int); omega)
                refine am_mono (lp_X9_send hz (w := (2 * 0 + 1)) (p := (m 12 (2 * 0 + 1)).toNat) (by omega) (by omega) (by omega) (by rw [g12]; omega) (by omega) (by rw [g12]; omega) (Or.inl rfl) X fa.toNat 0 _ _ rfl rfl (Nat.zero_add _)) ?_
                exact fun r h' q => by
                  obtain ⟨q1, q2⟩ := q
                  refine ⟨by rw [q1, g12]; unfold an_send; rw [eS, ← hfa, if_neg (by omega), if_neg (by omega)], ?_⟩
                  have hS : sp_send m 0 b 0 = sp_sent m1 (2 * 0 + 1) 0 fa := by unfold sp_send; rw [eS, ← hfa, ← hm1, if_neg (show ¬ ¬ (0 ≤ b ∧ b ≤ 2) by omega), if_neg (show ¬ (fa = -1 ∨ 200 < m 12 (2 * 0 + 1) + fa) by omega)]
                  rw [q2, g13, hS]; unfold sp_sent; rw [e_m1 12 _ (by decide) (by decide), e_m1 13 _ (by decide) (by decide)]; first | rfl | simp
              · refine am_iconst eX9_send_111 ?_
                refine am_goto eX9_send_112 ?_
                refine md_put eX9_send_116 fX9_123 rfl rfl (by decide) trivial ?_
                refine am_aload_n eX9_send_119 rfl ?_
                refine md_getI (v := 2) eX9_send_120 fX9_123 rfl (by decide) st_eq ?_
                refine am_if_le ⟨by omega, by omega⟩ eX9_send_123 (fun z => absurd z (by decide)) (fun _ => ?_)
                refine am_iconst eX9_send_126 ?_
                refine am_ireturn eX9_send_127 rfl trivial (Nat.zero_le _) (Nat.zero_le _) ?_
                have eS : sp_sw m 0 = (2 * 0 + 1) := by first | (exfalso; omega) | unfold sp_sw; first | rw [if_neg (by omega), if_pos (by omega)] | rw [if_neg (by omega), if_neg (by omega)]
                exact am_is_m (by unfold an_send; rw [eS, ← hfa, if_neg (by omega), if_pos (by omega)]) (by unfold sp_send; rw [eS, ← hfa, ← hm1, if_neg (by omega), if_pos (by omega)])
          · refine am_iconst eX9_send_60 ?_
            refine am_goto eX9_send_61 ?_
            refine am_istore eX9_send_86 (by decide) ?_
            refine am_aload_n eX9_send_88 rfl ?_
            refine am_iload eX9_send_89 rfl ?_
            refine am_iconst eX9_send_91 ?_
            refine am_icmp_eq ⟨by omega, by omega⟩ ⟨by omega, by omega⟩ eX9_send_92 (fun c26 => ?_) (fun c26 => ?_)
            · refine am_iconst eX9_send_111 ?_
              refine am_goto eX9_send_112 ?_
              refine md_put eX9_send_116 fX9_123 rfl rfl (by decide) trivial ?_
              refine am_aload_n eX9_send_119 rfl ?_
              refine md_getI (v := 2) eX9_send_120 fX9_123 rfl (by decide) st_eq ?_
              refine am_if_le ⟨by omega, by omega⟩ eX9_send_123 (fun z => absurd z (by decide)) (fun _ => ?_)
              refine am_iconst eX9_send_126 ?_
              refine am_ireturn eX9_send_127 rfl trivial (Nat.zero_le _) (Nat.zero_le _) ?_
              have eS : sp_sw m 0 = (2 * 0 + 1) := by first | (exfalso; omega) | unfold sp_sw; first | rw [if_neg (by omega), if_pos (by omega)] | rw [if_neg (by omega), if_neg (by omega)]
              exact am_is_m (by unfold an_send; rw [eS, ← hfa, if_neg (by omega), if_pos (by omega)]) (by unfold sp_send; rw [eS, ← hfa, ← hm1, if_neg (by omega), if_pos (by omega)])
            · refine am_aload_n eX9_send_95 rfl ?_
              refine md_getA eX9_send_96 fX9_35 (by decide) (by decide) ?_
              refine am_iload eX9_send_99 rfl ?_
              refine md_ald (f := 12) (j := 0) (v := m 12 0) eX9_send_101 (by show _ < 24; omega) rfl (by omega) (e_m1 12 0 (by decide) (by decide)) ?_
              have b28 := wb12 hW 0
              refine am_iload eX9_send_102 rfl ?_
              refine am_iadd eX9_send_104 ?_
              refine am_sipush eX9_send_105 (by decide) ?_
              refine am_icmp_le ⟨by omega, by omega⟩ ⟨by omega, by omega⟩ eX9_send_108 (fun c29 => ?_) (fun c29 => ?_)
              · refine am_iconst eX9_send_115 ?_
                refine md_put eX9_send_116 fX9_123 rfl rfl (by decide) trivial ?_
                refine am_aload_n eX9_send_119 rfl ?_
                refine md_getI (v := 0) eX9_send_120 fX9_123 rfl (by decide) st_eq ?_
                refine am_if_le ⟨by omega, by omega⟩ eX9_send_123 (fun _ => ?_) (fun z => absurd z (by decide))
                refine am_aload_n eX9_send_128 rfl ?_
                refine am_iconst eX9_send_129 ?_
                refine md_put eX9_send_130 fX9_133 rfl rfl (by decide) (Or.inr rfl) ?_
                refine am_iload_n eX9_send_133 rfl ?_
                refine am_if_eq ⟨by omega, by omega⟩ eX9_send_134 (fun _ => ?_) (fun z => absurd z (by decide))
                refine am_aload_n eX9_send_147 rfl ?_
                refine md_getA eX9_send_148 fX9_35 (by decide) (by decide) ?_
                refine am_iload eX9_send_151 rfl ?_
                refine md_ald (f := 12) (j := 0) (v := m 12 0) eX9_send_153 (by show _ < 24; omega) rfl (by omega) ((st_nf (by decide)).trans ((st_nf (by decide)).trans (e_m1 12 0 (by decide) (by decide)))) ?_
                have b32 := wb12 hW 0
                refine am_istore eX9_send_154 (by decide) ?_
                refine am_iconst eX9_send_156 ?_
                refine am_istore eX9_send_157 (by decide) ?_
                have eS : sp_sw m 0 = (2 * 0 + 1) := by first | (exfalso; omega) | unfold sp_sw; first | rw [if_neg (by omega), if_pos (by omega)] | rw [if_neg (by omega), if_neg (by omega)]
                have g12 : (st (st m1 0 0 0) 2 0 1) 12 (2 * 0 + 1) = m 12 (2 * 0 + 1) := ((st_nf (by decide)).trans ((st_nf (by decide)).trans (e_m1 12 (2 * 0 + 1) (by decide) (by decide))))
                have g13 : (st (st m1 0 0 0) 2 0 1) 13 (2 * 0 + 1) = m 13 (2 * 0 + 1) := ((st_nf (by decide)).trans ((st_nf (by decide)).trans (e_m1 13 (2 * 0 + 1) (by decide) (by decide))))
                have u12 := wb12 hW (2 * 0 + 1)
                have u13 := wb13 hW (2 * 0 + 1)
                have u14 := hU (2 * 0 + 1)
                have hz : md_wb T (st (st m1 0 0 0) 2 0 1) := wb_st (wb_st hWm1 (by show (0 : Int) ≤ _; omega) (by show _ ≤ (3 : Int); omega)) (by show (0 : Int) ≤ _; omega) (by show _ ≤ (1 : Int); omega)
                refine am_mono (lp_X9_send hz (w := (2 * 0 + 1)) (p := (m 12 (2 * 0 + 1)).toNat) (by omega) (by omega) (by omega) (by rw [g12]; omega) (by omega) (by rw [g12]; omega) (Or.inl rfl) X fa.toNat 0 _ _ rfl rfl (Nat.zero_add _)) ?_
                exact fun r h' q => by
                  obtain ⟨q1, q2⟩ := q
                  refine ⟨by rw [q1, g12]; unfold an_send; rw [eS, ← hfa, if_neg (by omega), if_neg (by omega)], ?_⟩
                  have hS : sp_send m 0 b 0 = sp_sent m1 (2 * 0 + 1) 0 fa := by unfold sp_send; rw [eS, ← hfa, ← hm1, if_neg (show ¬ ¬ (0 ≤ b ∧ b ≤ 2) by omega), if_neg (show ¬ (fa = -1 ∨ 200 < m 12 (2 * 0 + 1) + fa) by omega)]
                  rw [q2, g13, hS]; unfold sp_sent; rw [e_m1 12 _ (by decide) (by decide), e_m1 13 _ (by decide) (by decide)]; first | rfl | simp
              · refine am_iconst eX9_send_111 ?_
                refine am_goto eX9_send_112 ?_
                refine md_put eX9_send_116 fX9_123 rfl rfl (by decide) trivial ?_
                refine am_aload_n eX9_send_119 rfl ?_
                refine md_getI (v := 2) eX9_send_120 fX9_123 rfl (by decide) st_eq ?_
                refine am_if_le ⟨by omega, by omega⟩ eX9_send_123 (fun z => absurd z (by decide)) (fun _ => ?_)
                refine am_iconst eX9_send_126 ?_
                refine am_ireturn eX9_send_127 rfl trivial (Nat.zero_le _) (Nat.zero_le _) ?_
                have eS : sp_sw m 0 = (2 * 0 + 1) := by first | (exfalso; omega) | unfold sp_sw; first | rw [if_neg (by omega), if_pos (by omega)] | rw [if_neg (by omega), if_neg (by omega)]
                exact am_is_m (by unfold an_send; rw [eS, ← hfa, if_neg (by omega), if_pos (by omega)]) (by unfold sp_send; rw [eS, ← hfa, ← hm1, if_neg (by omega), if_pos (by omega)])
        · refine am_iconst eX9_send_40 ?_
          refine am_goto eX9_send_41 ?_
          refine am_istore eX9_send_50 (by decide) ?_
          refine am_aload_n eX9_send_52 rfl ?_
          refine md_getI (v := m 3 0) eX9_send_53 fX9_126 rfl (by decide) ((st_nf (by decide)).trans rfl) ?_
          have b34 := wb3 hW 0
          refine am_iconst eX9_send_56 ?_
          refine am_icmp_ge ⟨by omega, by omega⟩ ⟨by omega, by omega⟩ eX9_send_57 (fun c35 => ?_) (fun c35 => ?_)
          · refine am_iload_n eX9_send_64 rfl ?_
            refine am_if_eq ⟨by omega, by omega⟩ eX9_send_65 (fun _ => ?_) (fun z => absurd z (by decide))
            refine am_iconst eX9_send_81 ?_
            refine am_iconst eX9_send_82 ?_
            refine am_cS eX9_send_83 kX9_171 (c_X9_at (a := 0) (u := 1) (Or.inr rfl)) rfl rfl (by decide) (by decide) (Nat.le_of_ble_eq_true rfl) (Nat.zero_le _) (Nat.zero_le _) ?_
            refine am_istore eX9_send_86 (by decide) ?_
            refine am_aload_n eX9_send_88 rfl ?_
            refine am_iload eX9_send_89 rfl ?_
            refine am_iconst eX9_send_91 ?_
            refine am_icmp_eq ⟨by omega, by omega⟩ ⟨by omega, by omega⟩ eX9_send_92 (fun _ => ?_) (fun z => absurd z (by decide))
            refine am_iconst eX9_send_111 ?_
            refine am_goto eX9_send_112 ?_
            refine md_put eX9_send_116 fX9_123 rfl rfl (by decide) trivial ?_
            refine am_heq (congrArg (fun z => en_h z x) st_st) ?_
            refine am_aload_n eX9_send_119 rfl ?_
            refine md_getI (v := 2) eX9_send_120 fX9_123 rfl (by decide) st_eq ?_
            refine am_if_le ⟨by omega, by omega⟩ eX9_send_123 (fun z => absurd z (by decide)) (fun _ => ?_)
            refine am_iconst eX9_send_126 ?_
            refine am_ireturn eX9_send_127 rfl trivial (Nat.zero_le _) (Nat.zero_le _) ?_
            first | (exfalso; omega) | exact am_is_m (by unfold an_send an_sk; first | (rw [if_pos (by omega)]) | (rw [if_neg (by omega), if_pos (Or.inl (if_pos (by omega)))])) (by unfold sp_send; first | (rw [if_pos (by omega)]) | (unfold an_sk sp_sk; rw [if_neg (by omega), if_pos (Or.inl (if_pos (by omega))), if_pos (by omega)]; exact st_st.symm))
          · refine am_iconst eX9_send_60 ?_
            refine am_goto eX9_send_61 ?_
            refine am_istore eX9_send_86 (by decide) ?_
            refine am_aload_n eX9_send_88 rfl ?_
            refine am_iload eX9_send_89 rfl ?_
            refine am_iconst eX9_send_91 ?_
            refine am_icmp_eq ⟨by omega, by omega⟩ ⟨by omega, by omega⟩ eX9_send_92 (fun _ => ?_) (fun z => absurd z (by decide))
            refine am_iconst eX9_send_111 ?_
            refine am_goto eX9_send_112 ?_
            refine md_put eX9_send_116 fX9_123 rfl rfl (by decide) trivial ?_
            refine am_heq (congrArg (fun z => en_h z x) st_st) ?_
            refine am_aload_n eX9_send_119 rfl ?_
            refine md_getI (v := 2) eX9_send_120 fX9_123 rfl (by decide) st_eq ?_
            refine am_if_le ⟨by omega, by omega⟩ eX9_send_123 (fun z => absurd z (by decide)) (fun _ => ?_)
            refine am_iconst eX9_send_126 ?_
            refine am_ireturn eX9_send_127 rfl trivial (Nat.zero_le _) (Nat.zero_le _) ?_
            first | (exfalso; omega) | exact am_is_m (by unfold an_send an_sk; first | (rw [if_pos (by omega)]) | (rw [if_neg (by omega), if_pos (Or.inl (if_pos (by omega)))])) (by unfold sp_send; first | (rw [if_pos (by omega)]) | (unfold an_sk sp_sk; rw [if_neg (by omega), if_pos (Or.inl (if_pos (by omega))), if_pos (by omega)]; exact st_st.symm))
  · refine am_aload_n eX9_send_0 rfl ?_
    refine am_iload_n eX9_send_1 rfl ?_
    refine am_cS eX9_send_2 kX9_155 (c_X9_isBook (a := b) ⟨by omega, by omega⟩) rfl rfl (by decide) (by decide) (Nat.le_of_ble_eq_true rfl) (Nat.zero_le _) (Nat.zero_le _) ?_
    refine am_bz_eq eX9_send_5 (fun c1 => ?_) (fun c1 => ?_)
    · refine am_iconst eX9_send_12 ?_
      refine md_put eX9_send_13 fX9_123 rfl rfl (by decide) trivial ?_
      refine am_aload_n eX9_send_16 rfl ?_
      refine md_getI (v := 1) eX9_send_17 fX9_123 rfl (by decide) st_eq ?_
      refine am_if_le ⟨by omega, by omega⟩ eX9_send_20 (fun z => absurd z (by decide)) (fun _ => ?_)
      refine am_iconst eX9_send_23 ?_
      refine am_ireturn eX9_send_24 rfl trivial (Nat.zero_le _) (Nat.zero_le _) ?_
      first | (exfalso; omega) | exact am_is_m (by unfold an_send an_sk; first | (rw [if_pos (by omega)]) | (rw [if_neg (by omega), if_pos (Or.inl (if_pos (by omega)))])) (by unfold sp_send; first | (rw [if_pos (by omega)]) | (unfold an_sk sp_sk; rw [if_neg (by omega), if_pos (Or.inl (if_pos (by omega))), if_pos (by omega)]; exact st_st.symm))
    · refine am_iconst eX9_send_8 ?_
      refine am_goto eX9_send_9 ?_
      refine md_put eX9_send_13 fX9_123 rfl rfl (by decide) trivial ?_
      refine am_aload_n eX9_send_16 rfl ?_
      refine md_getI (v := 0) eX9_send_17 fX9_123 rfl (by decide) st_eq ?_
      refine am_if_le ⟨by omega, by omega⟩ eX9_send_20 (fun _ => ?_) (fun z => absurd z (by decide))
      refine am_aload_n eX9_send_25 rfl ?_
      refine md_getI (v := m 3 0) eX9_send_26 fX9_126 rfl (by decide) ((st_nf (by decide)).trans rfl) ?_
      have b4 := wb3 hW 0
      refine am_iconst eX9_send_29 ?_
      refine am_icmp_lt ⟨by omega, by omega⟩ ⟨by omega, by omega⟩ eX9_send_30 (fun c5 => ?_) (fun c5 => ?_)
      · refine am_iconst eX9_send_40 ?_
        refine am_goto eX9_send_41 ?_
        refine am_istore eX9_send_50 (by decide) ?_
        refine am_aload_n eX9_send_52 rfl ?_
        refine md_getI (v := m 3 0) eX9_send_53 fX9_126 rfl (by decide) ((st_nf (by decide)).trans rfl) ?_
        have b6 := wb3 hW 0
        refine am_iconst eX9_send_56 ?_
        refine am_icmp_ge ⟨by omega, by omega⟩ ⟨by omega, by omega⟩ eX9_send_57 (fun c7 => ?_) (fun c7 => ?_)
        · refine am_iload_n eX9_send_64 rfl ?_
          refine am_if_eq ⟨by omega, by omega⟩ eX9_send_65 (fun _ => ?_) (fun z => absurd z (by decide))
          refine am_iconst eX9_send_81 ?_
          refine am_iconst eX9_send_82 ?_
          refine am_cS eX9_send_83 kX9_171 (c_X9_at (a := 0) (u := 1) (Or.inr rfl)) rfl rfl (by decide) (by decide) (Nat.le_of_ble_eq_true rfl) (Nat.zero_le _) (Nat.zero_le _) ?_
          refine am_istore eX9_send_86 (by decide) ?_
          refine am_aload_n eX9_send_88 rfl ?_
          refine am_iload eX9_send_89 rfl ?_
          refine am_iconst eX9_send_91 ?_
          refine am_icmp_eq ⟨by omega, by omega⟩ ⟨by omega, by omega⟩ eX9_send_92 (fun _ => ?_) (fun z => absurd z (by decide))
          refine am_iconst eX9_send_111 ?_
          refine am_goto eX9_send_112 ?_
          refine md_put eX9_send_116 fX9_123 rfl rfl (by decide) trivial ?_
          refine am_heq (congrArg (fun z => en_h z x) st_st) ?_
          refine am_aload_n eX9_send_119 rfl ?_
          refine md_getI (v := 2) eX9_send_120 fX9_123 rfl (by decide) st_eq ?_
          refine am_if_le ⟨by omega, by omega⟩ eX9_send_123 (fun z => absurd z (by decide)) (fun _ => ?_)
          refine am_iconst eX9_send_126 ?_
          refine am_ireturn eX9_send_127 rfl trivial (Nat.zero_le _) (Nat.zero_le _) ?_
          first | (exfalso; omega) | exact am_is_m (by unfold an_send an_sk; first | (rw [if_pos (by omega)]) | (rw [if_neg (by omega), if_pos (Or.inl (if_pos (by omega)))])) (by unfold sp_send; first | (rw [if_pos (by omega)]) | (unfold an_sk sp_sk; rw [if_neg (by omega), if_pos (Or.inl (if_pos (by omega))), if_pos (by omega)]; exact st_st.symm))
        · refine am_iconst eX9_send_60 ?_
          refine am_goto eX9_send_61 ?_
          refine am_istore eX9_send_86 (by decide) ?_
          refine am_aload_n eX9_send_88 rfl ?_
          refine am_iload eX9_send_89 rfl ?_
          refine am_iconst eX9_send_91 ?_
          refine am_icmp_eq ⟨by omega, by omega⟩ ⟨by omega, by omega⟩ eX9_send_92 (fun _ => ?_) (fun z => absurd z (by decide))
          refine am_iconst eX9_send_111 ?_
          refine am_goto eX9_send_112 ?_
          refine md_put eX9_send_116 fX9_123 rfl rfl (by decide) trivial ?_
          refine am_heq (congrArg (fun z => en_h z x) st_st) ?_
          refine am_aload_n eX9_send_119 rfl ?_
          refine md_getI (v := 2) eX9_send_120 fX9_123 rfl (by decide) st_eq ?_
          refine am_if_le ⟨by omega, by omega⟩ eX9_send_123 (fun z => absurd z (by decide)) (fun _ => ?_)
          refine am_iconst eX9_send_126 ?_
          refine am_ireturn eX9_send_127 rfl trivial (Nat.zero_le _) (Nat.zero_le _) ?_
          first | (exfalso; omega) | exact am_is_m (by unfold an_send an_sk; first | (rw [if_pos (by omega)]) | (rw [if_neg (by omega), if_pos (Or.inl (if_pos (by omega)))])) (by unfold sp_send; first | (rw [if_pos (by omega)]) | (unfold an_sk sp_sk; rw [if_neg (by omega), if_pos (Or.inl (if_pos (by omega))), if_pos (by omega)]; exact st_st.symm))
      · refine am_aload_n eX9_send_33 rfl ?_
        refine md_getI (v := m 24 0) eX9_send_34 fX9_161 rfl (by decide) ((st_nf (by decide)).trans rfl) ?_
        have b13 := wb24 hW 0
        refine am_if_ne ⟨by omega, by omega⟩ eX9_send_37 (fun c14 => ?_) (fun c14 => ?_)
        · refine am_aload_n eX9_send_44 rfl ?_
          refine am_iload_n eX9_send_45 rfl ?_
          refine am_iload_n eX9_send_46 rfl ?_
          have hW0 : md_wb T (st m 0 0 0) := wb_st hW (by show (0 : Int) ≤ _; omega) (by show _ ≤ (3 : Int); omega)
          refine am_cV eX9_send_47 kX9_167 (c_X9_makesSigns (m := st m 0 0 0) (x := x) (T := T) hW0 (b := b) (u := 1) (by omega) (by omega)) rfl rfl en_9 (by decide) (by decide) (Nat.le_of_ble_eq_true rfl) (Nat.zero_le _) (Nat.zero_le _) ?_
          have eA : an_sk m b 1 = an_mk (st m 0 0 0) b.toNat (1 : Int).toNat (m 24 0).toNat 0 := by unfold an_sk; rw [if_neg (by omega)]
          have eM : sp_sk m b 1 = sp_mk (st m 0 0 0) b.toNat (1 : Int).toNat (m 24 0).toNat 0 := by unfold sp_sk; rw [if_neg (by omega)]
          rw [show st m 0 0 0 24 0 = m 24 0 from st_nf (by decide), ← eA, ← eM]
          have qA := an_mk_in (σ := st m 0 0 0) (b := b.toNat) (u := (1 : Int).toNat) (m 24 0).toNat 0
          rw [← eA] at qA
          obtain ⟨m1, hm1⟩ : ∃ z, z = sp_sk m b 1 := ⟨_, rfl⟩
          obtain ⟨fa, hfa⟩ : ∃ z, z = an_sk m b 1 := ⟨_, rfl⟩
          rw [← hfa] at qA
          rw [← hm1, ← hfa]
          have hWm1 : md_wb T m1 := by rw [hm1, eM]; exact sp_mk_wb hW0 _ _ (fun k hk => absurd hk (Nat.not_lt_zero k))
          have e_m1 : ∀ f j : Nat, f ≠ 26 → f ≠ 0 → m1 f j = m f j := fun f j h1 h2 => by rw [hm1, eM, sp_mk_f h1, st_nf h2]
          refine am_istore eX9_send_50 (by decide) ?_
          refine am_aload_n eX9_send_52 rfl ?_
          refine md_getI (v := m 3 0) eX9_send_53 fX9_126 rfl (by decide) (e_m1 3 0 (by decide) (by decide)) ?_
          have b15 := wb3 hW 0
          refine am_iconst eX9_send_56 ?_
          refine am_icmp_ge ⟨by omega, by omega⟩ ⟨by omega, by omega⟩ eX9_send_57 (fun c16 => ?_) (fun c16 => ?_)
          · refine am_iload_n eX9_send_64 rfl ?_
            refine am_if_eq ⟨by omega, by omega⟩ eX9_send_65 (fun _ => ?_) (fun z => absurd z (by decide))
            refine am_iconst eX9_send_81 ?_
            refine am_iconst eX9_send_82 ?_
            refine am_cS eX9_send_83 kX9_171 (c_X9_at (a := 0) (u := 1) (Or.inr rfl)) rfl rfl (by decide) (by decide) (Nat.le_of_ble_eq_true rfl) (Nat.zero_le _) (Nat.zero_le _) ?_
            refine am_istore eX9_send_86 (by decide) ?_
            refine am_aload_n eX9_send_88 rfl ?_
            refine am_iload eX9_send_89 rfl ?_
            refine am_iconst eX9_send_91 ?_
            refine am_icmp_eq ⟨by omega, by omega⟩ ⟨by omega, by omega⟩ eX9_send_92 (fun c18 => ?_) (fun c18 => ?_)
            · refine am_iconst eX9_send_111 ?_
              refine am_goto eX9_send_112 ?_
              refine md_put eX9_send_116 fX9_123 rfl rfl (by decide) trivial ?_
              refine am_aload_n eX9_send_119 rfl ?_
              refine md_getI (v := 2) eX9_send_120 fX9_123 rfl (by decide) st_eq ?_
              refine am_if_le ⟨by omega, by omega⟩ eX9_send_123 (fun z => absurd z (by decide)) (fun _ => ?_)
              refine am_iconst eX9_send_126 ?_
              refine am_ireturn eX9_send_127 rfl trivial (Nat.zero_le _) (Nat.zero_le _) ?_
              have eS : sp_sw m 0 = (2 * 0 + 1) := by first | (exfalso; omega) | unfold sp_sw; first | rw [if_neg (by omega), if_pos (by omega)] | rw [if_neg (by omega), if_neg (by omega)]
              exact am_is_m (by unfold an_send; rw [eS, ← hfa, if_neg (by omega), if_pos (by omega)]) (by unfold sp_send; rw [eS, ← hfa, ← hm1, if_neg (by omega), if_pos (by omega)])
            · refine am_aload_n eX9_send_95 rfl ?_
              refine md_getA eX9_send_96 fX9_35 (by decide) (by decide) ?_
              refine am_iload eX9_send_99 rfl ?_
              refine md_ald (f := 12) (j := (2 * 0 + 1)) (v := m 12 (2 * 0 + 1)) eX9_send_101 (by show _ < 24; omega) rfl (by omega) (e_m1 12 (2 * 0 + 1) (by decide) (by decide)) ?_
              have b20 := wb12 hW (2 * 0 + 1)
              refine am_iload eX9_send_102 rfl ?_
              refine am_iadd eX9_send_104 ?_
              refine am_sipush eX9_send_105 (by decide) ?_
              refine am_icmp_le ⟨by omega, by omega⟩ ⟨by omega, by omega⟩ eX9_send_108 (fun c21 => ?_) (fun c21 => ?_)
              · refine am_iconst eX9_send_115 ?_
                refine md_put eX9_send_116 fX9_123 rfl rfl (by decide) trivial ?_
                refine am_aload_n eX9_send_119 rfl ?_
                refine md_getI (v := 0) eX9_send_120 fX9_123 rfl (by decide) st_eq ?_
                refine am_if_le ⟨by omega, by omega⟩ eX9_send_123 (fun _ => ?_) (fun z => absurd z (by decide))
                refine am_aload_n eX9_send_128 rfl ?_
                refine am_iconst eX9_send_129 ?_
                refine md_put eX9_send_130 fX9_133 rfl rfl (by decide) (Or.inr rfl) ?_
                refine am_iload_n eX9_send_133 rfl ?_
                refine am_if_eq ⟨by omega, by omega⟩ eX9_send_134 (fun z => absurd z (by decide)) (fun _ => ?_)
                refine am_aload_n eX9_send_137 rfl ?_
                refine md_getA eX9_send_138 fX9_38 (by decide) (by decide) ?_
                refine am_iload eX9_send_141 rfl ?_
                refine md_ald (f := 13) (j := (2 * 0 + 1)) (v := m 13 (2 * 0 + 1)) eX9_send_143 (by show _ < 24; omega) rfl (by omega) ((st_nf (by decide)).trans ((st_nf (by decide)).trans (e_m1 13 (2 * 0 + 1) (by decide) (by decide)))) ?_
                have b24 := wb13 hW (2 * 0 + 1)
                refine am_goto eX9_send_144 ?_
                refine am_istore eX9_send_154 (by decide) ?_
                refine am_iconst eX9_send_156 ?_
                refine am_istore eX9_send_157 (by decide) ?_
                have eS : sp_sw m 0 = (2 * 0 + 1) := by first | (exfalso; omega) | unfold sp_sw; first | rw [if_neg (by omega), if_pos (by omega)] | rw [if_neg (by omega), if_neg (by omega)]
                have g12 : (st (st m1 0 0 0) 2 0 1) 12 (2 * 0 + 1) = m 12 (2 * 0 + 1) := ((st_nf (by decide)).trans ((st_nf (by decide)).trans (e_m1 12 (2 * 0 + 1) (by decide) (by decide))))
                have g13 : (st (st m1 0 0 0) 2 0 1) 13 (2 * 0 + 1) = m 13 (2 * 0 + 1) := ((st_nf (by decide)).trans ((st_nf (by decide)).trans (e_m1 13 (2 * 0 + 1) (by decide) (by decide))))
                have u12 := wb12 hW (2 * 0 + 1)
                have u13 := wb13 hW (2 * 0 + 1)
                have u14 := hU (2 * 0 + 1)
                have hz : md_wb T (st (st m1 0 0 0) 2 0 1) := wb_st (wb_st hWm1 (by show (0 : Int) ≤ _; omega) (by show _ ≤ (3 : Int); omega)) (by show (0 : Int) ≤ _; omega) (by show _ ≤ (1 : Int); omega)
                refine am_mono (lp_X9_send hz (w := (2 * 0 + 1)) (p := (m 13 (2 * 0 + 1)).toNat) (by omega) (by omega) (by omega) (by rw [g12]; omega) (by omega) (by rw [g12]; omega) (Or.inr rfl) X fa.toNat 0 _ _ rfl rfl (Nat.zero_add _)) ?_
                exact fun r h' q => by
                  obtain ⟨q1, q2⟩ := q
                  refine ⟨by rw [q1, g12]; unfold an_send; rw [eS, ← hfa, if_neg (by omega), if_neg (by omega)], ?_⟩
                  have hS : sp_send m 0 b 1 = sp_sent m1 (2 * 0 + 1) 1 fa := by unfold sp_send; rw [eS, ← hfa, ← hm1, if_neg (show ¬ ¬ (0 ≤ b ∧ b ≤ 2) by omega), if_neg (show ¬ (fa = -1 ∨ 200 < m 12 (2 * 0 + 1) + fa) by omega)]
                  rw [q2, g13, hS]; unfold sp_sent; rw [e_m1 12 _ (by decide) (by decide), e_m1 13 _ (by decide) (by decide)]; first | rfl | simp
              · refine am_iconst eX9_send_111 ?_
                refine am_goto eX9_send_112 ?_
                refine md_put eX9_send_116 fX9_123 rfl rfl (by decide) trivial ?_
                refine am_aload_n eX9_send_119 rfl ?_
                refine md_getI (v := 2) eX9_send_120 fX9_123 rfl (by decide) st_eq ?_
                refine am_if_le ⟨by omega, by omega⟩ eX9_send_123 (fun z => absurd z (by decide)) (fun _ => ?_)
                refine am_iconst eX9_send_126 ?_
                refine am_ireturn eX9_send_127 rfl trivial (Nat.zero_le _) (Nat.zero_le _) ?_
                have eS : sp_sw m 0 = (2 * 0 + 1) := by first | (exfalso; omega) | unfold sp_sw; first | rw [if_neg (by omega), if_pos (by omega)] | rw [if_neg (by omega), if_neg (by omega)]
                exact am_is_m (by unfold an_send; rw [eS, ← hfa, if_neg (by omega), if_pos (by omega)]) (by unfold sp_send; rw [eS, ← hfa, ← hm1, if_neg (by omega), if_pos (by omega)])
          · refine am_iconst eX9_send_60 ?_
            refine am_goto eX9_send_61 ?_
            refine am_istore eX9_send_86 (by decide) ?_
            refine am_aload_n eX9_send_88 rfl ?_
            refine am_iload eX9_send_89 rfl ?_
            refine am_iconst eX9_send_91 ?_
            refine am_icmp_eq ⟨by omega, by omega⟩ ⟨by omega, by omega⟩ eX9_send_92 (fun c26 => ?_) (fun c26 => ?_)
            · refine am_iconst eX9_send_111 ?_
              refine am_goto eX9_send_112 ?_
              refine md_put eX9_send_116 fX9_123 rfl rfl (by decide) trivial ?_
              refine am_aload_n eX9_send_119 rfl ?_
              refine md_getI (v := 2) eX9_send_120 fX9_123 rfl (by decide) st_eq ?_
              refine am_if_le ⟨by omega, by omega⟩ eX9_send_123 (fun z => absurd z (by decide)) (fun _ => ?_)
              refine am_iconst eX9_send_126 ?_
              refine am_ireturn eX9_send_127 rfl trivial (Nat.zero_le _) (Nat.zero_le _) ?_
              have eS : sp_sw m 0 = (2 * 0 + 1) := by first | (exfalso; omega) | unfold sp_sw; first | rw [if_neg (by omega), if_pos (by omega)] | rw [if_neg (by omega), if_neg (by omega)]
              exact am_is_m (by unfold an_send; rw [eS, ← hfa, if_neg (by omega), if_pos (by omega)]) (by unfold sp_send; rw [eS, ← hfa, ← hm1, if_neg (by omega), if_pos (by omega)])
            · refine am_aload_n eX9_send_95 rfl ?_
              refine md_getA eX9_send_96 fX9_35 (by decide) (by decide) ?_
              refine am_iload eX9_send_99 rfl ?_
              refine md_ald (f := 12) (j := 0) (v := m 12 0) eX9_send_101 (by show _ < 24; omega) rfl (by omega) (e_m1 12 0 (by decide) (by decide)) ?_
              have b28 := wb12 hW 0
              refine am_iload eX9_send_102 rfl ?_
              refine am_iadd eX9_send_104 ?_
              refine am_sipush eX9_send_105 (by decide) ?_
              refine am_icmp_le ⟨by omega, by omega⟩ ⟨by omega, by omega⟩ eX9_send_108 (fun c29 => ?_) (fun c29 => ?_)
              · refine am_iconst eX9_send_115 ?_
                refine md_put eX9_send_116 fX9_123 rfl rfl (by decide) trivial ?_
                refine am_aload_n eX9_send_119 rfl ?_
                refine md_getI (v := 0) eX9_send_120 fX9_123 rfl (by decide) st_eq ?_
                refine am_if_le ⟨by omega, by omega⟩ eX9_send_123 (fun _ => ?_) (fun z => absurd z (by decide))
                refine am_aload_n eX9_send_128 rfl ?_
                refine am_iconst eX9_send_129 ?_
                refine md_put eX9_send_130 fX9_133 rfl rfl (by decide) (Or.inr rfl) ?_
                refine am_iload_n eX9_send_133 rfl ?_
                refine am_if_eq ⟨by omega, by omega⟩ eX9_send_134 (fun z => absurd z (by decide)) (fun _ => ?_)
                refine am_aload_n eX9_send_137 rfl ?_
                refine md_getA eX9_send_138 fX9_38 (by decide) (by decide) ?_
                refine am_iload eX9_send_141 rfl ?_
                refine md_ald (f := 13) (j := 0) (v := m 13 0) eX9_send_143 (by show _ < 24; omega) rfl (by omega) ((st_nf (by decide)).trans ((st_nf (by decide)).trans (e_m1 13 0 (by decide) (by decide)))) ?_
                have b32 := wb13 hW 0
                refine am_goto eX9_send_144 ?_
                refine am_istore eX9_send_154 (by decide) ?_
                refine am_iconst eX9_send_156 ?_
                refine am_istore eX9_send_157 (by decide) ?_
                have eS : sp_sw m 0 = (2 * 0 + 1) := by first | (exfalso; omega) | unfold sp_sw; first | rw [if_neg (by omega), if_pos (by omega)] | rw [if_neg (by omega), if_neg (by omega)]
                have g12 : (st (st m1 0 0 0) 2 0 1) 12 (2 * 0 + 1) = m 12 (2 * 0 + 1) := ((st_nf (by decide)).trans ((st_nf (by decide)).trans (e_m1 12 (2 * 0 + 1) (by decide) (by decide))))
                have g13 : (st (st m1 0 0 0) 2 0 1) 13 (2 * 0 + 1) = m 13 (2 * 0 + 1) := ((st_nf (by decide)).trans ((st_nf (by decide)).trans (e_m1 13 (2 * 0 + 1) (by decide) (by decide))))
                have u12 := wb12 hW (2 * 0 + 1)
                have u13 := wb13 hW (2 * 0 + 1)
                have u14 := hU (2 * 0 + 1)
                have hz : md_wb T (st (st m1 0 0 0) 2 0 1) := wb_st (wb_st hWm1 (by show (0 : Int) ≤ _; omega) (by show _ ≤ (3 : Int); omega)) (by show (0 : Int) ≤ _; omega) (by show _ ≤ (1 : Int); omega)
                refine am_mono (lp_X9_send hz (w := (2 * 0 + 1)) (p := (m 13 (2 * 0 + 1)).toNat) (by omega) (by omega) (by omega) (by rw [g12]; omega) (by omega) (by rw [g12]; omega) (Or.inr rfl) X fa.toNat 0 _ _ rfl rfl (Nat.zero_add _)) ?_
                exact fun r h' q => by
                  obtain ⟨q1, q2⟩ := q
                  refine ⟨by rw [q1, g12]; unfold an_send; rw [eS, ← hfa, if_neg (by omega), if_neg (by omega)], ?_⟩
                  have hS : sp_send m 0 b 1 = sp_sent m1 (2 * 0 + 1) 1 fa := by unfold sp_send; rw [eS, ← hfa, ← hm1, if_neg (show ¬ ¬ (0 ≤ b ∧ b ≤ 2) by omega), if_neg (show ¬ (fa = -1 ∨ 200 < m 12 (2 * 0 + 1) + fa) by omega)]
                  rw [q2, g13, hS]; unfold sp_sent; rw [e_m1 12 _ (by decide) (by decide), e_m1 13 _ (by decide) (by decide)]; first | rfl | simp
              · refine am_iconst eX9_send_111 ?_
                refine am_goto eX9_send_112 ?_
                refine md_put eX9_send_116 fX9_123 rfl rfl (by decide) trivial ?_
                refine am_aload_n eX9_send_119 rfl ?_
                refine md_getI (v := 2) eX9_send_120 fX9_123 rfl (by decide) st_eq ?_
                refine am_if_le ⟨by omega, by omega⟩ eX9_send_123 (fun z => absurd z (by decide)) (fun _ => ?_)
                refine am_iconst eX9_send_126 ?_
                refine am_ireturn eX9_send_127 rfl trivial (Nat.zero_le _) (Nat.zero_le _) ?_
                have eS : sp_sw m 0 = (2 * 0 + 1) := by first | (exfalso; omega) | unfold sp_sw; first | rw [if_neg (by omega), if_pos (by omega)] | rw [if_neg (by omega), if_neg (by omega)]
                exact am_is_m (by unfold an_send; rw [eS, ← hfa, if_neg (by omega), if_pos (by omega)]) (by unfold sp_send; rw [eS, ← hfa, ← hm1, if_neg (by omega), if_pos (by omega)])
        · refine am_iconst eX9_send_40 ?_
          refine am_goto eX9_send_41 ?_
          refine am_istore eX9_send_50 (by decide) ?_
          refine am_aload_n eX9_send_52 rfl ?_
          refine md_getI (v := m 3 0) eX9_send_53 fX9_126 rfl (by decide) ((st_nf (by decide)).trans rfl) ?_
          have b34 := wb3 hW 0
          refine am_iconst eX9_send_56 ?_
          refine am_icmp_ge ⟨by omega, by omega⟩ ⟨by omega, by omega⟩ eX9_send_57 (fun c35 => ?_) (fun c35 => ?_)
          · refine am_iload_n eX9_send_64 rfl ?_
            refine am_if_eq ⟨by omega, by omega⟩ eX9_send_65 (fun _ => ?_) (fun z => absurd z (by decide))
            refine am_iconst eX9_send_81 ?_
            refine am_iconst eX9_send_82 ?_
            refine am_cS eX9_send_83 kX9_171 (c_X9_at (a := 0) (u := 1) (Or.inr rfl)) rfl rfl (by decide) (by decide) (Nat.le_of_ble_eq_true rfl) (Nat.zero_le _) (Nat.zero_le _) ?_
            refine am_istore eX9_send_86 (by decide) ?_
            refine am_aload_n eX9_send_88 rfl ?_
            refine am_iload eX9_send_89 rfl ?_
            refine am_iconst eX9_send_91 ?_
            refine am_icmp_eq ⟨by omega, by omega⟩ ⟨by omega, by omega⟩ eX9_send_92 (fun _ => ?_) (fun z => absurd z (by decide))
            refine am_iconst eX9_send_111 ?_
            refine am_goto eX9_send_112 ?_
            refine md_put eX9_send_116 fX9_123 rfl rfl (by decide) trivial ?_
            refine am_heq (congrArg (fun z => en_h z x) st_st) ?_
            refine am_aload_n eX9_send_119 rfl ?_
            refine md_getI (v := 2) eX9_send_120 fX9_123 rfl (by decide) st_eq ?_
            refine am_if_le ⟨by omega, by omega⟩ eX9_send_123 (fun z => absurd z (by decide)) (fun _ => ?_)
            refine am_iconst eX9_send_126 ?_
            refine am_ireturn eX9_send_127 rfl trivial (Nat.zero_le _) (Nat.zero_le _) ?_
            first | (exfalso; omega) | exact am_is_m (by unfold an_send an_sk; first | (rw [if_pos (by omega)]) | (rw [if_neg (by omega), if_pos (Or.inl (if_pos (by omega)))])) (by unfold sp_send; first | (rw [if_pos (by omega)]) | (unfold an_sk sp_sk; rw [if_neg (by omega), if_pos (Or.inl (if_pos (by omega))), if_pos (by omega)]; exact st_st.symm))
          · refine am_iconst eX9_send_60 ?_
            refine am_goto eX9_send_61 ?_
            refine am_istore eX9_send_86 (by decide) ?_
            refine am_aload_n eX9_send_88 rfl ?_
            refine am_iload eX9_send_89 rfl ?_
            refine am_iconst eX9_send_91 ?_
            refine am_icmp_eq ⟨by omega, by omega⟩ ⟨by omega, by omega⟩ eX9_send_92 (fun _ => ?_) (fun z => absurd z (by decide))
            refine am_iconst eX9_send_111 ?_
            refine am_goto eX9_send_112 ?_
            refine md_put eX9_send_116 fX9_123 rfl rfl (by decide) trivial ?_
            refine am_heq (congrArg (fun z => en_h z x) st_st) ?_
            refine am_aload_n eX9_send_119 rfl ?_
            refine md_getI (v := 2) eX9_send_120 fX9_123 rfl (by decide) st_eq ?_
            refine am_if_le ⟨by omega, by omega⟩ eX9_send_123 (fun z => absurd z (by decide)) (fun _ => ?_)
            refine am_iconst eX9_send_126 ?_
            refine am_ireturn eX9_send_127 rfl trivial (Nat.zero_le _) (Nat.zero_le _) ?_
            first | (exfalso; omega) | exact am_is_m (by unfold an_send an_sk; first | (rw [if_pos (by omega)]) | (rw [if_neg (by omega), if_pos (Or.inl (if_pos (by omega)))])) (by unfold sp_send; first | (rw [if_pos (by omega)]) | (unfold an_sk sp_sk; rw [if_neg (by omega), if_pos (Or.inl (if_pos (by omega))), if_pos (by omega)]; exact st_st.symm))
  · refine am_aload_n eX9_send_0 rfl ?_
    refine am_iload_n eX9_send_1 rfl ?_
    refine am_cS eX9_send_2 kX9_155 (c_X9_isBook (a := b) ⟨by omega, by omega⟩) rfl rfl (by decide) (by decide) (Nat.le_of_ble_eq_true rfl) (Nat.zero_le _) (Nat.zero_le _) ?_
    refine am_bz_eq eX9_send_5 (fun c1 => ?_) (fun c1 => ?_)
    · refine am_iconst eX9_send_12 ?_
      refine md_put eX9_send_13 fX9_123 rfl rfl (by decide) trivial ?_
      refine am_aload_n eX9_send_16 rfl ?_
      refine md_getI (v := 1) eX9_send_17 fX9_123 rfl (by decide) st_eq ?_
      refine am_if_le ⟨by omega, by omega⟩ eX9_send_20 (fun z => absurd z (by decide)) (fun _ => ?_)
      refine am_iconst eX9_send_23 ?_
      refine am_ireturn eX9_send_24 rfl trivial (Nat.zero_le _) (Nat.zero_le _) ?_
      first | (exfalso; omega) | exact am_is_m (by unfold an_send an_sk; first | (rw [if_pos (by omega)]) | (rw [if_neg (by omega), if_pos (Or.inl (if_pos (by omega)))])) (by unfold sp_send; first | (rw [if_pos (by omega)]) | (unfold an_sk sp_sk; rw [if_neg (by omega), if_pos (Or.inl (if_pos (by omega))), if_pos (by omega)]; exact st_st.symm))
    · refine am_iconst eX9_send_8 ?_
      refine am_goto eX9_send_9 ?_
      refine md_put eX9_send_13 fX9_123 rfl rfl (by decide) trivial ?_
      refine am_aload_n eX9_send_16 rfl ?_
      refine md_getI (v := 0) eX9_send_17 fX9_123 rfl (by decide) st_eq ?_
      refine am_if_le ⟨by omega, by omega⟩ eX9_send_20 (fun _ => ?_) (fun z => absurd z (by decide))
      refine am_aload_n eX9_send_25 rfl ?_
      refine md_getI (v := m 3 0) eX9_send_26 fX9_126 rfl (by decide) ((st_nf (by decide)).trans rfl) ?_
      have b4 := wb3 hW 0
      refine am_iconst eX9_send_29 ?_
      refine am_icmp_lt ⟨by omega, by omega⟩ ⟨by omega, by omega⟩ eX9_send_30 (fun c5 => ?_) (fun c5 => ?_)
      · refine am_iconst eX9_send_40 ?_
        refine am_goto eX9_send_41 ?_
        refine am_istore eX9_send_50 (by decide) ?_
        refine am_aload_n eX9_send_52 rfl ?_
        refine md_getI (v := m 3 0) eX9_send_53 fX9_126 rfl (by decide) ((st_nf (by decide)).trans rfl) ?_
        have b6 := wb3 hW 0
        refine am_iconst eX9_send_56 ?_
        refine am_icmp_ge ⟨by omega, by omega⟩ ⟨by omega, by omega⟩ eX9_send_57 (fun c7 => ?_) (fun c7 => ?_)
        · refine am_iload_n eX9_send_64 rfl ?_
          refine am_if_eq ⟨by omega, by omega⟩ eX9_send_65 (fun z => absurd z (by decide)) (fun _ => ?_)
          refine am_aload_n eX9_send_68 rfl ?_
          refine md_getI (v := m 3 0) eX9_send_69 fX9_126 rfl (by decide) ((st_nf (by decide)).trans rfl) ?_
          have b9 := wb3 hW 0
          refine am_iconst eX9_send_72 ?_
          refine am_isub eX9_send_73 ?_
          refine am_iconst eX9_send_74 ?_
          refine am_cS eX9_send_75 kX9_171 (c_X9_at (a := ((m 3 0) - 1)) (u := 0) (Or.inl rfl)) rfl rfl (by decide) (by decide) (Nat.le_of_ble_eq_true rfl) (Nat.zero_le _) (Nat.zero_le _) ?_
          refine am_goto eX9_send_78 ?_
          refine am_istore eX9_send_86 (by decide) ?_
          refine am_aload_n eX9_send_88 rfl ?_
          refine am_iload eX9_send_89 rfl ?_
          refine am_iconst eX9_send_91 ?_
          refine am_icmp_eq ⟨by omega, by omega⟩ ⟨by omega, by omega⟩ eX9_send_92 (fun _ => ?_) (fun z => absurd z (by decide))
          refine am_iconst eX9_send_111 ?_
          refine am_goto eX9_send_112 ?_
          refine md_put eX9_send_116 fX9_123 rfl rfl (by decide) trivial ?_
          refine am_heq (congrArg (fun z => en_h z x) st_st) ?_
          refine am_aload_n eX9_send_119 rfl ?_
          refine md_getI (v := 2) eX9_send_120 fX9_123 rfl (by decide) st_eq ?_
          refine am_if_le ⟨by omega, by omega⟩ eX9_send_123 (fun z => absurd z (by decide)) (fun _ => ?_)
          refine am_iconst eX9_send_126 ?_
          refine am_ireturn eX9_send_127 rfl trivial (Nat.zero_le _) (Nat.zero_le _) ?_
          first | (exfalso; omega) | exact am_is_m (by unfold an_send an_sk; first | (rw [if_pos (by omega)]) | (rw [if_neg (by omega), if_pos (Or.inl (if_pos (by omega)))])) (by unfold sp_send; first | (rw [if_pos (by omega)]) | (unfold an_sk sp_sk; rw [if_neg (by omega), if_pos (Or.inl (if_pos (by omega))), if_pos (by omega)]; exact st_st.symm))
        · refine am_iconst eX9_send_60 ?_
          refine am_goto eX9_send_61 ?_
          refine am_istore eX9_send_86 (by decide) ?_
          refine am_aload_n eX9_send_88 rfl ?_
          refine am_iload eX9_send_89 rfl ?_
          refine am_iconst eX9_send_91 ?_
          refine am_icmp_eq ⟨by omega, by omega⟩ ⟨by omega, by omega⟩ eX9_send_92 (fun _ => ?_) (fun z => absurd z (by decide))
          refine am_iconst eX9_send_111 ?_
          refine am_goto eX9_send_112 ?_
          refine md_put eX9_send_116 fX9_123 rfl rfl (by decide) trivial ?_
          refine am_heq (congrArg (fun z => en_h z x) st_st) ?_
          refine am_aload_n eX9_send_119 rfl ?_
          refine md_getI (v := 2) eX9_send_120 fX9_123 rfl (by decide) st_eq ?_
          refine am_if_le ⟨by omega, by omega⟩ eX9_send_123 (fun z => absurd z (by decide)) (fun _ => ?_)
          refine am_iconst eX9_send_126 ?_
          refine am_ireturn eX9_send_127 rfl trivial (Nat.zero_le _) (Nat.zero_le _) ?_
          first | (exfalso; omega) | exact am_is_m (by unfold an_send an_sk; first | (rw [if_pos (by omega)]) | (rw [if_neg (by omega), if_pos (Or.inl (if_pos (by omega)))])) (by unfold sp_send; first | (rw [if_pos (by omega)]) | (unfold an_sk sp_sk; rw [if_neg (by omega), if_pos (Or.inl (if_pos (by omega))), if_pos (by omega)]; exact st_st.symm))
      · refine am_aload_n eX9_send_33 rfl ?_
        refine md_getI (v := m 24 0) eX9_send_34 fX9_161 rfl (by decide) ((st_nf (by decide)).trans rfl) ?_
        have b14 := wb24 hW 0
        refine am_if_ne ⟨by omega, by omega⟩ eX9_send_37 (fun c15 => ?_) (fun c15 => ?_)
        · refine am_aload_n eX9_send_44 rfl ?_
          refine am_iload_n eX9_send_45 rfl ?_
          refine am_iload_n eX9_send_46 rfl ?_
          have hW0 : md_wb T (st m 0 0 0) := wb_st hW (by show (0 : Int) ≤ _; omega) (by show _ ≤ (3 : Int); omega)
          refine am_cV eX9_send_47 kX9_167 (c_X9_makesSigns (m := st m 0 0 0) (x := x) (T := T) hW0 (b := b) (u := 0) (by omega) (by omega)) rfl rfl en_9 (by decide) (by decide) (Nat.le_of_ble_eq_true rfl) (Nat.zero_le _) (Nat.zero_le _) ?_
          have eA : an_sk m b 0 = an_mk (st m 0 0 0) b.toNat (0 : Int).toNat (m 24 0).toNat 0 := by unfold an_sk; rw [if_neg (by omega)]
          have eM : sp_sk m b 0 = sp_mk (st m 0 0 0) b.toNat (0 : Int).toNat (m 24 0).toNat 0 := by unfold sp_sk; rw [if_neg (by omega)]
          rw [show st m 0 0 0 24 0 = m 24 0 from st_nf (by decide), ← eA, ← eM]
          have qA := an_mk_in (σ := st m 0 0 0) (b := b.toNat) (u := (0 : Int).toNat) (m 24 0).toNat 0
          rw [← eA] at qA
          obtain ⟨m1, hm1⟩ : ∃ z, z = sp_sk m b 0 := ⟨_, rfl⟩
          obtain ⟨fa, hfa⟩ : ∃ z, z = an_sk m b 0 := ⟨_, rfl⟩
          rw [← hfa] at qA
          rw [← hm1, ← hfa]
          have hWm1 : md_wb T m1 := by rw [hm1, eM]; exact sp_mk_wb hW0 _ _ (fun k hk => absurd hk (Nat.not_lt_zero k))
          have e_m1 : ∀ f j : Nat, f ≠ 26 → f ≠ 0 → m1 f j = m f j := fun f j h1 h2 => by rw [hm1, eM, sp_mk_f h1, st_nf h2]
          refine am_istore eX9_send_50 (by decide) ?_
          refine am_aload_n eX9_send_52 rfl ?_
          refine md_getI (v := m 3 0) eX9_send_53 fX9_126 rfl (by decide) (e_m1 3 0 (by decide) (by decide)) ?_
          have b16 := wb3 hW 0
          refine am_iconst eX9_send_56 ?_
          refine am_icmp_ge ⟨by omega, by omega⟩ ⟨by omega, by omega⟩ eX9_send_57 (fun c17 => ?_) (fun c17 => ?_)
          · refine am_iload_n eX9_send_64 rfl ?_
            refine am_if_eq ⟨by omega, by omega⟩ eX9_send_65 (fun z => absurd z (by decide)) (fun _ => ?_)
            refine am_aload_n eX9_send_68 rfl ?_
            refine md_getI (v := m 3 0) eX9_send_69 fX9_126 rfl (by decide) (e_m1 3 0 (by decide) (by decide)) ?_
            have b19 := wb3 hW 0
            refine am_iconst eX9_send_72 ?_
            refine am_isub eX9_send_73 ?_
            refine am_iconst eX9_send_74 ?_
            refine am_cS eX9_send_75 kX9_171 (c_X9_at (a := ((m 3 0) - 1)) (u := 0) (Or.inl rfl)) rfl rfl (by decide) (by decide) (Nat.le_of_ble_eq_true rfl) (Nat.zero_le _) (Nat.zero_le _) ?_
            refine am_goto eX9_send_78 ?_
            refine am_istore eX9_send_86 (by decide) ?_
            refine am_aload_n eX9_send_88 rfl ?_
            refine am_iload eX9_send_89 rfl ?_
            refine am_iconst eX9_send_91 ?_
            refine am_icmp_eq ⟨by omega, by omega⟩ ⟨by omega, by omega⟩ eX9_send_92 (fun c20 => ?_) (fun c20 => ?_)
            · refine am_iconst eX9_send_111 ?_
              refine am_goto eX9_send_112 ?_
              refine md_put eX9_send_116 fX9_123 rfl rfl (by decide) trivial ?_
              refine am_aload_n eX9_send_119 rfl ?_
              refine md_getI (v := 2) eX9_send_120 fX9_123 rfl (by decide) st_eq ?_
              refine am_if_le ⟨by omega, by omega⟩ eX9_send_123 (fun z => absurd z (by decide)) (fun _ => ?_)
              refine am_iconst eX9_send_126 ?_
              refine am_ireturn eX9_send_127 rfl trivial (Nat.zero_le _) (Nat.zero_le _) ?_
              have eS : sp_sw m 1 = (2 * ((m 3 0).toNat - 1) + 0) := by first | (exfalso; omega) | unfold sp_sw; first | rw [if_neg (by omega), if_pos (by omega)] | rw [if_neg (by omega), if_neg (by omega)]
              exact am_is_m (by unfold an_send; rw [eS, ← hfa, if_neg (by omega), if_pos (by omega)]) (by unfold sp_send; rw [eS, ← hfa, ← hm1, if_neg (by omega), if_pos (by omega)])
            · refine am_aload_n eX9_send_95 rfl ?_
              refine md_getA eX9_send_96 fX9_35 (by decide) (by decide) ?_
              refine am_iload eX9_send_99 rfl ?_
              refine md_ald (f := 12) (j := (2 * ((m 3 0).toNat - 1) + 0)) (v := m 12 (2 * ((m 3 0).toNat - 1) + 0)) eX9_send_101 (by show _ < 24; omega) rfl (by omega) (e_m1 12 (2 * ((m 3 0).toNat - 1) + 0) (by decide) (by decide)) ?_
              have b22 := wb12 hW (2 * ((m 3 0).toNat - 1) + 0)
              refine am_iload eX9_send_102 rfl ?_
              refine am_iadd eX9_send_104 ?_
              refine am_sipush eX9_send_105 (by decide) ?_
              refine am_icmp_le ⟨by omega, by omega⟩ ⟨by omega, by omega⟩ eX9_send_108 (fun c23 => ?_) (fun c23 => ?_)
              · refine am_iconst eX9_send_115 ?_
                refine md_put eX9_send_116 fX9_123 rfl rfl (by decide) trivial ?_
                refine am_aload_n eX9_send_119 rfl ?_
                refine md_getI (v := 0) eX9_send_120 fX9_123 rfl (by decide) st_eq ?_
                refine am_if_le ⟨by omega, by omega⟩ eX9_send_123 (fun _ => ?_) (fun z => absurd z (by decide))
                refine am_aload_n eX9_send_128 rfl ?_
                refine am_iconst eX9_send_129 ?_
                refine md_put eX9_send_130 fX9_133 rfl rfl (by decide) (Or.inr rfl) ?_
                refine am_iload_n eX9_send_133 rfl ?_
                refine am_if_eq ⟨by omega, by omega⟩ eX9_send_134 (fun _ => ?_) (fun z => absurd z (by decide))
                refine am_aload_n eX9_send_147 rfl ?_
                refine md_getA eX9_send_148 fX9_35 (by decide) (by decide) ?_
                refine am_iload eX9_send_151 rfl ?_
                refine md_ald (f := 12) (j := (2 * ((m 3 0).toNat - 1) + 0)) (v := m 12 (2 * ((m 3 0).toNat - 1) + 0)) eX9_send_153 (by show _ < 24; omega) rfl (by omega) ((st_nf (by decide)).trans ((st_nf (by decide)).trans (e_m1 12 (2 * ((m 3 0).toNat - 1) + 0) (by decide) (by decide)))) ?_
                have b26 := wb12 hW (2 * ((m 3 0).toNat - 1) + 0)
                refine am_istore eX9_send_154 (by decide) ?_
                refine am_iconst eX9_send_156 ?_
                refine am_istore eX9_send_157 (by decide) ?_
                have eS : sp_sw m 1 = (2 * ((m 3 0).toNat - 1) + 0) := by first | (exfalso; omega) | unfold sp_sw; first | rw [if_neg (by omega), if_pos (by omega)] | rw [if_neg (by omega), if_neg (by omega)]
                have g12 : (st (st m1 0 0 0) 2 0 1) 12 (2 * ((m 3 0).toNat - 1) + 0) = m 12 (2 * ((m 3 0).toNat - 1) + 0) := ((st_nf (by decide)).trans ((st_nf (by decide)).trans (e_m1 12 (2 * ((m 3 0).toNat - 1) + 0) (by decide) (by decide))))
                have g13 : (st (st m1 0 0 0) 2 0 1) 13 (2 * ((m 3 0).toNat - 1) + 0) = m 13 (2 * ((m 3 0).toNat - 1) + 0) := ((st_nf (by decide)).trans ((st_nf (by decide)).trans (e_m1 13 (2 * ((m 3 0).toNat - 1) + 0) (by decide) (by decide))))
                have u12 := wb12 hW (2 * ((m 3 0).toNat - 1) + 0)
                have u13 := wb13 hW (2 * ((m 3 0).toNat - 1) + 0)
                have u14 := hU (2 * ((m 3 0).toNat - 1) + 0)
                have hz : md_wb T (st (st m1 0 0 0) 2 0 1) := wb_st (wb_st hWm1 (by show (0 : Int) ≤ _; omega) (by show _ ≤ (3 : Int); omega)) (by show (0 : Int) ≤ _; omega) (by show _ ≤ (1 : Int); omega)
                refine am_mono (lp_X9_send hz (w := (2 * ((m 3 0).toNat - 1) + 0)) (p := (m 12 (2 * ((m 3 0).toNat - 1) + 0)).toNat) (by omega) (by omega) (by omega) (by rw [g12]; omega) (by omega) (by rw [g12]; omega) (Or.inl rfl) X fa.toNat 0 _ _ rfl rfl (Nat.zero_add _)) ?_
                exact fun r h' q => by
                  obtain ⟨q1, q2⟩ := q
                  refine ⟨by rw [q1, g12]; unfold an_send; rw [eS, ← hfa, if_neg (by omega), if_neg (by omega)], ?_⟩
                  have hS : sp_send m 1 b 0 = sp_sent m1 (2 * ((m 3 0).toNat - 1) + 0) 0 fa := by unfold sp_send; rw [eS, ← hfa, ← hm1, if_neg (show ¬ ¬ (0 ≤ b ∧ b ≤ 2) by omega), if_neg (show ¬ (fa = -1 ∨ 200 < m 12 (2 * ((m 3 0).toNat - 1) + 0) + fa) by omega)]
                  rw [q2, g13, hS]; unfold sp_sent; rw [e_m1 12 _ (by decide) (by decide), e_m1 13 _ (by decide) (by decide)]; first | rfl | simp
              · refine am_iconst eX9_send_111 ?_
                refine am_goto eX9_send_112 ?_
                refine md_put eX9_send_116 fX9_123 rfl rfl (by decide) trivial ?_
                refine am_aload_n eX9_send_119 rfl ?_
                refine md_getI (v := 2) eX9_send_120 fX9_123 rfl (by decide) st_eq ?_
                refine am_if_le ⟨by omega, by omega⟩ eX9_send_123 (fun z => absurd z (by decide)) (fun _ => ?_)
                refine am_iconst eX9_send_126 ?_
                refine am_ireturn eX9_send_127 rfl trivial (Nat.zero_le _) (Nat.zero_le _) ?_
                have eS : sp_sw m 1 = (2 * ((m 3 0).toNat - 1) + 0) := by first | (exfalso; omega) | unfold sp_sw; first | rw [if_neg (by omega), if_pos (by omega)] | rw [if_neg (by omega), if_neg (by omega)]
                exact am_is_m (by unfold an_send; rw [eS, ← hfa, if_neg (by omega), if_pos (by omega)]) (by unfold sp_send; rw [eS, ← hfa, ← hm1, if_neg (by omega), if_pos (by omega)])
          · refine am_iconst eX9_send_60 ?_
            refine am_goto eX9_send_61 ?_
            refine am_istore eX9_send_86 (by decide) ?_
            refine am_aload_n eX9_send_88 rfl ?_
            refine am_iload eX9_send_89 rfl ?_
            refine am_iconst eX9_send_91 ?_
            refine am_icmp_eq ⟨by omega, by omega⟩ ⟨by omega, by omega⟩ eX9_send_92 (fun c28 => ?_) (fun c28 => ?_)
            · refine am_iconst eX9_send_111 ?_
              refine am_goto eX9_send_112 ?_
              refine md_put eX9_send_116 fX9_123 rfl rfl (by decide) trivial ?_
              refine am_aload_n eX9_send_119 rfl ?_
              refine md_getI (v := 2) eX9_send_120 fX9_123 rfl (by decide) st_eq ?_
              refine am_if_le ⟨by omega, by omega⟩ eX9_send_123 (fun z => absurd z (by decide)) (fun _ => ?_)
              refine am_iconst eX9_send_126 ?_
              refine am_ireturn eX9_send_127 rfl trivial (Nat.zero_le _) (Nat.zero_le _) ?_
              have eS : sp_sw m 1 = (2 * ((m 3 0).toNat - 1) + 0) := by first | (exfalso; omega) | unfold sp_sw; first | rw [if_neg (by omega), if_pos (by omega)] | rw [if_neg (by omega), if_neg (by omega)]
              exact am_is_m (by unfold an_send; rw [eS, ← hfa, if_neg (by omega), if_pos (by omega)]) (by unfold sp_send; rw [eS, ← hfa, ← hm1, if_neg (by omega), if_pos (by omega)])
            · refine am_aload_n eX9_send_95 rfl ?_
              refine md_getA eX9_send_96 fX9_35 (by decide) (by decide) ?_
              refine am_iload eX9_send_99 rfl ?_
              refine md_ald (f := 12) (j := 0) (v := m 12 0) eX9_send_101 (by show _ < 24; omega) rfl (by omega) (e_m1 12 0 (by decide) (by decide)) ?_
              have b30 := wb12 hW 0
              refine am_iload eX9_send_102 rfl ?_
              refine am_iadd eX9_send_104 ?_
              refine am_sipush eX9_send_105 (by decide) ?_
              refine am_icmp_le ⟨by omega, by omega⟩ ⟨by omega, by omega⟩ eX9_send_108 (fun c31 => ?_) (fun c31 => ?_)
              · refine am_iconst eX9_send_115 ?_
                refine md_put eX9_send_116 fX9_123 rfl rfl (by decide) trivial ?_
                refine am_aload_n eX9_send_119 rfl ?_
                refine md_getI (v := 0) eX9_send_120 fX9_123 rfl (by decide) st_eq ?_
                refine am_if_le ⟨by omega, by omega⟩ eX9_send_123 (fun _ => ?_) (fun z => absurd z (by decide))
                refine am_aload_n eX9_send_128 rfl ?_
                refine am_iconst eX9_send_129 ?_
                refine md_put eX9_send_130 fX9_133 rfl rfl (by decide) (Or.inr rfl) ?_
                refine am_iload_n eX9_send_133 rfl ?_
                refine am_if_eq ⟨by omega, by omega⟩ eX9_send_134 (fun _ => ?_) (fun z => absurd z (by decide))
                refine am_aload_n eX9_send_147 rfl ?_
                refine md_getA eX9_send_148 fX9_35 (by decide) (by decide) ?_
                refine am_iload eX9_send_151 rfl ?_
                refine md_ald (f := 12) (j := 0) (v := m 12 0) eX9_send_153 (by show _ < 24; omega) rfl (by omega) ((st_nf (by decide)).trans ((st_nf (by decide)).trans (e_m1 12 0 (by decide) (by decide)))) ?_
                have b34 := wb12 hW 0
                refine am_istore eX9_send_154 (by decide) ?_
                refine am_iconst eX9_send_156 ?_
                refine am_istore eX9_send_157 (by decide) ?_
                have eS : sp_sw m 1 = (2 * ((m 3 0).toNat - 1) + 0) := by first | (exfalso; omega) | unfold sp_sw; first | rw [if_neg (by omega), if_pos (by omega)] | rw [if_neg (by omega), if_neg (by omega)]
                have g12 : (st (st m1 0 0 0) 2 0 1) 12 (2 * ((m 3 0).toNat - 1) + 0) = m 12 (2 * ((m 3 0).toNat - 1) + 0) := ((st_nf (by decide)).trans ((st_nf (by decide)).trans (e_m1 12 (2 * ((m 3 0).toNat - 1) + 0) (by decide) (by decide))))
                have g13 : (st (st m1 0 0 0) 2 0 1) 13 (2 * ((m 3 0).toNat - 1) + 0) = m 13 (2 * ((m 3 0).toNat - 1) + 0) := ((st_nf (by decide)).trans ((st_nf (by decide)).trans (e_m1 13 (2 * ((m 3 0).toNat - 1) + 0) (by decide) (by decide))))
                have u12 := wb12 hW (2 * ((m 3 0).toNat - 1) + 0)
                have u13 := wb13 hW (2 * ((m 3 0).toNat - 1) + 0)
                have u14 := hU (2 * ((m 3 0).toNat - 1) + 0)
                have hz : md_wb T (st (st m1 0 0 0) 2 0 1) := wb_st (wb_st hWm1 (by show (0 : Int) ≤ _; omega) (by show _ ≤ (3 : Int); omega)) (by show (0 : Int) ≤ _; omega) (by show _ ≤ (1 : Int); omega)
                refine am_mono (lp_X9_send hz (w := (2 * ((m 3 0).toNat - 1) + 0)) (p := (m 12 (2 * ((m 3 0).toNat - 1) + 0)).toNat) (by omega) (by omega) (by omega) (by rw [g12]; omega) (by omega) (by rw [g12]; omega) (Or.inl rfl) X fa.toNat 0 _ _ rfl rfl (Nat.zero_add _)) ?_
                exact fun r h' q => by
                  obtain ⟨q1, q2⟩ := q
                  refine ⟨by rw [q1, g12]; unfold an_send; rw [eS, ← hfa, if_neg (by omega), if_neg (by omega)], ?_⟩
                  have hS : sp_send m 1 b 0 = sp_sent m1 (2 * ((m 3 0).toNat - 1) + 0) 0 fa := by unfold sp_send; rw [eS, ← hfa, ← hm1, if_neg (show ¬ ¬ (0 ≤ b ∧ b ≤ 2) by omega), if_neg (show ¬ (fa = -1 ∨ 200 < m 12 (2 * ((m 3 0).toNat - 1) + 0) + fa) by omega)]
                  rw [q2, g13, hS]; unfold sp_sent; rw [e_m1 12 _ (by decide) (by decide), e_m1 13 _ (by decide) (by decide)]; first | rfl | simp
              · refine am_iconst eX9_send_111 ?_
                refine am_goto eX9_send_112 ?_
                refine md_put eX9_send_116 fX9_123 rfl rfl (by decide) trivial ?_
                refine am_aload_n eX9_send_119 rfl ?_
                refine md_getI (v := 2) eX9_send_120 fX9_123 rfl (by decide) st_eq ?_
                refine am_if_le ⟨by omega, by omega⟩ eX9_send_123 (fun z => absurd z (by decide)) (fun _ => ?_)
                refine am_iconst eX9_send_126 ?_
                refine am_ireturn eX9_send_127 rfl trivial (Nat.zero_le _) (Nat.zero_le _) ?_
                have eS : sp_sw m 1 = (2 * ((m 3 0).toNat - 1) + 0) := by first | (exfalso; omega) | unfold sp_sw; first | rw [if_neg (by omega), if_pos (by omega)] | rw [if_neg (by omega), if_neg (by omega)]
                exact am_is_m (by unfold an_send; rw [eS, ← hfa, if_neg (by omega), if_pos (by omega)]) (by unfold sp_send; rw [eS, ← hfa, ← hm1, if_neg (by omega), if_pos (by omega)])
        · refine am_iconst eX9_send_40 ?_
          refine am_goto eX9_send_41 ?_
          refine am_istore eX9_send_50 (by decide) ?_
          refine am_aload_n eX9_send_52 rfl ?_
          refine md_getI (v := m 3 0) eX9_send_53 fX9_126 rfl (by decide) ((st_nf (by decide)).trans rfl) ?_
          have b36 := wb3 hW 0
          refine am_iconst eX9_send_56 ?_
          refine am_icmp_ge ⟨by omega, by omega⟩ ⟨by omega, by omega⟩ eX9_send_57 (fun c37 => ?_) (fun c37 => ?_)
          · refine am_iload_n eX9_send_64 rfl ?_
            refine am_if_eq ⟨by omega, by omega⟩ eX9_send_65 (fun z => absurd z (by decide)) (fun _ => ?_)
            refine am_aload_n eX9_send_68 rfl ?_
            refine md_getI (v := m 3 0) eX9_send_69 fX9_126 rfl (by decide) ((st_nf (by decide)).trans rfl) ?_
            have b39 := wb3 hW 0
            refine am_iconst eX9_send_72 ?_
            refine am_isub eX9_send_73 ?_
            refine am_iconst eX9_send_74 ?_
            refine am_cS eX9_send_75 kX9_171 (c_X9_at (a := ((m 3 0) - 1)) (u := 0) (Or.inl rfl)) rfl rfl (by decide) (by decide) (Nat.le_of_ble_eq_true rfl) (Nat.zero_le _) (Nat.zero_le _) ?_
            refine am_goto eX9_send_78 ?_
            refine am_istore eX9_send_86 (by decide) ?_
            refine am_aload_n eX9_send_88 rfl ?_
            refine am_iload eX9_send_89 rfl ?_
            refine am_iconst eX9_send_91 ?_
            refine am_icmp_eq ⟨by omega, by omega⟩ ⟨by omega, by omega⟩ eX9_send_92 (fun _ => ?_) (fun z => absurd z (by decide))
            refine am_iconst eX9_send_111 ?_
            refine am_goto eX9_send_112 ?_
            refine md_put eX9_send_116 fX9_123 rfl rfl (by decide) trivial ?_
            refine am_heq (congrArg (fun z => en_h z x) st_st) ?_
            refine am_aload_n eX9_send_119 rfl ?_
            refine md_getI (v := 2) eX9_send_120 fX9_123 rfl (by decide) st_eq ?_
            refine am_if_le ⟨by omega, by omega⟩ eX9_send_123 (fun z => absurd z (by decide)) (fun _ => ?_)
            refine am_iconst eX9_send_126 ?_
            refine am_ireturn eX9_send_127 rfl trivial (Nat.zero_le _) (Nat.zero_le _) ?_
            first | (exfalso; omega) | exact am_is_m (by unfold an_send an_sk; first | (rw [if_pos (by omega)]) | (rw [if_neg (by omega), if_pos (Or.inl (if_pos (by omega)))])) (by unfold sp_send; first | (rw [if_pos (by omega)]) | (unfold an_sk sp_sk; rw [if_neg (by omega), if_pos (Or.inl (if_pos (by omega))), if_pos (by omega)]; exact st_st.symm))
          · refine am_iconst eX9_send_60 ?_
            refine am_goto eX9_send_61 ?_
            refine am_istore eX9_send_86 (by decide) ?_
            refine am_aload_n eX9_send_88 rfl ?_
            refine am_iload eX9_send_89 rfl ?_
            refine am_iconst eX9_send_91 ?_
            refine am_icmp_eq ⟨by omega, by omega⟩ ⟨by omega, by omega⟩ eX9_send_92 (fun _ => ?_) (fun z => absurd z (by decide))
            refine am_iconst eX9_send_111 ?_
            refine am_goto eX9_send_112 ?_
            refine md_put eX9_send_116 fX9_123 rfl rfl (by decide) trivial ?_
            refine am_heq (congrArg (fun z => en_h z x) st_st) ?_
            refine am_aload_n eX9_send_119 rfl ?_
            refine md_getI (v := 2) eX9_send_120 fX9_123 rfl (by decide) st_eq ?_
            refine am_if_le ⟨by omega, by omega⟩ eX9_send_123 (fun z => absurd z (by decide)) (fun _ => ?_)
            refine am_iconst eX9_send_126 ?_
            refine am_ireturn eX9_send_127 rfl trivial (Nat.zero_le _) (Nat.zero_le _) ?_
            first | (exfalso; omega) | exact am_is_m (by unfold an_send an_sk; first | (rw [if_pos (by omega)]) | (rw [if_neg (by omega), if_pos (Or.inl (if_pos (by omega)))])) (by unfold sp_send; first | (rw [if_pos (by omega)]) | (unfold an_sk sp_sk; rw [if_neg (by omega), if_pos (Or.inl (if_pos (by omega))), if_pos (by omega)]; exact st_st.symm))
  · refine am_aload_n eX9_send_0 rfl ?_
    refine am_iload_n eX9_send_1 rfl ?_
    refine am_cS eX9_send_2 kX9_155 (c_X9_isBook (a := b) ⟨by omega, by omega⟩) rfl rfl (by decide) (by decide) (Nat.le_of_ble_eq_true rfl) (Nat.zero_le _) (Nat.zero_le _) ?_
    refine am_bz_eq eX9_send_5 (fun c1 => ?_) (fun c1 => ?_)
    · refine am_iconst eX9_send_12 ?_
      refine md_put eX9_send_13 fX9_123 rfl rfl (by decide) trivial ?_
      refine am_aload_n eX9_send_16 rfl ?_
      refine md_getI (v := 1) eX9_send_17 fX9_123 rfl (by decide) st_eq ?_
      refine am_if_le ⟨by omega, by omega⟩ eX9_send_20 (fun z => absurd z (by decide)) (fun _ => ?_)
      refine am_iconst eX9_send_23 ?_
      refine am_ireturn eX9_send_24 rfl trivial (Nat.zero_le _) (Nat.zero_le _) ?_
      first | (exfalso; omega) | exact am_is_m (by unfold an_send an_sk; first | (rw [if_pos (by omega)]) | (rw [if_neg (by omega), if_pos (Or.inl (if_pos (by omega)))])) (by unfold sp_send; first | (rw [if_pos (by omega)]) | (unfold an_sk sp_sk; rw [if_neg (by omega), if_pos (Or.inl (if_pos (by omega))), if_pos (by omega)]; exact st_st.symm))
    · refine am_iconst eX9_send_8 ?_
      refine am_goto eX9_send_9 ?_
      refine md_put eX9_send_13 fX9_123 rfl rfl (by decide) trivial ?_
      refine am_aload_n eX9_send_16 rfl ?_
      refine md_getI (v := 0) eX9_send_17 fX9_123 rfl (by decide) st_eq ?_
      refine am_if_le ⟨by omega, by omega⟩ eX9_send_20 (fun _ => ?_) (fun z => absurd z (by decide))
      refine am_aload_n eX9_send_25 rfl ?_
      refine md_getI (v := m 3 0) eX9_send_26 fX9_126 rfl (by decide) ((st_nf (by decide)).trans rfl) ?_
      have b4 := wb3 hW 0
      refine am_iconst eX9_send_29 ?_
      refine am_icmp_lt ⟨by omega, by omega⟩ ⟨by omega, by omega⟩ eX9_send_30 (fun c5 => ?_) (fun c5 => ?_)
      · refine am_iconst eX9_send_40 ?_
        refine am_goto eX9_send_41 ?_
        refine am_istore eX9_send_50 (by decide) ?_
        refine am_aload_n eX9_send_52 rfl ?_
        refine md_getI (v := m 3 0) eX9_send_53 fX9_126 rfl (by decide) ((st_nf (by decide)).trans rfl) ?_
        have b6 := wb3 hW 0
        refine am_iconst eX9_send_56 ?_
        refine am_icmp_ge ⟨by omega, by omega⟩ ⟨by omega, by omega⟩ eX9_send_57 (fun c7 => ?_) (fun c7 => ?_)
        · refine am_iload_n eX9_send_64 rfl ?_
          refine am_if_eq ⟨by omega, by omega⟩ eX9_send_65 (fun z => absurd z (by decide)) (fun _ => ?_)
          refine am_aload_n eX9_send_68 rfl ?_
          refine md_getI (v := m 3 0) eX9_send_69 fX9_126 rfl (by decide) ((st_nf (by decide)).trans rfl) ?_
          have b9 := wb3 hW 0
          refine am_iconst eX9_send_72 ?_
          refine am_isub eX9_send_73 ?_
          refine am_iconst eX9_send_74 ?_
          refine am_cS eX9_send_75 kX9_171 (c_X9_at (a := ((m 3 0) - 1)) (u := 0) (Or.inl rfl)) rfl rfl (by decide) (by decide) (Nat.le_of_ble_eq_true rfl) (Nat.zero_le _) (Nat.zero_le _) ?_
          refine am_goto eX9_send_78 ?_
          refine am_istore eX9_send_86 (by decide) ?_
          refine am_aload_n eX9_send_88 rfl ?_
          refine am_iload eX9_send_89 rfl ?_
          refine am_iconst eX9_send_91 ?_
          refine am_icmp_eq ⟨by omega, by omega⟩ ⟨by omega, by omega⟩ eX9_send_92 (fun _ => ?_) (fun z => absurd z (by decide))
          refine am_iconst eX9_send_111 ?_
          refine am_goto eX9_send_112 ?_
          refine md_put eX9_send_116 fX9_123 rfl rfl (by decide) trivial ?_
          refine am_heq (congrArg (fun z => en_h z x) st_st) ?_
          refine am_aload_n eX9_send_119 rfl ?_
          refine md_getI (v := 2) eX9_send_120 fX9_123 rfl (by decide) st_eq ?_
          refine am_if_le ⟨by omega, by omega⟩ eX9_send_123 (fun z => absurd z (by decide)) (fun _ => ?_)
          refine am_iconst eX9_send_126 ?_
          refine am_ireturn eX9_send_127 rfl trivial (Nat.zero_le _) (Nat.zero_le _) ?_
          first | (exfalso; omega) | exact am_is_m (by unfold an_send an_sk; first | (rw [if_pos (by omega)]) | (rw [if_neg (by omega), if_pos (Or.inl (if_pos (by omega)))])) (by unfold sp_send; first | (rw [if_pos (by omega)]) | (unfold an_sk sp_sk; rw [if_neg (by omega), if_pos (Or.inl (if_pos (by omega))), if_pos (by omega)]; exact st_st.symm))
        · refine am_iconst eX9_send_60 ?_
          refine am_goto eX9_send_61 ?_
          refine am_istore eX9_send_86 (by decide) ?_
          refine am_aload_n eX9_send_88 rfl ?_
          refine am_iload eX9_send_89 rfl ?_
          refine am_iconst eX9_send_91 ?_
          refine am_icmp_eq ⟨by omega, by omega⟩ ⟨by omega, by omega⟩ eX9_send_92 (fun _ => ?_) (fun z => absurd z (by decide))
          refine am_iconst eX9_send_111 ?_
          refine am_goto eX9_send_112 ?_
          refine md_put eX9_send_116 fX9_123 rfl rfl (by decide) trivial ?_
          refine am_heq (congrArg (fun z => en_h z x) st_st) ?_
          refine am_aload_n eX9_send_119 rfl ?_
          refine md_getI (v := 2) eX9_send_120 fX9_123 rfl (by decide) st_eq ?_
          refine am_if_le ⟨by omega, by omega⟩ eX9_send_123 (fun z => absurd z (by decide)) (fun _ => ?_)
          refine am_iconst eX9_send_126 ?_
          refine am_ireturn eX9_send_127 rfl trivial (Nat.zero_le _) (Nat.zero_le _) ?_
          first | (exfalso; omega) | exact am_is_m (by unfold an_send an_sk; first | (rw [if_pos (by omega)]) | (rw [if_neg (by omega), if_pos (Or.inl (if_pos (by omega)))])) (by unfold sp_send; first | (rw [if_pos (by omega)]) | (unfold an_sk sp_sk; rw [if_neg (by omega), if_pos (Or.inl (if_pos (by omega))), if_pos (by omega)]; exact st_st.symm))
      · refine am_aload_n eX9_send_33 rfl ?_
        refine md_getI (v := m 24 0) eX9_send_34 fX9_161 rfl (by decide) ((st_nf (by decide)).trans rfl) ?_
        have b14 := wb24 hW 0
        refine am_if_ne ⟨by omega, by omega⟩ eX9_send_37 (fun c15 => ?_) (fun c15 => ?_)
        · refine am_aload_n eX9_send_44 rfl ?_
          refine am_iload_n eX9_send_45 rfl ?_
          refine am_iload_n eX9_send_46 rfl ?_
          have hW0 : md_wb T (st m 0 0 0) := wb_st hW (by show (0 : Int) ≤ _; omega) (by show _ ≤ (3 : Int); omega)
          refine am_cV eX9_send_47 kX9_167 (c_X9_makesSigns (m := st m 0 0 0) (x := x) (T := T) hW0 (b := b) (u := 1) (by omega) (by omega)) rfl rfl en_9 (by decide) (by decide) (Nat.le_of_ble_eq_true rfl) (Nat.zero_le _) (Nat.zero_le _) ?_
          have eA : an_sk m b 1 = an_mk (st m 0 0 0) b.toNat (1 : Int).toNat (m 24 0).toNat 0 := by unfold an_sk; rw [if_neg (by omega)]
          have eM : sp_sk m b 1 = sp_mk (st m 0 0 0) b.toNat (1 : Int).toNat (m 24 0).toNat 0 := by unfold sp_sk; rw [if_neg (by omega)]
          rw [show st m 0 0 0 24 0 = m 24 0 from st_nf (by decide), ← eA, ← eM]
          have qA := an_mk_in (σ := st m 0 0 0) (b := b.toNat) (u := (1 : Int).toNat) (m 24 0).toNat 0
          rw [← eA] at qA
          obtain ⟨m1, hm1⟩ : ∃ z, z = sp_sk m b 1 := ⟨_, rfl⟩
          obtain ⟨fa, hfa⟩ : ∃ z, z = an_sk m b 1 := ⟨_, rfl⟩
          rw [← hfa] at qA
          rw [← hm1, ← hfa]
          have hWm1 : md_wb T m1 := by rw [hm1, eM]; exact sp_mk_wb hW0 _ _ (fun k hk => absurd hk (Nat.not_lt_zero k))
          have e_m1 : ∀ f j : Nat, f ≠ 26 → f ≠ 0 → m1 f j = m f j := fun f j h1 h2 => by rw [hm1, eM, sp_mk_f h1, st_nf h2]
          refine am_istore eX9_send_50 (by decide) ?_
          refine am_aload_n eX9_send_52 rfl ?_
          refine md_getI (v := m 3 0) eX9_send_53 fX9_126 rfl (by decide) (e_m1 3 0 (by decide) (by decide)) ?_
          have b16 := wb3 hW 0
          refine am_iconst eX9_send_56 ?_
          refine am_icmp_ge ⟨by omega, by omega⟩ ⟨by omega, by omega⟩ eX9_send_57 (fun c17 => ?_) (fun c17 => ?_)
          · refine am_iload_n eX9_send_64 rfl ?_
            refine am_if_eq ⟨by omega, by omega⟩ eX9_send_65 (fun z => absurd z (by decide)) (fun _ => ?_)
            refine am_aload_n eX9_send_68 rfl ?_
            refine md_getI (v := m 3 0) eX9_send_69 fX9_126 rfl (by decide) (e_m1 3 0 (by decide) (by decide)) ?_
            have b19 := wb3 hW 0
            refine am_iconst eX9_send_72 ?_
            refine am_isub eX9_send_73 ?_
            refine am_iconst eX9_send_74 ?_
            refine am_cS eX9_send_75 kX9_171 (c_X9_at (a := ((m 3 0) - 1)) (u := 0) (Or.inl rfl)) rfl rfl (by decide) (by decide) (Nat.le_of_ble_eq_true rfl) (Nat.zero_le _) (Nat.zero_le _) ?_
            refine am_goto eX9_send_78 ?_
            refine am_istore eX9_send_86 (by decide) ?_
            refine am_aload_n eX9_send_88 rfl ?_
            refine am_iload eX9_send_89 rfl ?_
            refine am_iconst eX9_send_91 ?_
            refine am_icmp_eq ⟨by omega, by omega⟩ ⟨by omega, by omega⟩ eX9_send_92 (fun c20 => ?_) (fun c20 => ?_)
            · refine am_iconst eX9_send_111 ?_
              refine am_goto eX9_send_112 ?_
              refine md_put eX9_send_116 fX9_123 rfl rfl (by decide) trivial ?_
              refine am_aload_n eX9_send_119 rfl ?_
              refine md_getI (v := 2) eX9_send_120 fX9_123 rfl (by decide) st_eq ?_
              refine am_if_le ⟨by omega, by omega⟩ eX9_send_123 (fun z => absurd z (by decide)) (fun _ => ?_)
              refine am_iconst eX9_send_126 ?_
              refine am_ireturn eX9_send_127 rfl trivial (Nat.zero_le _) (Nat.zero_le _) ?_
              have eS : sp_sw m 1 = (2 * ((m 3 0).toNat - 1) + 0) := by first | (exfalso; omega) | unfold sp_sw; first | rw [if_neg (by omega), if_pos (by omega)] | rw [if_neg (by omega), if_neg (by omega)]
              exact am_is_m (by unfold an_send; rw [eS, ← hfa, if_neg (by omega), if_pos (by omega)]) (by unfold sp_send; rw [eS, ← hfa, ← hm1, if_neg (by omega), if_pos (by omega)])
            · refine am_aload_n eX9_send_95 rfl ?_
              refine md_getA eX9_send_96 fX9_35 (by decide) (by decide) ?_
              refine am_iload eX9_send_99 rfl ?_
              refine md_ald (f := 12) (j := (2 * ((m 3 0).toNat - 1) + 0)) (v := m 12 (2 * ((m 3 0).toNat - 1) + 0)) eX9_send_101 (by show _ < 24; omega) rfl (by omega) (e_m1 12 (2 * ((m 3 0).toNat - 1) + 0) (by decide) (by decide)) ?_
              have b22 := wb12 hW (2 * ((m 3 0).toNat - 1) + 0)
              refine am_iload eX9_send_102 rfl ?_
              refine am_iadd eX9_send_104 ?_
              refine am_sipush eX9_send_105 (by decide) ?_
              refine am_icmp_le ⟨by omega, by omega⟩ ⟨by omega, by omega⟩ eX9_send_108 (fun c23 => ?_) (fun c23 => ?_)
              · refine am_iconst eX9_send_115 ?_
                refine md_put eX9_send_116 fX9_123 rfl rfl (by decide) trivial ?_
                refine am_aload_n eX9_send_119 rfl ?_
                refine md_getI (v := 0) eX9_send_120 fX9_123 rfl (by decide) st_eq ?_
                refine am_if_le ⟨by omega, by omega⟩ eX9_send_123 (fun _ => ?_) (fun z => absurd z (by decide))
                refine am_aload_n eX9_send_128 rfl ?_
                refine am_iconst eX9_send_129 ?_
                refine md_put eX9_send_130 fX9_133 rfl rfl (by decide) (Or.inr rfl) ?_
                refine am_iload_n eX9_send_133 rfl ?_
                refine am_if_eq ⟨by omega, by omega⟩ eX9_send_134 (fun z => absurd z (by decide)) (fun _ => ?_)
                refine am_aload_n eX9_send_137 rfl ?_
                refine md_getA eX9_send_138 fX9_38 (by decide) (by decide) ?_
                refine am_iload eX9_send_141 rfl ?_
                refine md_ald (f := 13) (j := (2 * ((m 3 0).toNat - 1) + 0)) (v := m 13 (2 * ((m 3 0).toNat - 1) + 0)) eX9_send_143 (by show _ < 24; omega) rfl (by omega) ((st_nf (by decide)).trans ((st_nf (by decide)).trans (e_m1 13 (2 * ((m 3 0).toNat - 1) + 0) (by decide) (by decide)))) ?_
                have b26 := wb13 hW (2 * ((m 3 0).toNat - 1) + 0)
                refine am_goto eX9_send_144 ?_
                refine am_istore eX9_send_154 (by decide) ?_
                refine am_iconst eX9_send_156 ?_
                refine am_istore eX9_send_157 (by decide) ?_
                have eS : sp_sw m 1 = (2 * ((m 3 0).toNat - 1) + 0) := by first | (exfalso; omega) | unfold sp_sw; first | rw [if_neg (by omega), if_pos (by omega)] | rw [if_neg (by omega), if_neg (by omega)]
                have g12 : (st (st m1 0 0 0) 2 0 1) 12 (2 * ((m 3 0).toNat - 1) + 0) = m 12 (2 * ((m 3 0).toNat - 1) + 0) := ((st_nf (by decide)).trans ((st_nf (by decide)).trans (e_m1 12 (2 * ((m 3 0).toNat - 1) + 0) (by decide) (by decide))))
                have g13 : (st (st m1 0 0 0) 2 0 1) 13 (2 * ((m 3 0).toNat - 1) + 0) = m 13 (2 * ((m 3 0).toNat - 1) + 0) := ((st_nf (by decide)).trans ((st_nf (by decide)).trans (e_m1 13 (2 * ((m 3 0).toNat - 1) + 0) (by decide) (by decide))))
                have u12 := wb12 hW (2 * ((m 3 0).toNat - 1) + 0)
                have u13 := wb13 hW (2 * ((m 3 0).toNat - 1) + 0)
                have u14 := hU (2 * ((m 3 0).toNat - 1) + 0)
                have hz : md_wb T (st (st m1 0 0 0) 2 0 1) := wb_st (wb_st hWm1 (by show (0 : Int) ≤ _; omega) (by show _ ≤ (3 : Int); omega)) (by show (0 : Int) ≤ _; omega) (by show _ ≤ (1 : Int); omega)
                refine am_mono (lp_X9_send hz (w := (2 * ((m 3 0).toNat - 1) + 0)) (p := (m 13 (2 * ((m 3 0).toNat - 1) + 0)).toNat) (by omega) (by omega) (by omega) (by rw [g12]; omega) (by omega) (by rw [g12]; omega) (Or.inr rfl) X fa.toNat 0 _ _ rfl rfl (Nat.zero_add _)) ?_
                exact fun r h' q => by
                  obtain ⟨q1, q2⟩ := q
                  refine ⟨by rw [q1, g12]; unfold an_send; rw [eS, ← hfa, if_neg (by omega), if_neg (by omega)], ?_⟩
                  have hS : sp_send m 1 b 1 = sp_sent m1 (2 * ((m 3 0).toNat - 1) + 0) 1 fa := by unfold sp_send; rw [eS, ← hfa, ← hm1, if_neg (show ¬ ¬ (0 ≤ b ∧ b ≤ 2) by omega), if_neg (show ¬ (fa = -1 ∨ 200 < m 12 (2 * ((m 3 0).toNat - 1) + 0) + fa) by omega)]
                  rw [q2, g13, hS]; unfold sp_sent; rw [e_m1 12 _ (by decide) (by decide), e_m1 13 _ (by decide) (by decide)]; first | rfl | simp
              · refine am_iconst eX9_send_111 ?_
                refine am_goto eX9_send_112 ?_
                refine md_put eX9_send_116 fX9_123 rfl rfl (by decide) trivial ?_
                refine am_aload_n eX9_send_119 rfl ?_
                refine md_getI (v := 2) eX9_send_120 fX9_123 rfl (by decide) st_eq ?_
                refine am_if_le ⟨by omega, by omega⟩ eX9_send_123 (fun z => absurd z (by decide)) (fun _ => ?_)
                refine am_iconst eX9_send_126 ?_
                refine am_ireturn eX9_send_127 rfl trivial (Nat.zero_le _) (Nat.zero_le _) ?_
                have eS : sp_sw m 1 = (2 * ((m 3 0).toNat - 1) + 0) := by first | (exfalso; omega) | unfold sp_sw; first | rw [if_neg (by omega), if_pos (by omega)] | rw [if_neg (by omega), if_neg (by omega)]
                exact am_is_m (by unfold an_send; rw [eS, ← hfa, if_neg (by omega), if_pos (by omega)]) (by unfold sp_send; rw [eS, ← hfa, ← hm1, if_neg (by omega), if_pos (by omega)])
          · refine am_iconst eX9_send_60 ?_
            refine am_goto eX9_send_61 ?_
            refine am_istore eX9_send_86 (by decide) ?_
            refine am_aload_n eX9_send_88 rfl ?_
            refine am_iload eX9_send_89 rfl ?_
            refine am_iconst eX9_send_91 ?_
            refine am_icmp_eq ⟨by omega, by omega⟩ ⟨by omega, by omega⟩ eX9_send_92 (fun c28 => ?_) (fun c28 => ?_)
            · refine am_iconst eX9_send_111 ?_
              refine am_goto eX9_send_112 ?_
              refine md_put eX9_send_116 fX9_123 rfl rfl (by decide) trivial ?_
              refine am_aload_n eX9_send_119 rfl ?_
              refine md_getI (v := 2) eX9_send_120 fX9_123 rfl (by decide) st_eq ?_
              refine am_if_le ⟨by omega, by omega⟩ eX9_send_123 (fun z => absurd z (by decide)) (fun _ => ?_)
              refine am_iconst eX9_send_126 ?_
              refine am_ireturn eX9_send_127 rfl trivial (Nat.zero_le _) (Nat.zero_le _) ?_
              have eS : sp_sw m 1 = (2 * ((m 3 0).toNat - 1) + 0) := by first | (exfalso; omega) | unfold sp_sw; first | rw [if_neg (by omega), if_pos (by omega)] | rw [if_neg (by omega), if_neg (by omega)]
              exact am_is_m (by unfold an_send; rw [eS, ← hfa, if_neg (by omega), if_pos (by omega)]) (by unfold sp_send; rw [eS, ← hfa, ← hm1, if_neg (by omega), if_pos (by omega)])
            · refine am_aload_n eX9_send_95 rfl ?_
              refine md_getA eX9_send_96 fX9_35 (by decide) (by decide) ?_
              refine am_iload eX9_send_99 rfl ?_
              refine md_ald (f := 12) (j := 0) (v := m 12 0) eX9_send_101 (by show _ < 24; omega) rfl (by omega) (e_m1 12 0 (by decide) (by decide)) ?_
              have b30 := wb12 hW 0
              refine am_iload eX9_send_102 rfl ?_
              refine am_iadd eX9_send_104 ?_
              refine am_sipush eX9_send_105 (by decide) ?_
              refine am_icmp_le ⟨by omega, by omega⟩ ⟨by omega, by omega⟩ eX9_send_108 (fun c31 => ?_) (fun c31 => ?_)
              · refine am_iconst eX9_send_115 ?_
                refine md_put eX9_send_116 fX9_123 rfl rfl (by decide) trivial ?_
                refine am_aload_n eX9_send_119 rfl ?_
                refine md_getI (v := 0) eX9_send_120 fX9_123 rfl (by decide) st_eq ?_
                refine am_if_le ⟨by omega, by omega⟩ eX9_send_123 (fun _ => ?_) (fun z => absurd z (by decide))
                refine am_aload_n eX9_send_128 rfl ?_
                refine am_iconst eX9_send_129 ?_
                refine md_put eX9_send_130 fX9_133 rfl rfl (by decide) (Or.inr rfl) ?_
                refine am_iload_n eX9_send_133 rfl ?_
                refine am_if_eq ⟨by omega, by omega⟩ eX9_send_134 (fun z => absurd z (by decide)) (fun _ => ?_)
                refine am_aload_n eX9_send_137 rfl ?_
                refine md_getA eX9_send_138 fX9_38 (by decide) (by decide) ?_
                refine am_iload eX9_send_141 rfl ?_
                refine md_ald (f := 13) (j := 0) (v := m 13 0) eX9_send_143 (by show _ < 24; omega) rfl (by omega) ((st_nf (by decide)).trans ((st_nf (by decide)).trans (e_m1 13 0 (by decide) (by decide)))) ?_
                have b34 := wb13 hW 0
                refine am_goto eX9_send_144 ?_
                refine am_istore eX9_send_154 (by decide) ?_
                refine am_iconst eX9_send_156 ?_
                refine am_istore eX9_send_157 (by decide) ?_
                have eS : sp_sw m 1 = (2 * ((m 3 0).toNat - 1) + 0) := by first | (exfalso; omega) | unfold sp_sw; first | rw [if_neg (by omega), if_pos (by omega)] | rw [if_neg (by omega), if_neg (by omega)]
                have g12 : (st (st m1 0 0 0) 2 0 1) 12 (2 * ((m 3 0).toNat - 1) + 0) = m 12 (2 * ((m 3 0).toNat - 1) + 0) := ((st_nf (by decide)).trans ((st_nf (by decide)).trans (e_m1 12 (2 * ((m 3 0).toNat - 1) + 0) (by decide) (by decide))))
                have g13 : (st (st m1 0 0 0) 2 0 1) 13 (2 * ((m 3 0).toNat - 1) + 0) = m 13 (2 * ((m 3 0).toNat - 1) + 0) := ((st_nf (by decide)).trans ((st_nf (by decide)).trans (e_m1 13 (2 * ((m 3 0).toNat - 1) + 0) (by decide) (by decide))))
                have u12 := wb12 hW (2 * ((m 3 0).toNat - 1) + 0)
                have u13 := wb13 hW (2 * ((m 3 0).toNat - 1) + 0)
                have u14 := hU (2 * ((m 3 0).toNat - 1) + 0)
                have hz : md_wb T (st (st m1 0 0 0) 2 0 1) := wb_st (wb_st hWm1 (by show (0 : Int) ≤ _; omega) (by show _ ≤ (3 : Int); omega)) (by show (0 : Int) ≤ _; omega) (by show _ ≤ (1 : Int); omega)
                refine am_mono (lp_X9_send hz (w := (2 * ((m 3 0).toNat - 1) + 0)) (p := (m 13 (2 * ((m 3 0).toNat - 1) + 0)).toNat) (by omega) (by omega) (by omega) (by rw [g12]; omega) (by omega) (by rw [g12]; omega) (Or.inr rfl) X fa.toNat 0 _ _ rfl rfl (Nat.zero_add _)) ?_
                exact fun r h' q => by
                  obtain ⟨q1, q2⟩ := q
                  refine ⟨by rw [q1, g12]; unfold an_send; rw [eS, ← hfa, if_neg (by omega), if_neg (by omega)], ?_⟩
                  have hS : sp_send m 1 b 1 = sp_sent m1 (2 * ((m 3 0).toNat - 1) + 0) 1 fa := by unfold sp_send; rw [eS, ← hfa, ← hm1, if_neg (show ¬ ¬ (0 ≤ b ∧ b ≤ 2) by omega), if_neg (show ¬ (fa = -1 ∨ 200 < m 12 (2 * ((m 3 0).toNat - 1) + 0) + fa) by omega)]
                  rw [q2, g13, hS]; unfold sp_sent; rw [e_m1 12 _ (by decide) (by decide), e_m1 13 _ (by decide) (by decide)]; first | rfl | simp
              · refine am_iconst eX9_send_111 ?_
                refine am_goto eX9_send_112 ?_
                refine md_put eX9_send_116 fX9_123 rfl rfl (by decide) trivial ?_
                refine am_aload_n eX9_send_119 rfl ?_
                refine md_getI (v := 2) eX9_send_120 fX9_123 rfl (by decide) st_eq ?_
                refine am_if_le ⟨by omega, by omega⟩ eX9_send_123 (fun z => absurd z (by decide)) (fun _ => ?_)
                refine am_iconst eX9_send_126 ?_
                refine am_ireturn eX9_send_127 rfl trivial (Nat.zero_le _) (Nat.zero_le _) ?_
                have eS : sp_sw m 1 = (2 * ((m 3 0).toNat - 1) + 0) := by first | (exfalso; omega) | unfold sp_sw; first | rw [if_neg (by omega), if_pos (by omega)] | rw [if_neg (by omega), if_neg (by omega)]
                exact am_is_m (by unfold an_send; rw [eS, ← hfa, if_neg (by omega), if_pos (by omega)]) (by unfold sp_send; rw [eS, ← hfa, ← hm1, if_neg (by omega), if_pos (by omega)])
        · refine am_iconst eX9_send_40 ?_
          refine am_goto eX9_send_41 ?_
          refine am_istore eX9_send_50 (by decide) ?_
          refine am_aload_n eX9_send_52 rfl ?_
          refine md_getI (v := m 3 0) eX9_send_53 fX9_126 rfl (by decide) ((st_nf (by decide)).trans rfl) ?_
          have b36 := wb3 hW 0
          refine am_iconst eX9_send_56 ?_
          refine am_icmp_ge ⟨by omega, by omega⟩ ⟨by omega, by omega⟩ eX9_send_57 (fun c37 => ?_) (fun c37 => ?_)
          · refine am_iload_n eX9_send_64 rfl ?_
            refine am_if_eq ⟨by omega, by omega⟩ eX9_send_65 (fun z => absurd z (by decide)) (fun _ => ?_)
            refine am_aload_n eX9_send_68 rfl ?_
            refine md_getI (v := m 3 0) eX9_send_69 fX9_126 rfl (by decide) ((st_nf (by decide)).trans rfl) ?_
            have b39 := wb3 hW 0
            refine am_iconst eX9_send_72 ?_
            refine am_isub eX9_send_73 ?_
            refine am_iconst eX9_send_74 ?_
            refine am_cS eX9_send_75 kX9_171 (c_X9_at (a := ((m 3 0) - 1)) (u := 0) (Or.inl rfl)) rfl rfl (by decide) (by decide) (Nat.le_of_ble_eq_true rfl) (Nat.zero_le _) (Nat.zero_le _) ?_
            refine am_goto eX9_send_78 ?_
            refine am_istore eX9_send_86 (by decide) ?_
            refine am_aload_n eX9_send_88 rfl ?_
            refine am_iload eX9_send_89 rfl ?_
            refine am_iconst eX9_send_91 ?_
            refine am_icmp_eq ⟨by omega, by omega⟩ ⟨by omega, by omega⟩ eX9_send_92 (fun _ => ?_) (fun z => absurd z (by decide))
            refine am_iconst eX9_send_111 ?_
            refine am_goto eX9_send_112 ?_
            refine md_put eX9_send_116 fX9_123 rfl rfl (by decide) trivial ?_
            refine am_heq (congrArg (fun z => en_h z x) st_st) ?_
            refine am_aload_n eX9_send_119 rfl ?_
            refine md_getI (v := 2) eX9_send_120 fX9_123 rfl (by decide) st_eq ?_
            refine am_if_le ⟨by omega, by omega⟩ eX9_send_123 (fun z => absurd z (by decide)) (fun _ => ?_)
            refine am_iconst eX9_send_126 ?_
            refine am_ireturn eX9_send_127 rfl trivial (Nat.zero_le _) (Nat.zero_le _) ?_
            first | (exfalso; omega) | exact am_is_m (by unfold an_send an_sk; first | (rw [if_pos (by omega)]) | (rw [if_neg (by omega), if_pos (Or.inl (if_pos (by omega)))])) (by unfold sp_send; first | (rw [if_pos (by omega)]) | (unfold an_sk sp_sk; rw [if_neg (by omega), if_pos (Or.inl (if_pos (by omega))), if_pos (by omega)]; exact st_st.symm))
          · refine am_iconst eX9_send_60 ?_
            refine am_goto eX9_send_61 ?_
            refine am_istore eX9_send_86 (by decide) ?_
            refine am_aload_n eX9_send_88 rfl ?_
            refine am_iload eX9_send_89 rfl ?_
            refine am_iconst eX9_send_91 ?_
            refine am_icmp_eq ⟨by omega, by omega⟩ ⟨by omega, by omega⟩ eX9_send_92 (fun _ => ?_) (fun z => absurd z (by decide))
            refine am_iconst eX9_send_111 ?_
            refine am_goto eX9_send_112 ?_
            refine md_put eX9_send_116 fX9_123 rfl rfl (by decide) trivial ?_
            refine am_heq (congrArg (fun z => en_h z x) st_st) ?_
            refine am_aload_n eX9_send_119 rfl ?_
            refine md_getI (v := 2) eX9_send_120 fX9_123 rfl (by decide) st_eq ?_
            refine am_if_le ⟨by omega, by omega⟩ eX9_send_123 (fun z => absurd z (by decide)) (fun _ => ?_)
            refine am_iconst eX9_send_126 ?_
            refine am_ireturn eX9_send_127 rfl trivial (Nat.zero_le _) (Nat.zero_le _) ?_
            first | (exfalso; omega) | exact am_is_m (by unfold an_send an_sk; first | (rw [if_pos (by omega)]) | (rw [if_neg (by omega), if_pos (Or.inl (if_pos (by omega)))])) (by unfold sp_send; first | (rw [if_pos (by omega)]) | (unfold an_sk sp_sk; rw [if_neg (by omega), if_pos (Or.inl (if_pos (by omega))), if_pos (by omega)]; exact st_st.symm))
