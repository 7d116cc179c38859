theorem sd_out {m x : sg_S} {u b r : Int} (hb : ¬ (0 ≤ b ∧ b ≤ 2)) : en_h m (st x 0 0 0) = en_h m (bs_send x u b r) ∧ bs_send x u b r 0 0 = 1 := by
  have hs : sp_send x u b r = st x 0 0 1 := by unfold sp_send; rw [if_pos hb]
  unfold bs_send
  rw [if_neg (fun z => hb z.1), hs]
  refine ⟨(cx_ag fun f j h => ?_).symm, by rw [mg_lo (by decide), st_eq]⟩
  by_cases c : f ≤ 48
  · rw [mg_lo c, st_nf (by omega), st_nf (by omega)]
  · rw [mg_hi c, st_nf (by omega)]
theorem sd_no {m x : sg_S} {u b r : Int} (hb : 0 ≤ b ∧ b ≤ 2) (ht : x 3 0 < 2 ∨ x 24 0 = 0) : en_h m (st x 0 0 0) = en_h m (bs_send x u b r) ∧ bs_send x u b r 0 0 = 2 := by
  have hs : sp_send x u b r = st (st x 0 0 0) 0 0 2 := by
    have hk : an_sk x b r = -1 := by unfold an_sk; rw [if_pos ht]
    unfold sp_send
    rw [if_neg (by omega), hk, if_pos (Or.inl rfl)]
    unfold sp_sk
    rw [if_pos ht]
  unfold bs_send
  rw [if_neg (fun z => z.2 ht), hs]
  refine ⟨(cx_ag fun f j h => ?_).symm, by rw [mg_lo (by decide), st_eq]⟩
  by_cases c : f ≤ 48
  · rw [mg_lo c, st_nf (by omega)]
  · rw [mg_hi c, st_nf (by omega)]
theorem sq_all_f {σ : sg_S} {i : Nat} {n u : Int} {f j : Nat} (h : f ≠ 12 ∧ f ≠ 13 ∧ f ≠ 14) : sq_all σ i n u f j = σ f j := by
  unfold sq_all
  split
  · rfl
  · split
    · rw [st_nf (by omega), sq_blk_f (by omega)]
    · rw [st_nf (by omega), st_nf (by omega), sq_blk_f (by omega)]
theorem sq_all_12 {σ : sg_S} {i : Nat} {n u : Int} (h : ¬ 200 < σ 12 i + n) : sq_all σ i n u 12 i = σ 12 i + n := by
  unfold sq_all
  rw [if_neg h]
  split
  · rw [st_eq]
  · rw [st_nf (by decide), st_eq]
set_option maxRecDepth 100000 in
set_option maxHeartbeats 4000000 in
theorem c_X8_send {G : am_G} {m x : sg_S} {T : Int} (hW : md_wb T x) {u b r : Int} (hr_b : -2147483648 ≤ b ∧ b < 2147483648) (hb_u : u = 0 ∨ u = 1) (hb_r : r = 0 ∨ r = 1) (hU : ∀ w, x 13 w ≤ x 12 w) : am_Con G yX8_send wX8_send 7 4 24 [am_R (8, 0), am_I u, am_I b, am_I r] (en_h m x) (am_tx [0, 2] (bs_send x u b r 0 0) (an_send x u b r) (en_h m (bs_send x u b r))) := by
  refine am_of2 (Y := mX8_send) (by decide +kernel) rfl (fun z => by cases z) rfl rfl (Nat.le_of_ble_eq_true rfl) fun X => ?_
  have b3 := wb3 hW 0
  obtain ⟨y, hy⟩ : ∃ z, z = st x 0 0 0 := ⟨_, rfl⟩
  refine am_heq (h' := en_h m y) (by rw [hy]; exact (cx_no (Or.inl rfl)).symm) ?_
  have hWy : md_wb T y := by rw [hy]; exact wb_st hW (by show (0 : Int) ≤ _; decide) (by show _ ≤ (3 : Int); decide)
  refine am_aload_n eX8_send_0 rfl ?_
  refine am_iload_n eX8_send_1 rfl ?_
  refine am_cT eX8_send_2 kX8_119 (c_X8_bookAt (m := m) (x := y) (T := T) hWy (a := b) ⟨by omega, by omega⟩) rfl rfl (en_c8 (m := m) (x := y)) (by decide) (by decide) (Nat.le_of_ble_eq_true rfl) (by omega) (by omega) rfl (fun hp => tx_thr2 (i := 0) rfl (by rw [hy]; exact (sd_out (by omega)).1) (sd_out (m := m) (by omega)).2) (fun hp => ?_)
  have hp1 := hp
  refine am_astore eX8_send_5 (by decide) ?_
  refine am_aload_n eX8_send_7 rfl ?_
  refine am_getf eX8_send_8 fX8_66 (en_c8 (m := m) (x := y)) rfl ?_
  refine am_topI (w := x 3 0) ((congrFun (congrFun hy 3) 0).trans ((st_nf (by decide)).trans rfl)) ?_
  have b2 := wb3 hW 0
  refine am_iconst eX8_send_11 ?_
  refine am_icmp_lt ⟨by omega, by omega⟩ ⟨by omega, by omega⟩ eX8_send_12 (fun c3 => ?_) (fun c3 => ?_)
  · exact am_throw x_thr2 rfl x_tx145 (by decide) rfl (by simp) eX8_send_22 eX8_send_25 eX8_send_26 eX8_send_28 eX8_send_31 (by omega) (by omega) (tx_thr2 (i := 1) rfl (by rw [hy]; exact (sd_no (by omega) (by omega)).1) (sd_no (m := m) (by omega) (by omega)).2)
  · refine am_aload_n eX8_send_15 rfl ?_
    refine am_getf eX8_send_16 fX8_140 (en_c8 (m := m) (x := y)) rfl ?_
    refine am_topI (w := x 24 0) ((congrFun (congrFun hy 24) 0).trans ((st_nf (by decide)).trans rfl)) ?_
    have b4 := wb24 hW 0
    refine am_if_ne ⟨by omega, by omega⟩ eX8_send_19 (fun c5 => ?_) (fun c5 => ?_)
    · refine am_aload_n eX8_send_32 rfl ?_
      refine am_aload eX8_send_33 rfl ?_
      refine am_iload_n eX8_send_35 rfl ?_
      refine am_cV eX8_send_36 kX8_147 (c_X8_layOut (m := m) (x := y) hWy (b := b.toNat) (by omega) (u := r) hb_r) rfl rfl (en_c8 (m := m) (x := y)) (by decide) (by decide) (Nat.le_of_ble_eq_true rfl) (by omega) (by omega) ?_
      obtain ⟨a, ha⟩ : ∃ a, a = an_mk x b.toNat r.toNat (x 24 0).toNat 0 := ⟨_, rfl⟩
      obtain ⟨N, hN⟩ : ∃ N, N = sq_mk (st x 0 0 0) b.toNat r.toNat (x 24 0).toNat 0 := ⟨_, rfl⟩
      have e24 : y 24 0 = x 24 0 := by rw [hy]; exact st_nf (by decide)
      refine am_topI (w := a) (by rw [e24, hy, sq_mk_st.2.2, ← ha]) ?_
      refine am_heq (h' := en_h m N) (by rw [hN, e24, hy]) ?_
      have hWN : md_wb T N := by rw [hN]; exact sq_mk_wb (by rw [← hy]; exact hWy) _ _
      have qa := an_mk_in (σ := x) (b := b.toNat) (u := r.toNat) (x 24 0).toNat 0
      rw [← ha] at qa
      have b24 := wb24 hW 0
      refine am_istore eX8_send_39 (by decide) ?_
      refine am_iload eX8_send_41 rfl ?_
      refine am_iconst eX8_send_43 ?_
      refine am_icmp_ne ⟨by omega, by omega⟩ ⟨by omega, by omega⟩ eX8_send_44 (fun c6 => ?_) (fun c6 => ?_)
      · refine am_iload_n eX8_send_57 rfl ?_
        refine am_if_eq ⟨by omega, by omega⟩ eX8_send_58 (fun c7 => ?_) (fun c7 => ?_)
        · refine am_aload_n eX8_send_78 rfl ?_
          refine am_getf eX8_send_79 fX8_11 (en_c8 (m := m) (x := N)) rfl ?_
          refine am_iconst eX8_send_82 ?_
          refine am_aald (kd := 3) (x := am_R (7, 0)) eX8_send_83 (en_c200 (m := m) (x := N)) (by decide) (by decide) (by omega) (by omega) (by decide) (by rw [show ((0 : Int).toNat) = 0 by omega]; exact if_pos (by rw [((congrFun (congrFun hN 3) 0).trans (((sq_mk_f (by decide) _ _).trans (st_nf (by decide))).trans rfl))]; omega)) ?_
          refine am_getf eX8_send_84 fX8_157 (en_c7 (m := m) (x := N) (i := 0) (by rw [((congrFun (congrFun hN 3) 0).trans (((sq_mk_f (by decide) _ _).trans (st_nf (by decide))).trans rfl))]; omega)) rfl ?_
          refine am_astore eX8_send_87 (by decide) ?_
          refine am_aload eX8_send_89 rfl ?_
          refine am_aload_n eX8_send_91 rfl ?_
          refine am_getf eX8_send_92 fX8_36 (en_c8 (m := m) (x := N)) rfl ?_
          refine am_iload eX8_send_95 rfl ?_
          refine am_iload_n eX8_send_97 rfl ?_
          have hw : (2 * 0 + 1) = sp_sw x u := by unfold sp_sw; rw [if_neg (by omega)]; first | (rw [if_pos (by omega)]; done) | (rw [if_neg (by omega)]; omega)
          have n12 : N 12 (2 * 0 + 1) = x 12 (2 * 0 + 1) := ((congrFun (congrFun hN 12) (2 * 0 + 1)).trans (((sq_mk_f (by decide) _ _).trans (st_nf (by decide))).trans rfl))
          have n13 : N 13 (2 * 0 + 1) = x 13 (2 * 0 + 1) := ((congrFun (congrFun hN 13) (2 * 0 + 1)).trans (((sq_mk_f (by decide) _ _).trans (st_nf (by decide))).trans rfl))
          have b12 := wb12 hW (2 * 0 + 1)
          have hUi := hU (2 * 0 + 1)
          refine am_cV eX8_send_98 kX8_160 (c_X0_keepAll (m := m) (x := N) hWN (i := (2 * 0 + 1)) (by rw [((congrFun (congrFun hN 3) 0).trans (((sq_mk_f (by decide) _ _).trans (st_nf (by decide))).trans rfl))]; omega) (by omega) (n := a) (u := r) (by omega) hb_r) rfl rfl (en_c0 (m := m) (x := N) (i := (2 * 0 + 1)) (by rw [((congrFun (congrFun hN 3) 0).trans (((sq_mk_f (by decide) _ _).trans (st_nf (by decide))).trans rfl))]; omega)) (by decide) (by decide) (Nat.le_of_ble_eq_true rfl) (by omega) (by omega) ?_
          obtain ⟨Z, hZ⟩ : ∃ Z, Z = sq_all N (2 * 0 + 1) a r := ⟨_, rfl⟩
          rw [← hZ]
          have hZN : 200 < x 12 (2 * 0 + 1) + a → Z = N := fun z => by rw [hZ]; unfold sq_all; rw [n12, if_pos z]
          have hZ12 : ¬ 200 < x 12 (2 * 0 + 1) + a → Z 12 (2 * 0 + 1) = x 12 (2 * 0 + 1) + a := fun z => by rw [hZ, sq_all_12 (by rw [n12]; exact z), n12]
          obtain ⟨g, hg⟩ : ∃ g, g = aq_all N (2 * 0 + 1) a := ⟨_, rfl⟩
          rw [← hg]
          have qg : (200 < x 12 (2 * 0 + 1) + a ∧ g = 0) ∨ (¬ 200 < x 12 (2 * 0 + 1) + a ∧ g = 1) := by rw [hg]; unfold aq_all; rw [n12]; by_cases z : 200 < x 12 (2 * 0 + 1) + a; exact Or.inl ⟨z, if_pos z⟩; exact Or.inr ⟨z, if_neg z⟩
          refine am_if_ne ⟨by omega, by omega⟩ eX8_send_101 (fun c8 => ?_) (fun c8 => ?_)
          · refine am_aload_n eX8_send_114 rfl ?_
            refine am_iconst eX8_send_115 ?_
            refine am_putf eX8_send_116 fX8_69 rfl (en_c8 (m := m) (x := Z)) (Nat.le_of_ble_eq_true rfl) (Or.inr rfl) (am_heq (cx_begun) ?_)
            refine am_aload eX8_send_119 rfl ?_
            refine am_getf eX8_send_121 fX8_168 (en_c0 (m := m) (x := (st Z 2 0 1)) (i := (2 * 0 + 1)) (by rw [((st_nf (by decide)).trans ((congrFun (congrFun hZ 3) 0).trans ((sq_all_f (by decide)).trans ((congrFun (congrFun hN 3) 0).trans (((sq_mk_f (by decide) _ _).trans (st_nf (by decide))).trans rfl)))))]; omega)) rfl ?_
            refine am_topI (w := (x 12 (2 * 0 + 1) + a)) ((st_nf (by decide)).trans (hZ12 (by omega))) ?_
            refine am_ireturn eX8_send_124 rfl trivial (by omega) (by omega) ?_
            have hz := sd_ok (m := m) hW hw hUi (u := u) (b := b) (r := r) (a := a) (by omega) hb_r (by omega) ha (by omega) (by omega)
            have hk : an_sk x b r = a := by unfold an_sk; rw [if_neg (by omega), sq_mk_st.2.2, ← ha]
            exact tx_ret2 (by rw [hZ, hN]; exact hz.1) hz.2 (by unfold an_send; rw [hk, ← hw, if_neg (by omega), if_neg (by omega)])
          · exact am_throw x_thr2 rfl x_tx166 (by decide) rfl (by simp) eX8_send_104 eX8_send_107 eX8_send_108 eX8_send_110 eX8_send_113 (by omega) (by omega) (tx_thr2 (i := 1) rfl (by rw [hZN (by omega), hN]; exact (sd_thr (by omega) (by omega) (by rw [← ha, ← hw]; omega)).1) (sd_thr (m := m) (by omega) (by omega) (by rw [← ha, ← hw]; omega)).2)
        · refine am_aload_n eX8_send_61 rfl ?_
          refine am_getf eX8_send_62 fX8_11 (en_c8 (m := m) (x := N)) rfl ?_
          refine am_aload_n eX8_send_65 rfl ?_
          refine am_getf eX8_send_66 fX8_66 (en_c8 (m := m) (x := N)) rfl ?_
          refine am_topI (w := x 3 0) ((congrFun (congrFun hN 3) 0).trans (((sq_mk_f (by decide) _ _).trans (st_nf (by decide))).trans rfl)) ?_
          have b9 := wb3 hW 0
          refine am_iconst eX8_send_69 ?_
          refine am_isub eX8_send_70 ?_
          refine am_aald (kd := 3) (x := am_R (7, ((x 3 0).toNat - 1))) eX8_send_71 (en_c200 (m := m) (x := N)) (by decide) (by decide) (by omega) (by omega) (by decide) (by rw [show ((((x 3 0) - 1)).toNat) = ((x 3 0).toNat - 1) by omega]; exact if_pos (by rw [((congrFun (congrFun hN 3) 0).trans (((sq_mk_f (by decide) _ _).trans (st_nf (by decide))).trans rfl))]; omega)) ?_
          refine am_getf eX8_send_72 fX8_153 (en_c7 (m := m) (x := N) (i := ((x 3 0).toNat - 1)) (by rw [((congrFun (congrFun hN 3) 0).trans (((sq_mk_f (by decide) _ _).trans (st_nf (by decide))).trans rfl))]; omega)) rfl ?_
          refine am_goto eX8_send_75 ?_
          refine am_astore eX8_send_87 (by decide) ?_
          refine am_aload eX8_send_89 rfl ?_
          refine am_aload_n eX8_send_91 rfl ?_
          refine am_getf eX8_send_92 fX8_36 (en_c8 (m := m) (x := N)) rfl ?_
          refine am_iload eX8_send_95 rfl ?_
          refine am_iload_n eX8_send_97 rfl ?_
          have hw : (2 * ((x 3 0).toNat - 1)) = sp_sw x u := by unfold sp_sw; rw [if_neg (by omega)]; first | (rw [if_pos (by omega)]; done) | (rw [if_neg (by omega)]; omega)
          have n12 : N 12 (2 * ((x 3 0).toNat - 1)) = x 12 (2 * ((x 3 0).toNat - 1)) := ((congrFun (congrFun hN 12) (2 * ((x 3 0).toNat - 1))).trans (((sq_mk_f (by decide) _ _).trans (st_nf (by decide))).trans rfl))
          have n13 : N 13 (2 * ((x 3 0).toNat - 1)) = x 13 (2 * ((x 3 0).toNat - 1)) := ((congrFun (congrFun hN 13) (2 * ((x 3 0).toNat - 1))).trans (((sq_mk_f (by decide) _ _).trans (st_nf (by decide))).trans rfl))
          have b12 := wb12 hW (2 * ((x 3 0).toNat - 1))
          have hUi := hU (2 * ((x 3 0).toNat - 1))
          refine am_cV eX8_send_98 kX8_160 (c_X0_keepAll (m := m) (x := N) hWN (i := (2 * ((x 3 0).toNat - 1))) (by rw [((congrFun (congrFun hN 3) 0).trans (((sq_mk_f (by decide) _ _).trans (st_nf (by decide))).trans rfl))]; omega) (by omega) (n := a) (u := r) (by omega) hb_r) rfl rfl (en_c0 (m := m) (x := N) (i := (2 * ((x 3 0).toNat - 1))) (by rw [((congrFun (congrFun hN 3) 0).trans (((sq_mk_f (by decide) _ _).trans (st_nf (by decide))).trans rfl))]; omega)) (by decide) (by decide) (Nat.le_of_ble_eq_true rfl) (by omega) (by omega) ?_
          obtain ⟨Z, hZ⟩ : ∃ Z, Z = sq_all N (2 * ((x 3 0).toNat - 1)) a r := ⟨_, rfl⟩
          rw [← hZ]
          have hZN : 200 < x 12 (2 * ((x 3 0).toNat - 1)) + a → Z = N := fun z => by rw [hZ]; unfold sq_all; rw [n12, if_pos z]
          have hZ12 : ¬ 200 < x 12 (2 * ((x 3 0).toNat - 1)) + a → Z 12 (2 * ((x 3 0).toNat - 1)) = x 12 (2 * ((x 3 0).toNat - 1)) + a := fun z => by rw [hZ, sq_all_12 (by rw [n12]; exact z), n12]
          obtain ⟨g, hg⟩ : ∃ g, g = aq_all N (2 * ((x 3 0).toNat - 1)) a := ⟨_, rfl⟩
          rw [← hg]
          have qg : (200 < x 12 (2 * ((x 3 0).toNat - 1)) + a ∧ g = 0) ∨ (¬ 200 < x 12 (2 * ((x 3 0).toNat - 1)) + a ∧ g = 1) := by rw [hg]; unfold aq_all; rw [n12]; by_cases z : 200 < x 12 (2 * ((x 3 0).toNat - 1)) + a; exact Or.inl ⟨z, if_pos z⟩; exact Or.inr ⟨z, if_neg z⟩
          refine am_if_ne ⟨by omega, by omega⟩ eX8_send_101 (fun c10 => ?_) (fun c10 => ?_)
          · refine am_aload_n eX8_send_114 rfl ?_
            refine am_iconst eX8_send_115 ?_
            refine am_putf eX8_send_116 fX8_69 rfl (en_c8 (m := m) (x := Z)) (Nat.le_of_ble_eq_true rfl) (Or.inr rfl) (am_heq (cx_begun) ?_)
            refine am_aload eX8_send_119 rfl ?_
            refine am_getf eX8_send_121 fX8_168 (en_c0 (m := m) (x := (st Z 2 0 1)) (i := (2 * ((x 3 0).toNat - 1))) (by rw [((st_nf (by decide)).trans ((congrFun (congrFun hZ 3) 0).trans ((sq_all_f (by decide)).trans ((congrFun (congrFun hN 3) 0).trans (((sq_mk_f (by decide) _ _).trans (st_nf (by decide))).trans rfl)))))]; omega)) rfl ?_
            refine am_topI (w := (x 12 (2 * ((x 3 0).toNat - 1)) + a)) ((st_nf (by decide)).trans (hZ12 (by omega))) ?_
            refine am_ireturn eX8_send_124 rfl trivial (by omega) (by omega) ?_
            have hz := sd_ok (m := m) hW hw hUi (u := u) (b := b) (r := r) (a := a) (by omega) hb_r (by omega) ha (by omega) (by omega)
            have hk : an_sk x b r = a := by unfold an_sk; rw [if_neg (by omega), sq_mk_st.2.2, ← ha]
            exact tx_ret2 (by rw [hZ, hN]; exact hz.1) hz.2 (by unfold an_send; rw [hk, ← hw, if_neg (by omega), if_neg (by omega)])
          · exact am_throw x_thr2 rfl x_tx166 (by decide) rfl (by simp) eX8_send_104 eX8_send_107 eX8_send_108 eX8_send_110 eX8_send_113 (by omega) (by omega) (tx_thr2 (i := 1) rfl (by rw [hZN (by omega), hN]; exact (sd_thr (by omega) (by omega) (by rw [← ha, ← hw]; omega)).1) (sd_thr (m := m) (by omega) (by omega) (by rw [← ha, ← hw]; omega)).2)
      · exact am_throw x_thr2 rfl x_tx151 (by decide) rfl (by simp) eX8_send_47 eX8_send_50 eX8_send_51 eX8_send_53 eX8_send_56 (by omega) (by omega) (tx_thr2 (i := 1) rfl (by rw [hN]; exact (sd_thr (by omega) (by omega) (by rw [← ha]; omega)).1) (sd_thr (m := m) (by omega) (by omega) (by rw [← ha]; omega)).2)
    · exact am_throw x_thr2 rfl x_tx145 (by decide) rfl (by simp) eX8_send_22 eX8_send_25 eX8_send_26 eX8_send_28 eX8_send_31 (by omega) (by omega) (tx_thr2 (i := 1) rfl (by rw [hy]; exact (sd_no (by omega) (by omega)).1) (sd_no (m := m) (by omega) (by omega)).2)

