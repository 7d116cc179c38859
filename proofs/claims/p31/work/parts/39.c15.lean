/-- a face method's end: thrown the code c (0: none) by the list of exceptions, or the answer a -/
def am_tx (es : List Nat) (c a : Int) (h1 : am_AH) : am_Re → am_AH → Prop := fun r h' => h' = h1 ∧ ((c = 0 ∧ r = .inl (some (am_I a))) ∨ ∃ i e : Nat, es[i]? = some e ∧ c = (i : Int) + 1 ∧ r = .inr e)
theorem tx_ret {es : List Nat} {m s y : sg_S} {a v : Int} (h : y = s) (h0 : s 0 0 = 0) (hv : v = a) : am_tx es (s 0 0) a (en_h m s) (.inl (some (am_I v))) (en_h m y) := by
  subst h; subst hv
  exact ⟨rfl, Or.inl ⟨h0, rfl⟩⟩
theorem tx_thr {es : List Nat} {m x s y : sg_S} {a c : Int} {i e : Nat} (hi : es[i]? = some e) (hc : c = (i : Int) + 1) (hy : y = st x 0 0 0) (hs : s = st x 0 0 c) : am_tx es (s 0 0) a (en_h m s) (.inr e) (en_h m y) := by
  subst hy; subst hs
  exact ⟨by rw [cx_no (Or.inl rfl), cx_no (Or.inl rfl)], Or.inr ⟨i, e, hi, by rw [st_eq]; exact hc, rfl⟩⟩
section AmCT
variable {G : am_G} {X : am_X} {Y : am_Y} {d mc ms : Nat} {Q : am_Re → am_AH → Prop} {pc q t : Nat} {ls : List (Option am_AV)} {st : List am_AV} {h h1 h2 : am_AH} {k n : Nat}
variable {idx ci na d' mc' ms' nL' e9 : Nat} {y : MethodName} {bytes : ByteArray} {ret : Option FieldType} {as fs st0 : List am_AV} {nm : am_Nm} {P : Prop} {v : am_AV}
theorem am_cT (hd : am_d Y.1 pc (.invokevirtual idx) 3 q) (hw : am_mv_ Y.2.2.1 idx ci y na (.code y bytes nL' ret)) (hC : am_Con G y (.code y bytes nL' ret) d' mc' ms' (am_R nm :: as) h (am_if P v h1 e9 h2)) (hst0 : st0 = as.reverse ++ am_R nm :: st) (hna : as.length = na) (hh : h nm = some (am_O ci fs)) (hdd : d' + 1 ≤ d) (hnL : nL' ≤ 17) (hst : st.length ≤ 4) (hk : k + mc' ≤ mc) (hn : n + ms' ≤ ms) (hhh : Y.2.2.2.2.2 = [])
    (kx : ¬ P → Q (.inr e9) h2) (kk : P → am_W G X Y d mc ms (am_end G X mc ms Q) q ls (v :: st) h1 (k + mc') (n + ms')) : am_W G X Y d mc ms (am_end G X mc ms Q) pc ls st0 h k n :=
  am_callV hd hw hC hst0 hna hh hdd hnL hst hk hn
    (fun r h' hq => by
      rcases hq with ⟨p, e1, rfl⟩ | ⟨p, e1, rfl⟩
      · cases e1; exact kk p
      · cases e1)
    (fun x h' hq => by
      rcases hq with ⟨p, e1, rfl⟩ | ⟨p, e1, rfl⟩
      · cases e1
      · cases e1; exact am_out hhh hk hn (kx p))
end AmCT
set_option maxRecDepth 100000 in
set_option maxHeartbeats 4000000 in
theorem c_X8_air {G : am_G} {m x : sg_S} {T : Int} (hW : md_wb T x) {s a : Int} (hr_s : -2147483648 ≤ s ∧ s < 2147483648) (hr_a : -2147483648 ≤ a ∧ a < 2147483648)   : am_Con G yX8_air wX8_air 7 4 24 [am_R (8, 0), am_I s, am_I a] (en_h m x) (am_tx [0, 1] (sp_air x s a 0 0) (an_air x s a) (en_h m (sp_air x s a))) := by
  refine am_of2 (Y := mX8_air) (by decide +kernel) rfl (fun z => by cases z) rfl rfl (Nat.le_of_ble_eq_true rfl) fun X => ?_
  have b3 := wb3 hW 0
  obtain ⟨y, hy⟩ : ∃ z, z = st x 0 0 0 := ⟨_, rfl⟩
  refine am_heq (h' := en_h m y) (by rw [hy]; exact (cx_no (Or.inl rfl)).symm) ?_
  have hWy : md_wb T y := by rw [hy]; exact wb_st hW (by show (0 : Int) ≤ _; decide) (by show _ ≤ (3 : Int); decide)
  refine am_aload_n eX8_air_0 rfl ?_
  refine am_iload_n eX8_air_1 rfl ?_
  refine am_cT eX8_air_2 kX8_82 (c_X8_stretchAt (m := m) (x := y) (T := T) hWy (a := s) ⟨by omega, by omega⟩) rfl rfl (en_c8 (m := m) (x := y)) (by decide) (by decide) (Nat.le_of_ble_eq_true rfl) (by omega) (by omega) rfl (fun hp => (tx_thr (i := 0) rfl rfl hy (by rw [((congrFun (congrFun hy 3) 0).trans ((st_nf (by decide)).trans rfl))] at hp; unfold sp_air; (try simp only [if_true, if_false, Int.toNat_zero, Int.toNat_one, show ¬ (1 : Int) = 0 by decide]); (repeat' split) <;> first | rfl | (exfalso; omega)))) (fun hp => ?_)
  rw [((congrFun (congrFun hy 3) 0).trans ((st_nf (by decide)).trans rfl))] at hp
  have hp1 := hp
  refine am_astore_n eX8_air_5 (by decide) ?_
  refine am_iload_n eX8_air_6 rfl ?_
  refine am_iconst eX8_air_7 ?_
  refine am_iconst eX8_air_8 ?_
  refine am_cS eX8_air_9 kX8_55 (c_X8_isOutside (v := a) (lo := 0) (hi := 2) ⟨by omega, by omega⟩ ⟨by omega, by omega⟩ ⟨by omega, by omega⟩) rfl rfl (by decide) (by decide) (Nat.le_of_ble_eq_true rfl) (by omega) (by omega) ?_
  refine am_bz_eq eX8_air_12 (fun c2 => ?_) (fun c2 => ?_)
  · refine am_aload_n eX8_air_25 rfl ?_
    refine am_getf eX8_air_26 fX8_102 (en_c5 (m := m) (x := y) (i := s.toNat) (by rw [((congrFun (congrFun hy 3) 0).trans ((st_nf (by decide)).trans rfl))]; omega)) rfl ?_
    refine am_topI (w := x 7 s.toNat) ((congrFun (congrFun hy 7) s.toNat).trans ((st_nf (by decide)).trans rfl)) ?_
    have b3 := wb7 hW s.toNat
    refine am_istore eX8_air_29 (by decide) ?_
    refine am_aload_n eX8_air_31 rfl ?_
    refine am_iload_n eX8_air_32 rfl ?_
    refine am_putf eX8_air_33 fX8_102 rfl (en_c5 (m := m) (x := y) (i := s.toNat) (by rw [((congrFun (congrFun hy 3) 0).trans ((st_nf (by decide)).trans rfl))]; omega)) (Nat.le_of_ble_eq_true rfl) trivial (am_heq (cx_weather (by rw [((congrFun (congrFun hy 3) 0).trans ((st_nf (by decide)).trans rfl))]; omega)) ?_)
    refine am_iload eX8_air_36 rfl ?_
    refine am_ireturn eX8_air_38 rfl trivial (by omega) (by omega) ?_
    exact tx_ret (by rw [hy]; unfold sp_air; (try simp only [if_true, if_false, Int.toNat_zero, Int.toNat_one, show ¬ (1 : Int) = 0 by decide]); (repeat' split) <;> first | rfl | (exfalso; omega)) (by unfold sp_air; (try simp only [if_true, if_false, Int.toNat_zero, Int.toNat_one, show ¬ (1 : Int) = 0 by decide]); (repeat' split) <;> first | (simp [st]; done) | rfl | (exfalso; omega)) (by unfold an_air; (try simp only [if_true, if_false, Int.toNat_zero, Int.toNat_one, show ¬ (1 : Int) = 0 by decide]); (repeat' split) <;> first | rfl | omega)
  · exact am_throw x_thr1 rfl x_tx100 (by decide) rfl (by simp) eX8_air_15 eX8_air_18 eX8_air_19 eX8_air_21 eX8_air_24 (by omega) (by omega) (tx_thr (i := 1) rfl rfl hy (by unfold sp_air; (try simp only [if_true, if_false, Int.toNat_zero, Int.toNat_one, show ¬ (1 : Int) = 0 by decide]); (repeat' split) <;> first | rfl | (exfalso; omega)))
set_option maxRecDepth 100000 in
set_option maxHeartbeats 4000000 in
theorem c_X8_type {G : am_G} {m x : sg_S} {T : Int} (hW : md_wb T x) {a : Int} (hr_a : -2147483648 ≤ a ∧ a < 2147483648)   : am_Con G yX8_type wX8_type 7 4 24 [am_R (8, 0), am_I a] (en_h m x) (am_tx [1, 2] (sp_type x a 0 0) (an_type x a) (en_h m (sp_type x a))) := by
  refine am_of2 (Y := mX8_type) (by decide +kernel) rfl (fun z => by cases z) rfl rfl (Nat.le_of_ble_eq_true rfl) fun X => ?_
  have b3 := wb3 hW 0
  have b24 := wb24 hW 0
  obtain ⟨y, hy⟩ : ∃ z, z = st x 0 0 0 := ⟨_, rfl⟩
  refine am_heq (h' := en_h m y) (by rw [hy]; exact (cx_no (Or.inl rfl)).symm) ?_
  have hWy : md_wb T y := by rw [hy]; exact wb_st hW (by show (0 : Int) ≤ _; decide) (by show _ ≤ (3 : Int); decide)
  refine am_iload_n eX8_type_0 rfl ?_
  refine am_iconst eX8_type_1 ?_
  refine am_sipush eX8_type_2 (by decide) ?_
  refine am_cS eX8_type_5 kX8_55 (c_X8_isOutside (v := a) (lo := 0) (hi := 9999) ⟨by omega, by omega⟩ ⟨by omega, by omega⟩ ⟨by omega, by omega⟩) rfl rfl (by decide) (by decide) (Nat.le_of_ble_eq_true rfl) (by omega) (by omega) ?_
  refine am_bz_eq eX8_type_8 (fun c1 => ?_) (fun c1 => ?_)
  · refine am_aload_n eX8_type_21 rfl ?_
    refine am_getf eX8_type_22 fX8_140 (en_c8 (m := m) (x := y)) rfl ?_
    refine am_topI (w := x 24 0) ((congrFun (congrFun hy 24) 0).trans ((st_nf (by decide)).trans rfl)) ?_
    have b2 := wb24 hW 0
    refine am_bipush eX8_type_25 (by decide) ?_
    refine am_icmp_lt ⟨by omega, by omega⟩ ⟨by omega, by omega⟩ eX8_type_27 (fun c3 => ?_) (fun c3 => ?_)
    · refine am_aload_n eX8_type_40 rfl ?_
      refine am_getf eX8_type_41 fX8_32 (en_c8 (m := m) (x := y)) rfl ?_
      refine am_aload_n eX8_type_44 rfl ?_
      refine am_getf eX8_type_45 fX8_140 (en_c8 (m := m) (x := y)) rfl ?_
      refine am_topI (w := x 24 0) ((congrFun (congrFun hy 24) 0).trans ((st_nf (by decide)).trans rfl)) ?_
      have b4 := wb24 hW 0
      refine am_iload_n eX8_type_48 rfl ?_
      refine cx_astp (j := (x 24 0).toNat) eX8_type_49 (en_c203 (m := m) (x := y)) (by omega) (by decide) (by omega) (am_heq cx_text ?_)
      refine am_aload_n eX8_type_50 rfl ?_
      refine am_dup (by simp) eX8_type_51 ?_
      refine am_getf eX8_type_52 fX8_140 (en_c8 (m := m) (x := (st y 25 ((x 24 0).toNat) a))) rfl ?_
      refine am_topI (w := x 24 0) ((st_nf (by decide)).trans ((congrFun (congrFun hy 24) 0).trans ((st_nf (by decide)).trans rfl))) ?_
      have b5 := wb24 hW 0
      refine am_iconst eX8_type_55 ?_
      refine am_iadd eX8_type_56 ?_
      refine am_putf eX8_type_57 fX8_140 rfl (en_c8 (m := m) (x := (st y 25 ((x 24 0).toNat) a))) (Nat.le_of_ble_eq_true rfl) trivial (am_heq (cx_typed) ?_)
      refine am_aload_n eX8_type_60 rfl ?_
      refine am_getf eX8_type_61 fX8_140 (en_c8 (m := m) (x := (st (st y 25 ((x 24 0).toNat) a) 24 0 ((x 24 0) + 1)))) rfl ?_
      refine am_topI (w := ((x 24 0) + 1)) st_eq ?_
      refine am_ireturn eX8_type_64 rfl trivial (by omega) (by omega) ?_
      exact tx_ret (by rw [hy]; unfold sp_type; (try simp only [if_true, if_false, Int.toNat_zero, Int.toNat_one, show ¬ (1 : Int) = 0 by decide]); (repeat' split) <;> first | rfl | (exfalso; omega)) (by unfold sp_type; (try simp only [if_true, if_false, Int.toNat_zero, Int.toNat_one, show ¬ (1 : Int) = 0 by decide]); (repeat' split) <;> first | (simp [st]; done) | rfl | (exfalso; omega)) (by unfold an_type; (try simp only [if_true, if_false, Int.toNat_zero, Int.toNat_one, show ¬ (1 : Int) = 0 by decide]); (repeat' split) <;> first | rfl | omega)
    · exact am_throw x_thr2 rfl x_tx143 (by decide) rfl (by simp) eX8_type_30 eX8_type_33 eX8_type_34 eX8_type_36 eX8_type_39 (by omega) (by omega) (tx_thr (i := 1) rfl rfl hy (by unfold sp_type; (try simp only [if_true, if_false, Int.toNat_zero, Int.toNat_one, show ¬ (1 : Int) = 0 by decide]); (repeat' split) <;> first | rfl | (exfalso; omega)))
  · exact am_throw x_thr1 rfl x_tx138 (by decide) rfl (by simp) eX8_type_11 eX8_type_14 eX8_type_15 eX8_type_17 eX8_type_20 (by omega) (by omega) (tx_thr (i := 0) rfl rfl hy (by unfold sp_type; (try simp only [if_true, if_false, Int.toNat_zero, Int.toNat_one, show ¬ (1 : Int) = 0 by decide]); (repeat' split) <;> first | rfl | (exfalso; omega)))
set_option maxRecDepth 100000 in
set_option maxHeartbeats 4000000 in
theorem c_X8_clear {G : am_G} {m x : sg_S} {T : Int} (hW : md_wb T x)    : am_Con G yX8_clear wX8_clear 7 0 0 [am_R (8, 0)] (en_h m x) (am_is (am_I (an_clear x )) (en_h m (sp_clear x ))) := by
  refine am_of2 (Y := mX8_clear) (by decide +kernel) rfl (fun z => by cases z) rfl rfl (Nat.le_of_ble_eq_true rfl) fun X => ?_
  have b3 := wb3 hW 0
  obtain ⟨y, hy⟩ : ∃ z, z = st x 0 0 0 := ⟨_, rfl⟩
  refine am_heq (h' := en_h m y) (by rw [hy]; exact (cx_no (Or.inl rfl)).symm) ?_
  have hWy : md_wb T y := by rw [hy]; exact wb_st hW (by show (0 : Int) ≤ _; decide) (by show _ ≤ (3 : Int); decide)
  refine am_aload_n eX8_clear_0 rfl ?_
  refine am_getf eX8_clear_1 fX8_140 (en_c8 (m := m) (x := y)) rfl ?_
  refine am_topI (w := x 24 0) ((congrFun (congrFun hy 24) 0).trans ((st_nf (by decide)).trans rfl)) ?_
  have b1 := wb24 hW 0
  refine am_istore_n eX8_clear_4 (by decide) ?_
  refine am_aload_n eX8_clear_5 rfl ?_
  refine am_iconst eX8_clear_6 ?_
  refine am_putf eX8_clear_7 fX8_140 rfl (en_c8 (m := m) (x := y)) (Nat.le_of_ble_eq_true rfl) trivial (am_heq (cx_typed) ?_)
  refine am_iload_n eX8_clear_10 rfl ?_
  refine am_ireturn eX8_clear_11 rfl trivial (Nat.zero_le _) (Nat.zero_le _) ?_
  exact cx_is (by unfold an_clear; first | rfl | omega) (by rw [hy]; unfold sp_clear; rfl)
set_option maxRecDepth 100000 in
set_option maxHeartbeats 4000000 in
theorem c_X8_keeps {G : am_G} {m x : sg_S} {T : Int} (hW : md_wb T x) {t u p : Int} (hr_t : -2147483648 ≤ t ∧ t < 2147483648) (hr_p : -2147483648 ≤ p ∧ p < 2147483648) (hb_u : u = 0 ∨ u = 1)  : am_Con G yX8_keeps wX8_keeps 7 4 24 [am_R (8, 0), am_I t, am_I u, am_I p] (en_h m x) (am_tx [0] (sp_keeps x t u p 0 0) (an_keeps x t u p) (en_h m (sp_keeps x t u p))) := by
  refine am_of2 (Y := mX8_keeps) (by decide +kernel) rfl (fun z => by cases z) rfl rfl (Nat.le_of_ble_eq_true rfl) fun X => ?_
  have b3 := wb3 hW 0
  have b12 := wb12 hW (2 * t.toNat + u.toNat)
  obtain ⟨y, hy⟩ : ∃ z, z = st x 0 0 0 := ⟨_, rfl⟩
  refine am_heq (h' := en_h m y) (by rw [hy]; exact (cx_no (Or.inl rfl)).symm) ?_
  have hWy : md_wb T y := by rw [hy]; exact wb_st hW (by show (0 : Int) ≤ _; decide) (by show _ ≤ (3 : Int); decide)
  refine am_aload_n eX8_keeps_0 rfl ?_
  refine am_iload_n eX8_keeps_1 rfl ?_
  refine am_cT eX8_keeps_2 kX8_105 (c_X8_towerAt (m := m) (x := y) (T := T) hWy (a := t) ⟨by omega, by omega⟩) rfl rfl (en_c8 (m := m) (x := y)) (by decide) (by decide) (Nat.le_of_ble_eq_true rfl) (by omega) (by omega) rfl (fun hp => (tx_thr (i := 0) rfl rfl hy (by rw [((congrFun (congrFun hy 3) 0).trans ((st_nf (by decide)).trans rfl))] at hp; unfold sp_keeps; (try simp only [if_true, if_false, Int.toNat_zero, Int.toNat_one, show ¬ (1 : Int) = 0 by decide]); (repeat' split) <;> first | rfl | (exfalso; omega)))) (fun hp => ?_)
  rw [((congrFun (congrFun hy 3) 0).trans ((st_nf (by decide)).trans rfl))] at hp
  have hp1 := hp
  refine am_iload_n eX8_keeps_5 rfl ?_
  refine am_cV eX8_keeps_6 kX8_171 (c_X7_armFor (m := m) (x := y) (T := T) hWy (i := t.toNat) (by rw [((congrFun (congrFun hy 3) 0).trans ((st_nf (by decide)).trans rfl))]; omega) (u := u) (by omega)) rfl rfl (en_c7 (m := m) (x := y) (i := t.toNat) (by rw [((congrFun (congrFun hy 3) 0).trans ((st_nf (by decide)).trans rfl))]; omega)) (by decide) (by decide) (Nat.le_of_ble_eq_true rfl) (by omega) (by omega) ?_
  refine am_astore eX8_keeps_9 (by decide) ?_
  refine am_iload_n eX8_keeps_11 rfl ?_
  refine am_if_ge ⟨by omega, by omega⟩ eX8_keeps_12 (fun c2 => ?_) (fun c2 => ?_)
  · refine am_iload_n eX8_keeps_25 rfl ?_
    refine am_aload eX8_keeps_26 rfl ?_
    refine am_getf eX8_keeps_28 fX8_168 (en_c0 (m := m) (x := y) (i := (2 * t.toNat + u.toNat)) (by rw [((congrFun (congrFun hy 3) 0).trans ((st_nf (by decide)).trans rfl))]; omega)) rfl ?_
    refine am_topI (w := x 12 (2 * t.toNat + u.toNat)) ((congrFun (congrFun hy 12) (2 * t.toNat + u.toNat)).trans ((st_nf (by decide)).trans rfl)) ?_
    have b3 := wb12 hW (2 * t.toNat + u.toNat)
    refine am_icmp_ge ⟨by omega, by omega⟩ ⟨by omega, by omega⟩ eX8_keeps_31 (fun c4 => ?_) (fun c4 => ?_)
    · refine am_iconst eX8_keeps_44 ?_
      refine am_ireturn eX8_keeps_45 rfl trivial (by omega) (by omega) ?_
      exact tx_ret (by rw [hy]; unfold sp_keeps; (try simp only [if_true, if_false, Int.toNat_zero, Int.toNat_one, show ¬ (1 : Int) = 0 by decide]); (repeat' split) <;> first | rfl | (exfalso; omega)) (by unfold sp_keeps; (try simp only [if_true, if_false, Int.toNat_zero, Int.toNat_one, show ¬ (1 : Int) = 0 by decide]); (repeat' split) <;> first | (simp [st]; done) | rfl | (exfalso; omega)) (by unfold an_keeps; (try simp only [if_true, if_false, Int.toNat_zero, Int.toNat_one, show ¬ (1 : Int) = 0 by decide]); (repeat' split) <;> first | rfl | omega)
    · refine am_aload eX8_keeps_34 rfl ?_
      refine am_getf eX8_keeps_36 fX8_217 (en_c0 (m := m) (x := y) (i := (2 * t.toNat + u.toNat)) (by rw [((congrFun (congrFun hy 3) 0).trans ((st_nf (by decide)).trans rfl))]; omega)) rfl ?_
      refine am_iload_n eX8_keeps_39 rfl ?_
      refine cx_ald (j := p.toNat) (v := x 14 (220 * (2 * t.toNat + u.toNat) + p.toNat)) eX8_keeps_40 (en_c210 (m := m) (x := y) (i := (2 * t.toNat + u.toNat)) (by rw [((congrFun (congrFun hy 3) 0).trans ((st_nf (by decide)).trans rfl))]; omega)) (by omega) (by decide) (by omega) ((congrFun (congrFun hy 14) (220 * (2 * t.toNat + u.toNat) + p.toNat)).trans ((st_nf (by decide)).trans rfl)) ?_
      have b5 := wb14 hW (220 * (2 * t.toNat + u.toNat) + p.toNat)
      refine am_goto eX8_keeps_41 ?_
      refine am_ireturn eX8_keeps_45 rfl trivial (by omega) (by omega) ?_
      exact tx_ret (by rw [hy]; unfold sp_keeps; (try simp only [if_true, if_false, Int.toNat_zero, Int.toNat_one, show ¬ (1 : Int) = 0 by decide]); (repeat' split) <;> first | rfl | (exfalso; omega)) (by unfold sp_keeps; (try simp only [if_true, if_false, Int.toNat_zero, Int.toNat_one, show ¬ (1 : Int) = 0 by decide]); (repeat' split) <;> first | (simp [st]; done) | rfl | (exfalso; omega)) (by unfold an_keeps; (try simp only [if_true, if_false, Int.toNat_zero, Int.toNat_one, show ¬ (1 : Int) = 0 by decide]); (repeat' split) <;> first | rfl | omega)
  · exact am_throw x_thr0 rfl x_tx214 (by decide) rfl (by simp) eX8_keeps_15 eX8_keeps_18 eX8_keeps_19 eX8_keeps_21 eX8_keeps_24 (by omega) (by omega) (tx_thr (i := 0) rfl rfl hy (by unfold sp_keeps; (try simp only [if_true, if_false, Int.toNat_zero, Int.toNat_one, show ¬ (1 : Int) = 0 by decide]); (repeat' split) <;> first | rfl | (exfalso; omega)))
set_option maxRecDepth 100000 in
set_option maxHeartbeats 4000000 in
theorem c_X8_logs {G : am_G} {m x : sg_S} {T : Int} (hW : md_wb T x) {t u : Int} (hr_t : -2147483648 ≤ t ∧ t < 2147483648) (hb_u : u = 0 ∨ u = 1)  : am_Con G yX8_logs wX8_logs 7 4 24 [am_R (8, 0), am_I t, am_I u] (en_h m x) (am_tx [0] (sp_logs x t u 0 0) (an_logs x t u) (en_h m (sp_logs x t u))) := by
  refine am_of2 (Y := mX8_logs) (by decide +kernel) rfl (fun z => by cases z) rfl rfl (Nat.le_of_ble_eq_true rfl) fun X => ?_
  have b3 := wb3 hW 0
  obtain ⟨y, hy⟩ : ∃ z, z = st x 0 0 0 := ⟨_, rfl⟩
  refine am_heq (h' := en_h m y) (by rw [hy]; exact (cx_no (Or.inl rfl)).symm) ?_
  have hWy : md_wb T y := by rw [hy]; exact wb_st hW (by show (0 : Int) ≤ _; decide) (by show _ ≤ (3 : Int); decide)
  refine am_aload_n eX8_logs_0 rfl ?_
  refine am_iload_n eX8_logs_1 rfl ?_
  refine am_cT eX8_logs_2 kX8_105 (c_X8_towerAt (m := m) (x := y) (T := T) hWy (a := t) ⟨by omega, by omega⟩) rfl rfl (en_c8 (m := m) (x := y)) (by decide) (by decide) (Nat.le_of_ble_eq_true rfl) (by omega) (by omega) rfl (fun hp => (tx_thr (i := 0) rfl rfl hy (by rw [((congrFun (congrFun hy 3) 0).trans ((st_nf (by decide)).trans rfl))] at hp; unfold sp_logs; (try simp only [if_true, if_false, Int.toNat_zero, Int.toNat_one, show ¬ (1 : Int) = 0 by decide]); (repeat' split) <;> first | rfl | (exfalso; omega)))) (fun hp => ?_)
  rw [((congrFun (congrFun hy 3) 0).trans ((st_nf (by decide)).trans rfl))] at hp
  have hp1 := hp
  refine am_iload_n eX8_logs_5 rfl ?_
  refine am_cV eX8_logs_6 kX8_171 (c_X7_armFor (m := m) (x := y) (T := T) hWy (i := t.toNat) (by rw [((congrFun (congrFun hy 3) 0).trans ((st_nf (by decide)).trans rfl))]; omega) (u := u) (by omega)) rfl rfl (en_c7 (m := m) (x := y) (i := t.toNat) (by rw [((congrFun (congrFun hy 3) 0).trans ((st_nf (by decide)).trans rfl))]; omega)) (by decide) (by decide) (Nat.le_of_ble_eq_true rfl) (by omega) (by omega) ?_
  refine am_getf eX8_logs_9 fX8_185 (en_c0 (m := m) (x := y) (i := (2 * t.toNat + u.toNat)) (by rw [((congrFun (congrFun hy 3) 0).trans ((st_nf (by decide)).trans rfl))]; omega)) rfl ?_
  refine am_getf eX8_logs_12 fX8_220 (en_c3 (m := m) (x := y) (i := (2 * t.toNat + u.toNat)) (by rw [((congrFun (congrFun hy 3) 0).trans ((st_nf (by decide)).trans rfl))]; omega)) rfl ?_
  refine am_topI (w := x 17 (2 * t.toNat + u.toNat)) ((congrFun (congrFun hy 17) (2 * t.toNat + u.toNat)).trans ((st_nf (by decide)).trans rfl)) ?_
  have b2 := wb17 hW (2 * t.toNat + u.toNat)
  refine am_ireturn eX8_logs_15 rfl trivial (by omega) (by omega) ?_
  exact tx_ret (by rw [hy]; unfold sp_logs; (try simp only [if_true, if_false, Int.toNat_zero, Int.toNat_one, show ¬ (1 : Int) = 0 by decide]); (repeat' split) <;> first | rfl | (exfalso; omega)) (by unfold sp_logs; (try simp only [if_true, if_false, Int.toNat_zero, Int.toNat_one, show ¬ (1 : Int) = 0 by decide]); (repeat' split) <;> first | (simp [st]; done) | rfl | (exfalso; omega)) (by unfold an_logs; (try simp only [if_true, if_false, Int.toNat_zero, Int.toNat_one, show ¬ (1 : Int) = 0 by decide]); (repeat' split) <;> first | rfl | omega)
