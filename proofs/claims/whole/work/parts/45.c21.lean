theorem en_n4 {m x : sg_S} {i : Nat} (h : x 39 0 = (i : Int)) : en_h m x (4, i) = none := by
  show (if _ then some _ else none) = _
  rw [if_neg (by omega)]
theorem en_n220 {m x : sg_S} {i : Nat} (h : x 39 0 = (i : Int)) : en_h m x (220, i) = none := by
  show (if _ then some _ else none) = _
  rw [if_neg (by omega)]
theorem cx_spy {m y : sg_S} {n : Nat} {t : Int} (e39 : y 39 0 = (n : Int)) (hZ : y 41 n = 0 ∧ ∀ z, z < 200 → y 42 (200 * n + z) = 0) : (am_up (am_up (am_up (am_up (en_h m y) (4, n) (am_O 4 [am_I t, am_R (220, n), am_I 0])) (220, n) (am_A 0 200 (fun _ => am_I 0))) (205, 0) (am_A 6 6 (am_uf (fun z => if (z : Int) < y 39 0 then am_R (4, z) else am_N) ((y 39 0)).toNat (am_R (4, n))))) (8, 0) (am_O 8 [am_R (200, 0), am_R (201, 0), am_I (y 3 0), am_I (y 2 0), am_I (y 1 0), am_I (y 11 0), am_R (202, 0), am_R (203, 0), am_I (y 24 0), am_R (204, 0), am_R (6, 1), am_R (6, 0), am_R (205, 0), am_I ((y 39 0) + 1)])) = en_h m (st (st y 40 n t) 39 0 (y 39 0 + 1)) := by
  have e : ∀ f j, f ≠ 39 → f ≠ 40 → (st (st y 40 n t) 39 0 (y 39 0 + 1)) f j = y f j := fun f j h1 h2 => by rw [st_nf h1, st_nf h2]
  have e9 : (st (st y 40 n t) 39 0 (y 39 0 + 1)) 39 0 = y 39 0 + 1 := st_eq
  have e0 : ∀ i, (st (st y 40 n t) 39 0 (y 39 0 + 1)) 40 i = if i = n then t else y 40 i := fun i => by simp [st]
  refine cx_ofL [((4, n), _), ((220, n), _), ((205, 0), _), ((8, 0), _)] (e 49 0 (by decide) (by decide)) (fun p hp => ?_) (fun k i hh => ?_)
  · simp only [List.mem_cons, List.not_mem_nil, or_false] at hp
    rcases hp with rfl | rfl | rfl | rfl
    · refine ⟨cx_k4, ?_⟩
      simp only [en_x, e9, e0]
      rw [if_pos (by omega), if_pos trivial, e 41 n (by decide) (by decide), hZ.1]
    · refine ⟨cx_k220, ?_⟩
      simp only [en_x, e9]
      rw [if_pos (by omega)]
      refine congrArg some (congrArg (am_A 0 200) (funext fun z => congrArg am_I ?_))
      simp only [tr]
      split
      · rename_i hz
        rw [e 42 _ (by decide) (by decide), hZ.2 z hz]
      · rfl
    · refine ⟨cx_k205, ?_⟩
      simp only [en_x, e9, if_true]
      refine congrArg some (congrArg (am_A 6 6) (funext fun z => ?_))
      simp only [am_uf]
      by_cases c : z = n
      · rw [if_pos (by omega), if_pos (by omega), c]
      · rw [if_neg (show ¬ z = (y 39 0).toNat by omega)]
        by_cases c2 : (z : Int) < y 39 0
        · rw [if_pos c2, if_pos (by omega)]
        · rw [if_neg c2, if_neg (by omega)]
    · refine ⟨cx_k8, ?_⟩
      simp only [en_x, e9, if_true, e _ _ (show (3 : Nat) ≠ 39 by decide) (show (3 : Nat) ≠ 40 by decide), e _ _ (show (2 : Nat) ≠ 39 by decide) (show (2 : Nat) ≠ 40 by decide), e _ _ (show (1 : Nat) ≠ 39 by decide) (show (1 : Nat) ≠ 40 by decide), e _ _ (show (11 : Nat) ≠ 39 by decide) (show (11 : Nat) ≠ 40 by decide), e _ _ (show (24 : Nat) ≠ 39 by decide) (show (24 : Nat) ≠ 40 by decide)]
  · have n8 : k = 8 → ¬ i = 0 := fun z1 z => hh _ (List.mem_cons_of_mem _ (List.mem_cons_of_mem _ (List.mem_cons_of_mem _ List.mem_cons_self))) (by rw [z, z1])
    have n205 : k = 205 → ¬ i = 0 := fun z1 z => hh _ (List.mem_cons_of_mem _ (List.mem_cons_of_mem _ List.mem_cons_self)) (by rw [z, z1])
    have n4 : k = 4 → ¬ i = n := fun z1 z => hh _ List.mem_cons_self (by rw [z, z1])
    have n220 : k = 220 → ¬ i = n := fun z1 z => hh _ (List.mem_cons_of_mem _ List.mem_cons_self) (by rw [z, z1])
    unfold en_x
    split <;> first
      | rfl
      | (simp (disch := decide) only [e]; done)
      | (rw [if_neg (n8 rfl), if_neg (n8 rfl)]; done)
      | (rw [if_neg (n205 rfl), if_neg (n205 rfl)]; done)
      | skip
    · have hj := n4 rfl
      rw [e9, e0, if_neg hj, e 41 i (by decide) (by decide)]
      by_cases c : (i : Int) < y 39 0
      · rw [if_pos c, if_pos (by omega)]
      · rw [if_neg c, if_neg (by omega)]
    · have hj := n220 rfl
      rw [e9]
      by_cases c : (i : Int) < y 39 0
      · rw [if_pos c, if_pos (by omega)]
        refine congrArg some (congrArg (am_A 0 200) (funext fun z => congrArg am_I ?_))
        simp only [tr]
        split
        · rw [e 42 _ (by decide) (by decide)]
        · rfl
      · rw [if_neg c, if_neg (by omega)]
set_option maxRecDepth 100000 in
set_option maxHeartbeats 4000000 in
theorem c_X8_spy {G : am_G} {m x : sg_S} {T : Int} (hW : md_wb T x) {t : Int} (hr_t : -2147483648 ≤ t ∧ t < 2147483648)  (hZ0 : ∀ n : Nat, x 39 0 ≤ (n : Int) → x 41 n = 0 ∧ ∀ z, z < 200 → x 42 (200 * n + z) = 0) : am_Con G yX8_spy wX8_spy 7 4 240 [am_R (8, 0), am_I t] (en_h m x) (am_tx [0, 2] (sp_spy x t 0 0) (an_spy x t) (en_h m (sp_spy x t))) := by
  refine am_of2 (Y := mX8_spy) (by decide +kernel) rfl (fun z => by cases z) rfl rfl (Nat.le_of_ble_eq_true rfl) fun X => ?_
  have b3 := wb3 hW 0
  have b39 := wb39 hW 0
  obtain ⟨y, hy⟩ : ∃ z, z = st x 0 0 0 := ⟨_, rfl⟩
  refine am_heq (h' := en_h m y) (by rw [hy]; exact (cx_no (Or.inl rfl)).symm) ?_
  have hWy : md_wb T y := by rw [hy]; exact wb_st hW (by show (0 : Int) ≤ _; decide) (by show _ ≤ (3 : Int); decide)
  refine am_aload_n eX8_spy_0 rfl ?_
  refine am_iload_n eX8_spy_1 rfl ?_
  refine am_cT eX8_spy_2 kX8_105 (c_X8_towerAt (m := m) (x := y) (T := T) hWy (a := t) ⟨by omega, by omega⟩) rfl rfl (en_c8 (m := m) (x := y)) (by decide) (by decide) (Nat.le_of_ble_eq_true rfl) (by omega) (by omega) rfl (fun hp => (tx_thr (i := 0) rfl rfl hy (by rw [((congrFun (congrFun hy 3) 0).trans ((st_nf (by decide)).trans rfl))] at hp; unfold sp_spy; (try simp only [if_true, if_false, Int.toNat_zero, Int.toNat_one, show ¬ (1 : Int) = 0 by decide]); (repeat' split) <;> first | rfl | (exfalso; omega)))) (fun hp => ?_)
  rw [((congrFun (congrFun hy 3) 0).trans ((st_nf (by decide)).trans rfl))] at hp
  have hp1 := hp
  refine am_pop (by simp) eX8_spy_5 ?_
  refine am_aload_n eX8_spy_6 rfl ?_
  refine am_getf eX8_spy_7 fX8_195 (en_c8 (m := m) (x := y)) rfl ?_
  refine am_topI (w := x 39 0) ((congrFun (congrFun hy 39) 0).trans ((st_nf (by decide)).trans rfl)) ?_
  have b2 := wb39 hW 0
  refine am_bipush eX8_spy_10 (by decide) ?_
  refine am_icmp_ge ⟨by omega, by omega⟩ ⟨by omega, by omega⟩ eX8_spy_12 (fun c3 => ?_) (fun c3 => ?_)
  · exact am_throw x_thr2 rfl x_tx198 (by decide) rfl (by simp) eX8_spy_25 eX8_spy_28 eX8_spy_29 eX8_spy_31 eX8_spy_34 (by omega) (by omega) (tx_thr (i := 1) rfl rfl hy (by unfold sp_spy; (try simp only [if_true, if_false, Int.toNat_zero, Int.toNat_one, show ¬ (1 : Int) = 0 by decide]); (repeat' split) <;> first | rfl | (exfalso; omega)))
  · refine am_iload_n eX8_spy_15 rfl ?_
    refine am_aload_n eX8_spy_16 rfl ?_
    refine am_getf eX8_spy_17 fX8_66 (en_c8 (m := m) (x := y)) rfl ?_
    refine am_topI (w := x 3 0) ((congrFun (congrFun hy 3) 0).trans ((st_nf (by decide)).trans rfl)) ?_
    have b4 := wb3 hW 0
    refine am_iconst eX8_spy_20 ?_
    refine am_isub eX8_spy_21 ?_
    refine am_icmp_ne ⟨by omega, by omega⟩ ⟨by omega, by omega⟩ eX8_spy_22 (fun c5 => ?_) (fun c5 => ?_)
    · obtain ⟨n, hn⟩ : ∃ n : Nat, x 39 0 = (n : Int) := ⟨(x 39 0).toNat, by omega⟩
      have e39 : y 39 0 = (n : Int) := by rw [hy, st_nf (by decide), hn]
      have hZ := hZ0 n (by omega)
      rw [show x 41 n = y 41 n by rw [hy]; exact (st_nf (by decide)).symm] at hZ
      have hZ : y 41 n = 0 ∧ ∀ z, z < 200 → y 42 (200 * n + z) = 0 := ⟨hZ.1, fun z h => by rw [hy, st_nf (by decide)]; exact hZ.2 z h⟩
      refine am_aload_n eX8_spy_35 rfl ?_
      refine am_getf (v := am_R (205, 0)) eX8_spy_36 fX8_51 (en_c8 (m := m) (x := y)) rfl ?_
      refine am_aload_n eX8_spy_39 rfl ?_
      refine am_getf (v := am_I (y 39 0)) eX8_spy_40 fX8_195 (en_c8 (m := m) (x := y)) rfl ?_
      refine am_new (4, n) eX8_spy_43 lX8_49 (en_n4 e39) (am_nk (by decide)) (by omega) (by omega) ?_
      refine am_heq (h' := (am_up (en_h m y) (4, n) (am_O 4 [am_I 0, am_N, am_I 0]))) rfl ?_
      refine am_dup (by simp) eX8_spy_46 ?_
      refine am_iload_n eX8_spy_47 rfl ?_
      refine am_cI eX8_spy_48 kX8_200 (c_X4_init (i := n) (t := t) am_up_eq ((am_up_ne (am_nk (by decide))).trans (en_n220 e39))) rfl rfl (by decide) (by decide) (by simp) (by omega) (by omega) ?_
      refine am_heq (h' := (am_up (am_up (en_h m y) (4, n) (am_O 4 [am_I t, am_R (220, n), am_I 0])) (220, n) (am_A 0 200 (fun _ => am_I 0)))) (congrArg (fun z => (am_up z (220, n) (am_A 0 200 (fun _ => am_I 0)))) am_up_up) ?_
      refine am_aast eX8_spy_51 ((am_up_ne (am_nk (by decide))).trans ((am_up_ne (am_nk (by decide))).trans (en_c205 (m := m) (x := y)))) (by decide) (by decide) (by omega) (by omega) (by decide) ((am_up_ne (am_nk (by decide))).trans am_up_eq) ?_
      refine am_aload_n eX8_spy_52 rfl ?_
      refine am_dup (by simp) eX8_spy_53 ?_
      refine am_getf (v := am_I (y 39 0)) eX8_spy_54 fX8_195 ((am_up_ne (am_nk (by decide))).trans ((am_up_ne (am_nk (by decide))).trans ((am_up_ne (am_nk (by decide))).trans (en_c8 (m := m) (x := y))))) rfl ?_
      refine am_iconst eX8_spy_57 ?_
      refine am_iadd eX8_spy_58 ?_
      refine am_putf eX8_spy_59 fX8_195 rfl ((am_up_ne (am_nk (by decide))).trans ((am_up_ne (am_nk (by decide))).trans ((am_up_ne (am_nk (by decide))).trans (en_c8 (m := m) (x := y))))) (Nat.le_of_ble_eq_true rfl) trivial ?_
      refine am_aload_n eX8_spy_62 rfl ?_
      refine am_getf (v := am_I ((y 39 0) + 1)) eX8_spy_63 fX8_195 am_up_eq rfl ?_
      refine am_iconst eX8_spy_66 ?_
      refine am_isub eX8_spy_67 ?_
      refine am_ireturn eX8_spy_68 rfl trivial (by omega) (by omega) ?_
      refine (show am_tx _ _ _ _ (.inl (some (am_I (((y 39 0) + 1) - 1)))) (am_up (am_up (am_up (am_up (en_h m y) (4, n) (am_O 4 [am_I t, am_R (220, n), am_I 0])) (220, n) (am_A 0 200 (fun _ => am_I 0))) (205, 0) (am_A 6 6 (am_uf (fun z => if (z : Int) < y 39 0 then am_R (4, z) else am_N) ((y 39 0)).toNat (am_R (4, n))))) (8, 0) (am_O 8 [am_R (200, 0), am_R (201, 0), am_I (y 3 0), am_I (y 2 0), am_I (y 1 0), am_I (y 11 0), am_R (202, 0), am_R (203, 0), am_I (y 24 0), am_R (204, 0), am_R (6, 1), am_R (6, 0), am_R (205, 0), am_I ((y 39 0) + 1)])) from ?_)
      rw [cx_spy e39 hZ]
      exact tx_ret (by unfold sp_spy; rw [if_neg (by omega), if_neg (by omega), e39, hy, show (x 39 0).toNat = n by omega, hn]) (by unfold sp_spy; rw [if_neg (by omega), if_neg (by omega)]; simp [st]) (by unfold an_spy; rw [if_neg (by omega), if_neg (by omega)]; omega)
    · exact am_throw x_thr2 rfl x_tx198 (by decide) rfl (by simp) eX8_spy_25 eX8_spy_28 eX8_spy_29 eX8_spy_31 eX8_spy_34 (by omega) (by omega) (tx_thr (i := 1) rfl rfl hy (by unfold sp_spy; (try simp only [if_true, if_false, Int.toNat_zero, Int.toNat_one, show ¬ (1 : Int) = 0 by decide]); (repeat' split) <;> first | rfl | (exfalso; omega)))
