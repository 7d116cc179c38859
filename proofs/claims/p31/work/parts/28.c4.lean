theorem am_up_eq {h : am_AH} {n : am_Nm} {c : am_AC} : am_up h n c n = some c := by simp [am_up]
theorem am_up_ne {h : am_AH} {n x : am_Nm} {c : am_AC} (hx : x ≠ n) : am_up h n c x = h x := by simp [am_up, hx]
theorem am_up_up {h : am_AH} {n : am_Nm} {a b : am_AC} : am_up (am_up h n a) n b = am_up h n b := by
  funext x
  simp only [am_up]
  split <;> rfl
theorem am_up_sw {h : am_AH} {n m : am_Nm} {a b : am_AC} (hx : n ≠ m) : am_up (am_up h m a) n b = am_up (am_up h n b) m a := by
  funext x
  simp only [am_up]
  by_cases e : x = n
  · subst e
    rw [if_pos rfl, if_neg hx, if_pos rfl]
  · rw [if_neg e, if_neg e]
theorem am_nk {k k' i i' : Nat} (h : k ≠ k') : ((k, i) : am_Nm) ≠ (k', i') := fun z => h (congrArg Prod.fst z)
theorem am_nj {k k' i i' : Nat} (h : i ≠ i') : ((k, i) : am_Nm) ≠ (k', i') := fun z => h (congrArg Prod.snd z)
section AmCI
variable {G : am_G} {X : am_X} {Y : am_Y} {d mc ms : Nat} {Qs : State → Prop} {pc q t : Nat} {ls : List (Option am_AV)} {st : List am_AV} {h h1 : am_AH} {k n : Nat}
variable {idx na d' mc' ms' nL' : Nat} {y : MethodName} {bytes : ByteArray} {as st0 : List am_AV} {nm : am_Nm}
theorem am_cI (hd : am_d Y.1 pc (.invokespecial idx) 3 q) (hw : am_mi_ Y.2.2.1 idx y na (.code y bytes nL' none)) (hC : am_Con G y (.code y bytes nL' none) d' mc' ms' (am_R nm :: as) h (am_vd h1)) (hst0 : st0 = as.reverse ++ am_R nm :: st) (hna : as.length = na) (hdd : d' + 1 ≤ d) (hnL : nL' ≤ 17) (hst : st.length ≤ 4) (hk : k + mc' ≤ mc) (hn : n + ms' ≤ ms)
    (kk : am_W G X Y d mc ms Qs q ls st h1 (k + mc') (n + ms')) : am_W G X Y d mc ms Qs pc ls st0 h k n :=
  am_callI hd hw hC hst0 hna hdd hnL hst hk hn (fun r h' hq => by obtain ⟨e1, rfl⟩ := hq; cases e1; exact kk) (fun x h' hq => by obtain ⟨e1, -⟩ := hq; cases e1)
end AmCI
set_option maxRecDepth 100000 in
set_option maxHeartbeats 4000000 in
theorem c_X3_init {G : am_G} {h : am_AH} {i : Nat} (h0 : h (3, i) = some (am_O 3 [am_N, am_N, am_N, am_I 0])) (h1 : h (211, i) = none) (h2 : h (212, i) = none) (h3 : h (213, i) = none) : am_Con G yX3_init wX3_init 2 3 900 [am_R (3, i)] h (am_vd (am_up (am_up (am_up (am_up h (211, i) (am_A 0 300 (fun _ => am_I 0))) (3, i) (am_O 3 [am_R (211, i), am_R (212, i), am_R (213, i), am_I 0])) (212, i) (am_A 0 300 (fun _ => am_I 0))) (213, i) (am_A 1 300 (fun _ => am_I 0)))) := by
  refine am_of2 (Y := mX3_init) (by decide +kernel) rfl (fun z => by first | rfl | cases z) rfl rfl (Nat.le_of_ble_eq_true rfl) fun X => ?_
  refine am_aload_n eX3_init_0 rfl ?_
  refine am_objInit eX3_init_1 oX3 x_oi1 x_oi2 (by decide) (by simp) ?_
  refine am_aload_n eX3_init_4 rfl ?_
  refine am_sipush eX3_init_5 (by decide) ?_
  refine am_newa (211, i) eX3_init_8 rfl x_arr0 (by decide) (by decide) (by decide) h1 (am_nk (by decide)) (by omega) (by omega) ?_
  refine am_heq (h' := (am_up h (211, i) (am_A 0 300 (fun _ => am_I 0)))) rfl ?_
  refine am_putF eX3_init_10 fX3_9 rfl rfl rfl ((am_up_ne (am_nk (by decide))).trans h0) (Nat.le_of_ble_eq_true rfl) trivial ?_
  refine am_aload_n eX3_init_13 rfl ?_
  refine am_sipush eX3_init_14 (by decide) ?_
  refine am_newa (212, i) eX3_init_17 rfl x_arr0 (by decide) (by decide) (by decide) ((am_up_ne (am_nk (by decide))).trans ((am_up_ne (am_nk (by decide))).trans h2)) (am_nk (by decide)) (by omega) (by omega) ?_
  refine am_heq (h' := (am_up (am_up (am_up h (211, i) (am_A 0 300 (fun _ => am_I 0))) (3, i) (am_O 3 [am_R (211, i), am_N, am_N, am_I 0])) (212, i) (am_A 0 300 (fun _ => am_I 0)))) rfl ?_
  refine am_putF eX3_init_19 fX3_15 rfl rfl rfl ((am_up_ne (am_nk (by decide))).trans am_up_eq) (Nat.le_of_ble_eq_true rfl) trivial ?_
  refine am_heq (h' := (am_up (am_up (am_up h (211, i) (am_A 0 300 (fun _ => am_I 0))) (3, i) (am_O 3 [am_R (211, i), am_R (212, i), am_N, am_I 0])) (212, i) (am_A 0 300 (fun _ => am_I 0)))) ((am_up_sw (am_nk (by decide))).trans (congrArg (fun z => am_up z _ _) am_up_up)) ?_
  refine am_aload_n eX3_init_22 rfl ?_
  refine am_sipush eX3_init_23 (by decide) ?_
  refine am_newa (213, i) eX3_init_26 rfl x_arr1 (by decide) (by decide) (by decide) ((am_up_ne (am_nk (by decide))).trans ((am_up_ne (am_nk (by decide))).trans ((am_up_ne (am_nk (by decide))).trans h3))) (am_nk (by decide)) (by omega) (by omega) ?_
  refine am_heq (h' := (am_up (am_up (am_up (am_up h (211, i) (am_A 0 300 (fun _ => am_I 0))) (3, i) (am_O 3 [am_R (211, i), am_R (212, i), am_N, am_I 0])) (212, i) (am_A 0 300 (fun _ => am_I 0))) (213, i) (am_A 1 300 (fun _ => am_I 0)))) rfl ?_
  refine am_putF eX3_init_28 fX3_18 rfl rfl rfl ((am_up_ne (am_nk (by decide))).trans ((am_up_ne (am_nk (by decide))).trans am_up_eq)) (Nat.le_of_ble_eq_true rfl) trivial ?_
  refine am_heq (h' := (am_up (am_up (am_up (am_up h (211, i) (am_A 0 300 (fun _ => am_I 0))) (3, i) (am_O 3 [am_R (211, i), am_R (212, i), am_R (213, i), am_I 0])) (212, i) (am_A 0 300 (fun _ => am_I 0))) (213, i) (am_A 1 300 (fun _ => am_I 0)))) ((am_up_sw (am_nk (by decide))).trans (congrArg (fun z => am_up z _ _) ((am_up_sw (am_nk (by decide))).trans (congrArg (fun z => am_up z _ _) am_up_up)))) ?_
  refine am_return eX3_init_31 rfl (by omega) (by omega) ?_
  exact ⟨rfl, rfl⟩
set_option maxRecDepth 100000 in
set_option maxHeartbeats 4000000 in
theorem c_X0_init {G : am_G} {h : am_AH} {i : Nat} (h0 : h (0, i) = some (am_O 0 [am_N, am_I 0, am_I 0, am_I 0, am_N])) (h1 : h (210, i) = none) (h2 : h (3, i) = none) (h3 : h (211, i) = none) (h4 : h (212, i) = none) (h5 : h (213, i) = none) : am_Con G yX0_init wX0_init 3 5 1104 [am_R (0, i)] h (am_vd (am_up (am_up (am_up (am_up (am_up (am_up h (210, i) (am_A 0 200 (fun _ => am_I 0))) (0, i) (am_O 0 [am_R (210, i), am_I 0, am_I 0, am_I (-1), am_R (3, i)])) (3, i) (am_O 3 [am_R (211, i), am_R (212, i), am_R (213, i), am_I 0])) (211, i) (am_A 0 300 (fun _ => am_I 0))) (212, i) (am_A 0 300 (fun _ => am_I 0))) (213, i) (am_A 1 300 (fun _ => am_I 0)))) := by
  refine am_of2 (Y := mX0_init) (by decide +kernel) rfl (fun z => by first | rfl | cases z) rfl rfl (Nat.le_of_ble_eq_true rfl) fun X => ?_
  refine am_aload_n eX0_init_0 rfl ?_
  refine am_objInit eX0_init_1 oX0 x_oi1 x_oi2 (by decide) (by simp) ?_
  refine am_aload_n eX0_init_4 rfl ?_
  refine am_sipush eX0_init_5 (by decide) ?_
  refine am_newa (210, i) eX0_init_8 rfl x_arr0 (by decide) (by decide) (by decide) h1 (am_nk (by decide)) (by omega) (by omega) ?_
  refine am_heq (h' := (am_up h (210, i) (am_A 0 200 (fun _ => am_I 0)))) rfl ?_
  refine am_putF eX0_init_10 fX0_9 rfl rfl rfl ((am_up_ne (am_nk (by decide))).trans h0) (Nat.le_of_ble_eq_true rfl) trivial ?_
  refine am_aload_n eX0_init_13 rfl ?_
  refine am_iconst eX0_init_14 ?_
  refine am_putf eX0_init_15 fX0_15 rfl am_up_eq (Nat.le_of_ble_eq_true rfl) trivial ?_
  refine am_heq (h' := (am_up (am_up h (210, i) (am_A 0 200 (fun _ => am_I 0))) (0, i) (am_O 0 [am_R (210, i), am_I 0, am_I 0, am_I (-1), am_N]))) am_up_up ?_
  refine am_aload_n eX0_init_18 rfl ?_
  refine am_new (3, i) eX0_init_19 lX0_19 ((am_up_ne (am_nk (by decide))).trans ((am_up_ne (am_nk (by decide))).trans h2)) (am_nk (by decide)) (by omega) (by omega) ?_
  refine am_heq (h' := (am_up (am_up (am_up h (210, i) (am_A 0 200 (fun _ => am_I 0))) (0, i) (am_O 0 [am_R (210, i), am_I 0, am_I 0, am_I (-1), am_N])) (3, i) (am_O 3 [am_N, am_N, am_N, am_I 0]))) rfl ?_
  refine am_dup (by simp) eX0_init_22 ?_
  refine am_cI eX0_init_23 kX0_21 (c_X3_init  am_up_eq ((am_up_ne (am_nk (by decide))).trans ((am_up_ne (am_nk (by decide))).trans ((am_up_ne (am_nk (by decide))).trans h3))) ((am_up_ne (am_nk (by decide))).trans ((am_up_ne (am_nk (by decide))).trans ((am_up_ne (am_nk (by decide))).trans h4))) ((am_up_ne (am_nk (by decide))).trans ((am_up_ne (am_nk (by decide))).trans ((am_up_ne (am_nk (by decide))).trans h5)))) rfl rfl (by decide) (by decide) (by simp) (by omega) (by omega) ?_
  refine am_heq (h' := (am_up (am_up (am_up (am_up (am_up (am_up h (210, i) (am_A 0 200 (fun _ => am_I 0))) (0, i) (am_O 0 [am_R (210, i), am_I 0, am_I 0, am_I (-1), am_N])) (3, i) (am_O 3 [am_R (211, i), am_R (212, i), am_R (213, i), am_I 0])) (211, i) (am_A 0 300 (fun _ => am_I 0))) (212, i) (am_A 0 300 (fun _ => am_I 0))) (213, i) (am_A 1 300 (fun _ => am_I 0)))) (congrArg (fun z => (am_up (am_up z (212, i) (am_A 0 300 (fun _ => am_I 0))) (213, i) (am_A 1 300 (fun _ => am_I 0)))) ((am_up_sw (am_nk (by decide))).trans (congrArg (fun z => am_up z _ _) am_up_up))) ?_
  refine am_putF eX0_init_26 fX0_22 rfl rfl rfl ((am_up_ne (am_nk (by decide))).trans ((am_up_ne (am_nk (by decide))).trans ((am_up_ne (am_nk (by decide))).trans ((am_up_ne (am_nk (by decide))).trans am_up_eq)))) (Nat.le_of_ble_eq_true rfl) trivial ?_
  refine am_heq (h' := (am_up (am_up (am_up (am_up (am_up (am_up h (210, i) (am_A 0 200 (fun _ => am_I 0))) (0, i) (am_O 0 [am_R (210, i), am_I 0, am_I 0, am_I (-1), am_R (3, i)])) (3, i) (am_O 3 [am_R (211, i), am_R (212, i), am_R (213, i), am_I 0])) (211, i) (am_A 0 300 (fun _ => am_I 0))) (212, i) (am_A 0 300 (fun _ => am_I 0))) (213, i) (am_A 1 300 (fun _ => am_I 0)))) ((am_up_sw (am_nk (by decide))).trans (congrArg (fun z => am_up z _ _) ((am_up_sw (am_nk (by decide))).trans (congrArg (fun z => am_up z _ _) ((am_up_sw (am_nk (by decide))).trans (congrArg (fun z => am_up z _ _) ((am_up_sw (am_nk (by decide))).trans (congrArg (fun z => am_up z _ _) am_up_up)))))))) ?_
  refine am_return eX0_init_29 rfl (by omega) (by omega) ?_
  exact ⟨rfl, rfl⟩
set_option maxRecDepth 100000 in
set_option maxHeartbeats 4000000 in
theorem c_X1_init {G : am_G} {h : am_AH} {i : Nat} (h0 : h (1, i) = some (am_O 1 [am_N, am_N, am_I 0])) (h1 : h (216, i) = none) (h2 : h (217, i) = none) : am_Con G yX1_init wX1_init 2 2 400 [am_R (1, i)] h (am_vd (am_up (am_up (am_up h (216, i) (am_A 0 200 (fun _ => am_I 0))) (1, i) (am_O 1 [am_R (216, i), am_R (217, i), am_I 0])) (217, i) (am_A 0 200 (fun _ => am_I 0)))) := by
  refine am_of2 (Y := mX1_init) (by decide +kernel) rfl (fun z => by first | rfl | cases z) rfl rfl (Nat.le_of_ble_eq_true rfl) fun X => ?_
  refine am_aload_n eX1_init_0 rfl ?_
  refine am_objInit eX1_init_1 oX1 x_oi1 x_oi2 (by decide) (by simp) ?_
  refine am_aload_n eX1_init_4 rfl ?_
  refine am_sipush eX1_init_5 (by decide) ?_
  refine am_newa (216, i) eX1_init_8 rfl x_arr0 (by decide) (by decide) (by decide) h1 (am_nk (by decide)) (by omega) (by omega) ?_
  refine am_heq (h' := (am_up h (216, i) (am_A 0 200 (fun _ => am_I 0)))) rfl ?_
  refine am_putF eX1_init_10 fX1_9 rfl rfl rfl ((am_up_ne (am_nk (by decide))).trans h0) (Nat.le_of_ble_eq_true rfl) trivial ?_
  refine am_aload_n eX1_init_13 rfl ?_
  refine am_sipush eX1_init_14 (by decide) ?_
  refine am_newa (217, i) eX1_init_17 rfl x_arr0 (by decide) (by decide) (by decide) ((am_up_ne (am_nk (by decide))).trans ((am_up_ne (am_nk (by decide))).trans h2)) (am_nk (by decide)) (by omega) (by omega) ?_
  refine am_heq (h' := (am_up (am_up (am_up h (216, i) (am_A 0 200 (fun _ => am_I 0))) (1, i) (am_O 1 [am_R (216, i), am_N, am_I 0])) (217, i) (am_A 0 200 (fun _ => am_I 0)))) rfl ?_
  refine am_putF eX1_init_19 fX1_15 rfl rfl rfl ((am_up_ne (am_nk (by decide))).trans am_up_eq) (Nat.le_of_ble_eq_true rfl) trivial ?_
  refine am_heq (h' := (am_up (am_up (am_up h (216, i) (am_A 0 200 (fun _ => am_I 0))) (1, i) (am_O 1 [am_R (216, i), am_R (217, i), am_I 0])) (217, i) (am_A 0 200 (fun _ => am_I 0)))) ((am_up_sw (am_nk (by decide))).trans (congrArg (fun z => am_up z _ _) am_up_up)) ?_
  refine am_return eX1_init_22 rfl (by omega) (by omega) ?_
  exact ⟨rfl, rfl⟩
set_option maxRecDepth 100000 in
set_option maxHeartbeats 4000000 in
theorem c_X5_init {G : am_G} {h : am_AH} {i : Nat} {t : Int} (h0 : h (5, i) = some (am_O 5 [am_I 0, am_N, am_N, am_I 0, am_I 0])) (h1 : h (214, i) = none) (h2 : h (215, i) = none) : am_Con G yX5_init wX5_init 2 2 6 [am_R (5, i), am_I t] h (am_vd (am_up (am_up (am_up h (5, i) (am_O 5 [am_I t, am_R (214, i), am_R (215, i), am_I 0, am_I 0])) (214, i) (am_A 0 3 (fun _ => am_I 0))) (215, i) (am_A 0 3 (fun _ => am_I 0)))) := by
  refine am_of2 (Y := mX5_init) (by decide +kernel) rfl (fun z => by first | rfl | cases z) rfl rfl (Nat.le_of_ble_eq_true rfl) fun X => ?_
  refine am_aload_n eX5_init_0 rfl ?_
  refine am_objInit eX5_init_1 oX5 x_oi1 x_oi2 (by decide) (by simp) ?_
  refine am_aload_n eX5_init_4 rfl ?_
  refine am_iload_n eX5_init_5 rfl ?_
  refine am_putF eX5_init_6 fX5_9 rfl rfl rfl h0 (Nat.le_of_ble_eq_true rfl) trivial ?_
  refine am_aload_n eX5_init_9 rfl ?_
  refine am_iconst eX5_init_10 ?_
  refine am_newa (214, i) eX5_init_11 rfl x_arr0 (by decide) (by decide) (by decide) ((am_up_ne (am_nk (by decide))).trans h1) (am_nk (by decide)) (by omega) (by omega) ?_
  refine am_heq (h' := (am_up (am_up h (5, i) (am_O 5 [am_I t, am_N, am_N, am_I 0, am_I 0])) (214, i) (am_A 0 3 (fun _ => am_I 0)))) rfl ?_
  refine am_putF eX5_init_13 fX5_15 rfl rfl rfl ((am_up_ne (am_nk (by decide))).trans am_up_eq) (Nat.le_of_ble_eq_true rfl) trivial ?_
  refine am_heq (h' := (am_up (am_up h (5, i) (am_O 5 [am_I t, am_R (214, i), am_N, am_I 0, am_I 0])) (214, i) (am_A 0 3 (fun _ => am_I 0)))) ((am_up_sw (am_nk (by decide))).trans (congrArg (fun z => am_up z _ _) am_up_up)) ?_
  refine am_aload_n eX5_init_16 rfl ?_
  refine am_iconst eX5_init_17 ?_
  refine am_newa (215, i) eX5_init_18 rfl x_arr0 (by decide) (by decide) (by decide) ((am_up_ne (am_nk (by decide))).trans ((am_up_ne (am_nk (by decide))).trans h2)) (am_nk (by decide)) (by omega) (by omega) ?_
  refine am_heq (h' := (am_up (am_up (am_up h (5, i) (am_O 5 [am_I t, am_R (214, i), am_N, am_I 0, am_I 0])) (214, i) (am_A 0 3 (fun _ => am_I 0))) (215, i) (am_A 0 3 (fun _ => am_I 0)))) rfl ?_
  refine am_putF eX5_init_20 fX5_19 rfl rfl rfl ((am_up_ne (am_nk (by decide))).trans ((am_up_ne (am_nk (by decide))).trans am_up_eq)) (Nat.le_of_ble_eq_true rfl) trivial ?_
  refine am_heq (h' := (am_up (am_up (am_up h (5, i) (am_O 5 [am_I t, am_R (214, i), am_R (215, i), am_I 0, am_I 0])) (214, i) (am_A 0 3 (fun _ => am_I 0))) (215, i) (am_A 0 3 (fun _ => am_I 0)))) ((am_up_sw (am_nk (by decide))).trans (congrArg (fun z => am_up z _ _) ((am_up_sw (am_nk (by decide))).trans (congrArg (fun z => am_up z _ _) am_up_up)))) ?_
  refine am_return eX5_init_23 rfl (by omega) (by omega) ?_
  exact ⟨rfl, rfl⟩
set_option maxRecDepth 100000 in
set_option maxHeartbeats 4000000 in
theorem c_X6_init {G : am_G} {h : am_AH} {i : Nat} (h0 : h (6, i) = some (am_O 6 [am_N, am_I 0, am_N, am_I 0, am_I 0])) (h1 : h (218, i) = none) : am_Con G yX6_init wX6_init 2 1 40 [am_R (6, i)] h (am_vd (am_up (am_up h (218, i) (am_A 7 40 (fun _ => am_N))) (6, i) (am_O 6 [am_R (218, i), am_I 0, am_N, am_I 0, am_I 0]))) := by
  refine am_of2 (Y := mX6_init) (by decide +kernel) rfl (fun z => by first | rfl | cases z) rfl rfl (Nat.le_of_ble_eq_true rfl) fun X => ?_
  refine am_aload_n eX6_init_0 rfl ?_
  refine am_objInit eX6_init_1 oX6 x_oi1 x_oi2 (by decide) (by simp) ?_
  refine am_aload_n eX6_init_4 rfl ?_
  refine am_bipush eX6_init_5 (by decide) ?_
  refine am_anewa (kd := 7) (218, i) eX6_init_7 rfl aX6_9.1 aX6_9.2 (by decide) (by decide) (by decide) h1 (am_nk (by decide)) (by omega) (by omega) ?_
  refine am_heq (h' := (am_up h (218, i) (am_A 7 40 (fun _ => am_N)))) rfl ?_
  refine am_putF eX6_init_10 fX6_11 rfl rfl rfl ((am_up_ne (am_nk (by decide))).trans h0) (Nat.le_of_ble_eq_true rfl) trivial ?_
  refine am_return eX6_init_13 rfl (by omega) (by omega) ?_
  exact ⟨rfl, rfl⟩
set_option maxRecDepth 100000 in
set_option maxHeartbeats 4000000 in
theorem c_X7_init {G : am_G} {h : am_AH} {i : Nat} {t : Int} (h0 : h (7, i) = some (am_O 7 [am_I 0, am_I 0, am_N, am_N])) (h1 : h (0, 2 * i + 1) = none) (h2 : h (210, 2 * i + 1) = none) (h3 : h (3, 2 * i + 1) = none) (h4 : h (211, 2 * i + 1) = none) (h5 : h (212, 2 * i + 1) = none) (h6 : h (213, 2 * i + 1) = none) (h7 : h (0, 2 * i) = none) (h8 : h (210, 2 * i) = none) (h9 : h (3, 2 * i) = none) (h10 : h (211, 2 * i) = none) (h11 : h (212, 2 * i) = none) (h12 : h (213, 2 * i) = none) : am_Con G yX7_init wX7_init 4 12 2218 [am_R (7, i), am_I t] h (am_vd (am_up (am_up (am_up (am_up (am_up (am_up (am_up (am_up (am_up (am_up (am_up (am_up (am_up h (7, i) (am_O 7 [am_I t, am_I 0, am_R (0, 2 * i + 1), am_R (0, 2 * i)])) (0, 2 * i + 1) (am_O 0 [am_R (210, 2 * i + 1), am_I 0, am_I 0, am_I (-1), am_R (3, 2 * i + 1)])) (210, 2 * i + 1) (am_A 0 200 (fun _ => am_I 0))) (3, 2 * i + 1) (am_O 3 [am_R (211, 2 * i + 1), am_R (212, 2 * i + 1), am_R (213, 2 * i + 1), am_I 0])) (211, 2 * i + 1) (am_A 0 300 (fun _ => am_I 0))) (212, 2 * i + 1) (am_A 0 300 (fun _ => am_I 0))) (213, 2 * i + 1) (am_A 1 300 (fun _ => am_I 0))) (0, 2 * i) (am_O 0 [am_R (210, 2 * i), am_I 0, am_I 0, am_I (-1), am_R (3, 2 * i)])) (210, 2 * i) (am_A 0 200 (fun _ => am_I 0))) (3, 2 * i) (am_O 3 [am_R (211, 2 * i), am_R (212, 2 * i), am_R (213, 2 * i), am_I 0])) (211, 2 * i) (am_A 0 300 (fun _ => am_I 0))) (212, 2 * i) (am_A 0 300 (fun _ => am_I 0))) (213, 2 * i) (am_A 1 300 (fun _ => am_I 0)))) := by
  refine am_of2 (Y := mX7_init) (by decide +kernel) rfl (fun z => by first | rfl | cases z) rfl rfl (Nat.le_of_ble_eq_true rfl) fun X => ?_
  refine am_aload_n eX7_init_0 rfl ?_
  refine am_objInit eX7_init_1 oX7 x_oi1 x_oi2 (by decide) (by simp) ?_
  refine am_aload_n eX7_init_4 rfl ?_
  refine am_iload_n eX7_init_5 rfl ?_
  refine am_putF eX7_init_6 fX7_7 rfl rfl rfl h0 (Nat.le_of_ble_eq_true rfl) trivial ?_
  refine am_aload_n eX7_init_9 rfl ?_
  refine am_new (0, 2 * i + 1) eX7_init_10 lX7_13 ((am_up_ne (am_nk (by decide))).trans h1) (am_nk (by decide)) (by omega) (by omega) ?_
  refine am_heq (h' := (am_up (am_up h (7, i) (am_O 7 [am_I t, am_I 0, am_N, am_N])) (0, 2 * i + 1) (am_O 0 [am_N, am_I 0, am_I 0, am_I 0, am_N]))) rfl ?_
  refine am_dup (by simp) eX7_init_13 ?_
  refine am_cI eX7_init_14 kX7_15 (c_X0_init  am_up_eq ((am_up_ne (am_nk (by decide))).trans ((am_up_ne (am_nk (by decide))).trans h2)) ((am_up_ne (am_nk (by decide))).trans ((am_up_ne (am_nk (by decide))).trans h3)) ((am_up_ne (am_nk (by decide))).trans ((am_up_ne (am_nk (by decide))).trans h4)) ((am_up_ne (am_nk (by decide))).trans ((am_up_ne (am_nk (by decide))).trans h5)) ((am_up_ne (am_nk (by decide))).trans ((am_up_ne (am_nk (by decide))).trans h6))) rfl rfl (by decide) (by decide) (by simp) (by omega) (by omega) ?_
  refine am_heq (h' := (am_up (am_up (am_up (am_up (am_up (am_up (am_up h (7, i) (am_O 7 [am_I t, am_I 0, am_N, am_N])) (0, 2 * i + 1) (am_O 0 [am_R (210, 2 * i + 1), am_I 0, am_I 0, am_I (-1), am_R (3, 2 * i + 1)])) (210, 2 * i + 1) (am_A 0 200 (fun _ => am_I 0))) (3, 2 * i + 1) (am_O 3 [am_R (211, 2 * i + 1), am_R (212, 2 * i + 1), am_R (213, 2 * i + 1), am_I 0])) (211, 2 * i + 1) (am_A 0 300 (fun _ => am_I 0))) (212, 2 * i + 1) (am_A 0 300 (fun _ => am_I 0))) (213, 2 * i + 1) (am_A 1 300 (fun _ => am_I 0)))) (congrArg (fun z => (am_up (am_up (am_up (am_up z (3, 2 * i + 1) (am_O 3 [am_R (211, 2 * i + 1), am_R (212, 2 * i + 1), am_R (213, 2 * i + 1), am_I 0])) (211, 2 * i + 1) (am_A 0 300 (fun _ => am_I 0))) (212, 2 * i + 1) (am_A 0 300 (fun _ => am_I 0))) (213, 2 * i + 1) (am_A 1 300 (fun _ => am_I 0)))) ((am_up_sw (am_nk (by decide))).trans (congrArg (fun z => am_up z _ _) am_up_up))) ?_
  refine am_putF eX7_init_17 fX7_16 rfl rfl rfl ((am_up_ne (am_nk (by decide))).trans ((am_up_ne (am_nk (by decide))).trans ((am_up_ne (am_nk (by decide))).trans ((am_up_ne (am_nk (by decide))).trans ((am_up_ne (am_nk (by decide))).trans ((am_up_ne (am_nk (by decide))).trans am_up_eq)))))) (Nat.le_of_ble_eq_true rfl) trivial ?_
  refine am_heq (h' := (am_up (am_up (am_up (am_up (am_up (am_up (am_up h (7, i) (am_O 7 [am_I t, am_I 0, am_R (0, 2 * i + 1), am_N])) (0, 2 * i + 1) (am_O 0 [am_R (210, 2 * i + 1), am_I 0, am_I 0, am_I (-1), am_R (3, 2 * i + 1)])) (210, 2 * i + 1) (am_A 0 200 (fun _ => am_I 0))) (3, 2 * i + 1) (am_O 3 [am_R (211, 2 * i + 1), am_R (212, 2 * i + 1), am_R (213, 2 * i + 1), am_I 0])) (211, 2 * i + 1) (am_A 0 300 (fun _ => am_I 0))) (212, 2 * i + 1) (am_A 0 300 (fun _ => am_I 0))) (213, 2 * i + 1) (am_A 1 300 (fun _ => am_I 0)))) ((am_up_sw (am_nk (by decide))).trans (congrArg (fun z => am_up z _ _) ((am_up_sw (am_nk (by decide))).trans (congrArg (fun z => am_up z _ _) ((am_up_sw (am_nk (by decide))).trans (congrArg (fun z => am_up z _ _) ((am_up_sw (am_nk (by decide))).trans (congrArg (fun z => am_up z _ _) ((am_up_sw (am_nk (by decide))).trans (congrArg (fun z => am_up z _ _) ((am_up_sw (am_nk (by decide))).trans (congrArg (fun z => am_up z _ _) am_up_up)))))))))))) ?_
  refine am_aload_n eX7_init_20 rfl ?_
  refine am_new (0, 2 * i) eX7_init_21 lX7_13 ((am_up_ne (am_nk (by decide))).trans ((am_up_ne (am_nk (by decide))).trans ((am_up_ne (am_nk (by decide))).trans ((am_up_ne (am_nk (by decide))).trans ((am_up_ne (am_nk (by decide))).trans ((am_up_ne (am_nj (by omega))).trans ((am_up_ne (am_nk (by decide))).trans h7))))))) (am_nk (by decide)) (by omega) (by omega) ?_
  refine am_heq (h' := (am_up (am_up (am_up (am_up (am_up (am_up (am_up (am_up h (7, i) (am_O 7 [am_I t, am_I 0, am_R (0, 2 * i + 1), am_N])) (0, 2 * i + 1) (am_O 0 [am_R (210, 2 * i + 1), am_I 0, am_I 0, am_I (-1), am_R (3, 2 * i + 1)])) (210, 2 * i + 1) (am_A 0 200 (fun _ => am_I 0))) (3, 2 * i + 1) (am_O 3 [am_R (211, 2 * i + 1), am_R (212, 2 * i + 1), am_R (213, 2 * i + 1), am_I 0])) (211, 2 * i + 1) (am_A 0 300 (fun _ => am_I 0))) (212, 2 * i + 1) (am_A 0 300 (fun _ => am_I 0))) (213, 2 * i + 1) (am_A 1 300 (fun _ => am_I 0))) (0, 2 * i) (am_O 0 [am_N, am_I 0, am_I 0, am_I 0, am_N]))) rfl ?_
  refine am_dup (by simp) eX7_init_24 ?_
  refine am_cI eX7_init_25 kX7_15 (c_X0_init  am_up_eq ((am_up_ne (am_nk (by decide))).trans ((am_up_ne (am_nk (by decide))).trans ((am_up_ne (am_nk (by decide))).trans ((am_up_ne (am_nk (by decide))).trans ((am_up_ne (am_nk (by decide))).trans ((am_up_ne (am_nj (by omega))).trans ((am_up_ne (am_nk (by decide))).trans ((am_up_ne (am_nk (by decide))).trans h8)))))))) ((am_up_ne (am_nk (by decide))).trans ((am_up_ne (am_nk (by decide))).trans ((am_up_ne (am_nk (by decide))).trans ((am_up_ne (am_nk (by decide))).trans ((am_up_ne (am_nj (by omega))).trans ((am_up_ne (am_nk (by decide))).trans ((am_up_ne (am_nk (by decide))).trans ((am_up_ne (am_nk (by decide))).trans h9)))))))) ((am_up_ne (am_nk (by decide))).trans ((am_up_ne (am_nk (by decide))).trans ((am_up_ne (am_nk (by decide))).trans ((am_up_ne (am_nj (by omega))).trans ((am_up_ne (am_nk (by decide))).trans ((am_up_ne (am_nk (by decide))).trans ((am_up_ne (am_nk (by decide))).trans ((am_up_ne (am_nk (by decide))).trans h10)))))))) ((am_up_ne (am_nk (by decide))).trans ((am_up_ne (am_nk (by decide))).trans ((am_up_ne (am_nj (by omega))).trans ((am_up_ne (am_nk (by decide))).trans ((am_up_ne (am_nk (by decide))).trans ((am_up_ne (am_nk (by decide))).trans ((am_up_ne (am_nk (by decide))).trans ((am_up_ne (am_nk (by decide))).trans h11)))))))) ((am_up_ne (am_nk (by decide))).trans ((am_up_ne (am_nj (by omega))).trans ((am_up_ne (am_nk (by decide))).trans ((am_up_ne (am_nk (by decide))).trans ((am_up_ne (am_nk (by decide))).trans ((am_up_ne (am_nk (by decide))).trans ((am_up_ne (am_nk (by decide))).trans ((am_up_ne (am_nk (by decide))).trans h12))))))))) rfl rfl (by decide) (by decide) (by simp) (by omega) (by omega) ?_
  refine am_heq (h' := (am_up (am_up (am_up (am_up (am_up (am_up (am_up (am_up (am_up (am_up (am_up (am_up (am_up h (7, i) (am_O 7 [am_I t, am_I 0, am_R (0, 2 * i + 1), am_N])) (0, 2 * i + 1) (am_O 0 [am_R (210, 2 * i + 1), am_I 0, am_I 0, am_I (-1), am_R (3, 2 * i + 1)])) (210, 2 * i + 1) (am_A 0 200 (fun _ => am_I 0))) (3, 2 * i + 1) (am_O 3 [am_R (211, 2 * i + 1), am_R (212, 2 * i + 1), am_R (213, 2 * i + 1), am_I 0])) (211, 2 * i + 1) (am_A 0 300 (fun _ => am_I 0))) (212, 2 * i + 1) (am_A 0 300 (fun _ => am_I 0))) (213, 2 * i + 1) (am_A 1 300 (fun _ => am_I 0))) (0, 2 * i) (am_O 0 [am_R (210, 2 * i), am_I 0, am_I 0, am_I (-1), am_R (3, 2 * i)])) (210, 2 * i) (am_A 0 200 (fun _ => am_I 0))) (3, 2 * i) (am_O 3 [am_R (211, 2 * i), am_R (212, 2 * i), am_R (213, 2 * i), am_I 0])) (211, 2 * i) (am_A 0 300 (fun _ => am_I 0))) (212, 2 * i) (am_A 0 300 (fun _ => am_I 0))) (213, 2 * i) (am_A 1 300 (fun _ => am_I 0)))) (congrArg (fun z => (am_up (am_up (am_up (am_up z (3, 2 * i) (am_O 3 [am_R (211, 2 * i), am_R (212, 2 * i), am_R (213, 2 * i), am_I 0])) (211, 2 * i) (am_A 0 300 (fun _ => am_I 0))) (212, 2 * i) (am_A 0 300 (fun _ => am_I 0))) (213, 2 * i) (am_A 1 300 (fun _ => am_I 0)))) ((am_up_sw (am_nk (by decide))).trans (congrArg (fun z => am_up z _ _) am_up_up))) ?_
  refine am_putF eX7_init_28 fX7_20 rfl rfl rfl ((am_up_ne (am_nk (by decide))).trans ((am_up_ne (am_nk (by decide))).trans ((am_up_ne (am_nk (by decide))).trans ((am_up_ne (am_nk (by decide))).trans ((am_up_ne (am_nk (by decide))).trans ((am_up_ne (am_nk (by decide))).trans ((am_up_ne (am_nk (by decide))).trans ((am_up_ne (am_nk (by decide))).trans ((am_up_ne (am_nk (by decide))).trans ((am_up_ne (am_nk (by decide))).trans ((am_up_ne (am_nk (by decide))).trans ((am_up_ne (am_nk (by decide))).trans am_up_eq)))))))))))) (Nat.le_of_ble_eq_true rfl) trivial ?_
  refine am_heq (h' := (am_up (am_up (am_up (am_up (am_up (am_up (am_up (am_up (am_up (am_up (am_up (am_up (am_up h (7, i) (am_O 7 [am_I t, am_I 0, am_R (0, 2 * i + 1), am_R (0, 2 * i)])) (0, 2 * i + 1) (am_O 0 [am_R (210, 2 * i + 1), am_I 0, am_I 0, am_I (-1), am_R (3, 2 * i + 1)])) (210, 2 * i + 1) (am_A 0 200 (fun _ => am_I 0))) (3, 2 * i + 1) (am_O 3 [am_R (211, 2 * i + 1), am_R (212, 2 * i + 1), am_R (213, 2 * i + 1), am_I 0])) (211, 2 * i + 1) (am_A 0 300 (fun _ => am_I 0))) (212, 2 * i + 1) (am_A 0 300 (fun _ => am_I 0))) (213, 2 * i + 1) (am_A 1 300 (fun _ => am_I 0))) (0, 2 * i) (am_O 0 [am_R (210, 2 * i), am_I 0, am_I 0, am_I (-1), am_R (3, 2 * i)])) (210, 2 * i) (am_A 0 200 (fun _ => am_I 0))) (3, 2 * i) (am_O 3 [am_R (211, 2 * i), am_R (212, 2 * i), am_R (213, 2 * i), am_I 0])) (211, 2 * i) (am_A 0 300 (fun _ => am_I 0))) (212, 2 * i) (am_A 0 300 (fun _ => am_I 0))) (213, 2 * i) (am_A 1 300 (fun _ => am_I 0)))) ((am_up_sw (am_nk (by decide))).trans (congrArg (fun z => am_up z _ _) ((am_up_sw (am_nk (by decide))).trans (congrArg (fun z => am_up z _ _) ((am_up_sw (am_nk (by decide))).trans (congrArg (fun z => am_up z _ _) ((am_up_sw (am_nk (by decide))).trans (congrArg (fun z => am_up z _ _) ((am_up_sw (am_nk (by decide))).trans (congrArg (fun z => am_up z _ _) ((am_up_sw (am_nk (by decide))).trans (congrArg (fun z => am_up z _ _) ((am_up_sw (am_nk (by decide))).trans (congrArg (fun z => am_up z _ _) ((am_up_sw (am_nk (by decide))).trans (congrArg (fun z => am_up z _ _) ((am_up_sw (am_nk (by decide))).trans (congrArg (fun z => am_up z _ _) ((am_up_sw (am_nk (by decide))).trans (congrArg (fun z => am_up z _ _) ((am_up_sw (am_nk (by decide))).trans (congrArg (fun z => am_up z _ _) ((am_up_sw (am_nk (by decide))).trans (congrArg (fun z => am_up z _ _) am_up_up)))))))))))))))))))))))) ?_
  refine am_return eX7_init_31 rfl (by omega) (by omega) ?_
  exact ⟨rfl, rfl⟩
set_option maxRecDepth 100000 in
set_option maxHeartbeats 4000000 in
theorem c_X2_init {G : am_G} {h : am_AH} {i : Nat} {t u : Int} {b : Option am_Nm} (hb_u : u = 0 ∨ u = 1) (h0 : h (2, i) = some (am_O 2 [am_I 0, am_I 0, am_I 0, am_N, am_I 0, am_N])) (h1 : h (219, i) = none) : am_Con G yX2_init wX2_init 2 1 60 [am_R (2, i), am_I t, am_I u, (Sum.inr (Sum.inr b))] h (am_vd (am_up (am_up h (2, i) (am_O 2 [am_I t, am_I 0, am_I u, am_R (219, i), am_I 0, (Sum.inr (Sum.inr b))])) (219, i) (am_A 0 60 (fun _ => am_I 0)))) := by
  refine am_of2 (Y := mX2_init) (by decide +kernel) rfl (fun z => by first | rfl | cases z) rfl rfl (Nat.le_of_ble_eq_true rfl) fun X => ?_
  refine am_aload_n eX2_init_0 rfl ?_
  refine am_objInit eX2_init_1 oX2 x_oi1 x_oi2 (by decide) (by simp) ?_
  refine am_aload_n eX2_init_4 rfl ?_
  refine am_iload_n eX2_init_5 rfl ?_
  refine am_putF eX2_init_6 fX2_9 rfl rfl rfl h0 (Nat.le_of_ble_eq_true rfl) trivial ?_
  refine am_aload_n eX2_init_9 rfl ?_
  refine am_iload_n eX2_init_10 rfl ?_
  refine am_putF eX2_init_11 fX2_15 rfl rfl rfl am_up_eq (Nat.le_of_ble_eq_true rfl) (by show _ = (0 : Int) ∨ _ = (1 : Int); omega) ?_
  refine am_heq (h' := (am_up h (2, i) (am_O 2 [am_I t, am_I 0, am_I u, am_N, am_I 0, am_N]))) am_up_up ?_
  refine am_aload_n eX2_init_14 rfl ?_
  refine am_aload_n eX2_init_15 rfl ?_
  refine am_putF eX2_init_16 fX2_19 rfl rfl rfl am_up_eq (Nat.le_of_ble_eq_true rfl) trivial ?_
  refine am_heq (h' := (am_up h (2, i) (am_O 2 [am_I t, am_I 0, am_I u, am_N, am_I 0, (Sum.inr (Sum.inr b))]))) am_up_up ?_
  refine am_aload_n eX2_init_19 rfl ?_
  refine am_bipush eX2_init_20 (by decide) ?_
  refine am_newa (219, i) eX2_init_22 rfl x_arr0 (by decide) (by decide) (by decide) ((am_up_ne (am_nk (by decide))).trans h1) (am_nk (by decide)) (by omega) (by omega) ?_
  refine am_heq (h' := (am_up (am_up h (2, i) (am_O 2 [am_I t, am_I 0, am_I u, am_N, am_I 0, (Sum.inr (Sum.inr b))])) (219, i) (am_A 0 60 (fun _ => am_I 0)))) rfl ?_
  refine am_putF eX2_init_24 fX2_23 rfl rfl rfl ((am_up_ne (am_nk (by decide))).trans am_up_eq) (Nat.le_of_ble_eq_true rfl) trivial ?_
  refine am_heq (h' := (am_up (am_up h (2, i) (am_O 2 [am_I t, am_I 0, am_I u, am_R (219, i), am_I 0, (Sum.inr (Sum.inr b))])) (219, i) (am_A 0 60 (fun _ => am_I 0)))) ((am_up_sw (am_nk (by decide))).trans (congrArg (fun z => am_up z _ _) am_up_up)) ?_
  refine am_return eX2_init_27 rfl (by omega) (by omega) ?_
  exact ⟨rfl, rfl⟩

