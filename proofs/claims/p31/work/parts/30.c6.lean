section AmCM
variable {G : am_G} {X : am_X} {Y : am_Y} {d mc ms : Nat} {Qs : State → Prop} {pc q t : Nat} {ls : List (Option am_AV)} {st : List am_AV} {h h1 : am_AH} {k n : Nat}
variable {idx ci na d' mc' ms' nL' : Nat} {y : MethodName} {bytes : ByteArray} {ret : Option FieldType} {as fs st0 : List am_AV} {nm : am_Nm}
theorem am_cM_v (hd : am_d Y.1 pc (.invokevirtual idx) 3 q) (hw : am_mv_ Y.2.2.1 idx ci y na (.code y bytes nL' ret)) (hC : am_Con G y (.code y bytes nL' ret) d' mc' ms' (am_R nm :: as) h (am_vd h1)) (hst0 : st0 = as.reverse ++ am_R nm :: st) (hna : as.length = na) (hh : h nm = some (am_O ci fs)) (hdd : d' + 1 ≤ d) (hnL : nL' ≤ 17) (hst : st.length ≤ 4) (hk : k + mc' ≤ mc) (hn : n + ms' ≤ ms)
    (kk : am_W G X Y d mc ms Qs q ls st h1 (k + mc') (n + ms')) : am_W G X Y d mc ms Qs pc ls st0 h k n :=
  am_callV hd hw hC hst0 hna hh hdd hnL hst hk hn (fun r h' hq => by obtain ⟨e1, rfl⟩ := hq; cases e1; exact kk) (fun x h' hq => by obtain ⟨e1, -⟩ := hq; cases e1)
end AmCM
def sx_beg (σ : sg_S) (w : Nat) (t u : Int) : sg_S := if u = 0 ∧ ¬ (0 < σ 28 w ∧ σ 62 (sx_k σ w) ≠ 0) then sx_new (st σ 28 w 0) w t u else sx_new σ w t u
set_option maxRecDepth 100000 in
set_option maxHeartbeats 4000000 in
theorem lq_X6_begin {G : am_G} {m x : sg_S} {T : Int} (hW : md_wb T x) (h51 : 0 ≤ x 51 0) (h56 : ∀ w j, 0 ≤ x 56 (40 * w + j)) {w : Nat} (hw : w < 2) (h39 : x 28 w ≤ 38) {t u : Int} (hb_u : u = 0 ∨ u = 1) (X : am_X) : am_W G X mX6_begin 3 2 66 (am_end G X 2 66 (am_vd (en_h m (sx_new x w t u)))) 25 [some (am_R (6, w)), some (am_I t), some (am_I u)] [] (en_h m x) 0 0 := by
  have b28 := wb28 hW w
  obtain ⟨n, hn⟩ : ∃ n : Nat, x 51 0 = (n : Int) := ⟨(x 51 0).toNat, by omega⟩
  by_cases c0 : x 28 w ≤ 0
  · refine am_aload_n eX6_begin_25 rfl ?_
    refine am_new (2, n) eX6_begin_26 lX6_9 (en_n2 hn) (am_nk (by decide)) (by omega) (by omega) ?_
    refine am_heq (h' := (am_up (en_h m x) (2, n) (am_O 2 [am_I 0, am_I 0, am_I 0, am_N, am_I 0, am_N]))) rfl ?_
    refine am_dup (by simp) eX6_begin_29 ?_
    refine am_iload_n eX6_begin_30 rfl ?_
    refine am_iload_n eX6_begin_31 rfl ?_
    refine am_aload_n eX6_begin_32 rfl ?_
    refine am_getf (v := am_N) eX6_begin_33 fX6_32 ((am_up_ne (am_nk (by decide))).trans (en_c6N hw c0)) rfl ?_
    refine am_cI eX6_begin_36 kX6_42 (c_X2_init (i := n) (t := t) (u := u) hb_u am_up_eq ((am_up_ne (am_nk (by decide))).trans (en_n219 hn))) rfl rfl (by decide) (by decide) (by simp) (by omega) (by omega) ?_
    refine am_heq (h' := (am_up (am_up (en_h m x) (2, n) (am_O 2 [am_I t, am_I 0, am_I u, am_R (219, n), am_I 0, am_N])) (219, n) (am_A 0 60 (fun _ => am_I 0)))) (congrArg (fun z => (am_up z (219, n) (am_A 0 60 (fun _ => am_I 0)))) am_up_up) ?_
    refine am_putf eX6_begin_39 fX6_32 rfl ((am_up_ne (am_nk (by decide))).trans ((am_up_ne (am_nk (by decide))).trans (en_c6N hw c0))) (Nat.le_of_ble_eq_true rfl) trivial ?_
    refine am_aload_n eX6_begin_42 rfl ?_
    refine am_dup (by simp) eX6_begin_43 ?_
    refine am_getf (v := am_I (x 28 w)) eX6_begin_44 fX6_45 am_up_eq rfl ?_
    refine am_iconst eX6_begin_47 ?_
    refine am_iadd eX6_begin_48 ?_
    refine am_putf eX6_begin_49 fX6_45 rfl am_up_eq (Nat.le_of_ble_eq_true rfl) trivial ?_
    refine am_heq (h' := (am_up (am_up (am_up (en_h m x) (2, n) (am_O 2 [am_I t, am_I 0, am_I u, am_R (219, n), am_I 0, am_N])) (219, n) (am_A 0 60 (fun _ => am_I 0))) (6, w) (am_O 6 [am_R (218, w), am_I (x 33 w), am_R (2, n), am_I ((x 28 w) + 1), am_I (x 27 w)]))) am_up_up ?_
    refine am_return eX6_begin_52 rfl (by omega) (by omega) ?_
    exact ⟨rfl, (cx_new hw hn (wb28 hW) h56 (by rw [if_pos c0]))⟩
  · obtain ⟨k, hk⟩ : ∃ z, sx_k x w = z := ⟨_, rfl⟩
    refine am_aload_n eX6_begin_25 rfl ?_
    refine am_new (2, n) eX6_begin_26 lX6_9 (en_n2 hn) (am_nk (by decide)) (by omega) (by omega) ?_
    refine am_heq (h' := (am_up (en_h m x) (2, n) (am_O 2 [am_I 0, am_I 0, am_I 0, am_N, am_I 0, am_N]))) rfl ?_
    refine am_dup (by simp) eX6_begin_29 ?_
    refine am_iload_n eX6_begin_30 rfl ?_
    refine am_iload_n eX6_begin_31 rfl ?_
    refine am_aload_n eX6_begin_32 rfl ?_
    refine am_getf (v := am_R (2, k)) eX6_begin_33 fX6_32 ((am_up_ne (am_nk (by decide))).trans (en_c6R hw c0 hk)) rfl ?_
    refine am_cI eX6_begin_36 kX6_42 (c_X2_init (i := n) (t := t) (u := u) hb_u am_up_eq ((am_up_ne (am_nk (by decide))).trans (en_n219 hn))) rfl rfl (by decide) (by decide) (by simp) (by omega) (by omega) ?_
    refine am_heq (h' := (am_up (am_up (en_h m x) (2, n) (am_O 2 [am_I t, am_I 0, am_I u, am_R (219, n), am_I 0, am_R (2, k)])) (219, n) (am_A 0 60 (fun _ => am_I 0)))) (congrArg (fun z => (am_up z (219, n) (am_A 0 60 (fun _ => am_I 0)))) am_up_up) ?_
    refine am_putf eX6_begin_39 fX6_32 rfl ((am_up_ne (am_nk (by decide))).trans ((am_up_ne (am_nk (by decide))).trans (en_c6R hw c0 hk))) (Nat.le_of_ble_eq_true rfl) trivial ?_
    refine am_aload_n eX6_begin_42 rfl ?_
    refine am_dup (by simp) eX6_begin_43 ?_
    refine am_getf (v := am_I (x 28 w)) eX6_begin_44 fX6_45 am_up_eq rfl ?_
    refine am_iconst eX6_begin_47 ?_
    refine am_iadd eX6_begin_48 ?_
    refine am_putf eX6_begin_49 fX6_45 rfl am_up_eq (Nat.le_of_ble_eq_true rfl) trivial ?_
    refine am_heq (h' := (am_up (am_up (am_up (en_h m x) (2, n) (am_O 2 [am_I t, am_I 0, am_I u, am_R (219, n), am_I 0, am_R (2, k)])) (219, n) (am_A 0 60 (fun _ => am_I 0))) (6, w) (am_O 6 [am_R (218, w), am_I (x 33 w), am_R (2, n), am_I ((x 28 w) + 1), am_I (x 27 w)]))) am_up_up ?_
    refine am_return eX6_begin_52 rfl (by omega) (by omega) ?_
    exact ⟨rfl, (cx_new hw hn (wb28 hW) h56 (by rw [if_neg c0, ← hk]; rfl))⟩
set_option maxRecDepth 100000 in
set_option maxHeartbeats 4000000 in
theorem c_X6_begin {G : am_G} {m x : sg_S} {T : Int} (hW : md_wb T x) (hD : sg_D x) {w : Nat} (hw : w < 2) (h39 : x 28 w ≤ 38) {t u : Int} (hb_u : u = 0 ∨ u = 1) : am_Con G yX6_begin wX6_begin 3 2 66 [am_R (6, w), am_I t, am_I u] (en_h m x) (am_vd (en_h m (sx_beg x w t u))) := by
  refine am_of2 (Y := mX6_begin) (by decide +kernel) rfl (fun z => by cases z) rfl rfl (Nat.le_of_ble_eq_true rfl) fun X => ?_
  have b28 := wb28 hW w
  by_cases c0 : x 28 w ≤ 0
  · refine am_iload_n eX6_begin_0 rfl ?_
    refine am_if_ne ⟨by omega, by omega⟩ eX6_begin_1 (fun c1 => ?_) (fun c1 => ?_)
    · exact am_mono (lq_X6_begin hW hD.1.1 (fun a b => (hD.1.2 a b).1) hw (by omega) hb_u X) (fun r h' q => ⟨q.1, q.2.trans (by unfold sx_beg; (try rw [hk]); first | rw [if_neg (by omega)] | (rw [if_pos (by omega), show (0 : Int) = x 28 w by omega, st_id]))⟩)
    · refine am_aload_n eX6_begin_4 rfl ?_
      refine am_getf (v := am_N) eX6_begin_5 fX6_32 (en_c6N hw c0) rfl ?_
      refine am_ifnull eX6_begin_8 (fun _ => ?_) (fun _ z => nomatch z)
      exact am_mono (lq_X6_begin hW hD.1.1 (fun a b => (hD.1.2 a b).1) hw (by omega) hb_u X) (fun r h' q => ⟨q.1, q.2.trans (by unfold sx_beg; (try rw [hk]); first | rw [if_neg (by omega)] | (rw [if_pos (by omega), show (0 : Int) = x 28 w by omega, st_id]))⟩)
  · obtain ⟨k, hk⟩ : ∃ z, sx_k x w = z := ⟨_, rfl⟩
    have hT := sg_D_top hD hw c0
    rw [hk] at hT
    have b30 := wb30 hW (40 * w + ((x 28 w).toNat - 1))
    have e62 := hT.2.1.2.1
    refine am_iload_n eX6_begin_0 rfl ?_
    refine am_if_ne ⟨by omega, by omega⟩ eX6_begin_1 (fun c1 => ?_) (fun c1 => ?_)
    · exact am_mono (lq_X6_begin hW hD.1.1 (fun a b => (hD.1.2 a b).1) hw (by omega) hb_u X) (fun r h' q => ⟨q.1, q.2.trans (by unfold sx_beg; (try rw [hk]); first | rw [if_neg (by omega)] | (rw [if_pos (by omega), show (0 : Int) = x 28 w by omega, st_id]))⟩)
    · refine am_aload_n eX6_begin_4 rfl ?_
      refine am_getf (v := am_R (2, k)) eX6_begin_5 fX6_32 (en_c6R hw c0 hk) rfl ?_
      refine am_ifnull eX6_begin_8 (fun z => nomatch z) (fun _ _ => ?_)
      refine am_aload_n eX6_begin_11 rfl ?_
      refine am_getf (v := am_R (2, k)) eX6_begin_12 fX6_32 (en_c6R hw c0 hk) rfl ?_
      refine am_getf (v := am_I (x 62 k)) eX6_begin_15 fX6_39 (en_c2 hT.1) rfl ?_
      refine am_if_ne ⟨by omega, by omega⟩ eX6_begin_18 (fun c2 => ?_) (fun c2 => ?_)
      · exact am_mono (lq_X6_begin hW hD.1.1 (fun a b => (hD.1.2 a b).1) hw (by omega) hb_u X) (fun r h' q => ⟨q.1, q.2.trans (by unfold sx_beg; (try rw [hk]); first | rw [if_neg (by omega)] | (rw [if_pos (by omega), show (0 : Int) = x 28 w by omega, st_id]))⟩)
      · refine am_aload_n eX6_begin_21 rfl ?_
        refine am_cM_v (mc' := 0) (ms' := 0) eX6_begin_22 kX6_29 (c_X6_dropAll (m := m) (x := x) hw) rfl rfl (en_c6 hw) (by decide) (by decide) (Nat.le_of_ble_eq_true rfl) (by decide) (by decide) ?_
        exact am_mono (lq_X6_begin (wb_st hW (by show (0 : Int) ≤ _; omega) (by show _ ≤ (39 : Int); omega)) (by rw [st_nf (by decide)]; exact hD.1.1) (fun a b => by rw [st_nf (by decide)]; exact (hD.1.2 a b).1) hw (by rw [st_eq]; decide) hb_u X) (fun r h' q => ⟨q.1, q.2.trans (by unfold sx_beg; (try rw [hk]); rw [if_pos (by omega)])⟩)

