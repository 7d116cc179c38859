/-! the model's constructor: its arrays made one behind another, fields before b done -/
def mi_fs (s : sg_S) (b : Nat) : List am_AV := (List.range 43).map fun j => if md_len j = 0 then am_I (s j 0) else if j < b then am_R (100 + j, 0) else am_N
def mi_h (h : am_AH) (s : sg_S) (b : Nat) : am_AH := fun n => if n = (9, 0) then some (am_O 9 (mi_fs s b)) else if (100 ≤ n.1 ∧ n.1 < 143 ∧ n.2 = 0) ∧ md_len (n.1 - 100) ≠ 0 ∧ n.1 - 100 < b then some (md_arr s (n.1 - 100)) else h n
theorem mi_fs_at {s : sg_S} {b j : Nat} (h : j < 43) : (mi_fs s b)[j]? = some (if md_len j = 0 then am_I (s j 0) else if j < b then am_R (100 + j, 0) else am_N) := by simp [mi_fs, h]
theorem mi_fs_len {s : sg_S} {b : Nat} : (mi_fs s b).length = 43 := by simp [mi_fs]
theorem mi_9 {h : am_AH} {s : sg_S} {b : Nat} : mi_h h s b (9, 0) = some (am_O 9 (mi_fs s b)) := if_pos rfl
theorem mi_skip {h : am_AH} {s : sg_S} {f : Nat} (hl : md_len f = 0) : mi_h h s f = mi_h h s (f + 1) := by
  have e1 : mi_fs s f = mi_fs s (f + 1) := by
    refine List.ext_getElem? fun j => ?_
    by_cases hj : j < 43
    · rw [mi_fs_at hj, mi_fs_at hj]
      by_cases h0 : md_len j = 0
      · rw [if_pos h0, if_pos h0]
      · rw [if_neg h0, if_neg h0]
        have hne : j ≠ f := fun z => h0 (by rw [z]; exact hl)
        by_cases c : j < f
        · rw [if_pos c, if_pos (by omega)]
        · rw [if_neg c, if_neg (by omega)]
    · rw [List.getElem?_eq_none (by rw [mi_fs_len]; omega), List.getElem?_eq_none (by rw [mi_fs_len]; omega)]
  funext n
  unfold mi_h
  rw [e1]
  by_cases c : n = (9, 0)
  · rw [if_pos c, if_pos c]
  · rw [if_neg c, if_neg c]
    by_cases c1 : (100 ≤ n.1 ∧ n.1 < 143 ∧ n.2 = 0) ∧ md_len (n.1 - 100) ≠ 0 ∧ n.1 - 100 < f
    · rw [if_pos c1, if_pos ⟨c1.1, c1.2.1, by omega⟩]
    · rw [if_neg c1, if_neg (fun z => c1 ⟨z.1, z.2.1, by
        have : n.1 - 100 ≠ f := fun y => z.2.1 (by rw [y]; exact hl)
        omega⟩)]
theorem mi_step {h : am_AH} {s : sg_S} {f : Nat} (hl : md_len f ≠ 0) (hf : f < 43) : am_up (am_up (mi_h h s f) (100 + f, 0) (md_arr s f)) (9, 0) (am_O 9 ((mi_fs s f).set f (am_R (100 + f, 0)))) = mi_h h s (f + 1) := by
  funext n
  simp only [am_up]
  unfold mi_h
  by_cases c : n = (9, 0)
  · rw [if_pos c, if_pos c]
    refine congrArg some (congrArg (am_O 9) (List.ext_getElem? fun j => ?_))
    by_cases hj : j < 43
    · by_cases ej : j = f
      · subst ej
        rw [List.getElem?_set_self (by rw [mi_fs_len]; exact hj), mi_fs_at hj, if_neg hl, if_pos (by omega)]
      · rw [List.getElem?_set_ne (Ne.symm ej), mi_fs_at hj, mi_fs_at hj]
        by_cases h0 : md_len j = 0
        · rw [if_pos h0, if_pos h0]
        · rw [if_neg h0, if_neg h0]
          by_cases c2 : j < f
          · rw [if_pos c2, if_pos (by omega)]
          · rw [if_neg c2, if_neg (by omega)]
    · rw [List.getElem?_eq_none (by rw [List.length_set, mi_fs_len]; omega), List.getElem?_eq_none (by rw [mi_fs_len]; omega)]
  · rw [if_neg c, if_neg c]
    by_cases e : n = (100 + f, 0)
    · rw [if_pos e]
      subst e
      rw [if_neg c, if_pos ⟨⟨by show 100 ≤ 100 + f; omega, by show 100 + f < 143; omega, rfl⟩, by show md_len (100 + f - 100) ≠ 0; rw [Nat.add_sub_cancel_left]; exact hl, by show 100 + f - 100 < f + 1; omega⟩]
      show some (md_arr s f) = some (md_arr s (100 + f - 100))
      rw [Nat.add_sub_cancel_left]
    · rw [if_neg e, if_neg c]
      by_cases c1 : (100 ≤ n.1 ∧ n.1 < 143 ∧ n.2 = 0) ∧ md_len (n.1 - 100) ≠ 0 ∧ n.1 - 100 < f
      · rw [if_pos c1, if_pos ⟨c1.1, c1.2.1, by omega⟩]
      · rw [if_neg c1, if_neg (fun z => c1 ⟨z.1, z.2.1, by
          have : n.1 - 100 ≠ f := fun y => e (Prod.ext (by show n.1 = 100 + f; omega) z.1.2.2)
          omega⟩)]
theorem mi_ast {h : am_AH} {s : sg_S} {f j : Nat} {v : Int} (hl : md_len f ≠ 0) (hf : f < 43) : am_up (mi_h h s 43) (100 + f, 0) (am_A (md_kd f) (md_len f) (fun z => am_I (if z = j then v else s f z))) = mi_h h (st s f j v) 43 := by
  have e1 : mi_fs (st s f j v) 43 = mi_fs s 43 := by
    refine List.ext_getElem? fun i => ?_
    by_cases hi : i < 43
    · rw [mi_fs_at hi, mi_fs_at hi]
      by_cases h0 : md_len i = 0
      · rw [if_pos h0, if_pos h0, st_nf (fun z => hl (by rw [← z]; exact h0))]
      · rw [if_neg h0, if_neg h0]
    · rw [List.getElem?_eq_none (by rw [mi_fs_len]; omega), List.getElem?_eq_none (by rw [mi_fs_len]; omega)]
  funext n
  simp only [am_up]
  by_cases e : n = (100 + f, 0)
  · rw [if_pos e]
    subst e
    unfold mi_h
    rw [if_neg (show ((100 + f, 0) : am_Nm) ≠ (9, 0) from fun z => absurd (congrArg Prod.fst z) (by show 100 + f ≠ 9; omega)), if_pos ⟨⟨by show 100 ≤ 100 + f; omega, by show 100 + f < 143; omega, rfl⟩, by show md_len (100 + f - 100) ≠ 0; rw [Nat.add_sub_cancel_left]; exact hl, by show 100 + f - 100 < 43; omega⟩]
    show _ = some (md_arr (st s f j v) (100 + f - 100))
    rw [Nat.add_sub_cancel_left]
    refine congrArg some (congrArg (am_A (md_kd f) (md_len f)) (funext fun z => congrArg am_I ?_))
    simp [st]
  · rw [if_neg e]
    unfold mi_h
    rw [e1]
    by_cases c : n = (9, 0)
    · rw [if_pos c, if_pos c]
    · rw [if_neg c, if_neg c]
      by_cases c1 : (100 ≤ n.1 ∧ n.1 < 143 ∧ n.2 = 0) ∧ md_len (n.1 - 100) ≠ 0 ∧ n.1 - 100 < 43
      · rw [if_pos c1, if_pos c1]
        have hne : n.1 - 100 ≠ f := fun y => e (Prod.ext (by show n.1 = 100 + f; omega) c1.1.2.2)
        simp only [md_arr, st_nf hne]
      · rw [if_neg c1, if_neg c1]
theorem mi_at {h : am_AH} {s : sg_S} {f : Nat} (hl : md_len f ≠ 0) (hf : f < 43) : mi_h h s 43 (100 + f, 0) = some (md_arr s f) := by
  unfold mi_h
  rw [if_neg (show ((100 + f, 0) : am_Nm) ≠ (9, 0) from fun z => absurd (congrArg Prod.fst z) (by show 100 + f ≠ 9; omega)), if_pos ⟨⟨by show 100 ≤ 100 + f; omega, by show 100 + f < 143; omega, rfl⟩, by show md_len (100 + f - 100) ≠ 0; rw [Nat.add_sub_cancel_left]; exact hl, by show 100 + f - 100 < 43; omega⟩]
  show some (md_arr s (100 + f - 100)) = _
  rw [Nat.add_sub_cancel_left]
section MiRules
variable {G : am_G} {X : am_X} {Y : am_Y} {d mc ms : Nat} {Q : State → Prop} {pc q q2 : Nat} {ls : List (Option am_AV)} {st9 : List am_AV} {h : am_AH} {s : sg_S} {k n : Nat}
/-- an array's cell counts up to its length alone -/
theorem am_aext {nm : am_Nm} {kd len : Nat} {f g : Nat → am_AV} (hh : h nm = some (am_A kd len f)) (hfg : ∀ j, j < len → f j = g j) (kk : am_W G X Y d mc ms Q pc ls st9 (am_up h nm (am_A kd len g)) k n) : am_W G X Y d mc ms Q pc ls st9 h k n := by
  obtain ⟨p, e, R, s0, m, args, below, meth, c, ι0⟩ := X
  intro ok ι H lr sr lc hr hl ht
  obtain ⟨a, ha, w, h1, h2⟩ := hr.1.1 nm _ hh
  refine kk ok ι H lr sr lc ⟨am_H_set hr.1 hh ha rfl (fun _ _ => rfl) ?_, hr.2⟩ hl ht
  exact ⟨w, h1, fun j hj => hfg j hj ▸ h2 j hj⟩
theorem mi_arr {at9 : ArrayType} {kd f idx : Nat} {len : Int} (hd : am_d Y.1 pc (.newarray at9) 2 q) (hd2 : am_d Y.1 q (.putfield idx) 3 q2) (hty : newarray.typeOf at9 = am_ty kd) (hw : Cond.arrayClass (am_ty kd) ∈ am_uw) (hkd : kd < 2) (hf : am_fl Y.2.2.1 idx 9 f) (hfin : am_fin 9 f = true) (hinit : Y.2.2.2.2.1 = true) (hcl : (vwCl[9]?).map (fun r => r.1) = some Y.2.2.1) (hlt : f < 43) (hlen : md_len f = len.toNat) (hl0 : md_len f ≠ 0) (hk9 : md_kd f = kd) (h0 : 0 ≤ len) (h1 : len ≤ 10000) (hs : ∀ z, s f z = 0) (hn : h (100 + f, 0) = none) (hfit : am_fit (am_fty 9 f) (am_R (100 + f, 0))) (hk : k + 1 ≤ mc) (hms : n + len.toNat ≤ ms)
    (kk : am_W G X Y d mc ms Q q2 ls st9 (mi_h h s (f + 1)) (k + 1) (n + len.toNat)) : am_W G X Y d mc ms Q pc ls (am_I len :: am_R (9, 0) :: st9) (mi_h h s f) k n := by
  have e1 : mi_h h s f (100 + f, 0) = none := by
    unfold mi_h
    rw [if_neg (show ((100 + f, 0) : am_Nm) ≠ (9, 0) from fun z => absurd (congrArg Prod.fst z) (by show 100 + f ≠ 9; omega)), if_neg (fun z => absurd z.2.2 (by show ¬ 100 + f - 100 < f; omega))]
    exact hn
  refine am_newa (100 + f, 0) hd hty hw (by omega) h0 h1 e1 (fun z => absurd (congrArg Prod.fst z) (by show 100 + f ≠ 99; omega)) hk hms ?_
  refine am_heq (h' := am_up (mi_h h s f) (100 + f, 0) (md_arr s f)) ?_ ?_
  · refine congrArg (fun z => am_up _ _ z) ?_
    unfold md_arr
    rw [hk9, hlen]
    refine congrArg (am_A kd len.toNat) (funext fun z => ?_)
    rw [if_neg (by omega), hs]
  refine am_putF hd2 hf hfin hinit hcl ((am_up_ne (fun z => absurd (congrArg Prod.fst z) (by show 9 ≠ 100 + f; omega))).trans mi_9) (by rw [mi_fs_len]; exact hlt) hfit (am_heq (mi_step hl0 hlt) kk)
end MiRules
/-- the start's state -/
def s_0 : sg_S := fun f j => if f = 15 then -1 else if f = 1 ∧ j = 0 then 360 else 0
def s_a (n : Nat) : sg_S := fun f j => if f = 15 ∧ j < n then -1 else if f = 1 ∧ j = 0 then 360 else 0
theorem s_a_st {n : Nat} : st (s_a n) 15 n (-1) = s_a (n + 1) := by
  funext f j
  simp only [st, s_a]
  by_cases c : f = 15
  · subst c
    by_cases c1 : j = n
    · rw [if_pos ⟨rfl, c1⟩, if_pos ⟨rfl, by omega⟩]
    · rw [if_neg (fun z => c1 z.2)]
      by_cases c2 : j < n
      · rw [if_pos ⟨rfl, c2⟩, if_pos ⟨rfl, by omega⟩]
      · rw [if_neg (show ¬ ((15 : Nat) = 15 ∧ j < n) by omega), if_neg (show ¬ ((15 : Nat) = 15 ∧ j < n + 1) by omega)]
  · rw [if_neg (show ¬ (f = 15 ∧ j = n) from fun z => c z.1), if_neg (show ¬ (f = 15 ∧ j < n) from fun z => c z.1), if_neg (show ¬ (f = 15 ∧ j < n + 1) from fun z => c z.1)]
set_option maxRecDepth 100000 in
set_option maxHeartbeats 4000000 in
theorem lp_X9_init {G : am_G} {X : am_X} {h : am_AH} {Q : State → Prop} {kc nc : Nat} (kk : am_W G X mX9_init 2 40 43000 Q 325 [some (am_R (9, 0)), some (am_I 24)] [] (mi_h h (s_a 24) 43) kc nc) : ∀ (n j : Nat) (jv : Int), jv = (j : Int) → j + n = 24 → am_W G X mX9_init 2 40 43000 Q 306 [some (am_R (9, 0)), some (am_I jv)] [] (mi_h h (s_a j) 43) kc nc := by
  intro n
  induction n with
  | zero =>
    intro j jv hv hj
    obtain rfl : j = 24 := by omega
    subst hv
    refine am_iload_n eX9_init_306 rfl ?_
    refine am_bipush eX9_init_307 (by decide) ?_
    refine am_icmp_ge ⟨by omega, by omega⟩ ⟨by omega, by omega⟩ eX9_init_309 (fun _ => kk) (fun c => absurd c (by decide))
  | succ n ih =>
    intro j jv hv hj
    refine am_iload_n eX9_init_306 rfl ?_
    refine am_bipush eX9_init_307 (by decide) ?_
    refine am_icmp_ge ⟨by omega, by omega⟩ ⟨by omega, by omega⟩ eX9_init_309 (fun c => absurd c (by omega)) (fun c1 => ?_)
    refine am_aload_n eX9_init_312 rfl ?_
    refine am_getf (v := am_R (115, 0)) eX9_init_313 fX9_44 mi_9 (by rw [mi_fs_at (by decide)]; rfl) ?_
    refine am_iload_n eX9_init_316 rfl ?_
    refine am_iconst eX9_init_317 ?_
    refine am_iast (len := 24) eX9_init_318 (mi_at (f := 15) (by decide) (by decide)) (by omega) (by omega) (by decide) ?_
    refine am_heq (h' := mi_h h (s_a (j + 1)) 43) ?_ ?_
    · rw [am_uf_I, hv, Int.toNat_natCast, ← s_a_st]
      exact mi_ast (f := 15) (by decide) (by decide)
    refine am_iinc eX9_init_319 rfl (by decide) ?_
    refine am_goto eX9_init_322 ?_
    exact ih (j + 1) _ (by omega) (by omega)
set_option maxRecDepth 100000 in
set_option maxHeartbeats 4000000 in
theorem c_X9_init {G : am_G} {h : am_AH} (h9 : h (9, 0) = some (am_O 9 (am_dfs 9 43))) (hn : ∀ f, f < 43 → h (100 + f, 0) = none) : am_Con G yX9_init wX9_init 2 40 43000 [am_R (9, 0)] h (am_vd (mi_h h s_0 43)) := by
  refine am_of2 (Y := mX9_init) (by decide +kernel) rfl (fun z => by first | rfl | cases z) rfl rfl (Nat.le_of_ble_eq_true rfl) fun X => ?_
  refine am_aload_n eX9_init_0 rfl ?_
  refine am_objInit eX9_init_1 oX9 x_oi1 x_oi2 (by decide) (by simp) ?_
  refine am_aload_n eX9_init_4 rfl ?_
  refine am_sipush eX9_init_5 (by decide) ?_
  refine am_putf eX9_init_8 fX9_7 rfl h9 (Nat.le_of_ble_eq_true rfl) trivial ?_
  refine am_heq (h' := mi_h h (s_a 0) 4) ?_ ?_
  · funext q
    simp only [am_up]
    unfold mi_h
    by_cases c : q = (9, 0)
    · rw [if_pos c, if_pos c]
      rfl
    · rw [if_neg c, if_neg c]
      by_cases c1 : (100 ≤ q.1 ∧ q.1 < 143 ∧ q.2 = 0) ∧ md_len (q.1 - 100) ≠ 0 ∧ q.1 - 100 < 4
      · exfalso
        obtain ⟨-, c2, c3⟩ := c1
        generalize q.1 - 100 = z at c2 c3
        match z, c3 with
        | 0, _ => exact c2 rfl
        | 1, _ => exact c2 rfl
        | 2, _ => exact c2 rfl
        | 3, _ => exact c2 rfl
      · rw [if_neg c1]
  have hs : ∀ f z, f ≠ 1 → s_a 0 f z = 0 := fun f z hf => by unfold s_a; rw [if_neg (by omega), if_neg (by omega)]
  refine am_aload_n eX9_init_11 rfl ?_
  refine am_bipush eX9_init_12 (by decide) ?_
  refine mi_arr (f := 4) (len := 12) eX9_init_14 eX9_init_16 rfl x_arr0 (by decide) fX9_13 rfl rfl rfl (by decide) rfl (by decide) rfl (by decide) (by decide) (fun z => hs 4 z (by decide)) (hn 4 (by decide)) trivial (by decide) (Nat.le_of_ble_eq_true rfl) ?_
  refine am_aload_n eX9_init_19 rfl ?_
  refine am_bipush eX9_init_20 (by decide) ?_
  refine mi_arr (f := 5) (len := 12) eX9_init_22 eX9_init_24 rfl x_arr0 (by decide) fX9_17 rfl rfl rfl (by decide) rfl (by decide) rfl (by decide) (by decide) (fun z => hs 5 z (by decide)) (hn 5 (by decide)) trivial (by decide) (Nat.le_of_ble_eq_true rfl) ?_
  refine am_aload_n eX9_init_27 rfl ?_
  refine am_bipush eX9_init_28 (by decide) ?_
  refine mi_arr (f := 6) (len := 12) eX9_init_30 eX9_init_32 rfl x_arr0 (by decide) fX9_20 rfl rfl rfl (by decide) rfl (by decide) rfl (by decide) (by decide) (fun z => hs 6 z (by decide)) (hn 6 (by decide)) trivial (by decide) (Nat.le_of_ble_eq_true rfl) ?_
  refine am_aload_n eX9_init_35 rfl ?_
  refine am_bipush eX9_init_36 (by decide) ?_
  refine mi_arr (f := 7) (len := 12) eX9_init_38 eX9_init_40 rfl x_arr0 (by decide) fX9_23 rfl rfl rfl (by decide) rfl (by decide) rfl (by decide) (by decide) (fun z => hs 7 z (by decide)) (hn 7 (by decide)) trivial (by decide) (Nat.le_of_ble_eq_true rfl) ?_
  refine am_aload_n eX9_init_43 rfl ?_
  refine am_bipush eX9_init_44 (by decide) ?_
  refine mi_arr (f := 8) (len := 12) eX9_init_46 eX9_init_48 rfl x_arr0 (by decide) fX9_26 rfl rfl rfl (by decide) rfl (by decide) rfl (by decide) (by decide) (fun z => hs 8 z (by decide)) (hn 8 (by decide)) trivial (by decide) (Nat.le_of_ble_eq_true rfl) ?_
  refine am_aload_n eX9_init_51 rfl ?_
  refine am_bipush eX9_init_52 (by decide) ?_
  refine mi_arr (f := 9) (len := 36) eX9_init_54 eX9_init_56 rfl x_arr0 (by decide) fX9_29 rfl rfl rfl (by decide) rfl (by decide) rfl (by decide) (by decide) (fun z => hs 9 z (by decide)) (hn 9 (by decide)) trivial (by decide) (Nat.le_of_ble_eq_true rfl) ?_
  refine am_aload_n eX9_init_59 rfl ?_
  refine am_bipush eX9_init_60 (by decide) ?_
  refine mi_arr (f := 10) (len := 36) eX9_init_62 eX9_init_64 rfl x_arr0 (by decide) fX9_32 rfl rfl rfl (by decide) rfl (by decide) rfl (by decide) (by decide) (fun z => hs 10 z (by decide)) (hn 10 (by decide)) trivial (by decide) (Nat.le_of_ble_eq_true rfl) ?_
  refine am_heq (mi_skip (f := 11) rfl) ?_
  refine am_aload_n eX9_init_67 rfl ?_
  refine am_bipush eX9_init_68 (by decide) ?_
  refine mi_arr (f := 12) (len := 24) eX9_init_70 eX9_init_72 rfl x_arr0 (by decide) fX9_35 rfl rfl rfl (by decide) rfl (by decide) rfl (by decide) (by decide) (fun z => hs 12 z (by decide)) (hn 12 (by decide)) trivial (by decide) (Nat.le_of_ble_eq_true rfl) ?_
  refine am_aload_n eX9_init_75 rfl ?_
  refine am_bipush eX9_init_76 (by decide) ?_
  refine mi_arr (f := 13) (len := 24) eX9_init_78 eX9_init_80 rfl x_arr0 (by decide) fX9_38 rfl rfl rfl (by decide) rfl (by decide) rfl (by decide) (by decide) (fun z => hs 13 z (by decide)) (hn 13 (by decide)) trivial (by decide) (Nat.le_of_ble_eq_true rfl) ?_
  refine am_aload_n eX9_init_83 rfl ?_
  refine am_sipush eX9_init_84 (by decide) ?_
  refine mi_arr (f := 14) (len := 5280) eX9_init_87 eX9_init_89 rfl x_arr0 (by decide) fX9_41 rfl rfl rfl (by decide) rfl (by decide) rfl (by decide) (by decide) (fun z => hs 14 z (by decide)) (hn 14 (by decide)) trivial (by decide) (Nat.le_of_ble_eq_true rfl) ?_
  refine am_aload_n eX9_init_92 rfl ?_
  refine am_bipush eX9_init_93 (by decide) ?_
  refine mi_arr (f := 15) (len := 24) eX9_init_95 eX9_init_97 rfl x_arr0 (by decide) fX9_44 rfl rfl rfl (by decide) rfl (by decide) rfl (by decide) (by decide) (fun z => hs 15 z (by decide)) (hn 15 (by decide)) trivial (by decide) (Nat.le_of_ble_eq_true rfl) ?_
  refine am_aload_n eX9_init_100 rfl ?_
  refine am_bipush eX9_init_101 (by decide) ?_
  refine mi_arr (f := 16) (len := 24) eX9_init_103 eX9_init_105 rfl x_arr1 (by decide) fX9_47 rfl rfl rfl (by decide) rfl (by decide) rfl (by decide) (by decide) (fun z => hs 16 z (by decide)) (hn 16 (by decide)) trivial (by decide) (Nat.le_of_ble_eq_true rfl) ?_
  refine am_aload_n eX9_init_108 rfl ?_
  refine am_bipush eX9_init_109 (by decide) ?_
  refine mi_arr (f := 17) (len := 24) eX9_init_111 eX9_init_113 rfl x_arr0 (by decide) fX9_51 rfl rfl rfl (by decide) rfl (by decide) rfl (by decide) (by decide) (fun z => hs 17 z (by decide)) (hn 17 (by decide)) trivial (by decide) (Nat.le_of_ble_eq_true rfl) ?_
  refine am_aload_n eX9_init_116 rfl ?_
  refine am_sipush eX9_init_117 (by decide) ?_
  refine mi_arr (f := 18) (len := 7200) eX9_init_120 eX9_init_122 rfl x_arr0 (by decide) fX9_54 rfl rfl rfl (by decide) rfl (by decide) rfl (by decide) (by decide) (fun z => hs 18 z (by decide)) (hn 18 (by decide)) trivial (by decide) (Nat.le_of_ble_eq_true rfl) ?_
  refine am_aload_n eX9_init_125 rfl ?_
  refine am_sipush eX9_init_126 (by decide) ?_
  refine mi_arr (f := 19) (len := 7200) eX9_init_129 eX9_init_131 rfl x_arr0 (by decide) fX9_57 rfl rfl rfl (by decide) rfl (by decide) rfl (by decide) (by decide) (fun z => hs 19 z (by decide)) (hn 19 (by decide)) trivial (by decide) (Nat.le_of_ble_eq_true rfl) ?_
  refine am_aload_n eX9_init_134 rfl ?_
  refine am_sipush eX9_init_135 (by decide) ?_
  refine mi_arr (f := 20) (len := 7200) eX9_init_138 eX9_init_140 rfl x_arr1 (by decide) fX9_60 rfl rfl rfl (by decide) rfl (by decide) rfl (by decide) (by decide) (fun z => hs 20 z (by decide)) (hn 20 (by decide)) trivial (by decide) (Nat.le_of_ble_eq_true rfl) ?_
  refine am_aload_n eX9_init_143 rfl ?_
  refine am_iconst eX9_init_144 ?_
  refine mi_arr (f := 21) (len := 3) eX9_init_145 eX9_init_147 rfl x_arr0 (by decide) fX9_63 rfl rfl rfl (by decide) rfl (by decide) rfl (by decide) (by decide) (fun z => hs 21 z (by decide)) (hn 21 (by decide)) trivial (by decide) (Nat.le_of_ble_eq_true rfl) ?_
  refine am_aload_n eX9_init_150 rfl ?_
  refine am_sipush eX9_init_151 (by decide) ?_
  refine mi_arr (f := 22) (len := 600) eX9_init_154 eX9_init_156 rfl x_arr0 (by decide) fX9_66 rfl rfl rfl (by decide) rfl (by decide) rfl (by decide) (by decide) (fun z => hs 22 z (by decide)) (hn 22 (by decide)) trivial (by decide) (Nat.le_of_ble_eq_true rfl) ?_
  refine am_aload_n eX9_init_159 rfl ?_
  refine am_sipush eX9_init_160 (by decide) ?_
  refine mi_arr (f := 23) (len := 600) eX9_init_163 eX9_init_165 rfl x_arr0 (by decide) fX9_69 rfl rfl rfl (by decide) rfl (by decide) rfl (by decide) (by decide) (fun z => hs 23 z (by decide)) (hn 23 (by decide)) trivial (by decide) (Nat.le_of_ble_eq_true rfl) ?_
  refine am_heq (mi_skip (f := 24) rfl) ?_
  refine am_aload_n eX9_init_168 rfl ?_
  refine am_bipush eX9_init_169 (by decide) ?_
  refine mi_arr (f := 25) (len := 12) eX9_init_171 eX9_init_173 rfl x_arr0 (by decide) fX9_72 rfl rfl rfl (by decide) rfl (by decide) rfl (by decide) (by decide) (fun z => hs 25 z (by decide)) (hn 25 (by decide)) trivial (by decide) (Nat.le_of_ble_eq_true rfl) ?_
  refine am_aload_n eX9_init_176 rfl ?_
  refine am_bipush eX9_init_177 (by decide) ?_
  refine mi_arr (f := 26) (len := 40) eX9_init_179 eX9_init_181 rfl x_arr0 (by decide) fX9_75 rfl rfl rfl (by decide) rfl (by decide) rfl (by decide) (by decide) (fun z => hs 26 z (by decide)) (hn 26 (by decide)) trivial (by decide) (Nat.le_of_ble_eq_true rfl) ?_
  refine am_aload_n eX9_init_184 rfl ?_
  refine am_iconst eX9_init_185 ?_
  refine mi_arr (f := 27) (len := 2) eX9_init_186 eX9_init_188 rfl x_arr1 (by decide) fX9_78 rfl rfl rfl (by decide) rfl (by decide) rfl (by decide) (by decide) (fun z => hs 27 z (by decide)) (hn 27 (by decide)) trivial (by decide) (Nat.le_of_ble_eq_true rfl) ?_
  refine am_aload_n eX9_init_191 rfl ?_
  refine am_iconst eX9_init_192 ?_
  refine mi_arr (f := 28) (len := 2) eX9_init_193 eX9_init_195 rfl x_arr0 (by decide) fX9_81 rfl rfl rfl (by decide) rfl (by decide) rfl (by decide) (by decide) (fun z => hs 28 z (by decide)) (hn 28 (by decide)) trivial (by decide) (Nat.le_of_ble_eq_true rfl) ?_
  refine am_aload_n eX9_init_198 rfl ?_
  refine am_bipush eX9_init_199 (by decide) ?_
  refine mi_arr (f := 29) (len := 80) eX9_init_201 eX9_init_203 rfl x_arr0 (by decide) fX9_84 rfl rfl rfl (by decide) rfl (by decide) rfl (by decide) (by decide) (fun z => hs 29 z (by decide)) (hn 29 (by decide)) trivial (by decide) (Nat.le_of_ble_eq_true rfl) ?_
  refine am_aload_n eX9_init_206 rfl ?_
  refine am_bipush eX9_init_207 (by decide) ?_
  refine mi_arr (f := 30) (len := 80) eX9_init_209 eX9_init_211 rfl x_arr1 (by decide) fX9_87 rfl rfl rfl (by decide) rfl (by decide) rfl (by decide) (by decide) (fun z => hs 30 z (by decide)) (hn 30 (by decide)) trivial (by decide) (Nat.le_of_ble_eq_true rfl) ?_
  refine am_aload_n eX9_init_214 rfl ?_
  refine am_bipush eX9_init_215 (by decide) ?_
  refine mi_arr (f := 31) (len := 80) eX9_init_217 eX9_init_219 rfl x_arr0 (by decide) fX9_90 rfl rfl rfl (by decide) rfl (by decide) rfl (by decide) (by decide) (fun z => hs 31 z (by decide)) (hn 31 (by decide)) trivial (by decide) (Nat.le_of_ble_eq_true rfl) ?_
  refine am_aload_n eX9_init_222 rfl ?_
  refine am_sipush eX9_init_223 (by decide) ?_
  refine mi_arr (f := 32) (len := 4800) eX9_init_226 eX9_init_228 rfl x_arr0 (by decide) fX9_93 rfl rfl rfl (by decide) rfl (by decide) rfl (by decide) (by decide) (fun z => hs 32 z (by decide)) (hn 32 (by decide)) trivial (by decide) (Nat.le_of_ble_eq_true rfl) ?_
  refine am_aload_n eX9_init_231 rfl ?_
  refine am_iconst eX9_init_232 ?_
  refine mi_arr (f := 33) (len := 2) eX9_init_233 eX9_init_235 rfl x_arr0 (by decide) fX9_96 rfl rfl rfl (by decide) rfl (by decide) rfl (by decide) (by decide) (fun z => hs 33 z (by decide)) (hn 33 (by decide)) trivial (by decide) (Nat.le_of_ble_eq_true rfl) ?_
  refine am_aload_n eX9_init_238 rfl ?_
  refine am_bipush eX9_init_239 (by decide) ?_
  refine mi_arr (f := 34) (len := 80) eX9_init_241 eX9_init_243 rfl x_arr0 (by decide) fX9_99 rfl rfl rfl (by decide) rfl (by decide) rfl (by decide) (by decide) (fun z => hs 34 z (by decide)) (hn 34 (by decide)) trivial (by decide) (Nat.le_of_ble_eq_true rfl) ?_
  refine am_aload_n eX9_init_246 rfl ?_
  refine am_bipush eX9_init_247 (by decide) ?_
  refine mi_arr (f := 35) (len := 80) eX9_init_249 eX9_init_251 rfl x_arr0 (by decide) fX9_102 rfl rfl rfl (by decide) rfl (by decide) rfl (by decide) (by decide) (fun z => hs 35 z (by decide)) (hn 35 (by decide)) trivial (by decide) (Nat.le_of_ble_eq_true rfl) ?_
  refine am_aload_n eX9_init_254 rfl ?_
  refine am_bipush eX9_init_255 (by decide) ?_
  refine mi_arr (f := 36) (len := 80) eX9_init_257 eX9_init_259 rfl x_arr1 (by decide) fX9_105 rfl rfl rfl (by decide) rfl (by decide) rfl (by decide) (by decide) (fun z => hs 36 z (by decide)) (hn 36 (by decide)) trivial (by decide) (Nat.le_of_ble_eq_true rfl) ?_
  refine am_aload_n eX9_init_262 rfl ?_
  refine am_bipush eX9_init_263 (by decide) ?_
  refine mi_arr (f := 37) (len := 80) eX9_init_265 eX9_init_267 rfl x_arr0 (by decide) fX9_108 rfl rfl rfl (by decide) rfl (by decide) rfl (by decide) (by decide) (fun z => hs 37 z (by decide)) (hn 37 (by decide)) trivial (by decide) (Nat.le_of_ble_eq_true rfl) ?_
  refine am_aload_n eX9_init_270 rfl ?_
  refine am_sipush eX9_init_271 (by decide) ?_
  refine mi_arr (f := 38) (len := 4800) eX9_init_274 eX9_init_276 rfl x_arr0 (by decide) fX9_111 rfl rfl rfl (by decide) rfl (by decide) rfl (by decide) (by decide) (fun z => hs 38 z (by decide)) (hn 38 (by decide)) trivial (by decide) (Nat.le_of_ble_eq_true rfl) ?_
  refine am_heq (mi_skip (f := 39) rfl) ?_
  refine am_aload_n eX9_init_279 rfl ?_
  refine am_bipush eX9_init_280 (by decide) ?_
  refine mi_arr (f := 40) (len := 6) eX9_init_282 eX9_init_284 rfl x_arr0 (by decide) fX9_114 rfl rfl rfl (by decide) rfl (by decide) rfl (by decide) (by decide) (fun z => hs 40 z (by decide)) (hn 40 (by decide)) trivial (by decide) (Nat.le_of_ble_eq_true rfl) ?_
  refine am_aload_n eX9_init_287 rfl ?_
  refine am_bipush eX9_init_288 (by decide) ?_
  refine mi_arr (f := 41) (len := 6) eX9_init_290 eX9_init_292 rfl x_arr0 (by decide) fX9_117 rfl rfl rfl (by decide) rfl (by decide) rfl (by decide) (by decide) (fun z => hs 41 z (by decide)) (hn 41 (by decide)) trivial (by decide) (Nat.le_of_ble_eq_true rfl) ?_
  refine am_aload_n eX9_init_295 rfl ?_
  refine am_sipush eX9_init_296 (by decide) ?_
  refine mi_arr (f := 42) (len := 1200) eX9_init_299 eX9_init_301 rfl x_arr0 (by decide) fX9_120 rfl rfl rfl (by decide) rfl (by decide) rfl (by decide) (by decide) (fun z => hs 42 z (by decide)) (hn 42 (by decide)) trivial (by decide) (Nat.le_of_ble_eq_true rfl) ?_
  refine am_iconst eX9_init_304 ?_
  refine am_istore_n eX9_init_305 (by decide) ?_
  refine lp_X9_init ?_ 24 0 _ rfl rfl
  refine am_aext (nm := (115, 0)) (g := fun _ => am_I (-1)) (mi_at (f := 15) (by decide) (by decide)) (fun j hj => congrArg am_I (if_pos ⟨rfl, hj⟩)) ?_
  refine am_return eX9_init_325 rfl (by decide) (Nat.le_of_ble_eq_true rfl) ?_
  refine ⟨rfl, ?_⟩
  funext q
  simp only [am_up]
  have e1 : mi_fs (s_a 24) 43 = mi_fs s_0 43 := by
    refine List.ext_getElem? fun i => ?_
    by_cases hi : i < 43
    · rw [mi_fs_at hi, mi_fs_at hi]
      by_cases h0 : md_len i = 0
      · have : i ≠ 15 := fun z => absurd h0 (by rw [z]; decide)
        rw [if_pos h0, if_pos h0]
        unfold s_a s_0
        rw [if_neg (fun z => this z.1), if_neg this]
      · rw [if_neg h0, if_neg h0]
    · rw [List.getElem?_eq_none (by rw [mi_fs_len]; omega), List.getElem?_eq_none (by rw [mi_fs_len]; omega)]
  by_cases e : q = (115, 0)
  · rw [if_pos e, e]
    exact (mi_at (h := h) (s := s_0) (f := 15) (by decide) (by decide)).symm
  · rw [if_neg e]
    unfold mi_h
    rw [e1]
    by_cases c : q = (9, 0)
    · rw [if_pos c, if_pos c]
    · rw [if_neg c, if_neg c]
      by_cases c1 : (100 ≤ q.1 ∧ q.1 < 143 ∧ q.2 = 0) ∧ md_len (q.1 - 100) ≠ 0 ∧ q.1 - 100 < 43
      · rw [if_pos c1, if_pos c1]
        have hne : q.1 - 100 ≠ 15 := fun y => e (Prod.ext (by show q.1 = 115; omega) c1.1.2.2)
        unfold md_arr s_a s_0
        simp only [hne, false_and, if_false]
      · rw [if_neg c1, if_neg c1]
