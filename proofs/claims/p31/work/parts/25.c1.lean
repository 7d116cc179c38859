section CxRules
variable {G : am_G} {X : am_X} {Y : am_Y} {d mc ms : Nat} {Q : State → Prop} {pc q : Nat} {ls : List (Option am_AV)} {st9 : List am_AV} {h : am_AH} {k n9 : Nat}
theorem cx_ald {nm : am_Nm} {F : Nat → Int} {n j : Nat} {i v : Int} (hd : am_d Y.1 pc .iaload 1 q) (hh : h nm = some (am_A 0 n (fun z => am_I (tr n F z)))) (hj : j < n) (hn : n < 1000) (hi : i = (j : Int)) (hv : F j = v) (kk : am_W G X Y d mc ms Q q ls (am_I v :: st9) h k n9) : am_W G X Y d mc ms Q pc ls (am_I i :: am_R nm :: st9) h k n9 := by
  subst hi
  exact am_iald hd hh (by omega) (by omega) (by omega) (x := v) (by simp [tr, hj, hv]) kk
theorem cx_bald {nm : am_Nm} {F : Nat → Int} {n j : Nat} {i v : Int} (hd : am_d Y.1 pc .baload 1 q) (hh : h nm = some (am_A 1 n (fun z => am_I (tr n F z)))) (hj : j < n) (hn : n < 1000) (hi : i = (j : Int)) (hv : F j = v) (kk : am_W G X Y d mc ms Q q ls (am_I v :: st9) h k n9) : am_W G X Y d mc ms Q pc ls (am_I i :: am_R nm :: st9) h k n9 := by
  subst hi
  exact am_bald hd hh (by omega) (by omega) (by omega) (x := v) (by simp [tr, hj, hv]) kk
theorem cx_aldp {nm : am_Nm} {F : Nat → Int} {n j : Nat} {i v : Int} (hd : am_d Y.1 pc .iaload 1 q) (hh : h nm = some (am_A 0 n (fun z => am_I (F z)))) (hj : j < n) (hn : n < 1000) (hi : i = (j : Int)) (hv : F j = v) (kk : am_W G X Y d mc ms Q q ls (am_I v :: st9) h k n9) : am_W G X Y d mc ms Q pc ls (am_I i :: am_R nm :: st9) h k n9 := by
  subst hi
  exact am_iald hd hh (by omega) (by omega) (by omega) (x := v) (by simp [hv]) kk
theorem cx_ast {nm : am_Nm} {F : Nat → Int} {n j : Nat} {i v : Int} (hd : am_d Y.1 pc .iastore 1 q) (hh : h nm = some (am_A 0 n (fun z => am_I (tr n F z)))) (hj : j < n) (hn : n < 1000) (hi : i = (j : Int)) (kk : am_W G X Y d mc ms Q q ls st9 (am_up h nm (am_A 0 n (fun y => am_I (if y = j then v else tr n F y)))) k n9) : am_W G X Y d mc ms Q pc ls (am_I v :: am_I i :: am_R nm :: st9) h k n9 := by
  subst hi
  refine am_iast hd hh (by omega) (by omega) (by omega) ?_
  rw [am_uf_I, Int.toNat_natCast]
  exact kk
theorem cx_bast {nm : am_Nm} {F : Nat → Int} {n j : Nat} {i v : Int} (hd : am_d Y.1 pc .bastore 1 q) (hh : h nm = some (am_A 1 n (fun z => am_I (tr n F z)))) (hj : j < n) (hn : n < 1000) (hi : i = (j : Int)) (hv : v = 0 ∨ v = 1) (kk : am_W G X Y d mc ms Q q ls st9 (am_up h nm (am_A 1 n (fun y => am_I (if y = j then v else tr n F y)))) k n9) : am_W G X Y d mc ms Q pc ls (am_I v :: am_I i :: am_R nm :: st9) h k n9 := by
  subst hi
  refine am_bast hd hh (by omega) (by omega) (by omega) hv ?_
  rw [am_uf_I, Int.toNat_natCast]
  exact kk
theorem cx_astp {nm : am_Nm} {F : Nat → Int} {n j : Nat} {i v : Int} (hd : am_d Y.1 pc .iastore 1 q) (hh : h nm = some (am_A 0 n (fun z => am_I (F z)))) (hj : j < n) (hn : n < 1000) (hi : i = (j : Int)) (kk : am_W G X Y d mc ms Q q ls st9 (am_up h nm (am_A 0 n (fun y => am_I (if y = j then v else F y)))) k n9) : am_W G X Y d mc ms Q pc ls (am_I v :: am_I i :: am_R nm :: st9) h k n9 := by
  subst hi
  refine am_iast hd hh (by omega) (by omega) (by omega) ?_
  rw [am_uf_I, Int.toNat_natCast]
  exact kk
end CxRules
theorem cx_is {v w : Int} {m x1 x2 : sg_S} (e : v = w) (eh : x2 = x1) : am_is (am_I w) (en_h m x1) (.inl (some (am_I v))) (en_h m x2) := by subst e; subst eh; exact ⟨rfl, rfl⟩
theorem cx_vd {m x1 x2 : sg_S} (eh : x2 = x1) : am_vd (en_h m x1) (.inl none) (en_h m x2) := by subst eh; exact ⟨rfl, rfl⟩
def sq_one (σ : sg_S) (i : Nat) (s : Int) : sg_S := if σ 12 i < 200 then st (st σ 14 (220 * i + (σ 12 i).toNat) s) 12 i (σ 12 i + 1) else σ
def aq_one (σ : sg_S) (i : Nat) : Int := if σ 12 i < 200 then 1 else 0
set_option maxRecDepth 100000 in
set_option maxHeartbeats 4000000 in
theorem c_X0_keepOne {G : am_G} {m x : sg_S} {T : Int} (hW : md_wb T x) {i : Nat} (hi : ((i / 2 : Nat) : Int) < x 3 0) {s : Int} (hr_s : -2147483648 ≤ s ∧ s < 2147483648) : am_Con G yX0_keepOne wX0_keepOne 1 0 0 [am_R (0, i), am_I s] (en_h m x) (am_is (am_I (aq_one x i)) (en_h m (sq_one x i s))) := by
  refine am_of2 (Y := mX0_keepOne) (by decide +kernel) rfl (fun z => by cases z) rfl rfl (Nat.le_of_ble_eq_true rfl) fun X => ?_
  refine am_aload_n eX0_keepOne_0 rfl ?_
  refine am_getf eX0_keepOne_1 fX0_26 (en_c0 (m := m) (x := x) (i := i) (by omega)) rfl ?_
  have b1 := wb12 hW i
  refine am_sipush eX0_keepOne_4 (by decide) ?_
  refine am_icmp_lt ⟨by omega, by omega⟩ ⟨by omega, by omega⟩ eX0_keepOne_7 (fun c2 => ?_) (fun c2 => ?_)
  · refine am_aload_n eX0_keepOne_12 rfl ?_
    refine am_getf eX0_keepOne_13 fX0_9 (en_c0 (m := m) (x := x) (i := i) (by omega)) rfl ?_
    refine am_aload_n eX0_keepOne_16 rfl ?_
    refine am_getf eX0_keepOne_17 fX0_26 (en_c0 (m := m) (x := x) (i := i) (by omega)) rfl ?_
    have b3 := wb12 hW i
    refine am_iload_n eX0_keepOne_20 rfl ?_
    refine cx_ast (j := (x 12 i).toNat) eX0_keepOne_21 (en_c210 (m := m) (x := x) (i := i) (by omega)) (by omega) (by decide) (by omega) (am_heq (cx_kept (by omega) (by omega)) ?_)
    refine am_aload_n eX0_keepOne_22 rfl ?_
    refine am_dup (by simp) eX0_keepOne_23 ?_
    refine am_getf eX0_keepOne_24 fX0_26 (en_c0 (m := m) (x := (st x 14 (220 * i + (x 12 i).toNat) s)) (i := i) (by rw [((st_nf (by decide)).trans rfl)]; omega)) rfl ?_
    refine am_topI (w := x 12 i) ((st_nf (by decide)).trans rfl) ?_
    have b4 := wb12 hW i
    refine am_iconst eX0_keepOne_27 ?_
    refine am_iadd eX0_keepOne_28 ?_
    refine am_putf eX0_keepOne_29 fX0_26 rfl (en_c0 (m := m) (x := (st x 14 (220 * i + (x 12 i).toNat) s)) (i := i) (by rw [((st_nf (by decide)).trans rfl)]; omega)) (Nat.le_of_ble_eq_true rfl) trivial (am_heq (cx_count (by rw [((st_nf (by decide)).trans rfl)]; omega)) ?_)
    refine am_iconst eX0_keepOne_32 ?_
    refine am_ireturn eX0_keepOne_33 rfl (Or.inr rfl) (Nat.zero_le _) (Nat.zero_le _) ?_
    exact cx_is (by first | rfl | (unfold aq_one; (repeat' split) <;> first | rfl | omega)) (by first | rfl | (unfold sq_one; (repeat' split) <;> first | rfl | (exfalso; omega)))
  · refine am_iconst eX0_keepOne_10 ?_
    refine am_ireturn eX0_keepOne_11 rfl (Or.inl rfl) (Nat.zero_le _) (Nat.zero_le _) ?_
    exact cx_is (by first | rfl | (unfold aq_one; (repeat' split) <;> first | rfl | omega)) (by first | rfl | (unfold sq_one; (repeat' split) <;> first | rfl | (exfalso; omega)))
def sq_enter (σ : sg_S) (i : Nat) (t s o : Int) : sg_S := if σ 17 i < 300 then st (st (st (st σ 18 (300 * i + (σ 17 i).toNat) t) 19 (300 * i + (σ 17 i).toNat) s) 20 (300 * i + (σ 17 i).toNat) o) 17 i (σ 17 i + 1) else σ
set_option maxRecDepth 100000 in
set_option maxHeartbeats 4000000 in
theorem c_X3_enter {G : am_G} {m x : sg_S} {T : Int} (hW : md_wb T x) {i : Nat} (hi : ((i / 2 : Nat) : Int) < x 3 0) {t s o : Int} (hr_t : -2147483648 ≤ t ∧ t < 2147483648) (hr_s : -2147483648 ≤ s ∧ s < 2147483648) (hb_o : o = 0 ∨ o = 1) : am_Con G yX3_enter wX3_enter 1 0 0 [am_R (3, i), am_I t, am_I s, am_I o] (en_h m x) (am_vd (en_h m (sq_enter x i t s o))) := by
  refine am_of2 (Y := mX3_enter) (by decide +kernel) rfl (fun z => by cases z) rfl rfl (Nat.le_of_ble_eq_true rfl) fun X => ?_
  refine am_aload_n eX3_enter_0 rfl ?_
  refine am_getf eX3_enter_1 fX3_22 (en_c3 (m := m) (x := x) (i := i) (by omega)) rfl ?_
  have b1 := wb17 hW i
  refine am_sipush eX3_enter_4 (by decide) ?_
  refine am_icmp_lt ⟨by omega, by omega⟩ ⟨by omega, by omega⟩ eX3_enter_7 (fun c2 => ?_) (fun c2 => ?_)
  · refine am_aload_n eX3_enter_11 rfl ?_
    refine am_getf eX3_enter_12 fX3_9 (en_c3 (m := m) (x := x) (i := i) (by omega)) rfl ?_
    refine am_aload_n eX3_enter_15 rfl ?_
    refine am_getf eX3_enter_16 fX3_22 (en_c3 (m := m) (x := x) (i := i) (by omega)) rfl ?_
    have b3 := wb17 hW i
    refine am_iload_n eX3_enter_19 rfl ?_
    refine cx_ast (j := (x 17 i).toNat) eX3_enter_20 (en_c211 (m := m) (x := x) (i := i) (by omega)) (by omega) (by decide) (by omega) (am_heq (cx_lmin (by omega) (by omega)) ?_)
    refine am_aload_n eX3_enter_21 rfl ?_
    refine am_getf eX3_enter_22 fX3_15 (en_c3 (m := m) (x := (st x 18 (300 * i + (x 17 i).toNat) t)) (i := i) (by rw [((st_nf (by decide)).trans rfl)]; omega)) rfl ?_
    refine am_aload_n eX3_enter_25 rfl ?_
    refine am_getf eX3_enter_26 fX3_22 (en_c3 (m := m) (x := (st x 18 (300 * i + (x 17 i).toNat) t)) (i := i) (by rw [((st_nf (by decide)).trans rfl)]; omega)) rfl ?_
    refine am_topI (w := x 17 i) ((st_nf (by decide)).trans rfl) ?_
    have b4 := wb17 hW i
    refine am_iload_n eX3_enter_29 rfl ?_
    refine cx_ast (j := (x 17 i).toNat) eX3_enter_30 (en_c212 (m := m) (x := (st x 18 (300 * i + (x 17 i).toNat) t)) (i := i) (by rw [((st_nf (by decide)).trans rfl)]; omega)) (by omega) (by decide) (by omega) (am_heq (cx_lsig (by rw [((st_nf (by decide)).trans rfl)]; omega) (by omega)) ?_)
    refine am_aload_n eX3_enter_31 rfl ?_
    refine am_getf eX3_enter_32 fX3_18 (en_c3 (m := m) (x := (st (st x 18 (300 * i + (x 17 i).toNat) t) 19 (300 * i + (x 17 i).toNat) s)) (i := i) (by rw [((st_nf (by decide)).trans ((st_nf (by decide)).trans rfl))]; omega)) rfl ?_
    refine am_aload_n eX3_enter_35 rfl ?_
    refine am_getf eX3_enter_36 fX3_22 (en_c3 (m := m) (x := (st (st x 18 (300 * i + (x 17 i).toNat) t) 19 (300 * i + (x 17 i).toNat) s)) (i := i) (by rw [((st_nf (by decide)).trans ((st_nf (by decide)).trans rfl))]; omega)) rfl ?_
    refine am_topI (w := x 17 i) ((st_nf (by decide)).trans ((st_nf (by decide)).trans rfl)) ?_
    have b5 := wb17 hW i
    refine am_iload_n eX3_enter_39 rfl ?_
    refine cx_bast (j := (x 17 i).toNat) eX3_enter_40 (en_c213 (m := m) (x := (st (st x 18 (300 * i + (x 17 i).toNat) t) 19 (300 * i + (x 17 i).toNat) s)) (i := i) (by rw [((st_nf (by decide)).trans ((st_nf (by decide)).trans rfl))]; omega)) (by omega) (by decide) (by omega) (by omega) (am_heq (cx_lown (by rw [((st_nf (by decide)).trans ((st_nf (by decide)).trans rfl))]; omega) (by omega)) ?_)
    refine am_aload_n eX3_enter_41 rfl ?_
    refine am_dup (by simp) eX3_enter_42 ?_
    refine am_getf eX3_enter_43 fX3_22 (en_c3 (m := m) (x := (st (st (st x 18 (300 * i + (x 17 i).toNat) t) 19 (300 * i + (x 17 i).toNat) s) 20 (300 * i + (x 17 i).toNat) o)) (i := i) (by rw [((st_nf (by decide)).trans ((st_nf (by decide)).trans ((st_nf (by decide)).trans rfl)))]; omega)) rfl ?_
    refine am_topI (w := x 17 i) ((st_nf (by decide)).trans ((st_nf (by decide)).trans ((st_nf (by decide)).trans rfl))) ?_
    have b6 := wb17 hW i
    refine am_iconst eX3_enter_46 ?_
    refine am_iadd eX3_enter_47 ?_
    refine am_putf eX3_enter_48 fX3_22 rfl (en_c3 (m := m) (x := (st (st (st x 18 (300 * i + (x 17 i).toNat) t) 19 (300 * i + (x 17 i).toNat) s) 20 (300 * i + (x 17 i).toNat) o)) (i := i) (by rw [((st_nf (by decide)).trans ((st_nf (by decide)).trans ((st_nf (by decide)).trans rfl)))]; omega)) (Nat.le_of_ble_eq_true rfl) trivial (am_heq (cx_logn (by rw [((st_nf (by decide)).trans ((st_nf (by decide)).trans ((st_nf (by decide)).trans rfl)))]; omega)) ?_)
    refine am_return eX3_enter_51 rfl (Nat.zero_le _) (Nat.zero_le _) ?_
    exact cx_vd (by first | rfl | (unfold sq_enter; (repeat' split) <;> first | rfl | (exfalso; omega)))
  · refine am_return eX3_enter_10 rfl (Nat.zero_le _) (Nat.zero_le _) ?_
    exact cx_vd (by first | rfl | (unfold sq_enter; (repeat' split) <;> first | rfl | (exfalso; omega)))
def aq_ltell (σ : sg_S) (i : Nat) (n a : Int) : Int := if a = 0 then σ 18 (300 * i + n.toNat) else if a = 1 then σ 19 (300 * i + n.toNat) else σ 20 (300 * i + n.toNat)
set_option maxRecDepth 100000 in
set_option maxHeartbeats 4000000 in
theorem lq_X3_nextTaken {G : am_G} {m x : sg_S} {T : Int} (hW : md_wb T x) {i : Nat} (hi : ((i / 2 : Nat) : Int) < x 3 0) {a : Nat} (X : am_X): ∀ (n : Nat) (j : Nat) (jv : Int), (jv = (j : Int)) → (sp_nxt x i n j = sp_nx x i a) → (n = (x 17 i).toNat - j) → (j ≤ (x 17 i).toNat) → am_W G X mX3_nextTaken 1 0 0 (am_end G X 0 0 (am_is (am_I ((sp_nx x i a : Nat) : Int)) (en_h m x))) 2 [some (am_R (3, i)), some (am_I (a : Int)), some (am_I jv)] [] (en_h m x) 0 0 := by
  intro n
  induction n with
  | zero =>
    intro j jv hj hf hn hz
    have bb := wb17 hW i
    refine am_iload_n eX3_nextTaken_2 rfl ?_
    refine am_aload_n eX3_nextTaken_3 rfl ?_
    refine am_getf eX3_nextTaken_4 fX3_22 (en_c3 (m := m) (x := x) (i := i) (by omega)) rfl ?_
    have b1 := wb17 hW i
    refine am_icmp_ge ⟨by omega, by omega⟩ ⟨by omega, by omega⟩ eX3_nextTaken_7 (fun c2 => ?_) (fun c2 => absurd c2 (by omega))
    refine am_aload_n eX3_nextTaken_27 rfl ?_
    refine am_getf eX3_nextTaken_28 fX3_22 (en_c3 (m := m) (x := x) (i := i) (by omega)) rfl ?_
    have b3 := wb17 hW i
    refine am_ireturn eX3_nextTaken_31 rfl trivial (Nat.zero_le _) (Nat.zero_le _) ?_
    exact cx_is (by rw [← hf]; first | (simp only [sp_nxt]; omega) | (simp only [sp_nxt]; rw [if_pos (by omega)]; omega)) rfl
  | succ n ih =>
    intro j jv hj hf hn hz
    have bb := wb17 hW i
    refine am_iload_n eX3_nextTaken_2 rfl ?_
    refine am_aload_n eX3_nextTaken_3 rfl ?_
    refine am_getf eX3_nextTaken_4 fX3_22 (en_c3 (m := m) (x := x) (i := i) (by omega)) rfl ?_
    have b1 := wb17 hW i
    refine am_icmp_ge ⟨by omega, by omega⟩ ⟨by omega, by omega⟩ eX3_nextTaken_7 (fun c2 => absurd c2 (by omega)) (fun c2 => ?_)
    refine am_aload_n eX3_nextTaken_10 rfl ?_
    refine am_getf eX3_nextTaken_11 fX3_18 (en_c3 (m := m) (x := x) (i := i) (by omega)) rfl ?_
    refine am_iload_n eX3_nextTaken_14 rfl ?_
    refine cx_bald (j := j) (v := x 20 (300 * i + j)) eX3_nextTaken_15 (en_c213 (m := m) (x := x) (i := i) (by omega)) (by omega) (by decide) (by omega) rfl ?_
    have b3 := wb20 hW (300 * i + j)
    refine am_if_ne ⟨by omega, by omega⟩ eX3_nextTaken_16 (fun c4 => ?_) (fun c4 => ?_)
    · refine am_iinc eX3_nextTaken_21 rfl (by decide) ?_
      refine am_goto eX3_nextTaken_24 ?_
      exact ih (j + 1) _ (by omega) (by rw [← hf]; simp only [sp_nxt]; rw [if_neg (by omega)]) (by omega) (by omega)
    · refine am_iload_n eX3_nextTaken_19 rfl ?_
      refine am_ireturn eX3_nextTaken_20 rfl trivial (Nat.zero_le _) (Nat.zero_le _) ?_
      exact cx_is (by rw [← hf]; first | (simp only [sp_nxt]; omega) | (simp only [sp_nxt]; rw [if_pos (by omega)]; omega)) rfl
theorem sp_nx_big {σ : sg_S} {i a : Nat} (h : (σ 17 i).toNat ≤ a) : sp_nx σ i a = a := by unfold sp_nx; rw [show (σ 17 i).toNat - a = 0 by omega]; rfl
set_option maxRecDepth 100000 in
set_option maxHeartbeats 4000000 in
theorem c_X3_nextTaken {G : am_G} {m x : sg_S} {T : Int} (hW : md_wb T x) {i : Nat} (hi : ((i / 2 : Nat) : Int) < x 3 0) {v : Int} {a : Nat} (hv : v = (a : Int)) (ha : a ≤ (x 17 i).toNat) : am_Con G yX3_nextTaken wX3_nextTaken 1 0 0 [am_R (3, i), am_I v] (en_h m x) (am_is (am_I ((sp_nx x i a : Nat) : Int)) (en_h m x)) := by
  refine am_of2 (Y := mX3_nextTaken) (by decide +kernel) rfl (fun z => by cases z) rfl rfl (Nat.le_of_ble_eq_true rfl) fun X => ?_
  refine am_iload_n eX3_nextTaken_0 rfl ?_
  refine am_istore_n eX3_nextTaken_1 (by decide) ?_
  subst hv
  exact lq_X3_nextTaken hW hi X ((x 17 i).toNat - a) a _ rfl rfl rfl ha
def sq_note (σ : sg_S) (i : Nat) (s : Int) : sg_S := if σ 41 i < 200 then st (st σ 42 (200 * i + (σ 41 i).toNat) s) 41 i (σ 41 i + 1) else σ
def sq_hill (σ : sg_S) (i : Nat) (a b : Int) : sg_S := if σ 8 i < 3 then st (st (st σ 9 (3 * i + (σ 8 i).toNat) a) 10 (3 * i + (σ 8 i).toNat) b) 8 i (σ 8 i + 1) else σ
def aq_hill (σ : sg_S) (i : Nat) : Int := if σ 8 i < 3 then 1 else 0
/-- the first place of a spot in a book, from j on, n places looked at -/
def sq_ix (σ : sg_S) (b : Nat) (s : Int) : Nat → Nat → Int
  | 0, _ => -1
  | n + 1, j => if σ 22 (200 * b + j) = s then (j : Int) else sq_ix σ b s n (j + 1)
def aq_ix (σ : sg_S) (b : Nat) (s : Int) : Int := sq_ix σ b s (σ 21 b).toNat 0
theorem sq_ix_in {σ : sg_S} {b : Nat} {s : Int} : ∀ n j : Nat, sq_ix σ b s n j = -1 ∨ ((j : Int) ≤ sq_ix σ b s n j ∧ sq_ix σ b s n j < j + n)
  | 0, _ => Or.inl rfl
  | n + 1, j => by
    have := sq_ix_in (σ := σ) (b := b) (s := s) n (j + 1)
    simp only [sq_ix]
    split <;> omega
set_option maxRecDepth 100000 in
set_option maxHeartbeats 4000000 in
theorem lq_X1_indexOf {G : am_G} {m x : sg_S} {T : Int} (hW : md_wb T x) {i : Nat} (hi : i < 3) {s : Int} (hr_s : -2147483648 ≤ s ∧ s < 2147483648) (X : am_X): ∀ (n : Nat) (j : Nat) (jv : Int), (jv = (j : Int)) → (sq_ix x i s n j = aq_ix x i s) → (n + j = (x 21 i).toNat) → am_W G X mX1_indexOf 1 0 0 (am_end G X 0 0 (am_is (am_I (aq_ix x i s)) (en_h m x))) 2 [some (am_R (1, i)), some (am_I s), some (am_I jv)] [] (en_h m x) 0 0 := by
  intro n
  induction n with
  | zero =>
    intro j jv hj hf hn
    have bb := wb21 hW i
    refine am_iload_n eX1_indexOf_2 rfl ?_
    refine am_aload_n eX1_indexOf_3 rfl ?_
    refine am_getf eX1_indexOf_4 fX1_18 (en_c1 (m := m) (x := x) (i := i) (by omega)) rfl ?_
    have b1 := wb21 hW i
    refine am_icmp_ge ⟨by omega, by omega⟩ ⟨by omega, by omega⟩ eX1_indexOf_7 (fun c2 => ?_) (fun c2 => absurd c2 (by omega))
    refine am_iconst eX1_indexOf_28 ?_
    refine am_ireturn eX1_indexOf_29 rfl trivial (Nat.zero_le _) (Nat.zero_le _) ?_
    exact cx_is (by rw [← hf]; first | rfl | (simp only [sq_ix]; rw [if_pos (by omega)]; omega)) rfl
  | succ n ih =>
    intro j jv hj hf hn
    have bb := wb21 hW i
    refine am_iload_n eX1_indexOf_2 rfl ?_
    refine am_aload_n eX1_indexOf_3 rfl ?_
    refine am_getf eX1_indexOf_4 fX1_18 (en_c1 (m := m) (x := x) (i := i) (by omega)) rfl ?_
    have b1 := wb21 hW i
    refine am_icmp_ge ⟨by omega, by omega⟩ ⟨by omega, by omega⟩ eX1_indexOf_7 (fun c2 => absurd c2 (by omega)) (fun c2 => ?_)
    refine am_aload_n eX1_indexOf_10 rfl ?_
    refine am_getf eX1_indexOf_11 fX1_9 (en_c1 (m := m) (x := x) (i := i) (by omega)) rfl ?_
    refine am_iload_n eX1_indexOf_14 rfl ?_
    refine cx_ald (j := j) (v := x 22 (200 * i + j)) eX1_indexOf_15 (en_c216 (m := m) (x := x) (i := i) (by omega)) (by omega) (by decide) (by omega) rfl ?_
    have b3 := wb22 hW (200 * i + j)
    refine am_iload_n eX1_indexOf_16 rfl ?_
    refine am_icmp_ne ⟨by omega, by omega⟩ ⟨by omega, by omega⟩ eX1_indexOf_17 (fun c4 => ?_) (fun c4 => ?_)
    · refine am_iinc eX1_indexOf_22 rfl (by decide) ?_
      refine am_goto eX1_indexOf_25 ?_
      exact ih (j + 1) _ (by omega) (by rw [← hf]; simp only [sq_ix]; rw [if_neg (by omega)]) (by omega)
    · refine am_iload_n eX1_indexOf_20 rfl ?_
      refine am_ireturn eX1_indexOf_21 rfl trivial (Nat.zero_le _) (Nat.zero_le _) ?_
      exact cx_is (by rw [← hf]; first | rfl | (simp only [sq_ix]; rw [if_pos (by omega)]; omega)) rfl
set_option maxRecDepth 100000 in
set_option maxHeartbeats 4000000 in
theorem c_X1_indexOf {G : am_G} {m x : sg_S} {T : Int} (hW : md_wb T x) {i : Nat} (hi : i < 3) {s : Int} (hr_s : -2147483648 ≤ s ∧ s < 2147483648) : am_Con G yX1_indexOf wX1_indexOf 1 0 0 [am_R (1, i), am_I s] (en_h m x) (am_is (am_I (aq_ix x i s)) (en_h m x)) := by
  refine am_of2 (Y := mX1_indexOf) (by decide +kernel) rfl (fun z => by cases z) rfl rfl (Nat.le_of_ble_eq_true rfl) fun X => ?_
  refine am_iconst eX1_indexOf_0 ?_
  refine am_istore_n eX1_indexOf_1 (by decide) ?_
  exact lq_X1_indexOf hW hi hr_s X _ 0 _ rfl rfl rfl
def aq_ph (σ : sg_S) (b : Nat) (s : Int) : Int := if aq_ix σ b s = -1 then -1 else σ 23 (200 * b + (aq_ix σ b s).toNat)
set_option maxRecDepth 100000 in
set_option maxHeartbeats 4000000 in
theorem c_X1_phraseAt {G : am_G} {m x : sg_S} {T : Int} (hW : md_wb T x) {i : Nat} (hi : i < 3) {s : Int} (hr_s : -2147483648 ≤ s ∧ s < 2147483648) : am_Con G yX1_phraseAt wX1_phraseAt 2 0 0 [am_R (1, i), am_I s] (en_h m x) (am_is (am_I (aq_ph x i s)) (en_h m x)) := by
  refine am_of2 (Y := mX1_phraseAt) (by decide +kernel) rfl (fun z => by cases z) rfl rfl (Nat.le_of_ble_eq_true rfl) fun X => ?_
  refine am_aload_n eX1_phraseAt_0 rfl ?_
  refine am_iload_n eX1_phraseAt_1 rfl ?_
  refine am_cV eX1_phraseAt_2 kX1_22 (c_X1_indexOf (m := m) hW (i := i) (s := s) (by omega) ⟨by omega, by omega⟩) rfl rfl (en_c1 (m := m) (x := x) (i := i) (by omega)) (by decide) (by decide) (Nat.le_of_ble_eq_true rfl) (Nat.zero_le _) (Nat.zero_le _) ?_
  obtain ⟨f1, hf1⟩ : ∃ z, z = aq_ix x i s := ⟨_, rfl⟩
  rw [← hf1]
  have qf1 := sq_ix_in (σ := x) (b := i) (s := s) (x 21 i).toNat 0
  rw [show sq_ix x i s (x 21 i).toNat 0 = aq_ix x i s from rfl, ← hf1] at qf1
  have b2 := wb21 hW i
  refine am_istore_n eX1_phraseAt_5 (by decide) ?_
  refine am_iload_n eX1_phraseAt_6 rfl ?_
  refine am_iconst eX1_phraseAt_7 ?_
  refine am_icmp_ne ⟨by omega, by omega⟩ ⟨by omega, by omega⟩ eX1_phraseAt_8 (fun c3 => ?_) (fun c3 => ?_)
  · refine am_aload_n eX1_phraseAt_15 rfl ?_
    refine am_getf eX1_phraseAt_16 fX1_15 (en_c1 (m := m) (x := x) (i := i) (by omega)) rfl ?_
    refine am_iload_n eX1_phraseAt_19 rfl ?_
    refine cx_ald (j := f1.toNat) (v := x 23 (200 * i + f1.toNat)) eX1_phraseAt_20 (en_c217 (m := m) (x := x) (i := i) (by omega)) (by omega) (by decide) (by omega) rfl ?_
    have b4 := wb23 hW (200 * i + f1.toNat)
    refine am_ireturn eX1_phraseAt_21 rfl trivial (Nat.zero_le _) (Nat.zero_le _) ?_
    exact cx_is (by unfold aq_ph; (try rw [← hf1]); (repeat' split) <;> first | rfl | omega) rfl
  · refine am_iconst eX1_phraseAt_11 ?_
    refine am_goto eX1_phraseAt_12 ?_
    refine am_ireturn eX1_phraseAt_21 rfl trivial (Nat.zero_le _) (Nat.zero_le _) ?_
    exact cx_is (by unfold aq_ph; (try rw [← hf1]); (repeat' split) <;> first | rfl | omega) rfl
set_option maxRecDepth 100000 in
set_option maxHeartbeats 4000000 in
theorem lq_X1_lowestSpotOf {G : am_G} {m x : sg_S} {T : Int} (hW : md_wb T x) {i : Nat} (hi : i < 3) {s : Int} (hr_s : -2147483648 ≤ s ∧ s < 2147483648) (X : am_X): ∀ (n : Nat) (j : Nat) (jv : Int) (fv : Int), (jv = (j : Int)) → (fv = sp_low x i s j) → (j + n = (x 21 i).toNat) → am_W G X mX1_lowestSpotOf 1 0 0 (am_end G X 0 0 (am_is (am_I (sp_lo x i s)) (en_h m x))) 4 [some (am_R (1, i)), some (am_I s), some (am_I fv), some (am_I jv)] [] (en_h m x) 0 0 := by
  intro n
  induction n with
  | zero =>
    intro j jv fv hj hf hn
    have bb := wb21 hW i
    have bf := sp_low_in hW (b := i) (p := s) j
    refine am_iload_n eX1_lowestSpotOf_4 rfl ?_
    refine am_aload_n eX1_lowestSpotOf_5 rfl ?_
    refine am_getf eX1_lowestSpotOf_6 fX1_18 (en_c1 (m := m) (x := x) (i := i) (by omega)) rfl ?_
    have b1 := wb21 hW i
    refine am_icmp_ge ⟨by omega, by omega⟩ ⟨by omega, by omega⟩ eX1_lowestSpotOf_9 (fun c2 => ?_) (fun c2 => absurd c2 (by omega))
    refine am_iload_n eX1_lowestSpotOf_50 rfl ?_
    refine am_ireturn eX1_lowestSpotOf_51 rfl trivial (Nat.zero_le _) (Nat.zero_le _) ?_
    exact cx_is (by rw [hf]; unfold sp_lo; rw [← hn]; rfl) rfl
  | succ n ih =>
    intro j jv fv hj hf hn
    have bb := wb21 hW i
    have bf := sp_low_in hW (b := i) (p := s) j
    refine am_iload_n eX1_lowestSpotOf_4 rfl ?_
    refine am_aload_n eX1_lowestSpotOf_5 rfl ?_
    refine am_getf eX1_lowestSpotOf_6 fX1_18 (en_c1 (m := m) (x := x) (i := i) (by omega)) rfl ?_
    have b1 := wb21 hW i
    refine am_icmp_ge ⟨by omega, by omega⟩ ⟨by omega, by omega⟩ eX1_lowestSpotOf_9 (fun c2 => absurd c2 (by omega)) (fun c2 => ?_)
    refine am_aload_n eX1_lowestSpotOf_12 rfl ?_
    refine am_getf eX1_lowestSpotOf_13 fX1_15 (en_c1 (m := m) (x := x) (i := i) (by omega)) rfl ?_
    refine am_iload_n eX1_lowestSpotOf_16 rfl ?_
    refine cx_ald (j := j) (v := x 23 (200 * i + j)) eX1_lowestSpotOf_17 (en_c217 (m := m) (x := x) (i := i) (by omega)) (by omega) (by decide) (by omega) rfl ?_
    have b3 := wb23 hW (200 * i + j)
    refine am_iload_n eX1_lowestSpotOf_18 rfl ?_
    refine am_icmp_ne ⟨by omega, by omega⟩ ⟨by omega, by omega⟩ eX1_lowestSpotOf_19 (fun c4 => ?_) (fun c4 => ?_)
    · refine am_iinc eX1_lowestSpotOf_44 rfl (by decide) ?_
      refine am_goto eX1_lowestSpotOf_47 ?_
      exact ih (j + 1) _ _ (by omega) (by simp only [sp_low]; split <;> omega) (by omega)
    · refine am_iload_n eX1_lowestSpotOf_22 rfl ?_
      refine am_iconst eX1_lowestSpotOf_23 ?_
      refine am_icmp_eq ⟨by omega, by omega⟩ ⟨by omega, by omega⟩ eX1_lowestSpotOf_24 (fun c5 => ?_) (fun c5 => ?_)
      · refine am_aload_n eX1_lowestSpotOf_37 rfl ?_
        refine am_getf eX1_lowestSpotOf_38 fX1_9 (en_c1 (m := m) (x := x) (i := i) (by omega)) rfl ?_
        refine am_iload_n eX1_lowestSpotOf_41 rfl ?_
        refine cx_ald (j := j) (v := x 22 (200 * i + j)) eX1_lowestSpotOf_42 (en_c216 (m := m) (x := x) (i := i) (by omega)) (by omega) (by decide) (by omega) rfl ?_
        have b6 := wb22 hW (200 * i + j)
        refine am_istore_n eX1_lowestSpotOf_43 (by decide) ?_
        refine am_iinc eX1_lowestSpotOf_44 rfl (by decide) ?_
        refine am_goto eX1_lowestSpotOf_47 ?_
        exact ih (j + 1) _ _ (by omega) (by simp only [sp_low]; split <;> omega) (by omega)
      · refine am_aload_n eX1_lowestSpotOf_27 rfl ?_
        refine am_getf eX1_lowestSpotOf_28 fX1_9 (en_c1 (m := m) (x := x) (i := i) (by omega)) rfl ?_
        refine am_iload_n eX1_lowestSpotOf_31 rfl ?_
        refine cx_ald (j := j) (v := x 22 (200 * i + j)) eX1_lowestSpotOf_32 (en_c216 (m := m) (x := x) (i := i) (by omega)) (by omega) (by decide) (by omega) rfl ?_
        have b7 := wb22 hW (200 * i + j)
        refine am_iload_n eX1_lowestSpotOf_33 rfl ?_
        refine am_icmp_ge ⟨by omega, by omega⟩ ⟨by omega, by omega⟩ eX1_lowestSpotOf_34 (fun c8 => ?_) (fun c8 => ?_)
        · refine am_iinc eX1_lowestSpotOf_44 rfl (by decide) ?_
          refine am_goto eX1_lowestSpotOf_47 ?_
          exact ih (j + 1) _ _ (by omega) (by simp only [sp_low]; split <;> omega) (by omega)
        · refine am_aload_n eX1_lowestSpotOf_37 rfl ?_
          refine am_getf eX1_lowestSpotOf_38 fX1_9 (en_c1 (m := m) (x := x) (i := i) (by omega)) rfl ?_
          refine am_iload_n eX1_lowestSpotOf_41 rfl ?_
          refine cx_ald (j := j) (v := x 22 (200 * i + j)) eX1_lowestSpotOf_42 (en_c216 (m := m) (x := x) (i := i) (by omega)) (by omega) (by decide) (by omega) rfl ?_
          have b9 := wb22 hW (200 * i + j)
          refine am_istore_n eX1_lowestSpotOf_43 (by decide) ?_
          refine am_iinc eX1_lowestSpotOf_44 rfl (by decide) ?_
          refine am_goto eX1_lowestSpotOf_47 ?_
          exact ih (j + 1) _ _ (by omega) (by simp only [sp_low]; split <;> omega) (by omega)
set_option maxRecDepth 100000 in
set_option maxHeartbeats 4000000 in
theorem c_X1_lowestSpotOf {G : am_G} {m x : sg_S} {T : Int} (hW : md_wb T x) {i : Nat} (hi : i < 3) {s : Int} (hr_s : -2147483648 ≤ s ∧ s < 2147483648) : am_Con G yX1_lowestSpotOf wX1_lowestSpotOf 1 0 0 [am_R (1, i), am_I s] (en_h m x) (am_is (am_I (sp_lo x i s)) (en_h m x)) := by
  refine am_of2 (Y := mX1_lowestSpotOf) (by decide +kernel) rfl (fun z => by cases z) rfl rfl (Nat.le_of_ble_eq_true rfl) fun X => ?_
  refine am_iconst eX1_lowestSpotOf_0 ?_
  refine am_istore_n eX1_lowestSpotOf_1 (by decide) ?_
  refine am_iconst eX1_lowestSpotOf_2 ?_
  refine am_istore_n eX1_lowestSpotOf_3 (by decide) ?_
  exact lq_X1_lowestSpotOf hW hi hr_s X _ 0 _ _ rfl rfl (Nat.zero_add _)
def sq_add (σ : sg_S) (i : Nat) (s p : Int) : sg_S := if σ 21 i < 200 then st (st (st σ 22 (200 * i + (σ 21 i).toNat) s) 23 (200 * i + (σ 21 i).toNat) p) 21 i (σ 21 i + 1) else σ
def aq_add (σ : sg_S) (i : Nat) : Int := if σ 21 i < 200 then 1 else 0
set_option maxRecDepth 100000 in
set_option maxHeartbeats 4000000 in
theorem c_X1_add {G : am_G} {m x : sg_S} {T : Int} (hW : md_wb T x) {i : Nat} (hi : i < 3) {s p : Int} (hr_s : -2147483648 ≤ s ∧ s < 2147483648) (hr_p : -2147483648 ≤ p ∧ p < 2147483648) : am_Con G yX1_add wX1_add 1 0 0 [am_R (1, i), am_I s, am_I p] (en_h m x) (am_is (am_I (aq_add x i)) (en_h m (sq_add x i s p))) := by
  refine am_of2 (Y := mX1_add) (by decide +kernel) rfl (fun z => by cases z) rfl rfl (Nat.le_of_ble_eq_true rfl) fun X => ?_
  refine am_aload_n eX1_add_0 rfl ?_
  refine am_getf eX1_add_1 fX1_18 (en_c1 (m := m) (x := x) (i := i) (by omega)) rfl ?_
  have b1 := wb21 hW i
  refine am_sipush eX1_add_4 (by decide) ?_
  refine am_icmp_lt ⟨by omega, by omega⟩ ⟨by omega, by omega⟩ eX1_add_7 (fun c2 => ?_) (fun c2 => ?_)
  · refine am_aload_n eX1_add_12 rfl ?_
    refine am_getf eX1_add_13 fX1_9 (en_c1 (m := m) (x := x) (i := i) (by omega)) rfl ?_
    refine am_aload_n eX1_add_16 rfl ?_
    refine am_getf eX1_add_17 fX1_18 (en_c1 (m := m) (x := x) (i := i) (by omega)) rfl ?_
    have b3 := wb21 hW i
    refine am_iload_n eX1_add_20 rfl ?_
    refine cx_ast (j := (x 21 i).toNat) eX1_add_21 (en_c216 (m := m) (x := x) (i := i) (by omega)) (by omega) (by decide) (by omega) (am_heq (cx_bs (by omega) (by omega)) ?_)
    refine am_aload_n eX1_add_22 rfl ?_
    refine am_getf eX1_add_23 fX1_15 (en_c1 (m := m) (x := (st x 22 (200 * i + (x 21 i).toNat) s)) (i := i) (by omega)) rfl ?_
    refine am_aload_n eX1_add_26 rfl ?_
    refine am_getf eX1_add_27 fX1_18 (en_c1 (m := m) (x := (st x 22 (200 * i + (x 21 i).toNat) s)) (i := i) (by omega)) rfl ?_
    refine am_topI (w := x 21 i) ((st_nf (by decide)).trans rfl) ?_
    have b4 := wb21 hW i
    refine am_iload_n eX1_add_30 rfl ?_
    refine cx_ast (j := (x 21 i).toNat) eX1_add_31 (en_c217 (m := m) (x := (st x 22 (200 * i + (x 21 i).toNat) s)) (i := i) (by omega)) (by omega) (by decide) (by omega) (am_heq (cx_bp (by omega) (by omega)) ?_)
    refine am_aload_n eX1_add_32 rfl ?_
    refine am_dup (by simp) eX1_add_33 ?_
    refine am_getf eX1_add_34 fX1_18 (en_c1 (m := m) (x := (st (st x 22 (200 * i + (x 21 i).toNat) s) 23 (200 * i + (x 21 i).toNat) p)) (i := i) (by omega)) rfl ?_
    refine am_topI (w := x 21 i) ((st_nf (by decide)).trans ((st_nf (by decide)).trans rfl)) ?_
    have b5 := wb21 hW i
    refine am_iconst eX1_add_37 ?_
    refine am_iadd eX1_add_38 ?_
    refine am_putf eX1_add_39 fX1_18 rfl (en_c1 (m := m) (x := (st (st x 22 (200 * i + (x 21 i).toNat) s) 23 (200 * i + (x 21 i).toNat) p)) (i := i) (by omega)) (Nat.le_of_ble_eq_true rfl) trivial (am_heq (cx_bookn (by omega)) ?_)
    refine am_iconst eX1_add_42 ?_
    refine am_ireturn eX1_add_43 rfl (Or.inr rfl) (Nat.zero_le _) (Nat.zero_le _) ?_
    exact cx_is (by first | rfl | (unfold aq_add; (repeat' split) <;> first | rfl | omega)) (by first | rfl | (unfold sq_add; (repeat' split) <;> first | rfl | (exfalso; omega)))
  · refine am_iconst eX1_add_10 ?_
    refine am_ireturn eX1_add_11 rfl (Or.inl rfl) (Nat.zero_le _) (Nat.zero_le _) ?_
    exact cx_is (by first | rfl | (unfold aq_add; (repeat' split) <;> first | rfl | omega)) (by first | rfl | (unfold sq_add; (repeat' split) <;> first | rfl | (exfalso; omega)))
def sq_rem (σ : sg_S) (i : Nat) (a : Int) : sg_S := if 0 ≤ a ∧ a < σ 21 i then st (st (st σ 21 i (σ 21 i - 1)) 22 (200 * i + a.toNat) (σ 22 (200 * i + (σ 21 i - 1).toNat))) 23 (200 * i + a.toNat) (σ 23 (200 * i + (σ 21 i - 1).toNat)) else σ
set_option maxRecDepth 100000 in
set_option maxHeartbeats 4000000 in
theorem c_X1_remove {G : am_G} {m x : sg_S} {T : Int} (hW : md_wb T x) {i : Nat} (hi : i < 3) {a : Int} (hr_a : -2147483648 ≤ a ∧ a < 2147483648) : am_Con G yX1_remove wX1_remove 1 0 0 [am_R (1, i), am_I a] (en_h m x) (am_vd (en_h m (sq_rem x i a))) := by
  refine am_of2 (Y := mX1_remove) (by decide +kernel) rfl (fun z => by cases z) rfl rfl (Nat.le_of_ble_eq_true rfl) fun X => ?_
  refine am_iload_n eX1_remove_0 rfl ?_
  refine am_if_lt ⟨by omega, by omega⟩ eX1_remove_1 (fun c1 => ?_) (fun c1 => ?_)
  · refine am_return eX1_remove_12 rfl (Nat.zero_le _) (Nat.zero_le _) ?_
    exact cx_vd (by first | rfl | (unfold sq_rem; (repeat' split) <;> first | rfl | (exfalso; omega)))
  · refine am_iload_n eX1_remove_4 rfl ?_
    refine am_aload_n eX1_remove_5 rfl ?_
    refine am_getf eX1_remove_6 fX1_18 (en_c1 (m := m) (x := x) (i := i) (by omega)) rfl ?_
    have b2 := wb21 hW i
    refine am_icmp_lt ⟨by omega, by omega⟩ ⟨by omega, by omega⟩ eX1_remove_9 (fun c3 => ?_) (fun c3 => ?_)
    · refine am_aload_n eX1_remove_13 rfl ?_
      refine am_dup (by simp) eX1_remove_14 ?_
      refine am_getf eX1_remove_15 fX1_18 (en_c1 (m := m) (x := x) (i := i) (by omega)) rfl ?_
      have b4 := wb21 hW i
      refine am_iconst eX1_remove_18 ?_
      refine am_isub eX1_remove_19 ?_
      refine am_putf eX1_remove_20 fX1_18 rfl (en_c1 (m := m) (x := x) (i := i) (by omega)) (Nat.le_of_ble_eq_true rfl) trivial (am_heq (cx_bookn (by omega)) ?_)
      refine am_aload_n eX1_remove_23 rfl ?_
      refine am_getf eX1_remove_24 fX1_9 (en_c1 (m := m) (x := (st x 21 i ((x 21 i) - 1))) (i := i) (by omega)) rfl ?_
      refine am_iload_n eX1_remove_27 rfl ?_
      refine am_aload_n eX1_remove_28 rfl ?_
      refine am_getf eX1_remove_29 fX1_9 (en_c1 (m := m) (x := (st x 21 i ((x 21 i) - 1))) (i := i) (by omega)) rfl ?_
      refine am_aload_n eX1_remove_32 rfl ?_
      refine am_getf eX1_remove_33 fX1_18 (en_c1 (m := m) (x := (st x 21 i ((x 21 i) - 1))) (i := i) (by omega)) rfl ?_
      refine am_topI (w := ((x 21 i) - 1)) st_eq ?_
      refine cx_ald (j := (((x 21 i) - 1)).toNat) (v := x 22 (200 * i + (((x 21 i) - 1)).toNat)) eX1_remove_36 (en_c216 (m := m) (x := (st x 21 i ((x 21 i) - 1))) (i := i) (by omega)) (by omega) (by decide) (by omega) ((st_nf (by decide)).trans rfl) ?_
      have b5 := wb22 hW (200 * i + (((x 21 i) - 1)).toNat)
      refine cx_ast (j := a.toNat) eX1_remove_37 (en_c216 (m := m) (x := (st x 21 i ((x 21 i) - 1))) (i := i) (by omega)) (by omega) (by decide) (by omega) (am_heq (cx_bs (by omega) (by omega)) ?_)
      refine am_aload_n eX1_remove_38 rfl ?_
      refine am_getf eX1_remove_39 fX1_15 (en_c1 (m := m) (x := (st (st x 21 i ((x 21 i) - 1)) 22 (200 * i + a.toNat) (x 22 (200 * i + (((x 21 i) - 1)).toNat)))) (i := i) (by omega)) rfl ?_
      refine am_iload_n eX1_remove_42 rfl ?_
      refine am_aload_n eX1_remove_43 rfl ?_
      refine am_getf eX1_remove_44 fX1_15 (en_c1 (m := m) (x := (st (st x 21 i ((x 21 i) - 1)) 22 (200 * i + a.toNat) (x 22 (200 * i + (((x 21 i) - 1)).toNat)))) (i := i) (by omega)) rfl ?_
      refine am_aload_n eX1_remove_47 rfl ?_
      refine am_getf eX1_remove_48 fX1_18 (en_c1 (m := m) (x := (st (st x 21 i ((x 21 i) - 1)) 22 (200 * i + a.toNat) (x 22 (200 * i + (((x 21 i) - 1)).toNat)))) (i := i) (by omega)) rfl ?_
      refine am_topI (w := ((x 21 i) - 1)) ((st_nf (by decide)).trans st_eq) ?_
      refine cx_ald (j := (((x 21 i) - 1)).toNat) (v := x 23 (200 * i + (((x 21 i) - 1)).toNat)) eX1_remove_51 (en_c217 (m := m) (x := (st (st x 21 i ((x 21 i) - 1)) 22 (200 * i + a.toNat) (x 22 (200 * i + (((x 21 i) - 1)).toNat)))) (i := i) (by omega)) (by omega) (by decide) (by omega) ((st_nf (by decide)).trans ((st_nf (by decide)).trans rfl)) ?_
      have b6 := wb23 hW (200 * i + (((x 21 i) - 1)).toNat)
      refine cx_ast (j := a.toNat) eX1_remove_52 (en_c217 (m := m) (x := (st (st x 21 i ((x 21 i) - 1)) 22 (200 * i + a.toNat) (x 22 (200 * i + (((x 21 i) - 1)).toNat)))) (i := i) (by omega)) (by omega) (by decide) (by omega) (am_heq (cx_bp (by omega) (by omega)) ?_)
      refine am_return eX1_remove_53 rfl (Nat.zero_le _) (Nat.zero_le _) ?_
      exact cx_vd (by first | rfl | (unfold sq_rem; (repeat' split) <;> first | rfl | (exfalso; omega)))
    · refine am_return eX1_remove_12 rfl (Nat.zero_le _) (Nat.zero_le _) ?_
      exact cx_vd (by first | rfl | (unfold sq_rem; (repeat' split) <;> first | rfl | (exfalso; omega)))

