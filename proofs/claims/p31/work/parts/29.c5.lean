def cx_okk (k : Nat) : Prop := k ≠ 9 ∧ k ≠ 98 ∧ ¬ (100 ≤ k ∧ k < 143)
theorem cx_fold {q : am_Nm} {v : Option am_AC} : ∀ {H : am_AH} (ups : List (am_Nm × am_AC)), (∀ p ∈ ups, p.1 = q → some p.2 = v) → ((∀ p ∈ ups, p.1 ≠ q) → H q = v) → (ups.foldl (fun h p => am_up h p.1 p.2) H) q = v
  | _, [], _, h => h (fun p hp => by cases hp)
  | H, a :: t, h1, h2 => by
    show (t.foldl _ (am_up H a.1 a.2)) q = v
    refine cx_fold t (fun p hp => h1 p (List.mem_cons_of_mem _ hp)) (fun hn => ?_)
    simp only [am_up]
    by_cases e : q = a.1
    · rw [if_pos e]
      exact h1 a List.mem_cons_self e.symm
    · rw [if_neg e]
      refine h2 (fun p hp => ?_)
      rcases List.mem_cons.mp hp with z | z
      · rw [z]; exact fun y => e y.symm
      · exact hn p z
/-- a heap of the state with cells put on it that are the new state's -/
theorem cx_ofL {m x x' : sg_S} (ups : List (am_Nm × am_AC)) (h49 : x' 49 0 = x 49 0) (h1 : ∀ p ∈ ups, cx_okk p.1.1 ∧ en_x x' p.1.1 p.1.2 = some p.2) (h2 : ∀ k i, (∀ p ∈ ups, p.1 ≠ (k, i)) → en_x x' k i = en_x x k i) : ups.foldl (fun h p => am_up h p.1 p.2) (en_h m x) = en_h m x' := by
  funext q
  obtain ⟨k, i⟩ := q
  refine cx_fold ups (fun p hp e => ?_) (fun hn => ?_)
  · obtain ⟨⟨g1, g2, g3⟩, g4⟩ := h1 p hp
    rw [e] at g1 g2 g3 g4
    simp only [en_h]
    rw [if_neg g1, if_neg g2, if_neg g3, g4]
  · simp only [en_h]
    split
    · rfl
    · split
      · rw [h49]
      · split
        · rfl
        · exact (h2 k i hn).symm

theorem cx_k8 : cx_okk 8 := ⟨by decide, by decide, by decide⟩
theorem cx_k200 : cx_okk 200 := ⟨by decide, by decide, by decide⟩
theorem cx_k201 : cx_okk 201 := ⟨by decide, by decide, by decide⟩
theorem cx_k202 : cx_okk 202 := ⟨by decide, by decide, by decide⟩
theorem cx_k203 : cx_okk 203 := ⟨by decide, by decide, by decide⟩
theorem cx_k204 : cx_okk 204 := ⟨by decide, by decide, by decide⟩
theorem cx_k205 : cx_okk 205 := ⟨by decide, by decide, by decide⟩
theorem cx_k7 : cx_okk 7 := ⟨by decide, by decide, by decide⟩
theorem cx_k0 : cx_okk 0 := ⟨by decide, by decide, by decide⟩
theorem cx_k210 : cx_okk 210 := ⟨by decide, by decide, by decide⟩
theorem cx_k3 : cx_okk 3 := ⟨by decide, by decide, by decide⟩
theorem cx_k211 : cx_okk 211 := ⟨by decide, by decide, by decide⟩
theorem cx_k212 : cx_okk 212 := ⟨by decide, by decide, by decide⟩
theorem cx_k213 : cx_okk 213 := ⟨by decide, by decide, by decide⟩
theorem cx_k5 : cx_okk 5 := ⟨by decide, by decide, by decide⟩
theorem cx_k214 : cx_okk 214 := ⟨by decide, by decide, by decide⟩
theorem cx_k215 : cx_okk 215 := ⟨by decide, by decide, by decide⟩
theorem cx_k1 : cx_okk 1 := ⟨by decide, by decide, by decide⟩
theorem cx_k216 : cx_okk 216 := ⟨by decide, by decide, by decide⟩
theorem cx_k217 : cx_okk 217 := ⟨by decide, by decide, by decide⟩
theorem cx_k6 : cx_okk 6 := ⟨by decide, by decide, by decide⟩
theorem cx_k218 : cx_okk 218 := ⟨by decide, by decide, by decide⟩
theorem cx_k2 : cx_okk 2 := ⟨by decide, by decide, by decide⟩
theorem cx_k219 : cx_okk 219 := ⟨by decide, by decide, by decide⟩
theorem cx_k4 : cx_okk 4 := ⟨by decide, by decide, by decide⟩
theorem cx_k220 : cx_okk 220 := ⟨by decide, by decide, by decide⟩
theorem cx_k221 : cx_okk 221 := ⟨by decide, by decide, by decide⟩
theorem cx_k222 : cx_okk 222 := ⟨by decide, by decide, by decide⟩
/-- the dispatch on top of a way's tape -/
def sx_k (σ : sg_S) (w : Nat) : Nat := (σ 56 (40 * w + ((σ 28 w).toNat - 1))).toNat
theorem en_c6N {m x : sg_S} {w : Nat} (hw : w < 2) (h : x 28 w ≤ 0) : en_h m x (6, w) = some (am_O 6 [am_R (218, w), am_I (x 33 w), am_N, am_I (x 28 w), am_I (x 27 w)]) := by
  rw [en_c6 hw, if_pos h]
theorem en_c6R {m x : sg_S} {w k : Nat} (hw : w < 2) (h : ¬ x 28 w ≤ 0) (hk : sx_k x w = k) : en_h m x (6, w) = some (am_O 6 [am_R (218, w), am_I (x 33 w), am_R (2, k), am_I (x 28 w), am_I (x 27 w)]) := by
  rw [en_c6 hw, if_neg h, ← hk]
  rfl
theorem cx_drop {m x : sg_S} {w : Nat} (hw : w < 2) : am_up (en_h m x) (6, w) (am_O 6 [am_R (218, w), am_I (x 33 w), am_N, am_I 0, am_I (x 27 w)]) = en_h m (st x 28 w 0) := by
  refine cx_of2 (by decide) (by simp [st]) (by simp [en_x, st, hw]) (fun k j h => ?_)
  unfold en_x
  split <;> first | rfl | (simp [st]; done) | (have hj := cx_ne h; simp [st, hj])
set_option maxRecDepth 100000 in
set_option maxHeartbeats 4000000 in
theorem c_X6_dropAll {G : am_G} {m x : sg_S} {w : Nat} (hw : w < 2) : am_Con G yX6_dropAll wX6_dropAll 1 0 0 [am_R (6, w)] (en_h m x) (am_vd (en_h m (st x 28 w 0))) := by
  refine am_of2 (Y := mX6_dropAll) (by decide +kernel) rfl (fun z => by cases z) rfl rfl (Nat.le_of_ble_eq_true rfl) fun X => ?_
  refine am_aload_n eX6_dropAll_0 rfl ?_
  refine am_null eX6_dropAll_1 ?_
  refine am_putf eX6_dropAll_2 fX6_32 rfl (en_c6 hw) (Nat.le_of_ble_eq_true rfl) trivial ?_
  refine am_aload_n eX6_dropAll_5 rfl ?_
  refine am_iconst eX6_dropAll_6 ?_
  refine am_putf eX6_dropAll_7 fX6_45 rfl am_up_eq (Nat.le_of_ble_eq_true rfl) trivial ?_
  refine am_heq (h' := (am_up (en_h m x) (6, w) (am_O 6 [am_R (218, w), am_I (x 33 w), am_N, am_I 0, am_I (x 27 w)]))) am_up_up ?_
  refine am_return eX6_dropAll_10 rfl (by omega) (by omega) ?_
  exact ⟨rfl, cx_drop hw⟩
/-- the tape's records and the class's dispatches -/
def sg_o (σ : sg_S) (o k : Nat) : Prop := σ 60 k = σ 29 o ∧ σ 62 k = σ 30 o ∧ σ 63 k = σ 31 o ∧ ∀ z : Nat, (z : Int) < σ 31 o → σ 65 (60 * k + z) = σ 32 (60 * o + z)
def sg_a (σ : sg_S) (o k : Nat) : Prop := σ 60 k = σ 34 o ∧ σ 61 k = σ 35 o ∧ σ 62 k = σ 36 o ∧ σ 63 k = σ 37 o ∧ ∀ z : Nat, (z : Int) < σ 37 o → σ 65 (60 * k + z) = σ 38 (60 * o + z)
def sg_D (σ : sg_S) : Prop :=
  (0 ≤ σ 51 0 ∧ (∀ w j, 0 ≤ σ 56 (40 * w + j) ∧ 0 ≤ σ 57 (40 * w + j))) ∧
  (∀ w j : Nat, w < 2 → (j : Int) < σ 28 w → σ 56 (40 * w + j) < σ 51 0 ∧ sg_o σ (40 * w + j) (σ 56 (40 * w + j)).toNat ∧ σ 64 (σ 56 (40 * w + j)).toNat = if j = 0 then -1 else σ 56 (40 * w + (j - 1))) ∧
  (∀ w j : Nat, w < 2 → (j : Int) < σ 33 w → σ 57 (40 * w + j) < σ 51 0 ∧ sg_a σ (40 * w + j) (σ 57 (40 * w + j)).toNat) ∧
  (∀ w j w' j' : Nat, w < 2 → w' < 2 → (j : Int) < σ 28 w → (j' : Int) < σ 28 w' → σ 56 (40 * w + j) = σ 56 (40 * w' + j') → w = w' ∧ j = j') ∧
  (∀ w j w' j' : Nat, w < 2 → w' < 2 → (j : Int) < σ 28 w → (j' : Int) < σ 33 w' → σ 56 (40 * w + j) ≠ σ 57 (40 * w' + j'))
theorem sg_D_top {σ : sg_S} (hD : sg_D σ) {w : Nat} (hw : w < 2) (h : ¬ σ 28 w ≤ 0) : (sx_k σ w : Int) < σ 51 0 ∧ sg_o σ (40 * w + ((σ 28 w).toNat - 1)) (sx_k σ w) ∧ σ 64 (sx_k σ w) = (if σ 28 w = 1 then -1 else σ 56 (40 * w + ((σ 28 w).toNat - 2))) ∧ ((sx_k σ w : Nat) : Int) = σ 56 (40 * w + ((σ 28 w).toNat - 1)) := by
  have h0 := (hD.1.2 w ((σ 28 w).toNat - 1)).1
  obtain ⟨h1, h2, h3⟩ := hD.2.1 w ((σ 28 w).toNat - 1) hw (by omega)
  have e : ((sx_k σ w : Nat) : Int) = σ 56 (40 * w + ((σ 28 w).toNat - 1)) := by unfold sx_k; omega
  refine ⟨by omega, h2, ?_, e⟩
  unfold sx_k
  rw [h3]
  by_cases c : σ 28 w = 1
  · rw [if_pos c, if_pos (by omega)]
  · rw [if_neg c, if_neg (by omega)]
    congr 1
def sx_end (σ : sg_S) (w : Nat) (t : Int) : sg_S := if σ 28 w ≤ 0 then σ else if σ 33 w < 40 then st (st (st (st σ 28 w (σ 28 w - 1)) 61 (sx_k σ w) t) 57 (40 * w + (σ 33 w).toNat) (sx_k σ w)) 33 w (σ 33 w + 1) else st (st σ 28 w (σ 28 w - 1)) 61 (sx_k σ w) t
theorem cx_below {σ : sg_S} (hD : sg_D σ) {w : Nat} (hw : w < 2) (h : ¬ σ 28 w ≤ 0) : (if σ 64 (sx_k σ w) < 0 then am_N else am_R (2, (σ 64 (sx_k σ w)).toNat)) = (if σ 28 w - 1 ≤ 0 then am_N else am_R (2, (σ 56 (40 * w + ((σ 28 w - 1).toNat - 1))).toNat)) := by
  obtain ⟨-, -, h3, -⟩ := sg_D_top hD hw h
  have h0 := (hD.1.2 w ((σ 28 w).toNat - 2)).1
  rw [h3]
  by_cases c : σ 28 w = 1
  · rw [if_pos c, if_pos (by decide), if_pos (by omega)]
  · rw [if_neg c, if_neg (by omega), if_neg (by omega), show (σ 28 w - 1).toNat - 1 = (σ 28 w).toNat - 2 by omega]
theorem cx_end1 {m x : sg_S} (hD : sg_D x) {w k : Nat} {t : Int} (hw : w < 2) (h : ¬ x 28 w ≤ 0) (hk : sx_k x w = k) : am_up (am_up (en_h m x) (6, w) (am_O 6 [am_R (218, w), am_I (x 33 w), (if x 64 k < 0 then am_N else am_R (2, (x 64 k).toNat)), am_I (x 28 w - 1), am_I (x 27 w)])) (2, k) (am_O 2 [am_I (x 60 k), am_I t, am_I (x 62 k), am_R (219, k), am_I (x 63 k), (if x 64 k < 0 then am_N else am_R (2, (x 64 k).toNat))]) = en_h m (st (st x 28 w (x 28 w - 1)) 61 k t) := by
  subst hk
  obtain ⟨h1, -, -, -⟩ := sg_D_top hD hw h
  refine cx_ofL [((6, w), _), ((2, sx_k x w), _)] (by simp [st]) (fun p hp => ?_) (fun k i hn => ?_)
  · simp only [List.mem_cons, List.not_mem_nil, or_false] at hp
    rcases hp with rfl | rfl
    · refine ⟨cx_k6, ?_⟩
      rw [cx_below hD hw h]
      simp [en_x, st, hw]
    · refine ⟨cx_k2, ?_⟩
      simp [en_x, st, h1]
  · have n1 := hn _ List.mem_cons_self
    have n2 := hn _ (List.mem_cons_of_mem _ List.mem_cons_self)
    unfold en_x
    split <;> first | rfl | (simp [st]; done) | (have hj : ¬ i = w := (fun z => n1 (by rw [z])); simp [st, hj]; done) | (have hj : ¬ i = sx_k x w := (fun z => n2 (by rw [z])); simp [st, hj]; done)
theorem cx_end2 {m x : sg_S} (h33' : ∀ i, x 33 i ≤ 40) (hD : sg_D x) {w k : Nat} {t : Int} (hw : w < 2) (h : ¬ x 28 w ≤ 0) (hk : sx_k x w = k) (h33 : 0 ≤ x 33 w ∧ x 33 w < 40) : am_up (am_up (am_up (en_h m x) (6, w) (am_O 6 [am_R (218, w), am_I (x 33 w + 1), (if x 64 k < 0 then am_N else am_R (2, (x 64 k).toNat)), am_I (x 28 w - 1), am_I (x 27 w)])) (2, k) (am_O 2 [am_I (x 60 k), am_I t, am_I (x 62 k), am_R (219, k), am_I (x 63 k), (if x 64 k < 0 then am_N else am_R (2, (x 64 k).toNat))])) (218, w) (am_A 7 40 (am_uf (fun z => if (z : Int) < x 33 w then am_R (2, (x 57 (40 * w + z)).toNat) else am_N) (x 33 w).toNat (am_R (2, k)))) = en_h m (st (st (st (st x 28 w (x 28 w - 1)) 61 k t) 57 (40 * w + (x 33 w).toNat) k) 33 w (x 33 w + 1)) := by
  subst hk
  obtain ⟨h1, -, -, -⟩ := sg_D_top hD hw h
  refine cx_ofL [((6, w), _), ((2, sx_k x w), _), ((218, w), _)] (by simp [st]) (fun p hp => ?_) (fun k i hn => ?_)
  · simp only [List.mem_cons, List.not_mem_nil, or_false] at hp
    rcases hp with rfl | rfl | rfl
    · refine ⟨cx_k6, ?_⟩
      rw [cx_below hD hw h]
      simp [en_x, st, hw]
    · refine ⟨cx_k2, ?_⟩
      simp [en_x, st, h1]
    · refine ⟨cx_k218, ?_⟩
      simp only [en_x, if_pos hw]
      refine congrArg some (congrArg (am_A 7 40) (funext fun z => ?_))
      simp only [am_uf, st]
      by_cases c : z = (x 33 w).toNat
      · subst c
        simp
        omega
      · have c2 : ¬ 40 * w + z = 40 * w + (x 33 w).toNat := by omega
        simp [c, c2]
        by_cases c3 : (z : Int) < x 33 w
        · rw [if_pos c3, if_pos (by omega)]
        · rw [if_neg c3, if_neg (by omega)]
  · have n1 := hn _ List.mem_cons_self
    have n2 := hn _ (List.mem_cons_of_mem _ List.mem_cons_self)
    have n3 := hn _ (List.mem_cons_of_mem _ (List.mem_cons_of_mem _ List.mem_cons_self))
    unfold en_x
    split <;> first
      | rfl
      | (simp [st]; done)
      | (have hj : ¬ i = w := (fun z => n1 (by rw [z])); simp [st, hj]; done)
      | (have hj : ¬ i = sx_k x w := (fun z => n2 (by rw [z])); simp [st, hj]; done)
      | skip
    have hj : ¬ i = w := (fun z => n3 (by rw [z]))
    split
    · refine congrArg some (congrArg (am_A 7 40) (funext fun z => ?_))
      simp only [st]
      simp [hj]
      by_cases c3 : (z : Int) < x 33 i
      · have := h33' i
        rw [if_pos c3, if_pos c3, if_neg (by omega)]
      · rw [if_neg c3, if_neg c3]
    · rfl
set_option maxRecDepth 100000 in
set_option maxHeartbeats 4000000 in
theorem c_X6_end {G : am_G} {m x : sg_S} {T : Int} (hW : md_wb T x) (hD : sg_D x) {w : Nat} (hw : w < 2) {t : Int} : am_Con G yX6_end wX6_end 1 0 0 [am_R (6, w), am_I t] (en_h m x) (am_vd (en_h m (sx_end x w t))) := by
  refine am_of2 (Y := mX6_end) (by decide +kernel) rfl (fun z => by cases z) rfl rfl (Nat.le_of_ble_eq_true rfl) fun X => ?_
  have b28 := wb28 hW w
  have b33 := wb33 hW w
  by_cases c0 : x 28 w ≤ 0
  · refine am_aload_n eX6_end_0 rfl ?_
    refine am_getf (v := am_N) eX6_end_1 fX6_32 (en_c6N hw c0) rfl ?_
    refine am_ifnonnull eX6_end_4 (fun _ z => nomatch z) (fun _ => ?_)
    refine am_return eX6_end_7 rfl (by omega) (by omega) ?_
    exact ⟨rfl, by unfold sx_end; rw [if_pos c0]⟩
  · obtain ⟨k, hk⟩ : ∃ z, sx_k x w = z := ⟨_, rfl⟩
    have hT := sg_D_top hD hw c0
    rw [hk] at hT
    refine am_aload_n eX6_end_0 rfl ?_
    refine am_getf (v := am_R (2, k)) eX6_end_1 fX6_32 (en_c6R hw c0 hk) rfl ?_
    refine am_ifnonnull eX6_end_4 (fun _ _ => ?_) (fun z => nomatch z)
    refine am_aload_n eX6_end_8 rfl ?_
    refine am_getf (v := am_R (2, k)) eX6_end_9 fX6_32 (en_c6R hw c0 hk) rfl ?_
    refine am_astore_n eX6_end_12 (by decide) ?_
    refine am_aload_n eX6_end_13 rfl ?_
    refine am_aload_n eX6_end_14 rfl ?_
    refine am_getf (v := (if x 64 k < 0 then am_N else am_R (2, (x 64 k).toNat))) eX6_end_15 fX6_49 (en_c2 hT.1) rfl ?_
    refine am_putf eX6_end_18 fX6_32 rfl (en_c6R hw c0 hk) (Nat.le_of_ble_eq_true rfl) (by split <;> trivial) ?_
    refine am_aload_n eX6_end_21 rfl ?_
    refine am_dup (by simp) eX6_end_22 ?_
    refine am_getf (v := am_I (x 28 w)) eX6_end_23 fX6_45 am_up_eq rfl ?_
    refine am_iconst eX6_end_26 ?_
    refine am_isub eX6_end_27 ?_
    refine am_putf eX6_end_28 fX6_45 rfl am_up_eq (Nat.le_of_ble_eq_true rfl) trivial ?_
    refine am_heq (h' := (am_up (en_h m x) (6, w) (am_O 6 [am_R (218, w), am_I (x 33 w), (if x 64 k < 0 then am_N else am_R (2, (x 64 k).toNat)), am_I ((x 28 w) - 1), am_I (x 27 w)]))) am_up_up ?_
    refine am_aload_n eX6_end_31 rfl ?_
    refine am_iload_n eX6_end_32 rfl ?_
    refine am_putf eX6_end_33 fX6_52 rfl ((am_up_ne (am_nk (by decide))).trans (en_c2 hT.1)) (Nat.le_of_ble_eq_true rfl) trivial ?_
    refine am_aload_n eX6_end_36 rfl ?_
    refine am_getf (v := am_I (x 33 w)) eX6_end_37 fX6_55 ((am_up_ne (am_nk (by decide))).trans am_up_eq) rfl ?_
    refine am_bipush eX6_end_40 (by decide) ?_
    refine am_icmp_ge ⟨by omega, by omega⟩ ⟨by omega, by omega⟩ eX6_end_42 (fun c1 => ?_) (fun c1 => ?_)
    · refine am_return eX6_end_65 rfl (by omega) (by omega) ?_
      exact ⟨rfl, (cx_end1 hD hw c0 hk).trans (by unfold sx_end; rw [if_neg c0, if_neg (by omega), hk])⟩
    · refine am_aload_n eX6_end_45 rfl ?_
      refine am_getf (v := am_R (218, w)) eX6_end_46 fX6_11 ((am_up_ne (am_nk (by decide))).trans am_up_eq) rfl ?_
      refine am_aload_n eX6_end_49 rfl ?_
      refine am_getf (v := am_I (x 33 w)) eX6_end_50 fX6_55 ((am_up_ne (am_nk (by decide))).trans am_up_eq) rfl ?_
      refine am_aload_n eX6_end_53 rfl ?_
      refine am_aast eX6_end_54 ((am_up_ne (am_nk (by decide))).trans ((am_up_ne (am_nk (by decide))).trans (en_c218 hw))) (by decide) (by decide) (by omega) (by omega) (by decide) am_up_eq ?_
      refine am_aload_n eX6_end_55 rfl ?_
      refine am_dup (by simp) eX6_end_56 ?_
      refine am_getf (v := am_I (x 33 w)) eX6_end_57 fX6_55 ((am_up_ne (am_nk (by decide))).trans ((am_up_ne (am_nk (by decide))).trans am_up_eq)) rfl ?_
      refine am_iconst eX6_end_60 ?_
      refine am_iadd eX6_end_61 ?_
      refine am_putf eX6_end_62 fX6_55 rfl ((am_up_ne (am_nk (by decide))).trans ((am_up_ne (am_nk (by decide))).trans am_up_eq)) (Nat.le_of_ble_eq_true rfl) trivial ?_
      refine am_heq (h' := (am_up (am_up (am_up (en_h m x) (6, w) (am_O 6 [am_R (218, w), am_I ((x 33 w) + 1), (if x 64 k < 0 then am_N else am_R (2, (x 64 k).toNat)), am_I ((x 28 w) - 1), am_I (x 27 w)])) (2, k) (am_O 2 [am_I (x 60 k), am_I t, am_I (x 62 k), am_R (219, k), am_I (x 63 k), (if x 64 k < 0 then am_N else am_R (2, (x 64 k).toNat))])) (218, w) (am_A 7 40 (am_uf (fun z => if (z : Int) < x 33 w then am_R (2, (x 57 (40 * w + z)).toNat) else am_N) ((x 33 w)).toNat (am_R (2, k)))))) ((am_up_sw (am_nk (by decide))).trans (congrArg (fun z => am_up z _ _) ((am_up_sw (am_nk (by decide))).trans (congrArg (fun z => am_up z _ _) am_up_up)))) ?_
      refine am_return eX6_end_65 rfl (by omega) (by omega) ?_
      exact ⟨rfl, (cx_end2 (fun i => (wb33 hW i).2) hD hw c0 hk ⟨by omega, by omega⟩).trans (by unfold sx_end; rw [if_neg c0, if_pos (by omega), hk])⟩
/-- a new dispatch on top of a way's tape -/
def sx_new (σ : sg_S) (w : Nat) (t u : Int) : sg_S := fun f j => if f = 65 ∧ 60 * (σ 51 0).toNat ≤ j ∧ j < 60 * (σ 51 0).toNat + 60 then 0 else
  (st (st (st (st (st (st (st (st σ 51 0 (σ 51 0 + 1)) 60 (σ 51 0).toNat t) 61 (σ 51 0).toNat 0) 62 (σ 51 0).toNat u) 63 (σ 51 0).toNat 0) 64 (σ 51 0).toNat (if σ 28 w ≤ 0 then -1 else σ 56 (40 * w + ((σ 28 w).toNat - 1)))) 56 (40 * w + (σ 28 w).toNat) (σ 51 0)) 28 w (σ 28 w + 1)) f j
theorem sx_new_f {σ : sg_S} {w : Nat} {t u : Int} {f j : Nat} (h : f ≠ 28 ∧ f ≠ 51 ∧ f ≠ 56 ∧ ¬ (60 ≤ f ∧ f ≤ 65)) : sx_new σ w t u f j = σ f j := by
  unfold sx_new
  rw [if_neg (by omega), st_nf (by omega), st_nf (by omega), st_nf (by omega), st_nf (by omega), st_nf (by omega), st_nf (by omega), st_nf (by omega), st_nf (by omega)]
theorem en_n2 {m x : sg_S} {i : Nat} (h : x 51 0 = (i : Int)) : en_h m x (2, i) = none := by
  show (if _ then some _ else none) = _
  rw [if_neg (by omega)]
theorem en_n219 {m x : sg_S} {i : Nat} (h : x 51 0 = (i : Int)) : en_h m x (219, i) = none := by
  show (if _ then some _ else none) = _
  rw [if_neg (by omega)]
theorem cx_new {m x : sg_S} {w n : Nat} {t u : Int} {B : am_AV} (hw : w < 2) (hn : x 51 0 = (n : Int)) (h28 : ∀ i, 0 ≤ x 28 i ∧ x 28 i ≤ 39) (h56 : ∀ w j, 0 ≤ x 56 (40 * w + j)) (hB : B = (if x 28 w ≤ 0 then am_N else am_R (2, (x 56 (40 * w + ((x 28 w).toNat - 1))).toNat))) : am_up (am_up (am_up (en_h m x) (2, n) (am_O 2 [am_I t, am_I 0, am_I u, am_R (219, n), am_I 0, B])) (219, n) (am_A 0 60 (fun _ => am_I 0))) (6, w) (am_O 6 [am_R (218, w), am_I (x 33 w), am_R (2, n), am_I (x 28 w + 1), am_I (x 27 w)]) = en_h m (sx_new x w t u) := by
  have hn' : (x 51 0).toNat = n := by omega
  have b28 := h28 w
  refine cx_ofL [((2, n), _), ((219, n), _), ((6, w), _)] (sx_new_f (by decide)) (fun p hp => ?_) (fun k i hh => ?_)
  · simp only [List.mem_cons, List.not_mem_nil, or_false] at hp
    rcases hp with rfl | rfl | rfl
    · refine ⟨cx_k2, ?_⟩
      rw [hB]
      have h0 := h56 w ((x 28 w).toNat - 1)
      simp only [en_x, sx_new, hn', st]
      by_cases c : x 28 w ≤ 0
      · simp [c]
        omega
      · simp [c]
        refine ⟨by omega, ?_⟩
        first | omega | (rw [if_neg (by omega)]) | (intro z; omega)
    · refine ⟨cx_k219, ?_⟩
      simp only [en_x, sx_new, hn', st]
      simp
      refine ⟨by omega, funext fun z => congrArg am_I ?_⟩
      simp only [tr]
      split <;> rfl
    · refine ⟨cx_k6, ?_⟩
      simp only [en_x, sx_new, hn', st]
      simp
      refine ⟨hw, ?_⟩
      rw [if_neg (by omega), if_pos (by omega)]
      rw [hn]
      rfl
  · have n1 := hh _ List.mem_cons_self
    have n2 := hh _ (List.mem_cons_of_mem _ List.mem_cons_self)
    have n3 := hh _ (List.mem_cons_of_mem _ (List.mem_cons_of_mem _ List.mem_cons_self))
    have e : ∀ f j, (f ≠ 28 ∧ f ≠ 51 ∧ f ≠ 56 ∧ ¬ (60 ≤ f ∧ f ≤ 65)) → sx_new x w t u f j = x f j := fun f j h => sx_new_f h
    have e51 : sx_new x w t u 51 0 = x 51 0 + 1 := by simp [sx_new, st]
    unfold en_x
    split <;> first
      | rfl
      | (simp (disch := decide) only [e]; done)
      | skip
    · have hj : ¬ i = w := (fun z => n3 (by rw [z]))
      have q1 : sx_new x w t u 28 i = x 28 i := by simp [sx_new, st, hj]
      have q2 : 0 < x 28 i → sx_new x w t u 56 (40 * i + ((x 28 i).toNat - 1)) = x 56 (40 * i + ((x 28 i).toNat - 1)) := fun z => by
        have := h28 i
        simp only [sx_new, st]
        rw [if_neg (by omega), if_neg (by omega), if_neg (by omega), if_neg (by omega)]
        omega
      rw [q1, e 33 i (by decide), e 27 i (by decide)]
      split
      · by_cases c : x 28 i ≤ 0
        · rw [if_pos c, if_pos c]
        · rw [if_neg c, if_neg c, q2 (by omega)]
      · rfl
    · have hj : ¬ i = n := (fun z => n1 (by rw [z]))
      rw [e51]
      by_cases c : (i : Int) < x 51 0
      · rw [if_pos c, if_pos (by omega)]
        simp [sx_new, st, hn', hj]
      · rw [if_neg c, if_neg (by omega)]
    · have hj : ¬ i = n := (fun z => n2 (by rw [z]))
      rw [e51]
      by_cases c : (i : Int) < x 51 0
      · rw [if_pos c, if_pos (by omega)]
        refine congrArg some (congrArg (am_A 0 60) (funext fun z => congrArg am_I ?_))
        simp only [tr]
        split
        · simp only [sx_new, hn']
          rw [if_neg (by omega)]
          simp [st]
        · rfl
      · rw [if_neg c, if_neg (by omega)]

