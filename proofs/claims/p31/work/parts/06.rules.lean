section AmPure
variable {G : am_G} {X : am_X} {Y : am_Y} {d mc ms : Nat} {Q : State → Prop} {pc q t : Nat} {ls : List (Option am_AV)} {st : List am_AV} {h : am_AH} {k n : Nat}
theorem am_T_1 {ι : am_Nm → Option Nat} {v : am_AV} {vs : List am_AV} {sr : List Value} (ht : am_T ι (v :: vs) sr) : ∃ w ws, sr = w :: ws ∧ am_V ι v w ∧ am_T ι vs ws := by
  match sr, ht with
  | w :: ws, ⟨a, b⟩ => exact ⟨w, ws, rfl, a, b⟩
theorem am_heq {h' : am_AH} (e : h = h') (kk : am_W G X Y d mc ms Q pc ls st h' k n) : am_W G X Y d mc ms Q pc ls st h k n := e ▸ kk
theorem am_steq {st' : List am_AV} (e : st = st') (kk : am_W G X Y d mc ms Q pc ls st' h k n) : am_W G X Y d mc ms Q pc ls st h k n := e ▸ kk
theorem am_lseq {ls' : List (Option am_AV)} (e : ls = ls') (kk : am_W G X Y d mc ms Q pc ls' st h k n) : am_W G X Y d mc ms Q pc ls st h k n := e ▸ kk
/-- fewer locals known -/
theorem am_lless {ls' : List (Option am_AV)} (hz : ls'.length = ls.length) (e : ∀ (i : Nat) (v : am_AV), ls'[i]? = some (some v) → ls[i]? = some (some v)) (kk : am_W G X Y d mc ms Q pc ls' st h k n) : am_W G X Y d mc ms Q pc ls st h k n := by
  obtain ⟨p, e9, R, s, m, args, below, meth, c, ι0⟩ := X
  intro ok ι H lr sr lc hr hl ht
  exact kk ok ι H lr sr lc hr ⟨hl.1, hl.2.1, hz.trans hl.2.2.1, fun i v hi => hl.2.2.2 i v (e i v hi)⟩ ht
theorem am_widen {k' n' : Nat} (h1 : k ≤ k') (h2 : n ≤ n') (kk : am_W G X Y d mc ms Q pc ls st h k' n') : am_W G X Y d mc ms Q pc ls st h k n := by
  obtain ⟨p, e, R, s, m, args, below, meth, c, ι0⟩ := X
  intro ok ι H lr sr lc hr hl ht
  exact W.widen h1 h2 (kk ok ι H lr sr lc hr hl ht)
theorem am_iconst {x : Int} (hd : am_d Y.1 pc (.iconst x) 1 q) (kk : am_W G X Y d mc ms Q q ls (am_I x :: st) h k n) : am_W G X Y d mc ms Q pc ls st h k n := by
  obtain ⟨p, e, R, s, m, args, below, meth, c, ι0⟩ := X
  obtain ⟨hd, rfl⟩ := hd
  intro ok ι H lr sr lc hr hl ht
  exact lv_iconst ok.1 ok.2.1 hd rfl (kk ok ι H lr _ lc hr hl ⟨rfl, ht⟩)
theorem am_bipush {x : Int} (hd : am_d Y.1 pc (.bipush x) 2 q) (hx : (Int8.ofInt x).toInt32 = Int32.ofInt x) (kk : am_W G X Y d mc ms Q q ls (am_I x :: st) h k n) : am_W G X Y d mc ms Q pc ls st h k n := by
  obtain ⟨p, e, R, s, m, args, below, meth, c, ι0⟩ := X
  obtain ⟨hd, rfl⟩ := hd
  intro ok ι H lr sr lc hr hl ht
  exact lv_bipush ok.1 ok.2.1 hd hx (kk ok ι H lr _ lc hr hl ⟨rfl, ht⟩)
theorem am_sipush {x : Int} (hd : am_d Y.1 pc (.sipush x) 3 q) (hx : (Int16.ofInt x).toInt32 = Int32.ofInt x) (kk : am_W G X Y d mc ms Q q ls (am_I x :: st) h k n) : am_W G X Y d mc ms Q pc ls st h k n := by
  obtain ⟨p, e, R, s, m, args, below, meth, c, ι0⟩ := X
  obtain ⟨hd, rfl⟩ := hd
  intro ok ι H lr sr lc hr hl ht
  exact lv_sipush ok.1 ok.2.1 hd hx (kk ok ι H lr _ lc hr hl ⟨rfl, ht⟩)
theorem am_lconst {x : Fin 2} (hd : am_d Y.1 pc (.lconst x) 1 q) (kk : am_W G X Y d mc ms Q q ls (am_J (x : Nat) :: st) h k n) : am_W G X Y d mc ms Q pc ls st h k n := by
  obtain ⟨p, e, R, s, m, args, below, meth, c, ι0⟩ := X
  obtain ⟨hd, rfl⟩ := hd
  intro ok ι H lr sr lc hr hl ht
  exact lv_lconst ok.1 ok.2.1 hd rfl (kk ok ι H lr _ lc hr hl ⟨by simp [am_V, Int64.ofInt_eq_ofNat], ht⟩)
theorem am_null (hd : am_d Y.1 pc .aconst_null 1 q) (kk : am_W G X Y d mc ms Q q ls (am_N :: st) h k n) : am_W G X Y d mc ms Q pc ls st h k n := by
  obtain ⟨p, e, R, s, m, args, below, meth, c, ι0⟩ := X
  obtain ⟨hd, rfl⟩ := hd
  intro ok ι H lr sr lc hr hl ht
  exact lv_null ok.1 ok.2.1 hd (kk ok ι H lr _ lc hr hl ⟨rfl, ht⟩)
theorem am_ldc {idx : Nat} {x : Int32} (hd : am_d Y.1 pc (.ldc idx) 2 q) (hc : Cond.constant Y.2.2.1 idx x ∈ am_uw) (kk : am_W G X Y d mc ms Q q ls (am_I x.toInt :: st) h k n) : am_W G X Y d mc ms Q pc ls st h k n := by
  obtain ⟨p, e, R, s, m, args, below, meth, c, ι0⟩ := X
  obtain ⟨hd, rfl⟩ := hd
  intro ok ι H lr sr lc hr hl ht
  have hown := ok.2.2.2.1
  have hts := ok.2.2.2.2.1
  exact lv_ldc ok.1 ok.2.1 hown (hts _ hc) hd (kk ok ι H lr _ lc hr hl ⟨by simp [am_V], ht⟩)
theorem am_iload_n {i : Fin 4} {x : Int} (hd : am_d Y.1 pc (.iload_n i) 1 q) (hx : ls[(i : Nat)]? = some (some (am_I x))) (kk : am_W G X Y d mc ms Q q ls (am_I x :: st) h k n) : am_W G X Y d mc ms Q pc ls st h k n := by
  obtain ⟨p, e, R, s, m, args, below, meth, c, ι0⟩ := X
  obtain ⟨hd, rfl⟩ := hd
  intro ok ι H lr sr lc hr hl ht
  obtain ⟨w, h1, h2, h3⟩ := hl.2.2.2 _ _ hx
  cases h2
  exact lv_iload_n ok.1 ok.2.1 hd rfl h1 (kk ok ι H lr _ lc hr hl ⟨rfl, ht⟩)
theorem am_iload {i : Nat} {x : Int} (hd : am_d Y.1 pc (.iload i) 2 q) (hx : ls[i]? = some (some (am_I x))) (kk : am_W G X Y d mc ms Q q ls (am_I x :: st) h k n) : am_W G X Y d mc ms Q pc ls st h k n := by
  obtain ⟨p, e, R, s, m, args, below, meth, c, ι0⟩ := X
  obtain ⟨hd, rfl⟩ := hd
  intro ok ι H lr sr lc hr hl ht
  obtain ⟨w, h1, h2, h3⟩ := hl.2.2.2 _ _ hx
  cases h2
  exact lv_iload ok.1 ok.2.1 hd h1 (kk ok ι H lr _ lc hr hl ⟨rfl, ht⟩)
theorem am_aload_n {i : Fin 4} {x : Option am_Nm} (hd : am_d Y.1 pc (.aload_n i) 1 q) (hx : ls[(i : Nat)]? = some (some (Sum.inr (Sum.inr x)))) (kk : am_W G X Y d mc ms Q q ls (Sum.inr (Sum.inr x) :: st) h k n) : am_W G X Y d mc ms Q pc ls st h k n := by
  obtain ⟨p, e, R, s, m, args, below, meth, c, ι0⟩ := X
  obtain ⟨hd, rfl⟩ := hd
  intro ok ι H lr sr lc hr hl ht
  obtain ⟨w, h1, h2, h3⟩ := hl.2.2.2 _ _ hx
  cases x with
  | none =>
    cases h2
    exact lv_aload_nN ok.1 ok.2.1 hd rfl h1 (kk ok ι H lr _ lc hr hl ⟨rfl, ht⟩)
  | some y =>
    obtain ⟨a, h4, h5⟩ := h2
    subst h5
    exact lv_aload_n ok.1 ok.2.1 hd rfl h1 (kk ok ι H lr _ lc hr hl ⟨⟨a, h4, rfl⟩, ht⟩)
theorem am_aload {i : Nat} {x : Option am_Nm} (hd : am_d Y.1 pc (.aload i) 2 q) (hx : ls[i]? = some (some (Sum.inr (Sum.inr x)))) (kk : am_W G X Y d mc ms Q q ls (Sum.inr (Sum.inr x) :: st) h k n) : am_W G X Y d mc ms Q pc ls st h k n := by
  obtain ⟨p, e, R, s, m, args, below, meth, c, ι0⟩ := X
  obtain ⟨hd, rfl⟩ := hd
  intro ok ι H lr sr lc hr hl ht
  obtain ⟨w, h1, h2, h3⟩ := hl.2.2.2 _ _ hx
  cases x with
  | none =>
    cases h2
    exact lv_aloadN ok.1 ok.2.1 hd h1 (kk ok ι H lr _ lc hr hl ⟨rfl, ht⟩)
  | some y =>
    obtain ⟨a, h4, h5⟩ := h2
    subst h5
    exact lv_aload ok.1 ok.2.1 hd h1 (kk ok ι H lr _ lc hr hl ⟨⟨a, h4, rfl⟩, ht⟩)
/-- all listed values of one slot -/
def am_lv (lr : Array Slot) : List (Nat × Value) := (List.range lr.size).filterMap fun i => match lr[i]? with
  | some (Slot.val w) => if w.category = 1 then some (i, w) else none
  | _ => none
theorem am_lv_in {lr : Array Slot} {i : Nat} {w : Value} (h1 : lr[i]? = some (.val w)) (h2 : w.category = 1) : (i, w) ∈ am_lv lr := by
  have hi : i < lr.size := (Array.getElem?_eq_some_iff.mp h1).1
  refine List.mem_filterMap.mpr ⟨i, List.mem_range.mpr hi, ?_⟩
  simp only [h1, h2, if_true]
theorem am_lv_has {nL : Nat} {ι : am_Nm → Option Nat} {lr : Array Slot} (hl : am_L nL ι ls lr) : lv_has lr nL (am_lv lr) := by
  refine ⟨hl.1, hl.2.1, fun x hx => ?_⟩
  obtain ⟨i, -, hi⟩ := List.mem_filterMap.mp hx
  split at hi
  · rename_i w hw
    split at hi
    · cases hi; exact hw
    · cases hi
  · cases hi
theorem am_L_set {nL : Nat} {ι : am_Nm → Option Nat} {lr lr' : Array Slot} (hl : am_L nL ι ls lr) {i : Nat} {v : am_AV} {w : Value} (hv : am_V ι v w) (hc : w.category = 1) (hi : i < nL) (h2 : lv_has lr' nL ((i, w) :: (am_lv lr).filter (fun q => !(q.1 == i) && !(q.1 + 1 == i && q.2.category == 2)))) : am_L nL ι (ls.set i (some v)) lr' := by
  refine ⟨h2.1, h2.2.1, by rw [List.length_set]; exact hl.2.2.1, fun j u hu => ?_⟩
  by_cases e : j = i
  · subst e
    rw [List.getElem?_set_self (by rw [hl.2.2.1]; exact hi)] at hu
    cases hu
    exact ⟨w, h2.2.2 (j, w) List.mem_cons_self, hv, hc⟩
  · rw [List.getElem?_set_ne (Ne.symm e)] at hu
    obtain ⟨w', h3, h4, h5⟩ := hl.2.2.2 j u hu
    refine ⟨w', h2.2.2 (j, w') (List.mem_cons_of_mem _ (List.mem_filter.mpr ⟨am_lv_in h3 h5, ?_⟩)), h4, h5⟩
    simp [e, h5]
theorem am_istore_n {i : Fin 4} {x : Int} (hd : am_d Y.1 pc (.istore_n i) 1 q) (hi : (i : Nat) < Y.2.1) (kk : am_W G X Y d mc ms Q q (ls.set i (some (am_I x))) st h k n) : am_W G X Y d mc ms Q pc ls (am_I x :: st) h k n := by
  obtain ⟨p, e, R, s, m, args, below, meth, c, ι0⟩ := X
  obtain ⟨hd, rfl⟩ := hd
  intro ok ι H lr sr lc hr hl ht
  obtain ⟨w, sr, rfl, h1, ht1⟩ := am_T_1 ht
  cases h1
  exact lv_istore_n ok.1 ok.2.1 hd rfl (am_lv_has hl) hi rfl fun lr' hl' => kk ok ι H lr' sr lc hr (am_L_set hl rfl rfl hi hl') ht1
theorem am_istore {i : Nat} {x : Int} (hd : am_d Y.1 pc (.istore i) 2 q) (hi : i < Y.2.1) (kk : am_W G X Y d mc ms Q q (ls.set i (some (am_I x))) st h k n) : am_W G X Y d mc ms Q pc ls (am_I x :: st) h k n := by
  obtain ⟨p, e, R, s, m, args, below, meth, c, ι0⟩ := X
  obtain ⟨hd, rfl⟩ := hd
  intro ok ι H lr sr lc hr hl ht
  obtain ⟨w, sr, rfl, h1, ht1⟩ := am_T_1 ht
  cases h1
  exact lv_istore ok.1 ok.2.1 hd (am_lv_has hl) hi rfl fun lr' hl' => kk ok ι H lr' sr lc hr (am_L_set hl rfl rfl hi hl') ht1
theorem am_astore_n {i : Fin 4} {x : Option am_Nm} (hd : am_d Y.1 pc (.astore_n i) 1 q) (hi : (i : Nat) < Y.2.1) (kk : am_W G X Y d mc ms Q q (ls.set i (some (Sum.inr (Sum.inr x)))) st h k n) : am_W G X Y d mc ms Q pc ls (Sum.inr (Sum.inr x) :: st) h k n := by
  obtain ⟨p, e, R, s, m, args, below, meth, c, ι0⟩ := X
  obtain ⟨hd, rfl⟩ := hd
  intro ok ι H lr sr lc hr hl ht
  obtain ⟨w, sr, rfl, h1, ht1⟩ := am_T_1 ht
  cases x with
  | none =>
    cases h1
    exact lv_astore_nN ok.1 ok.2.1 hd rfl (am_lv_has hl) hi rfl fun lr' hl' => kk ok ι H lr' sr lc hr (am_L_set hl rfl rfl hi hl') ht1
  | some y =>
    obtain ⟨a, h4, h5⟩ := h1
    subst h5
    exact lv_astore_n ok.1 ok.2.1 hd rfl (am_lv_has hl) hi rfl fun lr' hl' => kk ok ι H lr' sr lc hr (am_L_set hl ⟨a, h4, rfl⟩ rfl hi hl') ht1
theorem am_astore {i : Nat} {x : Option am_Nm} (hd : am_d Y.1 pc (.astore i) 2 q) (hi : i < Y.2.1) (kk : am_W G X Y d mc ms Q q (ls.set i (some (Sum.inr (Sum.inr x)))) st h k n) : am_W G X Y d mc ms Q pc ls (Sum.inr (Sum.inr x) :: st) h k n := by
  obtain ⟨p, e, R, s, m, args, below, meth, c, ι0⟩ := X
  obtain ⟨hd, rfl⟩ := hd
  intro ok ι H lr sr lc hr hl ht
  obtain ⟨w, sr, rfl, h1, ht1⟩ := am_T_1 ht
  cases x with
  | none =>
    cases h1
    exact lv_astoreN ok.1 ok.2.1 hd (am_lv_has hl) hi rfl fun lr' hl' => kk ok ι H lr' sr lc hr (am_L_set hl rfl rfl hi hl') ht1
  | some y =>
    obtain ⟨a, h4, h5⟩ := h1
    subst h5
    exact lv_astore ok.1 ok.2.1 hd (am_lv_has hl) hi rfl fun lr' hl' => kk ok ι H lr' sr lc hr (am_L_set hl ⟨a, h4, rfl⟩ rfl hi hl') ht1
theorem am_iinc {i : Nat} {z x : Int} (hd : am_d Y.1 pc (.iinc i z) 3 q) (hx : ls[i]? = some (some (am_I x))) (hi : i < Y.2.1) (kk : am_W G X Y d mc ms Q q (ls.set i (some (am_I (x + z)))) st h k n) : am_W G X Y d mc ms Q pc ls st h k n := by
  obtain ⟨p, e, R, s, m, args, below, meth, c, ι0⟩ := X
  obtain ⟨hd, rfl⟩ := hd
  intro ok ι H lr sr lc hr hl ht
  obtain ⟨w, h1, h2, h3⟩ := hl.2.2.2 _ _ hx
  cases h2
  obtain ⟨j, hj⟩ := List.getElem?_of_mem (am_lv_in h1 h3)
  exact lv_iinc ok.1 ok.2.1 hd (am_lv_has hl) hj (by rw [← Int32.ofInt_add]) hi rfl fun lr' hl' => kk ok ι H lr' sr lc hr (am_L_set hl rfl rfl hi hl') ht
theorem am_dup {v : am_AV} (hv : v.isLeft ∨ ∃ x, v = Sum.inr (Sum.inr x)) (hd : am_d Y.1 pc .dup 1 q) (kk : am_W G X Y d mc ms Q q ls (v :: v :: st) h k n) : am_W G X Y d mc ms Q pc ls (v :: st) h k n := by
  obtain ⟨p, e, R, s, m, args, below, meth, c, ι0⟩ := X
  obtain ⟨hd, rfl⟩ := hd
  intro ok ι H lr sr lc hr hl ht
  obtain ⟨w, sr, rfl, h1, ht1⟩ := am_T_1 ht
  have hc : w.category = 1 := by
    match v, hv, h1 with
    | .inl x, _, h1 => cases h1; rfl
    | .inr (.inr none), _, h1 => cases h1; rfl
    | .inr (.inr (some y)), _, h1 => obtain ⟨a, -, rfl⟩ := h1; rfl
    | .inr (.inl x), hv, _ => exact absurd hv (by simp)
  exact lv_dup ok.1 ok.2.1 hd hc (kk ok ι H lr _ lc hr hl ⟨h1, h1, ht1⟩)
theorem am_pop {v : am_AV} (hv : v.isLeft ∨ ∃ x, v = Sum.inr (Sum.inr x)) (hd : am_d Y.1 pc .pop 1 q) (kk : am_W G X Y d mc ms Q q ls st h k n) : am_W G X Y d mc ms Q pc ls (v :: st) h k n := by
  obtain ⟨p, e, R, s, m, args, below, meth, c, ι0⟩ := X
  obtain ⟨hd, rfl⟩ := hd
  intro ok ι H lr sr lc hr hl ht
  obtain ⟨w, sr, rfl, h1, ht1⟩ := am_T_1 ht
  have hc : w.category = 1 := by
    match v, hv, h1 with
    | .inl x, _, h1 => cases h1; rfl
    | .inr (.inr none), _, h1 => cases h1; rfl
    | .inr (.inr (some y)), _, h1 => obtain ⟨a, -, rfl⟩ := h1; rfl
    | .inr (.inl x), hv, _ => exact absurd hv (by simp)
  exact lv_pop ok.1 ok.2.1 hd hc (kk ok ι H lr _ lc hr hl ht1)
theorem am_dup2 {x : Int} {y : am_Nm} (hd : am_d Y.1 pc .dup2 1 q) (kk : am_W G X Y d mc ms Q q ls (am_I x :: am_R y :: am_I x :: am_R y :: st) h k n) : am_W G X Y d mc ms Q pc ls (am_I x :: am_R y :: st) h k n := by
  obtain ⟨p, e, R, s, m, args, below, meth, c, ι0⟩ := X
  obtain ⟨hd, rfl⟩ := hd
  intro ok ι H lr sr lc hr hl ht
  obtain ⟨w, sr, rfl, h1, ht1⟩ := am_T_1 ht
  obtain ⟨u, sr, rfl, h2, ht2⟩ := am_T_1 ht1
  obtain ⟨a, h3, rfl⟩ := id h2
  cases h1
  exact lv_dup2_11 ok.1 ok.2.1 hd rfl rfl (kk ok ι H lr _ lc hr hl ⟨rfl, h2, rfl, h2, ht2⟩)
theorem am_goto {o : Int} (hd : am_b Y.1 pc (.goto o) o q t) (kk : am_W G X Y d mc ms Q t ls st h k n) : am_W G X Y d mc ms Q pc ls st h k n := by
  obtain ⟨p, e, R, s, m, args, below, meth, c, ι0⟩ := X
  obtain ⟨hd, rfl, ht⟩ := hd
  intro ok ι H lr sr lc hr hl hs
  exact lv_goto ok.1 ok.2.1 hd ht (kk ok ι H lr _ lc hr hl hs)
theorem am_iadd {a b : Int} (hd : am_d Y.1 pc .iadd 1 q) (kk : am_W G X Y d mc ms Q q ls (am_I (a + b) :: st) h k n) : am_W G X Y d mc ms Q pc ls (am_I b :: am_I a :: st) h k n := by
  obtain ⟨p, e, R, s, m, args, below, meth, c, ι0⟩ := X
  obtain ⟨hd, rfl⟩ := hd
  intro ok ι H lr sr lc hr hl ht
  obtain ⟨w, sr, rfl, h1, ht1⟩ := am_T_1 ht
  obtain ⟨u, sr, rfl, h2, ht2⟩ := am_T_1 ht1
  cases h1; cases h2
  exact lv_iadd ok.1 ok.2.1 hd (kk ok ι H lr _ lc hr hl ⟨by show Value.int _ = Value.int _; rw [Int32.ofInt_add], ht2⟩)
theorem am_isub {a b : Int} (hd : am_d Y.1 pc .isub 1 q) (kk : am_W G X Y d mc ms Q q ls (am_I (a - b) :: st) h k n) : am_W G X Y d mc ms Q pc ls (am_I b :: am_I a :: st) h k n := by
  obtain ⟨p, e, R, s, m, args, below, meth, c, ι0⟩ := X
  obtain ⟨hd, rfl⟩ := hd
  intro ok ι H lr sr lc hr hl ht
  obtain ⟨w, sr, rfl, h1, ht1⟩ := am_T_1 ht
  obtain ⟨u, sr, rfl, h2, ht2⟩ := am_T_1 ht1
  cases h1; cases h2
  exact lv_isub ok.1 ok.2.1 hd (kk ok ι H lr _ lc hr hl ⟨by show Value.int _ = Value.int _; rw [Int32.ofInt_sub], ht2⟩)
theorem am_imul {a b : Int} (hd : am_d Y.1 pc .imul 1 q) (kk : am_W G X Y d mc ms Q q ls (am_I (a * b) :: st) h k n) : am_W G X Y d mc ms Q pc ls (am_I b :: am_I a :: st) h k n := by
  obtain ⟨p, e, R, s, m, args, below, meth, c, ι0⟩ := X
  obtain ⟨hd, rfl⟩ := hd
  intro ok ι H lr sr lc hr hl ht
  obtain ⟨w, sr, rfl, h1, ht1⟩ := am_T_1 ht
  obtain ⟨u, sr, rfl, h2, ht2⟩ := am_T_1 ht1
  cases h1; cases h2
  exact lv_imul ok.1 ok.2.1 hd (kk ok ι H lr _ lc hr hl ⟨by show Value.int _ = Value.int _; rw [Int32.ofInt_mul], ht2⟩)
theorem am_ineg {a : Int} (hd : am_d Y.1 pc .ineg 1 q) (kk : am_W G X Y d mc ms Q q ls (am_I (-a) :: st) h k n) : am_W G X Y d mc ms Q pc ls (am_I a :: st) h k n := by
  obtain ⟨p, e, R, s, m, args, below, meth, c, ι0⟩ := X
  obtain ⟨hd, rfl⟩ := hd
  intro ok ι H lr sr lc hr hl ht
  obtain ⟨w, sr, rfl, h1, ht1⟩ := am_T_1 ht
  cases h1
  exact lv_ineg ok.1 ok.2.1 hd (kk ok ι H lr _ lc hr hl ⟨by show Value.int _ = Value.int _; rw [Int32.ofInt_neg], ht1⟩)
theorem am_div_eq {a b : Int} (ha : am_r a) (h0 : 0 ≤ a) (hb : am_r b) (h1 : 0 < b) : Int32.ofInt a / Int32.ofInt b = Int32.ofInt (a / b) := by
  rw [← Int32.toInt_inj, Int32.toInt_div_of_ne_right _ _ (fun e => by
    have e2 := congrArg Int32.toInt e
    rw [am_toInt hb] at e2
    have : (-1 : Int32).toInt = -1 := by decide
    omega), am_toInt ha, am_toInt hb, Int.tdiv_eq_ediv_of_nonneg h0]
  have : a / b ≤ a := Int.ediv_le_self _ h0
  have : 0 ≤ a / b := Int.ediv_nonneg h0 (by omega)
  exact (am_toInt ⟨by omega, by have := ha.2; omega⟩).symm
theorem am_idiv {a b : Int} (ha : am_r a) (h0 : 0 ≤ a) (hb : am_r b) (h1 : 0 < b) (hd : am_d Y.1 pc .idiv 1 q) (kk : am_W G X Y d mc ms Q q ls (am_I (a / b) :: st) h k n) : am_W G X Y d mc ms Q pc ls (am_I b :: am_I a :: st) h k n := by
  obtain ⟨p, e, R, s, m, args, below, meth, c, ι0⟩ := X
  obtain ⟨hd, rfl⟩ := hd
  intro ok ι H lr sr lc hr hl ht
  obtain ⟨w, sr, rfl, q1, ht1⟩ := am_T_1 ht
  obtain ⟨u, sr, rfl, q2, ht2⟩ := am_T_1 ht1
  cases q1; cases q2
  refine lv_idiv ok.1 ok.2.1 hd (fun z => ?_) (kk ok ι H lr _ lc hr hl ⟨by show Value.int _ = Value.int _; rw [am_div_eq ha h0 hb h1], ht2⟩)
  rw [am_z, am_eq hb am_r0] at z
  omega
theorem am_irem {a b : Int} (ha : am_r a) (h0 : 0 ≤ a) (hb : am_r b) (h1 : 0 < b) (hd : am_d Y.1 pc .irem 1 q) (kk : am_W G X Y d mc ms Q q ls (am_I (a % b) :: st) h k n) : am_W G X Y d mc ms Q pc ls (am_I b :: am_I a :: st) h k n := by
  obtain ⟨p, e, R, s, m, args, below, meth, c, ι0⟩ := X
  obtain ⟨hd, rfl⟩ := hd
  intro ok ι H lr sr lc hr hl ht
  obtain ⟨w, sr, rfl, q1, ht1⟩ := am_T_1 ht
  obtain ⟨u, sr, rfl, q2, ht2⟩ := am_T_1 ht1
  cases q1; cases q2
  refine lv_irem ok.1 ok.2.1 hd (fun z => ?_) (kk ok ι H lr _ lc hr hl ⟨?_, ht2⟩)
  · rw [am_z, am_eq hb am_r0] at z
    omega
  · show Value.int _ = Value.int _
    rw [am_div_eq ha h0 hb h1, ← Int32.ofInt_mul, ← Int32.ofInt_sub]
    congr 2
    have := Int.emod_add_mul_ediv a b
    rw [Int.mul_comm] at this
    omega
theorem am_i2l {a : Int} (ha : am_r a) (hd : am_d Y.1 pc .i2l 1 q) (kk : am_W G X Y d mc ms Q q ls (am_J a :: st) h k n) : am_W G X Y d mc ms Q pc ls (am_I a :: st) h k n := by
  obtain ⟨p, e, R, s, m, args, below, meth, c, ι0⟩ := X
  obtain ⟨hd, rfl⟩ := hd
  intro ok ι H lr sr lc hr hl ht
  obtain ⟨w, sr, rfl, q1, ht1⟩ := am_T_1 ht
  cases q1
  refine lv_i2l ok.1 ok.2.1 hd ?_ (kk ok ι H lr _ lc hr hl ⟨rfl, ht1⟩)
  exact Int32.toInt64_ofInt (by have := ha.1; show (-2147483648 : Int) ≤ a; exact this) (by have := ha.2; show a ≤ (2147483647 : Int); omega)
section AmIf
variable {a b o : Int}
theorem am_if_eq (ha : am_r a) (hd : am_b Y.1 pc (.ifCond .eq o) o q t) (kt : a = 0 → am_W G X Y d mc ms Q t ls st h k n) (kf : ¬ a = 0 → am_W G X Y d mc ms Q q ls st h k n) : am_W G X Y d mc ms Q pc ls (am_I a :: st) h k n := by
  obtain ⟨p, e, R, s, m, args, below, meth, c, ι0⟩ := X
  obtain ⟨hd, rfl, hg⟩ := hd
  intro ok ι H lr sr lc hr hl ht
  obtain ⟨w, sr, rfl, q1, ht1⟩ := am_T_1 ht
  cases q1
  exact lv_if_eq ok.1 ok.2.1 hd hg (fun z => kt ((am_eq ha am_r0).mp (by rw [← am_z]; exact z)) ok ι H lr _ lc hr hl ht1) (fun z => kf (fun y => z (by rw [am_z]; exact (am_eq ha am_r0).mpr y)) ok ι H lr _ lc hr hl ht1)
theorem am_if_ne (ha : am_r a) (hd : am_b Y.1 pc (.ifCond .ne o) o q t) (kt : ¬ a = 0 → am_W G X Y d mc ms Q t ls st h k n) (kf : a = 0 → am_W G X Y d mc ms Q q ls st h k n) : am_W G X Y d mc ms Q pc ls (am_I a :: st) h k n := by
  obtain ⟨p, e, R, s, m, args, below, meth, c, ι0⟩ := X
  obtain ⟨hd, rfl, hg⟩ := hd
  intro ok ι H lr sr lc hr hl ht
  obtain ⟨w, sr, rfl, q1, ht1⟩ := am_T_1 ht
  cases q1
  exact lv_if_ne ok.1 ok.2.1 hd hg (fun z => kt (fun y => absurd (show Int32.ofInt a = 0 by rw [am_z]; exact (am_eq ha am_r0).mpr y) z) ok ι H lr _ lc hr hl ht1) (fun z => kf ((am_eq ha am_r0).mp (by rw [← am_z]; exact z)) ok ι H lr _ lc hr hl ht1)
theorem am_if_lt (ha : am_r a) (hd : am_b Y.1 pc (.ifCond .lt o) o q t) (kt : a < 0 → am_W G X Y d mc ms Q t ls st h k n) (kf : ¬ a < 0 → am_W G X Y d mc ms Q q ls st h k n) : am_W G X Y d mc ms Q pc ls (am_I a :: st) h k n := by
  obtain ⟨p, e, R, s, m, args, below, meth, c, ι0⟩ := X
  obtain ⟨hd, rfl, hg⟩ := hd
  intro ok ι H lr sr lc hr hl ht
  obtain ⟨w, sr, rfl, q1, ht1⟩ := am_T_1 ht
  cases q1
  exact lv_if_lt ok.1 ok.2.1 hd hg (fun z => kt ((am_lt ha am_r0).mp (by rw [← am_z]; exact z)) ok ι H lr _ lc hr hl ht1) (fun z => kf (fun y => z (by rw [am_z]; exact (am_lt ha am_r0).mpr y)) ok ι H lr _ lc hr hl ht1)
theorem am_if_ge (ha : am_r a) (hd : am_b Y.1 pc (.ifCond .ge o) o q t) (kt : 0 ≤ a → am_W G X Y d mc ms Q t ls st h k n) (kf : ¬ 0 ≤ a → am_W G X Y d mc ms Q q ls st h k n) : am_W G X Y d mc ms Q pc ls (am_I a :: st) h k n := by
  obtain ⟨p, e, R, s, m, args, below, meth, c, ι0⟩ := X
  obtain ⟨hd, rfl, hg⟩ := hd
  intro ok ι H lr sr lc hr hl ht
  obtain ⟨w, sr, rfl, q1, ht1⟩ := am_T_1 ht
  cases q1
  exact lv_if_ge ok.1 ok.2.1 hd hg (fun z => kt ((am_lef am_r0 ha).mp (by rw [← am_z]; exact z)) ok ι H lr _ lc hr hl ht1) (fun z => kf (fun y => z (by show (0 : Int32) ≤ _; rw [am_z]; exact (am_lef am_r0 ha).mpr y)) ok ι H lr _ lc hr hl ht1)
theorem am_if_gt (ha : am_r a) (hd : am_b Y.1 pc (.ifCond .gt o) o q t) (kt : 0 < a → am_W G X Y d mc ms Q t ls st h k n) (kf : ¬ 0 < a → am_W G X Y d mc ms Q q ls st h k n) : am_W G X Y d mc ms Q pc ls (am_I a :: st) h k n := by
  obtain ⟨p, e, R, s, m, args, below, meth, c, ι0⟩ := X
  obtain ⟨hd, rfl, hg⟩ := hd
  intro ok ι H lr sr lc hr hl ht
  obtain ⟨w, sr, rfl, q1, ht1⟩ := am_T_1 ht
  cases q1
  exact lv_if_gt ok.1 ok.2.1 hd hg (fun z => kt ((am_lt am_r0 ha).mp (by rw [← am_z]; exact z)) ok ι H lr _ lc hr hl ht1) (fun z => kf (fun y => z (by show (0 : Int32) < _; rw [am_z]; exact (am_lt am_r0 ha).mpr y)) ok ι H lr _ lc hr hl ht1)
theorem am_if_le (ha : am_r a) (hd : am_b Y.1 pc (.ifCond .le o) o q t) (kt : a ≤ 0 → am_W G X Y d mc ms Q t ls st h k n) (kf : ¬ a ≤ 0 → am_W G X Y d mc ms Q q ls st h k n) : am_W G X Y d mc ms Q pc ls (am_I a :: st) h k n := by
  obtain ⟨p, e, R, s, m, args, below, meth, c, ι0⟩ := X
  obtain ⟨hd, rfl, hg⟩ := hd
  intro ok ι H lr sr lc hr hl ht
  obtain ⟨w, sr, rfl, q1, ht1⟩ := am_T_1 ht
  cases q1
  exact lv_if_le ok.1 ok.2.1 hd hg (fun z => kt ((am_lef ha am_r0).mp (by rw [← am_z]; exact z)) ok ι H lr _ lc hr hl ht1) (fun z => kf (fun y => z (by show _ ≤ (0 : Int32); rw [am_z]; exact (am_lef ha am_r0).mpr y)) ok ι H lr _ lc hr hl ht1)
theorem am_icmp_eq (ha : am_r a) (hb : am_r b) (hd : am_b Y.1 pc (.if_icmp .eq o) o q t) (kt : a = b → am_W G X Y d mc ms Q t ls st h k n) (kf : ¬ a = b → am_W G X Y d mc ms Q q ls st h k n) : am_W G X Y d mc ms Q pc ls (am_I b :: am_I a :: st) h k n := by
  obtain ⟨p, e, R, s, m, args, below, meth, c, ι0⟩ := X
  obtain ⟨hd, rfl, hg⟩ := hd
  intro ok ι H lr sr lc hr hl ht
  obtain ⟨w, sr, rfl, q1, ht1⟩ := am_T_1 ht
  obtain ⟨u, sr, rfl, q2, ht2⟩ := am_T_1 ht1
  cases q1; cases q2
  exact lv_icmp_eq ok.1 ok.2.1 hd hg (fun z => kt ((am_eq ha hb).mp z) ok ι H lr _ lc hr hl ht2) (fun z => kf (fun y => z ((am_eq ha hb).mpr y)) ok ι H lr _ lc hr hl ht2)
theorem am_icmp_ne (ha : am_r a) (hb : am_r b) (hd : am_b Y.1 pc (.if_icmp .ne o) o q t) (kt : ¬ a = b → am_W G X Y d mc ms Q t ls st h k n) (kf : a = b → am_W G X Y d mc ms Q q ls st h k n) : am_W G X Y d mc ms Q pc ls (am_I b :: am_I a :: st) h k n := by
  obtain ⟨p, e, R, s, m, args, below, meth, c, ι0⟩ := X
  obtain ⟨hd, rfl, hg⟩ := hd
  intro ok ι H lr sr lc hr hl ht
  obtain ⟨w, sr, rfl, q1, ht1⟩ := am_T_1 ht
  obtain ⟨u, sr, rfl, q2, ht2⟩ := am_T_1 ht1
  cases q1; cases q2
  exact lv_icmp_ne ok.1 ok.2.1 hd hg (fun z => kt (fun y => absurd ((am_eq ha hb).mpr y) z) ok ι H lr _ lc hr hl ht2) (fun z => kf ((am_eq ha hb).mp z) ok ι H lr _ lc hr hl ht2)
theorem am_icmp_lt (ha : am_r a) (hb : am_r b) (hd : am_b Y.1 pc (.if_icmp .lt o) o q t) (kt : a < b → am_W G X Y d mc ms Q t ls st h k n) (kf : ¬ a < b → am_W G X Y d mc ms Q q ls st h k n) : am_W G X Y d mc ms Q pc ls (am_I b :: am_I a :: st) h k n := by
  obtain ⟨p, e, R, s, m, args, below, meth, c, ι0⟩ := X
  obtain ⟨hd, rfl, hg⟩ := hd
  intro ok ι H lr sr lc hr hl ht
  obtain ⟨w, sr, rfl, q1, ht1⟩ := am_T_1 ht
  obtain ⟨u, sr, rfl, q2, ht2⟩ := am_T_1 ht1
  cases q1; cases q2
  exact lv_icmp_lt ok.1 ok.2.1 hd hg (fun z => kt ((am_lt ha hb).mp z) ok ι H lr _ lc hr hl ht2) (fun z => kf (fun y => z ((am_lt ha hb).mpr y)) ok ι H lr _ lc hr hl ht2)
theorem am_icmp_ge (ha : am_r a) (hb : am_r b) (hd : am_b Y.1 pc (.if_icmp .ge o) o q t) (kt : b ≤ a → am_W G X Y d mc ms Q t ls st h k n) (kf : ¬ b ≤ a → am_W G X Y d mc ms Q q ls st h k n) : am_W G X Y d mc ms Q pc ls (am_I b :: am_I a :: st) h k n := by
  obtain ⟨p, e, R, s, m, args, below, meth, c, ι0⟩ := X
  obtain ⟨hd, rfl, hg⟩ := hd
  intro ok ι H lr sr lc hr hl ht
  obtain ⟨w, sr, rfl, q1, ht1⟩ := am_T_1 ht
  obtain ⟨u, sr, rfl, q2, ht2⟩ := am_T_1 ht1
  cases q1; cases q2
  exact lv_icmp_ge ok.1 ok.2.1 hd hg (fun z => kt ((am_lef hb ha).mp z) ok ι H lr _ lc hr hl ht2) (fun z => kf (fun y => z ((am_lef hb ha).mpr y)) ok ι H lr _ lc hr hl ht2)
theorem am_icmp_gt (ha : am_r a) (hb : am_r b) (hd : am_b Y.1 pc (.if_icmp .gt o) o q t) (kt : b < a → am_W G X Y d mc ms Q t ls st h k n) (kf : ¬ b < a → am_W G X Y d mc ms Q q ls st h k n) : am_W G X Y d mc ms Q pc ls (am_I b :: am_I a :: st) h k n := by
  obtain ⟨p, e, R, s, m, args, below, meth, c, ι0⟩ := X
  obtain ⟨hd, rfl, hg⟩ := hd
  intro ok ι H lr sr lc hr hl ht
  obtain ⟨w, sr, rfl, q1, ht1⟩ := am_T_1 ht
  obtain ⟨u, sr, rfl, q2, ht2⟩ := am_T_1 ht1
  cases q1; cases q2
  exact lv_icmp_gt ok.1 ok.2.1 hd hg (fun z => kt ((am_lt hb ha).mp z) ok ι H lr _ lc hr hl ht2) (fun z => kf (fun y => z ((am_lt hb ha).mpr y)) ok ι H lr _ lc hr hl ht2)
theorem am_icmp_le (ha : am_r a) (hb : am_r b) (hd : am_b Y.1 pc (.if_icmp .le o) o q t) (kt : a ≤ b → am_W G X Y d mc ms Q t ls st h k n) (kf : ¬ a ≤ b → am_W G X Y d mc ms Q q ls st h k n) : am_W G X Y d mc ms Q pc ls (am_I b :: am_I a :: st) h k n := by
  obtain ⟨p, e, R, s, m, args, below, meth, c, ι0⟩ := X
  obtain ⟨hd, rfl, hg⟩ := hd
  intro ok ι H lr sr lc hr hl ht
  obtain ⟨w, sr, rfl, q1, ht1⟩ := am_T_1 ht
  obtain ⟨u, sr, rfl, q2, ht2⟩ := am_T_1 ht1
  cases q1; cases q2
  exact lv_icmp_le ok.1 ok.2.1 hd hg (fun z => kt ((am_lef ha hb).mp z) ok ι H lr _ lc hr hl ht2) (fun z => kf (fun y => z ((am_lef ha hb).mpr y)) ok ι H lr _ lc hr hl ht2)
theorem am_ifnull {x : Option am_Nm} (hd : am_b Y.1 pc (.ifnull o) o q t) (kt : x = none → am_W G X Y d mc ms Q t ls st h k n) (kf : ∀ y, x = some y → am_W G X Y d mc ms Q q ls st h k n) : am_W G X Y d mc ms Q pc ls (Sum.inr (Sum.inr x) :: st) h k n := by
  obtain ⟨p, e, R, s, m, args, below, meth, c, ι0⟩ := X
  obtain ⟨hd, rfl, hg⟩ := hd
  intro ok ι H lr sr lc hr hl ht
  obtain ⟨w, sr, rfl, q1, ht1⟩ := am_T_1 ht
  cases x with
  | none =>
    cases q1
    exact lv_ifnullN ok.1 ok.2.1 hd hg (kt rfl ok ι H lr _ lc hr hl ht1)
  | some y =>
    obtain ⟨a, -, rfl⟩ := q1
    exact lv_ifnull ok.1 ok.2.1 hd (kf y rfl ok ι H lr _ lc hr hl ht1)
theorem am_ifnonnull {x : Option am_Nm} (hd : am_b Y.1 pc (.ifnonnull o) o q t) (kt : ∀ y, x = some y → am_W G X Y d mc ms Q t ls st h k n) (kf : x = none → am_W G X Y d mc ms Q q ls st h k n) : am_W G X Y d mc ms Q pc ls (Sum.inr (Sum.inr x) :: st) h k n := by
  obtain ⟨p, e, R, s, m, args, below, meth, c, ι0⟩ := X
  obtain ⟨hd, rfl, hg⟩ := hd
  intro ok ι H lr sr lc hr hl ht
  obtain ⟨w, sr, rfl, q1, ht1⟩ := am_T_1 ht
  cases x with
  | none =>
    cases q1
    exact lv_ifnonnullN ok.1 ok.2.1 hd (kf rfl ok ι H lr _ lc hr hl ht1)
  | some y =>
    obtain ⟨a, -, rfl⟩ := q1
    exact lv_ifnonnull ok.1 ok.2.1 hd hg (kt y rfl ok ι H lr _ lc hr hl ht1)
end AmIf
end AmPure

