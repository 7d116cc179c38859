/-! contracts, calls, throws, returns -/
/-- a result: a value or nothing; or an exception's number -/
abbrev am_Re : Type := Option am_AV ⊕ Nat
def am_VO (κ : am_Nm → Option Nat) (r : Option am_AV) (w : Option Value) : Prop := match r, w with
  | none, none => True
  | some v, some w => am_V κ v w
  | _, _ => False
def am_Pc (G : am_G) (ι : am_Nm → Option Nat) (av : List Value) (h : am_AH) : Array Value → State → Prop := fun a U => a = av.toArray ∧ am_H G ι h U.heap ∧ am_old G U.heap ∧ am_K G U
def am_Qc (G : am_G) (ι : am_Nm → Option Nat) (Q : am_Re → am_AH → Prop) : Array Value → State → Outcome → State → Prop := fun _ st o t => ∃ (r : Option am_AV) (w : Option Value) (κ : am_Nm → Option Nat) (h' : am_AH), o = .returned w ∧ am_VO κ r w ∧ am_le ι κ ∧ am_H G κ h' t.heap ∧ am_old G t.heap ∧ st.heap.size ≤ t.heap.size ∧ Q (.inl r) h'
def am_XC (G : am_G) (ι : am_Nm → Option Nat) (Q : am_Re → am_AH → Prop) : String → State → State → Prop := fun E st t => ∃ (x : Nat) (κ : am_Nm → Option Nat) (h' : am_AH), E = am_ex x ∧ am_le ι κ ∧ am_H G κ h' t.heap ∧ am_old G t.heap ∧ st.heap.size ≤ t.heap.size ∧ Q (.inr x) h'
/-- a method's contract: from a heap h and arguments, what it answers or throws, and the heap then; depth, cells and slots of room -/
def am_Con (G : am_G) (y : MethodName) (w0 : Cond) (d mc ms : Nat) (as : List am_AV) (h : am_AH) (Q : am_Re → am_AH → Prop) : Prop :=
  ∀ (ι : am_Nm → Option Nat) (av : List Value), am_T ι as av → vx_Met G.1 y (w0 :: am_uw) (am_rm d mc ms) (am_Pc G ι av h) (am_Qc G ι Q) (am_XC G ι Q) mc ms (am_free G)
def am_end (G : am_G) (X : am_X) (mc ms : Nat) (Q : am_Re → am_AH → Prop) : State → Prop := match X with
  | (_, _, _, s, _, args, below, _, _, ι0) => vx_MQ below (am_Qc G ι0 Q) (am_XC G ι0 Q) args s mc ms (am_free G)
theorem am_Con_mono {G : am_G} {y : MethodName} {w0 : Cond} {d mc ms : Nat} {as : List am_AV} {h : am_AH} {Q Q' : am_Re → am_AH → Prop} (hC : am_Con G y w0 d mc ms as h Q) (hq : ∀ r h', Q r h' → Q' r h') : am_Con G y w0 d mc ms as h Q' := by
  intro ι av ht
  have hM := hC ι av ht
  intro p e ha hc hk s m a below hf happ hP hK
  obtain ⟨n, o, g1, g2, g3, hz⟩ := hM p e ha hc hk s m a below hf happ hP hK
  refine ⟨n, o, g1, g2, g3, ?_⟩
  rcases hz with ⟨⟨r, w, κ, h', z1, z2, z3, z4, z5, z6, z7⟩, z8⟩ | ⟨q, z1, E, ce, L, ⟨x, κ, h', y1, y2, y3, y4, y5, y6⟩, z2⟩
  · exact Or.inl ⟨⟨r, w, κ, h', z1, z2, z3, z4, z5, z6, hq _ _ z7⟩, z8⟩
  · exact Or.inr ⟨q, z1, E, ce, L, ⟨x, κ, h', y1, y2, y3, y4, y5, hq _ _ y6⟩, z2⟩
theorem am_blind {G : am_G} {ι : am_Nm → Option Nat} {av : List Value} {h : am_AH} : FrameBlind (am_Pc G ι av h) := fun _ U g mk q => ⟨q.1, q.2.1, q.2.2.1, am_K_same (s := U) (U := U.calling g mk _) rfl q.2.2.2⟩
def am_nolong (v : am_AV) : Bool := match v with
  | .inr (.inl _) => false
  | _ => true
theorem am_cat {ι : am_Nm → Option Nat} {v : am_AV} {w : Value} (hv : am_V ι v w) (hn : am_nolong v = true) : w.category = 1 := by
  match v, hv, hn with
  | .inl x, hv, _ => cases hv; rfl
  | .inr (.inr none), hv, _ => cases hv; rfl
  | .inr (.inr (some y)), hv, _ => obtain ⟨a, -, rfl⟩ := hv; rfl
  | .inr (.inl x), _, hn => simp [am_nolong] at hn
theorem am_T_len {ι : am_Nm → Option Nat} : ∀ {vs : List am_AV} {ws : List Value}, am_T ι vs ws → ws.length = vs.length
  | [], [], _ => rfl
  | _ :: _, _ :: _, ⟨_, b⟩ => by simp [am_T_len b]
  | [], _ :: _, q => q.elim
  | _ :: _, [], q => q.elim
theorem am_T_at {ι : am_Nm → Option Nat} : ∀ {vs : List am_AV} {ws : List Value}, am_T ι vs ws → ∀ (i : Nat) (v : am_AV), vs[i]? = some v → ∃ w, ws[i]? = some w ∧ am_V ι v w
  | [], [], _, i, v, h => by simp at h
  | _ :: _, w :: _, ⟨a, b⟩, 0, v, h => by simp at h; subst h; exact ⟨w, rfl, a⟩
  | _ :: _, _ :: _, ⟨_, b⟩, i + 1, v, h => by simpa using am_T_at b i v (by simpa using h)
  | [], _ :: _, q, _, _, _ => q.elim
  | _ :: _, [], q, _, _, _ => q.elim
theorem am_sl : ∀ {vs : List Value}, (∀ v ∈ vs, v.category = 1) → lg_sl vs = vs.map Slot.val
  | [], _ => rfl
  | v :: vs, h => by
    have h1 := h v List.mem_cons_self
    have h2 := am_sl (vs := vs) fun w hw => h w (List.mem_cons_of_mem _ hw)
    simp only [lg_sl, List.flatMap_cons, h1] at h2 ⊢
    simp [h2]
theorem am_L_entry {ι : am_Nm → Option Nat} {as : List am_AV} {av : List Value} {nL : Nat} (ht : am_T ι as av) (hn : ∀ v ∈ as, am_nolong v = true) (hl : as.length ≤ nL) :
    am_L nL ι (as.map some ++ List.replicate (nL - as.length) none) ((lg_sl av ++ List.replicate (nL - (lg_sl av).length) Slot.unset).toArray) := by
  have hc : ∀ w ∈ av, w.category = 1 := by
    intro w hw
    obtain ⟨i, hi⟩ := List.getElem?_of_mem hw
    have hlt : i < as.length := by
      have := (List.getElem?_eq_some_iff.mp hi).1
      rw [am_T_len ht] at this
      exact this
    obtain ⟨w', h1, h2⟩ := am_T_at ht i as[i] (List.getElem?_eq_getElem hlt)
    rw [hi] at h1
    cases h1
    exact am_cat h2 (hn _ (List.getElem_mem hlt))
  have hlen : (lg_sl av).length = as.length := by rw [am_sl hc, List.length_map, am_T_len ht]
  have he := lv_entry av (n := nL) (by rw [hlen]; exact hl)
  refine ⟨he.1, he.2.1, by simp; omega, fun i v hi => ?_⟩
  by_cases hlt : i < as.length
  · rw [List.getElem?_append_left (by simpa using hlt), List.getElem?_map] at hi
    obtain ⟨v', h1, h2⟩ := Option.map_eq_some_iff.mp hi
    cases h2
    obtain ⟨w, h3, h4⟩ := am_T_at ht i v h1
    refine ⟨w, ?_, h4, hc w (List.mem_of_getElem? h3)⟩
    rw [List.getElem?_toArray, am_sl hc, List.getElem?_append_left (by simpa [am_T_len ht] using hlt), List.getElem?_map, h3]
    rfl
  · rw [List.getElem?_append_right (by simpa using hlt)] at hi
    have := List.mem_of_getElem? hi
    simp at this
theorem am_of {G : am_G} {y : MethodName} {Y : am_Y} {d mc ms : Nat} {as : List am_AV} {h : am_AH} {Q : am_Re → am_AH → Prop} (hy : plainName y.cls = true) (hown : Y.2.2.1 = y.cls) (hini : Y.2.2.2.2.1 = true → y.name = "<init>") (hhh : Y.2.2.2.2.2 = []) (hn : ∀ v ∈ as, am_nolong v = true) (hl : as.length ≤ Y.2.1)
    (body : ∀ X : am_X, am_W G X Y d mc ms (am_end G X mc ms Q) 0 (as.map some ++ List.replicate (Y.2.1 - as.length) none) [] h 0 0) : am_Con G y (.code y Y.1 Y.2.1 Y.2.2.2.1) d mc ms as h Q := by
  intro ι av ht
  refine vx_ofW hy rfl ?_
  intro p e s m args below meth c s₁ B hml hT hP
  obtain ⟨rfl, hH, hold, hK⟩ := hP
  have hw := atoms_spec (ws := Cond.code y Y.1 Y.2.1 Y.2.2.2.1 :: am_uw) B.pre
  rw [lg_entry_eq]
  refine body (p, e, _, s, m, av.toArray, below, meth, c, ι) ⟨B.exec, B.bytes, hml, ?_, fun w hw' => hw w (List.mem_cons_of_mem _ hw'), B.notSynchronized, B.returns, fun z => (name_of_methodNamed B.named B.method).1.trans (hini z), ?_, Nat.le_refl _, Nat.le_refl _, rfl, rfl, hold, hK⟩ ι s.heap _ [] [] ⟨hH, hold, Nat.le_refl _, fun z hz => (by cases hz), am_le_rf⟩ (am_L_entry ht hn hl) trivial
  · rw [hown]; exact findClass_of_methodNamed B.named
  · rw [hhh]
    cases ht9 : c.exceptionTable.toList with
    | nil => rfl
    | cons x xs => exact (hT x (by rw [ht9]; exact List.mem_cons_self)).elim
theorem am_ofH {G : am_G} {y : MethodName} {Y : am_Y} {d mc ms : Nat} {as : List am_AV} {h : am_AH} {Q : am_Re → am_AH → Prop} (hy : plainName y.cls = true) (hown : Y.2.2.1 = y.cls) (hini : Y.2.2.2.2.1 = true → y.name = "<init>") (hn : ∀ v ∈ as, am_nolong v = true) (hl : as.length ≤ Y.2.1)
    (body : ∀ X : am_X, am_W G X Y d mc ms (am_end G X mc ms Q) 0 (as.map some ++ List.replicate (Y.2.1 - as.length) none) [] h 0 0) : am_Con G y (.codeWith y Y.1 Y.2.1 Y.2.2.2.1 Y.2.2.2.2.2) d mc ms as h Q := by
  intro ι av ht
  refine vx_ofWH hy rfl ?_
  intro p e s m args below meth c s₁ B hml hP
  obtain ⟨rfl, hH, hold, hK⟩ := hP
  have hw := atoms_spec (ws := Cond.codeWith y Y.1 Y.2.1 Y.2.2.2.1 Y.2.2.2.2.2 :: am_uw) B.pre
  rw [lg_entry_eq]
  refine body (p, e, _, s, m, av.toArray, below, meth, c, ι) ⟨B.exec, B.bytes, hml, ?_, fun w hw' => hw w (List.mem_cons_of_mem _ hw'), B.notSynchronized, B.returns, fun z => (name_of_methodNamed B.named B.method).1.trans (hini z), vx_table (x := y) B (hw _ List.mem_cons_self), Nat.le_refl _, Nat.le_refl _, rfl, rfl, hold, hK⟩ ι s.heap _ [] [] ⟨hH, hold, Nat.le_refl _, fun z hz => (by cases hz), am_le_rf⟩ (am_L_entry ht hn hl) trivial
  rw [hown]; exact findClass_of_methodNamed B.named
section AmEnds
variable {G : am_G} {X : am_X} {Y : am_Y} {d mc ms : Nat} {Q : am_Re → am_AH → Prop} {Qs : State → Prop} {pc q t : Nat} {ls : List (Option am_AV)} {st : List am_AV} {h : am_AH} {k n : Nat}
theorem am_ireturn {x : Int} {ty : FieldType} (hd : am_d Y.1 pc .ireturn 1 q) (hret : Y.2.2.2.1 = some ty) (hty : am_fit ty (am_I x)) (hk : k ≤ mc) (hn : n ≤ ms) (hq : Q (.inl (some (am_I x))) h) : am_W G X Y d mc ms (am_end G X mc ms Q) pc ls [am_I x] h k n := by
  obtain ⟨p, e, R, s, m, args, below, meth, c, ι0⟩ := X
  obtain ⟨hd, rfl⟩ := hd
  intro ok ι H lr sr lc hr hl ht
  obtain ⟨w, sr, rfl, hw, ht1⟩ := am_T_1 ht
  have hw' := hw
  cases hw
  cases sr with
  | cons a b => exact ht1.elim
  | nil =>
  obtain ⟨hx, hb, -, hown, hts, hlk, hre, -⟩ := ok
  refine W.widen hk hn (vx_ret ?_)
  exact W.zret hx hb (hre.trans hret) (am_fit_of hty hw').1 (fun t hT hW => ⟨some (am_I x), _, ι, h, rfl, rfl, hr.2.2.2.2, by rw [hT]; exact hr.1, by rw [hT]; exact hr.2.1, by rw [hT]; exact hr.2.2.1, hq⟩) hr.2.2.2.1 hd hlk
theorem am_areturn {x : Option am_Nm} {C : String} (hd : am_d Y.1 pc .areturn 1 q) (hret : Y.2.2.2.1 = some (.object C)) (hk : k ≤ mc) (hn : n ≤ ms) (hq : Q (.inl (some (Sum.inr (Sum.inr x)))) h) : am_W G X Y d mc ms (am_end G X mc ms Q) pc ls [Sum.inr (Sum.inr x)] h k n := by
  obtain ⟨p, e, R, s, m, args, below, meth, c, ι0⟩ := X
  obtain ⟨hd, rfl⟩ := hd
  intro ok ι H lr sr lc hr hl ht
  obtain ⟨w, sr, rfl, hw, ht1⟩ := am_T_1 ht
  cases sr with
  | cons a b => exact ht1.elim
  | nil =>
  obtain ⟨hx, hb, -, hown, hts, hlk, hre, -⟩ := ok
  refine W.widen hk hn (vx_ret ?_)
  refine W.aret hx hb (hre.trans hret) (Or.inl ⟨_, rfl⟩) ?_ (fun t hT hW => ⟨some (Sum.inr (Sum.inr x)), _, ι, h, rfl, hw, hr.2.2.2.2, by rw [hT]; exact hr.1, by rw [hT]; exact hr.2.1, by rw [hT]; exact hr.2.2.1, hq⟩) hr.2.2.2.1 hd hlk
  cases x with
  | none => exact Or.inl hw
  | some z => obtain ⟨a, -, rfl⟩ := hw; exact Or.inr ⟨a, rfl⟩
theorem am_return (hd : am_d Y.1 pc .return_ 1 q) (hret : Y.2.2.2.1 = none) (hk : k ≤ mc) (hn : n ≤ ms) (hq : Q (.inl none) h) : am_W G X Y d mc ms (am_end G X mc ms Q) pc ls [] h k n := by
  obtain ⟨p, e, R, s, m, args, below, meth, c, ι0⟩ := X
  obtain ⟨hd, rfl⟩ := hd
  intro ok ι H lr sr lc hr hl ht
  cases sr with
  | cons a b => exact ht.elim
  | nil =>
  obtain ⟨hx, hb, -, hown, hts, hlk, hre, -⟩ := ok
  refine W.widen hk hn (vx_ret ?_)
  exact W.vret hx hb (hre.trans hret) (fun t hT hW => ⟨none, _, ι, h, rfl, trivial, hr.2.2.2.2, by rw [hT]; exact hr.1, by rw [hT]; exact hr.2.1, by rw [hT]; exact hr.2.2.1, hq⟩) hr.2.2.2.1 hd hlk
/-- thrown here, and what becomes of it -/
def am_WX (G : am_G) (X : am_X) (Y : am_Y) (d mc ms : Nat) (Qs : State → Prop) (pc : Nat) (ls : List (Option am_AV)) (h : am_AH) (k n x : Nat) : Prop := match X with
  | (p, e, R, s, m, args, below, meth, c, ι0) => am_ok G (p, e, R, s, m, args, below, meth, c, ι0) Y d mc ms → ∀ (ι : am_Nm → Option Nat) (H : Heap) (lr : Array Slot) (sr : List Value) (lc : List Loc) (q : Addr) (ce : Cell), am_Rel G (p, e, R, s, m, args, below, meth, c, ι0) ι h H lc → am_L Y.2.1 ι ls lr → H[q]? = some ce → ce.vm = .none → s.vm.findClass (am_ex x) = some ce.cls → vx_W p G.1 e R s m args below meth c H lc k n Qs (F0 m pc lr sr) q
theorem am_out {x : Nat} (hh : Y.2.2.2.2.2 = []) (hk : k ≤ mc) (hn : n ≤ ms) (hq : Q (.inr x) h) : am_WX G X Y d mc ms (am_end G X mc ms Q) pc ls h k n x := by
  obtain ⟨p, e, R, s, m, args, below, meth, c, ι0⟩ := X
  intro ok ι H lr sr lc q ce hr hl h1 h2 h3
  have htb : c.exceptionTable.toList = tableOf Y.2.2.2.2.2 := ok.2.2.2.2.2.2.2.2.1
  refine vx_out (fun z hz => ?_) ok.2.2.2.2.2.1 h1 h2 h3 (fun t hT _ => ⟨x, ι, h, rfl, hr.2.2.2.2, by rw [hT]; exact hr.1, by rw [hT]; exact hr.2.1, by rw [hT]; exact hr.2.2.1, hq⟩) hr.2.2.2.1 hk hn
  rw [htb, hh] at hz
  cases hz
theorem am_H_ext {ι : am_Nm → Option Nat} {H H1 : Heap} (q : am_H G ι h H) (hold : am_old G H) (hsb : G.2.2.2.2.2.1 < G.2.1.size) (hz : H.size ≤ H1.size) (ho : ∀ b, b < H.size → H1[b]? = H[b]?) : am_H G ι h H1 ∧ am_old G H1 := by
  obtain ⟨q1, q2, q3, q4, q5⟩ := q
  refine ⟨⟨fun x c hx => ?_, fun x a hx => ?_, q3, q4, q5⟩, Nat.le_trans hold.1 hz, fun x hx => (ho x (Nat.lt_of_lt_of_le hx hold.1)).trans (hold.2 x hx)⟩
  · obtain ⟨a, h1, h2⟩ := q1 x c hx
    exact ⟨a, h1, am_C_le am_le_rf (ho a (am_C_lt h2)) h2⟩
  · rcases q2 x a hx with z | ⟨z1, z2, z3, z4⟩
    · exact Or.inl z
    · exact Or.inr ⟨z1, z2, by omega, z4⟩
/-- the words of a throw, by the pool's numbers of the class and its constructor -/
def am_thr (own : String) (ik ic x : Nat) : Prop := Cond.classLink own ik (am_ex x) ∈ am_uw ∧ Cond.initialized (am_ex x) ∈ am_uw ∧ (∀ w ∈ vx_atS own ic (am_ex x) ["java/lang/RuntimeException", "java/lang/Exception"], w ∈ am_uw ∨ (w ∈ lw_tbl ∧ am_mv w = true)) ∧ (∀ w ∈ Cond.classLink own ik (am_ex x) :: Cond.initialized (am_ex x) :: vx_atS own ic (am_ex x) ["java/lang/RuntimeException", "java/lang/Exception"], vx_ot w = true) ∧ Bundle.fit (am_ex x) = true
theorem am_mvt {w : Cond} (h : am_mv w = true) : w.onTables = true := by
  cases w <;> first | rfl | (exact absurd h (by simp [am_mv]))
theorem am_thr_at {own : String} {ik ic x : Nat} (h : am_thr own ik ic x) {s : State} {args : Array Value} (hts : ∀ w ∈ am_uw, w.before args s = true) (hmv : ∀ w ∈ lw_tbl, am_mv w = true → va_Nw w s) : ∀ w ∈ vx_atS own ic (am_ex x) ["java/lang/RuntimeException", "java/lang/Exception"], w.before args s = true := by
  intro w hw
  rcases h.2.2.1 w hw with z | ⟨z1, z2⟩
  · exact hts w z
  · exact va_Nw.use (am_mvt z2) (hmv w z1 z2)
theorem am_sum8 (ι : am_Nm → Option Nat) : ∀ {vs : List am_AV} {ws : List Value}, am_T ι vs ws → vs.length ≤ 4 → (ws.map fun v => v.category).sum ≤ 8 := by
  have key : ∀ {vs : List am_AV} {ws : List Value}, am_T ι vs ws → (ws.map fun v => v.category).sum ≤ 2 * vs.length := by
    intro vs
    induction vs with
    | nil =>
      intro ws ht
      cases ws with
      | nil => exact Nat.le_refl _
      | cons a b => exact ht.elim
    | cons v vs ih =>
      intro ws ht
      obtain ⟨w, ws, rfl, h1, h2⟩ := am_T_1 ht
      have := ih h2
      have h3 : w.category ≤ 2 := by rcases lv_cat w with z | z <;> omega
      simp only [List.map_cons, List.sum_cons, List.length_cons]
      omega
  intro vs ws ht hl
  have := key ht
  omega
theorem am_throw {ik is ic x q0 q1 q2 q3 q4 : Nat} {tx : String} (hth : am_thr Y.2.2.1 ik ic x) (hown : Y.2.2.1 = RX8) (htx : Cond.stringRef RX8 is tx ∈ lw_tbl) (hd6 : 6 ≤ d) (hh : Y.2.2.2.2.2 = []) (hst : st.length ≤ 4)
    (d0 : am_d Y.1 pc (.new ik) 3 q0) (d3 : am_d Y.1 q0 .dup 1 q1) (d4 : am_d Y.1 q1 (.ldc is) 2 q2) (d6 : am_d Y.1 q2 (.invokespecial ic) 3 q3) (d9 : am_d Y.1 q3 .athrow 1 q4) (hk : k + 1 ≤ mc) (hn : n + 6 ≤ ms) (hq : Q (.inr x) h) : am_W G X Y d mc ms (am_end G X mc ms Q) pc ls st h k n := by
  obtain ⟨p, e, R, s, m, args, below, meth, c, ι0⟩ := X
  obtain ⟨d0, rfl⟩ := d0
  obtain ⟨d3, rfl⟩ := d3
  obtain ⟨d4, rfl⟩ := d4
  obtain ⟨d6, rfl⟩ := d6
  obtain ⟨d9, rfl⟩ := d9
  intro ok ι H lr sr lc hr hl ht
  obtain ⟨hx, hb, hml, ho, hts, hlk, hre, -, htb, hRf, hRl, hRc, hRs, hold, hK⟩ := ok
  obtain ⟨hKa, ⟨hU, hN⟩, hmv, hstr, -, -, -, hsb, htr⟩ := hK
  obtain ⟨sa, hsa⟩ := hstr is tx htx
  have hAs : ∀ a : Nat, a < G.2.1.size → ¬ am_free G a → s.heap[a]? = G.2.1[a]? := fun a ha _ => hold.2 a ha
  have hsum := am_sum8 ι ht hst
  refine vx_throwS (A := am_free G) hx hb htr ho hth.2.2.2.2 (by decide +kernel) (hts _ hth.1) (hts _ hth.2.1) (by rw [hown]; exact hsa) (am_thr_at hth hts hmv) hth.2.2.2.1 (hU.kept hAs) (hN.kept hAs) ⟨hr.2.2.1, fun a ha hf => ?_, hr.2.2.2.1⟩ (by rw [hl.1, hml]) d0 d3 d4 d6 d9 (fun z hz => ?_) (by show 2 + 3 < R.frames; omega) (by show _ + (13 * (2 + 1) + 43) ≤ _; omega) (by rw [hRc]; exact hk) (by rw [hRs]; exact hn) hlk ?_ hr.2.2.2.1 hk hn
  · have ha2 : a < G.2.1.size := by
      by_cases z : a < G.2.1.size
      · exact z
      · exact absurd (show G.2.1.size ≤ a by omega) hf
    rw [hr.2.1.2 a ha2, hold.2 a ha2]
  · rw [htb, hh] at hz
    cases hz
  · intro t hA hz ho
    obtain ⟨g1, g2⟩ := am_H_ext hr.1 hr.2.1 hsb hz ho
    exact ⟨x, ι, h, rfl, hr.2.2.2.2, g1, g2, Nat.le_trans hr.2.2.1 hz, hq⟩
theorem am_throwW {ik is ic x q0 q1 q2 q3 q4 : Nat} {tx : String} (hth : am_thr Y.2.2.1 ik ic x) (hown : Y.2.2.1 = RX8) (htx : Cond.stringRef RX8 is tx ∈ lw_tbl) (hd6 : 6 ≤ d) (hh : Y.2.2.2.2.2 = []) (hst : st.length ≤ 4)
    (d0 : am_d Y.1 pc (.new ik) 3 q0) (d3 : am_d Y.1 q0 .dup 1 q1) (d4 : am_d Y.1 q1 (.ldc_w is) 3 q2) (d6 : am_d Y.1 q2 (.invokespecial ic) 3 q3) (d9 : am_d Y.1 q3 .athrow 1 q4) (hk : k + 1 ≤ mc) (hn : n + 6 ≤ ms) (hq : Q (.inr x) h) : am_W G X Y d mc ms (am_end G X mc ms Q) pc ls st h k n := by
  obtain ⟨p, e, R, s, m, args, below, meth, c, ι0⟩ := X
  obtain ⟨d0, rfl⟩ := d0
  obtain ⟨d3, rfl⟩ := d3
  obtain ⟨d4, rfl⟩ := d4
  obtain ⟨d6, rfl⟩ := d6
  obtain ⟨d9, rfl⟩ := d9
  intro ok ι H lr sr lc hr hl ht
  obtain ⟨hx, hb, hml, ho, hts, hlk, hre, -, htb, hRf, hRl, hRc, hRs, hold, hK⟩ := ok
  obtain ⟨hKa, ⟨hU, hN⟩, hmv, hstr, -, -, -, hsb, htr⟩ := hK
  obtain ⟨sa, hsa⟩ := hstr is tx htx
  have hAs : ∀ a : Nat, a < G.2.1.size → ¬ am_free G a → s.heap[a]? = G.2.1[a]? := fun a ha _ => hold.2 a ha
  have hsum := am_sum8 ι ht hst
  refine vx_throwSW (A := am_free G) hx hb htr ho hth.2.2.2.2 (by decide +kernel) (hts _ hth.1) (hts _ hth.2.1) (by rw [hown]; exact hsa) (am_thr_at hth hts hmv) hth.2.2.2.1 (hU.kept hAs) (hN.kept hAs) ⟨hr.2.2.1, fun a ha hf => ?_, hr.2.2.2.1⟩ (by rw [hl.1, hml]) d0 d3 d4 d6 d9 (fun z hz => ?_) (by show 2 + 3 < R.frames; omega) (by show _ + (13 * (2 + 1) + 43) ≤ _; omega) (by rw [hRc]; exact hk) (by rw [hRs]; exact hn) hlk ?_ hr.2.2.2.1 hk hn
  · have ha2 : a < G.2.1.size := by
      by_cases z : a < G.2.1.size
      · exact z
      · exact absurd (show G.2.1.size ≤ a by omega) hf
    rw [hr.2.1.2 a ha2, hold.2 a ha2]
  · rw [htb, hh] at hz
    cases hz
  · intro t hA hz ho
    obtain ⟨g1, g2⟩ := am_H_ext hr.1 hr.2.1 hsb hz ho
    exact ⟨x, ι, h, rfl, hr.2.2.2.2, g1, g2, Nat.le_trans hr.2.2.1 hz, hq⟩
/-- behind a call -/
theorem am_run {p : Program} {e : Env} {R : Room} {s : State} {m : MethodId} {args : Array Value} {below : List Frame} {meth : Method} {c : Code} {ι0 ι : am_Nm → Option Nat} {H : Heap} {lr : Array Slot} {sr0 sr : List Value} {lc : List Loc} {mc' ms' : Nat} {a9 : Array Value} {Q' : am_Re → am_AH → Prop}
    (ok : am_ok G (p, e, R, s, m, args, below, meth, c, ι0) Y d mc ms) (hrun : vx_Run p G.1 e R s m args below meth c H lc k n mc' ms' (F0 m pc lr sr0) sr (am_Qc G ι Q' a9) (am_XC G ι Q') (am_free G))
    (hr : am_Rel G (p, e, R, s, m, args, below, meth, c, ι0) ι h H lc) (hl : am_L Y.2.1 ι ls lr) (ht : am_T ι st sr)
    (kk : ∀ r h', Q' (.inl r) h' → am_W G (p, e, R, s, m, args, below, meth, c, ι0) Y d mc ms Qs (pc + 3) ls (r.toList ++ st) h' (k + mc') (n + ms'))
    (kx : ∀ x h', Q' (.inr x) h' → am_WX G (p, e, R, s, m, args, below, meth, c, ι0) Y d mc ms Qs pc ls h' (k + mc') (n + ms') x) : W p G.1 e R s m args below meth c H lc k n Qs (F0 m pc lr sr0) := by
  intro T hT XX
  rcases hrun T hT XX with ⟨v, st₀, t, T', L, h0, X', hL, e1, e2, ⟨r, w, κ, h', z1, z2, z3, z4, z5, z6, z7⟩, go⟩ | ⟨q, st₀, t, T', L, E, ce, h0, X', hL, e1, e2, ⟨x, κ, h', y1, y2, y3, y4, y5, y6⟩, hce, hcv, hcl, go⟩
  · cases z1
    have hrel : am_Rel G (p, e, R, s, m, args, below, meth, c, ι0) κ h' T'.heap (lc ++ L) := ⟨by rw [e1]; exact z4, by rw [e1]; exact z5, by rw [e1]; rw [h0] at z6; exact Nat.le_trans hr.2.2.1 z6, fun z hz => (List.mem_append.mp hz).elim (hr.2.2.2.1 z) (hL z), am_le_tr hr.2.2.2.2 z3⟩
    have hst : am_T κ (r.toList ++ st) (v.toList ++ sr) := by
      match r, v, z2 with
      | none, none, _ => exact am_T_le z3 ht
      | some r, some w, z2 => exact ⟨z2, am_T_le z3 ht⟩
    obtain ⟨t2, a1, b1⟩ := kk r h' z7 ok κ T'.heap lr _ _ hrel (am_L_le z3 hl) hst T' rfl X'
    exact ⟨t2, go t2 a1, b1⟩
  · subst y1
    have hrel : am_Rel G (p, e, R, s, m, args, below, meth, c, ι0) κ h' T'.heap (lc ++ L) := ⟨by rw [e1]; exact y3, by rw [e1]; exact y4, by rw [e1]; rw [h0] at y5; exact Nat.le_trans hr.2.2.1 y5, fun z hz => (List.mem_append.mp hz).elim (hr.2.2.2.1 z) (hL z), am_le_tr hr.2.2.2.2 y2⟩
    obtain ⟨t2, a1, b1⟩ := kx x h' y6 ok κ T'.heap lr sr _ q ce hrel (am_L_le y2 hl) (by rw [e1]; exact hce) hcv hcl T' rfl X'
    exact ⟨t2, go.trans a1, b1⟩
/-- a callee's words at a call: number of arguments -/
def am_nar (y : MethodName) (na : Nat) : Prop := (y.cls ≠ "java/lang/invoke/MethodHandle" ∧ y.cls ≠ "java/lang/invoke/VarHandle") ∧ (parseMethodDescriptor y.desc).map (fun d => d.parameters.length) = some na ∧ Cond.initialized y.cls ∈ am_uw
theorem am_nar_len {y : MethodName} {na : Nat} (h : am_nar y na) : ∀ sig, parseMethodDescriptor y.desc = some sig → na = sig.parameters.length := by
  intro sig hs
  have := h.2.1
  rw [hs] at this
  simpa using this.symm
theorem am_words {s : State} {args : Array Value} {w0 : Cond} (hw0 : w0 ∈ am_uw) (hts : ∀ w ∈ am_uw, w.before args s = true) : ∀ w ∈ w0 :: am_uw, ∀ (a' : Array Value) (U : State), s.WarmedH U.vm → w.before a' U = true := by
  intro w hw a' U hW
  have hw' : w ∈ am_uw := by
    rcases List.mem_cons.mp hw with z | z
    · rw [z]; exact hw0
    · exact z
  exact word_at hW (good_of_word (am_uw_good w hw')) (hts w hw')
theorem am_rev {as st : List am_AV} {ι : am_Nm → Option Nat} : ∀ {sr : List Value}, am_T ι (as.reverse ++ st) sr → ∃ av sr', sr = av.reverse ++ sr' ∧ am_T ι as av ∧ am_T ι st sr' := by
  induction as generalizing st with
  | nil => intro sr ht; exact ⟨[], sr, rfl, trivial, ht⟩
  | cons a as ih =>
    intro sr ht
    rw [List.reverse_cons, List.append_assoc] at ht
    obtain ⟨av, sr', rfl, h1, h2⟩ := ih (st := [a] ++ st) ht
    obtain ⟨w, ws, rfl, h3, h4⟩ := am_T_1 h2
    exact ⟨w :: av, ws, by simp, ⟨h3, h1⟩, h4⟩
section AmCalls
variable {idx ci na d' mc' ms' nL' : Nat} {y : MethodName} {bytes : ByteArray} {ret : Option FieldType} {as fs st0 : List am_AV} {nm : am_Nm} {Q' : am_Re → am_AH → Prop}
/-- a call of an instance method of a class by its own link, or by a nest mate's -/
def am_mv_ (own : String) (idx ci : Nat) (y : MethodName) (na : Nat) (w0 : Cond) : Prop := w0 ∈ am_uw ∧ am_nar y na ∧ Cond.instanceMethod y ∈ am_uw ∧ (∃ r, vwCl[ci]? = some r ∧ Cond.selects r.1 y y ∈ am_uw) ∧ (Cond.methodLink own idx y ∈ am_uw ∨ ∃ host, Cond.methodLinkNest own idx y host ∈ lw_tbl)
theorem am_callV (hd : am_d Y.1 pc (.invokevirtual idx) 3 q) (hw : am_mv_ Y.2.2.1 idx ci y na (.code y bytes nL' ret)) (hC : am_Con G y (.code y bytes nL' ret) d' mc' ms' (am_R nm :: as) h Q') (hst0 : st0 = as.reverse ++ am_R nm :: st) (hna : as.length = na) (hh : h nm = some (am_O ci fs)) (hdd : d' + 1 ≤ d) (hnL : nL' ≤ 17) (hst : st.length ≤ 4) (hk : k + mc' ≤ mc) (hn : n + ms' ≤ ms)
    (kk : ∀ r h', Q' (.inl r) h' → am_W G X Y d mc ms Qs q ls (r.toList ++ st) h' (k + mc') (n + ms')) (kx : ∀ x h', Q' (.inr x) h' → am_WX G X Y d mc ms Qs pc ls h' (k + mc') (n + ms') x) : am_W G X Y d mc ms Qs pc ls st0 h k n := by
  subst hst0
  obtain ⟨p, e, R, s, m, args, below, meth, c, ι0⟩ := X
  obtain ⟨hd, rfl⟩ := hd
  intro ok ι H lr sr lc hr hl ht
  obtain ⟨av, sr1, rfl, ht1, ht2⟩ := am_rev ht
  obtain ⟨w, sr2, rfl, ⟨a, ha, rfl⟩, ht3⟩ := am_T_1 ht2
  have ok' := ok
  obtain ⟨hx, hb, hml, ho, hts, -, -, -, -, hRf, hRl, hRc, hRs, hold, hK⟩ := ok
  obtain ⟨w1, w2, w3, ⟨r9, hr9, w4⟩, w5⟩ := hw
  have hM := hC ι (Value.ref a :: av) ⟨⟨a, ha, rfl⟩, ht1⟩
  have hsum := am_sum8 ι ht3 hst
  have hp : PreV s H r9.1 a (am_Pc G ι (Value.ref a :: av) h) av := by
    refine ⟨am_blind, ?_, fun U hU hW => ⟨rfl, by rw [hU]; exact hr.1, by rw [hU]; exact hr.2.1, am_K_warm hW hK⟩⟩
    obtain ⟨a', ha', r, V, g1, ⟨ce9, g2, g3, g4, -⟩, -⟩ := hr.1.1 nm _ hh
    cases ha.symm.trans ha'
    cases hr9.symm.trans g1
    exact ⟨ce9, g2, by rw [g4]; rfl, by rw [g3]; exact (hK.1.1 ci _ g1).2.1⟩
  have hroom : 8 + (nL' + 11) + (am_rm d' mc' ms').locals ≤ R.locals := by
    show 8 + (nL' + 11) + 36 * d' ≤ R.locals
    omega
  have hfr : (am_rm d' mc' ms').frames + 1 ≤ R.frames := Nat.le_trans hdd hRf
  have hlen : av.length = na := (am_T_len ht1).trans hna
  refine am_run (a9 := (Value.ref a :: av).toArray) ok' ?_ hr hl ht3 kk kx
  rcases w5 with w5 | ⟨host, w5⟩
  · exact vx_runV (As := av) (rest := sr2) (n := na) (C := r9.1) (index := idx) (y := y) ⟨hx, hb, hml, ho, hts⟩ hM ⟨⟨rfl, rfl, hfr, hroom, am_words w1 hts, List.mem_cons_self, hts _ w1, hts _ w2.2.2, w2.1, am_nar_len w2, hts _ w5⟩, hts _ w3, hts _ w4⟩ hp rfl hlen hl.1 rfl (lv_room hsum) hd ⟨by rw [hRc]; exact hk, by rw [hRs]; exact hn⟩
  · exact vx_runVN (As := av) (rest := sr2) (n := na) (C := r9.1) (index := idx) (y := y) (host := host) ⟨hx, hb, hml, ho, hts⟩ hM ⟨⟨⟨rfl, rfl, hfr, hroom, am_words w1 hts, List.mem_cons_self⟩, hts _ w1, hts _ w2.2.2, w2.1, am_nar_len w2, va_Nw.use rfl (hK.2.2.1 _ w5 rfl)⟩, hts _ w3, hts _ w4⟩ hp rfl hlen hl.1 rfl (lv_room hsum) hd ⟨by rw [hRc]; exact hk, by rw [hRs]; exact hn⟩
def am_ms_ (own : String) (idx : Nat) (y : MethodName) (na : Nat) (w0 : Cond) : Prop := w0 ∈ am_uw ∧ am_nar y na ∧ Cond.static y ∈ am_uw ∧ Cond.methodLink own idx y ∈ am_uw
theorem am_callS (hd : am_d Y.1 pc (.invokestatic idx) 3 q) (hw : am_ms_ Y.2.2.1 idx y na (.code y bytes nL' ret)) (hC : am_Con G y (.code y bytes nL' ret) d' mc' ms' as h Q') (hst0 : st0 = as.reverse ++ st) (hna : as.length = na) (hdd : d' + 1 ≤ d) (hnL : nL' ≤ 17) (hst : st.length ≤ 4) (hk : k + mc' ≤ mc) (hn : n + ms' ≤ ms)
    (kk : ∀ r h', Q' (.inl r) h' → am_W G X Y d mc ms Qs q ls (r.toList ++ st) h' (k + mc') (n + ms')) (kx : ∀ x h', Q' (.inr x) h' → am_WX G X Y d mc ms Qs pc ls h' (k + mc') (n + ms') x) : am_W G X Y d mc ms Qs pc ls st0 h k n := by
  subst hst0
  obtain ⟨p, e, R, s, m, args, below, meth, c, ι0⟩ := X
  obtain ⟨hd, rfl⟩ := hd
  intro ok ι H lr sr lc hr hl ht
  obtain ⟨av, sr2, rfl, ht1, ht3⟩ := am_rev ht
  have ok' := ok
  obtain ⟨hx, hb, hml, ho, hts, -, -, -, -, hRf, hRl, hRc, hRs, hold, hK⟩ := ok
  obtain ⟨w1, w2, w3, w5⟩ := hw
  have hM := hC ι av ht1
  have hsum := am_sum8 ι ht3 hst
  have hp : PreS s H (am_Pc G ι av h) av := ⟨am_blind, fun U hU hW => ⟨rfl, by rw [hU]; exact hr.1, by rw [hU]; exact hr.2.1, am_K_warm hW hK⟩⟩
  have hroom : 8 + (nL' + 11) + (am_rm d' mc' ms').locals ≤ R.locals := by
    show 8 + (nL' + 11) + 36 * d' ≤ R.locals
    omega
  have hfr : (am_rm d' mc' ms').frames + 1 ≤ R.frames := Nat.le_trans hdd hRf
  have hlen : av.length = na := (am_T_len ht1).trans hna
  refine am_run (a9 := av.toArray) ok' ?_ hr hl ht3 kk kx
  exact vx_runS (As := av) (rest := sr2) (n := na) (index := idx) (y := y) ⟨hx, hb, hml, ho, hts⟩ hM ⟨⟨rfl, rfl, hfr, hroom, am_words w1 hts, List.mem_cons_self, hts _ w1, hts _ w2.2.2, w2.1, am_nar_len w2, hts _ w5⟩, hts _ w3⟩ hp rfl hlen hl.1 rfl (lv_room hsum) hd ⟨by rw [hRc]; exact hk, by rw [hRs]; exact hn⟩
theorem am_callSH {hh9 : List (Nat × Nat × Nat × Nat)} (hd : am_d Y.1 pc (.invokestatic idx) 3 q) (hw : am_ms_ Y.2.2.1 idx y na (.codeWith y bytes nL' ret hh9)) (hC : am_Con G y (.codeWith y bytes nL' ret hh9) d' mc' ms' as h Q') (hst0 : st0 = as.reverse ++ st) (hna : as.length = na) (hdd : d' + 1 ≤ d) (hnL : nL' ≤ 17) (hst : st.length ≤ 4) (hk : k + mc' ≤ mc) (hn : n + ms' ≤ ms)
    (kk : ∀ r h', Q' (.inl r) h' → am_W G X Y d mc ms Qs q ls (r.toList ++ st) h' (k + mc') (n + ms')) (kx : ∀ x h', Q' (.inr x) h' → am_WX G X Y d mc ms Qs pc ls h' (k + mc') (n + ms') x) : am_W G X Y d mc ms Qs pc ls st0 h k n := by
  subst hst0
  obtain ⟨p, e, R, s, m, args, below, meth, c, ι0⟩ := X
  obtain ⟨hd, rfl⟩ := hd
  intro ok ι H lr sr lc hr hl ht
  obtain ⟨av, sr2, rfl, ht1, ht3⟩ := am_rev ht
  have ok' := ok
  obtain ⟨hx, hb, hml, ho, hts, -, -, -, -, hRf, hRl, hRc, hRs, hold, hK⟩ := ok
  obtain ⟨w1, w2, w3, w5⟩ := hw
  have hM := hC ι av ht1
  have hsum := am_sum8 ι ht3 hst
  have hp : PreS s H (am_Pc G ι av h) av := ⟨am_blind, fun U hU hW => ⟨rfl, by rw [hU]; exact hr.1, by rw [hU]; exact hr.2.1, am_K_warm hW hK⟩⟩
  have hroom : 8 + (nL' + 11) + (am_rm d' mc' ms').locals ≤ R.locals := by
    show 8 + (nL' + 11) + 36 * d' ≤ R.locals
    omega
  have hfr : (am_rm d' mc' ms').frames + 1 ≤ R.frames := Nat.le_trans hdd hRf
  have hlen : av.length = na := (am_T_len ht1).trans hna
  refine am_run (a9 := av.toArray) ok' ?_ hr hl ht3 kk kx
  exact vx_runSX (As := av) (rest := sr2) (n := na) (index := idx) (y := y) ⟨hx, hb, hml, ho, hts⟩ hM ⟨⟨rfl, rfl, hfr, hroom, am_words w1 hts, List.mem_cons_self⟩, hts _ w1, hts _ w2.2.2, w2.1, am_nar_len w2, hts _ w5, hts _ w3⟩ hp rfl hlen hl.1 rfl (lv_room hsum) hd ⟨by rw [hRc]; exact hk, by rw [hRs]; exact hn⟩
def am_mi_ (own : String) (idx : Nat) (y : MethodName) (na : Nat) (w0 : Cond) : Prop := w0 ∈ am_uw ∧ am_nar y na ∧ Cond.instanceMethod y ∈ am_uw ∧ y.name = "<init>" ∧ (Cond.methodLink own idx y ∈ am_uw ∨ ∃ host, Cond.methodLinkNest own idx y host ∈ lw_tbl)
theorem am_callI (hd : am_d Y.1 pc (.invokespecial idx) 3 q) (hw : am_mi_ Y.2.2.1 idx y na (.code y bytes nL' none)) (hC : am_Con G y (.code y bytes nL' none) d' mc' ms' (am_R nm :: as) h Q') (hst0 : st0 = as.reverse ++ am_R nm :: st) (hna : as.length = na) (hdd : d' + 1 ≤ d) (hnL : nL' ≤ 17) (hst : st.length ≤ 4) (hk : k + mc' ≤ mc) (hn : n + ms' ≤ ms)
    (kk : ∀ r h', Q' (.inl r) h' → am_W G X Y d mc ms Qs q ls (r.toList ++ st) h' (k + mc') (n + ms')) (kx : ∀ x h', Q' (.inr x) h' → am_WX G X Y d mc ms Qs pc ls h' (k + mc') (n + ms') x) : am_W G X Y d mc ms Qs pc ls st0 h k n := by
  subst hst0
  obtain ⟨p, e, R, s, m, args, below, meth, c, ι0⟩ := X
  obtain ⟨hd, rfl⟩ := hd
  intro ok ι H lr sr lc hr hl ht
  obtain ⟨av, sr1, rfl, ht1, ht2⟩ := am_rev ht
  obtain ⟨w, sr2, rfl, ⟨a, ha, rfl⟩, ht3⟩ := am_T_1 ht2
  have ok' := ok
  obtain ⟨hx, hb, hml, ho, hts, -, -, -, -, hRf, hRl, hRc, hRs, hold, hK⟩ := ok
  obtain ⟨w1, w2, w3, w4, w5⟩ := hw
  have hM := hC ι (Value.ref a :: av) ⟨⟨a, ha, rfl⟩, ht1⟩
  have hsum := am_sum8 ι ht3 hst
  have hp : PreS s H (am_Pc G ι (Value.ref a :: av) h) (Value.ref a :: av) := ⟨am_blind, fun U hU hW => ⟨rfl, by rw [hU]; exact hr.1, by rw [hU]; exact hr.2.1, am_K_warm hW hK⟩⟩
  have hroom : 8 + (nL' + 11) + (am_rm d' mc' ms').locals ≤ R.locals := by
    show 8 + (nL' + 11) + 36 * d' ≤ R.locals
    omega
  have hfr : (am_rm d' mc' ms').frames + 1 ≤ R.frames := Nat.le_trans hdd hRf
  have hlen : av.length = na := (am_T_len ht1).trans hna
  refine am_run (a9 := (Value.ref a :: av).toArray) ok' ?_ hr hl ht3 kk kx
  rcases w5 with w5 | ⟨host, w5⟩
  · exact vx_runI (As := av) (rest := sr2) (n := na) (index := idx) (y := y) (b := a) ⟨hx, hb, hml, ho, hts⟩ hM ⟨⟨rfl, rfl, hfr, hroom, am_words w1 hts, List.mem_cons_self, hts _ w1, hts _ w2.2.2, w2.1, am_nar_len w2, hts _ w5⟩, w4, hts _ w3⟩ hp rfl hlen hl.1 rfl (lv_room hsum) hd ⟨by rw [hRc]; exact hk, by rw [hRs]; exact hn⟩
  · exact vx_runIN (As := av) (rest := sr2) (n := na) (index := idx) (y := y) (b := a) (host := host) ⟨hx, hb, hml, ho, hts⟩ hM ⟨⟨⟨rfl, rfl, hfr, hroom, am_words w1 hts, List.mem_cons_self⟩, hts _ w1, hts _ w2.2.2, w2.1, am_nar_len w2, va_Nw.use rfl (hK.2.2.1 _ w5 rfl)⟩, w4, hts _ w3⟩ hp rfl hlen hl.1 rfl (lv_room hsum) hd ⟨by rw [hRc]; exact hk, by rw [hRs]; exact hn⟩
theorem am_objInit (hd : am_d Y.1 pc (.invokespecial idx) 3 q) (hl1 : Cond.methodLink Y.2.2.1 idx Lib.objectInit ∈ am_uw) (hi1 : Cond.instanceMethod Lib.objectInit ∈ am_uw) (hc1 : Cond.code Lib.objectInit ⟨#[0xb1]⟩ 1 none ∈ am_uw) (hdd : 1 ≤ d) (hst : st.length ≤ 4) (kk : am_W G X Y d mc ms Qs q ls st h k n) : am_W G X Y d mc ms Qs pc ls (am_R nm :: st) h k n := by
  obtain ⟨p, e, R, s, m, args, below, meth, c, ι0⟩ := X
  obtain ⟨hd, rfl⟩ := hd
  intro ok ι H lr sr lc hr hl ht
  obtain ⟨w, sr2, rfl, ⟨a, ha, rfl⟩, ht3⟩ := am_T_1 ht
  have ok' := ok
  obtain ⟨hx, hb, hml, ho, hts, -, -, -, -, hRf, hRl, hRc, hRs, hold, hK⟩ := ok
  have hsum := am_sum8 ι ht3 hst
  exact W.objInit hx hb ho (hts _ hl1) (hts _ hi1) (hts _ hc1) rfl (by show lr.size = _; rw [hl.1, hml]) rfl hd (Nat.le_trans hdd hRf) (by show 2 * 0 + _ + 12 ≤ _; omega) (kk ok' ι H lr sr2 lc hr hl ht3)
end AmCalls
end AmEnds

