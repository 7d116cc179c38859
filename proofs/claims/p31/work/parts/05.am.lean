/-! ABSTRACT MACHINE over the kit's W: ints are mathematical integers, objects have names (kind, number), the heap is a function of names -/
abbrev am_Nm : Type := Nat × Nat
abbrev am_AV : Type := Int ⊕ Int ⊕ Option am_Nm
abbrev am_I (x : Int) : am_AV := Sum.inl x
abbrev am_J (x : Int) : am_AV := Sum.inr (Sum.inl x)
abbrev am_R (n : am_Nm) : am_AV := Sum.inr (Sum.inr (some n))
abbrev am_N : am_AV := Sum.inr (Sum.inr none)
/-- an array (kind, length, elements) or an object (class, fields) -/
abbrev am_AC : Type := (Nat × Nat × (Nat → am_AV)) ⊕ (Nat × List am_AV)
abbrev am_A (kd len : Nat) (f : Nat → am_AV) : am_AC := Sum.inl (kd, len, f)
abbrev am_O (ci : Nat) (fs : List am_AV) : am_AC := Sum.inr (ci, fs)
abbrev am_AH : Type := am_Nm → Option am_AC
/-- the script's name -/
abbrev am_scr : am_Nm := (99, 0)
def am_up (h : am_AH) (n : am_Nm) (c : am_AC) : am_AH := fun x => if x = n then some c else h x
def am_uf (f : Nat → am_AV) (i : Nat) (v : am_AV) : Nat → am_AV := fun j => if j = i then v else f j
/-- launch, heap at the law's start, class ids, field slots, array class ids, script (address, length, ints) -/
abbrev am_G : Type := Launch × Heap × (Nat → ClassId) × (Nat → Nat → Nat) × (Nat → ClassId) × (Nat × Nat × (Nat → Int32))
/-- ..., entry naming -/
abbrev am_X : Type := Program × Env × Room × State × MethodId × Array Value × List Frame × Method × Code × (am_Nm → Option Nat)
/-- bytes, number of locals, own class, return type, a constructor?, handlers -/
abbrev am_Y : Type := ByteArray × Nat × String × Option FieldType × Bool × List (Nat × Nat × Nat × Nat)
def am_V (ι : am_Nm → Option Nat) (v : am_AV) (w : Value) : Prop := match v with
  | .inl x => w = .int (Int32.ofInt x)
  | .inr (.inl x) => w = .long (Int64.ofInt x)
  | .inr (.inr none) => w = .null
  | .inr (.inr (some n)) => ∃ a, ι n = some a ∧ w = .ref a
def am_T (ι : am_Nm → Option Nat) : List am_AV → List Value → Prop
  | [], [] => True
  | v :: vs, w :: ws => am_V ι v w ∧ am_T ι vs ws
  | _, _ => False
def am_le (ι κ : am_Nm → Option Nat) : Prop := ∀ n a, ι n = some a → κ n = some a
theorem am_le_rf {ι : am_Nm → Option Nat} : am_le ι ι := fun _ _ h => h
theorem am_le_tr {ι κ μ : am_Nm → Option Nat} (h : am_le ι κ) (g : am_le κ μ) : am_le ι μ := fun n a q => g n a (h n a q)
theorem am_V_le {ι κ : am_Nm → Option Nat} (h : am_le ι κ) {v : am_AV} {w : Value} (q : am_V ι v w) : am_V κ v w := by
  match v, q with
  | .inl x, q => exact q
  | .inr (.inl x), q => exact q
  | .inr (.inr none), q => exact q
  | .inr (.inr (some n)), q => obtain ⟨a, h1, h2⟩ := q; exact ⟨a, h n a h1, h2⟩
theorem am_T_le {ι κ : am_Nm → Option Nat} (h : am_le ι κ) : ∀ {vs : List am_AV} {ws : List Value}, am_T ι vs ws → am_T κ vs ws
  | [], [], _ => trivial
  | _ :: _, _ :: _, ⟨a, b⟩ => ⟨am_V_le h a, am_T_le h b⟩
  | [], _ :: _, q => q.elim
  | _ :: _, [], q => q.elim
/-- the array kinds: 0 int, 1 boolean, 2 long, 3.. references of a class -/
def am_ty : Nat → FieldType
  | 0 => .int
  | 1 => .boolean
  | 2 => .int
  | 3 => .object RX7
  | 4 => .object RX5
  | 5 => .object RX1
  | 6 => .object RX4
  | _ => .object RX2
def am_C (G : am_G) (ι : am_Nm → Option Nat) (c : am_AC) (a : Nat) (H : Heap) : Prop := match c with
  | .inl (kd, len, f) => ∃ w : Nat → Value, H[a]? = some (arrV (G.2.2.2.2.1 kd) len w) ∧ ∀ j, j < len → am_V ι (f j) (w j)
  | .inr (ci, fs) => ∃ (r : vw_C) (V : Nat → Value), vwCl[ci]? = some r ∧ t_OB a (G.2.2.1 ci) r.2.2 (G.2.2.2.1 ci) H V ∧ ∀ (j : Nat) (v : am_AV), fs[j]? = some v → am_V ι v (V j)
theorem am_C_le {G : am_G} {ι κ : am_Nm → Option Nat} (h : am_le ι κ) {c : am_AC} {a : Nat} {H H1 : Heap} (hk : H1[a]? = H[a]?) (q : am_C G ι c a H) : am_C G κ c a H1 := by
  match c, q with
  | .inl (kd, len, f), ⟨w, h1, h2⟩ => exact ⟨w, hk.trans h1, fun j hj => am_V_le h (h2 j hj)⟩
  | .inr (ci, fs), ⟨r, V, h1, h2, h3⟩ => exact ⟨r, V, h1, h2.kept hk, fun j v hj => am_V_le h (h3 j v hj)⟩
theorem am_C_lt {G : am_G} {ι : am_Nm → Option Nat} {c : am_AC} {a : Nat} {H : Heap} (q : am_C G ι c a H) : a < H.size := by
  match c, q with
  | .inl (kd, len, f), ⟨w, h1, _⟩ => exact (Array.getElem?_eq_some_iff.mp h1).1
  | .inr (ci, fs), ⟨r, V, _, ⟨ce9, h1, _⟩, _⟩ => exact (Array.getElem?_eq_some_iff.mp h1).1
/-- the real heap holds the abstract one, by the naming -/
def am_H (G : am_G) (ι : am_Nm → Option Nat) (h : am_AH) (H : Heap) : Prop :=
  (∀ n c, h n = some c → ∃ a, ι n = some a ∧ am_C G ι c a H) ∧
  (∀ n a, ι n = some a → (n = am_scr ∧ a = G.2.2.2.2.2.1) ∨ (n ≠ am_scr ∧ G.2.1.size ≤ a ∧ a < H.size ∧ h n ≠ none)) ∧
  (∀ n n' a, ι n = some a → ι n' = some a → n = n') ∧ h am_scr = none ∧ ι am_scr = some G.2.2.2.2.2.1
/-- what was there at the law's start is there -/
def am_old (G : am_G) (H : Heap) : Prop := G.2.1.size ≤ H.size ∧ ∀ q, q < G.2.1.size → H[q]? = G.2.1[q]?
theorem am_H_set {G : am_G} {ι : am_Nm → Option Nat} {h : am_AH} {H H1 : Heap} {n : am_Nm} {c c1 : am_AC} {a : Nat} (q : am_H G ι h H) (hn : h n = some c) (ha : ι n = some a) (hz : H1.size = H.size) (ho : ∀ b, b ≠ a → H1[b]? = H[b]?) (hc : am_C G ι c1 a H1) : am_H G ι (am_up h n c1) H1 := by
  obtain ⟨q1, q2, q3, q4, q5⟩ := q
  have hs : am_scr ≠ n := fun e => by rw [e] at q4; rw [q4] at hn; cases hn
  refine ⟨fun x cx hx => ?_, fun x ax hx => ?_, q3, ?_, q5⟩
  · by_cases e : x = n
    · subst e
      simp only [am_up, if_true] at hx
      cases hx
      exact ⟨a, ha, hc⟩
    · simp only [am_up, if_neg e] at hx
      obtain ⟨b, hb, hcb⟩ := q1 x cx hx
      exact ⟨b, hb, am_C_le am_le_rf (ho b fun z => e (q3 x n a (z ▸ hb) ha)) hcb⟩
  · rcases q2 x ax hx with z | ⟨z1, z2, z3, z4⟩
    · exact Or.inl z
    · refine Or.inr ⟨z1, z2, hz ▸ z3, ?_⟩
      by_cases e : x = n
      · simp [am_up, e]
      · simp only [am_up, if_neg e]; exact z4
  · simp only [am_up, if_neg hs]; exact q4
theorem am_H_new {G : am_G} {ι : am_Nm → Option Nat} {h : am_AH} {H H1 : Heap} {n : am_Nm} {c1 : am_AC} (q : am_H G ι h H) (hold : am_old G H) (hsb : G.2.2.2.2.2.1 < G.2.1.size) (hn : h n = none) (hs : n ≠ am_scr) (hz : H1.size = H.size + 1) (ho : ∀ b, b < H.size → H1[b]? = H[b]?) (hc : ∀ κ : am_Nm → Option Nat, am_le ι κ → κ n = some H.size → am_C G κ c1 H.size H1) :
    ∃ κ : am_Nm → Option Nat, am_le ι κ ∧ κ n = some H.size ∧ am_H G κ (am_up h n c1) H1 := by
  obtain ⟨q1, q2, q3, q4, q5⟩ := q
  have hin : ι n = none := by
    cases e : ι n with
    | none => rfl
    | some a =>
      rcases q2 n a e with ⟨z, -⟩ | ⟨-, -, -, z⟩
      · exact absurd z hs
      · exact absurd hn z
  have hle : am_le ι (fun x => if x = n then some H.size else ι x) := fun x a hx => by
    by_cases e : x = n
    · subst e; rw [hin] at hx; cases hx
    · simp only [if_neg e]; exact hx
  have hlt : ∀ x a, ι x = some a → a < H.size := fun x a hx => by
    rcases q2 x a hx with ⟨-, z⟩ | ⟨-, -, z, -⟩
    · rw [z]; exact Nat.lt_of_lt_of_le hsb hold.1
    · exact z
  refine ⟨fun x => if x = n then some H.size else ι x, hle, by simp, fun x cx hx => ?_, fun x ax hx => ?_, fun x y a hx hy => ?_, ?_, ?_⟩
  · by_cases e : x = n
    · subst e
      simp only [am_up, if_true] at hx
      cases hx
      exact ⟨H.size, by simp, hc _ hle (by simp)⟩
    · simp only [am_up, if_neg e] at hx
      obtain ⟨b, hb, hcb⟩ := q1 x cx hx
      exact ⟨b, hle x b hb, am_C_le hle (ho b (am_C_lt hcb)) hcb⟩
  · by_cases e : x = n
    · subst e
      simp only [if_true] at hx
      cases hx
      exact Or.inr ⟨hs, hold.1, by omega, by simp [am_up]⟩
    · simp only [if_neg e] at hx
      rcases q2 x ax hx with z | ⟨z1, z2, z3, z4⟩
      · exact Or.inl z
      · exact Or.inr ⟨z1, z2, by omega, by simp only [am_up, if_neg e]; exact z4⟩
  · by_cases e : x = n
    · by_cases e' : y = n
      · rw [e, e']
      · simp only [if_pos e, Option.some.injEq] at hx
        simp only [if_neg e'] at hy
        exact absurd (hlt y a hy) (by omega)
    · by_cases e' : y = n
      · simp only [if_neg e] at hx
        simp only [if_pos e', Option.some.injEq] at hy
        exact absurd (hlt x a hx) (by omega)
      · simp only [if_neg e] at hx
        simp only [if_neg e'] at hy
        exact q3 x y a hx hy
  · simp only [am_up, if_neg (Ne.symm hs)]; exact q4
  · simp only [if_neg (Ne.symm hs)]; exact q5
/-- all good words, of all methods -/
def am_uw : List Cond := lw_tbl.filter goodWord
theorem am_uw_good : ∀ w ∈ am_uw, goodWord w = true := fun _ h => (List.mem_filter.mp h).2
theorem am_uw_in : ∀ w ∈ am_uw, w ∈ lw_tbl := fun _ h => (List.mem_filter.mp h).1
/-- words that move with the machine, though not good ones -/
def am_mv : Cond → Bool
  | .fieldLinkNest .. => true
  | .methodLinkNest .. => true
  | .castable .. => true
  | .declares .. => true
  | _ => false
def am_tys (G : am_G) : List (ClassId × FieldType) := (List.range 8).map fun k => (G.2.2.2.2.1 k, am_ty k)
theorem am_tys_at (G : am_G) (k : Nat) (hk : k < 8) : (am_tys G)[k]? = some (G.2.2.2.2.1 k, am_ty k) := by
  simp [am_tys, hk]
def am_free (G : am_G) : Nat → Prop := fun q => G.2.1.size ≤ q
def am_ex : Nat → String
  | 0 => "java/lang/IndexOutOfBoundsException"
  | 1 => "java/lang/IllegalArgumentException"
  | _ => "java/lang/IllegalStateException"
/-- what holds of the machine at every method's entry -/
def am_K (G : am_G) (U : State) : Prop :=
  va_K (G.2.2.1, G.2.2.2.1) vwCl (am_tys G) U ∧
  (vx_Zq Bundle.tN "UNASSIGNED_STACK" Bundle.steD (am_free G) U G.2.1 ∧ vx_Zq Bundle.tN "SUPPRESSED_SENTINEL" Bundle.listD (am_free G) U G.2.1) ∧
  (∀ w ∈ lw_tbl, am_mv w = true → va_Nw w U) ∧ (∀ (k : Nat) (tx : String), Cond.stringRef RX8 k tx ∈ lw_tbl → ∃ a, vk_R RX8 k tx a U) ∧
  (∀ C : String, Cond.arrayOver (.object C) ∈ lw_tbl → va_AO C U) ∧ (∀ i j : Nat, i < 0 → j < 3 → i ≠ j → va_Nc (am_ex i) (am_ex j) U) ∧
  va_X G.2.2.2.2.2.1 G.2.2.2.2.2.2.1 G.2.2.2.2.2.2.2 U G.2.1 ∧ G.2.2.2.2.2.1 < G.2.1.size ∧ G.1.stackTraces = false
theorem am_X_moved {b L : Nat} {xs : Nat → Int32} {u U : State} {H : Heap} (hvm : u.vm.Alike U.vm) (h : va_X b L xs u H) : va_X b L xs U H := by
  obtain ⟨scr, h1, h2, h3⟩ := h
  exact ⟨scr, h1, State.isArrayOf_alike hvm h2, h3⟩
theorem am_K_warm {G : am_G} {s U : State} (hW : s.WarmedH U.vm) (h : am_K G s) : am_K G U := by
  obtain ⟨h1, ⟨h2, h3⟩, h4, h5, h6, h7, h8, h9⟩ := h
  refine ⟨va_K.moved hW.alike h1, ⟨vx_Zq.moved hW.alike h2, vx_Zq.moved hW.alike h3⟩, fun w hw hm => ?_, fun k tx hk => ?_, fun C hC => (h6 C hC).moved hW.alike, fun i j hi hj hn => (h7 i j hi hj hn).moved hW.alike, am_X_moved hW.alike h8, h9⟩
  · have hz := h4 w hw hm
    cases w <;> first | (exact va_Nw.warmF hW hz) | (exact va_Nw.warmM hW hz) | (exact va_Nw.warmC hW hz) | (exact va_Nw.warmD hW hz) | (exact absurd hm (by simp [am_mv]))
  · obtain ⟨a, ha⟩ := h5 k tx hk
    exact ⟨a, vk_R.warm hW ha⟩
theorem am_K_same {G : am_G} {s U : State} (hv : s.vm = U.vm) (h : am_K G s) : am_K G U := by
  obtain ⟨h1, ⟨h2, h3⟩, h4, h5, h6, h7, h8, h9⟩ := h
  have hA : s.vm.Alike U.vm := hv ▸ Vm.Alike.refl s.vm
  refine ⟨va_K.moved hA h1, ⟨vx_Zq.moved hA h2, vx_Zq.moved hA h3⟩, fun w hw hm => ?_, fun k tx hk => ?_, fun C hC => (h6 C hC).moved hA, fun i j hi hj hn => (h7 i j hi hj hn).moved hA, am_X_moved hA h8, h9⟩
  · have hz := h4 w hw hm
    cases w <;> first | (exact va_Nw.same rfl hv hz) | (exact absurd hm (by simp [am_mv]))
  · obtain ⟨a, ha⟩ := h5 k tx hk
    exact ⟨a, vk_R.same hv.symm ha⟩
def am_rm (d mc ms : Nat) : Room := { frames := d, cells := mc, slots := ms, locals := 36 * d }
/-- what holds through a method's body: the machine, the code, the words, the entry's heap -/
def am_ok (G : am_G) (X : am_X) (Y : am_Y) (d mc ms : Nat) : Prop := match X with
  | (p, e, R, s, m, args, below, meth, c, ι0) => p.tables.exec = Jvm.exec ∧ c.code = Y.1 ∧ c.maxLocals = Y.2.1 ∧ s.vm.findClass Y.2.2.1 = some m.cls ∧ (∀ w ∈ am_uw, w.before args s = true) ∧ meth.locks = false ∧ meth.sig.returnType = Y.2.2.2.1 ∧ (Y.2.2.2.2.1 = true → meth.name = "<init>") ∧ c.exceptionTable.toList = tableOf Y.2.2.2.2.2 ∧ d ≤ R.frames ∧ R.locals ≥ 36 * d ∧ R.cells = mc ∧ R.slots = ms ∧ am_old G s.heap ∧ am_K G s
def am_Rel (G : am_G) (X : am_X) (ι : am_Nm → Option Nat) (h : am_AH) (H : Heap) (lc : List Loc) : Prop := match X with
  | (_, _, _, s, _, _, _, _, _, ι0) => am_H G ι h H ∧ am_old G H ∧ s.heap.size ≤ H.size ∧ (∀ z ∈ lc, am_free G z.base) ∧ am_le ι0 ι
/-- locals: what is listed is held, and no long is among them -/
def am_L (nL : Nat) (ι : am_Nm → Option Nat) (ls : List (Option am_AV)) (lr : Array Slot) : Prop :=
  lr.size = nL ∧ lv_wf lr ∧ ls.length = nL ∧ ∀ (i : Nat) (v : am_AV), ls[i]? = some (some v) → ∃ w, lr[i]? = some (.val w) ∧ am_V ι v w ∧ w.category = 1
theorem am_L_le {nL : Nat} {ι κ : am_Nm → Option Nat} (h : am_le ι κ) {ls : List (Option am_AV)} {lr : Array Slot} (q : am_L nL ι ls lr) : am_L nL κ ls lr :=
  ⟨q.1, q.2.1, q.2.2.1, fun i v hi => by obtain ⟨w, h1, h2, h3⟩ := q.2.2.2 i v hi; exact ⟨w, h1, am_V_le h h2, h3⟩⟩
/-- the walk of a body, from a place on -/
def am_W (G : am_G) (X : am_X) (Y : am_Y) (d mc ms : Nat) (Q : State → Prop) (pc : Nat) (ls : List (Option am_AV)) (st : List am_AV) (h : am_AH) (k n : Nat) : Prop := match X with
  | (p, e, R, s, m, args, below, meth, c, ι0) => am_ok G (p, e, R, s, m, args, below, meth, c, ι0) Y d mc ms → ∀ (ι : am_Nm → Option Nat) (H : Heap) (lr : Array Slot) (sr : List Value) (lc : List Loc), am_Rel G (p, e, R, s, m, args, below, meth, c, ι0) ι h H lc → am_L Y.2.1 ι ls lr → am_T ι st sr → W p G.1 e R s m args below meth c H lc k n Q (F0 m pc lr sr)
/-- decoding: an instruction, its length, the next place; a branch with its target -/
def am_d (cc : ByteArray) (pc : Nat) (i : Instr) (len q : Nat) : Prop := decode cc pc = .ok (i, len) ∧ q = pc + len
def am_b (cc : ByteArray) (pc : Nat) (i : Instr) (off : Int) (q t : Nat) : Prop := decode cc pc = .ok (i, 3) ∧ q = pc + 3 ∧ (pc : Int) + off = (t : Int)
def am_r (a : Int) : Prop := -2147483648 ≤ a ∧ a < 2147483648
theorem am_toInt {a : Int} (h : am_r a) : (Int32.ofInt a).toInt = a := Int32.toInt_ofInt_of_le (by have := h.1; omega) (by have := h.2; omega)
theorem am_lt {a b : Int} (ha : am_r a) (hb : am_r b) : Int32.ofInt a < Int32.ofInt b ↔ a < b := by rw [Int32.lt_iff_toInt_lt, am_toInt ha, am_toInt hb]
theorem am_lef {a b : Int} (ha : am_r a) (hb : am_r b) : Int32.ofInt a ≤ Int32.ofInt b ↔ a ≤ b := by rw [Int32.le_iff_toInt_le, am_toInt ha, am_toInt hb]
theorem am_eq {a b : Int} (ha : am_r a) (hb : am_r b) : Int32.ofInt a = Int32.ofInt b ↔ a = b := by rw [← Int32.toInt_inj, am_toInt ha, am_toInt hb]
theorem am_r0 : am_r 0 := ⟨by decide, by decide⟩
theorem am_z : (0 : Int32) = Int32.ofInt 0 := by decide
theorem am_idx {i : Int} (h0 : 0 ≤ i) {n : Nat} (h1 : i < n) (hn : n < 2147483648) : ¬ (Int32.ofInt i < 0 ∨ n ≤ (Int32.ofInt i).toNatClampNeg) ∧ (Int32.ofInt i).toNatClampNeg = i.toNat := by
  have hr : am_r i := ⟨by omega, by omega⟩
  have ht := am_toInt hr
  have hc : (Int32.ofInt i).toNatClampNeg = i.toNat := by show (Int32.ofInt i).toInt.toNat = i.toNat; rw [ht]
  refine ⟨?_, hc⟩
  rw [am_z, am_lt hr am_r0, hc]
  omega
