/-! THE CLAIM OUT OF ONE WALK OF THE LAW'S BODY. Your part is whole_start (and what it stands on); all else here is the same for every law, but numbers. -/
def R_law : String := "ArmtowerLineLaw"
def lw_P (b : Addr) (xs : List Int32) (args : Array Value) (s : State) : Prop := args = #[.ref b] ∧ s.IntsAt b xs ∧ xs.length ≤ 260 ∧ (Jvm.Cond.and given_1 narrow_1).before args s = true
def lw_Q (_ : Array Value) (s : State) (o : Outcome) (t : State) : Prop := o = .returned (some (.int 1)) ∧ Framed s o t [] 600104 7301314
def lw_Z (below : List Frame) (a : Array Value) (s : State) : State → Prop := fun t => ∃ o, t.status = .running ∧ Ended t below o ∧ lw_Q a s o t
/-- the law's own end, with 1 on the stack, nothing written that was there before, its room as the claim has it -/
theorem lw_ret {p : Program} {l : Launch} {e : Env} {s : State} {m : MethodId} {below : List Frame} {meth : Method} {c : Code} {b : Nat} (hx : p.tables.exec = Jvm.exec) (hb : c.code = code) (hr : meth.sig.returnType = ret) (hlocks : meth.locks = false) {pc : Nat} {H : Heap} {ls : Array Slot} (hdg : decode code pc = .ok (.ireturn, 1)) : W p l e room_1 s m #[Value.ref b] below meth c H [] 600104 7301314 (lw_Z below #[Value.ref b] s) (F0 m pc ls [.int 1]) := by
  intro T hT X
  obtain ⟨fs, hret, hrun, hended, hW, hframe⟩ := X.leave (v := some (.int 1)) (hlocks := hlocks) (fun h => by rw [hr] at h; cases h)
  have hmeth' : T.vm.method? m = some meth := X.method'
  refine ⟨T.setFrames fs, ?_, .returned (some (.int 1)), hrun, hended, rfl, ⟨_, rfl⟩, hW, hframe⟩
  jvm_step X.here [X.here.top, hx, hb, hdg, hmeth', hr, ret, narrow_b1]
  (try refine ⟨rfl, ?_⟩); (try refine ⟨rfl, ?_⟩)
  first | (intro acts; rw [hret _ acts rfl rfl rfl]) | rw [hret _ _ rfl rfl rfl]
  exact Steps.refl _
/-- what holds at the law's entry: the machine, the code, the tables' words (any of lw_tbl by 'hts w (by decide +kernel)'), the script of L ints xs at the cell b, what the Statement gives of the start (any of its parts by flat_of_before) -/
def lw_At (p : Program) (s : State) (m : MethodId) (meth : Method) (c : Code) (b L : Nat) (xs : Nat → Int32) : Prop :=
  p.tables.exec = Jvm.exec ∧ c.code = code ∧ meth.sig.returnType = ret ∧ c.maxLocals = 22 ∧ s.vm.findClass R_law = some m.cls ∧ (∀ w ∈ lw_tbl, w.before #[Value.ref b] s = true) ∧ va_X b L xs s s.heap ∧ b < s.heap.size ∧ meth.locks = false ∧ (Jvm.Cond.and given_1 narrow_1).before #[Value.ref b] s = true
/-! from the law's entry -/
theorem am_start_K {p : Program} {s : State} {m : MethodId} {meth : Method} {c : Code} (l : Launch) (hflags : l.flags = flags0) {b L : Nat} {xs : Nat → Int32} (C0 : lw_At p s m meth c b L xs) : ∃ (dC : Nat → ClassId) (dI : Nat → Nat → Nat) (dA : Nat → ClassId), am_K (l, s.heap, dC, dI, dA, b, L, xs) s := by
  obtain ⟨hx, hb, hr, hml, hown, hts, hX, hbl, hlocks, hgv⟩ := C0
  have hs := flat_of_before _ hgv
  have up : ∀ {ws : List Cond}, (∀ w ∈ ws, w ∈ am_uw) → ∀ w ∈ ws, w ∈ lw_tbl := fun h w hw => am_uw_in w (h w hw)
  have hcl : ∀ k : Nat, ∃ z : ClassId × (Nat → Nat), ∀ q : vw_C, vwCl[k]? = some q → u_Kn s q.1 q.2.1 q.2.2 z.1 z.2 := by
    intro k
    match k with
    | 0 =>
      obtain ⟨cC, iS, h⟩ := u_known (C := RX0) (T := TX0) (N := 5) (n := 5) hts (up am_in0) (hts (.instantiable RX0 5) (List.mem_of_getElem? (i := 252) (by decide +kernel)))
      exact ⟨(cC, iS), fun q hq => by cases hq; exact h⟩
    | 1 =>
      obtain ⟨cC, iS, h⟩ := u_known (C := RX1) (T := TX1) (N := 3) (n := 3) hts (up am_in1) (hts (.instantiable RX1 3) (List.mem_of_getElem? (i := 67) (by decide +kernel)))
      exact ⟨(cC, iS), fun q hq => by cases hq; exact h⟩
    | 2 =>
      obtain ⟨cC, iS, h⟩ := u_known (C := RX2) (T := TX2) (N := 6) (n := 6) hts (up am_in2) (hts (.instantiable RX2 6) (List.mem_of_getElem? (i := 488) (by decide +kernel)))
      exact ⟨(cC, iS), fun q hq => by cases hq; exact h⟩
    | 3 =>
      obtain ⟨cC, iS, h⟩ := u_known (C := RX3) (T := TX3) (N := 4) (n := 4) hts (up am_in3) (hts (.instantiable RX3 4) (List.mem_of_getElem? (i := 258) (by decide +kernel)))
      exact ⟨(cC, iS), fun q hq => by cases hq; exact h⟩
    | 4 =>
      obtain ⟨cC, iS, h⟩ := u_known (C := RX4) (T := TX4) (N := 0) (n := 3) hts (up am_in4) (hts (.instantiable RX4 3) (List.mem_of_getElem? (i := 543) (by decide +kernel)))
      exact ⟨(cC, iS), fun q hq => by cases hq; exact h⟩
    | 5 =>
      obtain ⟨cC, iS, h⟩ := u_known (C := RX5) (T := TX5) (N := 5) (n := 5) hts (up am_in5) (hts (.instantiable RX5 5) (List.mem_of_getElem? (i := 315) (by decide +kernel)))
      exact ⟨(cC, iS), fun q hq => by cases hq; exact h⟩
    | 6 =>
      obtain ⟨cC, iS, h⟩ := u_known (C := RX6) (T := TX6) (N := 5) (n := 5) hts (up am_in6) (hts (.instantiable RX6 5) (List.mem_of_getElem? (i := 84) (by decide +kernel)))
      exact ⟨(cC, iS), fun q hq => by cases hq; exact h⟩
    | 7 =>
      obtain ⟨cC, iS, h⟩ := u_known (C := RX7) (T := TX7) (N := 4) (n := 4) hts (up am_in7) (hts (.instantiable RX7 4) (List.mem_of_getElem? (i := 246) (by decide +kernel)))
      exact ⟨(cC, iS), fun q hq => by cases hq; exact h⟩
    | 8 =>
      obtain ⟨cC, iS, h⟩ := u_known (C := RX8) (T := TX8) (N := 14) (n := 14) hts (up am_in8) (hts (.instantiable RX8 14) (List.mem_of_getElem? (i := 54) (by decide +kernel)))
      exact ⟨(cC, iS), fun q hq => by cases hq; exact h⟩
    | k + 9 => exact ⟨⟨0, fun _ => 0⟩, fun q hq => by simp [vwCl] at hq⟩
  obtain ⟨fC, hfC⟩ := Classical.axiomOfChoice hcl
  have har : ∀ k : Nat, ∃ cA : ClassId, k < 8 → ArrOfT s cA (am_ty k) ∧ va_RA s cA (am_ty k) := by
    intro k
    match k with
    | 0 =>
      obtain ⟨cA, kA, comp, h1, h2, h3⟩ := Cond.arrayClass_spec (hts (.arrayClass .int) (List.mem_of_getElem? (i := 82) (by decide +kernel)))
      exact ⟨cA, fun _ => ⟨fun n z => ⟨fun k h => (by cases h), kA, h2, comp, h3⟩, h1⟩⟩
    | 1 =>
      obtain ⟨cA, kA, comp, h1, h2, h3⟩ := Cond.arrayClass_spec (hts (.arrayClass .boolean) (List.mem_of_getElem? (i := 278) (by decide +kernel)))
      exact ⟨cA, fun _ => ⟨fun n z => ⟨fun k h => (by cases h), kA, h2, comp, h3⟩, h1⟩⟩
    | 2 =>
      obtain ⟨cA, kA, comp, h1, h2, h3⟩ := Cond.arrayClass_spec (hts (.arrayClass .int) (List.mem_of_getElem? (i := 82) (by decide +kernel)))
      exact ⟨cA, fun _ => ⟨fun n z => ⟨fun k h => (by cases h), kA, h2, comp, h3⟩, h1⟩⟩
    | 3 =>
      obtain ⟨comp, cA, kA, h1, h2, h3, h4, h5⟩ := Cond.arrayOver_spec (hts (.arrayOver (.object RX7)) (List.mem_of_getElem? (i := 62) (by decide +kernel)))
      exact ⟨cA, fun _ => ⟨fun n z => ⟨fun k h => (by cases h), kA, h3, comp, h4⟩, kA, comp, h3, h4, h1, h5⟩⟩
    | 4 =>
      obtain ⟨comp, cA, kA, h1, h2, h3, h4, h5⟩ := Cond.arrayOver_spec (hts (.arrayOver (.object RX5)) (List.mem_of_getElem? (i := 64) (by decide +kernel)))
      exact ⟨cA, fun _ => ⟨fun n z => ⟨fun k h => (by cases h), kA, h3, comp, h4⟩, kA, comp, h3, h4, h1, h5⟩⟩
    | 5 =>
      obtain ⟨comp, cA, kA, h1, h2, h3, h4, h5⟩ := Cond.arrayOver_spec (hts (.arrayOver (.object RX1)) (List.mem_of_getElem? (i := 66) (by decide +kernel)))
      exact ⟨cA, fun _ => ⟨fun n z => ⟨fun k h => (by cases h), kA, h3, comp, h4⟩, kA, comp, h3, h4, h1, h5⟩⟩
    | 6 =>
      obtain ⟨comp, cA, kA, h1, h2, h3, h4, h5⟩ := Cond.arrayOver_spec (hts (.arrayOver (.object RX4)) (List.mem_of_getElem? (i := 111) (by decide +kernel)))
      exact ⟨cA, fun _ => ⟨fun n z => ⟨fun k h => (by cases h), kA, h3, comp, h4⟩, kA, comp, h3, h4, h1, h5⟩⟩
    | 7 =>
      obtain ⟨comp, cA, kA, h1, h2, h3, h4, h5⟩ := Cond.arrayOver_spec (hts (.arrayOver (.object RX2)) (List.mem_of_getElem? (i := 90) (by decide +kernel)))
      exact ⟨cA, fun _ => ⟨fun n z => ⟨fun k h => (by cases h), kA, h3, comp, h4⟩, kA, comp, h3, h4, h1, h5⟩⟩
    | k + 8 => exact ⟨0, fun h => absurd h (by omega)⟩
  obtain ⟨dA, hdA⟩ := Classical.axiomOfChoice har
  refine ⟨fun k => (fC k).1, fun k => (fC k).2, dA, ⟨fun k q hq => hfC k q hq, fun k q hq => ?_⟩, ⟨?_, ?_⟩, fun w hw hm => va_Nw.of (am_mvt hm) (hts w hw), fun k tx hk => ?_, fun C hC => va_AO.of (hts _ hC), fun i j hi hj hn => ?_, hX, hbl, ?_⟩
  · have hk : k < 8 := by
      have := (List.getElem?_eq_some_iff.mp hq).1
      simpa [am_tys] using this
    rw [am_tys_at _ k hk] at hq
    cases hq
    exact hdA k hk
  · exact vx_Zqof (hts (.laysStatic "java/lang/Throwable" "UNASSIGNED_STACK" "[Ljava/lang/StackTraceElement;") (List.mem_of_getElem? (i := 189) (by decide +kernel))) (hts (.initialized "java/lang/Throwable") (List.mem_of_getElem? (i := 40) (by decide +kernel))) (hs (.isRef (.static "java/lang/Throwable" "UNASSIGNED_STACK" "[Ljava/lang/StackTraceElement;")) (by decide +kernel)) (fun a h1 h2 => absurd h1 (Nat.not_lt.mpr h2))
  · exact vx_Zqof (hts (.laysStatic "java/lang/Throwable" "SUPPRESSED_SENTINEL" "Ljava/util/List;") (List.mem_of_getElem? (i := 191) (by decide +kernel))) (hts (.initialized "java/lang/Throwable") (List.mem_of_getElem? (i := 40) (by decide +kernel))) (hs (.isRef (.static "java/lang/Throwable" "SUPPRESSED_SENTINEL" "Ljava/util/List;")) (by decide +kernel)) (fun a h1 h2 => absurd h1 (Nat.not_lt.mpr h2))
  · have h8 := (hfC 8 _ (show vwCl[8]? = some (RX8, TX8, 14) from rfl)).2.1
    obtain ⟨-, -, -, a, -, -, -, -, -, hev⟩ := Cond.stringRef_spec h8 (hts _ hk)
    exact ⟨a, vk_R.of (hts _ hk) hev⟩
  · exact absurd hi (Nat.not_lt_zero i)
  · show (!l.flags.contains noTraceFlag) = false
    rw [hflags]
    decide +kernel
/-- the law's own end -/
theorem law_end {p : Program} {e : Env} {s : State} {m : MethodId} {below : List Frame} {meth : Method} {c : Code} {l : Launch} {b L : Nat} {xs : Nat → Int32} (C0 : lw_At p s m meth c b L xs) {HH : List (Nat × Nat × Nat × Nat)} {dC : Nat → ClassId} {dI : Nat → Nat → Nat} {dA : Nat → ClassId} {ι0 : am_Nm → Option Nat} (ls : List (Option am_AV)) (h : am_AH) (k n : Nat) (h4 : ls[4]? = some (some (am_I 1))) (hk : k ≤ 600104) (hn : n ≤ 7301314) :
    am_W (l, s.heap, dC, dI, dA, b, L, xs) (p, e, room_1, s, m, #[Value.ref b], below, meth, c, ι0) (mLh HH) 8 600104 7301314 (lw_Z below #[Value.ref b] s) 936 ls [] h k n := by
  refine am_iload eL_law_936 h4 ?_
  obtain ⟨hx, hb, hr, hml, hown, hts, hX, hbl, hlocks, hgv⟩ := C0
  intro ok ι H lr sr lc hrel hl ht
  obtain ⟨w, sr, rfl, hw, ht1⟩ := am_T_1 ht
  cases hw
  cases sr with
  | cons a b => exact ht1.elim
  | nil =>
  refine va_forget (fun q hq => hrel.2.2.2.1 q hq) ?_
  exact W.widen hk hn (lw_ret hx hb hr hlocks eL_law_938.1)
theorem whole_start {p : Program} {e : Env} {s : State} {m : MethodId} {below : List Frame} {meth : Method} {c : Code} (l : Launch) (hflags : l.flags = flags0) {b L : Nat} {xs : Nat → Int32} (hL : L ≤ 260) (C0 : lw_At p s m meth c b L xs) : W p l e room_1 s m #[Value.ref b] below meth c s.heap [] 0 0 (lw_Z below #[Value.ref b] s) (entryFrame m ([Value.ref b] : List Value).toArray 22) := by
  obtain ⟨dC, dI, dA, hK⟩ := am_start_K l hflags C0
  have C1 := C0
  obtain ⟨hx, hb, hr, hml, hown, hts, hX, hbl, hlocks, hgv⟩ := C1
  obtain ⟨HH, hHH⟩ : ∃ HH, c.exceptionTable.toList = tableOf HH := ⟨c.exceptionTable.toList.map fun z => (z.startPc, z.endPc, z.handlerPc, z.catchType), by unfold tableOf; rw [List.map_map]; exact (List.map_id _).symm⟩
  have K := law_start (HH := HH) (G := (l, s.heap, dC, dI, dA, b, L, xs)) (X := (p, e, room_1, s, m, #[Value.ref b], below, meth, c, fun n => if n = am_scr then some b else none)) (Q := lw_Z below #[Value.ref b] s) hL (fun ls h k n h4 hk hn => law_end C0 ls h k n h4 hk hn)
  rw [lg_entry_eq]
  refine K ⟨hx, hb, hml, hown, fun w hw => hts w (am_uw_in w hw), hlocks, hr, (fun z => by cases z), hHH, (Nat.le_of_ble_eq_true rfl : 8 ≤ 10), (Nat.le_of_ble_eq_true rfl : 36 * 8 ≤ 348), rfl, rfl, ⟨Nat.le_refl _, fun _ _ => rfl⟩, hK⟩ (fun n => if n = am_scr then some b else none) s.heap _ [] [] ⟨⟨fun n c h => (by cases h), fun n a ha => ?_, fun n n' a h1 h2 => ?_, rfl, if_pos rfl⟩, ⟨Nat.le_refl _, fun _ _ => rfl⟩, Nat.le_refl _, fun z hz => (by cases hz), am_le_rf⟩ (am_L_entry (as := [am_R am_scr]) (av := [Value.ref b]) ⟨⟨b, if_pos rfl, rfl⟩, trivial⟩ (fun v hv => List.all_eq_true.mp rfl v hv) (Nat.le_of_ble_eq_true rfl)) trivial
  · left
    by_cases z : n = am_scr
    · simp only [if_pos z, Option.some.injEq] at ha
      exact ⟨z, ha.symm⟩
    · simp only [if_neg z] at ha
      cases ha
  · by_cases z : n = am_scr
    · by_cases z' : n' = am_scr
      · rw [z, z']
      · simp only [if_neg z'] at h2
        cases h2
    · simp only [if_neg z] at h1
      cases h1
