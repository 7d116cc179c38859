/-! further rows: copies of arrays, long compares, the script, the switch, handlers -/
section AmMore
variable {G : am_G} {X : am_X} {Y : am_Y} {d mc ms : Nat} {Q : State → Prop} {pc q t : Nat} {ls : List (Option am_AV)} {st : List am_AV} {h : am_AH} {k n : Nat}
theorem am_r64 {a : Int} (h : am_r a) : (Int64.ofInt a).toInt = a := Int64.toInt_ofInt_of_le (by have := h.1; omega) (by have := h.2; omega)
theorem am_lcmp {a b : Int} (ha : am_r a) (hb : am_r b) (hd : am_d Y.1 pc .lcmp 1 q) (kk : ∀ z, am_r z → (z = 0 ↔ a = b) → am_W G X Y d mc ms Q q ls (am_I z :: st) h k n) : am_W G X Y d mc ms Q pc ls (am_J b :: am_J a :: st) h k n := by
  obtain ⟨p, e, R, s, m, args, below, meth, c, ι0⟩ := X
  obtain ⟨hd, rfl⟩ := hd
  intro ok ι H lr sr lc hr hl ht
  obtain ⟨w, sr, rfl, q1, ht1⟩ := am_T_1 ht
  obtain ⟨u, sr, rfl, q2, ht2⟩ := am_T_1 ht1
  cases q1; cases q2
  have he : Int64.ofInt a = Int64.ofInt b ↔ a = b := by rw [← Int64.toInt_inj, am_r64 ha, am_r64 hb]
  have hg : Int64.ofInt a > Int64.ofInt b ↔ b < a := by rw [gt_iff_lt, Int64.lt_iff_toInt_lt, am_r64 ha, am_r64 hb]
  refine W.lcmp ok.1 ok.2.1 hd ?_
  have key : ∃ z : Int, am_r z ∧ (z = 0 ↔ a = b) ∧ lg_cmp (Int64.ofInt a) (Int64.ofInt b) = Int32.ofInt z := by
    unfold lg_cmp
    by_cases c1 : b < a
    · refine ⟨1, ⟨by decide, by decide⟩, ⟨fun z => absurd z (by decide), fun z => by omega⟩, ?_⟩
      rw [if_pos (hg.mpr c1)]; decide
    · rw [if_neg (fun z => c1 (hg.mp z))]
      by_cases c2 : a = b
      · refine ⟨0, am_r0, ⟨fun _ => c2, fun _ => rfl⟩, ?_⟩
        rw [if_pos (he.mpr c2)]; decide
      · refine ⟨-1, ⟨by decide, by decide⟩, ⟨fun z => absurd z (by decide), fun z => absurd z c2⟩, ?_⟩
        rw [if_neg (fun z => c2 (he.mp z))]; decide
  obtain ⟨z, z1, z2, z3⟩ := key
  rw [z3]
  exact kk z z1 z2 ok ι H lr _ lc hr hl ⟨rfl, ht2⟩
/-- the script's ints -/
theorem am_sld {i : Int} (hd : am_d Y.1 pc .iaload 1 q) (h0 : 0 ≤ i) (h1 : i < G.2.2.2.2.2.2.1) (hz : G.2.2.2.2.2.2.1 < 2147483648) (kk : am_W G X Y d mc ms Q q ls (am_I (G.2.2.2.2.2.2.2 i.toNat).toInt :: st) h k n) : am_W G X Y d mc ms Q pc ls (am_I i :: am_R am_scr :: st) h k n := by
  obtain ⟨p, e, R, s, m, args, below, meth, c, ι0⟩ := X
  obtain ⟨hd, rfl⟩ := hd
  intro ok ι H lr sr lc hr hl ht
  obtain ⟨w, sr, rfl, hw, ht1⟩ := am_T_1 ht
  cases hw
  obtain ⟨w2, sr, rfl, ⟨a, ha, rfl⟩, ht2⟩ := am_T_1 ht1
  have hK : am_K G s := ok.2.2.2.2.2.2.2.2.2.2.2.2.2.2
  obtain ⟨scr, g1, g2, g3, g4, g5⟩ := hK.2.2.2.2.2.2.1
  have hsb := hK.2.2.2.2.2.2.2.1
  have hab : a = G.2.2.2.2.2.1 := Option.some.inj (ha.symm.trans hr.1.2.2.2.2)
  subst hab
  obtain ⟨b1, b2⟩ := am_idx h0 h1 hz
  refine W.iald ok.1 ok.2.1 (by rw [hr.2.1.2 _ hsb]; exact g1) g2 g3 (by rw [g4]; exact b1) (v := .int (G.2.2.2.2.2.2.2 i.toNat)) (by rw [b2]; exact g5 _ (by omega)) rfl rfl hd ?_
  exact kk ok ι H lr _ lc hr hl ⟨by show Value.int _ = Value.int _; rw [Int32.ofInt_toInt], ht2⟩
theorem am_slen (hd : am_d Y.1 pc .arraylength 1 q) (kk : am_W G X Y d mc ms Q q ls (am_I (G.2.2.2.2.2.2.1 : Nat) :: st) h k n) : am_W G X Y d mc ms Q pc ls (am_R am_scr :: st) h k n := by
  obtain ⟨p, e, R, s, m, args, below, meth, c, ι0⟩ := X
  obtain ⟨hd, rfl⟩ := hd
  intro ok ι H lr sr lc hr hl ht
  obtain ⟨w2, sr, rfl, ⟨a, ha, rfl⟩, ht2⟩ := am_T_1 ht
  have hK : am_K G s := ok.2.2.2.2.2.2.2.2.2.2.2.2.2.2
  obtain ⟨scr, g1, g2, g3, g4, g5⟩ := hK.2.2.2.2.2.2.1
  have hsb := hK.2.2.2.2.2.2.2.1
  have hab : a = G.2.2.2.2.2.1 := Option.some.inj (ha.symm.trans hr.1.2.2.2.2)
  subst hab
  refine W.alen (n := Int32.ofInt (G.2.2.2.2.2.2.1 : Nat)) ok.1 ok.2.1 (by rw [hr.2.1.2 _ hsb]; exact g1) g2 (by rw [g4]; rfl) rfl rfl hd ?_
  exact kk ok ι H lr _ lc hr hl ⟨rfl, ht2⟩
theorem am_and31 {a : Int} (ha : am_r a) (hd : am_d Y.1 pc .iand 1 q) (kk : am_W G X Y d mc ms Q q ls (am_I (a % 32) :: st) h k n) : am_W G X Y d mc ms Q pc ls (am_I 31 :: am_I a :: st) h k n := by
  obtain ⟨p, e, R, s, m, args, below, meth, c, ι0⟩ := X
  obtain ⟨hd, rfl⟩ := hd
  intro ok ι H lr sr lc hr hl ht
  obtain ⟨w, sr, rfl, q1, ht1⟩ := am_T_1 ht
  obtain ⟨u, sr, rfl, q2, ht2⟩ := am_T_1 ht1
  cases q1; cases q2
  refine lv_iand ok.1 ok.2.1 hd (kk ok ι H lr _ lc hr hl ⟨?_, ht2⟩)
  show Value.int _ = Value.int _
  congr 1
  rw [pk_and (Int32.ofInt a) (m := Int32.ofInt 31) 5 (by decide)]
  rw [← Int32.toInt_inj, am_toInt ⟨by omega, by omega⟩, nI_toInt (by omega)]
  have h3 : (Int32.ofInt a).toBitVec.toNat = (a % 2 ^ 32).toNat := by
    show (BitVec.ofInt 32 a).toNat = _
    rw [BitVec.toNat_ofInt]
    rfl
  rw [h3]
  omega
theorem am_tabOut {dflt lo hi : Int} {offs : Array Int} {len : Nat} {x : Int} (hx : am_r x) (hd : decode Y.1 pc = .ok (.tableswitch dflt lo hi offs, len)) (ht9 : (pc : Int) + dflt = (t : Int)) (hb9 : x < lo ∨ hi < x) (kk : am_W G X Y d mc ms Q t ls st h k n) : am_W G X Y d mc ms Q pc ls (am_I x :: st) h k n := by
  obtain ⟨p, e, R, s, m, args, below, meth, c, ι0⟩ := X
  intro ok ι H lr sr lc hr hl ht
  obtain ⟨w, sr, rfl, q1, ht1⟩ := am_T_1 ht
  cases q1
  exact lv_tableOut ok.1 ok.2.1 hd (by rw [am_toInt hx]; exact hb9) ht9 (kk ok ι H lr _ lc hr hl ht1)
theorem am_tabIn {dflt lo hi off : Int} {offs : Array Int} {len : Nat} {x : Int} (hx : am_r x) (hd : decode Y.1 pc = .ok (.tableswitch dflt lo hi offs, len)) (h1 : lo ≤ x) (h2 : x ≤ hi) (ho : offs[(x - lo).toNat]? = some off) (ht9 : (pc : Int) + off = (t : Int)) (kk : am_W G X Y d mc ms Q t ls st h k n) : am_W G X Y d mc ms Q pc ls (am_I x :: st) h k n := by
  obtain ⟨p, e, R, s, m, args, below, meth, c, ι0⟩ := X
  intro ok ι H lr sr lc hr hl ht
  obtain ⟨w, sr, rfl, q1, ht1⟩ := am_T_1 ht
  cases q1
  exact lv_tableIn ok.1 ok.2.1 hd (by rw [am_toInt hx]; omega) (by rw [am_toInt hx]; omega) (by rw [am_toInt hx]; exact ho) ht9 (kk ok ι H lr _ lc hr hl ht1)
theorem am_L_setN {nL : Nat} {ι : am_Nm → Option Nat} {lr lr' : Array Slot} (hl : am_L nL ι ls lr) {i : Nat} {w : Value} (h2 : lv_has lr' nL ((i, w) :: (am_lv lr).filter (fun q => !(q.1 == i) && !(q.1 + 1 == i && q.2.category == 2)))) : am_L nL ι (ls.set i none) lr' := by
  refine ⟨h2.1, h2.2.1, by rw [List.length_set]; exact hl.2.2.1, fun j u hu => ?_⟩
  by_cases e : j = i
  · subst e
    by_cases hj : j < ls.length
    · rw [List.getElem?_set_self hj] at hu
      cases hu
    · rw [List.getElem?_eq_none (by simpa using hj)] at hu
      cases hu
  · rw [List.getElem?_set_ne (Ne.symm e)] at hu
    obtain ⟨w', h3, h4, h5⟩ := hl.2.2.2 j u hu
    refine ⟨w', h2.2.2 (j, w') (List.mem_cons_of_mem _ (List.mem_filter.mpr ⟨am_lv_in h3 h5, ?_⟩)), h4, h5⟩
    simp [e, h5]
/-- ints copied from one place to another, perhaps of the same array -/
def am_cpy (f g : Nat → Int) (sp dp n : Nat) : Nat → Int := fun j => if dp ≤ j ∧ j < dp + n then f (sp + (j - dp)) else g j
theorem am_arrI {ι : am_Nm → Option Nat} {len a : Nat} {f : Nat → Int} {H : Heap} (hc : am_C G ι (am_A 0 len (fun j => am_I (f j))) a H) : H[a]? = some (arrV (G.2.2.2.2.1 0) len (fun j => .int (Int32.ofInt (f j)))) := by
  obtain ⟨w, h1, h2⟩ := hc
  rw [h1]
  congr 1
  unfold arrV
  congr 1
  congr 1
  funext j
  exact h2 j.val j.isLt
theorem am_copy {n0 n1 : am_Nm} {l0 l1 : Nat} {f g : Nat → Int} {sp dp len : Int} {idx : Nat} (hd : am_d Y.1 pc (.invokestatic idx) 3 q) (hlk : Cond.methodLink Y.2.2.1 idx arraycopyName ∈ am_uw) (hnat : Cond.native arraycopyName ∈ am_uw) (hstt : Cond.static arraycopyName ∈ am_uw) (hini : Cond.initialized "java/lang/System" ∈ am_uw)
    (hh0 : h n0 = some (am_A 0 l0 (fun j => am_I (f j)))) (hh1 : h n1 = some (am_A 0 l1 (fun j => am_I (g j)))) (h1 : 0 ≤ sp) (h2 : 0 ≤ dp) (h3 : 0 ≤ len) (h4 : sp + len ≤ l0) (h5 : dp + len ≤ l1) (hl0 : l0 < 1000000) (hl1 : l1 < 1000000) (hdd : 2 ≤ d) (hst : st.length ≤ 4)
    (kk : am_W G X Y d mc ms Q q ls st (am_up h n1 (am_A 0 l1 (fun j => am_I (am_cpy f g sp.toNat dp.toNat len.toNat j)))) k n) : am_W G X Y d mc ms Q pc ls (am_I len :: am_I dp :: am_R n1 :: am_I sp :: am_R n0 :: st) h k n := by
  obtain ⟨p, e, R, s, m, args, below, meth, c, ι0⟩ := X
  obtain ⟨hd, rfl⟩ := hd
  intro ok ι H lr sr lc hr hl ht
  obtain ⟨w, sr, rfl, hw, ht1⟩ := am_T_1 ht
  cases hw
  obtain ⟨w, sr, rfl, hw, ht2⟩ := am_T_1 ht1
  cases hw
  obtain ⟨w, sr, rfl, ⟨a1, ha1, rfl⟩, ht3⟩ := am_T_1 ht2
  obtain ⟨w, sr, rfl, hw, ht4⟩ := am_T_1 ht3
  cases hw
  obtain ⟨w, sr, rfl, ⟨a0, ha0, rfl⟩, ht5⟩ := am_T_1 ht4
  have ok' := ok
  obtain ⟨hx, hb, hml, ho, hts, -, -, -, htb, hRf, hRl, hRc, hRs, hold, hK⟩ := ok
  obtain ⟨a0', ha0', hc0'⟩ := hr.1.1 n0 _ hh0
  cases ha0.symm.trans ha0'
  obtain ⟨a1', ha1', hc1'⟩ := hr.1.1 n1 _ hh1
  cases ha1.symm.trans ha1'
  have hc0 := am_arrI hc0'
  have hc1 := am_arrI hc1'
  have rr : ∀ z : Int, 0 ≤ z → z ≤ 1000000 → ¬ Int32.ofInt z < 0 ∧ (Int32.ofInt z).toNatClampNeg = z.toNat ∧ (Int32.ofInt z).toInt = z := by
    intro z g1 g2
    have hrz : am_r z := ⟨by omega, by omega⟩
    refine ⟨by rw [am_z, am_lt hrz am_r0]; omega, ?_, am_toInt hrz⟩
    show (Int32.ofInt z).toInt.toNat = z.toNat
    rw [am_toInt hrz]
  obtain ⟨s1, s2, s3⟩ := rr sp h1 (by omega)
  obtain ⟨d1, d2, d3⟩ := rr dp h2 (by omega)
  obtain ⟨e1, e2, e3⟩ := rr len h3 (by omega)
  have hsum := am_sum8 ι ht5 hst
  obtain ⟨-, k0, hk0, cm0, hkk0⟩ := (hK.1.2 0 _ (am_tys_at G 0 (by decide))).1 l0 (fun j => .int (Int32.ofInt (f j)))
  obtain ⟨-, k1, hk1, cm1, hkk1⟩ := (hK.1.2 0 _ (am_tys_at G 0 (by decide))).1 l1 (fun j => .int (Int32.ofInt (g j)))
  have hnf : nativeFrameWords "java/lang/System" "arraycopy" 5 ≤ 50 := by decide +kernel
  intro T hT XX
  obtain ⟨vm', X', step⟩ := XX.arraycopy hx ho (hts _ hlk) (hts _ hnat) (hts _ hstt) (hts _ hini) (src := a0) (dst := a1) (cs := arrV (G.2.2.2.2.1 0) l0 (fun j => .int (Int32.ofInt (f j)))) (cd := arrV (G.2.2.2.2.1 0) l1 (fun j => .int (Int32.ofInt (g j)))) (srcPos := Int32.ofInt sp) (destPos := Int32.ofInt dp) (n := Int32.ofInt len) (by rw [hT]; exact hc0) (by rw [hT]; exact hc1)
    (fun _ h => by cases h) (fun _ h => by cases h) (fun h => by cases h) (fun h => by cases h) hk0 hk1 hkk0 hkk1 rfl s1 d1 e1
    (by rw [s3, e3, arrV_size]; omega)
    (by rw [d3, e3, arrV_size]; omega)
    (fun vm₁ _ i hi => by
      rw [e2] at hi
      have e9 : (arrV (G.2.2.2.2.1 0) l0 (fun j => .int (Int32.ofInt (f j)))).slots.getD ((Int32.ofInt sp).toNatClampNeg + i) .null = .int (Int32.ofInt (f ((Int32.ofInt sp).toNatClampNeg + i))) := by
        rw [Array.getD_eq_getD_getElem?, arrV_read _ _ (by rw [s2]; omega)]
        rfl
      refine ⟨?_, ?_⟩
      · rw [e9]
        rfl
      · rw [e9]
        exact trivial)
    (g := F0 m pc lr (.int (Int32.ofInt len) :: .int (Int32.ofInt dp) :: .ref a1 :: .int (Int32.ofInt sp) :: .ref a0 :: sr)) rfl (by rw [hml]; exact hl.1) (rest := sr) rfl (by rw [hb]; exact hd) (by omega) (by show 2 * 0 + _ + (nativeFrameWords "java/lang/System" "arraycopy" 5 + 11) ≤ _; omega)
  have e1 : copied (arrV (G.2.2.2.2.1 0) l0 (fun j => .int (Int32.ofInt (f j)))) (arrV (G.2.2.2.2.1 0) l1 (fun j => .int (Int32.ofInt (g j)))) (Int32.ofInt sp) (Int32.ofInt dp) (Int32.ofInt len) = arrV (G.2.2.2.2.1 0) l1 (fun j => .int (Int32.ofInt (am_cpy f g sp.toNat dp.toNat len.toNat j))) := by
    have z := va_copied (fun z => Value.int (Int32.ofInt z)) (G.2.2.2.2.1 0) (G.2.2.2.2.1 0) (n0 := l0) (n1 := l1) (sp := (Int32.ofInt sp).toNatClampNeg) (dp := (Int32.ofInt dp).toNatClampNeg) (n := (Int32.ofInt len).toNatClampNeg) f g (by rw [s2, e2]; omega)
    refine Eq.trans z ?_
    rw [s2, d2, e2]
    rfl
  rw [e1] at X' step
  have hlt : a1 < H.size := (Array.getElem?_eq_some_iff.mp hc1).1
  have hheap : ((T.setVm vm').setCell a1 (arrV (G.2.2.2.2.1 0) l1 (fun j => .int (Int32.ofInt (am_cpy f g sp.toNat dp.toNat len.toNat j))))).heap = H.setIfInBounds a1 (arrV (G.2.2.2.2.1 0) l1 (fun j => .int (Int32.ofInt (am_cpy f g sp.toNat dp.toNat len.toNat j)))) := by rw [← hT]; rfl
  have hfr := am_scr_ne hr.1 hh1 ha1
  have hrel := am_Rel_set (sl := 0) (H1 := H.setIfInBounds a1 (arrV (G.2.2.2.2.1 0) l1 (fun j => .int (Int32.ofInt (am_cpy f g sp.toNat dp.toNat len.toNat j))))) hr hh1 ha1 (by simp) (fun b hb => by simp [Array.getElem?_setIfInBounds, Ne.symm hb]) (c1 := am_A 0 l1 (fun j => am_I (am_cpy f g sp.toNat dp.toNat len.toNat j))) ⟨_, by simp [Array.getElem?_setIfInBounds, hlt], fun j _ => rfl⟩
  obtain ⟨t, b1, b2⟩ := kk ok' ι _ lr sr _ ⟨hrel.1, hrel.2.1, hrel.2.2.1, fun z hz => by
    rcases List.mem_append.mp hz with h | h
    · exact hr.2.2.2.1 z h
    · obtain ⟨y, -, hy⟩ := List.mem_map.mp h
      rw [← hy]
      exact hfr, hrel.2.2.2.2⟩ hl ht5 _ hheap X'
  exact ⟨t, step t b1, b2⟩
end AmMore

