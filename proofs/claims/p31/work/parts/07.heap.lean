/-! the heap's rows -/
/-- the type of a field, by class and place -/
def am_fty (ci : Nat) : Nat → FieldType := match ci with
  | 0 => tyX0 | 1 => tyX1 | 2 => tyX2 | 3 => tyX3 | 4 => tyX4 | 5 => tyX5 | 6 => tyX6 | 7 => tyX7 | 8 => tyX8 | _ => tyX9
theorem am_in0 : ∀ w ∈ u_ws RX0 TX0 5, w ∈ am_uw := by decide +kernel
theorem am_in1 : ∀ w ∈ u_ws RX1 TX1 3, w ∈ am_uw := by decide +kernel
theorem am_in2 : ∀ w ∈ u_ws RX2 TX2 6, w ∈ am_uw := by decide +kernel
theorem am_in3 : ∀ w ∈ u_ws RX3 TX3 4, w ∈ am_uw := by decide +kernel
theorem am_in4 : ∀ w ∈ u_ws RX4 TX4 0, w ∈ am_uw := by decide +kernel
theorem am_in5 : ∀ w ∈ u_ws RX5 TX5 5, w ∈ am_uw := by decide +kernel
theorem am_in6 : ∀ w ∈ u_ws RX6 TX6 5, w ∈ am_uw := by decide +kernel
theorem am_in7 : ∀ w ∈ u_ws RX7 TX7 4, w ∈ am_uw := by decide +kernel
theorem am_in8 : ∀ w ∈ u_ws RX8 TX8 14, w ∈ am_uw := by decide +kernel
def am_cok (ci : Nat) (r : vw_C) : Prop := (∀ w ∈ u_ws r.1 r.2.1 r.2.2, w ∈ am_uw) ∧ (∀ k, k < r.2.2 → parseFieldDescriptor (r.2.1 k).2.2.1 = some (am_fty ci k)) ∧ (∀ a, a < r.2.2 → ∀ b, b < r.2.2 → a ≠ b → (r.2.1 a).2.1 ≠ (r.2.1 b).2.1) ∧ (∀ k, k < r.2.2 → (r.2.1 k).1 = r.1)
theorem am_cls {ci : Nat} {r : vw_C} (h : vwCl[ci]? = some r) : am_cok ci r := by
  match ci, h with
  | 0, h => cases h; exact ⟨am_in0, tyX0_ok, nmX0, by decide +kernel⟩
  | 1, h => cases h; exact ⟨am_in1, tyX1_ok, nmX1, by decide +kernel⟩
  | 2, h => cases h; exact ⟨am_in2, tyX2_ok, nmX2, by decide +kernel⟩
  | 3, h => cases h; exact ⟨am_in3, tyX3_ok, nmX3, by decide +kernel⟩
  | 4, h => cases h; exact ⟨am_in4, tyX4_ok, nmX4, by decide +kernel⟩
  | 5, h => cases h; exact ⟨am_in5, tyX5_ok, nmX5, by decide +kernel⟩
  | 6, h => cases h; exact ⟨am_in6, tyX6_ok, nmX6, by decide +kernel⟩
  | 7, h => cases h; exact ⟨am_in7, tyX7_ok, nmX7, by decide +kernel⟩
  | 8, h => cases h; exact ⟨am_in8, tyX8_ok, nmX8, by decide +kernel⟩
  | ci + 9, h => simp [vwCl] at h
/-- a field's link: the class and the place of it; its own class's, or a nest mate's -/
def am_fl (own : String) (idx ci j : Nat) : Prop := ∃ r, vwCl[ci]? = some r ∧ j < r.2.2 ∧ (Cond.fieldLink own idx (r.2.1 j).1 (r.2.1 j).2.1 (r.2.1 j).2.2.1 ∈ am_uw ∨ ∃ host, Cond.fieldLinkNest own idx (r.2.1 j).1 (r.2.1 j).2.1 (r.2.1 j).2.2.1 host ∈ lw_tbl)
def am_fin (ci j : Nat) : Bool := match vwCl[ci]? with
  | some r => (r.2.1 j).2.2.2
  | none => false
/-- a value fits a field's type -/
def am_fit (ty : FieldType) (v : am_AV) : Prop := match ty, v with
  | .int, .inl _ => True
  | .boolean, .inl x => x = 0 ∨ x = 1
  | .object _, .inr (.inr _) => True
  | .array _, .inr (.inr _) => True
  | _, _ => False
theorem am_fit_of {ty : FieldType} {v : am_AV} {ι : am_Nm → Option Nat} {w : Value} (h : am_fit ty v) (hv : am_V ι v w) : narrow ty w = w ∧ fits ty w = true := by
  match ty, v, h, hv with
  | .int, .inl x, _, hv => cases hv; exact ⟨rfl, rfl⟩
  | .boolean, .inl x, h, hv =>
    cases hv
    rcases h with rfl | rfl <;> exact ⟨by decide +kernel, by decide +kernel⟩
  | .object c, .inr (.inr none), _, hv => cases hv; exact ⟨rfl, rfl⟩
  | .object c, .inr (.inr (some x)), _, hv => obtain ⟨a, -, rfl⟩ := hv; exact ⟨rfl, rfl⟩
  | .array c, .inr (.inr none), _, hv => cases hv; exact ⟨rfl, rfl⟩
  | .array c, .inr (.inr (some x)), _, hv => obtain ⟨a, -, rfl⟩ := hv; exact ⟨rfl, rfl⟩
section AmHeap
variable {G : am_G} {X : am_X} {Y : am_Y} {d mc ms : Nat} {Q : State → Prop} {pc q t : Nat} {ls : List (Option am_AV)} {st : List am_AV} {h : am_AH} {k n : Nat}
theorem am_getf {nm : am_Nm} {idx ci j : Nat} {fs : List am_AV} {v : am_AV} (hd : am_d Y.1 pc (.getfield idx) 3 q) (hf : am_fl Y.2.2.1 idx ci j) (hh : h nm = some (am_O ci fs)) (hv : fs[j]? = some v) (kk : am_W G X Y d mc ms Q q ls (v :: st) h k n) : am_W G X Y d mc ms Q pc ls (am_R nm :: st) h k n := by
  obtain ⟨p, e, R, s, m, args, below, meth, c, ι0⟩ := X
  obtain ⟨hd, rfl⟩ := hd
  intro ok ι H lr sr lc hr hl ht
  obtain ⟨w, sr, rfl, ⟨a, ha, rfl⟩, ht1⟩ := am_T_1 ht
  have ok' := ok
  obtain ⟨hx, hb, -, hown, hts, -, -, -, -, -, -, -, -, -, hK⟩ := ok
  obtain ⟨hKa, -, hmv, -⟩ := id hK
  obtain ⟨a', ha', r, V, hr1, ⟨ce9, q1, q2, q3, q4⟩, hV⟩ := hr.1.1 nm _ hh
  cases ha.symm.trans ha'
  obtain ⟨r', hr1', hj, hlk⟩ := hf
  cases hr1.symm.trans hr1'
  obtain ⟨c1, c2, c3, c4⟩ := am_cls hr1
  obtain ⟨hS, hfc, kC, hkC, hkind⟩ := hKa.1 ci _ hr1
  obtain ⟨cf, kf, fi, f, hi, hsl⟩ := hS j hj
  have hst := (u_facts hfc hkC (u_lays hts c1 hj) hi).1
  have hv2 := hV j v hv
  have hslot : ce9.slots[f.slot]? = some (V j) := by rw [hsl, q4 j hj]
  have hkn : ce9.vm ≠ .unknown := by rw [q3]; exact fun z => by cases z
  rcases hlk with hlk | ⟨host, hlk⟩
  · exact W.getf hx hb hown (hts _ hlk) hi hst q1 hkn hslot rfl rfl hd (kk ok' ι H lr _ lc hr hl ⟨hv2, ht1⟩)
  · exact va_Wgetf hx hb hown (va_Nw.use rfl (hmv _ hlk rfl)) hi hst q1 hkn hslot rfl rfl hd (kk ok' ι H lr _ lc hr hl ⟨hv2, ht1⟩)
theorem am_scr_ne {ι : am_Nm → Option Nat} {H : Heap} {nm : am_Nm} {c : am_AC} {a : Nat} (hH : am_H G ι h H) (hh : h nm = some c) (ha : ι nm = some a) : am_free G a := by
  rcases hH.2.1 nm a ha with ⟨e, -⟩ | ⟨-, z, -⟩
  · rw [e] at hh; rw [hH.2.2.2.1] at hh; cases hh
  · exact z
theorem am_Rel_set {ι : am_Nm → Option Nat} {H H1 : Heap} {nm : am_Nm} {c c1 : am_AC} {a sl : Nat} {lc : List Loc} (hr : am_Rel G X ι h H lc) (hh : h nm = some c) (ha : ι nm = some a) (hz : H1.size = H.size) (ho : ∀ b, b ≠ a → H1[b]? = H[b]?) (hc : am_C G ι c1 a H1) : am_Rel G X ι (am_up h nm c1) H1 (lc ++ [⟨a, sl⟩]) := by
  obtain ⟨p, e, R, s, m, args, below, meth, c, ι0⟩ := X
  obtain ⟨r1, r2, r3, r4, r5⟩ := hr
  have hfr := am_scr_ne r1 hh ha
  refine ⟨am_H_set r1 hh ha hz ho hc, ⟨by rw [hz]; exact r2.1, fun x hx => ?_⟩, by rw [hz]; exact r3, fun z hz => ?_, r5⟩
  · rw [ho x (fun e => by subst e; exact absurd hx (Nat.not_lt.mpr hfr))]
    exact r2.2 x hx
  · rcases List.mem_append.mp hz with hz | hz
    · exact r4 z hz
    · rw [List.mem_singleton.mp hz]; exact hfr
theorem am_putf {nm : am_Nm} {idx ci j : Nat} {fs : List am_AV} {v : am_AV} (hd : am_d Y.1 pc (.putfield idx) 3 q) (hf : am_fl Y.2.2.1 idx ci j) (hfin : am_fin ci j = false) (hh : h nm = some (am_O ci fs)) (hj0 : j < fs.length) (hfit : am_fit (am_fty ci j) v) (kk : am_W G X Y d mc ms Q q ls st (am_up h nm (am_O ci (fs.set j v))) k n) : am_W G X Y d mc ms Q pc ls (v :: am_R nm :: st) h k n := by
  obtain ⟨p, e, R, s, m, args, below, meth, c, ι0⟩ := X
  obtain ⟨hd, rfl⟩ := hd
  intro ok ι H lr sr lc hr hl ht
  obtain ⟨w, sr, rfl, hw, ht1⟩ := am_T_1 ht
  obtain ⟨w2, sr, rfl, ⟨a, ha, rfl⟩, ht2⟩ := am_T_1 ht1
  have ok' := ok
  obtain ⟨hx, hb, -, hown, hts, -, -, -, -, -, -, -, -, -, hK⟩ := ok
  obtain ⟨hKa, -, hmv, -⟩ := id hK
  obtain ⟨a', ha', r, V, hr1, ⟨ce9, q1, q2, q3, q4⟩, hV⟩ := hr.1.1 nm _ hh
  cases ha.symm.trans ha'
  obtain ⟨r', hr1', hj, hlk⟩ := hf
  cases hr1.symm.trans hr1'
  obtain ⟨c1, c2, c3, c4⟩ := am_cls hr1
  have hap := va_apart (own := Y.2.2.1) hts c1 (am_fty ci) c2 c3 hKa hr1
  obtain ⟨hS, hfc, kC, hkC, hkind⟩ := hKa.1 ci _ hr1
  obtain ⟨cf, kf, fi, f, hi, hsl⟩ := hS j hj
  have hlay := hts _ (c1 _ (u_in_lay hj))
  have hfin2 : (r.2.1 j).2.2.2 = false := by simpa [am_fin, hr1] using hfin
  unfold u_lay at hlay
  rw [if_neg (by rw [hfin2]; decide)] at hlay
  have hst := (u_facts hfc hkC (u_lays hts c1 hj) hi).1
  obtain ⟨hn, hft⟩ := am_fit_of hfit hw
  have h6 := u_store hfc hkC hkind hlay hi (c2 j hj) hn hft
  have hlt : f.slot < ce9.slots.size := by rw [hsl]; exact k2_hasslot (q4 j hj)
  have key : ∀ H' : Heap, H'[a]? = some (ce9.setSlot f.slot w) → H'.size = H.size → (∀ q, q ≠ a → H'[q]? = H[q]?) → W p G.1 e R s m args below meth c H' (lc ++ [⟨a, f.slot⟩]) k n Q (F0 m (pc + 3) lr sr) := by
    intro H' e1 e2 e3
    refine kk ok' ι H' lr sr _ (am_Rel_set hr hh ha e2 e3 ?_) hl ht2
    rw [hsl] at e1
    refine ⟨r, updV V j w, hr1, ⟨_, e1, q2, q3, t_set q4 hap hj w⟩, fun i v' hi' => ?_⟩
    by_cases ei : i = j
    · subst ei
      rw [List.getElem?_set_self hj0] at hi'
      cases hi'
      simpa [updV] using hw
    · rw [List.getElem?_set_ne (Ne.symm ei)] at hi'
      simpa [updV, ei] using hV i v' hi'
  rcases hlk with hlk | ⟨host, hlk⟩
  · exact W.putK hx hb (f := f) ⟨hown, hts _ hlk, ⟨_, _, _, hi⟩, hst⟩ (by rw [q2]; exact h6) q1 q3 hlt rfl rfl hd key
  · exact va_WputK hx hb hown (va_Nw.use rfl (hmv _ hlk rfl)) hi hst (by rw [q2]; exact h6) q1 q3 hlt rfl rfl hd key
theorem am_putF {nm : am_Nm} {idx ci j : Nat} {fs : List am_AV} {v : am_AV} (hd : am_d Y.1 pc (.putfield idx) 3 q) (hf : am_fl Y.2.2.1 idx ci j) (hfin : am_fin ci j = true) (hinit : Y.2.2.2.2.1 = true) (hcl : (vwCl[ci]?).map (fun r => r.1) = some Y.2.2.1) (hh : h nm = some (am_O ci fs)) (hj0 : j < fs.length) (hfit : am_fit (am_fty ci j) v) (kk : am_W G X Y d mc ms Q q ls st (am_up h nm (am_O ci (fs.set j v))) k n) : am_W G X Y d mc ms Q pc ls (v :: am_R nm :: st) h k n := by
  obtain ⟨p, e, R, s, m, args, below, meth, c, ι0⟩ := X
  obtain ⟨hd, rfl⟩ := hd
  intro ok ι H lr sr lc hr hl ht
  obtain ⟨w, sr, rfl, hw, ht1⟩ := am_T_1 ht
  obtain ⟨w2, sr, rfl, ⟨a, ha, rfl⟩, ht2⟩ := am_T_1 ht1
  have ok' := ok
  obtain ⟨hx, hb, -, hown, hts, -, -, hnm, -, -, -, -, -, -, hK⟩ := ok
  obtain ⟨hKa, -, hmv, -⟩ := id hK
  obtain ⟨a', ha', r, V, hr1, ⟨ce9, q1, q2, q3, q4⟩, hV⟩ := hr.1.1 nm _ hh
  cases ha.symm.trans ha'
  obtain ⟨r', hr1', hj, hlk⟩ := hf
  cases hr1.symm.trans hr1'
  obtain ⟨c1, c2, c3, c4⟩ := am_cls hr1
  have hap := va_apart (own := Y.2.2.1) hts c1 (am_fty ci) c2 c3 hKa hr1
  obtain ⟨hS, hfc, kC, hkC, hkind⟩ := hKa.1 ci _ hr1
  obtain ⟨cf, kf, fi, f, hi, hsl⟩ := hS j hj
  have hlay := hts _ (c1 _ (u_in_lay hj))
  have hfin2 : (r.2.1 j).2.2.2 = true := by simpa [am_fin, hr1] using hfin
  have hdecl : (r.2.1 j).1 = Y.2.2.1 := by rw [c4 j hj]; simpa [hr1] using hcl
  unfold u_lay at hlay
  rw [if_pos hfin2] at hlay
  have hst := (u_facts hfc hkC (u_lays hts c1 hj) hi).1
  have hcf : m.cls = cf := by
    obtain ⟨_, _, c', _, _, _, -, -, hf', -, -, -, hown2, -⟩ := Cond.laysFinal_spec hlay
    have e1 : c' = cf := by have := hi.symm.trans hf'; simp at this; exact this.1.symm
    rw [hdecl] at hown2
    rw [← e1]; exact Option.some.inj (hown.symm.trans hown2)
  obtain ⟨hn, hft⟩ := am_fit_of hfit hw
  have h6 := u_fits hfc hkC hkind (Or.inr hlay) hi (c2 j hj) hn hft
  have hlt : f.slot < ce9.slots.size := by rw [hsl]; exact k2_hasslot (q4 j hj)
  have key : ∀ H' : Heap, H'[a]? = some (ce9.setSlot f.slot w) → H'.size = H.size → (∀ q, q ≠ a → H'[q]? = H[q]?) → W p G.1 e R s m args below meth c H' (lc ++ [⟨a, f.slot⟩]) k n Q (F0 m (pc + 3) lr sr) := by
    intro H' e1 e2 e3
    refine kk ok' ι H' lr sr _ (am_Rel_set hr hh ha e2 e3 ?_) hl ht2
    rw [hsl] at e1
    refine ⟨r, updV V j w, hr1, ⟨_, e1, q2, q3, t_set q4 hap hj w⟩, fun i v' hi' => ?_⟩
    by_cases ei : i = j
    · subst ei
      rw [List.getElem?_set_self hj0] at hi'
      cases hi'
      simpa [updV] using hw
    · rw [List.getElem?_set_ne (Ne.symm ei)] at hi'
      simpa [updV, ei] using hV i v' hi'
  rcases hlk with hlk | ⟨host, hlk⟩
  · exact W.putFinK hx hb hown (hts _ hlk) hi hst hcf (hnm hinit) (by rw [q2]; exact h6) q1 q3 hlt rfl rfl hd key
  · exact va_Wputf hx hb hown (va_Nw.use rfl (hmv _ hlk rfl)) hi hst (Or.inr ⟨hcf, hnm hinit⟩) q1 (by rw [q3]; exact fun z => by cases z) hlt h6.1 (by rw [q2, q3]; exact h6.2) rfl rfl hd (key _ (by simp [Array.getElem?_setIfInBounds, (Array.getElem?_eq_some_iff.mp q1).1]) (by simp) (fun b hb => by simp [Array.getElem?_setIfInBounds, Ne.symm hb]))
theorem am_iald {nm : am_Nm} {len : Nat} {f : Nat → am_AV} {i x : Int} (hd : am_d Y.1 pc .iaload 1 q) (hh : h nm = some (am_A 0 len f)) (h0 : 0 ≤ i) (h1 : i < len) (hz : len < 2147483648) (hv : f i.toNat = am_I x) (kk : am_W G X Y d mc ms Q q ls (am_I x :: st) h k n) : am_W G X Y d mc ms Q pc ls (am_I i :: am_R nm :: st) h k n := by
  obtain ⟨p, e, R, s, m, args, below, meth, c, ι0⟩ := X
  obtain ⟨hd, rfl⟩ := hd
  intro ok ι H lr sr lc hr hl ht
  obtain ⟨w, sr, rfl, hw, ht1⟩ := am_T_1 ht
  cases hw
  obtain ⟨w2, sr, rfl, ⟨a, ha, rfl⟩, ht2⟩ := am_T_1 ht1
  obtain ⟨a', ha', wv, q1, q2⟩ := hr.1.1 nm _ hh
  cases ha.symm.trans ha'
  obtain ⟨b1, b2⟩ := am_idx h0 h1 hz
  have hy := q2 i.toNat (by omega)
  rw [hv] at hy
  refine W.iald ok.1 ok.2.1 q1 ((ok.2.2.2.2.2.2.2.2.2.2.2.2.2.2.1.2 0 _ (am_tys_at G 0 (by decide))).1 len wv) (fun z => by cases z) (by rw [arrV_size]; exact b1) (v := wv i.toNat) (by rw [b2]; exact arrV_read _ _ (by omega)) rfl rfl hd ?_
  exact kk ok ι H lr _ lc hr hl ⟨hy, ht2⟩
theorem am_bald {nm : am_Nm} {len : Nat} {f : Nat → am_AV} {i x : Int} (hd : am_d Y.1 pc .baload 1 q) (hh : h nm = some (am_A 1 len f)) (h0 : 0 ≤ i) (h1 : i < len) (hz : len < 2147483648) (hv : f i.toNat = am_I x) (kk : am_W G X Y d mc ms Q q ls (am_I x :: st) h k n) : am_W G X Y d mc ms Q pc ls (am_I i :: am_R nm :: st) h k n := by
  obtain ⟨p, e, R, s, m, args, below, meth, c, ι0⟩ := X
  obtain ⟨hd, rfl⟩ := hd
  intro ok ι H lr sr lc hr hl ht
  obtain ⟨w, sr, rfl, hw, ht1⟩ := am_T_1 ht
  cases hw
  obtain ⟨w2, sr, rfl, ⟨a, ha, rfl⟩, ht2⟩ := am_T_1 ht1
  obtain ⟨a', ha', wv, q1, q2⟩ := hr.1.1 nm _ hh
  cases ha.symm.trans ha'
  obtain ⟨b1, b2⟩ := am_idx h0 h1 hz
  have hy := q2 i.toNat (by omega)
  rw [hv] at hy
  refine W.zald ok.1 ok.2.1 q1 ((ok.2.2.2.2.2.2.2.2.2.2.2.2.2.2.1.2 1 _ (am_tys_at G 1 (by decide))).1 len wv) (fun z => by cases z) (by rw [arrV_size]; exact b1) (v := wv i.toNat) (by rw [b2]; exact arrV_read _ _ (by omega)) rfl rfl hd ?_
  exact kk ok ι H lr _ lc hr hl ⟨hy, ht2⟩
theorem am_ty_ref {kd : Nat} (h3 : 3 ≤ kd) (h8 : kd < 8) : (am_ty kd).isReference = true := by
  rcases (show kd = 3 ∨ kd = 4 ∨ kd = 5 ∨ kd = 6 ∨ kd = 7 by omega) with rfl | rfl | rfl | rfl | rfl <;> rfl
theorem am_aald {nm : am_Nm} {kd len : Nat} {f : Nat → am_AV} {i : Int} {x : am_AV} (hd : am_d Y.1 pc .aaload 1 q) (hh : h nm = some (am_A kd len f)) (hk3 : 3 ≤ kd) (hk8 : kd < 8) (h0 : 0 ≤ i) (h1 : i < len) (hz : len < 2147483648) (hv : f i.toNat = x) (kk : am_W G X Y d mc ms Q q ls (x :: st) h k n) : am_W G X Y d mc ms Q pc ls (am_I i :: am_R nm :: st) h k n := by
  obtain ⟨p, e, R, s, m, args, below, meth, c, ι0⟩ := X
  obtain ⟨hd, rfl⟩ := hd
  intro ok ι H lr sr lc hr hl ht
  obtain ⟨w, sr, rfl, hw, ht1⟩ := am_T_1 ht
  cases hw
  obtain ⟨w2, sr, rfl, ⟨a, ha, rfl⟩, ht2⟩ := am_T_1 ht1
  obtain ⟨a', ha', wv, q1, q2⟩ := hr.1.1 nm _ hh
  cases ha.symm.trans ha'
  obtain ⟨b1, b2⟩ := am_idx h0 h1 hz
  have hy := q2 i.toNat (by omega)
  rw [hv] at hy
  refine W.aald ok.1 ok.2.1 q1 ((ok.2.2.2.2.2.2.2.2.2.2.2.2.2.2.1.2 kd _ (am_tys_at G kd hk8)).1 len wv) (am_ty_ref hk3 hk8) (fun z => by cases z) (by rw [arrV_size]; exact b1) (v := wv i.toNat) (by rw [b2]; exact arrV_read _ _ (by omega)) rfl rfl hd ?_
  exact kk ok ι H lr _ lc hr hl ⟨hy, ht2⟩
theorem am_C_uf {ι : am_Nm → Option Nat} {kd len i a : Nat} {f : Nat → am_AV} {wv : Nat → Value} {v : am_AV} {w : Value} {H1 : Heap} (e1 : H1[a]? = some (arrV (G.2.2.2.2.1 kd) len (updV wv i w))) (hq : ∀ j, j < len → am_V ι (f j) (wv j)) (hv : am_V ι v w) : am_C G ι (am_A kd len (am_uf f i v)) a H1 := by
  refine ⟨_, e1, fun j hj => ?_⟩
  by_cases ej : j = i
  · simpa [am_uf, updV, ej] using hv
  · simpa [am_uf, updV, ej] using hq j hj
theorem am_iast {nm : am_Nm} {len : Nat} {f : Nat → am_AV} {i x : Int} (hd : am_d Y.1 pc .iastore 1 q) (hh : h nm = some (am_A 0 len f)) (h0 : 0 ≤ i) (h1 : i < len) (hz : len < 2147483648) (kk : am_W G X Y d mc ms Q q ls st (am_up h nm (am_A 0 len (am_uf f i.toNat (am_I x)))) k n) : am_W G X Y d mc ms Q pc ls (am_I x :: am_I i :: am_R nm :: st) h k n := by
  obtain ⟨p, e, R, s, m, args, below, meth, c, ι0⟩ := X
  obtain ⟨hd, rfl⟩ := hd
  intro ok ι H lr sr lc hr hl ht
  obtain ⟨w, sr, rfl, hw, ht1⟩ := am_T_1 ht
  cases hw
  obtain ⟨w1, sr, rfl, hw1, ht2⟩ := am_T_1 ht1
  cases hw1
  obtain ⟨w2, sr, rfl, ⟨a, ha, rfl⟩, ht3⟩ := am_T_1 ht2
  obtain ⟨a', ha', wv, q1, q2⟩ := hr.1.1 nm _ hh
  cases ha.symm.trans ha'
  obtain ⟨b1, b2⟩ := am_idx h0 h1 hz
  refine W.iast ok.1 ok.2.1 q1 ((ok.2.2.2.2.2.2.2.2.2.2.2.2.2.2.1.2 0 _ (am_tys_at G 0 (by decide))).1 len wv) (fun z => by cases z) (by rw [arrV_size]; exact b1) rfl rfl hd fun H' e1 e2 e3 => ?_
  rw [b2, arrV_store] at e1
  rw [b2]
  exact kk ok ι H' lr sr _ (am_Rel_set hr hh ha e2 e3 (am_C_uf e1 q2 rfl)) hl ht3
theorem am_bast {nm : am_Nm} {len : Nat} {f : Nat → am_AV} {i x : Int} (hd : am_d Y.1 pc .bastore 1 q) (hh : h nm = some (am_A 1 len f)) (h0 : 0 ≤ i) (h1 : i < len) (hz : len < 2147483648) (hx : x = 0 ∨ x = 1) (kk : am_W G X Y d mc ms Q q ls st (am_up h nm (am_A 1 len (am_uf f i.toNat (am_I x)))) k n) : am_W G X Y d mc ms Q pc ls (am_I x :: am_I i :: am_R nm :: st) h k n := by
  obtain ⟨p, e, R, s, m, args, below, meth, c, ι0⟩ := X
  obtain ⟨hd, rfl⟩ := hd
  intro ok ι H lr sr lc hr hl ht
  obtain ⟨w, sr, rfl, hw, ht1⟩ := am_T_1 ht
  cases hw
  obtain ⟨w1, sr, rfl, hw1, ht2⟩ := am_T_1 ht1
  cases hw1
  obtain ⟨w2, sr, rfl, ⟨a, ha, rfl⟩, ht3⟩ := am_T_1 ht2
  obtain ⟨a', ha', wv, q1, q2⟩ := hr.1.1 nm _ hh
  cases ha.symm.trans ha'
  obtain ⟨b1, b2⟩ := am_idx h0 h1 hz
  have hn : narrow .boolean (.int (Int32.ofInt x)) = .int (Int32.ofInt x) := by rcases hx with rfl | rfl <;> decide +kernel
  refine W.zast ok.1 ok.2.1 q1 ((ok.2.2.2.2.2.2.2.2.2.2.2.2.2.2.1.2 1 _ (am_tys_at G 1 (by decide))).1 len wv) (fun z => by cases z) (by rw [arrV_size]; exact b1) rfl rfl hd fun H' e1 e2 e3 => ?_
  rw [b2, arrV_store, hn] at e1
  rw [b2]
  exact kk ok ι H' lr sr _ (am_Rel_set hr hh ha e2 e3 (am_C_uf e1 q2 rfl)) hl ht3
/-- the class of a kind of array's elements -/
def am_el (kd : Nat) : Nat := match kd with
  | 3 => 7 | 4 => 5 | 5 => 1 | 6 => 4 | _ => 2
theorem am_aast {nm y : am_Nm} {kd len : Nat} {f : Nat → am_AV} {fs : List am_AV} {i : Int} (hd : am_d Y.1 pc .aastore 1 q) (hh : h nm = some (am_A kd len f)) (hk3 : 3 ≤ kd) (hk8 : kd < 8) (h0 : 0 ≤ i) (h1 : i < len) (hz : len < 2147483648) (hy : h y = some (am_O (am_el kd) fs)) (kk : am_W G X Y d mc ms Q q ls st (am_up h nm (am_A kd len (am_uf f i.toNat (am_R y)))) k n) : am_W G X Y d mc ms Q pc ls (am_R y :: am_I i :: am_R nm :: st) h k n := by
  obtain ⟨p, e, R, s, m, args, below, meth, c, ι0⟩ := X
  obtain ⟨hd, rfl⟩ := hd
  intro ok ι H lr sr lc hr hl ht
  obtain ⟨w, sr, rfl, ⟨ay, hay, rfl⟩, ht1⟩ := am_T_1 ht
  obtain ⟨w1, sr, rfl, hw1, ht2⟩ := am_T_1 ht1
  cases hw1
  obtain ⟨w2, sr, rfl, ⟨a, ha, rfl⟩, ht3⟩ := am_T_1 ht2
  obtain ⟨a', ha', wv, q1, q2⟩ := hr.1.1 nm _ hh
  cases ha.symm.trans ha'
  obtain ⟨ay', hay', r, V, hr1, ⟨ceV, g1, g2, g3, -⟩, -⟩ := hr.1.1 y _ hy
  cases hay.symm.trans hay'
  obtain ⟨b1, b2⟩ := am_idx h0 h1 hz
  have hKa : va_K (G.2.2.1, G.2.2.2.1) vwCl (am_tys G) s := ok.2.2.2.2.2.2.2.2.2.2.2.2.2.2.1
  have hcls := (hKa.1 _ r hr1).2
  have hra : va_RA s (G.2.2.2.2.1 kd) (.object r.1) := by
    have h2 := (hKa.2 kd _ (am_tys_at G kd hk8)).2
    rcases (show kd = 3 ∨ kd = 4 ∨ kd = 5 ∨ kd = 6 ∨ kd = 7 by omega) with rfl | rfl | rfl | rfl | rfl <;> (cases hr1; exact h2)
  obtain ⟨kA, comp, k1, k2, k3, -⟩ := hra
  have hcomp : comp = G.2.2.1 (am_el kd) := Option.some.inj (k3.symm.trans hcls.1)
  subst hcomp
  obtain ⟨kC, hkC, -⟩ := id hcls.2
  refine W.aast ok.1 ok.2.1 q1 (fun q h => by cases h) (fun h => by cases h) k1 k2 rfl hkC ⟨fun z => b1 (Or.inl z), by rw [arrV_size, b2]; omega⟩ g1 (fun q h => by rw [g3] at h; cases h) (by rw [g2]; exact hkC) (by rw [g2]; exact va_assign hcls) rfl rfl hd fun H' e1 e2 e3 => ?_
  rw [b2, arrV_store] at e1
  rw [b2]
  exact kk ok ι H' lr sr _ (am_Rel_set hr hh ha e2 e3 (am_C_uf e1 q2 ⟨ay, hay, rfl⟩)) hl ht3
theorem am_Rel_new {ι : am_Nm → Option Nat} {H H1 : Heap} {nm : am_Nm} {c1 : am_AC} {lc : List Loc} (hG : G.2.2.2.2.2.1 < G.2.1.size) (hr : am_Rel G X ι h H lc) (hn : h nm = none) (hs : nm ≠ am_scr) (hz : H1.size = H.size + 1) (ho : ∀ b, b < H.size → H1[b]? = H[b]?) (hc : ∀ κ : am_Nm → Option Nat, am_le ι κ → κ nm = some H.size → am_C G κ c1 H.size H1) : ∃ κ : am_Nm → Option Nat, am_le ι κ ∧ κ nm = some H.size ∧ am_Rel G X κ (am_up h nm c1) H1 lc := by
  obtain ⟨p, e, R, s, m, args, below, meth, c, ι0⟩ := X
  obtain ⟨r1, r2, r3, r4, r5⟩ := hr
  obtain ⟨κ, k1, k2, k3⟩ := am_H_new r1 r2 hG hn hs hz ho hc
  exact ⟨κ, k1, k2, k3, ⟨by have := r2.1; omega, fun x hx => (ho x (Nat.lt_of_lt_of_le hx r2.1)).trans (r2.2 x hx)⟩, by omega, r4, am_le_tr r5 k1⟩
/-- a field's first value -/
def am_df (t : FieldType) : am_AV := match t with
  | .object _ => am_N
  | .array _ => am_N
  | _ => am_I 0
def am_dfs (ci N : Nat) : List am_AV := (List.range N).map fun j => am_df (am_fty ci j)
def am_okt (t : FieldType) : Bool := match t with
  | .int => true
  | .boolean => true
  | .object _ => true
  | .array _ => true
  | _ => false
theorem am_df_of {ι : am_Nm → Option Nat} {t : FieldType} (h : am_okt t = true) : am_V ι (am_df t) (defaultValue t) := by
  cases t <;> first | rfl | (exact absurd h (by decide))
theorem am_okts {ci : Nat} {r : vw_C} (h : vwCl[ci]? = some r) : ∀ j, j < r.2.2 → am_okt (am_fty ci j) = true := by
  match ci, h with
  | 0, h => cases h; decide +kernel
  | 1, h => cases h; decide +kernel
  | 2, h => cases h; decide +kernel
  | 3, h => cases h; decide +kernel
  | 4, h => cases h; decide +kernel
  | 5, h => cases h; decide +kernel
  | 6, h => cases h; decide +kernel
  | 7, h => cases h; decide +kernel
  | 8, h => cases h; decide +kernel
  | ci + 9, h => simp [vwCl] at h
/-- a class's link, for 'new' -/
def am_cl (own : String) (idx ci N : Nat) : Prop := ∃ r, vwCl[ci]? = some r ∧ r.2.2 = N ∧ Cond.classLink own idx r.1 ∈ am_uw ∧ Cond.instantiable r.1 N ∈ am_uw ∧ Cond.initialized r.1 ∈ am_uw
theorem am_new {idx ci N : Nat} (nm : am_Nm) (hd : am_d Y.1 pc (.new idx) 3 q) (hf : am_cl Y.2.2.1 idx ci N) (hn : h nm = none) (hs : nm ≠ am_scr) (hk : k + 1 ≤ mc) (hms : n + N ≤ ms) (kk : am_W G X Y d mc ms Q q ls (am_R nm :: st) (am_up h nm (am_O ci (am_dfs ci N))) (k + 1) (n + N)) : am_W G X Y d mc ms Q pc ls st h k n := by
  obtain ⟨p, e, R, s, m, args, below, meth, c, ι0⟩ := X
  obtain ⟨hd, rfl⟩ := hd
  intro ok ι H lr sr lc hr hl ht
  have ok' := ok
  obtain ⟨hx, hb, -, hown, hts, -, -, -, -, -, -, hRc, hRs, -, hK⟩ := ok
  obtain ⟨r, hr1, rfl, w1, w2, w3⟩ := hf
  obtain ⟨c1, c2, c3, c4⟩ := am_cls hr1
  have hKn := hK.1.1 ci _ hr1
  refine W.newcK hx hb hown (hts _ w1) (hts _ w2) (hts _ w3) rfl hd (by rw [hRc]; exact hk) (by rw [hRs]; exact hms) hKn.2.1 rfl fun H1 kC hkC e1 z1 o1 => ?_
  have hob := u_born (am_fty ci) hts c1 hKn hkC e1 c2
  obtain ⟨κ, k1, k2, k3⟩ := am_Rel_new (c1 := am_O ci (am_dfs ci r.2.2)) hK.2.2.2.2.2.2.2.1 hr hn hs z1 o1 (fun κ _ _ => ⟨r, _, hr1, hob, fun j v hj => by
    have hlt : j < r.2.2 := by
      have := (List.getElem?_eq_some_iff.mp hj).1
      simpa [am_dfs] using this
    simp only [am_dfs, List.getElem?_map, List.getElem?_range hlt, Option.map_some, Option.some.injEq] at hj
    subst hj
    exact am_df_of (am_okts hr1 j hlt)⟩)
  exact kk ok' κ H1 lr _ lc k3 (am_L_le k1 hl) ⟨⟨H.size, k2, rfl⟩, am_T_le k1 ht⟩
/-- new arrays of numbers -/
theorem am_newa {at9 : ArrayType} {kd : Nat} {len : Int} (nm : am_Nm) (hd : am_d Y.1 pc (.newarray at9) 2 q) (hty : newarray.typeOf at9 = am_ty kd) (hw : Cond.arrayClass (am_ty kd) ∈ am_uw) (hkd : kd < 2) (h0 : 0 ≤ len) (h1 : len ≤ 10000) (hn : h nm = none) (hs : nm ≠ am_scr) (hk : k + 1 ≤ mc) (hms : n + len.toNat ≤ ms) (kk : am_W G X Y d mc ms Q q ls (am_R nm :: st) (am_up h nm (am_A kd len.toNat (fun _ => if kd = 2 then am_J 0 else am_I 0))) (k + 1) (n + len.toNat)) : am_W G X Y d mc ms Q pc ls (am_I len :: st) h k n := by
  obtain ⟨p, e, R, s, m, args, below, meth, c, ι0⟩ := X
  obtain ⟨hd, rfl⟩ := hd
  intro ok ι H lr sr lc hr hl ht
  obtain ⟨w, sr, rfl, hw1, ht1⟩ := am_T_1 ht
  cases hw1
  have ok' := ok
  obtain ⟨hx, hb, -, hown, hts, -, -, -, -, -, -, hRc, hRs, -, hK⟩ := ok
  have hrl : am_r len := ⟨by omega, by omega⟩
  have hc : (Int32.ofInt len).toNatClampNeg = len.toNat := by show (Int32.ofInt len).toInt.toNat = len.toNat; rw [am_toInt hrl]
  have hneg : ¬ Int32.ofInt len < 0 := by rw [am_z, am_lt hrl am_r0]; omega
  refine va_newaK hx hb (by rw [hty]; exact hts _ hw) rfl hd rfl hneg hc ?_ (by rw [hRc]; exact hk) (by rw [hRs]; exact hms) rfl fun H1 cA e1 z1 o1 hAr hNm => ?_
  · rw [hty]
    rcases (show kd = 0 ∨ kd = 1 by omega) with rfl | rfl
    · show len.toNat * 4 ≤ _; omega
    · show len.toNat * 1 ≤ _; omega
  have hcA : cA = G.2.2.2.2.1 kd := by
    have h2 := (hK.1.2 kd _ (am_tys_at G kd (by omega))).2
    rw [hty] at hNm
    rcases (show kd = 0 ∨ kd = 1 by omega) with rfl | rfl <;> exact Option.some.inj (hNm.symm.trans h2)
  subst hcA
  obtain ⟨κ, k1, k2, k3⟩ := am_Rel_new (c1 := am_A kd len.toNat (fun _ => if kd = 2 then am_J 0 else am_I 0)) hK.2.2.2.2.2.2.2.1 hr hn hs z1 o1 (fun κ _ _ => ⟨_, e1, fun j _ => by
    rw [hty]
    rcases (show kd = 0 ∨ kd = 1 by omega) with rfl | rfl <;> rfl⟩)
  exact kk ok' κ H1 lr _ lc k3 (am_L_le k1 hl) ⟨⟨H.size, k2, rfl⟩, am_T_le k1 ht1⟩
/-- new arrays of references -/
theorem am_anewa {idx kd : Nat} {C : String} {len : Int} (nm : am_Nm) (hd : am_d Y.1 pc (.anewarray idx) 3 q) (hty : am_ty kd = .object C) (hw : Cond.classLink Y.2.2.1 idx C ∈ am_uw) (hov : Cond.arrayOver (.object C) ∈ lw_tbl) (hkd : kd < 8) (h0 : 0 ≤ len) (h1 : len ≤ 10000) (hn : h nm = none) (hs : nm ≠ am_scr) (hk : k + 1 ≤ mc) (hms : n + len.toNat ≤ ms) (kk : am_W G X Y d mc ms Q q ls (am_R nm :: st) (am_up h nm (am_A kd len.toNat (fun _ => am_N))) (k + 1) (n + len.toNat)) : am_W G X Y d mc ms Q pc ls (am_I len :: st) h k n := by
  obtain ⟨p, e, R, s, m, args, below, meth, c, ι0⟩ := X
  obtain ⟨hd, rfl⟩ := hd
  intro ok ι H lr sr lc hr hl ht
  obtain ⟨w, sr, rfl, hw1, ht1⟩ := am_T_1 ht
  cases hw1
  have ok' := ok
  obtain ⟨hx, hb, -, hown, hts, -, -, -, -, -, -, hRc, hRs, -, hK⟩ := ok
  have hrl : am_r len := ⟨by omega, by omega⟩
  have hc : (Int32.ofInt len).toNatClampNeg = len.toNat := by show (Int32.ofInt len).toInt.toNat = len.toNat; rw [am_toInt hrl]
  have hneg : ¬ Int32.ofInt len < 0 := by rw [am_z, am_lt hrl am_r0]; omega
  refine W.anew hx hb hown (hts _ hw) (hK.2.2.2.2.1 C hov).use rfl hd rfl hneg (by rw [hc]; omega) (by rw [hRc]; exact hk) (by rw [hRs, hc]; exact hms) fun cA kA comp g1 g2 g3 g4 => ?_
  have hcA : cA = G.2.2.2.2.1 kd := by
    have h2 := (hK.1.2 kd _ (am_tys_at G kd hkd)).2
    rw [hty] at h2
    obtain ⟨kA', comp', x1, x2, x3, x4⟩ := h2
    exact Option.some.inj (g1.symm.trans x4)
  subst hcA
  rw [hc]
  obtain ⟨κ, k1, k2, k3⟩ := am_Rel_new (c1 := am_A kd len.toNat (fun _ => am_N)) (H1 := H.push { cls := G.2.2.2.2.1 kd, slots := Array.replicate len.toNat .null, vm := .none }) hK.2.2.2.2.2.2.2.1 hr hn hs (by simp) (fun b hb => by simp [Array.getElem?_push, Nat.ne_of_lt hb]) (fun κ _ _ => ⟨fun _ => .null, by
    rw [← arrV_new]; simp, fun j _ => rfl⟩)
  exact kk ok' κ _ lr _ lc k3 (am_L_le k1 hl) ⟨⟨H.size, k2, rfl⟩, am_T_le k1 ht1⟩
end AmHeap

