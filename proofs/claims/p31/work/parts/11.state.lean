/-! THE STATE: a function of field and place; fields 0 to 42 are the model's, in the order of its slots; from 49 on what the class has beside -/
abbrev sg_S : Type := Nat → Nat → Int
def st (σ : sg_S) (f i : Nat) (v : Int) : sg_S := fun g j => if g = f ∧ j = i then v else σ g j
/-- a truth value as an int -/
def bz (b : Bool) : Int := if b then 1 else 0
theorem bz_01 (b : Bool) : bz b = 0 ∨ bz b = 1 := by cases b <;> simp [bz]
theorem bz_r (b : Bool) : am_r (bz b) := by cases b <;> exact ⟨by decide, by decide⟩
theorem bz_0 {P : Prop} [Decidable P] : bz (decide P) = 0 ↔ ¬ P := by by_cases h : P <;> simp [bz, h]
theorem bz_1 {P : Prop} [Decidable P] (h : P) : bz (decide P) = 1 := by simp [bz, h]
theorem bz_2 {P : Prop} [Decidable P] (h : ¬ P) : bz (decide P) = 0 := by simp [bz, h]
theorem st_eq {σ : sg_S} {f i : Nat} {v : Int} : st σ f i v f i = v := by simp [st]
theorem st_nf {σ : sg_S} {f i g j : Nat} {v : Int} (h : g ≠ f) : st σ f i v g j = σ g j := by simp [st, h]
theorem st_ni {σ : sg_S} {f i g j : Nat} {v : Int} (h : j ≠ i) : st σ f i v g j = σ g j := by simp [st, h]
/-- the first n of a row, 0 behind -/
def tr (n : Nat) (F : Nat → Int) : Nat → Int := fun z => if z < n then F z else 0
theorem tr_at {n z : Nat} {F : Nat → Int} (h : z < n) : tr n F z = F z := by simp [tr, h]
/-- the class's cells -/
def en_x (x : sg_S) (k i : Nat) : Option am_AC := match k with
  | 8 => if i = 0 then some (am_O 8 [am_R (200, 0), am_R (201, 0), am_I (x 3 0), am_I (x 2 0), am_I (x 1 0), am_I (x 11 0), am_R (202, 0), am_R (203, 0), am_I (x 24 0), am_R (204, 0), am_R (6, 1), am_R (6, 0), am_R (205, 0), am_I (x 39 0)]) else none
  | 200 => if i = 0 then some (am_A 3 12 (fun t => if (t : Int) < x 3 0 then am_R (7, t) else am_N)) else none
  | 201 => if i = 0 then some (am_A 4 12 (fun s => if (s : Int) + 1 < x 3 0 then am_R (5, s) else am_N)) else none
  | 202 => if i = 0 then some (am_A 5 3 (fun b => am_R (1, b))) else none
  | 203 => if i = 0 then some (am_A 0 12 (fun z => am_I (x 25 z))) else none
  | 204 => if i = 0 then some (am_A 0 27 (fun z => am_I (x 50 z))) else none
  | 205 => if i = 0 then some (am_A 6 6 (fun z => if (z : Int) < x 39 0 then am_R (4, z) else am_N)) else none
  | 7 => if (i : Int) < x 3 0 then some (am_O 7 [am_I (x 4 i), am_I (x 6 i), am_R (0, 2 * i + 1), am_R (0, 2 * i)]) else none
  | 0 => if ((i / 2 : Nat) : Int) < x 3 0 then some (am_O 0 [am_R (210, i), am_I (x 12 i), am_I (x 13 i), am_I (if x 16 i = 0 then x 15 i else -1), am_R (3, i)]) else none
  | 210 => if ((i / 2 : Nat) : Int) < x 3 0 then some (am_A 0 200 (fun z => am_I (tr 200 (fun z => x 14 (220 * i + z)) z))) else none
  | 3 => if ((i / 2 : Nat) : Int) < x 3 0 then some (am_O 3 [am_R (211, i), am_R (212, i), am_R (213, i), am_I (x 17 i)]) else none
  | 211 => if ((i / 2 : Nat) : Int) < x 3 0 then some (am_A 0 300 (fun z => am_I (tr 300 (fun z => x 18 (300 * i + z)) z))) else none
  | 212 => if ((i / 2 : Nat) : Int) < x 3 0 then some (am_A 0 300 (fun z => am_I (tr 300 (fun z => x 19 (300 * i + z)) z))) else none
  | 213 => if ((i / 2 : Nat) : Int) < x 3 0 then some (am_A 1 300 (fun z => am_I (tr 300 (fun z => x 20 (300 * i + z)) z))) else none
  | 5 => if (i : Int) + 1 < x 3 0 then some (am_O 5 [am_I (x 5 (i + 1)), am_R (214, i), am_R (215, i), am_I (x 8 i), am_I (x 7 i)]) else none
  | 214 => if (i : Int) + 1 < x 3 0 then some (am_A 0 3 (fun z => am_I (tr 3 (fun z => x 9 (3 * i + z)) z))) else none
  | 215 => if (i : Int) + 1 < x 3 0 then some (am_A 0 3 (fun z => am_I (tr 3 (fun z => x 10 (3 * i + z)) z))) else none
  | 1 => if i < 3 then some (am_O 1 [am_R (216, i), am_R (217, i), am_I (x 21 i)]) else none
  | 216 => if i < 3 then some (am_A 0 200 (fun z => am_I (tr 200 (fun z => x 22 (200 * i + z)) z))) else none
  | 217 => if i < 3 then some (am_A 0 200 (fun z => am_I (tr 200 (fun z => x 23 (200 * i + z)) z))) else none
  | 6 => if i < 2 then some (am_O 6 [am_R (218, i), am_I (x 33 i), (if x 28 i ≤ 0 then am_N else am_R (2, (x 56 (40 * i + ((x 28 i).toNat - 1))).toNat)), am_I (x 28 i), am_I (x 27 i)]) else none
  | 218 => if i < 2 then some (am_A 7 40 (fun z => if (z : Int) < x 33 i then am_R (2, (x 57 (40 * i + z)).toNat) else am_N)) else none
  | 2 => if (i : Int) < x 51 0 then some (am_O 2 [am_I (x 60 i), am_I (x 61 i), am_I (x 62 i), am_R (219, i), am_I (x 63 i), (if x 64 i < 0 then am_N else am_R (2, (x 64 i).toNat))]) else none
  | 219 => if (i : Int) < x 51 0 then some (am_A 0 60 (fun z => am_I (tr 60 (fun z => x 65 (60 * i + z)) z))) else none
  | 4 => if (i : Int) < x 39 0 then some (am_O 4 [am_I (x 40 i), am_R (220, i), am_I (x 41 i)]) else none
  | 220 => if (i : Int) < x 39 0 then some (am_A 0 200 (fun z => am_I (tr 200 (fun z => x 42 (200 * i + z)) z))) else none
  | 221 => if (i : Int) < x 52 0 then some (am_A 0 12 (fun z => am_I (if (z : Int) = x 53 i then x 54 i else 0))) else none
  | 222 => if (i : Int) < x 52 0 then some (am_A 1 12 (fun _ => am_I 0)) else none
  | _ => none
/-- the whole heap: the law has three rows, m 0 0 of them so far, at m 1, m 2, m 3; the class at x -/
def en_h (m x : sg_S) : am_AH := fun n =>
  if n.1 = 9 then (if (n.2 : Int) < m 0 0 then some (am_A 0 40 (fun z => am_I (m (1 + n.2) z))) else none)
  else if n.1 = 98 then (if n.2 = 0 ∧ x 49 0 ≠ x 49 0 then some (am_A 0 1 (fun _ => am_I (x 49 0))) else none)
  else if 100 ≤ n.1 ∧ n.1 < 143 then none
  else en_x x n.1 n.2
theorem am_uf_I {F : Nat → Int} {j : Nat} {v : Int} : am_uf (fun z => am_I (F z)) j (am_I v) = fun z => am_I (if z = j then v else F z) := by
  funext z
  by_cases h : z = j <;> simp [am_uf, h]
/-- what comes back from a call: a value, and a heap; nothing, and a heap; one of two -/
def am_is (v : am_AV) (h1 : am_AH) : am_Re → am_AH → Prop := fun r h' => r = .inl (some v) ∧ h' = h1
def am_vd (h1 : am_AH) : am_Re → am_AH → Prop := fun r h' => r = .inl none ∧ h' = h1
def am_if (P : Prop) (v : am_AV) (h1 : am_AH) (e : Nat) (h2 : am_AH) : am_Re → am_AH → Prop := fun r h' => (P ∧ r = .inl (some v) ∧ h' = h1) ∨ (¬ P ∧ r = .inr e ∧ h' = h2)
section MdRules
variable {G : am_G} {X : am_X} {Y : am_Y} {d mc ms : Nat} {Q : State → Prop} {pc q t : Nat} {ls : List (Option am_AV)} {st9 : List am_AV} {m x : sg_S} {k n : Nat}
end MdRules
section CallRules
variable {G : am_G} {X : am_X} {Y : am_Y} {d mc ms : Nat} {Qs : State → Prop} {pc q t : Nat} {ls : List (Option am_AV)} {st : List am_AV} {h h1 : am_AH} {k n : Nat}
variable {idx ci na d' nL' : Nat} {y : MethodName} {bytes : ByteArray} {ret : Option FieldType} {as fs st0 : List am_AV} {nm : am_Nm} {v : am_AV}
/-- calls that make nothing and don't throw: with a value, without -/
theorem am_cS (hd : am_d Y.1 pc (.invokestatic idx) 3 q) (hw : am_ms_ Y.2.2.1 idx y na (.code y bytes nL' ret)) (hC : am_Con G y (.code y bytes nL' ret) d' 0 0 as h (am_is v h1)) (hst0 : st0 = as.reverse ++ st) (hna : as.length = na) (hdd : d' + 1 ≤ d) (hnL : nL' ≤ 17) (hst : st.length ≤ 4) (hk : k ≤ mc) (hn : n ≤ ms)
    (kk : am_W G X Y d mc ms Qs q ls (v :: st) h1 k n) : am_W G X Y d mc ms Qs pc ls st0 h k n :=
  am_callS hd hw hC hst0 hna hdd hnL hst hk hn (fun r h' hq => by obtain ⟨e1, rfl⟩ := hq; cases e1; exact kk) (fun x h' hq => by obtain ⟨e1, -⟩ := hq; cases e1)
theorem am_cS_v (hd : am_d Y.1 pc (.invokestatic idx) 3 q) (hw : am_ms_ Y.2.2.1 idx y na (.code y bytes nL' ret)) (hC : am_Con G y (.code y bytes nL' ret) d' 0 0 as h (am_vd h1)) (hst0 : st0 = as.reverse ++ st) (hna : as.length = na) (hdd : d' + 1 ≤ d) (hnL : nL' ≤ 17) (hst : st.length ≤ 4) (hk : k ≤ mc) (hn : n ≤ ms)
    (kk : am_W G X Y d mc ms Qs q ls st h1 k n) : am_W G X Y d mc ms Qs pc ls st0 h k n :=
  am_callS hd hw hC hst0 hna hdd hnL hst hk hn (fun r h' hq => by obtain ⟨e1, rfl⟩ := hq; cases e1; exact kk) (fun x h' hq => by obtain ⟨e1, -⟩ := hq; cases e1)
theorem am_cV (hd : am_d Y.1 pc (.invokevirtual idx) 3 q) (hw : am_mv_ Y.2.2.1 idx ci y na (.code y bytes nL' ret)) (hC : am_Con G y (.code y bytes nL' ret) d' 0 0 (am_R nm :: as) h (am_is v h1)) (hst0 : st0 = as.reverse ++ am_R nm :: st) (hna : as.length = na) (hh : h nm = some (am_O ci fs)) (hdd : d' + 1 ≤ d) (hnL : nL' ≤ 17) (hst : st.length ≤ 4) (hk : k ≤ mc) (hn : n ≤ ms)
    (kk : am_W G X Y d mc ms Qs q ls (v :: st) h1 k n) : am_W G X Y d mc ms Qs pc ls st0 h k n :=
  am_callV hd hw hC hst0 hna hh hdd hnL hst hk hn (fun r h' hq => by obtain ⟨e1, rfl⟩ := hq; cases e1; exact kk) (fun x h' hq => by obtain ⟨e1, -⟩ := hq; cases e1)
theorem am_cV_v (hd : am_d Y.1 pc (.invokevirtual idx) 3 q) (hw : am_mv_ Y.2.2.1 idx ci y na (.code y bytes nL' ret)) (hC : am_Con G y (.code y bytes nL' ret) d' 0 0 (am_R nm :: as) h (am_vd h1)) (hst0 : st0 = as.reverse ++ am_R nm :: st) (hna : as.length = na) (hh : h nm = some (am_O ci fs)) (hdd : d' + 1 ≤ d) (hnL : nL' ≤ 17) (hst : st.length ≤ 4) (hk : k ≤ mc) (hn : n ≤ ms)
    (kk : am_W G X Y d mc ms Qs q ls st h1 k n) : am_W G X Y d mc ms Qs pc ls st0 h k n :=
  am_callV hd hw hC hst0 hna hh hdd hnL hst hk hn (fun r h' hq => by obtain ⟨e1, rfl⟩ := hq; cases e1; exact kk) (fun x h' hq => by obtain ⟨e1, -⟩ := hq; cases e1)
end CallRules
section BzRules
variable {G : am_G} {X : am_X} {Y : am_Y} {d mc ms : Nat} {Q : State → Prop} {pc q t : Nat} {ls : List (Option am_AV)} {st : List am_AV} {h : am_AH} {k n : Nat} {o : Int} {P : Prop}
theorem am_bz_eq [Decidable P] (hd : am_b Y.1 pc (.ifCond .eq o) o q t) (kt : ¬ P → am_W G X Y d mc ms Q t ls st h k n) (kf : P → am_W G X Y d mc ms Q q ls st h k n) : am_W G X Y d mc ms Q pc ls (am_I (bz (decide P)) :: st) h k n :=
  am_if_eq (bz_r _) hd (fun c => kt (bz_0.mp c)) (fun c => kf (Decidable.byContradiction fun z => c (bz_0.mpr z)))
theorem am_bz_ne [Decidable P] (hd : am_b Y.1 pc (.ifCond .ne o) o q t) (kt : P → am_W G X Y d mc ms Q t ls st h k n) (kf : ¬ P → am_W G X Y d mc ms Q q ls st h k n) : am_W G X Y d mc ms Q pc ls (am_I (bz (decide P)) :: st) h k n :=
  am_if_ne (bz_r _) hd (fun c => kt (Decidable.byContradiction fun z => c (bz_0.mpr z))) (fun c => kf (bz_0.mp c))
end BzRules

