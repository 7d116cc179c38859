/-! what the class answers of a way -/
theorem wy_came {σ : sg_S} {u N n : Nat} {S : Nat → Int} {off mny : Nat → Nat} {β : Int} (hW : wy_W σ u N S off mny n β) : ∃ c : Nat, c ≤ n ∧ σ 33 u = (c : Int) ∧ (0 ≤ σ 28 u ∧ σ 28 u ≤ 1) ∧ wy_Tc σ u S off mny c := by
  obtain ⟨T, q1, q2, c, c1, c2, c3, c4, c5⟩ := hW
  refine ⟨c, c1, c2, ?_, c5⟩
  rcases c4 with ⟨-, z⟩ | ⟨-, -, -, z, -⟩ <;> omega
theorem wy_told {σ : sg_S} {u c k : Nat} {S : Nat → Int} {off mny : Nat → Nat} {uI kI aI : Int} (hu : uI = (u : Int)) (hk : kI = (k : Int)) (hc : σ 33 u = (c : Int)) (hkc : k < c) (ha : 0 ≤ aI ∧ aI ≤ 3) (hT : wy_Tc σ u S off mny c) : sp_told σ uI kI aI = st σ 0 0 0 ∧ (aI = 2 → an_told σ uI kI aI = (mny k : Int)) ∧ (aI = 3 → an_told σ uI kI aI = 0) ∧ an_told σ uI kI 1 < an_told σ uI kI 0 := by
  have tu : uI.toNat = u := by rw [hu]; exact Int.toNat_natCast u
  have tk : kI.toNat = k := by rw [hk]; exact Int.toNat_natCast k
  obtain ⟨d1, d2, d3, d4⟩ := hT k hkc
  refine ⟨?_, fun e => ?_, fun e => ?_, ?_⟩
  · unfold sp_told
    rw [tu, if_neg (by omega), if_neg (by omega)]
  · unfold an_told
    rw [tu, tk, if_neg (by omega), if_neg (by omega), if_neg (by omega), if_neg (by omega), if_pos e, d3]
    omega
  · unfold an_told
    rw [tu, tk, if_neg (by omega), if_neg (by omega), if_neg (by omega), if_neg (by omega), if_neg (by omega), d2]
  · unfold an_told
    rw [tu, tk, if_neg (by omega), if_neg (by omega), if_neg (by omega), if_pos rfl, if_neg (by omega), if_neg (by omega), if_pos rfl]
    exact d1
theorem wy_phrase {σ : sg_S} (hbw : bw σ 6 6) (hN : sg_N σ) {u c k p : Nat} {S : Nat → Nat → Int} {off mny fst bok : Nat → Nat → Nat} {n : Nat → Nat} {uI kI pI bI : Int} (hu : uI = (u : Int)) (hk : kI = (k : Int)) (hp : pI = (p : Int)) (hc : σ 33 u = (c : Int)) (hkc : k < c) (hcn : c ≤ n u) (hT : wy_Tc σ u (S u) (off u) (mny u) c) (hD : dk σ S off mny fst bok n) (hpm : p < mny u k) (hb : bI = (bok u k : Int)) : sp_phrase σ uI kI pI bI = st σ 0 0 0 ∧ an_phrase σ uI kI pI bI = 100 + (((fst u k + p) % 6 : Nat) : Int) := by
  have tu : uI.toNat = u := by rw [hu]; exact Int.toNat_natCast u
  have tk : kI.toNat = k := by rw [hk]; exact Int.toNat_natCast k
  have tp : pI.toNat = p := by rw [hp]; exact Int.toNat_natCast p
  have tb : bI.toNat = bok u k := by rw [hb]; exact Int.toNat_natCast _
  obtain ⟨d1, d2, d3, d4⟩ := hT k hkc
  obtain ⟨e1, e2, e3⟩ := hD u k (by omega)
  have e4 := e3 p hpm
  have hq : (fst u k + p) % 6 < 6 := Nat.mod_lt _ (by decide)
  have s1 := d4 (2 * p) (by omega)
  have s2 := d4 (2 * p + 1) (by omega)
  have hs : 92 * σ 38 (60 * (40 * u + k) + 2 * p) + σ 38 (60 * (40 * u + k) + 2 * p + 1) = σ 22 (200 * bok u k + (fst u k + p) % 6) := by
    rw [← e4, s1, Nat.add_assoc (60 * (40 * u + k)), s2]
    congr 2
    omega
  have hf := bw_find hbw hN e1 hq hs
  have h23 := (bw_at hbw e1 hq).2
  constructor
  · unfold sp_phrase
    rw [tu, tk, if_neg (by omega)]
  · unfold an_phrase
    rw [tu, tk, tp, tb, if_neg (by omega), hf, if_neg (by omega), Int.toNat_natCast]
    exact h23
theorem nx_0 {σ : sg_S} {w : Nat} (h : ∀ j : Nat, (j : Int) < σ 17 w → σ 20 (300 * w + j) = 0) (e : Nat) : sp_nx σ w e = e := by
  unfold sp_nx
  by_cases c : (e : Int) < σ 17 w
  · obtain ⟨k, hk⟩ : ∃ k, (σ 17 w).toNat - e = k + 1 := ⟨(σ 17 w).toNat - e - 1, by omega⟩
    rw [hk]
    simp only [sp_nxt]
    rw [if_pos (h e c)]
  · rw [show (σ 17 w).toNat - e = 0 by omega]
    rfl
theorem df_pre {σ : sg_S} {w v : Nat} (hw : ∀ e, sp_nx σ w e = e) (hv : ∀ e, sp_nx σ v e = e) (h : ∀ j : Nat, (j : Int) < σ 17 w → (j : Int) < σ 17 v → σ 19 (300 * w + j) = σ 19 (300 * v + j)) : ∀ (n a : Nat) (p : Int), sp_df σ w v n a a p = -1
  | 0, _, _ => rfl
  | n + 1, a, p => by
    simp only [sp_df]
    by_cases c : (a : Int) < σ 17 w ∧ (a : Int) < σ 17 v
    · rw [if_pos c, if_neg (fun z => z (h a c.1 c.2)), hw, hv]
      exact df_pre hw hv h n (a + 1) (p + 1)
    · rw [if_neg c]
theorem wy_differs {σ : sg_S} {u N n t o : Nat} {S : Nat → Int} {off mny : Nat → Nat} {β : Int} {tI oI uI : Int} (hW : wy_W σ u N S off mny n β) (h3 : σ 3 0 = (N : Int)) (htI : tI = (t : Int)) (hoI : oI = (o : Int)) (huI : uI = (u : Int)) (ht : t < N ∧ t ≠ wy_s u N) (ho : o < N ∧ o ≠ wy_s u N) : sp_differs σ tI oI uI = st σ 0 0 0 ∧ an_differs σ tI oI uI = -1 := by
  obtain ⟨T, ⟨-, -, -, a4⟩, -⟩ := hW
  have tt : tI.toNat = t := by rw [htI]; exact Int.toNat_natCast t
  have to : oI.toNat = o := by rw [hoI]; exact Int.toNat_natCast o
  have tu : uI.toNat = u := by rw [huI]; exact Int.toNat_natCast u
  obtain ⟨p1, p2⟩ := a4 t ht.1 ht.2
  obtain ⟨q1, q2⟩ := a4 o ho.1 ho.2
  constructor
  · unfold sp_differs
    rw [if_neg (by omega)]
  · unfold an_differs
    rw [if_neg (by omega), tt, to, tu]
    have x1 := nx_0 (σ := σ) (w := 2 * t + u) (fun j hj => (p2 j (by omega) (by omega)).2)
    have x2 := nx_0 (σ := σ) (w := 2 * o + u) (fun j hj => (q2 j (by omega) (by omega)).2)
    rw [x1, x2]
    exact df_pre x1 x2 (fun j h1 h2 => by rw [(p2 j (by omega) (by omega)).1, (q2 j (by omega) (by omega)).1]) _ _ _
/-! contracts that the law needs -/
theorem rd_is {G : am_G} {y : MethodName} {w0 : Cond} {d mc ms : Nat} {as : List am_AV} {m σ s : sg_S} {es : List Nat} {a : Int} (hC : am_Con G y w0 d mc ms as (en_h m σ) (am_tx es (s 0 0) a (en_h m s))) (hs : s = st σ 0 0 0) : am_Con G y w0 d mc ms as (en_h m σ) (am_is (am_I a) (en_h m σ)) := by
  refine am_Con_mono hC fun r h' q => ?_
  obtain ⟨e, ⟨-, e1⟩ | ⟨i, e9, hi, hci, e1⟩⟩ := q
  · exact ⟨e1, by rw [e, hs]; exact cx_no (Or.inl rfl)⟩
  · rw [hs, st_eq] at hci; omega
theorem wr_is {G : am_G} {y : MethodName} {w0 : Cond} {d mc ms : Nat} {as : List am_AV} {m σ s : sg_S} {es : List Nat} {a : Int} (hC : am_Con G y w0 d mc ms as (en_h m σ) (am_tx es (s 0 0) a (en_h m s))) (hs : s 0 0 = 0) : am_Con G y w0 d mc ms as (en_h m σ) (am_is (am_I a) (en_h m s)) := by
  refine am_Con_mono hC fun r h' q => ?_
  obtain ⟨e, ⟨-, e1⟩ | ⟨i, e9, hi, hci, e1⟩⟩ := q
  · exact ⟨e1, e⟩
  · omega
section LawRules
variable {G : am_G} {X : am_X} {Y : am_Y} {d mc ms : Nat} {Qs : State → Prop} {pc q t : Nat} {ls : List (Option am_AV)} {st st0 : List am_AV} {h h1 : am_AH} {k n : Nat}
variable {idx ci na d' mc' ms' nL' : Nat} {y : MethodName} {bytes : ByteArray} {ret : Option FieldType} {as fs : List am_AV} {nm : am_Nm} {v : am_AV}
/-- a call with an answer, and room -/
theorem am_cVr (hd : am_d Y.1 pc (.invokevirtual idx) 3 q) (hw : am_mv_ Y.2.2.1 idx ci y na (.code y bytes nL' ret)) (hC : am_Con G y (.code y bytes nL' ret) d' mc' ms' (am_R nm :: as) h (am_is v h1)) (hst0 : st0 = as.reverse ++ am_R nm :: st) (hna : as.length = na) (hh : h nm = some (am_O ci fs)) (hdd : d' + 1 ≤ d) (hnL : nL' ≤ 17) (hst : st.length ≤ 4) (hk : k + mc' ≤ mc) (hn : n + ms' ≤ ms)
    (kk : am_W G X Y d mc ms Qs q ls (v :: st) h1 (k + mc') (n + ms')) : am_W G X Y d mc ms Qs pc ls st0 h k n :=
  am_callV hd hw hC hst0 hna hh hdd hnL hst hk hn (fun r h' hq => by obtain ⟨e1, rfl⟩ := hq; cases e1; exact kk) (fun x h' hq => by obtain ⟨e1, -⟩ := hq; cases e1)
/-- an answer of which only so much is known -/
def am_some (P : Int → Prop) (h1 : am_AH) : am_Re → am_AH → Prop := fun r h' => h' = h1 ∧ ∃ z, P z ∧ r = .inl (some (am_I z))
theorem am_cSr {P : Int → Prop} (hd : am_d Y.1 pc (.invokestatic idx) 3 q) (hw : am_ms_ Y.2.2.1 idx y na (.code y bytes nL' ret)) (hC : am_Con G y (.code y bytes nL' ret) d' 0 0 as h (am_some P h1)) (hst0 : st0 = as.reverse ++ st) (hna : as.length = na) (hdd : d' + 1 ≤ d) (hnL : nL' ≤ 17) (hst : st.length ≤ 4) (hk : k ≤ mc) (hn : n ≤ ms)
    (kk : ∀ z, P z → am_W G X Y d mc ms Qs q ls (am_I z :: st) h1 k n) : am_W G X Y d mc ms Qs pc ls st0 h k n :=
  am_callS hd hw hC hst0 hna hdd hnL hst hk hn (fun r h' hq => by obtain ⟨rfl, z, hz, e1⟩ := hq; cases e1; exact kk z hz) (fun x h' hq => by obtain ⟨-, z, -, e1⟩ := hq; cases e1)
theorem am_ishr {a b : Int} (hd : am_d Y.1 pc .ishr 1 q) (kk : ∀ z, am_r z → am_W G X Y d mc ms Qs q ls (am_I z :: st) h k n) : am_W G X Y d mc ms Qs pc ls (am_I b :: am_I a :: st) h k n := by
  obtain ⟨p, e, R, s, m, args, below, meth, c, ι0⟩ := X
  obtain ⟨hd, rfl⟩ := hd
  intro ok ι H lr sr lc hr hl ht
  obtain ⟨w, sr, rfl, q1, ht1⟩ := am_T_1 ht
  obtain ⟨u, sr, rfl, q2, ht2⟩ := am_T_1 ht1
  cases q1; cases q2
  refine lv_ishr ok.1 ok.2.1 hd (kk (Int32.ofInt a >>> (Int32.ofInt b &&& 31)).toInt ⟨Int32.le_toInt _, Int32.toInt_lt _⟩ ok ι H lr _ lc hr hl ⟨?_, ht2⟩)
  show Value.int _ = Value.int _
  rw [Int32.ofInt_toInt]
theorem am_iandM {a : Int} (ha : am_r a) (hd : am_d Y.1 pc .iand 1 q) (kk : ∀ z, 0 ≤ z → am_r z → am_W G X Y d mc ms Qs q ls (am_I z :: st) h k n) : am_W G X Y d mc ms Qs pc ls (am_I 2147483647 :: am_I a :: st) h k n := by
  obtain ⟨p, e, R, s, m, args, below, meth, c, ι0⟩ := X
  obtain ⟨hd, rfl⟩ := hd
  intro ok ι H lr sr lc hr hl ht
  obtain ⟨w, sr, rfl, q1, ht1⟩ := am_T_1 ht
  obtain ⟨u, sr, rfl, q2, ht2⟩ := am_T_1 ht1
  cases q1; cases q2
  have h0 : 0 ≤ a % 2147483648 ∧ a % 2147483648 < 2147483648 := by omega
  refine lv_iand ok.1 ok.2.1 hd (kk (a % 2147483648) h0.1 ⟨by omega, h0.2⟩ ok ι H lr _ lc hr hl ⟨?_, ht2⟩)
  show Value.int _ = Value.int _
  congr 1
  rw [pk_and (Int32.ofInt a) (m := Int32.ofInt 2147483647) 31 (by decide)]
  rw [← Int32.toInt_inj, am_toInt ⟨by omega, h0.2⟩, nI_toInt (by omega)]
  have h3 : (Int32.ofInt a).toBitVec.toNat = (a % 2 ^ 32).toNat := by
    show (BitVec.ofInt 32 a).toNat = _
    rw [BitVec.toNat_ofInt]
    rfl
  rw [h3]
  omega
end LawRules
theorem x_lc7 : Cond.constant RL 7 2147483647 ∈ am_uw := am_ux 608 (by decide +kernel) rfl
set_option maxRecDepth 100000 in
set_option maxHeartbeats 4000000 in
theorem c_L_low {G : am_G} {h : am_AH} {a b : Int} (ha : am_r a) (hb : am_r b) (h0 : 0 < b) : am_Con G yL_low wL_low 1 0 0 [am_I a, am_I b] h (am_some (fun z => 0 ≤ z ∧ z < b) h) := by
  refine am_of2 (Y := mL_low) (by decide +kernel) rfl (fun z => by cases z) rfl rfl (Nat.le_of_ble_eq_true rfl) fun X => ?_
  refine am_iload_n eL_low_0 rfl ?_
  refine am_ldc eL_low_1 x_lc7 ?_
  refine am_topI (w := 2147483647) (by decide) ?_
  refine am_iandM ha eL_low_3 (fun z h1 h2 => ?_)
  refine am_iload_n eL_low_4 rfl ?_
  refine am_irem h2 h1 hb h0 eL_low_5 ?_
  refine am_ireturn eL_low_6 rfl trivial (Nat.zero_le _) (Nat.zero_le _) ?_
  exact ⟨rfl, z % b, ⟨Int.emod_nonneg _ (by omega), Int.emod_lt_of_pos _ h0⟩, rfl⟩
set_option maxRecDepth 100000 in
set_option maxHeartbeats 4000000 in
theorem c_L_cell {G : am_G} {h : am_AH} {i : Int} (h0 : 0 ≤ i ∧ i ≤ 100) (hz : G.2.2.2.2.2.2.1 ≤ 260) : am_Con G yL_cell wL_cell 1 0 0 [am_R am_scr, am_I i] h (am_some am_r h) := by
  refine am_of2 (Y := mL_cell) (by decide +kernel) rfl (fun z => by cases z) rfl rfl (Nat.le_of_ble_eq_true rfl) fun X => ?_
  refine am_iload_n eL_cell_0 rfl ?_
  refine am_aload_n eL_cell_1 rfl ?_
  refine am_slen eL_cell_2 ?_
  refine am_icmp_ge ⟨by omega, by omega⟩ ⟨by omega, by omega⟩ eL_cell_3 (fun c1 => ?_) (fun c1 => ?_)
  · refine am_sipush eL_cell_12 (by decide) ?_
    refine am_iload_n eL_cell_15 rfl ?_
    refine am_iconst eL_cell_16 ?_
    refine am_iadd eL_cell_17 ?_
    refine am_imul eL_cell_18 ?_
    refine am_iload_n eL_cell_19 rfl ?_
    refine am_bipush eL_cell_20 (by decide) ?_
    refine am_iadd eL_cell_22 ?_
    refine am_imul eL_cell_23 ?_
    refine am_ireturn eL_cell_24 rfl trivial (Nat.zero_le _) (Nat.zero_le _) ?_
    refine ⟨rfl, _, ?_, rfl⟩
    have e1 : 0 ≤ (i + 3) * (i + 11) := Int.mul_nonneg (by omega) (by omega)
    have e2 : (i + 3) * (i + 11) ≤ 103 * 111 := Int.mul_le_mul (by omega) (by omega) (by omega) (by omega)
    have e3 : 7919 * (i + 3) * (i + 11) = 7919 * ((i + 3) * (i + 11)) := Int.mul_assoc _ _ _
    rw [e3]
    constructor <;> omega
  · refine am_aload_n eL_cell_6 rfl ?_
    refine am_iload_n eL_cell_7 rfl ?_
    refine am_sld eL_cell_8 (by omega) (by omega) (by omega) ?_
    refine am_goto eL_cell_9 ?_
    refine am_ireturn eL_cell_24 rfl trivial (Nat.zero_le _) (Nat.zero_le _) ?_
    exact ⟨rfl, _, ⟨Int32.le_toInt _, Int32.toInt_lt _⟩, rfl⟩
