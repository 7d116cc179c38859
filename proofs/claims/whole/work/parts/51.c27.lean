/-! comesAnew: two arrays of its own, in the closed form of the minute p -/
def th (h : am_AH) (A B : am_Nm) (K S : Nat → Int) : am_AH := am_up (am_up h A (am_A 0 12 (fun z => am_I (K z)))) B (am_A 1 12 (fun z => am_I (S z)))
theorem th_A {h : am_AH} {A B : am_Nm} {K S : Nat → Int} (hAB : A ≠ B) : th h A B K S A = some (am_A 0 12 (fun z => am_I (K z))) := (am_up_ne hAB).trans am_up_eq
theorem th_B {h : am_AH} {A B : am_Nm} {K S : Nat → Int} : th h A B K S B = some (am_A 1 12 (fun z => am_I (S z))) := am_up_eq
theorem th_sA {h : am_AH} {A B : am_Nm} {K K' S : Nat → Int} (hAB : A ≠ B) : am_up (th h A B K S) A (am_A 0 12 (fun z => am_I (K' z))) = th h A B K' S := by
  unfold th
  rw [am_up_sw hAB, am_up_up]
theorem th_sB {h : am_AH} {A B : am_Nm} {K S S' : Nat → Int} : am_up (th h A B K S) B (am_A 1 12 (fun z => am_I (S' z))) = th h A B K S' := am_up_up
section ThRules
variable {G : am_G} {X : am_X} {Y : am_Y} {d mc ms : Nat} {Q : State → Prop} {pc q t : Nat} {ls : List (Option am_AV)} {st9 : List am_AV} {h : am_AH} {A B : am_Nm} {K S : Nat → Int} {k n : Nat}
theorem am_ldcw {idx : Nat} {x : Int32} (hd : am_d Y.1 pc (.ldc_w idx) 3 q) (hc : Cond.constant Y.2.2.1 idx x ∈ am_uw) (kk : am_W G X Y d mc ms Q q ls (am_I x.toInt :: st9) h k n) : am_W G X Y d mc ms Q pc ls st9 h k n := by
  obtain ⟨p, e, R, s, m, args, below, meth, c, ι0⟩ := X
  obtain ⟨hd, rfl⟩ := hd
  intro ok ι H lr sr lc hr hl ht
  have hown := ok.2.2.2.1
  have hts := ok.2.2.2.2.1
  exact lv_ldcw ok.1 ok.2.1 hown (hts _ hc) hd (kk ok ι H lr _ lc hr hl ⟨by simp [am_V], ht⟩)
theorem th_iald (hAB : A ≠ B) {i v : Int} {j : Nat} (hd : am_d Y.1 pc .iaload 1 q) (hj : j < 12) (hi : i = (j : Int)) (hv : K j = v) (kk : am_W G X Y d mc ms Q q ls (am_I v :: st9) (th h A B K S) k n) : am_W G X Y d mc ms Q pc ls (am_I i :: am_R A :: st9) (th h A B K S) k n := by
  subst hi
  exact am_iald (len := 12) hd (th_A hAB) (by omega) (by omega) (by decide) (x := v) (by simp [hv]) kk
theorem th_bald {i v : Int} {j : Nat} (hd : am_d Y.1 pc .baload 1 q) (hj : j < 12) (hi : i = (j : Int)) (hv : S j = v) (kk : am_W G X Y d mc ms Q q ls (am_I v :: st9) (th h A B K S) k n) : am_W G X Y d mc ms Q pc ls (am_I i :: am_R B :: st9) (th h A B K S) k n := by
  subst hi
  exact am_bald (len := 12) hd th_B (by omega) (by omega) (by decide) (x := v) (by simp [hv]) kk
theorem th_iast (hAB : A ≠ B) {i v : Int} {j : Nat} (K' : Nat → Int) (hd : am_d Y.1 pc .iastore 1 q) (hj : j < 12) (hi : i = (j : Int)) (hK : ∀ z, K' z = if z = j then v else K z) (kk : am_W G X Y d mc ms Q q ls st9 (th h A B K' S) k n) : am_W G X Y d mc ms Q pc ls (am_I v :: am_I i :: am_R A :: st9) (th h A B K S) k n := by
  subst hi
  obtain rfl : K' = fun z => if z = j then v else K z := funext hK
  refine am_iast (len := 12) hd (th_A hAB) (by omega) (by omega) (by decide) (am_heq ?_ kk)
  rw [am_uf_I, Int.toNat_natCast]
  exact th_sA hAB
theorem th_bast {i v : Int} {j : Nat} (S' : Nat → Int) (hd : am_d Y.1 pc .bastore 1 q) (hj : j < 12) (hi : i = (j : Int)) (hv : v = 0 ∨ v = 1) (hS : ∀ z, S' z = if z = j then v else S z) (kk : am_W G X Y d mc ms Q q ls st9 (th h A B K S') k n) : am_W G X Y d mc ms Q pc ls (am_I v :: am_I i :: am_R B :: st9) (th h A B K S) k n := by
  subst hi
  obtain rfl : S' = fun z => if z = j then v else S z := funext hS
  refine am_bast (len := 12) hd th_B (by omega) (by omega) (by decide) hv (am_heq ?_ kk)
  rw [am_uf_I, Int.toNat_natCast]
  exact th_sB
end ThRules
def t1K (K S : Nat → Int) (j z : Nat) : Int := if 1 ≤ z ∧ z ≤ j then K z + S (z - 1) else K z
def t1S (S : Nat → Int) (j z : Nat) : Int := if z < j then 0 else S z
def t2K (K : Nat → Int) (j z : Nat) : Int := if z < j ∧ 0 < K z then K z - 1 else K z
def t2S (K S : Nat → Int) (j z : Nat) : Int := if z < j ∧ 0 < K z then 1 else S z
set_option maxRecDepth 100000 in
set_option maxHeartbeats 4000000 in
theorem lq_pt1 {G : am_G} {X : am_X} {h : am_AH} {A B : am_Nm} (hAB : A ≠ B) {K S : Nat → Int} {L : Nat} (hL : 1 ≤ L ∧ L ≤ 11) (hK : ∀ z, 1 ≤ z → z < L → K z = 0) (hKL : 0 ≤ K L ∧ K L ≤ 1000) (hS : ∀ z, S z = 0 ∨ S z = 1) {Q : State → Prop}
    (kk : ∀ iv : Int, am_W G X mX8_passTrialMinute 1 0 0 Q 47 [some (am_R A), some (am_R B), some (am_I (L : Int)), some (am_I iv)] [] (th h A B (t1K K S L) (t1S S L)) 0 0) :
    ∀ (n j : Nat) (iv : Int), iv = (j : Int) + 1 → j + n = L → am_W G X mX8_passTrialMinute 1 0 0 Q 2 [some (am_R A), some (am_R B), some (am_I (L : Int)), some (am_I iv)] [] (th h A B (t1K K S j) (t1S S j)) 0 0 := by
  intro n
  induction n with
  | zero =>
    intro j iv hv hj
    obtain rfl : j = L := by omega
    refine am_iload_n eX8_passTrialMinute_2 rfl ?_
    refine am_iload_n eX8_passTrialMinute_3 rfl ?_
    refine am_icmp_gt ⟨by omega, by omega⟩ ⟨by omega, by omega⟩ eX8_passTrialMinute_4 (fun c1 => ?_) (fun c1 => absurd c1 (by omega))
    exact kk iv
  | succ n ih =>
    intro j iv hv hj
    have hs := hS j
    have e1 : t1S S j j = S j := if_neg (Nat.lt_irrefl j)
    have e2 : t1K K S j (j + 1) = K (j + 1) := if_neg (by omega)
    have e3 : ∀ z, t1S S (j + 1) z = if z = j then 0 else t1S S j z := fun z => by
      unfold t1S
      by_cases c : z = j
      · rw [if_pos (by omega), if_pos c]
      · rw [if_neg c]
        by_cases c2 : z < j
        · rw [if_pos (by omega), if_pos c2]
        · rw [if_neg (by omega), if_neg c2]
    have e4 : ∀ z, t1K K S (j + 1) z = if z = j + 1 then K (j + 1) + S j else t1K K S j z := fun z => by
      unfold t1K
      by_cases c : z = j + 1
      · subst c
        rw [if_pos (by omega), if_pos rfl]; rfl
      · rw [if_neg c]
        by_cases c2 : 1 ≤ z ∧ z ≤ j
        · rw [if_pos (by omega), if_pos c2]
        · rw [if_neg (by omega), if_neg c2]
    have bK : 0 ≤ K (j + 1) ∧ K (j + 1) ≤ 1000 := by
      by_cases c : j + 1 = L
      · rw [c]; exact hKL
      · rw [hK (j + 1) (by omega) (by omega)]; omega
    refine am_iload_n eX8_passTrialMinute_2 rfl ?_
    refine am_iload_n eX8_passTrialMinute_3 rfl ?_
    refine am_icmp_gt ⟨by omega, by omega⟩ ⟨by omega, by omega⟩ eX8_passTrialMinute_4 (fun c1 => absurd c1 (by omega)) (fun c1 => ?_)
    refine am_aload_n eX8_passTrialMinute_7 rfl ?_
    refine am_iload_n eX8_passTrialMinute_8 rfl ?_
    refine am_iconst eX8_passTrialMinute_9 ?_
    refine am_isub eX8_passTrialMinute_10 ?_
    refine th_bald (j := j) (v := S j) eX8_passTrialMinute_11 (by omega) (by omega) e1 ?_
    refine am_if_eq ⟨by omega, by omega⟩ eX8_passTrialMinute_12 (fun c2 => ?_) (fun c2 => ?_)
    · refine am_iinc eX8_passTrialMinute_41 rfl (by decide) ?_
      refine am_goto eX8_passTrialMinute_44 ?_
      refine am_heq (h' := th h A B (t1K K S (j + 1)) (t1S S (j + 1))) ?_ (ih (j + 1) _ (by omega) (by omega))
      rw [show t1K K S (j + 1) = t1K K S j from funext fun z => by rw [e4]; split <;> first | rfl | (rename_i c; rw [c, e2]; omega), show t1S S (j + 1) = t1S S j from funext fun z => by rw [e3]; split <;> first | rfl | (rename_i c; rw [c, e1]; omega)]
    · have c2' : S j = 1 := by omega
      refine am_iload_n eX8_passTrialMinute_15 rfl ?_
      refine am_iload_n eX8_passTrialMinute_16 rfl ?_
      have tail : am_W G X mX8_passTrialMinute 1 0 0 Q 28 [some (am_R A), some (am_R B), some (am_I (L : Int)), some (am_I iv)] [] (th h A B (t1K K S j) (t1S S j)) 0 0 := by
        refine am_aload_n eX8_passTrialMinute_28 rfl ?_
        refine am_iload_n eX8_passTrialMinute_29 rfl ?_
        refine am_iconst eX8_passTrialMinute_30 ?_
        refine am_isub eX8_passTrialMinute_31 ?_
        refine am_iconst eX8_passTrialMinute_32 ?_
        refine th_bast (j := j) (t1S S (j + 1)) eX8_passTrialMinute_33 (by omega) (by omega) (Or.inl rfl) e3 ?_
        refine am_aload_n eX8_passTrialMinute_34 rfl ?_
        refine am_iload_n eX8_passTrialMinute_35 rfl ?_
        refine am_dup2 eX8_passTrialMinute_36 ?_
        refine th_iald hAB (j := j + 1) (v := K (j + 1)) eX8_passTrialMinute_37 (by omega) (by omega) e2 ?_
        refine am_iconst eX8_passTrialMinute_38 ?_
        refine am_iadd eX8_passTrialMinute_39 ?_
        refine th_iast hAB (j := j + 1) (t1K K S (j + 1)) eX8_passTrialMinute_40 (by omega) (by omega) (fun z => by rw [e4, c2']) ?_
        refine am_iinc eX8_passTrialMinute_41 rfl (by decide) ?_
        refine am_goto eX8_passTrialMinute_44 ?_
        exact ih (j + 1) _ (by omega) (by omega)
      refine am_icmp_eq ⟨by omega, by omega⟩ ⟨by omega, by omega⟩ eX8_passTrialMinute_17 (fun c3 => tail) (fun c3 => ?_)
      refine am_aload_n eX8_passTrialMinute_20 rfl ?_
      refine am_iload_n eX8_passTrialMinute_21 rfl ?_
      refine th_iald hAB (j := j + 1) (v := 0) eX8_passTrialMinute_22 (by omega) (by omega) (e2.trans (hK (j + 1) (by omega) (by omega))) ?_
      refine am_bipush eX8_passTrialMinute_23 (by decide) ?_
      refine am_icmp_ge ⟨by omega, by omega⟩ ⟨by omega, by omega⟩ eX8_passTrialMinute_25 (fun c4 => absurd c4 (by omega)) (fun c4 => ?_)
      exact tail
set_option maxRecDepth 100000 in
set_option maxHeartbeats 4000000 in
theorem lq_pt2 {G : am_G} {X : am_X} {h : am_AH} {A B : am_Nm} (hAB : A ≠ B) {K S : Nat → Int} {L : Nat} (hL : 1 ≤ L ∧ L ≤ 11) (hK : ∀ z, 0 ≤ K z ∧ K z ≤ 2000) (hS : ∀ z, z < L → S z = 0) {Q : State → Prop}
    (kk : ∀ iv : Int, am_W G X mX8_passTrialMinute 1 0 0 Q 83 [some (am_R A), some (am_R B), some (am_I (L : Int)), some (am_I iv)] [] (th h A B (t2K K L) (t2S K S L)) 0 0) :
    ∀ (n j : Nat) (iv : Int), iv = (j : Int) → j + n = L → am_W G X mX8_passTrialMinute 1 0 0 Q 49 [some (am_R A), some (am_R B), some (am_I (L : Int)), some (am_I iv)] [] (th h A B (t2K K j) (t2S K S j)) 0 0 := by
  intro n
  induction n with
  | zero =>
    intro j iv hv hj
    obtain rfl : j = L := by omega
    refine am_iload_n eX8_passTrialMinute_49 rfl ?_
    refine am_iload_n eX8_passTrialMinute_50 rfl ?_
    refine am_icmp_ge ⟨by omega, by omega⟩ ⟨by omega, by omega⟩ eX8_passTrialMinute_51 (fun c1 => ?_) (fun c1 => absurd c1 (by omega))
    exact kk iv
  | succ n ih =>
    intro j iv hv hj
    have bK := hK j
    have e1 : t2S K S j j = 0 := (if_neg (by omega)).trans (hS j (by omega))
    have e2 : t2K K j j = K j := if_neg (by omega)
    have e3 : ∀ z, t2S K S (j + 1) z = if z = j ∧ 0 < K j then 1 else t2S K S j z := fun z => by
      unfold t2S
      by_cases c : z = j
      · subst c
        by_cases c2 : 0 < K z
        · rw [if_pos ⟨by omega, c2⟩, if_pos ⟨rfl, c2⟩]
        · rw [if_neg (show ¬ (z < z + 1 ∧ 0 < K z) from fun x => c2 x.2), if_neg (show ¬ (z = z ∧ 0 < K z) from fun x => c2 x.2), if_neg (show ¬ (z < z ∧ 0 < K z) from fun x => c2 x.2)]
      · rw [if_neg (show ¬ (z = j ∧ 0 < K j) from fun x => c x.1)]
        by_cases c2 : z < j ∧ 0 < K z
        · rw [if_pos ⟨by omega, c2.2⟩, if_pos c2]
        · rw [if_neg (fun x => c2 ⟨by omega, x.2⟩), if_neg c2]
    have e4 : ∀ z, t2K K (j + 1) z = if z = j ∧ 0 < K j then K j - 1 else t2K K j z := fun z => by
      unfold t2K
      by_cases c : z = j
      · subst c
        by_cases c2 : 0 < K z
        · rw [if_pos ⟨by omega, c2⟩, if_pos ⟨rfl, c2⟩]
        · rw [if_neg (show ¬ (z < z + 1 ∧ 0 < K z) from fun x => c2 x.2), if_neg (show ¬ (z = z ∧ 0 < K z) from fun x => c2 x.2), if_neg (show ¬ (z < z ∧ 0 < K z) from fun x => c2 x.2)]
      · rw [if_neg (show ¬ (z = j ∧ 0 < K j) from fun x => c x.1)]
        by_cases c2 : z < j ∧ 0 < K z
        · rw [if_pos ⟨by omega, c2.2⟩, if_pos c2]
        · rw [if_neg (fun x => c2 ⟨by omega, x.2⟩), if_neg c2]
    refine am_iload_n eX8_passTrialMinute_49 rfl ?_
    refine am_iload_n eX8_passTrialMinute_50 rfl ?_
    refine am_icmp_ge ⟨by omega, by omega⟩ ⟨by omega, by omega⟩ eX8_passTrialMinute_51 (fun c1 => absurd c1 (by omega)) (fun c1 => ?_)
    refine am_aload_n eX8_passTrialMinute_54 rfl ?_
    refine am_iload_n eX8_passTrialMinute_55 rfl ?_
    refine th_bald (j := j) (v := 0) eX8_passTrialMinute_56 (by omega) (by omega) e1 ?_
    refine am_if_ne ⟨by omega, by omega⟩ eX8_passTrialMinute_57 (fun z => absurd z (by decide)) (fun _ => ?_)
    refine am_aload_n eX8_passTrialMinute_60 rfl ?_
    refine am_iload_n eX8_passTrialMinute_61 rfl ?_
    refine th_iald hAB (j := j) (v := K j) eX8_passTrialMinute_62 (by omega) (by omega) e2 ?_
    refine am_if_le ⟨by omega, by omega⟩ eX8_passTrialMinute_63 (fun c2 => ?_) (fun c2 => ?_)
    · refine am_iinc eX8_passTrialMinute_77 rfl (by decide) ?_
      refine am_goto eX8_passTrialMinute_80 ?_
      refine am_heq (h' := th h A B (t2K K (j + 1)) (t2S K S (j + 1))) ?_ (ih (j + 1) _ (by omega) (by omega))
      rw [show t2K K (j + 1) = t2K K j from funext fun z => by rw [e4, if_neg (by omega)], show t2S K S (j + 1) = t2S K S j from funext fun z => by rw [e3, if_neg (by omega)]]
    · refine am_aload_n eX8_passTrialMinute_66 rfl ?_
      refine am_iload_n eX8_passTrialMinute_67 rfl ?_
      refine am_dup2 eX8_passTrialMinute_68 ?_
      refine th_iald hAB (j := j) (v := K j) eX8_passTrialMinute_69 (by omega) (by omega) e2 ?_
      refine am_iconst eX8_passTrialMinute_70 ?_
      refine am_isub eX8_passTrialMinute_71 ?_
      refine th_iast hAB (j := j) (t2K K (j + 1)) eX8_passTrialMinute_72 (by omega) (by omega) (fun z => by
        rw [e4]
        by_cases c : z = j
        · rw [if_pos ⟨c, by omega⟩, if_pos c]
        · rw [if_neg (fun x => c x.1), if_neg c]) ?_
      refine am_aload_n eX8_passTrialMinute_73 rfl ?_
      refine am_iload_n eX8_passTrialMinute_74 rfl ?_
      refine am_iconst eX8_passTrialMinute_75 ?_
      refine th_bast (j := j) (t2S K S (j + 1)) eX8_passTrialMinute_76 (by omega) (by omega) (Or.inr rfl) (fun z => by
        rw [e3]
        by_cases c : z = j
        · rw [if_pos ⟨c, by omega⟩, if_pos c]
        · rw [if_neg (fun x => c x.1), if_neg c]) ?_
      refine am_iinc eX8_passTrialMinute_77 rfl (by decide) ?_
      refine am_goto eX8_passTrialMinute_80 ?_
      exact ih (j + 1) _ (by omega) (by omega)
/-- kept and shown after p minutes, N signs, the last tower L -/
def tK (N L p z : Nat) : Int := if z = 0 then ((N - p : Nat) : Int) else if z = L then ((min (p - L) N : Nat) : Int) else 0
def tS (N L p z : Nat) : Int := if z < L ∧ z < p ∧ p - 1 - z < N then 1 else 0
theorem tS_01 {N L p z : Nat} : tS N L p z = 0 ∨ tS N L p z = 1 := by unfold tS; split <;> simp
theorem t_stepK {N L p : Nat} (hL : 1 ≤ L) (z : Nat) : t1K (tK N L p) (tS N L p) L z = if z = 0 then ((N - p : Nat) : Int) else if z = L then ((min (p + 1 - L) N : Nat) : Int) else if z < L then tS N L p (z - 1) else 0 := by
  unfold t1K
  by_cases c0 : z = 0
  · subst c0
    rw [if_neg (by omega), if_pos rfl]; rfl
  · rw [if_neg c0]
    by_cases cL : z = L
    · subst cL
      rw [if_pos (by omega), if_pos rfl]
      unfold tK tS
      rw [if_neg c0, if_pos rfl]
      split <;> omega
    · rw [if_neg cL]
      by_cases c1 : z < L
      · rw [if_pos (by omega), if_pos c1]
        unfold tK
        rw [if_neg c0, if_neg cL]
        omega
      · rw [if_neg (by omega), if_neg c1]
        unfold tK
        rw [if_neg c0, if_neg cL]
theorem t_stepK2 {N L p : Nat} (hL : 1 ≤ L) : t2K (t1K (tK N L p) (tS N L p) L) L = tK N L (p + 1) := by
  funext z
  unfold t2K
  rw [t_stepK hL]
  by_cases c0 : z = 0
  · subst c0
    rw [if_pos rfl]
    unfold tK
    rw [if_pos rfl]
    split <;> omega
  · rw [if_neg c0]
    by_cases cL : z = L
    · subst cL
      rw [if_pos rfl, if_neg (by omega)]
      unfold tK
      rw [if_neg c0, if_pos rfl]
    · rw [if_neg cL]
      have e : tK N L (p + 1) z = 0 := by
        unfold tK
        rw [if_neg c0, if_neg cL]
      rw [e]
      by_cases c1 : z < L
      · rw [if_pos c1]
        rcases tS_01 (N := N) (L := L) (p := p) (z := z - 1) with y | y
        · rw [y, if_neg (by omega)]
        · rw [y, if_pos ⟨c1, by decide⟩]; rfl
      · rw [if_neg c1, if_neg (by omega)]
theorem t_stepS2 {N L p : Nat} (hL : 1 ≤ L) : t2S (t1K (tK N L p) (tS N L p) L) (t1S (tS N L p) L) L = tS N L (p + 1) := by
  funext z
  unfold t2S
  rw [t_stepK hL]
  by_cases c1 : z < L
  · by_cases c0 : z = 0
    · subst c0
      rw [if_pos rfl]
      unfold t1S tS
      rw [if_pos c1]
      by_cases c2 : p < N
      · rw [if_pos ⟨c1, by omega⟩, if_pos ⟨c1, by omega, by omega⟩]
      · rw [if_neg (by omega), if_neg (by omega)]
    · rw [if_neg c0, if_neg (show ¬ z = L by omega), if_pos (show z < L from c1)]
      unfold t1S tS
      rw [if_pos c1]
      by_cases c2 : z - 1 < L ∧ z - 1 < p ∧ p - 1 - (z - 1) < N
      · rw [if_pos c2, if_pos ⟨c1, by decide⟩, if_pos ⟨c1, by omega, by omega⟩]
      · rw [if_neg c2, if_neg (by omega), if_neg (by omega)]
  · rw [if_neg (fun y => c1 y.1)]
    unfold t1S tS
    rw [if_neg c1, if_neg (fun y => c1 y.1), if_neg (fun y => c1 y.1)]
set_option maxRecDepth 100000 in
set_option maxHeartbeats 4000000 in
theorem c_X8_passTrialMinute {G : am_G} {h : am_AH} {A B : am_Nm} (hAB : A ≠ B) {N L p : Nat} (hL : 1 ≤ L ∧ L ≤ 11) (hN : N ≤ 99) : am_Con G yX8_passTrialMinute wX8_passTrialMinute 1 0 0 [am_R A, am_R B, am_I (L : Int)] (th h A B (tK N L p) (tS N L p)) (am_vd (th h A B (tK N L (p + 1)) (tS N L (p + 1)))) := by
  refine am_of2 (Y := mX8_passTrialMinute) (by decide +kernel) rfl (fun z => by cases z) rfl rfl (Nat.le_of_ble_eq_true rfl) fun X => ?_
  refine am_iconst eX8_passTrialMinute_0 ?_
  refine am_istore_n eX8_passTrialMinute_1 (by decide) ?_
  refine am_heq (h' := th h A B (t1K (tK N L p) (tS N L p) 0) (t1S (tS N L p) 0)) ?_ (lq_pt1 hAB hL (fun z z1 z2 => ?_) ?_ (fun z => tS_01) (fun iv => ?_) L 0 _ rfl (by omega))
  · rw [show t1K (tK N L p) (tS N L p) 0 = tK N L p from funext fun z => if_neg (by omega), show t1S (tS N L p) 0 = tS N L p from funext fun z => if_neg (by omega)]
  · unfold tK
    rw [if_neg (by omega), if_neg (by omega)]
  · unfold tK
    rw [if_neg (by omega), if_pos rfl]
    omega
  · refine am_iconst eX8_passTrialMinute_47 ?_
    refine am_istore_n eX8_passTrialMinute_48 (by decide) ?_
    refine am_heq (h' := th h A B (t2K (t1K (tK N L p) (tS N L p) L) 0) (t2S (t1K (tK N L p) (tS N L p) L) (t1S (tS N L p) L) 0)) ?_ (lq_pt2 hAB hL (fun z => ?_) (fun z z1 => if_pos z1) (fun jv => ?_) L 0 _ rfl (by omega))
    · rw [show t2K (t1K (tK N L p) (tS N L p) L) 0 = t1K (tK N L p) (tS N L p) L from funext fun z => if_neg (by omega), show t2S (t1K (tK N L p) (tS N L p) L) (t1S (tS N L p) L) 0 = t1S (tS N L p) L from funext fun z => if_neg (by omega)]
    · rw [t_stepK hL.1]
      have := tS_01 (N := N) (L := L) (p := p) (z := z - 1)
      (repeat' split) <;> omega
    · refine am_return eX8_passTrialMinute_83 rfl (Nat.zero_le _) (Nat.zero_le _) ?_
      exact ⟨rfl, by rw [t_stepK2 hL.1]; exact congrArg (th h A B _) (t_stepS2 hL.1)⟩
