theorem sq_blk_2 {σ : sg_S} {i a n j : Nat} {R : Nat → Int} (h : 220 * i + a + n ≤ j ∧ j < 220 * i + (σ 12 i).toNat + n) : sq_blk σ i a n R 14 j = σ 14 (j - n) := by
  have h1 : ¬ ((14 : Nat) = 14 ∧ 220 * i + a ≤ j ∧ j < 220 * i + a + n) := by omega
  have h2 : (14 : Nat) = 14 ∧ 220 * i + a + n ≤ j ∧ j < 220 * i + (σ 12 i).toNat + n := ⟨rfl, h⟩
  unfold sq_blk
  rw [if_neg h1, if_pos h2]
theorem sp_si_blk {σ : sg_S} {w p : Nat} (b12 : 0 ≤ σ 12 w) (hp : (p : Int) ≤ σ 12 w) : ∀ n : Nat, sp_si σ w p n = st (sq_blk σ w p n (σ 26)) 12 w (σ 12 w + n)
  | 0 => by
    funext f j
    simp only [sp_si, st]
    by_cases c : f = 12 ∧ j = w
    · rw [if_pos c, c.1, c.2]; simp
    · rw [if_neg c]
      simp only [sq_blk]
      rw [if_neg (by omega)]
      split
      · rename_i h
        obtain ⟨rfl, -⟩ := h
        rfl
      · rfl
  | n + 1 => by
    have t1 : (σ 12 w + (n : Int)).toNat = (σ 12 w).toNat + n := by omega
    have e12 : st (sq_blk σ w p n (σ 26)) 12 w (σ 12 w + n) 12 w = σ 12 w + n := st_eq
    simp only [sp_si]
    rw [sp_si_blk b12 hp n]
    funext f j
    unfold sp_kp
    rw [e12, t1]
    by_cases c : f = 12 ∧ j = w
    · rw [if_pos c, c.1, c.2, st_eq]; omega
    · rw [if_neg c]
      rw [show st (sq_blk σ w p (n + 1) (σ 26)) 12 w (σ 12 w + (n + 1 : Nat)) f j = sq_blk σ w p (n + 1) (σ 26) f j from if_neg c]
      by_cases c2 : f = 14 ∧ 220 * w + (p + n) ≤ j ∧ j ≤ 220 * w + ((σ 12 w).toNat + n)
      · rw [if_pos c2]
        by_cases c3 : j = 220 * w + (p + n)
        · rw [if_pos c3]
          simp only [sq_blk]
          rw [if_pos (by omega)]
          congr 1
          omega
        · rw [if_neg c3, st_nf (by decide)]
          obtain ⟨rfl, c4, c5⟩ := c2
          rw [sq_blk_2 (by omega), sq_blk_2 (by omega)]
          congr 1
          omega
      · rw [if_neg c2, show st (sq_blk σ w p n (σ 26)) 12 w (σ 12 w + n) f j = sq_blk σ w p n (σ 26) f j from if_neg c]
        simp only [sq_blk]
        by_cases c4 : f = 14 ∧ 220 * w + p ≤ j ∧ j < 220 * w + p + n
        · rw [if_pos c4, if_pos (by omega)]
        · rw [if_neg c4, if_neg (by omega), if_neg (by omega), if_neg (by omega)]
/-- a text sent: the model's and the class's -/
def bs_send (σ : sg_S) (u b r : Int) : sg_S := mg (sp_send σ u b r) (if (0 ≤ b ∧ b ≤ 2) ∧ ¬ (σ 3 0 < 2 ∨ σ 24 0 = 0) then sq_mk σ b.toNat r.toNat (σ 24 0).toNat 0 else σ)
theorem tx_ret2 {es : List Nat} {m s y : sg_S} {a v : Int} (h : en_h m y = en_h m s) (h0 : s 0 0 = 0) (hv : v = a) : am_tx es (s 0 0) a (en_h m s) (.inl (some (am_I v))) (en_h m y) := by
  subst hv
  exact ⟨h, Or.inl ⟨h0, rfl⟩⟩
theorem tx_thr2 {es : List Nat} {m s y : sg_S} {a : Int} {i e : Nat} (hi : es[i]? = some e) (h : en_h m y = en_h m s) (hc : s 0 0 = (i : Int) + 1) : am_tx es (s 0 0) a (en_h m s) (.inr e) (en_h m y) := ⟨h, Or.inr ⟨i, e, hi, hc, rfl⟩⟩
theorem sq_mk_st {σ : sg_S} {c : Int} {b u : Nat} : (∀ n, sq_mst (st σ 0 0 c) b u n = st (sq_mst σ b u n) 0 0 c) ∧ (∀ n i, sq_mk (st σ 0 0 c) b u n i = st (sq_mk σ b u n i) 0 0 c) ∧ (∀ n i, an_mk (st σ 0 0 c) b u n i = an_mk σ b u n i) := by
  have hl : ∀ p, sp_lo (st σ 0 0 c) b p = sp_lo σ b p := fun p => sp_lo_eq (fun f j h => st_nf (by omega))
  have h25 : ∀ j, st σ 0 0 c 25 j = σ 25 j := fun j => st_nf (by decide)
  have h1 : ∀ n, sq_mst (st σ 0 0 c) b u n = st (sq_mst σ b u n) 0 0 c := by
    intro n
    induction n with
    | zero =>
      simp only [sq_mst]
      rw [st_cm (f := 0) (g := 50) (by decide), st_cm (f := 0) (g := 50) (by decide)]
    | succ n ih =>
      simp only [sq_mst, hl, h25]
      rw [ih, st_cm (f := 0) (g := 50) (by decide), st_cm (f := 0) (g := 50) (by decide)]
  refine ⟨h1, ?_, ?_⟩
  · intro n
    induction n with
    | zero =>
      intro i
      simp only [sq_mk]
      rw [h1, st_cm (f := 0) (g := 50) (by decide)]
    | succ n ih =>
      intro i
      simp only [sq_mk, hl, h25]
      split
      · exact h1 i
      · exact ih (i + 1)
  · intro n
    induction n with
    | zero => intro i; rfl
    | succ n ih =>
      intro i
      simp only [an_mk, hl, h25]
      split
      · rfl
      · exact ih (i + 1)
/-- the heap of a sending that is refused behind the laying out -/
theorem sd_thr {m x : sg_S} {u b r : Int} (hb : 0 ≤ b ∧ b ≤ 2) (ht : ¬ (x 3 0 < 2 ∨ x 24 0 = 0)) (hf : an_mk x b.toNat r.toNat (x 24 0).toNat 0 = -1 ∨ 200 < x 12 (sp_sw x u) + an_mk x b.toNat r.toNat (x 24 0).toNat 0) : en_h m (sq_mk (st x 0 0 0) b.toNat r.toNat (x 24 0).toNat 0) = en_h m (bs_send x u b r) ∧ bs_send x u b r 0 0 = 2 := by
  have hk : an_sk x b r = an_mk x b.toNat r.toNat (x 24 0).toNat 0 := by unfold an_sk; rw [if_neg ht, sq_mk_st.2.2]
  have hs : sp_send x u b r = st (sp_sk x b r) 0 0 2 := by
    unfold sp_send
    rw [if_neg (by omega), hk, if_pos hf]
  refine ⟨(cx_ag fun f j h => ?_).symm, ?_⟩
  · unfold bs_send
    rw [if_pos ⟨hb, ht⟩]
    by_cases c : f ≤ 48
    · rw [mg_lo c, hs, st_nf (by omega), sq_mk_f (by omega), st_nf (by omega)]
      unfold sp_sk
      rw [if_neg ht, sp_mk_f (by omega), st_nf (by omega)]
    · rw [mg_hi c, sq_mk_st.2.1, st_nf (by omega)]
  · unfold bs_send
    rw [mg_lo (by decide), hs, st_eq]
theorem sd_ok {m x : sg_S} {T : Int} (hW : md_wb T x) {u b r a : Int} {w : Nat} (hw : w = sp_sw x u) (hU : x 13 w ≤ x 12 w) (hb : 0 ≤ b ∧ b ≤ 2) (hr : r = 0 ∨ r = 1) (ht : ¬ (x 3 0 < 2 ∨ x 24 0 = 0)) (ha : a = an_mk x b.toNat r.toNat (x 24 0).toNat 0) (h1 : a ≠ -1) (h2 : ¬ 200 < x 12 w + a) : en_h m (st (sq_all (sq_mk (st x 0 0 0) b.toNat r.toNat (x 24 0).toNat 0) w a r) 2 0 1) = en_h m (bs_send x u b r) ∧ bs_send x u b r 0 0 = 0 := by
  have hk : an_sk x b r = a := by unfold an_sk; rw [if_neg ht, sq_mk_st.2.2, ← ha]
  have ha0 := an_mk_in (σ := x) (b := b.toNat) (u := r.toNat) (x 24 0).toNat 0
  have b12 := wb12 hW w
  have b13 := wb13 hW w
  obtain ⟨M, hM⟩ : ∃ M, M = sp_mk (st x 0 0 0) b.toNat r.toNat (x 24 0).toNat 0 := ⟨_, rfl⟩
  obtain ⟨N, hN⟩ : ∃ N, N = sq_mk (st x 0 0 0) b.toNat r.toNat (x 24 0).toNat 0 := ⟨_, rfl⟩
  have hs : sp_send x u b r = sp_sent M w r a := by
    unfold sp_send
    rw [if_neg (by omega), hk, ← hw, if_neg (by omega), hM]
    unfold sp_sk
    rw [if_neg ht]
  have eM : ∀ f j, f ≠ 26 → f ≠ 0 → M f j = x f j := fun f j g1 g2 => by rw [hM, sp_mk_f g1, st_nf g2]
  have eN : ∀ f j, f ≠ 50 → f ≠ 0 → N f j = x f j := fun f j g1 g2 => by rw [hN, sq_mk_f g1, st_nf g2]
  have eR : ∀ z : Nat, (z : Int) < a → N 50 z = M 26 z := fun z hz => by
    rw [hN, hM]
    exact sq_mk_26 (by omega) (fun p => rfl) (fun j => rfl) _ _ z (by rw [sq_mk_st.2.2, ← ha]; exact h1) (by rw [sq_mk_st.2.2, ← ha]; exact hz)
  obtain ⟨p, hp⟩ : ∃ p : Nat, p = if r = 0 then (M 12 w).toNat else (M 13 w).toNat := ⟨_, rfl⟩
  have hp2 : (p : Int) ≤ x 12 w := by
    rw [hp, eM 12 w (by decide) (by decide), eM 13 w (by decide) (by decide)]
    split <;> omega
  obtain ⟨τ, hτ⟩ : ∃ τ, τ = st (st M 0 0 0) 2 0 1 := ⟨_, rfl⟩
  have eτ : ∀ f j, f ≠ 26 → f ≠ 0 → f ≠ 2 → τ f j = x f j := fun f j g1 g2 g3 => by rw [hτ, st_nf g3, st_nf g2]; exact eM f j g1 g2
  have eT : sp_sent M w r a = st (st (sq_blk τ w p a.toNat (τ 26)) 12 w (x 12 w + a)) 13 w (x 13 w + (if r = 0 then 0 else a)) := by
    unfold sp_sent
    rw [← hp, ← hτ, eM 13 w (by decide) (by decide)]
    have e12 := eτ 12 w (by decide) (by decide) (by decide)
    rw [sp_si_blk (by rw [e12]; omega) (by rw [e12]; exact hp2), e12, show x 12 w + (a.toNat : Nat) = x 12 w + a by omega]
  have eA : ∀ f j, f ≤ 48 → f ≠ 0 → f ≠ 26 → st (sq_all N w a r) 2 0 1 f j = sp_sent M w r a f j := fun f j g1 g2 g3 => by
    have n12 := eN 12 w (by decide) (by decide)
    have n13 := eN 13 w (by decide) (by decide)
    rw [eT]
    unfold sq_all
    rw [n12, n13, if_neg (by omega)]
    have hB : ∀ f j, f ≠ 2 → f ≤ 48 → f ≠ 0 → f ≠ 26 → sq_blk N w p a.toNat (N 50) f j = sq_blk τ w p a.toNat (τ 26) f j := fun f j k1 k2 k3 k4 => by
      simp only [sq_blk]
      rw [n12, eτ 12 w (by decide) (by decide) (by decide)]
      by_cases c1 : f = 14 ∧ 220 * w + p ≤ j ∧ j < 220 * w + p + a.toNat
      · rw [if_pos c1, if_pos c1, eR _ (by omega), hτ, st_nf (by decide), st_nf (by decide)]
      · rw [if_neg c1, if_neg c1, eN _ _ (by decide) (by decide), eτ _ _ (by decide) (by decide) (by decide), eN f j (by omega) k3, eτ f j k4 k3 k1]
    have hp' : p = if r = 0 then (x 12 w).toNat else (x 13 w).toNat := by rw [hp, eM 12 w (by decide) (by decide), eM 13 w (by decide) (by decide)]
    rcases hr with rfl | rfl
    · rw [if_pos rfl] at hp'
      rw [if_pos rfl, if_pos rfl, ← hp', Int.add_zero]
      by_cases k1 : f = 2
      · subst k1
        rw [st_nf (f := 13) (by decide), st_nf (f := 12) (by decide), sq_blk_f (by decide), hτ]
        simp only [st]
        by_cases c : j = 0
        · simp [c]
        · simp [c]
          rw [sq_blk_f (by decide), eN 2 j (by decide) (by decide), eM 2 j (by decide) (by decide)]
      · rw [st_nf k1]
        by_cases c : f = 13 ∧ j = w
        · obtain ⟨rfl, rfl⟩ := c
          rw [st_eq, st_nf (by decide), sq_blk_f (by decide), n13]
        · rw [show st (st (sq_blk τ w p a.toNat (τ 26)) 12 w (x 12 w + a)) 13 w (x 13 w) f j = st (sq_blk τ w p a.toNat (τ 26)) 12 w (x 12 w + a) f j from if_neg c]
          simp only [st]
          split
          · rfl
          · exact hB f j k1 g1 g2 g3
    · rw [if_neg (by decide)] at hp'
      rw [if_neg (by decide), if_neg (by decide), ← hp']
      by_cases k1 : f = 2
      · subst k1
        rw [st_nf (f := 13) (g := 2) (by decide), st_nf (f := 12) (by decide), sq_blk_f (by decide), hτ]
        simp only [st]
        by_cases c : j = 0
        · simp [c]
        · simp [c]
          rw [sq_blk_f (by decide), eN 2 j (by decide) (by decide), eM 2 j (by decide) (by decide)]
      · rw [st_nf k1]
        simp only [st]
        split
        · rfl
        · split
          · rfl
          · exact hB f j k1 g1 g2 g3
  have h50 : ∀ f j, ¬ f ≤ 48 → st (sq_all N w a r) 2 0 1 f j = N f j := fun f j g => by
    rw [st_nf (by omega)]
    unfold sq_all
    split
    · rfl
    · split
      · rw [st_nf (by omega), sq_blk_f (by omega)]
      · rw [st_nf (by omega), st_nf (by omega), sq_blk_f (by omega)]
  rw [← hN]
  refine ⟨(cx_ag fun f j h => ?_).symm, ?_⟩
  · unfold bs_send
    rw [if_pos ⟨hb, ht⟩]
    by_cases c : f ≤ 48
    · rw [mg_lo c, hs, eA f j c (by omega) (by omega)]
    · rw [mg_hi c, h50 f j c, hN, sq_mk_st.2.1, st_nf (by omega)]
  · unfold bs_send
    rw [mg_lo (by decide), hs, eT, st_nf (by decide), st_nf (by decide), sq_blk_f (by decide), hτ, st_nf (by decide), st_eq]

