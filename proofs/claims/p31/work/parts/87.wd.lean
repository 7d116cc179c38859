/-! a dispatch sent: the stream grows -/
def up3 (f : Nat → Nat → Nat) (u d v : Nat) : Nat → Nat → Nat := fun u' d' => if u' = u ∧ d' = d then v else f u' d'
theorem up3_eq {f : Nat → Nat → Nat} {u d v : Nat} : up3 f u d v u d = v := if_pos ⟨rfl, rfl⟩
theorem up3_ne {f : Nat → Nat → Nat} {u d v u' d' : Nat} (h : u' ≠ u ∨ d' ≠ d) : up3 f u d v u' d' = f u' d' := if_neg (fun z => h.elim (fun y => y z.1) (fun y => y z.2))
def up1 (n : Nat → Nat) (u : Nat) : Nat → Nat := fun v => if v = u then n u + 1 else n v
theorem up1_eq {n : Nat → Nat} {u : Nat} : up1 n u u = n u + 1 := if_pos rfl
theorem up1_ne {n : Nat → Nat} {u v : Nat} (h : v ≠ u) : up1 n u v = n v := if_neg h
/-- what the dispatches say: phrases one behind the other, by a book -/
def dk (σ : sg_S) (S : Nat → Nat → Int) (off mny fst bok : Nat → Nat → Nat) (n : Nat → Nat) : Prop := ∀ u d, d < n u → bok u d < 2 ∧ fst u d < 6 ∧ ∀ i, i < mny u d → 92 * S u (off u d + 1 + 2 * i) + S u (off u d + 2 + 2 * i) = σ 22 (200 * bok u d + (fst u d + i) % 6)
theorem dk_of {σ ρ : sg_S} {S : Nat → Nat → Int} {off mny fst bok : Nat → Nat → Nat} {n : Nat → Nat} (h : ∀ j, ρ 22 j = σ 22 j) (hD : dk σ S off mny fst bok n) : dk ρ S off mny fst bok n := fun u d hd => by
  obtain ⟨a, b, c⟩ := hD u d hd
  exact ⟨a, b, fun i hi => by rw [h]; exact c i hi⟩
set_option maxHeartbeats 4000000 in
theorem wy_send {k : Nat} {σ : sg_S} (hR : sg_R k σ) {N : Nat} {S : Nat → Nat → Int} {off mny fst bok : Nat → Nat → Nat} {n : Nat → Nat} {β : Int} (hG : wy_GG S off mny n) (hN : 2 ≤ N) (h3 : σ 3 0 = (N : Int)) (hbw : bw σ 6 6) (hB : wy_B σ N S off mny n β β) (hD : dk σ S off mny fst bok n) {u b m q : Nat} {flI bI : Int} (hu : u = 0 ∨ u = 1) (hfl : flI = 1 - (u : Int)) (hb : b < 2) (hbI : bI = (b : Int)) (hm : 1 ≤ m ∧ m ≤ 4) (hq : q < 6) (h24 : σ 24 0 = (m : Int)) (h25 : ∀ i, i < m → σ 25 i = 100 + (((q + i) % 6 : Nat) : Int)) (hn : n u < 30) (hroom : σ 12 (2 * wy_s u N + u) + 2 * (m : Int) + 2 ≤ 200) :
    (∃ (S' : Nat → Nat → Int) (off' : Nat → Nat → Nat), wy_GG S' off' (up3 mny u (n u) m) (up1 n u) ∧ wy_B (bs_send σ flI bI 0) N S' off' (up3 mny u (n u) m) (up1 n u) β β ∧ dk (bs_send σ flI bI 0) S' off' (up3 mny u (n u) m) (up3 fst u (n u) q) (up3 bok u (n u) b) (up1 n u)) ∧
    bs_send σ flI bI 0 0 0 = 0 ∧ an_send σ flI bI 0 = σ 12 (2 * wy_s u N + u) + 2 * (m : Int) + 2 ∧ ∀ f j, f = 1 ∨ f = 3 ∨ f = 6 ∨ (21 ≤ f ∧ f ≤ 23) ∨ f = 39 ∨ f = 51 → bs_send σ flI bI 0 f j = σ f j := by
  obtain ⟨r1, r2, r3, r4⟩ := id hR
  obtain ⟨s1, s2, s3, s4, s5⟩ := sk_row (b := b) (m := m) (q := q) (bI := bI) r1 hbw hb hbI (by omega) hm.1 h24 h25
  obtain ⟨w, hw⟩ : ∃ w, w = 2 * wy_s u N + u := ⟨_, rfl⟩
  have ew : sp_sw σ flI = w := by
    unfold sp_sw
    rw [if_neg (by omega), hw, h3, Int.toNat_natCast]
    unfold wy_s
    rcases hu with rfl | rfl
    · rw [if_neg (by omega), if_neg (by decide)]
    · rw [if_pos (by omega), if_pos rfl]
  rw [← hw] at hroom ⊢
  have b12 : ∀ w, 0 ≤ σ 12 w ∧ σ 12 w ≤ 200 := fun w => wb12 r1 w
  have hlo : ∀ f j, f ≤ 48 → bs_send σ flI bI 0 f j = sp_send σ flI bI 0 f j := fun f j hf => by unfold bs_send; exact mg_lo hf
  have e51 : bs_send σ flI bI 0 51 0 = σ 51 0 := by
    unfold bs_send
    rw [mg_hi (by decide)]
    split
    · exact sq_mk_f (by decide) _ _
    · rfl
  have eS : sp_send σ flI bI 0 = sp_sent (sp_sk σ bI 0) w 0 (2 * (m : Int) + 2) := by
    unfold sp_send
    rw [if_neg (by omega), s1, ew, if_neg (by omega)]
  have eA : an_send σ flI bI 0 = σ 12 w + 2 * (m : Int) + 2 := by
    unfold an_send
    rw [if_neg (by omega), s1, ew, if_neg (by omega)]; omega
  obtain ⟨M, hM⟩ : ∃ M, M = sp_sk σ bI 0 := ⟨_, rfl⟩
  rw [← hM] at s2 s3 s4 s5 eS
  obtain ⟨X, hX⟩ : ∃ X, X = st (st M 0 0 0) 2 0 1 := ⟨_, rfl⟩
  have x0 : ∀ f j, f ≠ 0 → f ≠ 2 → f ≠ 26 → X f j = σ f j := fun f j a b c => by rw [hX, st_nf b, st_nf a, s2 f j a c]
  have x26 : ∀ j, X 26 j = M 26 j := fun j => by rw [hX, st_nf (by decide), st_nf (by decide)]
  have x00 : X 0 0 = 0 := by rw [hX, st_nf (by decide), st_eq]
  have m12 : M 12 w = σ 12 w := s2 12 w (by decide) (by decide)
  obtain ⟨ρ, hρ⟩ : ∃ ρ, ρ = sp_send σ flI bI 0 := ⟨_, rfl⟩
  have eP : ρ = st (st (sq_blk X w (σ 12 w).toNat (2 * m + 2) (X 26)) 12 w (σ 12 w + ((2 * m + 2 : Nat) : Int))) 13 w (M 13 w + 0) := by
    rw [hρ, eS]
    unfold sp_sent
    rw [if_pos rfl, if_pos rfl, ← hX, m12, show (2 * (m : Int) + 2).toNat = 2 * m + 2 by omega]
    have c12 : X 12 w = σ 12 w := x0 12 w (by decide) (by decide) (by decide)
    rw [sp_si_blk (by rw [c12]; exact (b12 w).1) (by rw [c12]; have := (b12 w).1; omega), c12]
  have p0 : ∀ f j, f ≠ 12 → f ≠ 13 → f ≠ 14 → ρ f j = X f j := fun f j a b c => by rw [eP, st_nf b, st_nf a, sq_blk_f c]
  have p12 : ρ 12 w = σ 12 w + ((2 * m + 2 : Nat) : Int) := by rw [eP, st_nf (by decide), st_eq]
  have p12o : ∀ v, v ≠ w → ρ 12 v = σ 12 v := fun v hv => by rw [eP, st_nf (by decide), st_ni hv, sq_blk_f (by decide)]; exact x0 12 v (by decide) (by decide) (by decide)
  have e14 : ∀ j, ρ 14 j = sq_blk X w (σ 12 w).toNat (2 * m + 2) (X 26) 14 j := fun j => by rw [eP, st_nf (by decide), st_nf (by decide)]
  have c12 : X 12 w = σ 12 w := x0 12 w (by decide) (by decide) (by decide)
  have bw12 := b12 w
  have p14o : ∀ v z, v ≠ w → z < 200 → ρ 14 (220 * v + z) = σ 14 (220 * v + z) := fun v z hv hz => by
    rw [e14]; unfold sq_blk
    rw [if_neg (by omega), c12, if_neg (by omega)]
    exact x0 14 _ (by decide) (by decide) (by decide)
  have p14a : ∀ j : Nat, (j : Int) < σ 12 w → ρ 14 (220 * w + j) = σ 14 (220 * w + j) := fun j hj => by
    rw [e14]; unfold sq_blk
    rw [if_neg (by omega), c12, if_neg (by omega)]
    exact x0 14 _ (by decide) (by decide) (by decide)
  have p14b : ∀ j, j < 2 * m + 2 → ρ 14 (220 * w + ((σ 12 w).toNat + j)) = M 26 j := fun j hj => by
    rw [e14]; unfold sq_blk
    rw [if_pos ⟨rfl, by omega, by omega⟩, x26]
    congr 1
    omega
  obtain ⟨L, hL⟩ : ∃ L, L = off u (n u) := ⟨_, rfl⟩
  obtain ⟨S', hS'⟩ : ∃ S' : Nat → Nat → Int, S' = fun v j => if v = u ∧ L ≤ j then M 26 (j - L) else S v j := ⟨_, rfl⟩
  obtain ⟨off', ho'⟩ : ∃ off' : Nat → Nat → Nat, off' = up3 off u (n u + 1) (L + (2 * m + 2)) := ⟨_, rfl⟩
  have sS : ∀ j, j < L → S' u j = S u j := fun j hj => by rw [hS']; exact if_neg (by omega)
  have sR : ∀ j, S' u (L + j) = M 26 j := fun j => by
    rw [hS']
    show (if u = u ∧ L ≤ L + j then M 26 (L + j - L) else _) = _
    rw [if_pos ⟨rfl, by omega⟩]; congr 1; omega
  have sv : ∀ v, v ≠ u → S' v = S v := fun v hv => by rw [hS']; funext j; exact if_neg (fun z => hv z.1)
  have ov : ∀ v, v ≠ u → off' v = off v := fun v hv => by rw [ho']; funext j; exact up3_ne (Or.inl hv)
  have mv : ∀ v, v ≠ u → up3 mny u (n u) m v = mny v := fun v hv => by funext j; exact up3_ne (Or.inl hv)
  have oo : ∀ d, d ≤ n u → off' u d = off u d := fun d hd => by rw [ho']; exact up3_ne (Or.inr (by omega))
  have on : off' u (n u + 1) = L + (2 * m + 2) := by rw [ho']; exact up3_eq
  obtain ⟨hn30, hGu⟩ := hG u
  have gS : wy_G (S' u) (off' u) (up3 mny u (n u) m u) (n u + 1) := by
    refine ⟨by rw [oo 0 (by omega)]; exact hGu.1, fun d hd => ?_⟩
    by_cases c : d = n u
    · subst c
      rw [on, oo _ (Nat.le_refl _), ← hL, up3_eq]
      refine ⟨by omega, hm, by rw [← Nat.add_zero L, sR]; exact s3, by rw [Nat.add_assoc, sR, Nat.add_comm]; exact s4, fun j hj => ?_⟩
      rw [Nat.add_assoc, sR]
      obtain ⟨i, rfl | rfl⟩ : ∃ i, j = 2 * i ∨ j = 2 * i + 1 := ⟨j / 2, by omega⟩
      · have g := wb22 r1 (200 * b + (q + i) % 6)
        rw [(s5 i (by omega)).1]; omega
      · have g := wb22 r1 (200 * b + (q + i) % 6)
        rw [show 1 + (2 * i + 1) = 2 + 2 * i by omega, (s5 i (by omega)).2]; omega
    · obtain ⟨g1, g2, g3, g4, g5⟩ := hGu.2 d (by omega)
      have ge := wy_off hGu (n u) (d + 1) (by omega) (Nat.le_refl _)
      rw [oo d (by omega), oo (d + 1) (by omega), up3_ne (Or.inr c)]
      refine ⟨g1, g2, by rw [sS _ (by omega)]; exact g3, by rw [sS _ (by omega)]; exact g4, fun j hj => by rw [sS _ (by omega)]; exact g5 j hj⟩
  have gGG : wy_GG S' off' (up3 mny u (n u) m) (up1 n u) := fun v => by
    by_cases c : v = u
    · subst c
      rw [up1_eq]; exact ⟨by omega, gS⟩
    · rw [up1_ne c, sv v c, ov v c, mv v c]; exact hG v
  have hf : ∀ f j, (15 ≤ f ∧ f ≤ 20) ∨ (27 ≤ f ∧ f ≤ 38) → ρ f j = σ f j := fun f j h => (p0 f j (by omega) (by omega) (by omega)).trans (x0 f j (by omega) (by omega) (by omega))
  have key : ∀ v, (v = 0 ∨ v = 1) → wy_W σ v N (S v) (off v) (mny v) (n v) β → wy_W ρ v N (S' v) (off' v) (up3 mny u (n u) m v) (up1 n u v) β := fun v hv hWv => by
    by_cases c : v = u
    · subst c
      rw [up1_eq]
      have w1 := wy_W_ext (S' := S' v) (off' := off' v) (mny' := up3 mny v (n v) m v) hv (by omega) (fun w => (b12 w).1) hGu (fun j hj => sS j (by omega)) oo (fun d hd => up3_ne (Or.inr (by omega))) hWv
      have eo : off' v (n v + 1) = off' v (n v) + (2 * m + 2) := by rw [on, oo _ (Nat.le_refl _), ← hL]
      refine wy_append hv hN (by omega) gS eo w1 b12 ?_ ?_ ?_ ?_ ?_ hf
      · rw [← hw]; exact p12o
      · rw [← hw]; exact p12
      · rw [← hw]; exact p14o
      · rw [← hw]; exact p14a
      · rw [← hw]; intro j hj; rw [p14b j hj, oo _ (Nat.le_refl _), ← hL, sR]
    · rw [up1_ne c, sv v c, ov v c, mv v c]
      refine wy_W_S hv (hG v).1 (hG v).2 (fun w => (b12 w).2) (fun a ha => ?_) (wy_S2_of v fun f j a b => hf f j (by omega)) hWv
      have hne : a ≠ w := by omega
      exact ⟨p12o a hne, hf 15 a (by decide), hf 16 a (by decide), hf 17 a (by decide), fun z hz => p14o a z hne hz, fun z hz => ⟨hf 19 _ (by decide), hf 20 _ (by decide)⟩⟩
  have hlo' : ∀ f j, f ≤ 48 → bs_send σ flI bI 0 f j = ρ f j := fun f j h => by rw [hρ]; exact hlo f j h
  have hBρ : wy_B ρ N S' off' (up3 mny u (n u) m) (up1 n u) β β := ⟨key 1 (Or.inr rfl) hB.1, key 0 (Or.inl rfl) hB.2⟩
  have b12ρ : ∀ v, ρ 12 v ≤ 200 := fun v => by
    by_cases c : v = w
    · rw [c, p12]; omega
    · rw [p12o v c]; exact (b12 v).2
  have fin : ∀ f j, f = 1 ∨ f = 3 ∨ f = 6 ∨ (21 ≤ f ∧ f ≤ 23) ∨ f = 39 → bs_send σ flI bI 0 f j = σ f j := fun f j h => by
    rw [hlo' f j (by omega), p0 f j (by omega) (by omega) (by omega), x0 f j (by omega) (by omega) (by omega)]
  refine ⟨⟨S', off', gGG, wy_B_of gGG b12ρ (fun f j h => hlo' f j (by omega)) hBρ, fun v d hd => ?_⟩, by rw [hlo' 0 0 (by decide), p0 0 0 (by decide) (by decide) (by decide)]; exact x00, eA, fun f j h => ?_⟩
  · by_cases c : v = u
    · subst c
      rw [up1_eq] at hd
      by_cases c2 : d = n v
      · subst c2
        rw [up3_eq, up3_eq, up3_eq, oo _ (Nat.le_refl _), ← hL]
        refine ⟨hb, hq, fun i hi => ?_⟩
        rw [Nat.add_assoc L 1, Nat.add_assoc L 2, sR, sR, (s5 i hi).1, (s5 i hi).2, fin 22 _ (by decide)]
        omega
      · obtain ⟨d1, d2, d3⟩ := hD v d (by omega)
        have ge := wy_off hGu (n v) (d + 1) (by omega) (Nat.le_refl _)
        have g1 := (hGu.2 d (by omega)).1
        rw [up3_ne (Or.inr c2), up3_ne (Or.inr c2), up3_ne (Or.inr c2), oo d (by omega)]
        refine ⟨d1, d2, fun i hi => ?_⟩
        rw [sS _ (by omega), sS _ (by omega), fin 22 _ (by decide)]
        exact d3 i hi
    · rw [up1_ne c] at hd
      rw [up3_ne (Or.inl c), up3_ne (Or.inl c), up3_ne (Or.inl c), sv v c, ov v c]
      obtain ⟨d1, d2, d3⟩ := hD v d hd
      exact ⟨d1, d2, fun i hi => by rw [fin 22 _ (by decide)]; exact d3 i hi⟩
  · rcases (show (f = 1 ∨ f = 3 ∨ f = 6 ∨ (21 ≤ f ∧ f ≤ 23) ∨ f = 39) ∨ f = 51 by omega) with z | z
    · exact fin f j z
    · subst z
      unfold bs_send
      rw [mg_hi (by decide)]
      split
      · exact sq_mk_f (by decide) _ _
      · rfl
