/-! a dispatch is sent, for the stream -/
theorem wy_W_ext {σ : sg_S} {u N n : Nat} {S S' : Nat → Int} {off off' mny mny' : Nat → Nat} {β : Int} (hu : u = 0 ∨ u = 1) (hN : 0 < N) (b12 : ∀ w, 0 ≤ σ 12 w) (hG : wy_G S off mny n) (hS : ∀ j, j < off n → S' j = S j) (ho : ∀ d, d ≤ n → off' d = off d) (hm : ∀ d, d < n → mny' d = mny d) (hW : wy_W σ u N S off mny n β) : wy_W σ u N S' off' mny' n β := by
  obtain ⟨T, ⟨a1, a2, a3, a4⟩, q2, c, c1, c2, c3, c4, c5⟩ := hW
  have hT : ∀ t, t < N → T t ≤ off n := fun t ht => by rw [← q2]; exact wy_mono hu b12 a1 _ t ht rfl
  refine ⟨T, ⟨a1, fun t j i ht he hj hi => ?_, fun t ht he hh => ?_, fun t ht he => ?_⟩, by rw [ho n (Nat.le_refl _)]; exact q2, c, c1, c2, c3, ?_, fun k hk => ?_⟩
  · have := hT t ht
    rw [hS i (by omega)]; exact a2 t j i ht he hj hi
  · have := hT t ht
    have g := a1 t ht he
    have := b12 (2 * t + u)
    rw [hh] at g
    rw [hS _ (by omega)]; exact a3 t ht he hh
  · obtain ⟨z1, z2⟩ := a4 t ht he
    have := hT t ht
    exact ⟨z1, fun j hj hjT => by rw [hS j (by omega)]; exact z2 j hj hjT⟩
  · rw [ho c c1]
    rcases c4 with q | ⟨q0, q1, q2, q3, q4, q5, q6, q7⟩
    · exact Or.inl q
    · have g := wy_off hG n (c + 1) q0 (Nat.le_refl _)
      refine Or.inr ⟨q0, by rw [ho c c1]; exact q1, by rw [ho (c + 1) q0]; exact q2, q3, q4, by rw [ho c c1]; exact q5, q6, fun j hj => ?_⟩
      rw [ho c c1] at hj ⊢
      rw [hS _ (by omega)]; exact q7 j hj
  · obtain ⟨d1, d2, d3, d4⟩ := c5 k hk
    have g := wy_off hG n (k + 1) (by omega) (Nat.le_refl _)
    have g1 := (hG.2 k (by omega)).1
    refine ⟨d1, d2, by rw [hm k (by omega)]; exact d3, fun j hj => ?_⟩
    rw [hm k (by omega)] at hj
    rw [ho k (by omega), hS _ (by omega)]; exact d4 j hj
/-- signs are put behind what the first tower of the way keeps -/
theorem wy_append {σ ρ : sg_S} {u N n : Nat} {S : Nat → Int} {off mny : Nat → Nat} {β : Int} {L : Nat} (hu : u = 0 ∨ u = 1) (hN : 2 ≤ N) (hn : n + 1 ≤ 30) (hG : wy_G S off mny (n + 1)) (hL : off (n + 1) = off n + L) (hW : wy_W σ u N S off mny n β)
    (b12 : ∀ w, 0 ≤ σ 12 w ∧ σ 12 w ≤ 200) (h12 : ∀ v, v ≠ 2 * wy_s u N + u → ρ 12 v = σ 12 v) (k12 : ρ 12 (2 * wy_s u N + u) = σ 12 (2 * wy_s u N + u) + L) (h14 : ∀ v z, v ≠ 2 * wy_s u N + u → z < 200 → ρ 14 (220 * v + z) = σ 14 (220 * v + z)) (k14 : ∀ j : Nat, (j : Int) < σ 12 (2 * wy_s u N + u) → ρ 14 (220 * (2 * wy_s u N + u) + j) = σ 14 (220 * (2 * wy_s u N + u) + j))
    (k14b : ∀ j, j < L → ρ 14 (220 * (2 * wy_s u N + u) + ((σ 12 (2 * wy_s u N + u)).toNat + j)) = S (off n + j)) (hf : ∀ f j, (15 ≤ f ∧ f ≤ 20) ∨ (27 ≤ f ∧ f ≤ 38) → ρ f j = σ f j) : wy_W ρ u N S off mny (n + 1) β := by
  obtain ⟨T, ⟨a1, a2, a3, a4⟩, q2, hT⟩ := hW
  have hGn : wy_G S off mny n := ⟨hG.1, fun d hd => hG.2 d (by omega)⟩
  have hTρ := wy_T_S (by omega) hGn (wy_S2_of u fun f j a b => hf f j (by omega)) hT
  obtain ⟨s, hs⟩ : ∃ s, s = wy_s u N := ⟨_, rfl⟩
  rw [← hs] at h12 k12 h14 k14 k14b q2
  have hse : s ≠ wy_e u N := by
    rw [hs]; unfold wy_s wy_e
    rcases hu with rfl | rfl
    · simp; omega
    · simp; omega
  have hns : ∀ t, t < N → t ≠ wy_e u N → wy_n u t ≠ s := by
    intro t h1 h2
    rw [hs]; unfold wy_n wy_s; unfold wy_e at h2
    rcases hu with rfl | rfl
    · simp at h2 ⊢; omega
    · simp
  obtain ⟨T', hT'⟩ : ∃ T' : Nat → Nat, T' = fun t => if t = s then off n + L else T t := ⟨_, rfl⟩
  have e1 : T' s = off n + L := by rw [hT']; exact if_pos rfl
  have e2 : ∀ t, t ≠ s → T' t = T t := fun t h => by rw [hT']; exact if_neg h
  have hh : ∀ t, wy_h ρ (2 * t + u) = wy_h σ (2 * t + u) := fun t => wy_h_eq (hf 15 _ (by decide)) (hf 16 _ (by decide))
  refine ⟨T', ⟨fun t ht he => ?_, fun t j i ht he hj hi => ?_, fun t ht he hhh => ?_, fun t ht he => ?_⟩, by rw [← hs, e1, hL], ?_⟩
  · have g := a1 t ht he
    rw [e2 _ (hns t ht he), hh]
    by_cases c : t = s
    · subst c
      rw [e1, k12]; omega
    · rw [e2 t c, h12 _ (by omega)]; exact g
  · by_cases c : t = s
    · subst c
      rw [e1, k12] at hi
      rw [k12] at hj
      have := b12 (2 * t + u)
      by_cases c2 : (j : Int) < σ 12 (2 * t + u)
      · rw [k14 j c2]; exact a2 t j i ht he c2 (by omega)
      · have e : j = (σ 12 (2 * t + u)).toNat + (j - (σ 12 (2 * t + u)).toNat) := by omega
        rw [e, k14b _ (by omega)]
        congr 1
        omega
    · rw [e2 t c] at hi
      rw [h12 _ (by omega)] at hj hi
      have := b12 (2 * t + u)
      rw [h14 _ j (by omega) (by omega)]; exact a2 t j i ht he hj hi
  · rw [hh] at hhh
    rw [hf 15 _ (by decide), e2 _ (hns t ht he)]; exact a3 t ht he hhh
  · rw [← hs] at he
    rw [e2 t he, hf 17 _ (by decide)]
    obtain ⟨z1, z2⟩ := a4 t ht (by rw [← hs]; exact he)
    exact ⟨z1, fun j hj hjT => by rw [hf 19 _ (by decide), hf 20 _ (by decide)]; exact z2 j hj hjT⟩
  · rw [e2 _ (Ne.symm hse)]
    obtain ⟨c, c1, c2, c3, c4, c5⟩ := hTρ
    refine ⟨c, by omega, c2, c3, ?_, c5⟩
    rcases c4 with q | ⟨q0, q⟩
    · exact Or.inl q
    · exact Or.inr ⟨by omega, q⟩
/-! books: six phrases each -/
/-- the first k0, k1 phrases of the books 0, 1 -/
def bw (σ : sg_S) (k0 k1 : Nat) : Prop := (σ 21 0 = (k0 : Int) ∧ σ 21 1 = (k1 : Int)) ∧ (∀ j, j < k0 → σ 23 j = 100 + (j : Int) ∧ σ 22 j % 92 = (j : Int)) ∧ (∀ j, j < k1 → σ 23 (200 + j) = 100 + (j : Int) ∧ σ 22 (200 + j) / 92 = (j : Int))
theorem bw_of {σ ρ : sg_S} {k0 k1 : Nat} (h : ∀ f j, 21 ≤ f → f ≤ 23 → ρ f j = σ f j) (hB : bw σ k0 k1) : bw ρ k0 k1 := by
  obtain ⟨⟨a, b⟩, c, d⟩ := hB
  refine ⟨⟨(h 21 _ (by decide) (by decide)).trans a, (h 21 _ (by decide) (by decide)).trans b⟩, fun j hj => ?_, fun j hj => ?_⟩
  · rw [h 23 _ (by decide) (by decide), h 22 _ (by decide) (by decide)]; exact c j hj
  · rw [h 23 _ (by decide) (by decide), h 22 _ (by decide) (by decide)]; exact d j hj
theorem bw_0 {σ : sg_S} {p kI v : Int} {k : Nat} (hB : bw σ k k) (hk : k < 6) (hp : 0 ≤ p ∧ p ≤ 91) (hkI : kI = (k : Int)) (hv : v = 100 + (k : Int)) : bw (sp_write σ 0 p kI v) (k + 1) k ∧ sp_write σ 0 p kI v 0 0 = 0 ∧ ∀ f j, f ≠ 0 → f ≠ 21 → f ≠ 22 → f ≠ 23 → sp_write σ 0 p kI v f j = σ f j := by
  obtain ⟨⟨a, b⟩, c, d⟩ := hB
  have t0 : (0 : Int).toNat = 0 := rfl
  have hn : sp_fnd σ 0 (92 * p + kI) (σ 21 0).toNat = -1 := by
    rcases sp_fnd_sp (σ := σ) (b := 0) (s := 92 * p + kI) (σ 21 0).toNat with ⟨z, -⟩ | ⟨i, z1, z2, -⟩
    · exact z
    · have g := (c i (by omega)).2
      rw [Nat.mul_zero, Nat.zero_add] at z2
      omega
  have e : sp_write σ 0 p kI v = st (st (st (st σ 0 0 0) 21 0 ((k : Int) + 1)) 22 k (92 * p + kI)) 23 k v := by
    unfold sp_write
    rw [if_neg (by omega), if_neg (by omega), t0, hn, if_neg (by omega), if_pos (by omega), if_pos rfl, a, Int.toNat_natCast, Nat.mul_zero, Nat.zero_add]
  rw [e]
  obtain ⟨X, hX⟩ : ∃ X, X = st (st (st (st σ 0 0 0) 21 0 ((k : Int) + 1)) 22 k (92 * p + kI)) 23 k v := ⟨_, rfl⟩
  have x21 : ∀ j, X 21 j = if j = 0 then (k : Int) + 1 else σ 21 j := fun j => by rw [hX]; simp [st]
  have x22 : ∀ j, X 22 j = if j = k then 92 * p + kI else σ 22 j := fun j => by rw [hX]; simp [st]
  have x23 : ∀ j, X 23 j = if j = k then v else σ 23 j := fun j => by rw [hX]; simp [st]
  rw [← hX]
  refine ⟨⟨⟨by rw [x21, if_pos rfl]; omega, by rw [x21, if_neg (by decide)]; exact b⟩, fun j hj => ?_, fun j hj => ?_⟩, by rw [hX, st_nf (by decide), st_nf (by decide), st_nf (by decide), st_eq], fun f j a b c d => by rw [hX, st_nf d, st_nf c, st_nf b, st_nf a]⟩
  · rw [x22, x23]
    by_cases z : j = k
    · rw [if_pos z, if_pos z]; omega
    · rw [if_neg z, if_neg z]; exact c j (by omega)
  · rw [x22, x23, if_neg (by omega), if_neg (by omega)]; exact d j hj
theorem bw_1 {σ : sg_S} {l kI v : Int} {k : Nat} (hB : bw σ (k + 1) k) (hk : k < 6) (hl : 0 ≤ l ∧ l ≤ 91) (hkI : kI = (k : Int)) (hv : v = 100 + (k : Int)) : bw (sp_write σ 1 kI l v) (k + 1) (k + 1) ∧ sp_write σ 1 kI l v 0 0 = 0 ∧ ∀ f j, f ≠ 0 → f ≠ 21 → f ≠ 22 → f ≠ 23 → sp_write σ 1 kI l v f j = σ f j := by
  obtain ⟨⟨a, b⟩, c, d⟩ := hB
  have t0 : (1 : Int).toNat = 1 := rfl
  have hn : sp_fnd σ 1 (92 * kI + l) (σ 21 1).toNat = -1 := by
    rcases sp_fnd_sp (σ := σ) (b := 1) (s := 92 * kI + l) (σ 21 1).toNat with ⟨z, -⟩ | ⟨i, z1, z2, -⟩
    · exact z
    · have g := (d i (by omega)).2
      rw [Nat.mul_one] at z2
      omega
  have e : sp_write σ 1 kI l v = st (st (st (st σ 0 0 0) 21 1 ((k : Int) + 1)) 22 (200 + k) (92 * kI + l)) 23 (200 + k) v := by
    unfold sp_write
    rw [if_neg (by omega), if_neg (by omega), t0, hn, if_neg (by omega), if_pos (by omega), if_pos rfl, b, Int.toNat_natCast, Nat.mul_one]
  rw [e]
  obtain ⟨X, hX⟩ : ∃ X, X = st (st (st (st σ 0 0 0) 21 1 ((k : Int) + 1)) 22 (200 + k) (92 * kI + l)) 23 (200 + k) v := ⟨_, rfl⟩
  have x21 : ∀ j, X 21 j = if j = 1 then (k : Int) + 1 else σ 21 j := fun j => by rw [hX]; simp [st]
  have x22 : ∀ j, X 22 j = if j = 200 + k then 92 * kI + l else σ 22 j := fun j => by rw [hX]; simp [st]
  have x23 : ∀ j, X 23 j = if j = 200 + k then v else σ 23 j := fun j => by rw [hX]; simp [st]
  rw [← hX]
  refine ⟨⟨⟨by rw [x21, if_neg (by decide)]; exact a, by rw [x21, if_pos rfl]; omega⟩, fun j hj => ?_, fun j hj => ?_⟩, by rw [hX, st_nf (by decide), st_nf (by decide), st_nf (by decide), st_eq], fun f j a b c d => by rw [hX, st_nf d, st_nf c, st_nf b, st_nf a]⟩
  · rw [x22, x23, if_neg (by omega), if_neg (by omega)]; exact c j hj
  · rw [x22, x23]
    by_cases z : j = k
    · rw [if_pos (by omega), if_pos (by omega)]; omega
    · rw [if_neg (by omega), if_neg (by omega)]; exact d j (by omega)
/-- a full pair of books, whichever -/
theorem bw_at {σ : sg_S} (hB : bw σ 6 6) {b j : Nat} (hb : b < 2) (hj : j < 6) : σ 21 b = 6 ∧ σ 23 (200 * b + j) = 100 + (j : Int) := by
  obtain ⟨⟨a1, a2⟩, c, d⟩ := hB
  rcases (show b = 0 ∨ b = 1 by omega) with rfl | rfl
  · exact ⟨a1, by rw [Nat.mul_zero, Nat.zero_add]; exact (c j hj).1⟩
  · exact ⟨a2, by rw [Nat.mul_one]; exact (d j hj).1⟩
theorem bw_low {T : Int} {σ : sg_S} (hW : md_wb T σ) (hB : bw σ 6 6) {b q : Nat} (hb : b < 2) (hq : q < 6) {v : Int} (hv : v = 100 + (q : Int)) : sp_lo σ b v = σ 22 (200 * b + q) := by
  have key : ∀ n, n ≤ 6 → sp_low σ b v n = if q < n then σ 22 (200 * b + q) else -1 := by
    intro n
    induction n with
    | zero => intro _; rfl
    | succ n ih =>
      intro hn
      have i := ih (by omega)
      have g := (bw_at hB hb (show n < 6 by omega)).2
      have g0 := (wb22 hW (200 * b + q)).1
      simp only [sp_low]
      rw [i]
      by_cases c : n = q
      · subst c
        rw [if_neg (Nat.lt_irrefl _), if_pos ⟨by omega, Or.inl rfl⟩, if_pos (by omega)]
      · rw [if_neg (fun z => by have := z.1; omega)]
        by_cases c2 : q < n
        · rw [if_pos c2, if_pos (by omega)]
        · rw [if_neg c2, if_neg (by omega)]
  unfold sp_lo
  rw [(bw_at hB hb hq).1]
  have := key 6 (Nat.le_refl _)
  rw [if_pos hq] at this
  exact this
/-- a spot of the book is found where it stands -/
theorem bw_find {σ : sg_S} (hB : bw σ 6 6) (hN : sg_N σ) {b q : Nat} (hb : b < 2) (hq : q < 6) {s : Int} (hs : s = σ 22 (200 * b + q)) : sp_fnd σ b s (σ 21 b).toNat = ((200 * b + q : Nat) : Int) := by
  have e := (bw_at hB hb hq).1
  rcases sp_fnd_sp (σ := σ) (b := b) (s := s) (σ 21 b).toNat with ⟨-, z⟩ | ⟨i, z1, z2, z3⟩
  · exact absurd hs.symm (z q (by omega))
  · have := hN b i q (by omega) (by omega) (z2.trans hs)
    rw [z3, this]
/-! the row of signs -/
theorem mk_all {σ : sg_S} {b u m : Nat} (h : ∀ i, i < m → sp_lo σ b (σ 25 i) ≠ -1) : ∀ n i, i + n = m → an_mk σ b u n i = (u : Int) + 2 * (m : Int) + 2 ∧ sp_mk σ b u n i = st (sp_mst σ b u m) 26 (u + 1 + 2 * m) 93
  | 0, i, e => by
    rw [show i = m by omega]; exact ⟨rfl, rfl⟩
  | n + 1, i, e => by
    have c := h i (by omega)
    obtain ⟨z1, z2⟩ := mk_all h n (i + 1) (by omega)
    simp only [an_mk, sp_mk]
    rw [if_neg c, if_neg c]
    exact ⟨z1, z2⟩
theorem mst_row {σ : sg_S} {b : Nat} : ∀ n, sp_mst σ b 0 n 26 0 = 92 ∧ ∀ i, i < n → sp_mst σ b 0 n 26 (1 + 2 * i) = sp_lo σ b (σ 25 i) / 92 ∧ sp_mst σ b 0 n 26 (2 + 2 * i) = sp_lo σ b (σ 25 i) % 92
  | 0 => ⟨st_eq, fun i hi => absurd hi (Nat.not_lt_zero i)⟩
  | n + 1 => by
    obtain ⟨z1, z2⟩ := mst_row (σ := σ) (b := b) n
    simp only [sp_mst]
    refine ⟨by rw [st_ni (by omega), st_ni (by omega)]; exact z1, fun i hi => ?_⟩
    by_cases c : i = n
    · subst c
      exact ⟨by rw [st_ni (by omega), show 1 + 2 * i = 0 + 1 + 2 * i by omega, st_eq], by rw [show 2 + 2 * i = 0 + 1 + 2 * i + 1 by omega, st_eq]⟩
    · rw [st_ni (by omega), st_ni (by omega), st_ni (by omega), st_ni (by omega)]
      exact z2 i (by omega)
theorem sp_lo_0 {σ : sg_S} {b : Nat} {v : Int} : sp_lo (st σ 0 0 0) b v = sp_lo σ b v := by
  unfold sp_lo
  rw [st_nf (by decide)]
  exact sp_low_eq (fun j => ⟨st_nf (by decide), st_nf (by decide)⟩) _
/-- a text of m phrases, laid out -/
theorem sk_row {T : Int} {σ : sg_S} (hW : md_wb T σ) (hB : bw σ 6 6) {b m q : Nat} {bI : Int} (hb : b < 2) (hbI : bI = (b : Int)) (h3 : 2 ≤ σ 3 0) (hm : 1 ≤ m) (h24 : σ 24 0 = (m : Int)) (h25 : ∀ i, i < m → σ 25 i = 100 + (((q + i) % 6 : Nat) : Int)) : an_sk σ bI 0 = 2 * (m : Int) + 2 ∧ (∀ f j, f ≠ 0 → f ≠ 26 → sp_sk σ bI 0 f j = σ f j) ∧ sp_sk σ bI 0 26 0 = 92 ∧ sp_sk σ bI 0 26 (1 + 2 * m) = 93 ∧ ∀ i, i < m → sp_sk σ bI 0 26 (1 + 2 * i) = σ 22 (200 * b + (q + i) % 6) / 92 ∧ sp_sk σ bI 0 26 (2 + 2 * i) = σ 22 (200 * b + (q + i) % 6) % 92 := by
  have tb : bI.toNat = b := by rw [hbI]; exact Int.toNat_natCast b
  have tm : (σ 24 0).toNat = m := by rw [h24]; exact Int.toNat_natCast m
  have hlo : ∀ i, i < m → sp_lo (st σ 0 0 0) b ((st σ 0 0 0) 25 i) = σ 22 (200 * b + (q + i) % 6) := fun i hi => by
    rw [sp_lo_0, st_nf (by decide)]
    exact bw_low hW hB hb (Nat.mod_lt _ (by decide)) (h25 i hi)
  obtain ⟨z1, z2⟩ := mk_all (σ := st σ 0 0 0) (b := b) (u := 0) (m := m) (fun i hi => by rw [hlo i hi]; have := (wb22 hW (200 * b + (q + i) % 6)).1; omega) m 0 (Nat.zero_add m)
  obtain ⟨r1, r2⟩ := mst_row (σ := st σ 0 0 0) (b := b) m
  have t0 : (0 : Int).toNat = 0 := rfl
  have ea : an_sk σ bI 0 = 2 * (m : Int) + 2 := by
    unfold an_sk
    rw [if_neg (by omega), tb, tm, t0, z1]; omega
  have es : sp_sk σ bI 0 = st (sp_mst (st σ 0 0 0) b 0 m) 26 (0 + 1 + 2 * m) 93 := by
    unfold sp_sk
    rw [if_neg (by omega), tb, tm, t0, z2]
  refine ⟨ea, fun f j a b => by rw [es, st_nf b, sp_mst_f b, st_nf a], by rw [es, st_ni (by omega)]; exact r1, by rw [es, show 1 + 2 * m = 0 + 1 + 2 * m by omega, st_eq], fun i hi => ?_⟩
  rw [es, st_ni (by omega), st_ni (by omega), (r2 i hi).1, (r2 i hi).2, hlo i hi]
  exact ⟨rfl, rfl⟩
