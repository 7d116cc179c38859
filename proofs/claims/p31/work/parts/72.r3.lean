/-! a dispatch sent: its signs read by the machine -/
theorem sp_mk_e {σ : sg_S} {b u : Nat} : ∀ n i, an_mk σ b u n i ≠ -1 → sp_mk σ b u n i = st (sp_mst σ b u (i + n)) 26 (u + 1 + 2 * (i + n)) 93 ∧ ∀ k, i ≤ k → k < i + n → sp_lo σ b (σ 25 k) ≠ -1
  | 0, i, _ => ⟨rfl, fun k h1 h2 => by omega⟩
  | n + 1, i, h => by
    simp only [an_mk] at h
    by_cases c : sp_lo σ b (σ 25 i) = -1
    · rw [if_pos c] at h; exact absurd rfl h
    · rw [if_neg c] at h
      obtain ⟨g1, g2⟩ := sp_mk_e n (i + 1) h
      refine ⟨?_, fun k h1 h2 => ?_⟩
      · simp only [sp_mk]
        rw [if_neg c, g1, show i + 1 + n = i + (n + 1) by omega]
      · by_cases e : k = i
        · rw [e]; exact c
        · exact g2 k (by omega) (by omega)
theorem sp_mst_R {T : Int} {σ : sg_S} (hW : md_wb T σ) {b u : Nat} (hu : u ≤ 1) : ∀ n, (∀ k, k < n → sp_lo σ b (σ 25 k) ≠ -1) → sp_mst σ b u n 26 u = 92 ∧ (u = 1 → sp_mst σ b u n 26 0 = 96) ∧ ∀ z, u + 1 ≤ z → z < u + 1 + 2 * n → 0 ≤ sp_mst σ b u n 26 z ∧ sp_mst σ b u n 26 z < 92
  | 0, _ => by
    refine ⟨?_, fun h => ?_, fun z h1 h2 => by omega⟩
    · simp only [sp_mst]; rw [st_eq]
    · simp only [sp_mst]; rw [st_ni (by omega), st_eq]
  | n + 1, h => by
    obtain ⟨g1, g2, g3⟩ := sp_mst_R hW hu n fun k hk => h k (by omega)
    have hl := sp_lo_in hW (b := b) (p := σ 25 n)
    have hn := h n (by omega)
    simp only [sp_mst]
    refine ⟨?_, fun h' => ?_, fun z h1 h2 => ?_⟩
    · rw [st_ni (by omega), st_ni (by omega)]; exact g1
    · rw [st_ni (by omega), st_ni (by omega)]; exact g2 h'
    · by_cases c1 : z = u + 1 + 2 * n + 1
      · rw [c1, st_eq]; omega
      · rw [st_ni c1]
        by_cases c2 : z = u + 1 + 2 * n
        · rw [c2, st_eq]; omega
        · rw [st_ni c2]; exact g3 z h1 (by omega)
theorem rk_blk0 {R : Nat → Int} {e n : Nat} (h92 : R 0 = 92) (hl : ∀ z, 1 ≤ z → z < 1 + 2 * n → 0 ≤ R z ∧ R z < 92) (h93 : R (1 + 2 * n) = 93) (he : e % 8 = 0) : (∀ j, j ≤ 2 * n + 2 → rk R e j % 8 ≤ 1) ∧ rk R e (2 * n + 2) = e + 8 := by
  have h1 : rk R e 1 = e + 9 := by
    show de e (R 0) = _
    rw [h92]; unfold de
    rw [he, if_pos rfl, show dq 0 92 = 1 by decide]; omega
  have h2 : ∀ i, i ≤ 2 * n → rk R e (1 + i) = e + 9 := fun i hi => by
    rw [rk_add, h1]
    exact rk_let (by omega) i fun j hj => hl (1 + j) (by omega) (by omega)
  have h3 : rk R e (2 * n + 2) = e + 8 := by
    rw [show 2 * n + 2 = (1 + 2 * n) + 1 by omega]
    simp only [rk]
    rw [h2 (2 * n) (Nat.le_refl _), h93]
    unfold de
    rw [if_neg (by decide), show (e + 9) % 8 = 1 by omega, show dq 1 93 = 0 by decide]; omega
  refine ⟨fun j hj => ?_, h3⟩
  by_cases c0 : j = 0
  · rw [c0]; show e % 8 ≤ 1; omega
  · by_cases c1 : j = 2 * n + 2
    · rw [c1, h3]; omega
    · rw [show j = 1 + (j - 1) by omega, h2 (j - 1) (by omega)]; omega
theorem rk_blk1 {R : Nat → Int} {e n : Nat} (h96 : R 0 = 96) (h92 : R 1 = 92) (hl : ∀ z, 2 ≤ z → z < 2 + 2 * n → 0 ≤ R z ∧ R z < 92) (h93 : R (2 + 2 * n) = 93) (he : e % 8 ≤ 1) : rk R e (2 * n + 3) = e + 8 := by
  have h2 : rk R e 2 = if e % 8 = 0 then e + 11 else e + 12 := by
    show de (de e (R 0)) (R 1) = _
    rw [h96, h92]
    by_cases c : e % 8 = 0
    · have x : de e 96 = e + 2 := by
        unfold de
        rw [c, if_neg (by decide), show dq 0 96 = 2 by decide]; omega
      rw [x, if_pos c]; unfold de
      rw [if_pos rfl, show (e + 2) % 8 = 2 by omega, show dq 2 92 = 3 by decide]; omega
    · have x : de e 96 = e + 3 := by
        unfold de
        rw [show e % 8 = 1 by omega, if_neg (by decide), show dq 1 96 = 4 by decide]; omega
      rw [x, if_neg c]; unfold de
      rw [if_pos rfl, show (e + 3) % 8 = 4 by omega, show dq 4 92 = 5 by decide]; omega
  have h3 : rk R e (2 + 2 * n) = if e % 8 = 0 then e + 11 else e + 12 := by
    rw [rk_add, h2]
    refine rk_let ?_ (2 * n) fun j hj => hl (2 + j) (by omega) (by omega)
    split <;> omega
  rw [show 2 * n + 3 = (2 + 2 * n) + 1 by omega]
  simp only [rk]
  rw [h3, h93]
  by_cases c : e % 8 = 0
  · rw [if_pos c]; unfold de
    rw [if_neg (by decide), show (e + 11) % 8 = 3 by omega, show dq 3 93 = 0 by decide]; omega
  · rw [if_neg c]; unfold de
    rw [if_neg (by decide), show (e + 12) % 8 = 5 by omega, show dq 5 93 = 1 by decide]; omega
theorem si_P_0 {k : Nat} {y c : Int} {σ : sg_S} (h : si_P k y σ) : si_P k y (st σ 0 0 c) := si_P_of (fun f j hf => st_nf (by omega)) h
theorem si_tower {k : Nat} {y : Int} {σ : sg_S} (h : si_P k y σ) {a b : Int} : si_P k y (sp_tower σ a b) := by
  unfold sp_tower
  split
  · exact si_P_0 h
  · split
    · exact si_P_0 h
    · rename_i h1 h2
      obtain ⟨p1, p2, p3, -⟩ := h
      obtain ⟨X, hX⟩ : ∃ X, X = (st (st (st (st σ 0 0 0) 4 ((σ 3 0).toNat) a) 5 ((σ 3 0).toNat) b) 3 0 (σ 3 0 + 1)) := ⟨_, rfl⟩
      have e : ∀ f j, f ≠ 0 → f ≠ 3 → f ≠ 4 → f ≠ 5 → X f j = σ f j := fun f j k0 k3 k4 k5 => by rw [hX, st_nf k3, st_nf k5, st_nf k4, st_nf k0]
      rw [← hX]
      obtain ⟨q1, q2, q3⟩ := p3 (by omega)
      have f1 : ∀ w, X 12 w = 0 ∧ (X 16 w = 0 → X 15 w = -1) := fun w => by
        rw [e 12 w (by decide) (by decide) (by decide) (by decide), e 15 w (by decide) (by decide) (by decide) (by decide), e 16 w (by decide) (by decide) (by decide) (by decide)]
        exact q1 w
      have f2 : ∀ v, X 28 v ≤ 0 := fun v => by rw [e 28 v (by decide) (by decide) (by decide) (by decide)]; exact q2 v
      exact ⟨fun v _ => f2 v, fun w => by rw [(f1 w).1]; omega, fun _ => ⟨f1, f2, q3⟩, _, si_fre f1 f2 q3⟩
theorem si_mark {k : Nat} {y : Int} {σ : sg_S} (h : si_P k y σ) (hV : sg_V σ) {t u e : Int} (hu : u = 0 ∨ u = 1) : si_P k y (sp_mark σ t u e) := by
  unfold sp_mark
  split
  · exact si_P_0 h
  · by_cases c : (t = if u = 0 then 0 else σ 3 0 - 1) ∨ 200 ≤ σ 12 (2 * t.toNat + u.toNat)
    · rw [if_pos c]; exact si_P_0 h
    · rw [if_neg c]
      rename_i h1
      obtain ⟨s, hs⟩ : ∃ s : Int, s = if e = 0 then 95 else 94 := ⟨_, rfl⟩
      obtain ⟨w, hw⟩ : ∃ w, w = 2 * t.toNat + u.toNat := ⟨_, rfl⟩
      rw [← hs, ← hw]
      rw [← hw] at c
      have hm : s < 0 ∨ s = 94 ∨ s = 95 := by rw [hs]; split <;> omega
      refine si_P_of (σ := sp_kp (st (st σ 0 0 0) 2 0 1) w (σ 12 w).toNat s) (fun f j hf => sp_writes_f (by omega)) ?_
      have h' := si_begun (v := 1) (si_P_0 (c := 0) h) (by decide)
      have e' : ∀ f j, f ≠ 0 → f ≠ 2 → (st (st σ 0 0 0) 2 0 1) f j = σ f j := fun f j k0 k2 => by rw [st_nf k2, st_nf k0]
      have e2 : (st (st σ 0 0 0) 2 0 1) 2 0 = 1 := st_eq
      generalize (st (st σ 0 0 0) 2 0 1) = X at h' e' e2 ⊢
      have e12 : X 12 w = σ 12 w := e' 12 w (by decide) (by decide)
      rw [← e12]
      obtain ⟨p1, p2, p3, g, hE⟩ := h'
      have b12 := p2 w
      have hv : X 13 w ≤ X 12 w := by rw [e12, e' 13 w (by decide) (by decide)]; exact hV w
      have t12 : ∀ v, sp_kp X w (X 12 w).toNat s 12 v = if v = w then X 12 w + 1 else X 12 v := fun v => by simp [sp_kp]
      have t14 : ∀ j, sp_kp X w (X 12 w).toNat s 14 j = if j = 220 * w + (X 12 w).toNat then s else X 14 j := fun j => by
        unfold sp_kp
        rw [if_neg (show ¬ ((14 : Nat) = 12 ∧ j = w) by omega)]
        by_cases c4 : j = 220 * w + (X 12 w).toNat
        · rw [if_pos (show (14 : Nat) = 14 ∧ 220 * w + (X 12 w).toNat ≤ j ∧ j ≤ 220 * w + (X 12 w).toNat by omega), if_pos c4, if_pos c4]
        · rw [if_neg (show ¬ ((14 : Nat) = 14 ∧ 220 * w + (X 12 w).toNat ≤ j ∧ j ≤ 220 * w + (X 12 w).toNat) by omega), if_neg c4]
      have tf : ∀ f j, f ≠ 12 → f ≠ 14 → sp_kp X w (X 12 w).toNat s f j = X f j := fun f j k1 k2 => sp_kp_f k1 k2
      have hr : ∀ x j, j ≤ (X 12 w).toNat → rk (si_K (sp_kp X w (X 12 w).toNat s) w) (si_h (sp_kp X w (X 12 w).toNat s) w x) j = rk (si_K X w) (si_h X w x) j := fun x j hj => by
        have x1 : si_h (sp_kp X w (X 12 w).toNat s) w x = si_h X w x := by unfold si_h; rw [tf 16 w (by decide) (by decide), tf 15 w (by decide) (by decide)]
        rw [x1]
        exact rk_cg j fun i hi => by unfold si_K; rw [t14, if_neg (by omega)]
      have hr1 : ∀ x, rk (si_K (sp_kp X w (X 12 w).toNat s) w) (si_h (sp_kp X w (X 12 w).toNat s) w x) ((X 12 w).toNat + 1) = rk (si_K X w) (si_h X w x) (X 12 w).toNat := fun x => by
        simp only [rk]
        rw [hr x _ (Nat.le_refl _)]
        have x1 : si_K (sp_kp X w (X 12 w).toNat s) w (X 12 w).toNat = s := by unfold si_K; rw [t14, if_pos rfl]
        rw [x1]; exact de_mark hm
      refine ⟨fun v hv => by rw [tf 28 v (by decide) (by decide)]; exact p1 v hv, fun v => ?_, fun z => ?_, g, ?_⟩
      · rw [t12]
        have := p2 v
        split <;> omega
      · rw [tf 2 0 (by decide) (by decide), e2] at z; exact absurd z (by decide)
      · refine si_same (w := w) hE (tf 3 0 (by decide) (by decide)) (fun v _ => by rw [tf 28 v (by decide) (by decide)]; exact Int.le_refl _) (fun f v hf hv => ?_) (fun v j hv hj => ?_) (fun x => ?_) (fun x j h1 h2 => ?_)
        · rcases hf with rfl | rfl | rfl | rfl
          · rw [t12, if_neg hv]
          · exact tf 13 v (by decide) (by decide)
          · exact tf 15 v (by decide) (by decide)
          · exact tf 16 v (by decide) (by decide)
        · have b := p2 v
          unfold si_K
          rw [t14, if_neg (by omega)]
        · rw [t12, if_pos rfl, show (X 12 w + 1).toNat = (X 12 w).toNat + 1 by omega]
          exact hr1 x
        · rw [t12, if_pos rfl] at h2
          rw [tf 13 w (by decide) (by decide)] at h1
          by_cases q : j ≤ (X 12 w).toNat
          · exact ⟨j, h1, q, hr x j q⟩
          · refine ⟨(X 12 w).toNat, by omega, Nat.le_refl _, ?_⟩
            rw [show j = (X 12 w).toNat + 1 by omega]
            exact hr1 x
theorem si_send {k : Nat} {y T : Int} {σ : sg_S} (hW : md_wb T σ) (h : si_P k y σ) (hV : sg_V σ) {u b r : Int} (hr : r = 0 ∨ r = 1) : si_P (k + 1) y (sp_send σ u b r) := by
  have hm : si_P (k + 1) y σ := si_mono h (by omega) (Int.le_refl _)
  unfold sp_send
  split
  · exact si_P_0 hm
  · split
    · exact si_P_0 (si_P_of (fun f j hf => sp_sk_f (by omega)) hm)
    · rename_i h1 h2
      obtain ⟨a, ha⟩ : ∃ a, a = an_sk σ b r := ⟨_, rfl⟩
      obtain ⟨w, hw⟩ : ∃ w, w = sp_sw σ u := ⟨_, rfl⟩
      rw [← ha, ← hw] at h2 ⊢
      rcases an_sk_in (x := σ) (b := b) hr with z | ⟨z1, z2, z3⟩
      · exact absurd (ha.trans z) (fun q => h2 (Or.inl q))
      rw [← ha] at z1 z3
      have hsk : sp_sk σ b r = sp_mk (st σ 0 0 0) b.toNat r.toNat (σ 24 0).toNat 0 := by unfold sp_sk; rw [if_neg z2]
      obtain ⟨n, hn⟩ : ∃ n, n = (σ 24 0).toNat := ⟨_, rfl⟩
      rw [← hn] at hsk z3
      obtain ⟨un, hun⟩ : ∃ un, un = r.toNat := ⟨_, rfl⟩
      rw [← hun] at hsk z3
      have hun1 : un ≤ 1 := by omega
      have han : a = (un : Int) + 2 * ((n : Nat) : Int) + 2 := by
        rcases an_mk_in (σ := st σ 0 0 0) (b := b.toNat) (u := un) n 0 with q | q
        · exact absurd (z3.trans q) (fun q => h2 (Or.inl q))
        · rw [z3, q, Nat.zero_add]
      have hmk := sp_mk_e (σ := st σ 0 0 0) (b := b.toNat) (u := un) n 0 (by rw [← z3]; exact fun q => h2 (Or.inl q))
      rw [Nat.zero_add] at hmk
      obtain ⟨g1, g2, g3⟩ := sp_mst_R (wb_0 hW (c := 0) (by decide)) (b := b.toNat) hun1 n fun i hi => hmk.2 i (Nat.zero_le _) hi
      obtain ⟨M, hM⟩ : ∃ M, M = sp_sk σ b r := ⟨_, rfl⟩
      have eM : ∀ f j, f ≠ 26 → f ≠ 0 → M f j = σ f j := fun f j k1 k2 => by rw [hM]; exact sp_sk_f ⟨k1, k2⟩
      have R26 : ∀ z, M 26 z = if z = un + 1 + 2 * n then 93 else sp_mst (st σ 0 0 0) b.toNat un n 26 z := fun z => by
        rw [hM, hsk, hmk.1]; simp [st]
      rw [← hM]
      have hsw : 2 ≤ σ 3 0 := by omega
      obtain ⟨u0, hu0, hwso⟩ : ∃ u0, u0 < 2 ∧ w = si_so σ u0 := by
        rw [hw]
        unfold sp_sw si_so
        by_cases c : u = 0
        · exact ⟨1, by decide, by rw [if_neg (by omega), if_pos c, if_neg (by decide)]⟩
        · exact ⟨0, by decide, by rw [if_neg (by omega), if_neg c, if_pos rfl]; rfl⟩
      have hso := si_so_v (σ := σ) hu0 hsw
      have h' := si_begun (v := 1) (si_P_0 (c := 0) (si_P_of (τ := M) (fun f j hf => eM f j (by omega) (by omega)) h)) (by decide)
      have e' : ∀ f j, f ≠ 0 → f ≠ 2 → f ≠ 26 → (st (st M 0 0 0) 2 0 1) f j = σ f j := fun f j k0 k2 k26 => by rw [st_nf k2, st_nf k0, eM f j k26 k0]
      have e2 : (st (st M 0 0 0) 2 0 1) 2 0 = 1 := st_eq
      have e26 : ∀ z, (st (st M 0 0 0) 2 0 1) 26 z = M 26 z := fun z => by rw [st_nf (by decide), st_nf (by decide)]
      unfold sp_sent
      rw [eM 12 w (by decide) (by decide), eM 13 w (by decide) (by decide)]
      generalize (st (st M 0 0 0) 2 0 1) = X at h' e' e2 e26 ⊢
      have hv := hV w
      have b12 := wb12 hW w
      have b13 := wb13 hW w
      obtain ⟨p, hp⟩ : ∃ p, p = if r = 0 then (σ 12 w).toNat else (σ 13 w).toNat := ⟨_, rfl⟩
      have hp1 : p ≤ (σ 12 w).toNat := by rw [hp]; split <;> omega
      have e12 : ∀ v, X 12 v = σ 12 v := fun v => e' 12 v (by decide) (by decide) (by decide)
      rw [← hp, sp_si_blk (by rw [e12]; omega) (by rw [e12]; omega)]
      obtain ⟨N, hN⟩ : ∃ N, N = a.toNat := ⟨_, rfl⟩
      rw [← hN]
      obtain ⟨τ, hτ⟩ : ∃ τ, τ = st (st (sq_blk X w p N (X 26)) 12 w (X 12 w + N)) 13 w (σ 13 w + (if r = 0 then 0 else a)) := ⟨_, rfl⟩
      have t12 : ∀ v, τ 12 v = if v = w then σ 12 w + N else σ 12 v := fun v => by
        rw [hτ, st_nf (by decide)]
        by_cases c : v = w
        · rw [if_pos c, c, st_eq, e12]
        · rw [if_neg c, st_ni c, sq_blk_f (by decide), e12]
      have t13 : ∀ v, τ 13 v = if v = w then σ 13 w + (if r = 0 then 0 else a) else σ 13 v := fun v => by
        rw [hτ]
        by_cases c : v = w
        · rw [if_pos c, c, st_eq]
        · rw [if_neg c, st_ni c, st_nf (by decide), sq_blk_f (by decide), e' 13 v (by decide) (by decide) (by decide)]
      have tf : ∀ f j, f ≠ 12 → f ≠ 13 → f ≠ 14 → f ≠ 0 → f ≠ 2 → f ≠ 26 → τ f j = σ f j := fun f j k1 k2 k3 k4 k5 k6 => by
        rw [hτ, st_nf k2, st_nf k1, sq_blk_f k3, e' f j k4 k5 k6]
      have t14 : ∀ j, τ 14 j = if 220 * w + p ≤ j ∧ j < 220 * w + p + N then M 26 (j - (220 * w + p)) else if 220 * w + p + N ≤ j ∧ j < 220 * w + (σ 12 w).toNat + N then σ 14 (j - N) else σ 14 j := fun j => by
        rw [hτ, st_nf (by decide), st_nf (by decide)]
        unfold sq_blk
        by_cases c1 : 220 * w + p ≤ j ∧ j < 220 * w + p + N
        · rw [if_pos ⟨rfl, c1⟩, if_pos c1, e26]
        · rw [if_neg (fun q => c1 q.2), if_neg c1, e12]
          by_cases c2 : 220 * w + p + N ≤ j ∧ j < 220 * w + (σ 12 w).toNat + N
          · rw [if_pos ⟨rfl, c2⟩, if_pos c2, e' 14 _ (by decide) (by decide) (by decide)]
          · rw [if_neg (fun q => c2 q.2), if_neg c2, e' 14 _ (by decide) (by decide) (by decide)]
      rw [← hτ]
      obtain ⟨p1, p2, p3, e, hE⟩ := h
      have hK1 : ∀ j, j < p → si_K τ w j = si_K σ w j := fun j hj => by unfold si_K; rw [t14, if_neg (by omega), if_neg (by omega)]
      have hK2 : ∀ j, j < N → si_K τ w (p + j) = M 26 j := fun j hj => by
        unfold si_K
        rw [t14, if_pos (by omega)]
        congr 1
        omega
      have hK3 : ∀ j, p + j < (σ 12 w).toNat → si_K τ w (p + N + j) = si_K σ w (p + j) := fun j hj => by
        unfold si_K
        rw [t14, if_neg (by omega), if_pos (by omega)]
        congr 1
        omega
      obtain ⟨x, hx⟩ : ∃ x, x = si_h σ w (e (si_nx w)) := ⟨_, rfl⟩
      have hD := (hE.2.2.2.1 u0 hu0).2 hsw
      rw [← hwso, ← hx] at hD
      have hB := hE.2.1 w (by rw [hwso]; exact hso.1) (by rw [hwso]; exact hso.2.2)
      rw [← hx] at hB
      have hE0 := (hE.2.2.2.1 u0 hu0).1
      rw [← hwso] at hE0
      have a1 : rk (si_K τ w) x p = rk (si_K σ w) x p := rk_cg p fun j hj => hK1 j hj
      have blk : (r = 0 → (∀ j, j ≤ N → rk (fun z => M 26 z) (rk (si_K σ w) x p) j % 8 ≤ 1) ∧ rk (fun z => M 26 z) (rk (si_K σ w) x p) N = rk (si_K σ w) x p + 8) ∧ (r = 1 → rk (fun z => M 26 z) (rk (si_K σ w) x p) N = rk (si_K σ w) x p + 8) := by
        refine ⟨fun r0 => ?_, fun r1 => ?_⟩
        · have hun0 : un = 0 := by omega
          subst hun0
          have hp0 : p = (σ 12 w).toNat := by rw [hp, if_pos r0]
          have hs8 : rk (si_K σ w) x p % 8 = 0 := by rw [hp0, hB]; exact hE0
          have hNn : N = 2 * n + 2 := by omega
          rw [hNn]
          refine rk_blk0 (n := n) ?_ (fun z q1 q2 => ?_) ?_ hs8
          · show M 26 0 = 92
            rw [R26, if_neg (by omega)]; exact g1
          · show 0 ≤ M 26 z ∧ M 26 z < 92
            rw [R26, if_neg (by omega)]; exact g3 z (by omega) (by omega)
          · show M 26 (1 + 2 * n) = 93
            rw [R26, if_pos (by omega)]
        · have hun0 : un = 1 := by omega
          subst hun0
          have hp0 : p = (σ 13 w).toNat := by rw [hp, if_neg (by omega)]
          have hs8 : rk (si_K σ w) x p % 8 ≤ 1 := hD p (by omega) hp1
          have hNn : N = 2 * n + 3 := by omega
          rw [hNn]
          refine rk_blk1 (n := n) ?_ ?_ (fun z q1 q2 => ?_) ?_ hs8
          · show M 26 0 = 96
            rw [R26, if_neg (by omega)]; exact g2 rfl
          · show M 26 1 = 92
            rw [R26, if_neg (by omega)]; exact g1
          · show 0 ≤ M 26 z ∧ M 26 z < 92
            rw [R26, if_neg (by omega)]; exact g3 z (by omega) (by omega)
          · show M 26 (2 + 2 * n) = 93
            rw [R26, if_pos (by omega)]
      have blk8 : rk (fun z => M 26 z) (rk (si_K σ w) x p) N = rk (si_K σ w) x p + 8 := by
        rcases hr with q | q
        · exact (blk.1 q).2
        · exact blk.2 q
      have a2 : ∀ j, j ≤ N → rk (si_K τ w) x (p + j) = rk (fun z => M 26 z) (rk (si_K σ w) x p) j := fun j hj => by
        rw [rk_add, a1]
        exact rk_cg j fun i hi => hK2 i (by omega)
      have a3 : ∀ j, p + j ≤ (σ 12 w).toNat → rk (si_K τ w) x (p + N + j) = rk (si_K σ w) x (p + j) + 8 := fun j hj => by
        rw [rk_add, a2 N (Nat.le_refl _), blk8, rk_8, rk_add]
        rw [rk_cg (F := fun i => si_K τ w (p + N + i)) (K := fun i => si_K σ w (p + i)) j fun i hi => hK3 i (by omega)]
      refine ⟨fun v hv => by rw [tf 28 v (by decide) (by decide) (by decide) (by decide) (by decide) (by decide)]; exact p1 v hv, fun v => ?_, fun z => ?_, _, si_sent (w := w) (u0 := u0) hE hu0 hsw hwso (tf 3 0 (by decide) (by decide) (by decide) (by decide) (by decide) (by decide)) (fun v => tf 28 v (by decide) (by decide) (by decide) (by decide) (by decide) (by decide)) (fun f v hf hv => ?_) (fun f v hf => tf f v (by omega) (by omega) (by omega) (by omega) (by omega) (by omega)) (fun v j hv hj => ?_) (fun x' hx' => ?_) (fun x' j hx' h3 h4 => ?_)⟩
      · rw [t12]
        have := p2 v
        split <;> omega
      · have : τ 2 0 = 1 := by rw [hτ, st_nf (by decide), st_nf (by decide), sq_blk_f (by decide), e2]
        rw [this] at z; exact absurd z (by decide)
      · rcases hf with rfl | rfl
        · rw [t12, if_neg hv]
        · rw [t13, if_neg hv]
      · have b := p2 v
        unfold si_K
        rw [t14, if_neg (by omega), if_neg (by omega)]
      · rw [← hx] at hx'
        subst hx'
        rw [t12, if_pos rfl, show (σ 12 w + (N : Int)).toNat = p + N + ((σ 12 w).toNat - p) by omega, a3 _ (by omega), show p + ((σ 12 w).toNat - p) = (σ 12 w).toNat by omega]
      · rw [← hx] at hx'
        subst hx'
        rw [t13, if_pos rfl] at h3
        rw [t12, if_pos rfl] at h4
        rcases hr with q | q
        · rw [if_pos q] at h3
          have hp0 : p = (σ 12 w).toNat := by rw [hp, if_pos q]
          by_cases c : j ≤ p
          · rw [rk_cg (K := si_K σ w) j fun i hi => hK1 i (by omega)]
            exact hD j (by omega) (by omega)
          · rw [show j = p + (j - p) by omega, a2 (j - p) (by omega)]
            exact (blk.1 q).1 (j - p) (by omega)
        · rw [if_neg (by omega)] at h3
          have hp0 : p = (σ 13 w).toNat := by rw [hp, if_neg (by omega)]
          rw [show j = p + N + (j - (p + N)) by omega, a3 _ (by omega)]
          have := hD (p + (j - (p + N))) (by omega) (by omega)
          omega

