/-- what an arm shows and the next hasn't taken: read -/
def si_h (σ : sg_S) (w e : Nat) : Nat := if σ 16 w = 0 then de e (σ 15 w) else e
def si_K (σ : sg_S) (w : Nat) : Nat → Int := fun j => σ 14 (220 * w + j)
/-- the arm that takes from arm w; a way's last arm; a way's first -/
def si_nx (w : Nat) : Nat := if w % 2 = 1 then w + 2 else w - 2
def si_en (σ : sg_S) (u : Nat) : Nat := if u = 0 then 0 else 2 * ((σ 3 0).toNat - 1) + 1
def si_so (σ : sg_S) (u : Nat) : Nat := if u = 0 then 2 * ((σ 3 0).toNat - 1) else 1
/-- e w: the machine's state behind all that came into arm w -/
def si_E (k : Nat) (y : Int) (σ : sg_S) (e : Nat → Nat) : Prop :=
  (∀ w, ((w / 2 : Nat) : Int) < σ 3 0 → e w % 8 ≠ 6) ∧
  (∀ w, ((w / 2 : Nat) : Int) < σ 3 0 → w ≠ si_en σ (w % 2) → rk (si_K σ w) (si_h σ w (e (si_nx w))) (σ 12 w).toNat = e w) ∧
  (∀ u, u < 2 → σ 28 u ≤ si_b (e (si_en σ u) % 8)) ∧
  (∀ u, u < 2 → e (si_so σ u) % 8 = 0 ∧ (2 ≤ σ 3 0 → ∀ j, (σ 13 (si_so σ u)).toNat ≤ j → j ≤ (σ 12 (si_so σ u)).toNat → rk (si_K σ (si_so σ u)) (si_h σ (si_so σ u) (e (si_nx (si_so σ u)))) j % 8 ≤ 1)) ∧
  e (si_so σ 1) / 8 + e (si_so σ 0) / 8 ≤ k ∧ y ≤ ((e (si_en σ 1) / 8 + e (si_en σ 0) / 8 : Nat) : Int)
def si_P (k : Nat) (y : Int) (σ : sg_S) : Prop :=
  (∀ v, 2 ≤ v → σ 28 v ≤ 0) ∧ (∀ w, 0 ≤ σ 12 w ∧ σ 12 w ≤ 200) ∧ (σ 2 0 = 0 → (∀ w, σ 12 w = 0 ∧ (σ 16 w = 0 → σ 15 w = -1)) ∧ (∀ v, σ 28 v ≤ 0) ∧ y ≤ 0) ∧ ∃ e : Nat → Nat, si_E k y σ e
theorem si_en_p {σ : sg_S} {u : Nat} (hu : u < 2) : si_en σ u % 2 = u := by
  unfold si_en
  split <;> omega
theorem si_so_p {σ : sg_S} {u : Nat} (hu : u < 2) : si_so σ u % 2 = u := by
  unfold si_so
  split <;> omega
theorem si_so_v {σ : sg_S} {u : Nat} (hu : u < 2) (h : 2 ≤ σ 3 0) : ((si_so σ u / 2 : Nat) : Int) < σ 3 0 ∧ si_so σ u ≠ si_en σ u ∧ si_so σ u ≠ si_en σ (si_so σ u % 2) := by
  have hp := si_so_p (σ := σ) hu
  rw [hp]
  unfold si_so si_en
  split <;> omega
/-- of arms that are no last ones -/
theorem si_nx_v {σ : sg_S} {w : Nat} (v0 : ((w / 2 : Nat) : Int) < σ 3 0) (ne : w ≠ si_en σ (w % 2)) : si_nx w ≠ w ∧ ((si_nx w / 2 : Nat) : Int) < σ 3 0 ∧ si_nx w % 2 = w % 2 ∧ (∀ u, u < 2 → si_nx w ≠ si_so σ u) := by
  unfold si_en at ne
  rcases Nat.mod_two_eq_zero_or_one w with z | z
  · rw [if_pos z] at ne
    have e : si_nx w = w - 2 := by unfold si_nx; rw [if_neg (by omega)]
    rw [e]
    refine ⟨by omega, by omega, by omega, fun u hu => ?_⟩
    unfold si_so
    split <;> omega
  · rw [if_neg (by omega)] at ne
    have e : si_nx w = w + 2 := by unfold si_nx; rw [if_pos z]
    rw [e]
    refine ⟨by omega, by omega, by omega, fun u hu => ?_⟩
    unfold si_so
    split <;> omega
theorem si_nx_i {σ : sg_S} {w v : Nat} (v0 : ((w / 2 : Nat) : Int) < σ 3 0) (ne : w ≠ si_en σ (w % 2)) (w0 : ((v / 2 : Nat) : Int) < σ 3 0) (ne' : v ≠ si_en σ (v % 2)) (h : si_nx v = si_nx w) : v = w := by
  have p1 := (si_nx_v v0 ne).2.2.1
  have p2 := (si_nx_v w0 ne').2.2.1
  rw [h, p1] at p2
  unfold si_en at ne ne'
  unfold si_nx at h
  rcases Nat.mod_two_eq_zero_or_one w with z | z
  · rw [if_pos z] at ne
    rw [if_pos (by omega)] at ne'
    rw [if_neg (by omega), if_neg (by omega)] at h
    omega
  · rw [if_pos (by omega), if_pos (by omega)] at h
    omega
theorem si_fre {k : Nat} {y : Int} {τ : sg_S} (h0 : ∀ w, τ 12 w = 0 ∧ (τ 16 w = 0 → τ 15 w = -1)) (h1 : ∀ v, τ 28 v ≤ 0) (hy : y ≤ 0) : si_E k y τ (fun _ => 0) := by
  have hh : ∀ w, si_h τ w 0 = 0 := fun w => by
    unfold si_h
    split
    · rename_i c
      rw [(h0 w).2 c]; exact de_mark (by omega)
    · rfl
  refine ⟨fun w _ => (by decide : (0 : Nat) % 8 ≠ 6), fun w _ _ => ?_, fun u _ => ?_, fun u _ => ⟨rfl, fun _ j _ hj => ?_⟩, by simp, by simpa using hy⟩
  · show rk _ (si_h τ w 0) _ = 0
    rw [(h0 w).1, hh]; rfl
  · show τ 28 u ≤ 0
    exact h1 u
  · rw [(h0 _).1] at hj
    obtain rfl : j = 0 := by omega
    show si_h τ _ 0 % 8 ≤ 1
    rw [hh]; decide
/-- nothing goes from arm to arm -/
theorem si_same {k : Nat} {y : Int} {σ τ : sg_S} {e : Nat → Nat} {w : Nat} (hE : si_E k y σ e) (q3 : τ 3 0 = σ 3 0) (q28 : ∀ u, u < 2 → τ 28 u ≤ σ 28 u) (qo : ∀ f v, f = 12 ∨ f = 13 ∨ f = 15 ∨ f = 16 → v ≠ w → τ f v = σ f v) (qk : ∀ v j, v ≠ w → j < (σ 12 v).toNat → si_K τ v j = si_K σ v j)
    (hw : ∀ x, rk (si_K τ w) (si_h τ w x) (τ 12 w).toNat = rk (si_K σ w) (si_h σ w x) (σ 12 w).toNat)
    (hd : ∀ x j, (τ 13 w).toNat ≤ j → j ≤ (τ 12 w).toNat → ∃ i, (σ 13 w).toNat ≤ i ∧ i ≤ (σ 12 w).toNat ∧ rk (si_K τ w) (si_h τ w x) j = rk (si_K σ w) (si_h σ w x) i) : si_E k y τ e := by
  obtain ⟨a, b, c, d, g, i⟩ := hE
  have en : ∀ u, si_en τ u = si_en σ u := fun u => by unfold si_en; rw [q3]
  have so : ∀ u, si_so τ u = si_so σ u := fun u => by unfold si_so; rw [q3]
  have hh : ∀ v x, v ≠ w → si_h τ v x = si_h σ v x := fun v x hv => by unfold si_h; rw [qo 15 v (by decide) hv, qo 16 v (by decide) hv]
  refine ⟨fun v hv => a v (by rw [← q3]; exact hv), fun v hv hn => ?_, fun u hu => ?_, fun u hu => ?_, by rw [so, so]; exact g, by rw [en, en]; exact i⟩
  · rw [q3] at hv
    rw [en] at hn
    by_cases z : v = w
    · subst z
      rw [hw]; exact b v hv hn
    · rw [qo 12 v (by decide) z, hh v _ z, rk_cg _ fun j hj => qk v j z hj]
      exact b v hv hn
  · rw [en]; exact Int.le_trans (q28 u hu) (c u hu)
  · rw [so, q3]
    refine ⟨(d u hu).1, fun h2 j h3 h4 => ?_⟩
    by_cases z : si_so σ u = w
    · rw [z] at h3 h4 ⊢
      obtain ⟨i', j1, j2, j3⟩ := hd (e (si_nx w)) j h3 h4
      rw [j3]
      have := (d u hu).2 h2 i'
      rw [z] at this
      exact this j1 j2
    · rw [qo 13 _ (by decide) z] at h3
      rw [qo 12 _ (by decide) z] at h4
      rw [hh _ _ z, rk_cg _ fun i' hi => qk _ i' z (by omega)]
      exact (d u hu).2 h2 j h3 h4
/-- a sign goes from arm w to the next, h -/
theorem si_flow {k : Nat} {y y' : Int} {σ τ : sg_S} {e : Nat → Nat} {w h : Nat} {s : Int} (hE : si_E k y σ e) (v0 : ((w / 2 : Nat) : Int) < σ 3 0) (ne : w ≠ si_en σ (w % 2)) (hh : h = si_nx w) (h16 : σ 16 w = 0) (hs : ∀ x, de x s = de x (σ 15 w)) (hy : y' ≤ y + (if h = si_en σ (h % 2) ∧ s = 92 then 1 else 0))
    (q3 : τ 3 0 = σ 3 0) (q12 : ∀ v, v ≠ h → τ 12 v = σ 12 v) (q14 : ∀ v j, v ≠ h → j < (σ 12 v).toNat → si_K τ v j = si_K σ v j) (q16 : ∀ v, τ 16 v = if v = w then 1 else σ 16 v) (qo : ∀ f v, f = 13 ∨ f = 15 → τ f v = σ f v) (q28 : ∀ v, v ≠ h % 2 → τ 28 v = σ 28 v)
    (h1 : h ≠ si_en σ (h % 2) → rk (si_K τ h) (si_h σ h (e (si_nx h))) (τ 12 h).toNat = de (rk (si_K σ h) (si_h σ h (e (si_nx h))) (σ 12 h).toNat) s) (h2 : h ≠ si_en σ (h % 2) → τ 28 (h % 2) = σ 28 (h % 2))
    (h3 : h = si_en σ (h % 2) → ∀ q, σ 28 (h % 2) ≤ si_b q → dq q s ≠ 6 → τ 28 (h % 2) ≤ si_b (dq q s)) : si_E k y' τ (fun v => if v = h then de (e h) s else e v) := by
  obtain ⟨a, b, c, d, g, i⟩ := hE
  have en : ∀ u, si_en τ u = si_en σ u := fun u => by unfold si_en; rw [q3]
  have so : ∀ u, si_so τ u = si_so σ u := fun u => by unfold si_so; rw [q3]
  obtain ⟨n1, n2, n3, n4⟩ := si_nx_v v0 ne
  rw [← hh] at n1 n2 n3 n4
  have hb := b w v0 ne
  have hsh : si_h σ w (e (si_nx w)) = de (e h) s := by
    unfold si_h
    rw [if_pos h16, ← hh, hs]
  have hg : de (e h) s % 8 ≠ 6 := by
    rw [hsh] at hb
    refine rk_good (F := si_K σ w) (n := (σ 12 w).toNat) ?_
    rw [hb]; exact a w v0
  obtain ⟨e', he'⟩ : ∃ z : Nat → Nat, z = (fun v => if v = h then de (e h) s else e v) := ⟨_, rfl⟩
  have ee : ∀ v, v ≠ h → e' v = e v := fun v hv => by rw [he']; exact if_neg hv
  have eh : e' h = de (e h) s := by rw [he']; exact if_pos rfl
  rw [← he']
  have hbase : ∀ v, v ≠ h → ((v / 2 : Nat) : Int) < σ 3 0 → v ≠ si_en σ (v % 2) → si_h τ v (e' (si_nx v)) = si_h σ v (e (si_nx v)) := fun v hv vv vn => by
    by_cases z : v = w
    · subst z
      rw [hsh, ← hh, eh]
      unfold si_h
      rw [q16, if_pos rfl, if_neg (by decide)]
    · have hz : si_nx v ≠ h := fun y => z (si_nx_i v0 ne vv vn (y.trans hh))
      rw [ee _ hz]
      unfold si_h
      rw [q16, if_neg z, qo 15 v (by decide)]
  refine ⟨fun v hv => ?_, fun v hv hn => ?_, fun u hu => ?_, fun u hu => ?_, ?_, ?_⟩
  · by_cases z : v = h
    · rw [z, eh]; exact hg
    · rw [ee v z]; exact a v (by rw [← q3]; exact hv)
  · rw [q3] at hv
    rw [en] at hn
    by_cases z : v = h
    · rw [z] at hn hv ⊢
      have x1 := si_nx_v hv hn
      rw [ee _ x1.1, eh]
      have x2 : si_h τ h (e (si_nx h)) = si_h σ h (e (si_nx h)) := by
        unfold si_h
        rw [q16, if_neg n1, qo 15 h (by decide)]
      rw [x2, h1 hn, b h hv hn]
    · rw [hbase v z hv hn, q12 v z, ee v z, rk_cg _ fun j hj => q14 v j z hj]
      exact b v hv hn
  · rw [en]
    by_cases z : si_en σ u = h
    · have hp := si_en_p (σ := σ) hu
      rw [z] at hp
      have c' := c u hu
      rw [z] at c' ⊢
      rw [eh, de_mod]
      rw [de_mod] at hg
      have := h3 (by rw [hp, z]) (e h % 8)
      rw [hp] at this
      exact this c' hg
    · rw [ee _ z]
      by_cases y : u = h % 2
      · rw [y] at z ⊢
        rw [h2 (fun x => z x.symm)]
        have := c (h % 2) (by omega)
        exact this
      · rw [q28 u y]; exact c u hu
  · rw [so, q3]
    have hne : si_so σ u ≠ h := fun z => n4 u hu z.symm
    refine ⟨by rw [ee _ hne]; exact (d u hu).1, fun t2 j t3 t4 => ?_⟩
    have t5 := si_so_v (σ := σ) hu t2
    rw [qo 13 _ (by decide)] at t3
    rw [q12 _ hne] at t4
    rw [hbase _ hne t5.1 t5.2.2, rk_cg _ fun i' hi => q14 _ i' hne (by omega)]
    exact (d u hu).2 t2 j t3 t4
  · rw [so, so, ee _ (fun z => n4 1 (by decide) z.symm), ee _ (fun z => n4 0 (by decide) z.symm)]
    exact g
  · rw [en, en]
    have p1 := si_en_p (σ := σ) (u := 1) (by decide)
    have p0 := si_en_p (σ := σ) (u := 0) (by decide)
    by_cases z1 : si_en σ 1 = h
    · have z0 : si_en σ 0 ≠ h := fun x => by omega
      rw [z1, eh, ee _ z0, de_div]
      rw [z1] at i p1
      rw [p1, z1] at hy
      by_cases y2 : s = 92
      · rw [if_pos ⟨rfl, y2⟩] at hy
        rw [if_pos y2]; omega
      · rw [if_neg (fun x => y2 x.2)] at hy
        rw [if_neg y2]; omega
    · by_cases z0 : si_en σ 0 = h
      · rw [z0, eh, ee _ z1, de_div]
        rw [z0] at i p0
        rw [p0, z0] at hy
        by_cases y2 : s = 92
        · rw [if_pos ⟨rfl, y2⟩] at hy
          rw [if_pos y2]; omega
        · rw [if_neg (fun x => y2 x.2)] at hy
          rw [if_neg y2]; omega
      · rw [ee _ z1, ee _ z0]
        have : ¬ (h = si_en σ (h % 2) ∧ s = 92) := fun x => by
          rcases Nat.mod_two_eq_zero_or_one h with m | m
          · rw [m] at x; exact z0 x.1.symm
          · rw [m] at x; exact z1 x.1.symm
        rw [if_neg this] at hy
        omega
/-- a dispatch is sent -/
theorem si_sent {k : Nat} {y : Int} {σ τ : sg_S} {e : Nat → Nat} {w u0 : Nat} (hE : si_E k y σ e) (hu0 : u0 < 2) (hn : 2 ≤ σ 3 0) (hw : w = si_so σ u0) (q3 : τ 3 0 = σ 3 0) (q28 : ∀ u, τ 28 u = σ 28 u) (qo : ∀ f v, f = 12 ∨ f = 13 → v ≠ w → τ f v = σ f v) (q15 : ∀ f v, f = 15 ∨ f = 16 → τ f v = σ f v) (qk : ∀ v j, v ≠ w → j < (σ 12 v).toNat → si_K τ v j = si_K σ v j)
    (hw1 : ∀ x, x = si_h σ w (e (si_nx w)) → rk (si_K τ w) x (τ 12 w).toNat = rk (si_K σ w) x (σ 12 w).toNat + 8)
    (hd : ∀ x j, x = si_h σ w (e (si_nx w)) → (τ 13 w).toNat ≤ j → j ≤ (τ 12 w).toNat → rk (si_K τ w) x j % 8 ≤ 1) : si_E (k + 1) y τ (fun v => if v = w then e w + 8 else e v) := by
  obtain ⟨a, b, c, d, g, i⟩ := hE
  have en : ∀ u, si_en τ u = si_en σ u := fun u => by unfold si_en; rw [q3]
  have so : ∀ u, si_so τ u = si_so σ u := fun u => by unfold si_so; rw [q3]
  have hh : ∀ v x, si_h τ v x = si_h σ v x := fun v x => by unfold si_h; rw [q15 15 v (by decide), q15 16 v (by decide)]
  obtain ⟨e', he'⟩ : ∃ z : Nat → Nat, z = (fun v => if v = w then e w + 8 else e v) := ⟨_, rfl⟩
  have ee : ∀ v, v ≠ w → e' v = e v := fun v hv => by rw [he']; exact if_neg hv
  have eh : e' w = e w + 8 := by rw [he']; exact if_pos rfl
  rw [← he']
  have hen : ∀ u, u < 2 → si_en σ u ≠ w := fun u hu z => by
    have p1 := si_en_p (σ := σ) hu
    have p2 := si_so_p (σ := σ) hu0
    rw [z, hw, p2] at p1
    subst p1
    exact (si_so_v (σ := σ) hu0 hn).2.1 (hw.symm.trans z.symm)
  have hnx : ∀ v, ((v / 2 : Nat) : Int) < σ 3 0 → v ≠ si_en σ (v % 2) → e' (si_nx v) = e (si_nx v) := fun v vv vn => by
    refine ee _ fun z => ?_
    exact (si_nx_v vv vn).2.2.2 u0 hu0 (z.trans hw)
  refine ⟨fun v hv => ?_, fun v hv hn2 => ?_, fun u hu => ?_, fun u hu => ?_, ?_, ?_⟩
  · by_cases z : v = w
    · rw [z, eh]
      have := a w (by rw [← q3, ← z]; exact hv)
      omega
    · rw [ee v z]; exact a v (by rw [← q3]; exact hv)
  · rw [q3] at hv
    rw [en] at hn2
    rw [hnx v hv hn2, hh]
    by_cases z : v = w
    · rw [z] at hv hn2 ⊢
      rw [eh, hw1 _ rfl, b w hv hn2]
    · rw [qo 12 v (by decide) z, ee v z, rk_cg _ fun j hj => qk v j z hj]
      exact b v hv hn2
  · rw [en, q28, ee _ (hen u hu)]; exact c u hu
  · rw [so, q3]
    have t5 := si_so_v (σ := σ) hu hn
    refine ⟨?_, fun t2 j t3 t4 => ?_⟩
    · by_cases z : si_so σ u = w
      · rw [z, eh]
        have := (d u hu).1
        rw [z] at this
        omega
      · rw [ee _ z]; exact (d u hu).1
    · rw [hnx _ t5.1 t5.2.2, hh]
      by_cases z : si_so σ u = w
      · rw [z] at t3 t4 ⊢
        exact hd _ j rfl t3 t4
      · rw [qo 13 _ (by decide) z] at t3
        rw [qo 12 _ (by decide) z] at t4
        rw [rk_cg _ fun i' hi => qk _ i' z (by omega)]
        exact (d u hu).2 t2 j t3 t4
  · rw [so, so]
    have p1 := si_so_p (σ := σ) (u := 1) (by decide)
    have p0 := si_so_p (σ := σ) (u := 0) (by decide)
    by_cases z1 : si_so σ 1 = w
    · have z0 : si_so σ 0 ≠ w := fun x => by omega
      rw [z1, eh, ee _ z0]
      rw [z1] at g
      omega
    · by_cases z0 : si_so σ 0 = w
      · rw [z0, eh, ee _ z1]
        rw [z0] at g
        omega
      · rw [ee _ z1, ee _ z0]
        omega
  · rw [en, en, ee _ (hen 1 (by decide)), ee _ (hen 0 (by decide))]
    exact i
/-- no more dispatches are made than sent -/
theorem si_up {k : Nat} {y : Int} {σ : sg_S} {e : Nat → Nat} (hE : si_E k y σ e) : ∀ d : Nat, d ≤ (σ 3 0).toNat - 1 → e (2 * ((σ 3 0).toNat - 1) + 1) / 8 ≤ e (2 * ((σ 3 0).toNat - 1 - d) + 1) / 8
  | 0, _ => Nat.le_refl _
  | d + 1, hd => by
    refine Nat.le_trans (si_up hE d (by omega)) ?_
    have hb := hE.2.1 (2 * ((σ 3 0).toNat - 1 - (d + 1)) + 1) (by omega) (by unfold si_en; split <;> omega)
    have en : si_nx (2 * ((σ 3 0).toNat - 1 - (d + 1)) + 1) = 2 * ((σ 3 0).toNat - 1 - d) + 1 := by unfold si_nx; rw [if_pos (by omega)]; omega
    rw [en] at hb
    rw [← hb]
    refine Nat.le_trans ?_ (rk_div _)
    unfold si_h
    split
    · rw [de_div]; exact Nat.le_add_right _ _
    · exact Nat.le_refl _
theorem si_dn {k : Nat} {y : Int} {σ : sg_S} {e : Nat → Nat} (hE : si_E k y σ e) : ∀ d : Nat, d ≤ (σ 3 0).toNat - 1 → e 0 / 8 ≤ e (2 * d) / 8
  | 0, _ => Nat.le_refl _
  | d + 1, hd => by
    refine Nat.le_trans (si_dn hE d (by omega)) ?_
    have hb := hE.2.1 (2 * (d + 1)) (by omega) (by unfold si_en; split <;> omega)
    have en : si_nx (2 * (d + 1)) = 2 * d := by unfold si_nx; rw [if_neg (by omega)]; omega
    rw [en] at hb
    rw [← hb]
    refine Nat.le_trans ?_ (rk_div _)
    unfold si_h
    split
    · rw [de_div]; exact Nat.le_add_right _ _
    · exact Nat.le_refl _
theorem si_le {k : Nat} {y : Int} {σ : sg_S} (h : si_P k y σ) : y ≤ (k : Int) := by
  obtain ⟨-, -, -, e, hE⟩ := h
  have h1 := si_up hE ((σ 3 0).toNat - 1) (Nat.le_refl _)
  have h2 := si_dn hE ((σ 3 0).toNat - 1) (Nat.le_refl _)
  obtain ⟨-, -, -, -, g, i⟩ := hE
  unfold si_so at g
  unfold si_en at i
  rw [if_neg (by decide), if_pos rfl] at g i
  rw [Nat.sub_self, Nat.mul_zero, Nat.zero_add] at h1
  omega
theorem si_38 {k : Nat} {y : Int} {σ : sg_S} (h : si_P k y σ) : ∀ w, σ 28 w ≤ 38 := by
  obtain ⟨h1, -, -, e, hE⟩ := h
  intro w
  rcases Nat.lt_or_ge w 2 with z | z
  · have h2 := hE.2.2.1 w z
    have := si_b_in (q := e (si_en σ w) % 8)
    omega
  · have := h1 w z
    omega

