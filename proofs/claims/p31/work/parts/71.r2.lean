/-! what was not built, what was taken: kept by a pass -/
theorem si_there {σ : sg_S} {t u : Int} {w H : Nat} (ht : 0 ≤ t ∧ t ≤ σ 3 0 - 1) (hu : u = 0 ∨ u = 1) (hw : w = 2 * sp_ln t u + u.toNat) (hH : H = 2 * t.toNat + u.toNat) (hl : 0 ≤ sp_lk σ t u ∧ sp_lk σ t u ≤ σ 3 0 - 1) : ((w / 2 : Nat) : Int) < σ 3 0 ∧ w % 2 = u.toNat ∧ H = si_nx w ∧ w ≠ si_en σ (w % 2) ∧ ((H / 2 : Nat) : Int) < σ 3 0 ∧ (2 * t + u).toNat = H := by
  unfold sp_lk at hl
  unfold sp_ln at hw
  rcases hu with rfl | rfl
  · rw [if_pos rfl] at hl hw
    have m1 : w % 2 = 0 := by omega
    unfold si_nx si_en
    rw [m1, if_neg (by decide), if_pos rfl]
    omega
  · rw [if_neg (by decide)] at hl hw
    have m1 : w % 2 = 1 := by omega
    unfold si_nx si_en
    rw [m1, if_pos rfl, if_neg (by decide)]
    omega
theorem sg_U_w {σ τ : sg_S} (hU : sg_U σ) (q3 : τ 3 0 = σ 3 0) (q39 : τ 39 0 = σ 39 0) (h1 : ∀ f j, f = 6 ∨ f = 7 ∨ f = 8 ∨ f = 9 ∨ f = 10 → τ f j = σ f j)
    (h2 : ∀ w : Nat, σ 3 0 ≤ ((w / 2 : Nat) : Int) → (∀ f, f = 12 ∨ f = 13 ∨ f = 15 ∨ f = 16 ∨ f = 17 → τ f w = σ f w) ∧ (∀ z, z < 200 → τ 14 (220 * w + z) = σ 14 (220 * w + z)) ∧ (∀ f z, f = 18 ∨ f = 19 ∨ f = 20 → z < 300 → τ f (300 * w + z) = σ f (300 * w + z)))
    (h4 : ∀ n : Nat, σ 39 0 ≤ (n : Int) → τ 41 n = σ 41 n ∧ ∀ z, z < 200 → τ 42 (200 * n + z) = σ 42 (200 * n + z)) : sg_U τ := by
  obtain ⟨u1, u2, u3, u4⟩ := hU
  refine ⟨fun n h => ?_, fun w h => ?_, fun s h => ?_, fun n h => ?_⟩
  · rw [h1 6 n (by decide)]; exact u1 n (by rw [← q3]; exact h)
  · rw [q3] at h
    obtain ⟨g1, g2, g3⟩ := h2 w h
    obtain ⟨v1, v2, v3, v4, v5, v6, v7⟩ := u2 w h
    refine ⟨?_, ?_, ?_, ?_, ?_, fun z hz => ?_, fun z hz => ⟨?_, ?_, ?_⟩⟩
    · rw [g1 12 (by decide)]; exact v1
    · rw [g1 13 (by decide)]; exact v2
    · rw [g1 15 (by decide)]; exact v3
    · rw [g1 16 (by decide)]; exact v4
    · rw [g1 17 (by decide)]; exact v5
    · rw [g2 z hz]; exact v6 z hz
    · rw [g3 18 z (by decide) hz]; exact (v7 z hz).1
    · rw [g3 19 z (by decide) hz]; exact (v7 z hz).2.1
    · rw [g3 20 z (by decide) hz]; exact (v7 z hz).2.2
  · rw [q3] at h
    obtain ⟨v1, v2, v3⟩ := u3 s h
    refine ⟨?_, ?_, fun z hz => ⟨?_, ?_⟩⟩
    · rw [h1 7 s (by decide)]; exact v1
    · rw [h1 8 s (by decide)]; exact v2
    · rw [h1 9 _ (by decide)]; exact (v3 z hz).1
    · rw [h1 10 _ (by decide)]; exact (v3 z hz).2
  · rw [q39] at h
    obtain ⟨g1, g2⟩ := h4 n h
    obtain ⟨v1, v2⟩ := u4 n h
    exact ⟨g1.trans v1, fun z hz => (g2 z hz).trans (v2 z hz)⟩
/-- a log's row of another way -/
theorem sp_writes_o {σ : sg_S} {wv s o : Int} {H : Nat} (hH : wv.toNat = H) : (∀ v, v ≠ H → sp_writes σ wv s o 17 v = σ 17 v) ∧ (∀ f v z, f = 18 ∨ f = 19 ∨ f = 20 → v ≠ H → z < 300 → sp_writes σ wv s o f (300 * v + z) = σ f (300 * v + z)) := by
  subst hH
  unfold sp_writes
  by_cases c : σ 17 wv.toNat < 300
  · rw [if_pos c]
    refine ⟨fun v hv => ?_, fun f v z hf hv hz => ?_⟩
    · rw [st_ni hv, st_nf (by decide), st_nf (by decide), st_nf (by decide)]
    · rw [st_nf (by omega), st_ni (by omega), st_ni (by omega), st_ni (by omega)]
  · rw [if_neg c]
    exact ⟨fun _ _ => rfl, fun _ _ _ _ _ _ => rfl⟩
theorem sp_kp_o {σ : sg_S} {H p : Nat} {s : Int} (h : σ 12 H ≤ 200) : (∀ v, v ≠ H → sp_kp σ H p s 12 v = σ 12 v) ∧ (∀ v z, v ≠ H → z < 200 → sp_kp σ H p s 14 (220 * v + z) = σ 14 (220 * v + z)) := by
  refine ⟨fun v hv => ?_, fun v z hv hz => ?_⟩
  · unfold sp_kp
    rw [if_neg (fun y => hv y.2), if_neg (by omega)]
  · unfold sp_kp
    rw [if_neg (by omega), if_neg (by omega)]
theorem sg_U_tapes {σ : sg_S} (hU : sg_U σ) {w : Nat} {s : Int} : sg_U (bs_tapes σ w s) := by
  refine sg_U_of (fun f j h => ?_) hU
  unfold bs_tapes
  rw [mg_lo (by omega), sp_tapes_f (by omega)]
theorem sg_U_looks {σ : sg_S} (hU : sg_U σ) (h12 : ∀ w, σ 12 w ≤ 200) {t u : Int} (ht : 0 ≤ t ∧ t ≤ σ 3 0 - 1) (hu : u = 0 ∨ u = 1) : sg_U (bs_looks σ t u) := by
  have key : (0 ≤ sp_lk σ t u ∧ sp_lk σ t u ≤ σ 3 0 - 1) → ∀ s, sg_U (sp_writes (st σ 16 (2 * (sp_ln t u) + u.toNat) 1) (2 * t + u) s 0) := fun hl s => by
    obtain ⟨f1, f2, f3, f4, f5, f6⟩ := si_there ht hu rfl rfl hl
    have ho := sp_writes_o (σ := st σ 16 (2 * (sp_ln t u) + u.toNat) 1) (s := s) (o := 0) f6
    refine sg_U_w hU ?_ ?_ (fun f j hf => ?_) (fun w hw => ⟨fun f hf => ?_, fun z hz => ?_, fun f z hf hz => ?_⟩) (fun n hn => ⟨?_, fun z hz => ?_⟩)
    · rw [sp_writes_f (by decide), st_nf (by decide)]
    · rw [sp_writes_f (by decide), st_nf (by decide)]
    · rw [sp_writes_f (by omega), st_nf (by omega)]
    · have hne : w ≠ 2 * t.toNat + u.toNat := fun y => by rw [y] at hw; omega
      rcases hf with rfl | rfl | rfl | rfl | rfl
      · rw [sp_writes_f (by decide), st_nf (by decide)]
      · rw [sp_writes_f (by decide), st_nf (by decide)]
      · rw [sp_writes_f (by decide), st_nf (by decide)]
      · rw [sp_writes_f (by decide), st_ni (fun y => by rw [y] at hw; omega)]
      · rw [ho.1 w hne, st_nf (by decide)]
    · rw [sp_writes_f (by decide), st_nf (by decide)]
    · have hne : w ≠ 2 * t.toNat + u.toNat := fun y => by rw [y] at hw; omega
      rw [ho.2 f w z hf hne hz, st_nf (by omega)]
    · rw [sp_writes_f (by decide), st_nf (by decide)]
    · rw [sp_writes_f (by decide), st_nf (by decide)]
  refine bs_looks_by sg_U hU (fun _ hl _ => sg_U_tapes (key hl _)) (fun _ hl _ => ?_)
  obtain ⟨f1, f2, f3, f4, f5, f6⟩ := si_there ht hu rfl rfl hl
  obtain ⟨X, hX⟩ : ∃ X, X = (sp_writes (st σ 16 (2 * (sp_ln t u) + u.toNat) 1) (2 * t + u) (an_reads σ t (σ 15 (2 * (sp_ln t u) + u.toNat))) 0) := ⟨_, rfl⟩
  have hK := key hl (an_reads σ t (σ 15 (2 * (sp_ln t u) + u.toNat)))
  have e3 : X 3 0 = σ 3 0 := by rw [hX, sp_writes_f (by decide), st_nf (by decide)]
  have e12 : X 12 (2 * t.toNat + u.toNat) = σ 12 (2 * t.toNat + u.toNat) := by rw [hX, sp_writes_f (by decide), st_nf (by decide)]
  rw [← hX] at hK ⊢
  have ho := sp_kp_o (σ := X) (H := 2 * t.toNat + u.toNat) (p := (σ 12 (2 * t.toNat + u.toNat)).toNat) (s := an_reads σ t (σ 15 (2 * (sp_ln t u) + u.toNat))) (by rw [e12]; exact h12 _)
  refine sg_U_w hK ?_ ?_ (fun f j hf => ?_) (fun w hw => ⟨fun f hf => ?_, fun z hz => ?_, fun f z hf hz => ?_⟩) (fun n hn => ⟨?_, fun z hz => ?_⟩)
  · exact sp_kp_f (by decide) (by decide)
  · exact sp_kp_f (by decide) (by decide)
  · exact sp_kp_f (by omega) (by omega)
  · rw [e3] at hw
    have hne : w ≠ 2 * t.toNat + u.toNat := fun y => by rw [y] at hw; omega
    rcases hf with rfl | rfl | rfl | rfl | rfl
    · exact ho.1 w hne
    · exact sp_kp_f (by decide) (by decide)
    · exact sp_kp_f (by decide) (by decide)
    · exact sp_kp_f (by decide) (by decide)
    · exact sp_kp_f (by decide) (by decide)
  · rw [e3] at hw
    have hne : w ≠ 2 * t.toNat + u.toNat := fun y => by rw [y] at hw; omega
    exact ho.2 w z hne hz
  · exact sp_kp_f (by omega) (by omega)
  · exact sp_kp_f (by decide) (by decide)
  · exact sp_kp_f (by decide) (by decide)
theorem sp_spyl_42 {σ : sg_S} {t sg : Int} {m z : Nat} (hz : z < 200) : ∀ n, n ≤ m → sp_spyl σ t sg n 42 (200 * m + z) = σ 42 (200 * m + z)
  | 0, _ => rfl
  | n + 1, h => by
    simp only [sp_spyl]
    split
    · rename_i c
      rw [st_nf (by decide), st_ni (by omega)]; exact sp_spyl_42 hz n (by omega)
    · exact sp_spyl_42 hz n (by omega)
theorem sg_U_turn {σ : sg_S} (hU : sg_U σ) (h12 : ∀ w, σ 12 w ≤ 200) {t u : Int} {w : Nat} (hw : ((w / 2 : Nat) : Int) < σ 3 0) : sg_U (sp_turn σ t u w) := by
  have full : sg_U (sp_turn1 σ w) := by
    have t12 : ∀ v, sp_turn1 σ w 12 v = if v = w then σ 12 w - 1 else σ 12 v := fun v => by simp [sp_turn1, sp_turn0, sp_shl, st]
    have t13 : ∀ v, sp_turn1 σ w 13 v = if v = w then σ 13 w - (if 0 < σ 13 w then 1 else 0) else σ 13 v := fun v => by simp [sp_turn1, sp_turn0, sp_shl, st]
    have t15 : ∀ v, sp_turn1 σ w 15 v = if v = w then σ 14 (220 * w) else σ 15 v := fun v => by simp [sp_turn1, sp_turn0, sp_shl, st]
    have t16 : ∀ v, sp_turn1 σ w 16 v = if v = w then 0 else σ 16 v := fun v => by simp [sp_turn1, sp_turn0, sp_shl, st]
    have t14 : ∀ j, sp_turn1 σ w 14 j = if 220 * w ≤ j ∧ j < 220 * w + (σ 12 w - 1).toNat then σ 14 (j + 1) else σ 14 j := fun j => by simp [sp_turn1, sp_turn0, sp_shl, st]
    have b := h12 w
    refine sg_U_w hU (sp_turn1_f (by decide)) (sp_turn1_f (by decide)) (fun f j hf => sp_turn1_f (by omega)) (fun v hv => ⟨fun f hf => ?_, fun z hz => ?_, fun f z hf hz => sp_turn1_f (by omega)⟩) (fun n hn => ⟨sp_turn1_f (by decide), fun z hz => sp_turn1_f (by decide)⟩)
    · have hne : v ≠ w := fun y => by rw [y] at hv; omega
      rcases hf with rfl | rfl | rfl | rfl | rfl
      · rw [t12, if_neg hne]
      · rw [t13, if_neg hne]
      · rw [t15, if_neg hne]
      · rw [t16, if_neg hne]
      · exact sp_turn1_f (by decide)
    · have hne : v ≠ w := fun y => by rw [y] at hv; omega
      rw [t14, if_neg (by omega)]
  refine sp_turn_by sg_U hU (fun _ _ => ?_) (fun _ _ _ => full) (fun _ _ _ => ?_)
  · refine sg_U_w hU (by rw [st_nf (by decide), st_nf (by decide)]) (by rw [st_nf (by decide), st_nf (by decide)]) (fun f j hf => by rw [st_nf (by omega), st_nf (by omega)]) (fun v hv => ⟨fun f hf => ?_, fun z hz => by rw [st_nf (by decide), st_nf (by decide)], fun f z hf hz => by rw [st_nf (by omega), st_nf (by omega)]⟩) (fun n hn => ⟨by rw [st_nf (by decide), st_nf (by decide)], fun z hz => by rw [st_nf (by decide), st_nf (by decide)]⟩)
    have hne : v ≠ w := fun y => by rw [y] at hv; omega
    rw [st_ni hne, st_ni hne]
  · have e39 : sp_turn1 σ w 39 0 = σ 39 0 := sp_turn1_f (by decide)
    refine sg_U_w full (sp_spyl_f (by decide) (by decide) _) (sp_spyl_f (by decide) (by decide) _) (fun f j hf => sp_spyl_f (by omega) (by omega) _) (fun v hv => ⟨fun f hf => sp_spyl_f (by omega) (by omega) _, fun z hz => sp_spyl_f (by decide) (by decide) _, fun f z hf hz => sp_spyl_f (by omega) (by omega) _⟩) (fun n hn => ?_)
    rw [e39] at hn
    exact ⟨sp_spyl_41 _ (by omega), fun z hz => sp_spyl_42 hz _ (by omega)⟩
/-- only arms that are no last ones hold a taken sign -/
def sg_T (σ : sg_S) : Prop := ∀ w : Nat, (σ 3 0 ≤ ((w / 2 : Nat) : Int) ∨ w = si_en σ (w % 2)) → σ 16 w = 0
theorem sg_T_looks {σ : sg_S} (hT : sg_T σ) {t u : Int} (ht : 0 ≤ t ∧ t ≤ σ 3 0 - 1) (hu : u = 0 ∨ u = 1) : sg_T (bs_looks σ t u) := by
  have key : (0 ≤ sp_lk σ t u ∧ sp_lk σ t u ≤ σ 3 0 - 1) → ∀ τ : sg_S, τ 3 0 = σ 3 0 → (∀ v, τ 16 v = if v = 2 * (sp_ln t u) + u.toNat then 1 else σ 16 v) → sg_T τ := fun hl τ e3 e16 => by
    obtain ⟨f1, f2, f3, f4, f5, f6⟩ := si_there ht hu rfl rfl hl
    intro w hw
    have en : si_en τ (w % 2) = si_en σ (w % 2) := by unfold si_en; rw [e3]
    rw [e3, en] at hw
    rw [e16, if_neg (fun y => by rw [y] at hw; omega)]
    exact hT w hw
  refine bs_looks_by sg_T hT (fun _ hl _ => key hl _ ?_ (fun v => ?_)) (fun _ hl _ => key hl _ ?_ (fun v => ?_))
  · unfold bs_tapes; rw [mg_lo (by decide), sp_tapes_f (by decide), sp_writes_f (by decide), st_nf (by decide)]
  · unfold bs_tapes; rw [mg_lo (by decide), sp_tapes_f (by decide), sp_writes_f (by decide)]; simp [st]
  · rw [sp_kp_f (by decide) (by decide), sp_writes_f (by decide), st_nf (by decide)]
  · rw [sp_kp_f (by decide) (by decide), sp_writes_f (by decide)]; simp [st]
theorem sp_turn_16 {σ : sg_S} {t u : Int} {w : Nat} (he : (t = if u = 0 then 0 else σ 3 0 - 1) → σ 16 w = 0) (v : Nat) : sp_turn σ t u w 16 v = if v = w then 0 else σ 16 v := by
  have t16 : ∀ v, sp_turn1 σ w 16 v = if v = w then 0 else σ 16 v := fun v => by simp [sp_turn1, sp_turn0, sp_shl, st]
  unfold sp_turn
  by_cases c1 : (t = if u = 0 then 0 else σ 3 0 - 1) ∨ (σ 15 w ≠ -1 ∧ σ 16 w = 0)
  · rw [if_pos c1]
    by_cases z : v = w
    · rw [if_pos z, z]
      rcases c1 with y | y
      · exact he y
      · exact y.2
    · rw [if_neg z]
  · rw [if_neg c1]
    by_cases c2 : σ 12 w ≤ 0
    · rw [if_pos c2]; simp [st]
    · rw [if_neg c2]
      by_cases c3 : u = 0
      · rw [if_pos c3]; exact t16 v
      · rw [if_neg c3, sp_spyl_f (by decide) (by decide)]; exact t16 v
theorem sp_trs_16 {σ : sg_S} (hT : sg_T σ) : ∀ n : Nat, (n : Int) ≤ σ 3 0 → ∀ v, sp_trs σ n 16 v = if v / 2 < n then 0 else σ 16 v
  | 0, _, v => by rw [if_neg (Nat.not_lt_zero _)]; rfl
  | n + 1, hn, v => by
    have ih := sp_trs_16 hT n (by omega)
    have e3 : sp_trs σ n 3 0 = σ 3 0 := sp_trs_f (by decide) (by decide) n
    have e3' : sp_turn (sp_trs σ n) (n : Int) 1 (2 * n + 1) 3 0 = σ 3 0 := (sp_turn_f (by decide) (by decide)).trans e3
    have h1 := sp_turn_16 (σ := sp_trs σ n) (t := (n : Int)) (u := 1) (w := 2 * n + 1) (fun z => by
      rw [if_neg (by decide), e3] at z
      rw [ih, if_neg (by omega)]
      refine hT _ (Or.inr ?_)
      unfold si_en
      rw [if_neg (by omega)]; omega)
    have h0 := sp_turn_16 (σ := sp_turn (sp_trs σ n) (n : Int) 1 (2 * n + 1)) (t := (n : Int)) (u := 0) (w := 2 * n) (fun z => by
      rw [if_pos rfl] at z
      rw [h1, if_neg (by omega), ih, if_neg (by omega)]
      refine hT _ (Or.inr ?_)
      unfold si_en
      rw [if_pos (by omega)]; omega)
    simp only [sp_trs]
    rw [h0, h1, ih]
    by_cases c0 : v = 2 * n
    · rw [if_pos c0, if_pos (by omega)]
    · rw [if_neg c0]
      by_cases c1 : v = 2 * n + 1
      · rw [if_pos c1, if_pos (by omega)]
      · rw [if_neg c1]
        by_cases c2 : v / 2 < n
        · rw [if_pos c2, if_pos (by omega)]
        · rw [if_neg c2, if_neg (by omega)]
theorem bs_lks_T {σ : sg_S} (hT : sg_T σ) : ∀ n : Nat, (n : Int) ≤ σ 3 0 → sg_T (bs_lks σ n)
  | 0, _ => hT
  | n + 1, hn => by
    have ih := bs_lks_T hT n (by omega)
    have e : bs_lks σ n 3 0 = σ 3 0 := bs_lks_f (by decide) (by decide) (by decide) (by decide) (by decide) n
    have h2 := sg_T_looks ih (t := (n : Int)) (u := 1) (by rw [e]; omega) (Or.inr rfl)
    exact sg_T_looks h2 (by rw [bs_looks_f (by decide) (by decide) (by decide) (by decide) (by decide), e]; omega) (Or.inl rfl)
theorem bs_min_16 {σ : sg_S} (h3 : 0 ≤ σ 3 0) (h : ∀ w, σ 16 w = 0) : ∀ w, bs_min σ 16 w = 0 := by
  intro w
  unfold bs_min
  have hT0 : sg_T (sp_tick σ) := fun v _ => by unfold sp_tick; rw [st_nf (by decide), st_nf (by decide)]; exact h v
  have e3 : sp_tick σ 3 0 = σ 3 0 := sp_tick_3
  have hT := bs_lks_T hT0 (σ 3 0).toNat (by rw [e3]; omega)
  have e : bs_lks (sp_tick σ) (σ 3 0).toNat 3 0 = σ 3 0 := (bs_lks_f (by decide) (by decide) (by decide) (by decide) (by decide) _).trans e3
  rw [sp_trs_16 hT _ (by rw [e]; omega)]
  by_cases c : w / 2 < (σ 3 0).toNat
  · rw [if_pos c]
  · rw [if_neg c]
    exact hT w (Or.inl (by rw [e]; omega))
theorem bs_mins_16 {σ : sg_S} (h3 : 0 ≤ σ 3 0) (h : ∀ w, σ 16 w = 0) : ∀ n w, bs_mins σ n 16 w = 0
  | 0, w => h w
  | n + 1, w => by
    have e : ∀ n, bs_mins σ n 3 0 = σ 3 0 := fun n => by
      induction n with
      | zero => rfl
      | succ n ih => simp only [bs_mins]; rw [bs_min_f (by decide) (by decide) (by decide) (by decide) (by decide)]; exact ih
    simp only [bs_mins]
    exact bs_min_16 (by rw [e]; exact h3) (fun w => bs_mins_16 h3 h n w) w

