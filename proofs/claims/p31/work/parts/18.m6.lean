theorem sp_looks_by (P : sg_S → Prop) {σ : sg_S} {t u : Int} (h0 : P σ)
    (h1 : (t = if u = 0 then 0 else σ 3 0 - 1) → (σ 15 (2 * (sp_ln t u) + u.toNat) ≠ -1 ∧ σ 16 (2 * (sp_ln t u) + u.toNat) = 0 ∧ ((t = if u = 0 then 0 else σ 3 0 - 1) ∨ σ 12 (2 * t.toNat + u.toNat) < 10) ∧ an_see σ (if u = 0 then t.toNat else (sp_ln t u)) = 1) → P (sp_tapes (sp_writes (st σ 16 (2 * (sp_ln t u) + u.toNat) 1) (2 * t + u) (an_reads σ t (σ 15 (2 * (sp_ln t u) + u.toNat))) 0) u.toNat (an_reads σ t (σ 15 (2 * (sp_ln t u) + u.toNat))))) (h2 : ¬ (t = if u = 0 then 0 else σ 3 0 - 1) → (σ 15 (2 * (sp_ln t u) + u.toNat) ≠ -1 ∧ σ 16 (2 * (sp_ln t u) + u.toNat) = 0 ∧ ((t = if u = 0 then 0 else σ 3 0 - 1) ∨ σ 12 (2 * t.toNat + u.toNat) < 10) ∧ an_see σ (if u = 0 then t.toNat else (sp_ln t u)) = 1) → P (sp_kp (sp_writes (st σ 16 (2 * (sp_ln t u) + u.toNat) 1) (2 * t + u) (an_reads σ t (σ 15 (2 * (sp_ln t u) + u.toNat))) 0) (2 * t.toNat + u.toNat) (σ 12 (2 * t.toNat + u.toNat)).toNat (an_reads σ t (σ 15 (2 * (sp_ln t u) + u.toNat))))) : P (sp_looks σ t u) := by
  unfold sp_looks
  by_cases c1 : ¬ (0 ≤ sp_lk σ t u ∧ sp_lk σ t u ≤ σ 3 0 - 1)
  · rw [if_pos c1]; exact h0
  · rw [if_neg c1]
    by_cases c2 : (σ 15 (2 * (sp_ln t u) + u.toNat) ≠ -1 ∧ σ 16 (2 * (sp_ln t u) + u.toNat) = 0 ∧ ((t = if u = 0 then 0 else σ 3 0 - 1) ∨ σ 12 (2 * t.toNat + u.toNat) < 10) ∧ an_see σ (if u = 0 then t.toNat else (sp_ln t u)) = 1)
    · rw [if_pos c2]
      by_cases c3 : (t = if u = 0 then 0 else σ 3 0 - 1)
      · rw [if_pos c3]; exact h1 c3 c2
      · rw [if_neg c3]; exact h2 c3 c2
    · rw [if_neg c2]; exact h0
theorem sp_looks_f {σ : sg_S} {t u : Int} {f j : Nat} (h1 : f ≠ 12) (h2 : f ≠ 14) (h3 : f < 16 ∨ 20 < f) (h4 : f < 27 ∨ 38 < f) : sp_looks σ t u f j = σ f j := by
  refine sp_looks_by (fun z => z f j = σ f j) rfl (fun _ _ => ?_) (fun _ _ => ?_)
  · rw [sp_tapes_f h4, sp_writes_f (by omega), st_nf (by omega)]
  · rw [sp_kp_f h1 h2, sp_writes_f (by omega), st_nf (by omega)]
theorem sp_looks_wb {T : Int} {σ : sg_S} (hW : md_wb T σ) {t u : Int} (h8 : ∀ w, σ 28 w ≤ 38) : md_wb T (sp_looks σ t u) := by
  have b15 := wb15 hW (2 * (sp_ln t u) + u.toNat)
  refine sp_looks_by (md_wb T) hW (fun hl hc => ?_) (fun hl hc => ?_)
  · have hr := an_reads_in hW (t := t) (sg := σ 15 (2 * (sp_ln t u) + u.toNat)) (by omega)
    have h1 : md_wb T (sp_writes (st σ 16 (2 * (sp_ln t u) + u.toNat) 1) (2 * t + u) (an_reads σ t (σ 15 (2 * (sp_ln t u) + u.toNat))) 0) := sp_writes_wb (wb_st hW (by show (0 : Int) ≤ _; omega) (by show _ ≤ (1 : Int); omega)) (by omega) (Or.inl rfl)
    refine sp_tapes_wb h1 (by omega) ?_
    rw [sp_writes_f (by omega), st_nf (by omega)]
    exact h8 _
  · have hr := an_reads_in hW (t := t) (sg := σ 15 (2 * (sp_ln t u) + u.toNat)) (by omega)
    have h1 : md_wb T (sp_writes (st σ 16 (2 * (sp_ln t u) + u.toNat) 1) (2 * t + u) (an_reads σ t (σ 15 (2 * (sp_ln t u) + u.toNat))) 0) := sp_writes_wb (wb_st hW (by show (0 : Int) ≤ _; omega) (by show _ ≤ (1 : Int); omega)) (by omega) (Or.inl rfl)
    refine sp_kp_wb h1 (by omega) ?_
    rw [sp_writes_f (by omega), st_nf (by omega)]
    rcases hc.2.2.1 with z | z
    · exact absurd z hl
    · omega
/-- moved down by one, the first i -/
def sp_shl (σ : sg_S) (w i : Nat) : sg_S := fun f j => if f = 14 ∧ 220 * w ≤ j ∧ j < 220 * w + i then σ 14 (j + 1) else σ f j
theorem sp_shl_f {σ : sg_S} {w i f j : Nat} (h : f ≠ 14) : sp_shl σ w i f j = σ f j := by simp [sp_shl, h]
theorem sp_shl_hi {σ : sg_S} {w i j : Nat} (h : 220 * w + i ≤ j) : sp_shl σ w i 14 j = σ 14 j := by
  simp only [sp_shl]
  rw [if_neg (by omega)]
theorem sp_shl_0 {σ : sg_S} {w : Nat} : sp_shl σ w 0 = σ := by
  funext f j
  simp only [sp_shl]
  rw [if_neg (by omega)]
theorem sp_shl_s {σ : sg_S} {w i : Nat} : st (sp_shl σ w i) 14 (220 * w + i) (σ 14 (220 * w + i + 1)) = sp_shl σ w (i + 1) := by
  funext f j
  simp only [st, sp_shl]
  by_cases h1 : f = 14
  · subst h1
    by_cases h2 : j = 220 * w + i
    · subst h2
      rw [if_pos ⟨rfl, rfl⟩, if_pos ⟨rfl, by omega, by omega⟩]
    · rw [if_neg (fun z => h2 z.2)]
      by_cases h3 : 220 * w ≤ j ∧ j < 220 * w + i
      · rw [if_pos ⟨rfl, h3⟩, if_pos ⟨rfl, by omega, by omega⟩]
      · rw [if_neg (fun z => h3 z.2), if_neg (fun z => h3 ⟨z.2.1, by omega⟩)]
  · rw [if_neg (fun z => h1 z.1), if_neg (fun z => h1 z.1), if_neg (fun z => h1 z.1)]
theorem sp_shl_wb {T : Int} {σ : sg_S} (hW : md_wb T σ) {w i : Nat} : md_wb T (sp_shl σ w i) := by
  refine ⟨fun f j hf => ?_, hW.2⟩
  simp only [sp_shl]
  split
  · rename_i h; obtain ⟨rfl, -⟩ := h
    exact wb14 hW _
  · exact hW.1 f j hf
def sp_turn0 (σ : sg_S) (w : Nat) : sg_S := st (st (st (st σ 16 w 0) 15 w (σ 14 (220 * w))) 12 w (σ 12 w - 1)) 13 w (σ 13 w - (if 0 < σ 13 w then 1 else 0))
def sp_turn1 (σ : sg_S) (w : Nat) : sg_S := sp_shl (sp_turn0 σ w) w (σ 12 w - 1).toNat
/-- a tower turns to the next sign that it keeps -/
def sp_turn (σ : sg_S) (t u : Int) (w : Nat) : sg_S :=
  if (t = if u = 0 then 0 else σ 3 0 - 1) ∨ (σ 15 w ≠ -1 ∧ σ 16 w = 0) then σ
  else if σ 12 w ≤ 0 then st (st σ 16 w 0) 15 w (-1)
  else if u = 0 then sp_turn1 σ w else sp_spyl (sp_turn1 σ w) t (σ 14 (220 * w)) (σ 39 0).toNat
theorem sp_turn0_wb {T : Int} {σ : sg_S} (hW : md_wb T σ) {w : Nat} (h : 0 < σ 12 w) : md_wb T (sp_turn0 σ w) := by
  have b12 := wb12 hW w
  have b13 := wb13 hW w
  have b14 := wb14 hW (220 * w)
  unfold sp_turn0
  refine wb_st (wb_st (wb_st (wb_st hW (by show (0 : Int) ≤ _; omega) (by show _ ≤ (1 : Int); omega)) (by show (-1 : Int) ≤ _; omega) (by show _ ≤ (96 : Int); omega)) (by show (0 : Int) ≤ _; omega) (by show _ ≤ (200 : Int); omega)) (by show (0 : Int) ≤ _; split <;> omega) (by show _ ≤ (200 : Int); split <;> omega)
theorem sp_turn_by (P : sg_S → Prop) {σ : sg_S} {t u : Int} {w : Nat} (h0 : P σ) (h1 : ¬ ((t = if u = 0 then 0 else σ 3 0 - 1) ∨ (σ 15 w ≠ -1 ∧ σ 16 w = 0)) → σ 12 w ≤ 0 → P (st (st σ 16 w 0) 15 w (-1)))
    (h2 : ¬ ((t = if u = 0 then 0 else σ 3 0 - 1) ∨ (σ 15 w ≠ -1 ∧ σ 16 w = 0)) → ¬ σ 12 w ≤ 0 → u = 0 → P (sp_turn1 σ w)) (h3 : ¬ ((t = if u = 0 then 0 else σ 3 0 - 1) ∨ (σ 15 w ≠ -1 ∧ σ 16 w = 0)) → ¬ σ 12 w ≤ 0 → ¬ u = 0 → P (sp_spyl (sp_turn1 σ w) t (σ 14 (220 * w)) (σ 39 0).toNat)) : P (sp_turn σ t u w) := by
  unfold sp_turn
  by_cases c1 : ((t = if u = 0 then 0 else σ 3 0 - 1) ∨ (σ 15 w ≠ -1 ∧ σ 16 w = 0))
  · rw [if_pos c1]; exact h0
  · rw [if_neg c1]
    by_cases c2 : σ 12 w ≤ 0
    · rw [if_pos c2]; exact h1 c1 c2
    · rw [if_neg c2]
      by_cases c3 : u = 0
      · rw [if_pos c3]; exact h2 c1 c2 c3
      · rw [if_neg c3]; exact h3 c1 c2 c3
theorem sp_turn_2 {σ : sg_S} {t u : Int} {w : Nat} (h1 : ¬ ((t = if u = 0 then 0 else σ 3 0 - 1) ∨ (σ 15 w ≠ -1 ∧ σ 16 w = 0))) (h2 : ¬ σ 12 w ≤ 0) : sp_turn σ t u w = if u = 0 then sp_turn1 σ w else sp_spyl (sp_turn1 σ w) t (σ 14 (220 * w)) (σ 39 0).toNat := by
  unfold sp_turn
  rw [if_neg h1, if_neg h2]
theorem sp_turn_wb {T : Int} {σ : sg_S} (hW : md_wb T σ) {t u : Int} {w : Nat} : md_wb T (sp_turn σ t u w) := by
  have b14 := wb14 hW (220 * w)
  refine sp_turn_by (md_wb T) hW (fun _ _ => ?_) (fun _ c _ => ?_) (fun _ c _ => ?_)
  · exact wb_st (wb_st hW (by show (0 : Int) ≤ _; omega) (by show _ ≤ (1 : Int); omega)) (by show (-1 : Int) ≤ _; omega) (by show _ ≤ (96 : Int); omega)
  · exact sp_shl_wb (sp_turn0_wb hW (by omega))
  · exact sp_spyl_wb (sp_shl_wb (sp_turn0_wb hW (by omega))) b14.1 _
theorem sp_turn1_f {σ : sg_S} {w f j : Nat} (h1 : f < 12 ∨ 16 < f) : sp_turn1 σ w f j = σ f j := by
  unfold sp_turn1 sp_turn0
  rw [sp_shl_f (by omega), st_nf (by omega), st_nf (by omega), st_nf (by omega), st_nf (by omega)]
theorem sp_turn_f {σ : sg_S} {t u : Int} {w f j : Nat} (h1 : f < 12 ∨ 16 < f) (h2 : f < 41 ∨ 42 < f) : sp_turn σ t u w f j = σ f j := by
  refine sp_turn_by (fun z => z f j = σ f j) rfl (fun _ _ => ?_) (fun _ _ _ => ?_) (fun _ _ _ => ?_)
  · rw [st_nf (by omega), st_nf (by omega)]
  · exact sp_turn1_f h1
  · rw [sp_spyl_f (by omega) (by omega), sp_turn1_f h1]
/-- the first n towers look, up and then down -/
def sp_lks (σ : sg_S) : Nat → sg_S
  | 0 => σ
  | n + 1 => sp_looks (sp_looks (sp_lks σ n) (n : Int) 1) (n : Int) 0
def sp_trs (σ : sg_S) : Nat → sg_S
  | 0 => σ
  | n + 1 => sp_turn (sp_turn (sp_trs σ n) (n : Int) 1 (2 * n + 1)) (n : Int) 0 (2 * n)
def sp_tick (σ : sg_S) : sg_S := st (st σ 2 0 1) 1 0 (σ 1 0 + 1)
/-- a minute -/
def sp_min (σ : sg_S) : sg_S := sp_trs (sp_lks (sp_tick σ) (σ 3 0).toNat) (σ 3 0).toNat
def sp_mins (σ : sg_S) : Nat → sg_S
  | 0 => σ
  | n + 1 => sp_min (sp_mins σ n)
def sp_pass (σ : sg_S) (a : Int) : sg_S := if ¬ (1 ≤ a ∧ a ≤ 200) then st σ 0 0 1 else sp_mins (st σ 0 0 0) a.toNat
def an_pass (σ : sg_S) (a : Int) : Int := if ¬ (1 ≤ a ∧ a ≤ 200) then 0 else σ 1 0 + a
/-- what holds of every state of a pass: kept by a look, by a turn, by a tick -/
def md_J (J : sg_S → Prop) : Prop := (∀ σ, J σ → (∀ w, σ 28 w ≤ 38) ∧ (∀ t : Nat, (t : Int) < σ 3 0 → 1 ≤ σ 5 t)) ∧ (∀ σ t u, J σ → 0 ≤ t ∧ t ≤ σ 3 0 - 1 → u = 0 ∨ u = 1 → J (sp_looks σ t u)) ∧ (∀ σ t u w, J σ → 0 ≤ t ∧ t ≤ σ 3 0 - 1 → u = 0 ∨ u = 1 → w = 2 * t.toNat + u.toNat → J (sp_turn σ t u w)) ∧ (∀ σ, J σ → J (sp_tick σ)) ∧ (∀ σ, J σ → J (st σ 0 0 0))
theorem sp_lks_f {σ : sg_S} {f j : Nat} (h1 : f ≠ 12) (h2 : f ≠ 14) (h3 : f < 16 ∨ 20 < f) (h4 : f < 27 ∨ 38 < f) : ∀ n, sp_lks σ n f j = σ f j
  | 0 => rfl
  | n + 1 => by simp only [sp_lks]; rw [sp_looks_f h1 h2 h3 h4, sp_looks_f h1 h2 h3 h4]; exact sp_lks_f h1 h2 h3 h4 n
theorem sp_trs_f {σ : sg_S} {f j : Nat} (h1 : f < 12 ∨ 16 < f) (h2 : f < 41 ∨ 42 < f) : ∀ n, sp_trs σ n f j = σ f j
  | 0 => rfl
  | n + 1 => by simp only [sp_trs]; rw [sp_turn_f h1 h2, sp_turn_f h1 h2]; exact sp_trs_f h1 h2 n
theorem sp_min_f {σ : sg_S} {f j : Nat} (h0 : f ≠ 1 ∧ f ≠ 2) (h1 : f < 12 ∨ 20 < f) (h2 : f < 27 ∨ 38 < f) (h3 : f < 41 ∨ 42 < f) : sp_min σ f j = σ f j := by
  unfold sp_min
  rw [sp_trs_f (by omega) h3, sp_lks_f (by omega) (by omega) (by omega) h2]
  unfold sp_tick
  rw [st_nf h0.1, st_nf h0.2]
theorem sp_min_1 {σ : sg_S} : sp_min σ 1 0 = σ 1 0 + 1 := by
  unfold sp_min
  rw [sp_trs_f (by decide) (by decide), sp_lks_f (by decide) (by decide) (by decide) (by decide)]
  unfold sp_tick
  rw [st_eq]
theorem sp_mins_f {σ : sg_S} {f j : Nat} (h0 : f ≠ 1 ∧ f ≠ 2) (h1 : f < 12 ∨ 20 < f) (h2 : f < 27 ∨ 38 < f) (h3 : f < 41 ∨ 42 < f) : ∀ n, sp_mins σ n f j = σ f j
  | 0 => rfl
  | n + 1 => by simp only [sp_mins]; rw [sp_min_f h0 h1 h2 h3]; exact sp_mins_f h0 h1 h2 h3 n
theorem sp_mins_1 {σ : sg_S} : ∀ n : Nat, sp_mins σ n 1 0 = σ 1 0 + n
  | 0 => by simp [sp_mins]
  | n + 1 => by simp only [sp_mins]; rw [sp_min_1, sp_mins_1 n]; omega
theorem sp_lks_J {J : sg_S → Prop} (hJ : md_J J) {σ : sg_S} (h : J σ) : ∀ n : Nat, (n : Int) ≤ σ 3 0 → J (sp_lks σ n)
  | 0, _ => h
  | n + 1, hn => by
    have h1 := sp_lks_J hJ h n (by omega)
    have e : sp_lks σ n 3 0 = σ 3 0 := sp_lks_f (by decide) (by decide) (by decide) (by decide) n
    have h2 := hJ.2.1 _ (n : Int) 1 h1 (by rw [e]; omega) (Or.inr rfl)
    exact hJ.2.1 _ (n : Int) 0 h2 (by rw [sp_looks_f (by decide) (by decide) (by decide) (by decide), e]; omega) (Or.inl rfl)
theorem sp_trs_J {J : sg_S → Prop} (hJ : md_J J) {σ : sg_S} (h : J σ) : ∀ n : Nat, (n : Int) ≤ σ 3 0 → J (sp_trs σ n)
  | 0, _ => h
  | n + 1, hn => by
    have h1 := sp_trs_J hJ h n (by omega)
    have e : sp_trs σ n 3 0 = σ 3 0 := sp_trs_f (by decide) (by decide) n
    have h2 := hJ.2.2.1 _ (n : Int) 1 (2 * n + 1) h1 (by rw [e]; omega) (Or.inr rfl) (by rw [Int.toNat_natCast]; rfl)
    exact hJ.2.2.1 _ (n : Int) 0 (2 * n) h2 (by rw [sp_turn_f (by decide) (by decide), e]; omega) (Or.inl rfl) (by rw [Int.toNat_natCast]; rfl)
theorem sp_lks_wb {T : Int} {J : sg_S → Prop} (hJ : md_J J) {σ : sg_S} (h : J σ) (hW : md_wb T σ) : ∀ n : Nat, (n : Int) ≤ σ 3 0 → md_wb T (sp_lks σ n)
  | 0, _ => hW
  | n + 1, hn => by
    have h1 := sp_lks_J hJ h n (by omega)
    have e : sp_lks σ n 3 0 = σ 3 0 := sp_lks_f (by decide) (by decide) (by decide) (by decide) n
    have h2 := hJ.2.1 _ (n : Int) 1 h1 (by rw [e]; omega) (Or.inr rfl)
    exact sp_looks_wb (sp_looks_wb (sp_lks_wb hJ h hW n (by omega)) (hJ.1 _ h1).1) (hJ.1 _ h2).1
theorem sp_trs_wb {T : Int} {σ : sg_S} (hW : md_wb T σ) : ∀ n : Nat, md_wb T (sp_trs σ n)
  | 0 => hW
  | n + 1 => sp_turn_wb (sp_turn_wb (sp_trs_wb hW n))
theorem sp_tick_wb {T : Int} {σ : sg_S} (hW : md_wb T σ) (h : σ 1 0 + 1 ≤ T) : md_wb T (sp_tick σ) := by
  have b := wb1 hW 0
  unfold sp_tick
  exact wb_st (wb_st hW (by show (0 : Int) ≤ _; omega) (by show _ ≤ (1 : Int); omega)) (by show (0 : Int) ≤ _; omega) h
theorem sp_tick_3 {σ : sg_S} : sp_tick σ 3 0 = σ 3 0 := by unfold sp_tick; rw [st_nf (by decide), st_nf (by decide)]
theorem sp_min_wb {T : Int} {J : sg_S → Prop} (hJ : md_J J) {σ : sg_S} (h : J σ) (hW : md_wb T σ) (hT : σ 1 0 + 1 ≤ T) : md_wb T (sp_min σ) := by
  have b3 := wb3 hW 0
  unfold sp_min
  exact sp_trs_wb (sp_lks_wb hJ (hJ.2.2.2.1 _ h) (sp_tick_wb hW hT) _ (by rw [sp_tick_3]; omega)) _
theorem sp_min_J {T : Int} {J : sg_S → Prop} (hJ : md_J J) {σ : sg_S} (h : J σ) (hW : md_wb T σ) : J (sp_min σ) := by
  have b3 := wb3 hW 0
  unfold sp_min
  refine sp_trs_J hJ (sp_lks_J hJ (hJ.2.2.2.1 _ h) _ (by rw [sp_tick_3]; omega)) _ ?_
  rw [sp_lks_f (by decide) (by decide) (by decide) (by decide), sp_tick_3]
  omega
theorem sp_mins_JW {T : Int} {J : sg_S → Prop} (hJ : md_J J) {σ : sg_S} (h : J σ) (hW : md_wb T σ) : ∀ n : Nat, σ 1 0 + n ≤ T → J (sp_mins σ n) ∧ md_wb T (sp_mins σ n)
  | 0, _ => ⟨h, hW⟩
  | n + 1, hn => by
    obtain ⟨h1, h2⟩ := sp_mins_JW hJ h hW n (by omega)
    exact ⟨sp_min_J hJ h1 h2, sp_min_wb hJ h1 h2 (by rw [sp_mins_1]; omega)⟩

