/-! a pass sees the model's fields alone -/
def ag (σ τ : sg_S) : Prop := ∀ f, f ≤ 48 → τ f = σ f
theorem ag_rf {σ : sg_S} : ag σ σ := fun _ _ => rfl
theorem ag_tr {σ τ υ : sg_S} (h : ag σ τ) (g : ag τ υ) : ag σ υ := fun f hf => (g f hf).trans (h f hf)
theorem ag_st {σ τ : sg_S} (h : ag σ τ) {f i : Nat} {v : Int} : ag (st σ f i v) (st τ f i v) := fun g hg => by
  funext j
  simp only [st]
  rw [h g hg]
theorem ag_kp {σ τ : sg_S} (h : ag σ τ) {w p : Nat} {s : Int} : ag (sp_kp σ w p s) (sp_kp τ w p s) := fun g hg => by
  funext j
  unfold sp_kp
  rw [h 12 (by decide), h 14 (by decide), h g hg]
theorem ag_writes {σ τ : sg_S} (h : ag σ τ) {w s o : Int} : ag (sp_writes σ w s o) (sp_writes τ w s o) := by
  unfold sp_writes
  rw [h 17 (by decide), h 1 (by decide)]
  split
  · exact ag_st (ag_st (ag_st (ag_st h)))
  · exact h
theorem ag_opens {σ τ : sg_S} (h : ag σ τ) {w : Nat} {u : Int} : ag (sp_opens σ w u) (sp_opens τ w u) := by
  have h0 : ag (sp_opens0 σ w u) (sp_opens0 τ w u) := by
    unfold sp_opens0
    rw [h 28 (by decide), h 30 (by decide)]
    split
    · exact ag_st h
    · exact h
  unfold sp_opens sp_opens1
  rw [h0 28 (by decide), h0 1 (by decide)]
  exact ag_st (ag_st (ag_st (ag_st h0)))
theorem ag_cs {σ τ : sg_S} (h : ag σ τ) {a b i : Nat} : ag (sp_cs σ a b i) (sp_cs τ a b i) := fun g hg => by
  funext j
  unfold sp_cs
  rw [h 32 (by decide), h g hg]
theorem ag_ends {σ τ : sg_S} (h : ag σ τ) {w : Nat} : ag (sp_ends σ w) (sp_ends τ w) := by
  unfold sp_ends
  rw [h 33 (by decide), h 28 (by decide), h 29 (by decide), h 1 (by decide), h 30 (by decide), h 31 (by decide)]
  split
  · exact ag_st (ag_cs (ag_st (ag_st (ag_st (ag_st (ag_st h))))))
  · exact ag_st h
theorem ag_tapes {σ τ : sg_S} (h : ag σ τ) {w : Nat} {s : Int} : ag (sp_tapes σ w s) (sp_tapes τ w s) := by
  unfold sp_tapes
  rw [h 27 (by decide), h 28 (by decide), h 31 (by decide)]
  split
  · exact ag_opens (ag_st h)
  · split
    · exact ag_st (ag_st h)
    · split
      · exact ag_ends (ag_st h)
      · split
        · exact ag_st (ag_st (ag_st h))
        · exact ag_st h
theorem ag_sl {σ τ : sg_S} (h : ag σ τ) {s : Nat} : ∀ n, sp_sl τ s n = sp_sl σ s n
  | 0 => by simp only [sp_sl]; rw [h 1 (by decide), h 7 (by decide), h 5 (by decide)]
  | n + 1 => by simp only [sp_sl]; rw [ag_sl h n, h 9 (by decide), h 4 (by decide), h 10 (by decide), h 5 (by decide)]
theorem ag_see {σ τ : sg_S} (h : ag σ τ) {s : Nat} : an_see τ s = an_see σ s := by
  unfold an_see
  rw [h 8 (by decide), ag_sl h]
theorem ag_reads {σ τ : sg_S} (h : ag σ τ) {t s : Int} : an_reads τ t s = an_reads σ t s := by
  unfold an_reads
  rw [h 1 (by decide), h 11 (by decide), h 6 (by decide)]
theorem ag_looks {σ τ : sg_S} (h : ag σ τ) {t u : Int} : ag (sp_looks σ t u) (sp_looks τ t u) := by
  have e : sp_lk τ t u = sp_lk σ t u := rfl
  unfold sp_looks
  rw [e, h 3 (by decide), h 15 (by decide), h 16 (by decide), h 12 (by decide), ag_see h, ag_reads h]
  by_cases c1 : ¬ (0 ≤ sp_lk σ t u ∧ sp_lk σ t u ≤ σ 3 0 - 1)
  · rw [if_pos c1, if_pos c1]; exact h
  · rw [if_neg c1, if_neg c1]
    by_cases c2 : (σ 15 (2 * (sp_ln t u) + u.toNat) ≠ -1 ∧ σ 16 (2 * (sp_ln t u) + u.toNat) = 0 ∧ ((t = if u = 0 then 0 else σ 3 0 - 1) ∨ σ 12 (2 * t.toNat + u.toNat) < 10) ∧ an_see σ (if u = 0 then t.toNat else (sp_ln t u)) = 1)
    · rw [if_pos c2, if_pos c2]
      by_cases c3 : (t = if u = 0 then 0 else σ 3 0 - 1)
      · rw [if_pos c3, if_pos c3]; exact ag_tapes (ag_writes (ag_st h))
      · rw [if_neg c3, if_neg c3]; exact ag_kp (ag_writes (ag_st h))
    · rw [if_neg c2, if_neg c2]; exact h
theorem ag_spyl {σ τ : sg_S} (h : ag σ τ) {t sg : Int} : ∀ n, ag (sp_spyl σ t sg n) (sp_spyl τ t sg n)
  | 0 => h
  | n + 1 => by
    simp only [sp_spyl]
    rw [h 40 (by decide), h 1 (by decide), h 7 (by decide), h 41 (by decide)]
    split
    · exact ag_st (ag_st (ag_spyl h n))
    · exact ag_spyl h n
theorem ag_shl {σ τ : sg_S} (h : ag σ τ) {w i : Nat} : ag (sp_shl σ w i) (sp_shl τ w i) := fun g hg => by
  funext j
  unfold sp_shl
  rw [h 14 (by decide), h g hg]
theorem ag_turn1 {σ τ : sg_S} (h : ag σ τ) {w : Nat} : ag (sp_turn1 σ w) (sp_turn1 τ w) := by
  unfold sp_turn1 sp_turn0
  rw [h 14 (by decide), h 12 (by decide), h 13 (by decide)]
  exact ag_shl (ag_st (ag_st (ag_st (ag_st h))))
theorem ag_turn {σ τ : sg_S} (h : ag σ τ) {t u : Int} {w : Nat} : ag (sp_turn σ t u w) (sp_turn τ t u w) := by
  unfold sp_turn
  rw [h 3 (by decide), h 15 (by decide), h 16 (by decide), h 12 (by decide), h 14 (by decide), h 39 (by decide)]
  by_cases c1 : ((t = if u = 0 then 0 else σ 3 0 - 1) ∨ (σ 15 w ≠ -1 ∧ σ 16 w = 0))
  · rw [if_pos c1, if_pos c1]; exact h
  · rw [if_neg c1, if_neg c1]
    split
    · exact ag_st (ag_st h)
    · split
      · exact ag_turn1 h
      · exact ag_spyl (ag_turn1 h) _
theorem ag_bl {σ τ : sg_S} (h : ag σ τ) {t u : Int} : ag (sp_looks σ t u) (bs_looks τ t u) := ag_tr (ag_looks h) fun f hf => funext fun j => bs_looks_lo hf
theorem ag_lks {σ τ : sg_S} (h : ag σ τ) : ∀ n, ag (sp_lks σ n) (bs_lks τ n)
  | 0 => h
  | n + 1 => ag_bl (ag_bl (ag_lks h n))
theorem ag_trs {σ τ : sg_S} (h : ag σ τ) : ∀ n, ag (sp_trs σ n) (sp_trs τ n)
  | 0 => h
  | n + 1 => ag_turn (ag_turn (ag_trs h n))
theorem ag_tick {σ τ : sg_S} (h : ag σ τ) : ag (sp_tick σ) (sp_tick τ) := by
  unfold sp_tick
  rw [h 1 (by decide)]
  exact ag_st (ag_st h)
theorem ag_min {σ τ : sg_S} (h : ag σ τ) : ag (sp_min σ) (bs_min τ) := by
  unfold sp_min bs_min
  rw [h 3 (by decide)]
  exact ag_trs (ag_lks (ag_tick h) _) _
theorem ag_mins {σ τ : sg_S} (h : ag σ τ) : ∀ n, ag (sp_mins σ n) (bs_mins τ n)
  | 0 => h
  | n + 1 => ag_min (ag_mins h n)
theorem ag_pass {σ : sg_S} {a : Int} : ag (sp_pass σ a) (bs_pass σ a) := by
  unfold sp_pass bs_pass
  split
  · exact ag_rf
  · exact ag_mins ag_rf _
/-! how large the answers are -/
theorem rg_see {σ : sg_S} {s : Nat} : an_see σ s = 0 ∨ an_see σ s = 1 := sp_sl_01 _
theorem sp_df_in {σ : sg_S} {w v : Nat} : ∀ (n a b : Nat) (p : Int), 0 ≤ p → -1 ≤ sp_df σ w v n a b p ∧ sp_df σ w v n a b p ≤ p + n
  | 0, a, b, p, hp => by simp only [sp_df]; omega
  | n + 1, a, b, p, hp => by
    simp only [sp_df]
    have ih := sp_df_in (σ := σ) (w := w) (v := v) n (sp_nx σ w (a + 1)) (sp_nx σ v (b + 1)) (p + 1) (by omega)
    split
    · split
      · omega
      · omega
    · omega
section Rg
variable {T : Int} {σ : sg_S} (hW : md_wb T σ)
theorem rg_tower {a b : Int} : md_wb T σ → am_r (an_tower σ a b) := fun hW => by
  have b0 := wb3 hW 0
  unfold an_tower am_r; (repeat' split) <;> omega
theorem rg_hill {s a b : Int} : md_wb T σ → am_r (an_hill σ s a b) := fun hW => by
  have b0 := wb8 hW s.toNat
  unfold an_hill am_r; (repeat' split) <;> omega
theorem rg_air {s a : Int} : md_wb T σ → am_r (an_air σ s a) := fun hW => by
  have b0 := wb7 hW s.toNat
  unfold an_air am_r; (repeat' split) <;> omega
theorem rg_tire {s a : Int} : md_wb T σ → am_r (an_tire σ s a) := fun hW => by
  have b0 := wb6 hW s.toNat
  unfold an_tire am_r; (repeat' split) <;> omega
theorem rg_seed {a : Int} : md_wb T σ → am_r (an_seed σ a) := fun hW => by
  have b0 := wb11 hW 0
  unfold an_seed am_r; (repeat' split) <;> omega
theorem rg_write {a p l v : Int} : md_wb T σ → am_r (an_write σ a p l v) := fun hW => by
  have b0 := wb23 hW (sp_fnd σ a.toNat (92 * p + l) (σ 21 a.toNat).toNat).toNat
  unfold an_write am_r; (repeat' split) <;> omega
theorem rg_type {a : Int} : md_wb T σ → am_r (an_type σ a) := fun hW => by
  have b0 := wb24 hW 0
  unfold an_type am_r; (repeat' split) <;> omega
theorem rg_clear : md_wb T σ → am_r (an_clear σ) := fun hW => by
  have b0 := wb24 hW 0
  unfold an_clear am_r; omega
theorem rg_send {u b r : Int} (hr : r = 0 ∨ r = 1) : md_wb T σ → am_r (an_send σ u b r) := fun hW => by
  have b0 := wb12 hW (sp_sw σ u)
  have b1 := an_sk_in (x := σ) (b := b) hr
  unfold an_send am_r; (repeat' split) <;> omega
theorem rg_mark {t u e : Int} : md_wb T σ → am_r (an_mark σ t u e) := fun hW => by
  have b0 := wb12 hW (2 * t.toNat + u.toNat)
  unfold an_mark am_r; (repeat' split) <;> omega
theorem rg_spy {t : Int} : md_wb T σ → am_r (an_spy σ t) := fun hW => by
  have b0 := wb39 hW 0
  unfold an_spy am_r; (repeat' split) <;> omega
theorem rg_pass {a : Int} : md_wb T σ → am_r (an_pass σ a) := fun hW => by
  have b0 := wb1 hW 0
  unfold an_pass am_r; (repeat' split) <;> omega
theorem rg_minute : md_wb T σ → am_r (an_minute σ) := fun hW => by
  have b0 := wb1 hW 0
  unfold an_minute am_r; omega
theorem rg_towers : md_wb T σ → am_r (an_towers σ) := fun hW => by
  have b0 := wb3 hW 0
  unfold an_towers am_r; omega
theorem rg_sees {s : Int} : an_sees σ s = 0 ∨ an_sees σ s = 1 := by
  unfold an_sees
  split
  · exact Or.inl rfl
  · exact rg_see
theorem rg_shows {t u : Int} : md_wb T σ → am_r (an_shows σ t u) := fun hW => by
  have b0 := wb15 hW (2 * t.toNat + u.toNat)
  unfold an_shows am_r; (repeat' split) <;> omega
theorem rg_keeps {t u p : Int} : md_wb T σ → am_r (an_keeps σ t u p) := fun hW => by
  have b0 := wb14 hW (220 * (2 * t.toNat + u.toNat) + p.toNat)
  unfold an_keeps am_r; (repeat' split) <;> omega
theorem rg_logs {t u : Int} : md_wb T σ → am_r (an_logs σ t u) := fun hW => by
  have b0 := wb17 hW (2 * t.toNat + u.toNat)
  unfold an_logs am_r; (repeat' split) <;> omega
theorem rg_log {t u n a : Int} : md_wb T σ → am_r (an_log σ t u n a) := fun hW => by
  have b0 := wb18 hW (300 * (2 * t.toNat + u.toNat) + n.toNat)
  have b1 := wb19 hW (300 * (2 * t.toNat + u.toNat) + n.toNat)
  have b2 := wb20 hW (300 * (2 * t.toNat + u.toNat) + n.toNat)
  unfold an_log am_r; (repeat' split) <;> omega
theorem rg_differs {t o u : Int} : md_wb T σ → am_r (an_differs σ t o u) := fun hW => by
  have b0 := sp_df_in (σ := σ) (w := 2 * t.toNat + u.toNat) (v := 2 * o.toNat + u.toNat) 300 (sp_nx σ (2 * t.toNat + u.toNat) 0) (sp_nx σ (2 * o.toNat + u.toNat) 0) 0 (Int.le_refl _)
  unfold an_differs am_r; (repeat' split) <;> omega
theorem rg_came {u : Int} : md_wb T σ → am_r (an_came σ u) := fun hW => by
  have b0 := wb33 hW u.toNat
  unfold an_came am_r; omega
theorem rg_open {u : Int} : md_wb T σ → am_r (an_open σ u) := fun hW => by
  have b0 := wb28 hW u.toNat
  unfold an_open am_r; omega
theorem rg_told {u n a : Int} : md_wb T σ → am_r (an_told σ u n a) := fun hW => by
  have b0 := wb34 hW (40 * u.toNat + n.toNat)
  have b1 := wb35 hW (40 * u.toNat + n.toNat)
  have b2 := wb36 hW (40 * u.toNat + n.toNat)
  have b3 := wb37 hW (40 * u.toNat + n.toNat)
  unfold an_told am_r; (repeat' split) <;> omega
theorem rg_phrase {u n p b : Int} : md_wb T σ → am_r (an_phrase σ u n p b) := fun hW => by
  have b0 := wb23 hW (sp_fnd σ b.toNat (92 * σ 38 (60 * (40 * u.toNat + n.toNat) + 2 * p.toNat) + σ 38 ((60 * (40 * u.toNat + n.toNat) + 2 * p.toNat) + 1)) (σ 21 b.toNat).toNat).toNat
  unfold an_phrase am_r; (repeat' split) <;> omega
theorem rg_seen {n : Int} : md_wb T σ → am_r (an_seen σ n) := fun hW => by
  have b0 := wb41 hW n.toNat
  unfold an_seen am_r; (repeat' split) <;> omega
theorem rg_tries {a b : Int} : md_wb T σ → am_r (an_tries σ a b) := fun hW => by
  have b1 := wb41 hW a.toNat
  have b0 := sp_tc_in (σ := σ) (b := b.toNat) (s := a.toNat) (σ 41 a.toNat / 2).toNat
  unfold an_tries am_r; (repeat' split) <;> omega
theorem rg_comes {a : Int} : md_wb T σ → am_r (an_comes σ a) := fun hW => by
  have b0 := wb3 hW 0
  unfold an_comes am_r; (repeat' split) <;> omega
theorem rg_comesAnew {a : Int} : md_wb T σ → am_r (an_comesAnew σ a) := fun hW => by
  have b0 := wb3 hW 0
  unfold an_comesAnew am_r; (repeat' split) <;> omega
end Rg

