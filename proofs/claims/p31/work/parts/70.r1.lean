/-! bounds kept by the face's methods -/
theorem wb_0 {T : Int} {x : sg_S} (hW : md_wb T x) {c : Int} (h : 0 ≤ c ∧ c ≤ 3) : md_wb T (st x 0 0 c) := (wb_st hW (by show (0 : Int) ≤ _; omega) (by show _ ≤ (3 : Int); omega))
theorem wb_tower {T : Int} {x : sg_S} (hW : md_wb T x) {a b : Int} : md_wb T (sp_tower x a b) := by
  have b3 := wb3 hW 0
  have z0 : ∀ c : Int, 0 ≤ c ∧ c ≤ 3 → md_wb T (st x 0 0 c) := fun c h => wb_0 hW h
  unfold sp_tower
  split
  · exact z0 _ (by decide)
  · split
    · exact z0 _ (by decide)
    · exact (wb_st (wb_st (wb_st (z0 0 (by decide)) (by show (0 : Int) ≤ _; omega) (by show _ ≤ (99 : Int); omega)) (by show (0 : Int) ≤ _; omega) (by show _ ≤ (20 : Int); omega)) (by show (0 : Int) ≤ _; omega) (by show _ ≤ (12 : Int); omega))
theorem wb_hill {T : Int} {x : sg_S} (hW : md_wb T x) {s a b : Int} : md_wb T (sp_hill x s a b) := by
  have b8 := wb8 hW s.toNat
  have b5 := wb5 hW (s.toNat + 1)
  have z0 : ∀ c : Int, 0 ≤ c ∧ c ≤ 3 → md_wb T (st x 0 0 c) := fun c h => wb_0 hW h
  unfold sp_hill
  split
  · exact z0 _ (by decide)
  · split
    · exact z0 _ (by decide)
    · split
      · exact z0 _ (by decide)
      · exact (wb_st (wb_st (wb_st (z0 0 (by decide)) (by show (0 : Int) ≤ _; omega) (by show _ ≤ (99 : Int); omega)) (by show (0 : Int) ≤ _; omega) (by show _ ≤ (19 : Int); omega)) (by show (0 : Int) ≤ _; omega) (by show _ ≤ (3 : Int); omega))
theorem wb_air {T : Int} {x : sg_S} (hW : md_wb T x) {s a : Int} : md_wb T (sp_air x s a) := by
  have z0 : ∀ c : Int, 0 ≤ c ∧ c ≤ 3 → md_wb T (st x 0 0 c) := fun c h => wb_0 hW h
  unfold sp_air
  split
  · exact z0 _ (by decide)
  · split
    · exact z0 _ (by decide)
    · exact (wb_st (z0 0 (by decide)) (by show (0 : Int) ≤ _; omega) (by show _ ≤ (2 : Int); omega))
theorem wb_tire {T : Int} {x : sg_S} (hW : md_wb T x) {t a : Int} : md_wb T (sp_tire x t a) := by
  have z0 : ∀ c : Int, 0 ≤ c ∧ c ≤ 3 → md_wb T (st x 0 0 c) := fun c h => wb_0 hW h
  unfold sp_tire
  split
  · exact z0 _ (by decide)
  · split
    · exact z0 _ (by decide)
    · exact (wb_st (z0 0 (by decide)) (by show (0 : Int) ≤ _; omega) (by show _ ≤ (1009 : Int); omega))
theorem wb_seed {T : Int} {x : sg_S} (hW : md_wb T x) {a : Int} : md_wb T (sp_seed x a) := by
  have z0 : ∀ c : Int, 0 ≤ c ∧ c ≤ 3 → md_wb T (st x 0 0 c) := fun c h => wb_0 hW h
  unfold sp_seed
  split
  · exact z0 _ (by decide)
  · exact (wb_st (z0 0 (by decide)) (by show (0 : Int) ≤ _; omega) (by show _ ≤ (9999 : Int); omega))
theorem wb_type {T : Int} {x : sg_S} (hW : md_wb T x) {a : Int} : md_wb T (sp_type x a) := by
  have b24 := wb24 hW 0
  have z0 : ∀ c : Int, 0 ≤ c ∧ c ≤ 3 → md_wb T (st x 0 0 c) := fun c h => wb_0 hW h
  unfold sp_type
  split
  · exact z0 _ (by decide)
  · split
    · exact z0 _ (by decide)
    · exact (wb_st (wb_st (z0 0 (by decide)) (by show (0 : Int) ≤ _; omega) (by show _ ≤ (9999 : Int); omega)) (by show (0 : Int) ≤ _; omega) (by show _ ≤ (12 : Int); omega))
theorem wb_clear {T : Int} {x : sg_S} (hW : md_wb T x) : md_wb T (sp_clear x) := by
  have z0 : ∀ c : Int, 0 ≤ c ∧ c ≤ 3 → md_wb T (st x 0 0 c) := fun c h => wb_0 hW h
  unfold sp_clear
  exact (wb_st (z0 0 (by decide)) (by show (0 : Int) ≤ _; omega) (by show _ ≤ (12 : Int); omega))
theorem wb_spy {T : Int} {x : sg_S} (hW : md_wb T x) {t : Int} : md_wb T (sp_spy x t) := by
  have b39 := wb39 hW 0
  have b3 := wb3 hW 0
  have z0 : ∀ c : Int, 0 ≤ c ∧ c ≤ 3 → md_wb T (st x 0 0 c) := fun c h => wb_0 hW h
  unfold sp_spy
  split
  · exact z0 _ (by decide)
  · split
    · exact z0 _ (by decide)
    · exact (wb_st (wb_st (z0 0 (by decide)) (by show (0 : Int) ≤ _; omega) (by show _ ≤ (11 : Int); omega)) (by show (0 : Int) ≤ _; omega) (by show _ ≤ (6 : Int); omega))
theorem wb_mark {T : Int} {x : sg_S} (hW : md_wb T x) {t u e : Int} : md_wb T (sp_mark x t u e) := by
  have z0 : ∀ c : Int, 0 ≤ c ∧ c ≤ 3 → md_wb T (st x 0 0 c) := fun c h => wb_0 hW h
  unfold sp_mark
  split
  · exact z0 _ (by decide)
  · by_cases c : (t = if u = 0 then 0 else x 3 0 - 1) ∨ 200 ≤ x 12 (2 * t.toNat + u.toNat)
    · rw [if_pos c]; exact z0 _ (by decide)
    · rw [if_neg c]
      have hs : (0 : Int) ≤ (if e = 0 then 95 else 94) ∧ (if e = 0 then (95 : Int) else 94) ≤ 96 := by split <;> omega
      refine sp_writes_wb (sp_kp_wb (wb_st (z0 0 (by decide)) (by show (0 : Int) ≤ _; omega) (by show _ ≤ (1 : Int); omega)) hs ?_) hs (Or.inr rfl)
      rw [st_nf (by decide), st_nf (by decide)]
      omega
theorem an_sk_in {x : sg_S} {b r : Int} (hr : r = 0 ∨ r = 1) : an_sk x b r = -1 ∨ (0 ≤ an_sk x b r ∧ ¬ (x 3 0 < 2 ∨ x 24 0 = 0) ∧ an_sk x b r = an_mk (st x 0 0 0) b.toNat r.toNat (x 24 0).toNat 0) := by
  unfold an_sk
  by_cases c : x 3 0 < 2 ∨ x 24 0 = 0
  · rw [if_pos c]; exact Or.inl rfl
  · rw [if_neg c]
    rcases an_mk_in (σ := st x 0 0 0) (b := b.toNat) (u := r.toNat) (x 24 0).toNat 0 with z | z
    · exact Or.inl z
    · exact Or.inr ⟨by omega, c, rfl⟩
theorem wb_sk {T : Int} {x : sg_S} (hW : md_wb T x) {b r : Int} : md_wb T (sp_sk x b r) := by
  unfold sp_sk
  split
  · exact wb_0 hW (by decide)
  · exact sp_mk_wb (wb_0 hW (by decide)) _ _ (fun k hk => absurd hk (Nat.not_lt_zero k))
theorem wb_send {T : Int} {x : sg_S} (hW : md_wb T x) {u b r : Int} (hV : ∀ w, x 13 w ≤ x 12 w) (hr : r = 0 ∨ r = 1) : md_wb T (sp_send x u b r) := by
  have hk := wb_sk hW (b := b) (r := r)
  have b12 := wb12 hW (sp_sw x u)
  have b13 := wb13 hW (sp_sw x u)
  have hv := hV (sp_sw x u)
  unfold sp_send
  split
  · exact wb_0 hW (by decide)
  · split
    · exact wb_st hk (by show (0 : Int) ≤ _; omega) (by show _ ≤ (3 : Int); omega)
    · rename_i h1 h2
      have ha := an_sk_in (x := x) (b := b) hr
      have e12 : ∀ w, sp_sk x b r 12 w = x 12 w := fun w => sp_sk_f (by decide)
      have e13 : ∀ w, sp_sk x b r 13 w = x 13 w := fun w => sp_sk_f (by decide)
      unfold sp_sent
      refine wb_st (sp_si_wb (wb_st (wb_st hk (by show (0 : Int) ≤ _; omega) (by show _ ≤ (3 : Int); omega)) (by show (0 : Int) ≤ _; omega) (by show _ ≤ (1 : Int); omega)) _ ?_) ?_ ?_
      · rw [st_nf (by decide), st_nf (by decide), e12]; omega
      · show (0 : Int) ≤ _
        rw [e13]; split <;> omega
      · show _ ≤ (200 : Int)
        rw [e13]; split <;> omega
theorem wb_write {T : Int} {x : sg_S} (hW : md_wb T x) {a p l v : Int} : md_wb T (sp_write x a p l v) := by
  have z0 : ∀ c : Int, 0 ≤ c ∧ c ≤ 3 → md_wb T (st x 0 0 c) := fun c h => wb_0 hW h
  have b21 := wb21 hW a.toNat
  unfold sp_write
  split
  · exact z0 _ (by decide)
  · split
    · exact z0 _ (by decide)
    · split
      · exact z0 _ (by decide)
      · rename_i h1 h2 h3
        have hs := sp_fnd_sp (σ := x) (b := a.toNat) (s := 92 * p + l) (x 21 a.toNat).toNat
        obtain ⟨F, hF⟩ : ∃ F, F = sp_fnd x a.toNat (92 * p + l) (x 21 a.toNat).toNat := ⟨_, rfl⟩
        rw [← hF] at hs h3 ⊢
        split
        · split
          · exact wb_st (wb_st (wb_st (z0 0 (by decide)) (by show (0 : Int) ≤ _; omega) (by show _ ≤ (200 : Int); omega)) (by show (0 : Int) ≤ _; omega) (by show _ ≤ (8463 : Int); omega)) (by show (0 : Int) ≤ _; omega) (by show _ ≤ (9999 : Int); omega)
          · exact wb_st (wb_st (wb_st (z0 0 (by decide)) (by show (0 : Int) ≤ _; omega) (by show _ ≤ (200 : Int); omega)) (by show (0 : Int) ≤ _; omega) (by show _ ≤ (8463 : Int); omega)) (by show (0 : Int) ≤ _; omega) (by show _ ≤ (9999 : Int); omega)
        · split
          · have b22 := wb22 hW (200 * a.toNat + (x 21 a.toNat - 1).toNat)
            have b23 := wb23 hW (200 * a.toNat + (x 21 a.toNat - 1).toNat)
            have hp : 0 < x 21 a.toNat := by
              rcases hs with ⟨g1, g2⟩ | ⟨i, g1, g2, g3⟩
              · omega
              · omega
            exact wb_st (wb_st (wb_st (z0 0 (by decide)) (by show (0 : Int) ≤ _; omega) (by show _ ≤ (200 : Int); omega)) (by show (0 : Int) ≤ _; omega) (by show _ ≤ (8463 : Int); omega)) (by show (0 : Int) ≤ _; omega) (by show _ ≤ (9999 : Int); omega)
          · exact z0 _ (by decide)

