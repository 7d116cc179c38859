def bs_pass (σ : sg_S) (a : Int) : sg_S := if ¬ (1 ≤ a ∧ a ≤ 200) then st σ 0 0 1 else bs_mins (st σ 0 0 0) a.toNat
theorem bs_min_st2 {σ : sg_S} : bs_min (st σ 2 0 1) = bs_min σ := by
  unfold bs_min sp_tick
  rw [st_st, st_nf (f := 2) (g := 1) (by decide), st_nf (f := 2) (g := 3) (by decide)]
theorem bs_mins_st2 {σ : sg_S} : ∀ n, bs_mins (st σ 2 0 1) (n + 1) = bs_mins σ (n + 1)
  | 0 => bs_min_st2
  | n + 1 => by
    show bs_min (bs_mins (st σ 2 0 1) (n + 1)) = bs_min (bs_mins σ (n + 1))
    rw [bs_mins_st2 n]
theorem bs_mins_f {σ : sg_S} {f j : Nat} (h0 : f ≠ 1 ∧ f ≠ 2) (h1 : f < 12 ∨ 20 < f) (h2 : f < 27 ∨ 38 < f) (h3 : f < 41 ∨ 42 < f) (h5 : f ≤ 48) : ∀ n, bs_mins σ n f j = σ f j
  | 0 => rfl
  | n + 1 => by simp only [bs_mins]; rw [bs_min_f h0 h1 h2 h3 h5]; exact bs_mins_f h0 h1 h2 h3 h5 n
set_option maxRecDepth 100000 in
set_option maxHeartbeats 4000000 in
theorem c_X8_pass {G : am_G} {J : sg_S → Prop} (hJ : md_L J) (hZ : ∀ σ, J σ → σ 39 0 = 0) {m x : sg_S} {T : Int} (hW : md_wb T x) (h0 : J x) {a : Int} (hr_a : -2147483648 ≤ a ∧ a < 2147483648) (hT : x 1 0 + 200 ≤ T) {mc ms : Nat} (h1 : 1 ≤ mc ∧ 6 ≤ ms) (hmc : 2 * (bs_pass x a 51 0 - x 51 0).toNat ≤ mc ∧ 66 * (bs_pass x a 51 0 - x 51 0).toNat ≤ ms) : am_Con G yX8_pass wX8_pass 7 mc ms [am_R (8, 0), am_I a] (en_h m x) (am_tx [1] (bs_pass x a 0 0) (an_pass x a) (en_h m (bs_pass x a))) := by
  refine am_of2 (Y := mX8_pass) (by decide +kernel) rfl (fun z => by cases z) rfl rfl (Nat.le_of_ble_eq_true rfl) fun X => ?_
  have b3 := wb3 hW 0
  obtain ⟨y, hy⟩ : ∃ z, z = st x 0 0 0 := ⟨_, rfl⟩
  refine am_heq (h' := en_h m y) (by rw [hy]; exact (cx_no (Or.inl rfl)).symm) ?_
  have hWy : md_wb T y := by rw [hy]; exact wb_st hW (by show (0 : Int) ≤ _; decide) (by show _ ≤ (3 : Int); decide)
  refine am_iload_n eX8_pass_0 rfl ?_
  refine am_iconst eX8_pass_1 ?_
  refine am_sipush eX8_pass_2 (by decide) ?_
  refine am_cS eX8_pass_5 kX8_55 (c_X8_isOutside (v := a) (lo := 1) (hi := 200) ⟨by omega, by omega⟩ ⟨by omega, by omega⟩ ⟨by omega, by omega⟩) rfl rfl (by decide) (by decide) (Nat.le_of_ble_eq_true rfl) (by omega) (by omega) ?_
  refine am_bz_eq eX8_pass_8 (fun c1 => ?_) (fun c1 => ?_)
  · refine am_aload_n eX8_pass_21 rfl ?_
    refine am_iconst eX8_pass_22 ?_
    refine am_putf eX8_pass_23 fX8_69 rfl (en_c8 (m := m) (x := y)) (Nat.le_of_ble_eq_true rfl) (Or.inr rfl) (am_heq (cx_begun) ?_)
    refine am_iconst eX8_pass_26 ?_
    refine am_istore_n eX8_pass_27 (by decide) ?_
    have hJy : J (st y 2 0 1) := hJ.2.2.2.2.2 _ (by rw [hy]; exact hJ.2.2.2.2.1 _ h0)
    have hWz : md_wb T (st y 2 0 1) := wb_st hWy (by show (0 : Int) ≤ _; decide) (by show _ ≤ (1 : Int); decide)
    obtain ⟨N, hN⟩ : ∃ N : Nat, a = ((N + 1 : Nat) : Int) := ⟨a.toNat - 1, by omega⟩
    have hp : bs_pass x a = bs_mins y (N + 1) := by unfold bs_pass; rw [if_neg (by omega), ← hy, show a.toNat = N + 1 by omega]
    have hz : bs_mins (st y 2 0 1) (N + 1) = bs_mins y (N + 1) := bs_mins_st2 N
    have e51 : (st y 2 0 1) 51 0 = x 51 0 := by rw [hy]; simp [st]
    have e1 : (st y 2 0 1) 1 0 = x 1 0 := by rw [hy]; simp [st]
    refine lq_X8_pass hJ hZ hWz hJy st_eq hN (by omega) (by rw [e1]; omega) (by rw [hz, e51, ← hp]; exact hmc) ?_ _ 0 _ _ 0 0 rfl rfl (Nat.zero_add _) (by simp [bs_mins]) (by simp [bs_mins])
    rw [hz, e1, hp]
    exact tx_ret rfl (by rw [bs_mins_f (by decide) (by decide) (by decide) (by decide) (by decide), hy, st_eq]) (by unfold an_pass; rw [if_neg (by omega)])
  · exact am_throw x_thr1 rfl x_tx201 (by decide) rfl (by simp) eX8_pass_11 eX8_pass_14 eX8_pass_15 eX8_pass_17 eX8_pass_20 (by omega) (by omega) (tx_thr (i := 0) rfl rfl hy (by unfold bs_pass; rw [if_pos (by omega)]; rfl))
theorem sp_kp_st2 {σ : sg_S} {w p : Nat} {s v : Int} {f j : Nat} (hf : f ≠ 12 ∧ f ≠ 14) : st (sp_kp σ w p s) f j v = sp_kp (st σ f j v) w p s := by
  funext g z
  have e12 : st σ f j v 12 w = σ 12 w := st_nf (by omega)
  by_cases c : g = f ∧ z = j
  · have l : st (sp_kp σ w p s) f j v g z = v := if_pos c
    have r : sp_kp (st σ f j v) w p s g z = v := by
      unfold sp_kp
      rw [if_neg (by omega), if_neg (by omega)]
      exact if_pos c
    rw [l, r]
  · have l : st (sp_kp σ w p s) f j v g z = sp_kp σ w p s g z := if_neg c
    rw [l]
    unfold sp_kp
    rw [e12]
    by_cases c1 : g = 12 ∧ z = w
    · rw [if_pos c1, if_pos c1]
    · rw [if_neg c1, if_neg c1]
      by_cases c2 : g = 14 ∧ 220 * w + p ≤ z ∧ z ≤ 220 * w + (σ 12 w).toNat
      · rw [if_pos c2, if_pos c2, st_nf (g := 14) (by omega)]
      · rw [if_neg c2, if_neg c2]
        exact (if_neg c).symm
theorem sp_writes_st2 {σ : sg_S} {w s o v : Int} {j : Nat} : st (sp_writes σ w s o) 2 j v = sp_writes (st σ 2 j v) w s o := by
  unfold sp_writes
  rw [st_nf (f := 2) (g := 17) (by decide), st_nf (f := 2) (g := 1) (by decide)]
  split
  · rw [st_cm (f := 17) (g := 2) (by decide), st_cm (f := 20) (g := 2) (by decide), st_cm (f := 19) (g := 2) (by decide), st_cm (f := 18) (g := 2) (by decide)]
  · rfl
