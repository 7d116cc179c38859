theorem sg_D_of {σ τ : sg_S} (h : ∀ f j, (28 ≤ f ∧ f ≤ 38) ∨ (51 ≤ f ∧ f ≤ 65) → τ f j = σ f j) (hD : sg_D σ) : sg_D τ := by
  have e28 := fun j => h 28 j (by decide)
  have e29 := fun j => h 29 j (by decide)
  have e30 := fun j => h 30 j (by decide)
  have e31 := fun j => h 31 j (by decide)
  have e32 := fun j => h 32 j (by decide)
  have e33 := fun j => h 33 j (by decide)
  have e34 := fun j => h 34 j (by decide)
  have e35 := fun j => h 35 j (by decide)
  have e36 := fun j => h 36 j (by decide)
  have e37 := fun j => h 37 j (by decide)
  have e38 := fun j => h 38 j (by decide)
  have e51 := fun j => h 51 j (by decide)
  have e56 := fun j => h 56 j (by decide)
  have e57 := fun j => h 57 j (by decide)
  have e60 := fun j => h 60 j (by decide)
  have e61 := fun j => h 61 j (by decide)
  have e62 := fun j => h 62 j (by decide)
  have e63 := fun j => h 63 j (by decide)
  have e64 := fun j => h 64 j (by decide)
  have e65 := fun j => h 65 j (by decide)
  simp only [sg_D, sg_o, sg_a, e28, e29, e30, e31, e32, e33, e34, e35, e36, e37, e38, e51, e56, e57, e60, e61, e62, e63, e64, e65]
  exact hD
theorem sg_D_27 {σ : sg_S} {f j : Nat} {v : Int} (hD : sg_D σ) (hf : f < 28 ∨ (38 < f ∧ f < 51) ∨ 65 < f) : sg_D (st σ f j v) := sg_D_of (fun g i h => st_nf (by omega)) hD
theorem sx_k_st {σ : sg_S} {w f j : Nat} {v : Int} (hf : f ≠ 28 ∧ f ≠ 56) : sx_k (st σ f j v) w = sx_k σ w := by
  unfold sx_k
  rw [st_nf (Ne.symm hf.1), st_nf (Ne.symm hf.2)]
/-- a sign on a way's tape, for the class -/
def sx_tape (σ : sg_S) (w : Nat) (s t : Int) : sg_S :=
  if s = 92 then sx_beg (st σ 27 w (if s = 96 then 1 else 0)) w t (σ 27 w)
  else if s = 93 then sx_end (st σ 27 w (if s = 96 then 1 else 0)) w t
  else if s = 94 then st (st σ 27 w (if s = 96 then 1 else 0)) 28 w 0
  else if s < 92 ∧ 0 < σ 28 w then sq_dadd (st σ 27 w (if s = 96 then 1 else 0)) (sx_k σ w) s
  else st σ 27 w (if s = 96 then 1 else 0)
set_option maxRecDepth 100000 in
set_option maxHeartbeats 4000000 in
theorem c_X6_putOn {G : am_G} {m x : sg_S} {T : Int} (hW : md_wb T x) (hD : sg_D x) {w : Nat} (hw : w < 2) (h39 : x 28 w ≤ 38) {s t : Int} {mc ms : Nat} (hs : 0 ≤ s ∧ s ≤ 96) (hmc : s = 92 → 2 ≤ mc ∧ 66 ≤ ms) : am_Con G yX6_putOn wX6_putOn 4 mc ms [am_R (6, w), am_I s, am_I t] (en_h m x) (am_vd (en_h m (sx_tape x w s t))) := by
  refine am_of2 (Y := mX6_putOn) (by decide +kernel) rfl (fun z => by cases z) rfl rfl (Nat.le_of_ble_eq_true rfl) fun X => ?_
  have b28 := wb28 hW w
  by_cases c0 : x 28 w ≤ 0
  · refine am_aload_n eX6_putOn_0 rfl ?_
    refine am_getf eX6_putOn_1 fX6_17 (en_c6 (m := m) (x := x) (i := w) (by omega)) rfl ?_
    have b1 := wb27 hW w
    refine am_istore_n eX6_putOn_4 (by decide) ?_
    refine am_aload_n eX6_putOn_5 rfl ?_
    refine am_iload_n eX6_putOn_6 rfl ?_
    refine am_bipush eX6_putOn_7 (by decide) ?_
    refine am_icmp_ne ⟨by omega, by omega⟩ ⟨by omega, by omega⟩ eX6_putOn_9 (fun c2 => ?_) (fun c2 => ?_)
    · refine am_iconst eX6_putOn_16 ?_
      refine am_putf eX6_putOn_17 fX6_17 rfl (en_c6 (m := m) (x := x) (i := w) (by omega)) (Nat.le_of_ble_eq_true rfl) (Or.inl rfl) (am_heq (cx_urgAhead (by omega)) ?_)
      refine am_iload_n eX6_putOn_20 rfl ?_
      refine am_bipush eX6_putOn_21 (by decide) ?_
      refine am_icmp_ne ⟨by omega, by omega⟩ ⟨by omega, by omega⟩ eX6_putOn_23 (fun c3 => ?_) (fun c3 => ?_)
      · refine am_iload_n eX6_putOn_35 rfl ?_
        refine am_bipush eX6_putOn_36 (by decide) ?_
        refine am_icmp_ne ⟨by omega, by omega⟩ ⟨by omega, by omega⟩ eX6_putOn_38 (fun c4 => ?_) (fun c4 => ?_)
        · refine am_iload_n eX6_putOn_49 rfl ?_
          refine am_bipush eX6_putOn_50 (by decide) ?_
          refine am_icmp_ne ⟨by omega, by omega⟩ ⟨by omega, by omega⟩ eX6_putOn_52 (fun c5 => ?_) (fun c5 => ?_)
          · refine am_iload_n eX6_putOn_62 rfl ?_
            refine am_bipush eX6_putOn_63 (by decide) ?_
            refine am_icmp_ge ⟨by omega, by omega⟩ ⟨by omega, by omega⟩ eX6_putOn_65 (fun c6 => ?_) (fun c6 => ?_)
            · refine am_return eX6_putOn_83 rfl (by omega) (by omega) ?_
              exact cx_vd (by unfold sx_tape; (try rw [hk]); (repeat' split) <;> first | rfl | (exfalso; omega))
            · refine am_aload_n eX6_putOn_68 rfl ?_
              refine am_getf eX6_putOn_69 fX6_32 (en_c6N (m := m) (x := (st x 27 w 0)) hw (by rw [((st_nf (by decide)).trans rfl)]; exact c0)) rfl ?_
              refine am_ifnull eX6_putOn_72 (fun _ => ?_) (fun _ z => nomatch z)
              refine am_return eX6_putOn_83 rfl (by omega) (by omega) ?_
              exact cx_vd (by unfold sx_tape; (try rw [hk]); (repeat' split) <;> first | rfl | (exfalso; omega))
          · refine am_aload_n eX6_putOn_55 rfl ?_
            refine am_cV_v eX6_putOn_56 kX6_29 (c_X6_dropAll (m := m) (x := (st x 27 w 0)) hw) rfl rfl (en_c6 (m := m) (x := (st x 27 w 0)) (i := w) (by omega)) (by decide) (by decide) (Nat.le_of_ble_eq_true rfl) (Nat.zero_le _) (Nat.zero_le _) ?_
            obtain ⟨m7, hm7⟩ : ∃ z, z = st (st x 27 w 0) 28 w 0 := ⟨_, rfl⟩
            rw [← hm7]
            refine am_goto eX6_putOn_59 ?_
            refine am_return eX6_putOn_83 rfl (by omega) (by omega) ?_
            exact cx_vd (by rw [hm7]; unfold sx_tape; (try rw [hk]); (repeat' split) <;> first | rfl | (exfalso; omega))
        · refine am_aload_n eX6_putOn_41 rfl ?_
          refine am_iload_n eX6_putOn_42 rfl ?_
          refine am_cV_v eX6_putOn_43 kX6_25 (c_X6_end (m := m) (x := (st x 27 w 0)) (wb_st hW (by show (0 : Int) ≤ _; decide) (by show _ ≤ (1 : Int); decide)) (sg_D_27 hD (by decide)) hw (t := t)) rfl rfl (en_c6 (m := m) (x := (st x 27 w 0)) (i := w) (by omega)) (by decide) (by decide) (Nat.le_of_ble_eq_true rfl) (Nat.zero_le _) (Nat.zero_le _) ?_
          obtain ⟨m8, hm8⟩ : ∃ z, z = sx_end (st x 27 w 0) w t := ⟨_, rfl⟩
          rw [← hm8]
          refine am_goto eX6_putOn_46 ?_
          refine am_return eX6_putOn_83 rfl (by omega) (by omega) ?_
          exact cx_vd (by rw [hm8]; unfold sx_tape; (try rw [hk]); (repeat' split) <;> first | rfl | (exfalso; omega))
      · refine am_aload_n eX6_putOn_26 rfl ?_
        refine am_iload_n eX6_putOn_27 rfl ?_
        refine am_iload_n eX6_putOn_28 rfl ?_
        have hz := hmc (by omega)
        refine am_cM_v (mc' := 2) (ms' := 66) eX6_putOn_29 kX6_21 (c_X6_begin (m := m) (x := (st x 27 w 0)) (wb_st hW (by show (0 : Int) ≤ _; decide) (by show _ ≤ (1 : Int); decide)) (sg_D_27 hD (by decide)) hw (by rw [st_nf (by decide)]; exact h39) (t := t) (u := (x 27 w)) (by omega)) rfl rfl (en_c6 (m := m) (x := (st x 27 w 0)) (i := w) (by omega)) (by decide) (by decide) (Nat.le_of_ble_eq_true rfl) (by omega) (by omega) ?_
        obtain ⟨m9, hm9⟩ : ∃ z, z = sx_beg (st x 27 w 0) w t (x 27 w) := ⟨_, rfl⟩
        rw [← hm9]
        refine am_goto eX6_putOn_32 ?_
        refine am_return eX6_putOn_83 rfl (by omega) (by omega) ?_
        exact cx_vd (by rw [hm9]; unfold sx_tape; (try rw [hk]); (repeat' split) <;> first | rfl | (exfalso; omega))
    · refine am_iconst eX6_putOn_12 ?_
      refine am_goto eX6_putOn_13 ?_
      refine am_putf eX6_putOn_17 fX6_17 rfl (en_c6 (m := m) (x := x) (i := w) (by omega)) (Nat.le_of_ble_eq_true rfl) (Or.inr rfl) (am_heq (cx_urgAhead (by omega)) ?_)
      refine am_iload_n eX6_putOn_20 rfl ?_
      refine am_bipush eX6_putOn_21 (by decide) ?_
      refine am_icmp_ne ⟨by omega, by omega⟩ ⟨by omega, by omega⟩ eX6_putOn_23 (fun c10 => ?_) (fun c10 => absurd c10 (by omega))
      refine am_iload_n eX6_putOn_35 rfl ?_
      refine am_bipush eX6_putOn_36 (by decide) ?_
      refine am_icmp_ne ⟨by omega, by omega⟩ ⟨by omega, by omega⟩ eX6_putOn_38 (fun c11 => ?_) (fun c11 => absurd c11 (by omega))
      refine am_iload_n eX6_putOn_49 rfl ?_
      refine am_bipush eX6_putOn_50 (by decide) ?_
      refine am_icmp_ne ⟨by omega, by omega⟩ ⟨by omega, by omega⟩ eX6_putOn_52 (fun c12 => ?_) (fun c12 => absurd c12 (by omega))
      refine am_iload_n eX6_putOn_62 rfl ?_
      refine am_bipush eX6_putOn_63 (by decide) ?_
      refine am_icmp_ge ⟨by omega, by omega⟩ ⟨by omega, by omega⟩ eX6_putOn_65 (fun c13 => ?_) (fun c13 => absurd c13 (by omega))
      refine am_return eX6_putOn_83 rfl (by omega) (by omega) ?_
      exact cx_vd (by unfold sx_tape; (try rw [hk]); (repeat' split) <;> first | rfl | (exfalso; omega))
  · obtain ⟨k, hk⟩ : ∃ z, sx_k x w = z := ⟨_, rfl⟩
    have hT := sg_D_top hD hw c0
    rw [hk] at hT
    have b31 := wb31 hW (40 * w + ((x 28 w).toNat - 1))
    have e63 := hT.2.1.2.2.1
    refine am_aload_n eX6_putOn_0 rfl ?_
    refine am_getf eX6_putOn_1 fX6_17 (en_c6 (m := m) (x := x) (i := w) (by omega)) rfl ?_
    have b1 := wb27 hW w
    refine am_istore_n eX6_putOn_4 (by decide) ?_
    refine am_aload_n eX6_putOn_5 rfl ?_
    refine am_iload_n eX6_putOn_6 rfl ?_
    refine am_bipush eX6_putOn_7 (by decide) ?_
    refine am_icmp_ne ⟨by omega, by omega⟩ ⟨by omega, by omega⟩ eX6_putOn_9 (fun c2 => ?_) (fun c2 => ?_)
    · refine am_iconst eX6_putOn_16 ?_
      refine am_putf eX6_putOn_17 fX6_17 rfl (en_c6 (m := m) (x := x) (i := w) (by omega)) (Nat.le_of_ble_eq_true rfl) (Or.inl rfl) (am_heq (cx_urgAhead (by omega)) ?_)
      refine am_iload_n eX6_putOn_20 rfl ?_
      refine am_bipush eX6_putOn_21 (by decide) ?_
      refine am_icmp_ne ⟨by omega, by omega⟩ ⟨by omega, by omega⟩ eX6_putOn_23 (fun c3 => ?_) (fun c3 => ?_)
      · refine am_iload_n eX6_putOn_35 rfl ?_
        refine am_bipush eX6_putOn_36 (by decide) ?_
        refine am_icmp_ne ⟨by omega, by omega⟩ ⟨by omega, by omega⟩ eX6_putOn_38 (fun c4 => ?_) (fun c4 => ?_)
        · refine am_iload_n eX6_putOn_49 rfl ?_
          refine am_bipush eX6_putOn_50 (by decide) ?_
          refine am_icmp_ne ⟨by omega, by omega⟩ ⟨by omega, by omega⟩ eX6_putOn_52 (fun c5 => ?_) (fun c5 => ?_)
          · refine am_iload_n eX6_putOn_62 rfl ?_
            refine am_bipush eX6_putOn_63 (by decide) ?_
            refine am_icmp_ge ⟨by omega, by omega⟩ ⟨by omega, by omega⟩ eX6_putOn_65 (fun c6 => ?_) (fun c6 => ?_)
            · refine am_return eX6_putOn_83 rfl (by omega) (by omega) ?_
              exact cx_vd (by unfold sx_tape; (try rw [hk]); (repeat' split) <;> first | rfl | (exfalso; omega))
            · refine am_aload_n eX6_putOn_68 rfl ?_
              refine am_getf eX6_putOn_69 fX6_32 (en_c6R (m := m) (x := (st x 27 w 0)) (k := k) hw (by rw [((st_nf (by decide)).trans rfl)]; exact c0) ((sx_k_st (by decide)).trans hk)) rfl ?_
              refine am_ifnull eX6_putOn_72 (fun z => nomatch z) (fun _ _ => ?_)
              refine am_aload_n eX6_putOn_75 rfl ?_
              refine am_getf eX6_putOn_76 fX6_32 (en_c6R (m := m) (x := (st x 27 w 0)) (k := k) hw (by rw [((st_nf (by decide)).trans rfl)]; exact c0) ((sx_k_st (by decide)).trans hk)) rfl ?_
              refine am_iload_n eX6_putOn_79 rfl ?_
              refine am_cV_v eX6_putOn_80 kX6_36 (c_X2_add (m := m) (x := (st x 27 w 0)) (wb_st hW (by show (0 : Int) ≤ _; decide) (by show _ ≤ (1 : Int); decide)) (i := k) (s := s) (by rw [st_nf (by decide)]; exact hT.1) (by rw [st_nf (by decide)]; omega) ⟨by omega, by omega⟩) rfl rfl (en_c2 (m := m) (x := (st x 27 w 0)) (i := k) (by rw [st_nf (by decide)]; exact hT.1)) (by decide) (by decide) (Nat.le_of_ble_eq_true rfl) (Nat.zero_le _) (Nat.zero_le _) ?_
              obtain ⟨m7, hm7⟩ : ∃ z, z = sq_dadd (st x 27 w 0) k s := ⟨_, rfl⟩
              rw [← hm7]
              refine am_return eX6_putOn_83 rfl (by omega) (by omega) ?_
              exact cx_vd (by rw [hm7]; unfold sx_tape; (try rw [hk]); (repeat' split) <;> first | rfl | (exfalso; omega))
          · refine am_aload_n eX6_putOn_55 rfl ?_
            refine am_cV_v eX6_putOn_56 kX6_29 (c_X6_dropAll (m := m) (x := (st x 27 w 0)) hw) rfl rfl (en_c6 (m := m) (x := (st x 27 w 0)) (i := w) (by omega)) (by decide) (by decide) (Nat.le_of_ble_eq_true rfl) (Nat.zero_le _) (Nat.zero_le _) ?_
            obtain ⟨m8, hm8⟩ : ∃ z, z = st (st x 27 w 0) 28 w 0 := ⟨_, rfl⟩
            rw [← hm8]
            refine am_goto eX6_putOn_59 ?_
            refine am_return eX6_putOn_83 rfl (by omega) (by omega) ?_
            exact cx_vd (by rw [hm8]; unfold sx_tape; (try rw [hk]); (repeat' split) <;> first | rfl | (exfalso; omega))
        · refine am_aload_n eX6_putOn_41 rfl ?_
          refine am_iload_n eX6_putOn_42 rfl ?_
          refine am_cV_v eX6_putOn_43 kX6_25 (c_X6_end (m := m) (x := (st x 27 w 0)) (wb_st hW (by show (0 : Int) ≤ _; decide) (by show _ ≤ (1 : Int); decide)) (sg_D_27 hD (by decide)) hw (t := t)) rfl rfl (en_c6 (m := m) (x := (st x 27 w 0)) (i := w) (by omega)) (by decide) (by decide) (Nat.le_of_ble_eq_true rfl) (Nat.zero_le _) (Nat.zero_le _) ?_
          obtain ⟨m9, hm9⟩ : ∃ z, z = sx_end (st x 27 w 0) w t := ⟨_, rfl⟩
          rw [← hm9]
          refine am_goto eX6_putOn_46 ?_
          refine am_return eX6_putOn_83 rfl (by omega) (by omega) ?_
          exact cx_vd (by rw [hm9]; unfold sx_tape; (try rw [hk]); (repeat' split) <;> first | rfl | (exfalso; omega))
      · refine am_aload_n eX6_putOn_26 rfl ?_
        refine am_iload_n eX6_putOn_27 rfl ?_
        refine am_iload_n eX6_putOn_28 rfl ?_
        have hz := hmc (by omega)
        refine am_cM_v (mc' := 2) (ms' := 66) eX6_putOn_29 kX6_21 (c_X6_begin (m := m) (x := (st x 27 w 0)) (wb_st hW (by show (0 : Int) ≤ _; decide) (by show _ ≤ (1 : Int); decide)) (sg_D_27 hD (by decide)) hw (by rw [st_nf (by decide)]; exact h39) (t := t) (u := (x 27 w)) (by omega)) rfl rfl (en_c6 (m := m) (x := (st x 27 w 0)) (i := w) (by omega)) (by decide) (by decide) (Nat.le_of_ble_eq_true rfl) (by omega) (by omega) ?_
        obtain ⟨m10, hm10⟩ : ∃ z, z = sx_beg (st x 27 w 0) w t (x 27 w) := ⟨_, rfl⟩
        rw [← hm10]
        refine am_goto eX6_putOn_32 ?_
        refine am_return eX6_putOn_83 rfl (by omega) (by omega) ?_
        exact cx_vd (by rw [hm10]; unfold sx_tape; (try rw [hk]); (repeat' split) <;> first | rfl | (exfalso; omega))
    · refine am_iconst eX6_putOn_12 ?_
      refine am_goto eX6_putOn_13 ?_
      refine am_putf eX6_putOn_17 fX6_17 rfl (en_c6 (m := m) (x := x) (i := w) (by omega)) (Nat.le_of_ble_eq_true rfl) (Or.inr rfl) (am_heq (cx_urgAhead (by omega)) ?_)
      refine am_iload_n eX6_putOn_20 rfl ?_
      refine am_bipush eX6_putOn_21 (by decide) ?_
      refine am_icmp_ne ⟨by omega, by omega⟩ ⟨by omega, by omega⟩ eX6_putOn_23 (fun c11 => ?_) (fun c11 => absurd c11 (by omega))
      refine am_iload_n eX6_putOn_35 rfl ?_
      refine am_bipush eX6_putOn_36 (by decide) ?_
      refine am_icmp_ne ⟨by omega, by omega⟩ ⟨by omega, by omega⟩ eX6_putOn_38 (fun c12 => ?_) (fun c12 => absurd c12 (by omega))
      refine am_iload_n eX6_putOn_49 rfl ?_
      refine am_bipush eX6_putOn_50 (by decide) ?_
      refine am_icmp_ne ⟨by omega, by omega⟩ ⟨by omega, by omega⟩ eX6_putOn_52 (fun c13 => ?_) (fun c13 => absurd c13 (by omega))
      refine am_iload_n eX6_putOn_62 rfl ?_
      refine am_bipush eX6_putOn_63 (by decide) ?_
      refine am_icmp_ge ⟨by omega, by omega⟩ ⟨by omega, by omega⟩ eX6_putOn_65 (fun c14 => ?_) (fun c14 => absurd c14 (by omega))
      refine am_return eX6_putOn_83 rfl (by omega) (by omega) ?_
      exact cx_vd (by unfold sx_tape; (try rw [hk]); (repeat' split) <;> first | rfl | (exfalso; omega))

