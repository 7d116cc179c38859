/-! the law's loop -/
set_option maxRecDepth 100000 in
set_option maxHeartbeats 4000000 in
theorem law_loop {HH : List (Nat × Nat × Nat × Nat)} {G : am_G} {X : am_X} {Q : State → Prop} (hL : G.2.2.2.2.2.2.1 ≤ 260) {N : Nat} {mo : Int} (hmo : 0 ≤ mo ∧ mo ≤ 40) (kkE : ∀ (ls : List (Option am_AV)) (h : am_AH) (kc nc : Nat), ls[4]? = some (some (am_I 1)) → kc ≤ 600104 → nc ≤ 7301314 → am_W G X (mLh HH) 8 600104 7301314 Q 936 ls [] h kc nc) :
    ∀ (f t k : Nat) (tt now ups downs : Int) (x m : sg_S) (n : Nat → Nat) (kc nc : Nat), tt = (t : Int) → t + f = 41 → 1 ≤ t → lw_I k x m N n → k ≤ 20 + 7 * t → now = x 1 0 → ups = (n 1 : Int) → downs = (n 0 : Int) → kc ≤ 4000 + 3000 * t + 2 * (x 51 0).toNat → nc ≤ 60000 + 18000 * t + 66 * (x 51 0).toNat → am_W G X (mLh HH) 8 600104 7301314 Q 177 [some (am_R am_scr), some (am_R (8, 0)), none, some (am_I (N : Int)), some (am_I 1), some (am_I mo), some (am_I now), some (am_R (9, 0)), some (am_R (9, 1)), some (am_R (9, 2)), some (am_I ups), some (am_I downs), some (am_I tt), none, none, none, none, none, none, none, none, none] [] (en_h m x) kc nc := by
  intro f
  induction f with
  | zero =>
    intro t k tt now ups downs x m n kc nc ht htf ht1 hI hk hnow hup hdn hkc hnc
    have hle := si_le hI.1.2.2.2.1
    have i9 := hI.2.2.2.2.2.1
    refine am_iload eL_law_177 rfl ?_
    refine am_iload eL_law_179 rfl ?_
    refine am_icmp_ge ⟨by omega, by omega⟩ ⟨by omega, by omega⟩ eL_law_181 (fun c181 => ?_) (fun c181 => absurd c181 (by omega))
    exact kkE _ _ _ _ rfl (by omega) (by omega)
  | succ f ih =>
    intro t k tt now ups downs x m n kc nc ht htf ht1 hI hk hnow hup hdn hkc hnc
    have hle := si_le hI.1.2.2.2.1
    have i9 := hI.2.2.2.2.2.1
    refine am_iload eL_law_177 rfl ?_
    refine am_iload eL_law_179 rfl ?_
    refine am_icmp_ge ⟨by omega, by omega⟩ ⟨by omega, by omega⟩ eL_law_181 (fun c181 => ?_) (fun c181 => ?_)
    · exact kkE _ _ _ _ rfl (by omega) (by omega)
    · have dummy := c181
      refine am_iload eL_law_184 rfl ?_
      refine am_if_eq ⟨by omega, by omega⟩ eL_law_186 (fun c186 => absurd c186 (by omega)) (fun c186 => ?_)
      refine am_aload_n eL_law_189 rfl ?_
      refine am_iload eL_law_190 rfl ?_
      refine am_cSr (st := []) eL_law_192 kL_11 (c_L_cell ⟨by omega, by omega⟩ hL) rfl rfl (by decide) (Nat.le_of_ble_eq_true rfl) (by simp) (by omega) (by omega) (fun w r_w => ?_)
      refine am_istore eL_law_195 (Nat.le_of_ble_eq_true rfl) ?_
      refine am_lseq (ls' := [some (am_R am_scr), some (am_R (8, 0)), none, some (am_I (N : Int)), some (am_I 1), some (am_I mo), some (am_I now), some (am_R (9, 0)), some (am_R (9, 1)), some (am_R (9, 2)), some (am_I ups), some (am_I downs), some (am_I tt), some (am_I w), none, none, none, none, none, none, none, none]) rfl ?_
      refine am_iload eL_law_197 rfl ?_
      refine am_bipush eL_law_199 (by decide) ?_
      refine am_cSr (st := []) eL_law_201 kL_17 (c_L_low r_w ⟨by omega, by omega⟩ (by omega)) rfl rfl (by decide) (Nat.le_of_ble_eq_true rfl) (by simp) (by omega) (by omega) (fun wh h_wh => ?_)
      obtain ⟨h_wh1, h_wh2⟩ := h_wh
      refine am_istore eL_law_204 (Nat.le_of_ble_eq_true rfl) ?_
      refine am_lseq (ls' := [some (am_R am_scr), some (am_R (8, 0)), none, some (am_I (N : Int)), some (am_I 1), some (am_I mo), some (am_I now), some (am_R (9, 0)), some (am_R (9, 1)), some (am_R (9, 2)), some (am_I ups), some (am_I downs), some (am_I tt), some (am_I w), some (am_I wh), none, none, none, none, none, none, none]) rfl ?_
      refine am_iload eL_law_206 rfl ?_
      have fin : ∀ (x' m' : sg_S) (n' : Nat → Nat) (k' : Nat) (now' ups' downs' : Int) (kc' nc' : Nat), lw_I k' x' m' N n' → k' ≤ k + 6 → now' = x' 1 0 → ups' = (n' 1 : Int) → downs' = (n' 0 : Int) → kc' ≤ 5000 + 3000 * t + 2 * (x' 51 0).toNat → nc' ≤ 67000 + 18000 * t + 66 * (x' 51 0).toNat → am_W G X (mLh HH) 8 600104 7301314 Q 571 [some (am_R am_scr), some (am_R (8, 0)), none, some (am_I (N : Int)), some (am_I 1), some (am_I mo), some (am_I now'), some (am_R (9, 0)), some (am_R (9, 1)), some (am_R (9, 2)), some (am_I ups'), some (am_I downs'), some (am_I tt), none, none, none, none, none, none, none, none, none] [] (en_h m' x') kc' nc' := by
        intro x' m' n' k' now' ups' downs' kc' nc' hI' hk' hnow' hup' hdn' hkc' hnc'
        have hle' := si_le hI'.1.2.2.2.1
        exact law_check hI' hup' hdn' (by omega) (by omega) (fun kc2 nc2 hk2 hn2 => ih (t + 1) k' (tt + 1) now' ups' downs' x' m' n' kc2 nc2 (by omega) (by omega) (by omega) hI' (by omega) hnow' hup' hdn' (by omega) (by omega))
      have h510 := hI.1.2.2.2.2.1.1.1
      refine am_iconst eL_law_208 ?_
      refine am_icmp_ge ⟨by omega, by omega⟩ ⟨by omega, by omega⟩ eL_law_209 (fun c209 => ?_) (fun c209 => ?_)
      · exact law_rest hI hnow (by omega) r_w ⟨h_wh1, h_wh2⟩ (by omega) (by omega) (fun x1 now1 kc' nc' hI' hnow' hkc' hnc' h51 => fin x1 m n (k + 1) now1 ups downs kc' nc' hI' (by omega) hnow' hup hdn (by omega) (by omega))
      · have dummy2 := c209
        refine am_iload eL_law_212 rfl ?_
        refine am_iload eL_law_214 rfl ?_
        refine am_iadd eL_law_216 ?_
        refine am_bipush eL_law_217 (by decide) ?_
        refine am_icmp_ge ⟨by omega, by omega⟩ ⟨by omega, by omega⟩ eL_law_219 (fun c219 => ?_) (fun c219 => ?_)
        · exact law_rest hI hnow (by omega) r_w ⟨h_wh1, h_wh2⟩ (by omega) (by omega) (fun x1 now1 kc' nc' hI' hnow' hkc' hnc' h51 => fin x1 m n (k + 1) now1 ups downs kc' nc' hI' (by omega) hnow' hup hdn (by omega) (by omega))
        · exact law_send hI hup hdn (by omega) (by omega) r_w (by omega) (by omega) (fun x' m' n' k' ups' downs' kc' nc' hI' hk' hup' hdn' e1 e51 hkc' hnc' => fin x' m' n' k' now ups' downs' kc' nc' hI' hk' (by rw [e1]; exact hnow) hup' hdn' (by rw [e51]; omega) (by rw [e51]; omega))
