/-! the law's loop -/
set_option maxRecDepth 100000 in
set_option maxHeartbeats 4000000 in
theorem law_loop {HH : List (Nat × Nat × Nat × Nat)} {G : am_G} {X : am_X} {Q : State → Prop} (hL : G.2.2.2.2.2.2.1 ≤ 2560) (kk : ∀ (ls : List (Option am_AV)) (h : am_AH) (k n : Nat), k ≤ 601024 → n ≤ 7293034 → am_W G X (mLh HH) 11 601024 7293034 Q 2086 ls [] h k n) :
    ∀ (N j : Nat) (iv : Int) (σ : sg_S) (kc nc : Nat), iv = 5 * (j : Int) → 513 ≤ j + N → j ≤ 512 → sg_R j σ → kc ≤ 100 + 20 * j + 2 * (σ 51 0).toNat → nc ≤ 50000 + 2400 * j + 66 * (σ 51 0).toNat → am_W G X (mLh HH) 11 601024 7293034 Q 23 (lwL iv none none) [] (en_h σ σ) kc nc := by
  intro N
  induction N with
  | zero => intro j iv σ kc nc hi hN hj; omega
  | succ N ih =>
    intro j iv σ kc nc hi hN hj hR hk hn
    have hle := si_le hR.2.2.2.1
    refine am_iload eL_law_23 rfl ?_
    refine am_aload_n eL_law_25 rfl ?_
    refine am_slen eL_law_26 ?_
    refine am_iconst eL_law_27 ?_
    refine am_isub eL_law_28 ?_
    refine am_icmp_gt ⟨by omega, by omega⟩ ⟨by omega, by omega⟩ eL_law_29 (fun c1 => kk _ _ _ _ (by omega) (by omega)) (fun c1 => ?_)
    have hL1 : iv + 4 < (G.2.2.2.2.2.2.1 : Int) := by omega
    have hj' : j < 512 := by omega
    have K2 : ∀ (σ' : sg_S) (l5 l6 : Option am_AV) (kc' nc' : Nat), sg_R (j + 1) σ' → kc' ≤ 100 + 20 * (j + 1) + 2 * (σ' 51 0).toNat → nc' ≤ 50000 + 2400 * (j + 1) + 66 * (σ' 51 0).toNat → am_W G X (mLh HH) 11 601024 7293034 Q 2080 (lwL iv l5 l6) [] (en_h σ' σ') kc' nc' := by
      intro σ' l5 l6 kc' nc' h1 h2 h3
      refine am_iinc eL_law_2080 rfl (Nat.le_of_ble_eq_true rfl) ?_
      refine am_goto eL_law_2083 ?_
      refine am_lless (ls' := lwL (iv + 5) none none) rfl (fun i v h => ?_) (ih (j + 1) (iv + 5) σ' kc' nc' (by omega) (by omega) (by omega) h1 h2 h3)
      rcases i with _ | _ | _ | _ | _ | _ | _ | i
      · exact h
      · exact h
      · exact h
      · exact h
      · exact h
      · cases h
      · cases h
      · cases h
    refine am_aload_n eL_law_32 rfl ?_
    refine am_iload eL_law_33 rfl ?_
    refine am_sld eL_law_35 (by omega) (by omega) (by omega) ?_
    obtain ⟨a, ha⟩ : ∃ z, z = (G.2.2.2.2.2.2.2 iv.toNat).toInt := ⟨_, rfl⟩
    have ra : -2147483648 ≤ a ∧ a < 2147483648 := by rw [ha]; exact xs_r _
    rw [← ha]
    refine am_bipush eL_law_36 (by decide) ?_
    refine am_and31 ra eL_law_38 ?_
    have hz : 0 ≤ a % 32 ∧ a % 32 ≤ 31 := by omega
    generalize a % 32 = z at hz ⊢
    by_cases z0 : z = 0
    · rw [z0]
      exact am_tabIn (t := 164) (off := 125) ⟨by decide, by decide⟩ eL_law_39 (by decide) (by decide) rfl (by decide) (law_c0 hR hj' hi hL1 hL hk hn K2)
    by_cases z1 : z = 1
    · rw [z1]
      exact am_tabIn (t := 232) (off := 193) ⟨by decide, by decide⟩ eL_law_39 (by decide) (by decide) rfl (by decide) (law_c1 hR hj' hi hL1 hL hk hn K2)
    by_cases z2 : z = 2
    · rw [z2]
      exact am_tabIn (t := 312) (off := 273) ⟨by decide, by decide⟩ eL_law_39 (by decide) (by decide) rfl (by decide) (law_c2 hR hj' hi hL1 hL hk hn K2)
    by_cases z3 : z = 3
    · rw [z3]
      exact am_tabIn (t := 380) (off := 341) ⟨by decide, by decide⟩ eL_law_39 (by decide) (by decide) rfl (by decide) (law_c3 hR hj' hi hL1 hL hk hn K2)
    by_cases z4 : z = 4
    · rw [z4]
      exact am_tabIn (t := 448) (off := 409) ⟨by decide, by decide⟩ eL_law_39 (by decide) (by decide) rfl (by decide) (law_c4 hR hj' hi hL1 hL hk hn K2)
    by_cases z5 : z = 5
    · rw [z5]
      exact am_tabIn (t := 504) (off := 465) ⟨by decide, by decide⟩ eL_law_39 (by decide) (by decide) rfl (by decide) (law_c5 hR hj' hi hL1 hL hk hn K2)
    by_cases z6 : z = 6
    · rw [z6]
      exact am_tabIn (t := 596) (off := 557) ⟨by decide, by decide⟩ eL_law_39 (by decide) (by decide) rfl (by decide) (law_c6 hR hj' hi hL1 hL hk hn K2)
    by_cases z7 : z = 7
    · rw [z7]
      exact am_tabIn (t := 652) (off := 613) ⟨by decide, by decide⟩ eL_law_39 (by decide) (by decide) rfl (by decide) (law_c7 hR hj' hi hL1 hL hk hn K2)
    by_cases z8 : z = 8
    · rw [z8]
      exact am_tabIn (t := 665) (off := 626) ⟨by decide, by decide⟩ eL_law_39 (by decide) (by decide) rfl (by decide) (law_c8 hR hj' hi hL1 hL hk hn K2)
    by_cases z9 : z = 9
    · rw [z9]
      exact am_tabIn (t := 777) (off := 738) ⟨by decide, by decide⟩ eL_law_39 (by decide) (by decide) rfl (by decide) (law_c9 hR hj' hi hL1 hL hk hn K2)
    by_cases z10 : z = 10
    · rw [z10]
      exact am_tabIn (t := 889) (off := 850) ⟨by decide, by decide⟩ eL_law_39 (by decide) (by decide) rfl (by decide) (law_c10 hR hj' hi hL1 hL hk hn K2)
    by_cases z11 : z = 11
    · rw [z11]
      exact am_tabIn (t := 945) (off := 906) ⟨by decide, by decide⟩ eL_law_39 (by decide) (by decide) rfl (by decide) (law_c11 hR hj' hi hL1 hL hk hn K2)
    by_cases z12 : z = 12
    · rw [z12]
      exact am_tabIn (t := 1001) (off := 962) ⟨by decide, by decide⟩ eL_law_39 (by decide) (by decide) rfl (by decide) (law_c12 hR hj' hi hL1 hL hk hn K2)
    by_cases z13 : z = 13
    · rw [z13]
      exact am_tabIn (t := 1014) (off := 975) ⟨by decide, by decide⟩ eL_law_39 (by decide) (by decide) rfl (by decide) (law_c13 hR hj' hi hL1 hL hk hn K2)
    by_cases z14 : z = 14
    · rw [z14]
      exact am_tabIn (t := 1027) (off := 988) ⟨by decide, by decide⟩ eL_law_39 (by decide) (by decide) rfl (by decide) (law_c14 hR hj' hi hL1 hL hk hn K2)
    by_cases z15 : z = 15
    · rw [z15]
      exact am_tabIn (t := 1090) (off := 1051) ⟨by decide, by decide⟩ eL_law_39 (by decide) (by decide) rfl (by decide) (law_c15 hR hj' hi hL1 hL hk hn K2)
    by_cases z16 : z = 16
    · rw [z16]
      exact am_tabIn (t := 1174) (off := 1135) ⟨by decide, by decide⟩ eL_law_39 (by decide) (by decide) rfl (by decide) (law_c16 hR hj' hi hL1 hL hk hn K2)
    by_cases z17 : z = 17
    · rw [z17]
      exact am_tabIn (t := 1270) (off := 1231) ⟨by decide, by decide⟩ eL_law_39 (by decide) (by decide) rfl (by decide) (law_c17 hR hj' hi hL1 hL hk hn K2)
    by_cases z18 : z = 18
    · rw [z18]
      exact am_tabIn (t := 1354) (off := 1315) ⟨by decide, by decide⟩ eL_law_39 (by decide) (by decide) rfl (by decide) (law_c18 hR hj' hi hL1 hL hk hn K2)
    by_cases z19 : z = 19
    · rw [z19]
      exact am_tabIn (t := 1462) (off := 1423) ⟨by decide, by decide⟩ eL_law_39 (by decide) (by decide) rfl (by decide) (law_c19 hR hj' hi hL1 hL hk hn K2)
    by_cases z20 : z = 20
    · rw [z20]
      exact am_tabIn (t := 1558) (off := 1519) ⟨by decide, by decide⟩ eL_law_39 (by decide) (by decide) rfl (by decide) (law_c20 hR hj' hi hL1 hL hk hn K2)
    by_cases z21 : z = 21
    · rw [z21]
      exact am_tabIn (t := 1599) (off := 1560) ⟨by decide, by decide⟩ eL_law_39 (by decide) (by decide) rfl (by decide) (law_c21 hR hj' hi hL1 hL hk hn K2)
    by_cases z22 : z = 22
    · rw [z22]
      exact am_tabIn (t := 1695) (off := 1656) ⟨by decide, by decide⟩ eL_law_39 (by decide) (by decide) rfl (by decide) (law_c22 hR hj' hi hL1 hL hk hn K2)
    by_cases z23 : z = 23
    · rw [z23]
      exact am_tabIn (t := 1803) (off := 1764) ⟨by decide, by decide⟩ eL_law_39 (by decide) (by decide) rfl (by decide) (law_c23 hR hj' hi hL1 hL hk hn K2)
    by_cases z24 : z = 24
    · rw [z24]
      exact am_tabIn (t := 1844) (off := 1805) ⟨by decide, by decide⟩ eL_law_39 (by decide) (by decide) rfl (by decide) (law_c24 hR hj' hi hL1 hL hk hn K2)
    by_cases z25 : z = 25
    · rw [z25]
      exact am_tabIn (t := 1900) (off := 1861) ⟨by decide, by decide⟩ eL_law_39 (by decide) (by decide) rfl (by decide) (law_c25 hR hj' hi hL1 hL hk hn K2)
    by_cases z26 : z = 26
    · rw [z26]
      exact am_tabIn (t := 1968) (off := 1929) ⟨by decide, by decide⟩ eL_law_39 (by decide) (by decide) rfl (by decide) (law_c26 hR hj' hi hL1 hL hk hn K2)
    by_cases z27 : z = 27
    · rw [z27]
      exact am_tabIn (t := 2024) (off := 1985) ⟨by decide, by decide⟩ eL_law_39 (by decide) (by decide) rfl (by decide) (law_c27 hR hj' hi hL1 hL hk hn K2)
    exact am_tabOut (t := 2080) ⟨by omega, by omega⟩ eL_law_39 (by decide) (Or.inr (by omega)) (K2 σ none none kc nc (sr_up hR) (by omega) (by omega))
