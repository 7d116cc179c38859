/-! the checks behind each step -/
set_option maxRecDepth 100000 in
set_option maxHeartbeats 4000000 in
theorem law_up {HH : List (Nat × Nat × Nat × Nat)} {G : am_G} {X : am_X} {Q : State → Prop} {x m : sg_S} {N : Nat} {S : Nat → Nat → Int} {off mny fst bok : Nat → Nat → Nat} {n : Nat → Nat} {mo now ups downs tt : Int} (hW : md_wb 110000 x) (hD : sg_D x) (hN : sg_N x) (hbw : bw x 6 6) (h9 : m 0 0 = 3) (hG : wy_GG S off mny n) (hDk : dk x S off mny fst bok n) (hR : lw_R m mny fst bok n) {c : Nat} (hc : x 33 1 = (c : Int)) (hcn : c ≤ n 1) (hT : wy_Tc x 1 (S 1) (off 1) (mny 1) c) {A B : Nat} (hA : A ≤ 600000) (hB : B ≤ 7300000)
    (kk : ∀ (jv : Int) (kc nc : Nat), kc ≤ A → nc ≤ B → am_W G X (mLh HH) 8 600104 7301314 Q 774 [some (am_R am_scr), some (am_R (8, 0)), none, some (am_I (N : Int)), some (am_I 1), some (am_I mo), some (am_I now), some (am_R (9, 0)), some (am_R (9, 1)), some (am_R (9, 2)), some (am_I ups), some (am_I downs), some (am_I tt), none, none, some (am_I (c : Int)), some (am_I jv), none, none, none, none, none] [] (en_h m x) kc nc) :
    ∀ (f j : Nat) (jv : Int) (kc nc : Nat), jv = (j : Int) → j + f = c → kc + 24 * f ≤ A → nc + 144 * f ≤ B → am_W G X (mLh HH) 8 600104 7301314 Q 619 [some (am_R am_scr), some (am_R (8, 0)), none, some (am_I (N : Int)), some (am_I 1), some (am_I mo), some (am_I now), some (am_R (9, 0)), some (am_R (9, 1)), some (am_R (9, 2)), some (am_I ups), some (am_I downs), some (am_I tt), none, none, some (am_I (c : Int)), some (am_I jv), none, none, none, none, none] [] (en_h m x) kc nc := by
  intro f
  induction f with
  | zero =>
    intro j jv kc nc hj hf hk hn
    have hc30 := (hG 1).1
    refine am_iload eL_law_619 rfl ?_
    refine am_iload eL_law_621 rfl ?_
    refine am_icmp_ge ⟨by omega, by omega⟩ ⟨by omega, by omega⟩ eL_law_623 (fun c623 => ?_) (fun c623 => absurd c623 (by omega))
    exact kk _ _ _ (by omega) (by omega)
  | succ f ih =>
    intro j jv kc nc hj hf hk hn
    have hc30 := (hG 1).1
    have tj : jv.toNat = j := by omega
    refine am_iload eL_law_619 rfl ?_
    refine am_iload eL_law_621 rfl ?_
    refine am_icmp_ge ⟨by omega, by omega⟩ ⟨by omega, by omega⟩ eL_law_623 (fun c623 => absurd c623 (by omega)) (fun c623 => ?_)
    refine am_iload eL_law_626 rfl ?_
    refine am_bipush eL_law_628 (by decide) ?_
    refine am_icmp_ge ⟨by omega, by omega⟩ ⟨by omega, by omega⟩ eL_law_630 (fun c630 => ?_) (fun c630 => ?_)
    · exact kk _ _ _ (by omega) (by omega)
    · have j20 : j < 20 := by omega
      obtain ⟨r1, r2, r3⟩ := hR.1 j j20 (by omega)
      obtain ⟨-, g1, -⟩ := (hG 1).2.2 j (by omega)
      obtain ⟨b1, b2, -⟩ := hDk 1 j (by omega)
      have t2 := wy_told (uI := 1) (kI := jv) (aI := 2) rfl hj hc (show j < c by omega) ⟨by decide, by decide⟩ hT
      have t3 := wy_told (uI := 1) (kI := jv) (aI := 3) rfl hj hc (show j < c by omega) ⟨by decide, by decide⟩ hT
      have t0 := wy_told (uI := 1) (kI := jv) (aI := 0) rfl hj hc (show j < c by omega) ⟨by decide, by decide⟩ hT
      have t1 := wy_told (uI := 1) (kI := jv) (aI := 1) rfl hj hc (show j < c by omega) ⟨by decide, by decide⟩ hT
      have g0 : am_r (an_told x 1 jv 0) := rg_told hW
      have g9 : am_r (an_told x 1 jv 1) := rg_told hW
      have lt := t0.2.2.2
      have p1 := wy_phrase (u := 1) (k := j) (mny := mny) (fst := fst) (bok := bok) (off := off) (S := S) hbw hN (uI := 1) (kI := jv) (pI := 0) (bI := (bok 1 j : Int)) (p := 0) rfl hj rfl hc (show j < c by omega) hcn hT hDk (by omega) rfl
      have p2 := wy_phrase (u := 1) (k := j) (mny := mny) (fst := fst) (bok := bok) (off := off) (S := S) hbw hN (uI := 1) (kI := jv) (pI := (mny 1 j : Int) - 1) (bI := (bok 1 j : Int)) (p := mny 1 j - 1) rfl hj (by omega) hc (show j < c by omega) hcn hT hDk (by omega) rfl
      refine am_iload eL_law_633 rfl ?_
      refine am_if_eq ⟨by omega, by omega⟩ eL_law_635 (fun c635 => absurd c635 (by omega)) (fun c635 => ?_)
      refine am_aload_n eL_law_638 rfl ?_
      refine am_iconst eL_law_639 ?_
      refine am_iload eL_law_640 rfl ?_
      refine am_iconst eL_law_642 ?_
      refine am_cVr (mc' := 4) (ms' := 24) (st := []) eL_law_643 kL_57 (rd_is (c_X8_told (m := m) (x := x) hW (u := 1) (n := jv) (a := 2) ⟨by omega, by omega⟩ ⟨by decide, by decide⟩ (Or.inr rfl) hD) t2.1) rfl rfl (en_c8 (m := m) (x := x)) (by decide) (Nat.le_of_ble_eq_true rfl) (by simp) (by omega) (by omega) ?_
      refine am_topI (w := (mny 1 j : Int)) (t2.2.1 rfl) ?_
      refine am_aload eL_law_646 rfl ?_
      refine am_iload eL_law_648 rfl ?_
      refine am_iald (len := 40) (x := (mny 1 j : Int)) eL_law_650 (en_9 (by rw [h9]; decide)) (by omega) (by omega) (by decide) (by show am_I (m 1 jv.toNat) = _; rw [tj, r1]) ?_
      refine am_icmp_ne ⟨by omega, by omega⟩ ⟨by omega, by omega⟩ eL_law_651 (fun c651 => absurd c651 (by omega)) (fun c651 => ?_)
      refine am_aload_n eL_law_654 rfl ?_
      refine am_iconst eL_law_655 ?_
      refine am_iload eL_law_656 rfl ?_
      refine am_iconst eL_law_658 ?_
      refine am_cVr (mc' := 4) (ms' := 24) (st := []) eL_law_659 kL_57 (rd_is (c_X8_told (m := m) (x := x) hW (u := 1) (n := jv) (a := 3) ⟨by omega, by omega⟩ ⟨by decide, by decide⟩ (Or.inr rfl) hD) t3.1) rfl rfl (en_c8 (m := m) (x := x)) (by decide) (Nat.le_of_ble_eq_true rfl) (by simp) (by omega) (by omega) ?_
      refine am_topI (w := 0) (t3.2.2.1 rfl) ?_
      refine am_if_ne ⟨by omega, by omega⟩ eL_law_662 (fun c662 => absurd c662 (by omega)) (fun c662 => ?_)
      refine am_aload_n eL_law_665 rfl ?_
      refine am_iconst eL_law_666 ?_
      refine am_iload eL_law_667 rfl ?_
      refine am_iconst eL_law_669 ?_
      refine am_cVr (mc' := 4) (ms' := 24) (st := []) eL_law_670 kL_57 (rd_is (c_X8_told (m := m) (x := x) hW (u := 1) (n := jv) (a := 0) ⟨by omega, by omega⟩ ⟨by decide, by decide⟩ (Or.inr rfl) hD) t0.1) rfl rfl (en_c8 (m := m) (x := x)) (by decide) (Nat.le_of_ble_eq_true rfl) (by simp) (by omega) (by omega) ?_
      refine am_aload_n eL_law_673 rfl ?_
      refine am_iconst eL_law_674 ?_
      refine am_iload eL_law_675 rfl ?_
      refine am_iconst eL_law_677 ?_
      refine am_cVr (mc' := 4) (ms' := 24) (st := [am_I (an_told x 1 jv 0)]) eL_law_678 kL_57 (rd_is (c_X8_told (m := m) (x := x) hW (u := 1) (n := jv) (a := 1) ⟨by omega, by omega⟩ ⟨by decide, by decide⟩ (Or.inr rfl) hD) t1.1) rfl rfl (en_c8 (m := m) (x := x)) (by decide) (Nat.le_of_ble_eq_true rfl) (by simp) (by omega) (by omega) ?_
      refine am_icmp_le g0 g9 eL_law_681 (fun c681 => absurd c681 (by omega)) (fun c681 => ?_)
      refine am_iconst eL_law_684 ?_
      refine am_goto eL_law_685 ?_
      refine am_istore eL_law_689 (Nat.le_of_ble_eq_true rfl) ?_
      refine am_lseq (ls' := [some (am_R am_scr), some (am_R (8, 0)), none, some (am_I (N : Int)), some (am_I 1), some (am_I mo), some (am_I now), some (am_R (9, 0)), some (am_R (9, 1)), some (am_R (9, 2)), some (am_I ups), some (am_I downs), some (am_I tt), none, none, some (am_I (c : Int)), some (am_I jv), none, none, none, none, none]) rfl ?_
      refine am_iload eL_law_691 rfl ?_
      refine am_if_eq ⟨by omega, by omega⟩ eL_law_693 (fun c693 => absurd c693 (by omega)) (fun c693 => ?_)
      refine am_aload_n eL_law_696 rfl ?_
      refine am_iconst eL_law_697 ?_
      refine am_iload eL_law_698 rfl ?_
      refine am_iconst eL_law_700 ?_
      refine am_aload eL_law_701 rfl ?_
      refine am_iload eL_law_703 rfl ?_
      refine am_iald (len := 40) (x := (bok 1 j : Int)) eL_law_705 (en_9 (by rw [h9]; decide)) (by omega) (by omega) (by decide) (by show am_I (m 3 jv.toNat) = _; rw [tj, r3]) ?_
      refine am_cVr (mc' := 4) (ms' := 24) (st := []) eL_law_706 kL_61 (rd_is (c_X8_phrase (m := m) (x := x) hW (u := 1) (n := jv) (p := 0) (b := (bok 1 j : Int)) ⟨by omega, by omega⟩ ⟨by omega, by omega⟩ ⟨by omega, by omega⟩ (Or.inr rfl) hD hN) p1.1) rfl rfl (en_c8 (m := m) (x := x)) (by decide) (Nat.le_of_ble_eq_true rfl) (by simp) (by omega) (by omega) ?_
      refine am_topI (w := (100 + (((fst 1 j + 0) % 6 : Nat) : Int))) p1.2 ?_
      refine am_bipush eL_law_709 (by decide) ?_
      refine am_aload eL_law_711 rfl ?_
      refine am_iload eL_law_713 rfl ?_
      refine am_iald (len := 40) (x := (fst 1 j : Int)) eL_law_715 (en_9 (by rw [h9]; decide)) (by omega) (by omega) (by decide) (by show am_I (m 2 jv.toNat) = _; rw [tj, r2]) ?_
      refine am_iadd eL_law_716 ?_
      refine am_icmp_ne ⟨by omega, by omega⟩ ⟨by omega, by omega⟩ eL_law_717 (fun c717 => absurd c717 (by omega)) (fun c717 => ?_)
      refine am_aload_n eL_law_720 rfl ?_
      refine am_iconst eL_law_721 ?_
      refine am_iload eL_law_722 rfl ?_
      refine am_aload eL_law_724 rfl ?_
      refine am_iload eL_law_726 rfl ?_
      refine am_iald (len := 40) (x := (mny 1 j : Int)) eL_law_728 (en_9 (by rw [h9]; decide)) (by omega) (by omega) (by decide) (by show am_I (m 1 jv.toNat) = _; rw [tj, r1]) ?_
      refine am_iconst eL_law_729 ?_
      refine am_isub eL_law_730 ?_
      refine am_aload eL_law_731 rfl ?_
      refine am_iload eL_law_733 rfl ?_
      refine am_iald (len := 40) (x := (bok 1 j : Int)) eL_law_735 (en_9 (by rw [h9]; decide)) (by omega) (by omega) (by decide) (by show am_I (m 3 jv.toNat) = _; rw [tj, r3]) ?_
      refine am_cVr (mc' := 4) (ms' := 24) (st := []) eL_law_736 kL_61 (rd_is (c_X8_phrase (m := m) (x := x) hW (u := 1) (n := jv) (p := ((mny 1 j : Int) - 1)) (b := (bok 1 j : Int)) ⟨by omega, by omega⟩ ⟨by omega, by omega⟩ ⟨by omega, by omega⟩ (Or.inr rfl) hD hN) p2.1) rfl rfl (en_c8 (m := m) (x := x)) (by decide) (Nat.le_of_ble_eq_true rfl) (by simp) (by omega) (by omega) ?_
      refine am_topI (w := (100 + (((fst 1 j + (mny 1 j - 1)) % 6 : Nat) : Int))) p2.2 ?_
      refine am_bipush eL_law_739 (by decide) ?_
      refine am_aload eL_law_741 rfl ?_
      refine am_iload eL_law_743 rfl ?_
      refine am_iald (len := 40) (x := (fst 1 j : Int)) eL_law_745 (en_9 (by rw [h9]; decide)) (by omega) (by omega) (by decide) (by show am_I (m 2 jv.toNat) = _; rw [tj, r2]) ?_
      refine am_aload eL_law_746 rfl ?_
      refine am_iload eL_law_748 rfl ?_
      refine am_iald (len := 40) (x := (mny 1 j : Int)) eL_law_750 (en_9 (by rw [h9]; decide)) (by omega) (by omega) (by decide) (by show am_I (m 1 jv.toNat) = _; rw [tj, r1]) ?_
      refine am_iadd eL_law_751 ?_
      refine am_iconst eL_law_752 ?_
      refine am_isub eL_law_753 ?_
      refine am_bipush eL_law_754 (by decide) ?_
      refine am_irem ⟨by omega, by omega⟩ (by omega) ⟨by omega, by omega⟩ (by omega) eL_law_756 ?_
      refine am_iadd eL_law_757 ?_
      refine am_icmp_ne ⟨by omega, by omega⟩ ⟨by omega, by omega⟩ eL_law_758 (fun c758 => absurd c758 (by omega)) (fun c758 => ?_)
      refine am_iconst eL_law_761 ?_
      refine am_goto eL_law_762 ?_
      refine am_istore eL_law_766 (Nat.le_of_ble_eq_true rfl) ?_
      refine am_lseq (ls' := [some (am_R am_scr), some (am_R (8, 0)), none, some (am_I (N : Int)), some (am_I 1), some (am_I mo), some (am_I now), some (am_R (9, 0)), some (am_R (9, 1)), some (am_R (9, 2)), some (am_I ups), some (am_I downs), some (am_I tt), none, none, some (am_I (c : Int)), some (am_I jv), none, none, none, none, none]) rfl ?_
      refine am_iinc eL_law_768 rfl (Nat.le_of_ble_eq_true rfl) ?_
      refine am_lseq (ls' := [some (am_R am_scr), some (am_R (8, 0)), none, some (am_I (N : Int)), some (am_I 1), some (am_I mo), some (am_I now), some (am_R (9, 0)), some (am_R (9, 1)), some (am_R (9, 2)), some (am_I ups), some (am_I downs), some (am_I tt), none, none, some (am_I (c : Int)), some (am_I (jv + 1)), none, none, none, none, none]) rfl ?_
      refine am_goto eL_law_771 ?_
      exact ih (j + 1) _ _ _ (by omega) (by omega) (by omega) (by omega)
set_option maxRecDepth 100000 in
set_option maxHeartbeats 4000000 in
theorem law_dn {HH : List (Nat × Nat × Nat × Nat)} {G : am_G} {X : am_X} {Q : State → Prop} {x m : sg_S} {N : Nat} {S : Nat → Nat → Int} {off mny fst bok : Nat → Nat → Nat} {n : Nat → Nat} {mo now ups downs tt : Int} (hW : md_wb 110000 x) (hD : sg_D x) (hN : sg_N x) (hbw : bw x 6 6) (h9 : m 0 0 = 3) (hG : wy_GG S off mny n) (hDk : dk x S off mny fst bok n) (hR : lw_R m mny fst bok n) {c : Nat} (hc : x 33 0 = (c : Int)) (hcn : c ≤ n 0) (hT : wy_Tc x 0 (S 0) (off 0) (mny 0) c) {A B : Nat} (hA : A ≤ 600000) (hB : B ≤ 7300000)
    (kk : ∀ (jv : Int) (kc nc : Nat), kc ≤ A → nc ≤ B → am_W G X (mLh HH) 8 600104 7301314 Q 865 [some (am_R am_scr), some (am_R (8, 0)), none, some (am_I (N : Int)), some (am_I 1), some (am_I mo), some (am_I now), some (am_R (9, 0)), some (am_R (9, 1)), some (am_R (9, 2)), some (am_I ups), some (am_I downs), some (am_I tt), none, none, some (am_I (c : Int)), some (am_I jv), none, none, none, none, none] [] (en_h m x) kc nc) :
    ∀ (f j : Nat) (jv : Int) (kc nc : Nat), jv = (j : Int) → j + f = c → kc + 24 * f ≤ A → nc + 144 * f ≤ B → am_W G X (mLh HH) 8 600104 7301314 Q 784 [some (am_R am_scr), some (am_R (8, 0)), none, some (am_I (N : Int)), some (am_I 1), some (am_I mo), some (am_I now), some (am_R (9, 0)), some (am_R (9, 1)), some (am_R (9, 2)), some (am_I ups), some (am_I downs), some (am_I tt), none, none, some (am_I (c : Int)), some (am_I jv), none, none, none, none, none] [] (en_h m x) kc nc := by
  intro f
  induction f with
  | zero =>
    intro j jv kc nc hj hf hk hn
    have hc30 := (hG 0).1
    refine am_iload eL_law_784 rfl ?_
    refine am_iload eL_law_786 rfl ?_
    refine am_icmp_ge ⟨by omega, by omega⟩ ⟨by omega, by omega⟩ eL_law_788 (fun c788 => ?_) (fun c788 => absurd c788 (by omega))
    exact kk _ _ _ (by omega) (by omega)
  | succ f ih =>
    intro j jv kc nc hj hf hk hn
    have hc30 := (hG 0).1
    have tj : jv.toNat = j := by omega
    refine am_iload eL_law_784 rfl ?_
    refine am_iload eL_law_786 rfl ?_
    refine am_icmp_ge ⟨by omega, by omega⟩ ⟨by omega, by omega⟩ eL_law_788 (fun c788 => absurd c788 (by omega)) (fun c788 => ?_)
    refine am_iload eL_law_791 rfl ?_
    refine am_bipush eL_law_793 (by decide) ?_
    refine am_icmp_ge ⟨by omega, by omega⟩ ⟨by omega, by omega⟩ eL_law_795 (fun c795 => ?_) (fun c795 => ?_)
    · exact kk _ _ _ (by omega) (by omega)
    · have j20 : j < 20 := by omega
      obtain ⟨r1, r2, r3⟩ := hR.2 j j20 (by omega)
      obtain ⟨-, g1, -⟩ := (hG 0).2.2 j (by omega)
      obtain ⟨b1, b2, -⟩ := hDk 0 j (by omega)
      have tj2 : (20 + jv).toNat = 20 + j := by omega
      have t2 := wy_told (uI := 0) (kI := jv) (aI := 2) rfl hj hc (show j < c by omega) ⟨by decide, by decide⟩ hT
      have p1 := wy_phrase (u := 0) (k := j) (mny := mny) (fst := fst) (bok := bok) (off := off) (S := S) hbw hN (uI := 0) (kI := jv) (pI := 0) (bI := (bok 0 j : Int)) (p := 0) rfl hj rfl hc (show j < c by omega) hcn hT hDk (by omega) rfl
      refine am_iload eL_law_798 rfl ?_
      refine am_if_eq ⟨by omega, by omega⟩ eL_law_800 (fun c800 => absurd c800 (by omega)) (fun c800 => ?_)
      refine am_aload_n eL_law_803 rfl ?_
      refine am_iconst eL_law_804 ?_
      refine am_iload eL_law_805 rfl ?_
      refine am_iconst eL_law_807 ?_
      refine am_cVr (mc' := 4) (ms' := 24) (st := []) eL_law_808 kL_57 (rd_is (c_X8_told (m := m) (x := x) hW (u := 0) (n := jv) (a := 2) ⟨by omega, by omega⟩ ⟨by decide, by decide⟩ (Or.inl rfl) hD) t2.1) rfl rfl (en_c8 (m := m) (x := x)) (by decide) (Nat.le_of_ble_eq_true rfl) (by simp) (by omega) (by omega) ?_
      refine am_topI (w := (mny 0 j : Int)) (t2.2.1 rfl) ?_
      refine am_aload eL_law_811 rfl ?_
      refine am_bipush eL_law_813 (by decide) ?_
      refine am_iload eL_law_815 rfl ?_
      refine am_iadd eL_law_817 ?_
      refine am_iald (len := 40) (x := (mny 0 j : Int)) eL_law_818 (en_9 (by rw [h9]; decide)) (by omega) (by omega) (by decide) (by show am_I (m 1 (20 + jv).toNat) = _; rw [tj2, r1]) ?_
      refine am_icmp_ne ⟨by omega, by omega⟩ ⟨by omega, by omega⟩ eL_law_819 (fun c819 => absurd c819 (by omega)) (fun c819 => ?_)
      refine am_aload_n eL_law_822 rfl ?_
      refine am_iconst eL_law_823 ?_
      refine am_iload eL_law_824 rfl ?_
      refine am_iconst eL_law_826 ?_
      refine am_aload eL_law_827 rfl ?_
      refine am_bipush eL_law_829 (by decide) ?_
      refine am_iload eL_law_831 rfl ?_
      refine am_iadd eL_law_833 ?_
      refine am_iald (len := 40) (x := (bok 0 j : Int)) eL_law_834 (en_9 (by rw [h9]; decide)) (by omega) (by omega) (by decide) (by show am_I (m 3 (20 + jv).toNat) = _; rw [tj2, r3]) ?_
      refine am_cVr (mc' := 4) (ms' := 24) (st := []) eL_law_835 kL_61 (rd_is (c_X8_phrase (m := m) (x := x) hW (u := 0) (n := jv) (p := 0) (b := (bok 0 j : Int)) ⟨by omega, by omega⟩ ⟨by omega, by omega⟩ ⟨by omega, by omega⟩ (Or.inl rfl) hD hN) p1.1) rfl rfl (en_c8 (m := m) (x := x)) (by decide) (Nat.le_of_ble_eq_true rfl) (by simp) (by omega) (by omega) ?_
      refine am_topI (w := (100 + (((fst 0 j + 0) % 6 : Nat) : Int))) p1.2 ?_
      refine am_bipush eL_law_838 (by decide) ?_
      refine am_aload eL_law_840 rfl ?_
      refine am_bipush eL_law_842 (by decide) ?_
      refine am_iload eL_law_844 rfl ?_
      refine am_iadd eL_law_846 ?_
      refine am_iald (len := 40) (x := (fst 0 j : Int)) eL_law_847 (en_9 (by rw [h9]; decide)) (by omega) (by omega) (by decide) (by show am_I (m 2 (20 + jv).toNat) = _; rw [tj2, r2]) ?_
      refine am_iadd eL_law_848 ?_
      refine am_icmp_ne ⟨by omega, by omega⟩ ⟨by omega, by omega⟩ eL_law_849 (fun c849 => absurd c849 (by omega)) (fun c849 => ?_)
      refine am_iconst eL_law_852 ?_
      refine am_goto eL_law_853 ?_
      refine am_istore eL_law_857 (Nat.le_of_ble_eq_true rfl) ?_
      refine am_lseq (ls' := [some (am_R am_scr), some (am_R (8, 0)), none, some (am_I (N : Int)), some (am_I 1), some (am_I mo), some (am_I now), some (am_R (9, 0)), some (am_R (9, 1)), some (am_R (9, 2)), some (am_I ups), some (am_I downs), some (am_I tt), none, none, some (am_I (c : Int)), some (am_I jv), none, none, none, none, none]) rfl ?_
      refine am_iinc eL_law_859 rfl (Nat.le_of_ble_eq_true rfl) ?_
      refine am_lseq (ls' := [some (am_R am_scr), some (am_R (8, 0)), none, some (am_I (N : Int)), some (am_I 1), some (am_I mo), some (am_I now), some (am_R (9, 0)), some (am_R (9, 1)), some (am_R (9, 2)), some (am_I ups), some (am_I downs), some (am_I tt), none, none, some (am_I (c : Int)), some (am_I (jv + 1)), none, none, none, none, none]) rfl ?_
      refine am_goto eL_law_862 ?_
      exact ih (j + 1) _ _ _ (by omega) (by omega) (by omega) (by omega)
set_option maxRecDepth 100000 in
set_option maxHeartbeats 4000000 in
theorem law_df {HH : List (Nat × Nat × Nat × Nat)} {G : am_G} {X : am_X} {Q : State → Prop} {x m : sg_S} {N : Nat} {S : Nat → Nat → Int} {off mny : Nat → Nat → Nat} {n : Nat → Nat} {mo now ups downs tt cd β1 β0 : Int} (hW : md_wb 110000 x) (h3 : x 3 0 = (N : Int)) (hN5 : 2 ≤ N ∧ N ≤ 5) (hB : wy_B x N S off mny n β1 β0) {A B : Nat} (hA : A ≤ 600000) (hB9 : B ≤ 7300000)
    (kk : ∀ (kv : Int) (kc nc : Nat), kc ≤ A → nc ≤ B → am_W G X (mLh HH) 8 600104 7301314 Q 930 [some (am_R am_scr), some (am_R (8, 0)), none, some (am_I (N : Int)), some (am_I 1), some (am_I mo), some (am_I now), some (am_R (9, 0)), some (am_R (9, 1)), some (am_R (9, 2)), some (am_I ups), some (am_I downs), some (am_I tt), none, none, some (am_I cd), some (am_I kv), none, none, none, none, none] [] (en_h m x) kc nc) :
    ∀ (f j : Nat) (kv : Int) (kc nc : Nat), kv = (j : Int) → j + f = N → 1 ≤ j → kc + 12 * f ≤ A → nc + 72 * f ≤ B → am_W G X (mLh HH) 8 600104 7301314 Q 868 [some (am_R am_scr), some (am_R (8, 0)), none, some (am_I (N : Int)), some (am_I 1), some (am_I mo), some (am_I now), some (am_R (9, 0)), some (am_R (9, 1)), some (am_R (9, 2)), some (am_I ups), some (am_I downs), some (am_I tt), none, none, some (am_I cd), some (am_I kv), none, none, none, none, none] [] (en_h m x) kc nc := by
  intro f
  induction f with
  | zero =>
    intro j kv kc nc hj hf hj1 hk hn
    refine am_iload eL_law_868 rfl ?_
    refine am_iload_n eL_law_870 rfl ?_
    refine am_icmp_ge ⟨by omega, by omega⟩ ⟨by omega, by omega⟩ eL_law_871 (fun c871 => ?_) (fun c871 => absurd c871 (by omega))
    exact kk _ _ _ (by omega) (by omega)
  | succ f ih =>
    intro j kv kc nc hj hf hj1 hk hn
    have d1 := wy_differs (tI := kv) (oI := (N : Int) - 1) (uI := 1) (t := j) (o := N - 1) hB.1 h3 hj (by omega) rfl ⟨by omega, by unfold wy_s; simp; omega⟩ ⟨by omega, by unfold wy_s; simp; omega⟩
    have d2 := wy_differs (tI := 0) (oI := kv - 1) (uI := 0) (t := 0) (o := j - 1) hB.2 h3 rfl (by omega) rfl ⟨by omega, by unfold wy_s; simp; omega⟩ ⟨by omega, by unfold wy_s; simp; omega⟩
    have b17 := wb17 hW (2 * kv.toNat + (1 : Int).toNat)
    have lg : sp_logs x kv 1 = st x 0 0 0 := by unfold sp_logs; rw [if_neg (by omega)]
    have la : an_logs x kv 1 = x 17 (2 * kv.toNat + (1 : Int).toNat) := by unfold an_logs; rw [if_neg (by omega)]
    have b3 := wb3 hW 0
    refine am_iload eL_law_868 rfl ?_
    refine am_iload_n eL_law_870 rfl ?_
    refine am_icmp_ge ⟨by omega, by omega⟩ ⟨by omega, by omega⟩ eL_law_871 (fun c871 => absurd c871 (by omega)) (fun c871 => ?_)
    refine am_iload eL_law_874 rfl ?_
    refine am_if_eq ⟨by omega, by omega⟩ eL_law_876 (fun c876 => absurd c876 (by omega)) (fun c876 => ?_)
    refine am_aload_n eL_law_879 rfl ?_
    refine am_iload eL_law_880 rfl ?_
    refine am_iload_n eL_law_882 rfl ?_
    refine am_iconst eL_law_883 ?_
    refine am_isub eL_law_884 ?_
    refine am_iconst eL_law_885 ?_
    refine am_cVr (mc' := 4) (ms' := 24) (st := []) eL_law_886 kL_65 (rd_is (c_X8_differs (m := m) (x := x) hW (t := kv) (o := (N : Int) - 1) (u := 1) ⟨by omega, by omega⟩ ⟨by omega, by omega⟩ (Or.inr rfl)) d1.1) rfl rfl (en_c8 (m := m) (x := x)) (by decide) (Nat.le_of_ble_eq_true rfl) (by simp) (by omega) (by omega) ?_
    refine am_topI (w := (-1)) d1.2 ?_
    refine am_iconst eL_law_889 ?_
    refine am_icmp_ne ⟨by omega, by omega⟩ ⟨by omega, by omega⟩ eL_law_890 (fun c890 => absurd c890 (by omega)) (fun c890 => ?_)
    refine am_aload_n eL_law_893 rfl ?_
    refine am_iconst eL_law_894 ?_
    refine am_iload eL_law_895 rfl ?_
    refine am_iconst eL_law_897 ?_
    refine am_isub eL_law_898 ?_
    refine am_iconst eL_law_899 ?_
    refine am_cVr (mc' := 4) (ms' := 24) (st := []) eL_law_900 kL_65 (rd_is (c_X8_differs (m := m) (x := x) hW (t := 0) (o := kv - 1) (u := 0) ⟨by omega, by omega⟩ ⟨by omega, by omega⟩ (Or.inl rfl)) d2.1) rfl rfl (en_c8 (m := m) (x := x)) (by decide) (Nat.le_of_ble_eq_true rfl) (by simp) (by omega) (by omega) ?_
    refine am_topI (w := (-1)) d2.2 ?_
    refine am_iconst eL_law_903 ?_
    refine am_icmp_ne ⟨by omega, by omega⟩ ⟨by omega, by omega⟩ eL_law_904 (fun c904 => absurd c904 (by omega)) (fun c904 => ?_)
    refine am_aload_n eL_law_907 rfl ?_
    refine am_iload eL_law_908 rfl ?_
    refine am_iconst eL_law_910 ?_
    refine am_cVr (mc' := 4) (ms' := 24) (st := []) eL_law_911 kL_69 (rd_is (c_X8_logs (m := m) (x := x) hW (t := kv) (u := 1) ⟨by omega, by omega⟩ (Or.inr rfl)) lg) rfl rfl (en_c8 (m := m) (x := x)) (by decide) (Nat.le_of_ble_eq_true rfl) (by simp) (by omega) (by omega) ?_
    refine am_topI (w := (x 17 (2 * kv.toNat + (1 : Int).toNat))) la ?_
    refine am_if_lt ⟨by omega, by omega⟩ eL_law_914 (fun c914 => absurd c914 (by omega)) (fun c914 => ?_)
    refine am_iconst eL_law_917 ?_
    refine am_goto eL_law_918 ?_
    refine am_istore eL_law_922 (Nat.le_of_ble_eq_true rfl) ?_
    refine am_lseq (ls' := [some (am_R am_scr), some (am_R (8, 0)), none, some (am_I (N : Int)), some (am_I 1), some (am_I mo), some (am_I now), some (am_R (9, 0)), some (am_R (9, 1)), some (am_R (9, 2)), some (am_I ups), some (am_I downs), some (am_I tt), none, none, some (am_I cd), some (am_I kv), none, none, none, none, none]) rfl ?_
    refine am_iinc eL_law_924 rfl (Nat.le_of_ble_eq_true rfl) ?_
    refine am_lseq (ls' := [some (am_R am_scr), some (am_R (8, 0)), none, some (am_I (N : Int)), some (am_I 1), some (am_I mo), some (am_I now), some (am_R (9, 0)), some (am_R (9, 1)), some (am_R (9, 2)), some (am_I ups), some (am_I downs), some (am_I tt), none, none, some (am_I cd), some (am_I (kv + 1)), none, none, none, none, none]) rfl ?_
    refine am_goto eL_law_927 ?_
    exact ih (j + 1) _ _ _ (by omega) (by omega) (by omega) (by omega) (by omega)
