set_option maxRecDepth 100000 in
set_option maxHeartbeats 4000000 in
theorem law_c20 {HH : List (Nat × Nat × Nat × Nat)} {G : am_G} {X : am_X} {Q : State → Prop} {σ : sg_S} {j : Nat} {iv : Int} {kc nc : Nat} (hR : sg_R j σ) (hj : j < 512) (hi : iv = 5 * (j : Int)) (hL1 : iv + 4 < (G.2.2.2.2.2.2.1 : Int)) (hL : G.2.2.2.2.2.2.1 ≤ 2560) (hk : kc ≤ 100 + 20 * j + 2 * (σ 51 0).toNat) (hn : nc ≤ 50000 + 2400 * j + 66 * (σ 51 0).toNat)
    (kk : ∀ (σ' : sg_S) (l5 l6 : Option am_AV) (kc' nc' : Nat), sg_R (j + 1) σ' → kc' ≤ 100 + 20 * (j + 1) + 2 * (σ' 51 0).toNat → nc' ≤ 50000 + 2400 * (j + 1) + 66 * (σ' 51 0).toNat → am_W G X (mLh HH) 11 601024 7293034 Q 2080 (lwL iv l5 l6) [] (en_h σ' σ') kc' nc') : am_W G X (mLh HH) 11 601024 7293034 Q 1558 (lwL iv none none) [] (en_h σ σ) kc nc := by
  obtain ⟨hW, hT, h16, hJ⟩ := id hR
  obtain ⟨hP, hD, hB, hF, hU, hV, hN, h52⟩ := id hJ
  have h51 : 0 ≤ σ 51 0 := hD.1.1
  have hle := si_le hP
  obtain ⟨a1, e1⟩ : ∃ z, z = (G.2.2.2.2.2.2.2 (iv + 1).toNat).toInt := ⟨_, rfl⟩
  have r1 : -2147483648 ≤ a1 ∧ a1 < 2147483648 := by rw [e1]; exact xs_r _
  have b1 := lz_01 (v := a1)
  have hR1 : sg_R (j + 1) (sp_came σ (lz a1)) := sr_came hR
  have h51a : (sp_came σ (lz a1)) 51 0 = σ 51 0 := by
    unfold sp_came
    (repeat' split) <;> simp [st]
  have hMC : ∀ f j, f < 43 → (sp_came σ (lz a1)) f j = (sp_came σ (lz a1)) f j := fun _ _ _ => rfl
  have hWM : md_wb 110000 (sp_came σ (lz a1)) := wb_of hR1.1 hMC
  have fin : am_W G X (mLh HH) 11 601024 7293034 Q 2080 (lwL iv none none) [] (en_h (sp_came σ (lz a1)) (sp_came σ (lz a1))) kc nc := kk (sp_came σ (lz a1)) _ _ _ _ hR1 (by rw [h51a]; omega) (by rw [h51a]; omega)
  refine am_aload_n eL_law_1558 rfl ?_
  refine lw_arg (a := a1) eL_law_1559 eL_law_1560 eL_law_1562 eL_law_1563 eL_law_1564 (by omega) (by omega) hL e1 ?_
  refine lw_bool eL_law_1565 eL_law_1568 eL_law_1569 eL_law_1572 r1 ?_
  refine am_cV eL_law_1573 kL_180 (c_X8_came (m := σ) (x := σ) hW b1) rfl rfl en_c8 (by decide) (by decide) (Nat.le_of_ble_eq_true rfl) (by omega) (by omega) ?_
  refine am_aload_n eL_law_1576 rfl ?_
  refine lw_arg (a := a1) eL_law_1577 eL_law_1578 eL_law_1580 eL_law_1581 eL_law_1582 (by omega) (by omega) hL e1 ?_
  refine lw_bool eL_law_1583 eL_law_1586 eL_law_1587 eL_law_1590 r1 ?_
  refine am_cV eL_law_1591 kL_184 (c_X9_came (m := σ) (x := sp_came σ (lz a1)) hW b1) rfl rfl en_9 (by decide) (by decide) (Nat.le_of_ble_eq_true rfl) (by omega) (by omega) ?_
  exact am_icmp_eq (rg_came hW) (rg_came hW) eL_law_1594 (fun _ => fin) (fun z => absurd rfl z)
set_option maxRecDepth 100000 in
set_option maxHeartbeats 4000000 in
theorem law_c21 {HH : List (Nat × Nat × Nat × Nat)} {G : am_G} {X : am_X} {Q : State → Prop} {σ : sg_S} {j : Nat} {iv : Int} {kc nc : Nat} (hR : sg_R j σ) (hj : j < 512) (hi : iv = 5 * (j : Int)) (hL1 : iv + 4 < (G.2.2.2.2.2.2.1 : Int)) (hL : G.2.2.2.2.2.2.1 ≤ 2560) (hk : kc ≤ 100 + 20 * j + 2 * (σ 51 0).toNat) (hn : nc ≤ 50000 + 2400 * j + 66 * (σ 51 0).toNat)
    (kk : ∀ (σ' : sg_S) (l5 l6 : Option am_AV) (kc' nc' : Nat), sg_R (j + 1) σ' → kc' ≤ 100 + 20 * (j + 1) + 2 * (σ' 51 0).toNat → nc' ≤ 50000 + 2400 * (j + 1) + 66 * (σ' 51 0).toNat → am_W G X (mLh HH) 11 601024 7293034 Q 2080 (lwL iv l5 l6) [] (en_h σ' σ') kc' nc') : am_W G X (mLh HH) 11 601024 7293034 Q 1599 (lwL iv none none) [] (en_h σ σ) kc nc := by
  obtain ⟨hW, hT, h16, hJ⟩ := id hR
  obtain ⟨hP, hD, hB, hF, hU, hV, hN, h52⟩ := id hJ
  have h51 : 0 ≤ σ 51 0 := hD.1.1
  have hle := si_le hP
  obtain ⟨a1, e1⟩ : ∃ z, z = (G.2.2.2.2.2.2.2 (iv + 1).toNat).toInt := ⟨_, rfl⟩
  have r1 : -2147483648 ≤ a1 ∧ a1 < 2147483648 := by rw [e1]; exact xs_r _
  have b1 := lz_01 (v := a1)
  obtain ⟨a2, e2⟩ : ∃ z, z = (G.2.2.2.2.2.2.2 (iv + 2).toNat).toInt := ⟨_, rfl⟩
  have r2 : -2147483648 ≤ a2 ∧ a2 < 2147483648 := by rw [e2]; exact xs_r _
  obtain ⟨a3, e3⟩ : ∃ z, z = (G.2.2.2.2.2.2.2 (iv + 3).toNat).toInt := ⟨_, rfl⟩
  have r3 : -2147483648 ≤ a3 ∧ a3 < 2147483648 := by rw [e3]; exact xs_r _
  have hR1 : sg_R (j + 1) (sp_told σ (lz a1) a2 a3) := sr_told hR
  have h51a : (sp_told σ (lz a1) a2 a3) 51 0 = σ 51 0 := by
    unfold sp_told
    (repeat' split) <;> simp [st]
  have hMC : ∀ f j, f < 43 → (sp_told σ (lz a1) a2 a3) f j = (sp_told σ (lz a1) a2 a3) f j := fun _ _ _ => rfl
  have hWM : md_wb 110000 (sp_told σ (lz a1) a2 a3) := wb_of hR1.1 hMC
  obtain ⟨S, hS⟩ : ∃ S, S = sp_told σ (lz a1) a2 a3 := ⟨_, rfl⟩
  have hMS : ∀ f j, f < 43 → (sp_told σ (lz a1) a2 a3) f j = S f j := fun f j hf => (hMC f j hf).trans (by rw [hS])
  rw [← hS] at hR1 h51a
  have h00 : (sp_told σ (lz a1) a2 a3) 0 0 = S 0 0 := hMS 0 0 (by decide)
  have w0 := wb0 hWM 0
  rw [h00] at w0
  have fin : am_W G X (mLh HH) 11 601024 7293034 Q 2080 (lwL iv (some (am_I (S 0 0))) (some (am_I (an_told σ (lz a1) a2 a3)))) [] (en_h (sp_told σ (lz a1) a2 a3) (lx_w S (an_told σ (lz a1) a2 a3))) (kc + 4) (nc + 24) := by
    rw [en_m_ag (m := lx_w S (an_told σ (lz a1) a2 a3)) (fun f j hf => (hMS f j hf).trans (lx_lo (by omega)).symm)]
    exact kk (lx_w S (an_told σ (lz a1) a2 a3)) _ _ _ _ (sg_R_w hR1) (by rw [lx_lo (by decide)]; omega) (by rw [lx_lo (by decide)]; omega)
  refine am_aload_n eL_law_1599 rfl ?_
  refine lw_arg (a := a1) eL_law_1600 eL_law_1601 eL_law_1603 eL_law_1604 eL_law_1605 (by omega) (by omega) hL e1 ?_
  refine lw_bool eL_law_1606 eL_law_1609 eL_law_1610 eL_law_1613 r1 ?_
  refine lw_arg (a := a2) eL_law_1614 eL_law_1615 eL_law_1617 eL_law_1618 eL_law_1619 (by omega) (by omega) hL e2 ?_
  refine lw_arg (a := a3) eL_law_1620 eL_law_1621 eL_law_1623 eL_law_1624 eL_law_1625 (by omega) (by omega) hL e3 ?_
  refine am_aload_n eL_law_1626 rfl ?_
  refine am_callSH (mc' := 4) (ms' := 24) eL_law_1627 kL_185 (c_L_told (c := S) (by rw [hS]; exact c_X8_told (m := σ) hW r2 r3 b1 hD) (rg_told hW)) rfl rfl (by decide) (Nat.le_of_ble_eq_true rfl) (by simp) (by omega) (by omega) (fun r h' hq => ?_) (fun x h' hq => by obtain ⟨q1, -⟩ := hq; cases q1)
  obtain ⟨q1, rfl⟩ := hq
  cases q1
  refine am_steq (st' := [am_I (S 0 0)]) rfl ?_
  refine am_istore eL_law_1630 (Nat.le_of_ble_eq_true rfl) ?_
  refine am_lseq (ls' := lwL iv (some (am_I (S 0 0))) none) rfl ?_
  refine am_aload_n eL_law_1632 rfl ?_
  refine lw_arg (a := a1) eL_law_1633 eL_law_1634 eL_law_1636 eL_law_1637 eL_law_1638 (by omega) (by omega) hL e1 ?_
  refine lw_bool eL_law_1639 eL_law_1642 eL_law_1643 eL_law_1646 r1 ?_
  refine lw_arg (a := a2) eL_law_1647 eL_law_1648 eL_law_1650 eL_law_1651 eL_law_1652 (by omega) (by omega) hL e2 ?_
  refine lw_arg (a := a3) eL_law_1653 eL_law_1654 eL_law_1656 eL_law_1657 eL_law_1658 (by omega) (by omega) hL e3 ?_
  refine am_cV eL_law_1659 kL_188 (c_X9_told (m := σ) (x := lx_w S (an_told σ (lz a1) a2 a3)) hW r2 r3 b1) rfl rfl en_9 (by decide) (by decide) (Nat.le_of_ble_eq_true rfl) (by omega) (by omega) ?_
  refine am_istore eL_law_1662 (Nat.le_of_ble_eq_true rfl) ?_
  refine am_lseq (ls' := lwL iv (some (am_I (S 0 0))) (some (am_I (an_told σ (lz a1) a2 a3)))) rfl ?_
  refine am_aload_n eL_law_1664 rfl ?_
  refine am_cV eL_law_1665 kL_107 (c_X9_thrown (m := sp_told σ (lz a1) a2 a3) (x := lx_w S (an_told σ (lz a1) a2 a3)) hWM) rfl rfl en_9 (by decide) (by decide) (Nat.le_of_ble_eq_true rfl) (by omega) (by omega) ?_
  refine am_iload eL_law_1668 rfl ?_
  refine am_topI_ h00 ?_
  refine am_icmp_eq ⟨by omega, by omega⟩ ⟨by omega, by omega⟩ eL_law_1670 (fun _ => ?_) (fun z => absurd rfl z)
  refine am_iload eL_law_1675 rfl ?_
  refine am_if_ne ⟨by omega, by omega⟩ eL_law_1677 (fun _ => am_goto eL_law_1692 fin) (fun c1 => ?_)
  refine am_aload_n eL_law_1680 rfl ?_
  refine am_iconst eL_law_1681 ?_
  refine am_lald (len := 1) (x := (an_told σ (lz a1) a2 a3)) eL_law_1682 en_98 (by decide) (by decide) (by decide) (congrArg am_J (lx_at c1)) ?_
  refine am_iload eL_law_1683 rfl ?_
  refine am_i2l (rg_told hW) eL_law_1685 ?_
  refine am_lcmp (rg_told hW) (rg_told hW) eL_law_1686 (fun z hz hf => ?_)
  exact am_if_eq hz eL_law_1687 (fun _ => am_goto eL_law_1692 fin) (fun c => absurd (hf.mpr rfl) c)
set_option maxRecDepth 100000 in
set_option maxHeartbeats 4000000 in
theorem law_c22 {HH : List (Nat × Nat × Nat × Nat)} {G : am_G} {X : am_X} {Q : State → Prop} {σ : sg_S} {j : Nat} {iv : Int} {kc nc : Nat} (hR : sg_R j σ) (hj : j < 512) (hi : iv = 5 * (j : Int)) (hL1 : iv + 4 < (G.2.2.2.2.2.2.1 : Int)) (hL : G.2.2.2.2.2.2.1 ≤ 2560) (hk : kc ≤ 100 + 20 * j + 2 * (σ 51 0).toNat) (hn : nc ≤ 50000 + 2400 * j + 66 * (σ 51 0).toNat)
    (kk : ∀ (σ' : sg_S) (l5 l6 : Option am_AV) (kc' nc' : Nat), sg_R (j + 1) σ' → kc' ≤ 100 + 20 * (j + 1) + 2 * (σ' 51 0).toNat → nc' ≤ 50000 + 2400 * (j + 1) + 66 * (σ' 51 0).toNat → am_W G X (mLh HH) 11 601024 7293034 Q 2080 (lwL iv l5 l6) [] (en_h σ' σ') kc' nc') : am_W G X (mLh HH) 11 601024 7293034 Q 1695 (lwL iv none none) [] (en_h σ σ) kc nc := by
  obtain ⟨hW, hT, h16, hJ⟩ := id hR
  obtain ⟨hP, hD, hB, hF, hU, hV, hN, h52⟩ := id hJ
  have h51 : 0 ≤ σ 51 0 := hD.1.1
  have hle := si_le hP
  obtain ⟨a1, e1⟩ : ∃ z, z = (G.2.2.2.2.2.2.2 (iv + 1).toNat).toInt := ⟨_, rfl⟩
  have r1 : -2147483648 ≤ a1 ∧ a1 < 2147483648 := by rw [e1]; exact xs_r _
  have b1 := lz_01 (v := a1)
  obtain ⟨a2, e2⟩ : ∃ z, z = (G.2.2.2.2.2.2.2 (iv + 2).toNat).toInt := ⟨_, rfl⟩
  have r2 : -2147483648 ≤ a2 ∧ a2 < 2147483648 := by rw [e2]; exact xs_r _
  obtain ⟨a3, e3⟩ : ∃ z, z = (G.2.2.2.2.2.2.2 (iv + 3).toNat).toInt := ⟨_, rfl⟩
  have r3 : -2147483648 ≤ a3 ∧ a3 < 2147483648 := by rw [e3]; exact xs_r _
  obtain ⟨a4, e4⟩ : ∃ z, z = (G.2.2.2.2.2.2.2 (iv + 4).toNat).toInt := ⟨_, rfl⟩
  have r4 : -2147483648 ≤ a4 ∧ a4 < 2147483648 := by rw [e4]; exact xs_r _
  have hR1 : sg_R (j + 1) (sp_phrase σ (lz a1) a2 a3 a4) := sr_phrase hR
  have h51a : (sp_phrase σ (lz a1) a2 a3 a4) 51 0 = σ 51 0 := by
    unfold sp_phrase
    (repeat' split) <;> simp [st]
  have hMC : ∀ f j, f < 43 → (sp_phrase σ (lz a1) a2 a3 a4) f j = (sp_phrase σ (lz a1) a2 a3 a4) f j := fun _ _ _ => rfl
  have hWM : md_wb 110000 (sp_phrase σ (lz a1) a2 a3 a4) := wb_of hR1.1 hMC
  obtain ⟨S, hS⟩ : ∃ S, S = sp_phrase σ (lz a1) a2 a3 a4 := ⟨_, rfl⟩
  have hMS : ∀ f j, f < 43 → (sp_phrase σ (lz a1) a2 a3 a4) f j = S f j := fun f j hf => (hMC f j hf).trans (by rw [hS])
  rw [← hS] at hR1 h51a
  have h00 : (sp_phrase σ (lz a1) a2 a3 a4) 0 0 = S 0 0 := hMS 0 0 (by decide)
  have w0 := wb0 hWM 0
  rw [h00] at w0
  have fin : am_W G X (mLh HH) 11 601024 7293034 Q 2080 (lwL iv (some (am_I (S 0 0))) (some (am_I (an_phrase σ (lz a1) a2 a3 a4)))) [] (en_h (sp_phrase σ (lz a1) a2 a3 a4) (lx_w S (an_phrase σ (lz a1) a2 a3 a4))) (kc + 4) (nc + 24) := by
    rw [en_m_ag (m := lx_w S (an_phrase σ (lz a1) a2 a3 a4)) (fun f j hf => (hMS f j hf).trans (lx_lo (by omega)).symm)]
    exact kk (lx_w S (an_phrase σ (lz a1) a2 a3 a4)) _ _ _ _ (sg_R_w hR1) (by rw [lx_lo (by decide)]; omega) (by rw [lx_lo (by decide)]; omega)
  refine am_aload_n eL_law_1695 rfl ?_
  refine lw_arg (a := a1) eL_law_1696 eL_law_1697 eL_law_1699 eL_law_1700 eL_law_1701 (by omega) (by omega) hL e1 ?_
  refine lw_bool eL_law_1702 eL_law_1705 eL_law_1706 eL_law_1709 r1 ?_
  refine lw_arg (a := a2) eL_law_1710 eL_law_1711 eL_law_1713 eL_law_1714 eL_law_1715 (by omega) (by omega) hL e2 ?_
  refine lw_arg (a := a3) eL_law_1716 eL_law_1717 eL_law_1719 eL_law_1720 eL_law_1721 (by omega) (by omega) hL e3 ?_
  refine lw_arg (a := a4) eL_law_1722 eL_law_1723 eL_law_1725 eL_law_1726 eL_law_1727 (by omega) (by omega) hL e4 ?_
  refine am_aload_n eL_law_1728 rfl ?_
  refine am_callSH (mc' := 4) (ms' := 24) eL_law_1729 kL_189 (c_L_phrase (c := S) (by rw [hS]; exact c_X8_phrase (m := σ) hW r2 r3 r4 b1 hD hN) (rg_phrase hW)) rfl rfl (by decide) (Nat.le_of_ble_eq_true rfl) (by simp) (by omega) (by omega) (fun r h' hq => ?_) (fun x h' hq => by obtain ⟨q1, -⟩ := hq; cases q1)
  obtain ⟨q1, rfl⟩ := hq
  cases q1
  refine am_steq (st' := [am_I (S 0 0)]) rfl ?_
  refine am_istore eL_law_1732 (Nat.le_of_ble_eq_true rfl) ?_
  refine am_lseq (ls' := lwL iv (some (am_I (S 0 0))) none) rfl ?_
  refine am_aload_n eL_law_1734 rfl ?_
  refine lw_arg (a := a1) eL_law_1735 eL_law_1736 eL_law_1738 eL_law_1739 eL_law_1740 (by omega) (by omega) hL e1 ?_
  refine lw_bool eL_law_1741 eL_law_1744 eL_law_1745 eL_law_1748 r1 ?_
  refine lw_arg (a := a2) eL_law_1749 eL_law_1750 eL_law_1752 eL_law_1753 eL_law_1754 (by omega) (by omega) hL e2 ?_
  refine lw_arg (a := a3) eL_law_1755 eL_law_1756 eL_law_1758 eL_law_1759 eL_law_1760 (by omega) (by omega) hL e3 ?_
  refine lw_arg (a := a4) eL_law_1761 eL_law_1762 eL_law_1764 eL_law_1765 eL_law_1766 (by omega) (by omega) hL e4 ?_
  refine am_cV eL_law_1767 kL_192 (c_X9_phrase (m := σ) (x := lx_w S (an_phrase σ (lz a1) a2 a3 a4)) hW r2 r3 r4 b1) rfl rfl en_9 (by decide) (by decide) (Nat.le_of_ble_eq_true rfl) (by omega) (by omega) ?_
  refine am_istore eL_law_1770 (Nat.le_of_ble_eq_true rfl) ?_
  refine am_lseq (ls' := lwL iv (some (am_I (S 0 0))) (some (am_I (an_phrase σ (lz a1) a2 a3 a4)))) rfl ?_
  refine am_aload_n eL_law_1772 rfl ?_
  refine am_cV eL_law_1773 kL_107 (c_X9_thrown (m := sp_phrase σ (lz a1) a2 a3 a4) (x := lx_w S (an_phrase σ (lz a1) a2 a3 a4)) hWM) rfl rfl en_9 (by decide) (by decide) (Nat.le_of_ble_eq_true rfl) (by omega) (by omega) ?_
  refine am_iload eL_law_1776 rfl ?_
  refine am_topI_ h00 ?_
  refine am_icmp_eq ⟨by omega, by omega⟩ ⟨by omega, by omega⟩ eL_law_1778 (fun _ => ?_) (fun z => absurd rfl z)
  refine am_iload eL_law_1783 rfl ?_
  refine am_if_ne ⟨by omega, by omega⟩ eL_law_1785 (fun _ => am_goto eL_law_1800 fin) (fun c1 => ?_)
  refine am_aload_n eL_law_1788 rfl ?_
  refine am_iconst eL_law_1789 ?_
  refine am_lald (len := 1) (x := (an_phrase σ (lz a1) a2 a3 a4)) eL_law_1790 en_98 (by decide) (by decide) (by decide) (congrArg am_J (lx_at c1)) ?_
  refine am_iload eL_law_1791 rfl ?_
  refine am_i2l (rg_phrase hW) eL_law_1793 ?_
  refine am_lcmp (rg_phrase hW) (rg_phrase hW) eL_law_1794 (fun z hz hf => ?_)
  exact am_if_eq hz eL_law_1795 (fun _ => am_goto eL_law_1800 fin) (fun c => absurd (hf.mpr rfl) c)
set_option maxRecDepth 100000 in
set_option maxHeartbeats 4000000 in
theorem law_c23 {HH : List (Nat × Nat × Nat × Nat)} {G : am_G} {X : am_X} {Q : State → Prop} {σ : sg_S} {j : Nat} {iv : Int} {kc nc : Nat} (hR : sg_R j σ) (hj : j < 512) (hi : iv = 5 * (j : Int)) (hL1 : iv + 4 < (G.2.2.2.2.2.2.1 : Int)) (hL : G.2.2.2.2.2.2.1 ≤ 2560) (hk : kc ≤ 100 + 20 * j + 2 * (σ 51 0).toNat) (hn : nc ≤ 50000 + 2400 * j + 66 * (σ 51 0).toNat)
    (kk : ∀ (σ' : sg_S) (l5 l6 : Option am_AV) (kc' nc' : Nat), sg_R (j + 1) σ' → kc' ≤ 100 + 20 * (j + 1) + 2 * (σ' 51 0).toNat → nc' ≤ 50000 + 2400 * (j + 1) + 66 * (σ' 51 0).toNat → am_W G X (mLh HH) 11 601024 7293034 Q 2080 (lwL iv l5 l6) [] (en_h σ' σ') kc' nc') : am_W G X (mLh HH) 11 601024 7293034 Q 1803 (lwL iv none none) [] (en_h σ σ) kc nc := by
  obtain ⟨hW, hT, h16, hJ⟩ := id hR
  obtain ⟨hP, hD, hB, hF, hU, hV, hN, h52⟩ := id hJ
  have h51 : 0 ≤ σ 51 0 := hD.1.1
  have hle := si_le hP
  obtain ⟨a1, e1⟩ : ∃ z, z = (G.2.2.2.2.2.2.2 (iv + 1).toNat).toInt := ⟨_, rfl⟩
  have r1 : -2147483648 ≤ a1 ∧ a1 < 2147483648 := by rw [e1]; exact xs_r _
  have b1 := lz_01 (v := a1)
  have hR1 : sg_R (j + 1) (sp_open σ (lz a1)) := sr_open hR
  have h51a : (sp_open σ (lz a1)) 51 0 = σ 51 0 := by
    unfold sp_open
    (repeat' split) <;> simp [st]
  have hMC : ∀ f j, f < 43 → (sp_open σ (lz a1)) f j = (sp_open σ (lz a1)) f j := fun _ _ _ => rfl
  have hWM : md_wb 110000 (sp_open σ (lz a1)) := wb_of hR1.1 hMC
  have fin : am_W G X (mLh HH) 11 601024 7293034 Q 2080 (lwL iv none none) [] (en_h (sp_open σ (lz a1)) (sp_open σ (lz a1))) kc nc := kk (sp_open σ (lz a1)) _ _ _ _ hR1 (by rw [h51a]; omega) (by rw [h51a]; omega)
  refine am_aload_n eL_law_1803 rfl ?_
  refine lw_arg (a := a1) eL_law_1804 eL_law_1805 eL_law_1807 eL_law_1808 eL_law_1809 (by omega) (by omega) hL e1 ?_
  refine lw_bool eL_law_1810 eL_law_1813 eL_law_1814 eL_law_1817 r1 ?_
  refine am_cV eL_law_1818 kL_193 (c_X8_open (m := σ) (x := σ) hW b1) rfl rfl en_c8 (by decide) (by decide) (Nat.le_of_ble_eq_true rfl) (by omega) (by omega) ?_
  refine am_aload_n eL_law_1821 rfl ?_
  refine lw_arg (a := a1) eL_law_1822 eL_law_1823 eL_law_1825 eL_law_1826 eL_law_1827 (by omega) (by omega) hL e1 ?_
  refine lw_bool eL_law_1828 eL_law_1831 eL_law_1832 eL_law_1835 r1 ?_
  refine am_cV eL_law_1836 kL_196 (c_X9_open (m := σ) (x := sp_open σ (lz a1)) hW b1) rfl rfl en_9 (by decide) (by decide) (Nat.le_of_ble_eq_true rfl) (by omega) (by omega) ?_
  exact am_icmp_eq (rg_open hW) (rg_open hW) eL_law_1839 (fun _ => fin) (fun z => absurd rfl z)
set_option maxRecDepth 100000 in
set_option maxHeartbeats 4000000 in
theorem law_c24 {HH : List (Nat × Nat × Nat × Nat)} {G : am_G} {X : am_X} {Q : State → Prop} {σ : sg_S} {j : Nat} {iv : Int} {kc nc : Nat} (hR : sg_R j σ) (hj : j < 512) (hi : iv = 5 * (j : Int)) (hL1 : iv + 4 < (G.2.2.2.2.2.2.1 : Int)) (hL : G.2.2.2.2.2.2.1 ≤ 2560) (hk : kc ≤ 100 + 20 * j + 2 * (σ 51 0).toNat) (hn : nc ≤ 50000 + 2400 * j + 66 * (σ 51 0).toNat)
    (kk : ∀ (σ' : sg_S) (l5 l6 : Option am_AV) (kc' nc' : Nat), sg_R (j + 1) σ' → kc' ≤ 100 + 20 * (j + 1) + 2 * (σ' 51 0).toNat → nc' ≤ 50000 + 2400 * (j + 1) + 66 * (σ' 51 0).toNat → am_W G X (mLh HH) 11 601024 7293034 Q 2080 (lwL iv l5 l6) [] (en_h σ' σ') kc' nc') : am_W G X (mLh HH) 11 601024 7293034 Q 1844 (lwL iv none none) [] (en_h σ σ) kc nc := by
  obtain ⟨hW, hT, h16, hJ⟩ := id hR
  obtain ⟨hP, hD, hB, hF, hU, hV, hN, h52⟩ := id hJ
  have h51 : 0 ≤ σ 51 0 := hD.1.1
  have hle := si_le hP
  obtain ⟨a1, e1⟩ : ∃ z, z = (G.2.2.2.2.2.2.2 (iv + 1).toNat).toInt := ⟨_, rfl⟩
  have r1 : -2147483648 ≤ a1 ∧ a1 < 2147483648 := by rw [e1]; exact xs_r _
  have hR1 : sg_R (j + 1) (sp_seen σ a1) := sr_seen hR
  have h51a : (sp_seen σ a1) 51 0 = σ 51 0 := by
    unfold sp_seen
    (repeat' split) <;> simp [st]
  have hMC : ∀ f j, f < 43 → (sp_seen σ a1) f j = (sp_seen σ a1) f j := fun _ _ _ => rfl
  have hWM : md_wb 110000 (sp_seen σ a1) := wb_of hR1.1 hMC
  obtain ⟨S, hS⟩ : ∃ S, S = sp_seen σ a1 := ⟨_, rfl⟩
  have hMS : ∀ f j, f < 43 → (sp_seen σ a1) f j = S f j := fun f j hf => (hMC f j hf).trans (by rw [hS])
  rw [← hS] at hR1 h51a
  have h00 : (sp_seen σ a1) 0 0 = S 0 0 := hMS 0 0 (by decide)
  have w0 := wb0 hWM 0
  rw [h00] at w0
  have fin : am_W G X (mLh HH) 11 601024 7293034 Q 2080 (lwL iv (some (am_I (S 0 0))) (some (am_I (an_seen σ a1)))) [] (en_h (sp_seen σ a1) (lx_w S (an_seen σ a1))) (kc + 4) (nc + 24) := by
    rw [en_m_ag (m := lx_w S (an_seen σ a1)) (fun f j hf => (hMS f j hf).trans (lx_lo (by omega)).symm)]
    exact kk (lx_w S (an_seen σ a1)) _ _ _ _ (sg_R_w hR1) (by rw [lx_lo (by decide)]; omega) (by rw [lx_lo (by decide)]; omega)
  refine am_aload_n eL_law_1844 rfl ?_
  refine lw_arg (a := a1) eL_law_1845 eL_law_1846 eL_law_1848 eL_law_1849 eL_law_1850 (by omega) (by omega) hL e1 ?_
  refine am_aload_n eL_law_1851 rfl ?_
  refine am_callSH (mc' := 4) (ms' := 24) eL_law_1852 kL_197 (c_L_seen (c := S) (by rw [hS]; exact c_X8_seen (m := σ) hW r1) (rg_seen hW)) rfl rfl (by decide) (Nat.le_of_ble_eq_true rfl) (by simp) (by omega) (by omega) (fun r h' hq => ?_) (fun x h' hq => by obtain ⟨q1, -⟩ := hq; cases q1)
  obtain ⟨q1, rfl⟩ := hq
  cases q1
  refine am_steq (st' := [am_I (S 0 0)]) rfl ?_
  refine am_istore eL_law_1855 (Nat.le_of_ble_eq_true rfl) ?_
  refine am_lseq (ls' := lwL iv (some (am_I (S 0 0))) none) rfl ?_
  refine am_aload_n eL_law_1857 rfl ?_
  refine lw_arg (a := a1) eL_law_1858 eL_law_1859 eL_law_1861 eL_law_1862 eL_law_1863 (by omega) (by omega) hL e1 ?_
  refine am_cV eL_law_1864 kL_199 (c_X9_seen (m := σ) (x := lx_w S (an_seen σ a1)) hW r1) rfl rfl en_9 (by decide) (by decide) (Nat.le_of_ble_eq_true rfl) (by omega) (by omega) ?_
  refine am_istore eL_law_1867 (Nat.le_of_ble_eq_true rfl) ?_
  refine am_lseq (ls' := lwL iv (some (am_I (S 0 0))) (some (am_I (an_seen σ a1)))) rfl ?_
  refine am_aload_n eL_law_1869 rfl ?_
  refine am_cV eL_law_1870 kL_107 (c_X9_thrown (m := sp_seen σ a1) (x := lx_w S (an_seen σ a1)) hWM) rfl rfl en_9 (by decide) (by decide) (Nat.le_of_ble_eq_true rfl) (by omega) (by omega) ?_
  refine am_iload eL_law_1873 rfl ?_
  refine am_topI_ h00 ?_
  refine am_icmp_eq ⟨by omega, by omega⟩ ⟨by omega, by omega⟩ eL_law_1875 (fun _ => ?_) (fun z => absurd rfl z)
  refine am_iload eL_law_1880 rfl ?_
  refine am_if_ne ⟨by omega, by omega⟩ eL_law_1882 (fun _ => am_goto eL_law_1897 fin) (fun c1 => ?_)
  refine am_aload_n eL_law_1885 rfl ?_
  refine am_iconst eL_law_1886 ?_
  refine am_lald (len := 1) (x := (an_seen σ a1)) eL_law_1887 en_98 (by decide) (by decide) (by decide) (congrArg am_J (lx_at c1)) ?_
  refine am_iload eL_law_1888 rfl ?_
  refine am_i2l (rg_seen hW) eL_law_1890 ?_
  refine am_lcmp (rg_seen hW) (rg_seen hW) eL_law_1891 (fun z hz hf => ?_)
  exact am_if_eq hz eL_law_1892 (fun _ => am_goto eL_law_1897 fin) (fun c => absurd (hf.mpr rfl) c)
set_option maxRecDepth 100000 in
set_option maxHeartbeats 4000000 in
theorem law_c25 {HH : List (Nat × Nat × Nat × Nat)} {G : am_G} {X : am_X} {Q : State → Prop} {σ : sg_S} {j : Nat} {iv : Int} {kc nc : Nat} (hR : sg_R j σ) (hj : j < 512) (hi : iv = 5 * (j : Int)) (hL1 : iv + 4 < (G.2.2.2.2.2.2.1 : Int)) (hL : G.2.2.2.2.2.2.1 ≤ 2560) (hk : kc ≤ 100 + 20 * j + 2 * (σ 51 0).toNat) (hn : nc ≤ 50000 + 2400 * j + 66 * (σ 51 0).toNat)
    (kk : ∀ (σ' : sg_S) (l5 l6 : Option am_AV) (kc' nc' : Nat), sg_R (j + 1) σ' → kc' ≤ 100 + 20 * (j + 1) + 2 * (σ' 51 0).toNat → nc' ≤ 50000 + 2400 * (j + 1) + 66 * (σ' 51 0).toNat → am_W G X (mLh HH) 11 601024 7293034 Q 2080 (lwL iv l5 l6) [] (en_h σ' σ') kc' nc') : am_W G X (mLh HH) 11 601024 7293034 Q 1900 (lwL iv none none) [] (en_h σ σ) kc nc := by
  obtain ⟨hW, hT, h16, hJ⟩ := id hR
  obtain ⟨hP, hD, hB, hF, hU, hV, hN, h52⟩ := id hJ
  have h51 : 0 ≤ σ 51 0 := hD.1.1
  have hle := si_le hP
  obtain ⟨a1, e1⟩ : ∃ z, z = (G.2.2.2.2.2.2.2 (iv + 1).toNat).toInt := ⟨_, rfl⟩
  have r1 : -2147483648 ≤ a1 ∧ a1 < 2147483648 := by rw [e1]; exact xs_r _
  obtain ⟨a2, e2⟩ : ∃ z, z = (G.2.2.2.2.2.2.2 (iv + 2).toNat).toInt := ⟨_, rfl⟩
  have r2 : -2147483648 ≤ a2 ∧ a2 < 2147483648 := by rw [e2]; exact xs_r _
  have hR1 : sg_R (j + 1) (sp_tries σ a1 a2) := sr_tries hR
  have h51a : (sp_tries σ a1 a2) 51 0 = σ 51 0 := by
    unfold sp_tries
    (repeat' split) <;> simp [st]
  have hMC : ∀ f j, f < 43 → (sp_tries σ a1 a2) f j = (sp_tries σ a1 a2) f j := fun _ _ _ => rfl
  have hWM : md_wb 110000 (sp_tries σ a1 a2) := wb_of hR1.1 hMC
  obtain ⟨S, hS⟩ : ∃ S, S = sp_tries σ a1 a2 := ⟨_, rfl⟩
  have hMS : ∀ f j, f < 43 → (sp_tries σ a1 a2) f j = S f j := fun f j hf => (hMC f j hf).trans (by rw [hS])
  rw [← hS] at hR1 h51a
  have h00 : (sp_tries σ a1 a2) 0 0 = S 0 0 := hMS 0 0 (by decide)
  have w0 := wb0 hWM 0
  rw [h00] at w0
  have fin : am_W G X (mLh HH) 11 601024 7293034 Q 2080 (lwL iv (some (am_I (S 0 0))) (some (am_I (an_tries σ a1 a2)))) [] (en_h (sp_tries σ a1 a2) (lx_w S (an_tries σ a1 a2))) (kc + 4) (nc + 24) := by
    rw [en_m_ag (m := lx_w S (an_tries σ a1 a2)) (fun f j hf => (hMS f j hf).trans (lx_lo (by omega)).symm)]
    exact kk (lx_w S (an_tries σ a1 a2)) _ _ _ _ (sg_R_w hR1) (by rw [lx_lo (by decide)]; omega) (by rw [lx_lo (by decide)]; omega)
  refine am_aload_n eL_law_1900 rfl ?_
  refine lw_arg (a := a1) eL_law_1901 eL_law_1902 eL_law_1904 eL_law_1905 eL_law_1906 (by omega) (by omega) hL e1 ?_
  refine lw_arg (a := a2) eL_law_1907 eL_law_1908 eL_law_1910 eL_law_1911 eL_law_1912 (by omega) (by omega) hL e2 ?_
  refine am_aload_n eL_law_1913 rfl ?_
  refine am_callSH (mc' := 4) (ms' := 24) eL_law_1914 kL_200 (c_L_tries (c := S) (by rw [hS]; exact c_X8_tries (m := σ) hW r1 r2 hN) (rg_tries hW)) rfl rfl (by decide) (Nat.le_of_ble_eq_true rfl) (by simp) (by omega) (by omega) (fun r h' hq => ?_) (fun x h' hq => by obtain ⟨q1, -⟩ := hq; cases q1)
  obtain ⟨q1, rfl⟩ := hq
  cases q1
  refine am_steq (st' := [am_I (S 0 0)]) rfl ?_
  refine am_istore eL_law_1917 (Nat.le_of_ble_eq_true rfl) ?_
  refine am_lseq (ls' := lwL iv (some (am_I (S 0 0))) none) rfl ?_
  refine am_aload_n eL_law_1919 rfl ?_
  refine lw_arg (a := a1) eL_law_1920 eL_law_1921 eL_law_1923 eL_law_1924 eL_law_1925 (by omega) (by omega) hL e1 ?_
  refine lw_arg (a := a2) eL_law_1926 eL_law_1927 eL_law_1929 eL_law_1930 eL_law_1931 (by omega) (by omega) hL e2 ?_
  refine am_cV eL_law_1932 kL_202 (c_X9_tries (m := σ) (x := lx_w S (an_tries σ a1 a2)) hW r1 r2) rfl rfl en_9 (by decide) (by decide) (Nat.le_of_ble_eq_true rfl) (by omega) (by omega) ?_
  refine am_istore eL_law_1935 (Nat.le_of_ble_eq_true rfl) ?_
  refine am_lseq (ls' := lwL iv (some (am_I (S 0 0))) (some (am_I (an_tries σ a1 a2)))) rfl ?_
  refine am_aload_n eL_law_1937 rfl ?_
  refine am_cV eL_law_1938 kL_107 (c_X9_thrown (m := sp_tries σ a1 a2) (x := lx_w S (an_tries σ a1 a2)) hWM) rfl rfl en_9 (by decide) (by decide) (Nat.le_of_ble_eq_true rfl) (by omega) (by omega) ?_
  refine am_iload eL_law_1941 rfl ?_
  refine am_topI_ h00 ?_
  refine am_icmp_eq ⟨by omega, by omega⟩ ⟨by omega, by omega⟩ eL_law_1943 (fun _ => ?_) (fun z => absurd rfl z)
  refine am_iload eL_law_1948 rfl ?_
  refine am_if_ne ⟨by omega, by omega⟩ eL_law_1950 (fun _ => am_goto eL_law_1965 fin) (fun c1 => ?_)
  refine am_aload_n eL_law_1953 rfl ?_
  refine am_iconst eL_law_1954 ?_
  refine am_lald (len := 1) (x := (an_tries σ a1 a2)) eL_law_1955 en_98 (by decide) (by decide) (by decide) (congrArg am_J (lx_at c1)) ?_
  refine am_iload eL_law_1956 rfl ?_
  refine am_i2l (rg_tries hW) eL_law_1958 ?_
  refine am_lcmp (rg_tries hW) (rg_tries hW) eL_law_1959 (fun z hz hf => ?_)
  exact am_if_eq hz eL_law_1960 (fun _ => am_goto eL_law_1965 fin) (fun c => absurd (hf.mpr rfl) c)
set_option maxRecDepth 100000 in
set_option maxHeartbeats 4000000 in
theorem law_c26 {HH : List (Nat × Nat × Nat × Nat)} {G : am_G} {X : am_X} {Q : State → Prop} {σ : sg_S} {j : Nat} {iv : Int} {kc nc : Nat} (hR : sg_R j σ) (hj : j < 512) (hi : iv = 5 * (j : Int)) (hL1 : iv + 4 < (G.2.2.2.2.2.2.1 : Int)) (hL : G.2.2.2.2.2.2.1 ≤ 2560) (hk : kc ≤ 100 + 20 * j + 2 * (σ 51 0).toNat) (hn : nc ≤ 50000 + 2400 * j + 66 * (σ 51 0).toNat)
    (kk : ∀ (σ' : sg_S) (l5 l6 : Option am_AV) (kc' nc' : Nat), sg_R (j + 1) σ' → kc' ≤ 100 + 20 * (j + 1) + 2 * (σ' 51 0).toNat → nc' ≤ 50000 + 2400 * (j + 1) + 66 * (σ' 51 0).toNat → am_W G X (mLh HH) 11 601024 7293034 Q 2080 (lwL iv l5 l6) [] (en_h σ' σ') kc' nc') : am_W G X (mLh HH) 11 601024 7293034 Q 1968 (lwL iv none none) [] (en_h σ σ) kc nc := by
  obtain ⟨hW, hT, h16, hJ⟩ := id hR
  obtain ⟨hP, hD, hB, hF, hU, hV, hN, h52⟩ := id hJ
  have h51 : 0 ≤ σ 51 0 := hD.1.1
  have hle := si_le hP
  obtain ⟨a1, e1⟩ : ∃ z, z = (G.2.2.2.2.2.2.2 (iv + 1).toNat).toInt := ⟨_, rfl⟩
  have r1 : -2147483648 ≤ a1 ∧ a1 < 2147483648 := by rw [e1]; exact xs_r _
  have hR1 : sg_R (j + 1) (sp_comes σ a1) := sr_comes hR
  have h51a : (sp_comes σ a1) 51 0 = σ 51 0 := by
    unfold sp_comes
    (repeat' split) <;> simp [st]
  have hMC : ∀ f j, f < 43 → (sp_comes σ a1) f j = (sp_comes σ a1) f j := fun _ _ _ => rfl
  have hWM : md_wb 110000 (sp_comes σ a1) := wb_of hR1.1 hMC
  obtain ⟨S, hS⟩ : ∃ S, S = sp_comes σ a1 := ⟨_, rfl⟩
  have hMS : ∀ f j, f < 43 → (sp_comes σ a1) f j = S f j := fun f j hf => (hMC f j hf).trans (by rw [hS])
  rw [← hS] at hR1 h51a
  have h00 : (sp_comes σ a1) 0 0 = S 0 0 := hMS 0 0 (by decide)
  have w0 := wb0 hWM 0
  rw [h00] at w0
  have fin : am_W G X (mLh HH) 11 601024 7293034 Q 2080 (lwL iv (some (am_I (S 0 0))) (some (am_I (an_comes σ a1)))) [] (en_h (sp_comes σ a1) (lx_w S (an_comes σ a1))) (kc + 4) (nc + 24) := by
    rw [en_m_ag (m := lx_w S (an_comes σ a1)) (fun f j hf => (hMS f j hf).trans (lx_lo (by omega)).symm)]
    exact kk (lx_w S (an_comes σ a1)) _ _ _ _ (sg_R_w hR1) (by rw [lx_lo (by decide)]; omega) (by rw [lx_lo (by decide)]; omega)
  refine am_aload_n eL_law_1968 rfl ?_
  refine lw_arg (a := a1) eL_law_1969 eL_law_1970 eL_law_1972 eL_law_1973 eL_law_1974 (by omega) (by omega) hL e1 ?_
  refine am_aload_n eL_law_1975 rfl ?_
  refine am_callSH (mc' := 4) (ms' := 24) eL_law_1976 kL_203 (c_L_comes (c := S) (by rw [hS]; exact c_X8_comes (m := σ) hW r1) (rg_comes hW)) rfl rfl (by decide) (Nat.le_of_ble_eq_true rfl) (by simp) (by omega) (by omega) (fun r h' hq => ?_) (fun x h' hq => by obtain ⟨q1, -⟩ := hq; cases q1)
  obtain ⟨q1, rfl⟩ := hq
  cases q1
  refine am_steq (st' := [am_I (S 0 0)]) rfl ?_
  refine am_istore eL_law_1979 (Nat.le_of_ble_eq_true rfl) ?_
  refine am_lseq (ls' := lwL iv (some (am_I (S 0 0))) none) rfl ?_
  refine am_aload_n eL_law_1981 rfl ?_
  refine lw_arg (a := a1) eL_law_1982 eL_law_1983 eL_law_1985 eL_law_1986 eL_law_1987 (by omega) (by omega) hL e1 ?_
  refine am_cV eL_law_1988 kL_205 (c_X9_comes (m := σ) (x := lx_w S (an_comes σ a1)) hW r1) rfl rfl en_9 (by decide) (by decide) (Nat.le_of_ble_eq_true rfl) (by omega) (by omega) ?_
  refine am_istore eL_law_1991 (Nat.le_of_ble_eq_true rfl) ?_
  refine am_lseq (ls' := lwL iv (some (am_I (S 0 0))) (some (am_I (an_comes σ a1)))) rfl ?_
  refine am_aload_n eL_law_1993 rfl ?_
  refine am_cV eL_law_1994 kL_107 (c_X9_thrown (m := sp_comes σ a1) (x := lx_w S (an_comes σ a1)) hWM) rfl rfl en_9 (by decide) (by decide) (Nat.le_of_ble_eq_true rfl) (by omega) (by omega) ?_
  refine am_iload eL_law_1997 rfl ?_
  refine am_topI_ h00 ?_
  refine am_icmp_eq ⟨by omega, by omega⟩ ⟨by omega, by omega⟩ eL_law_1999 (fun _ => ?_) (fun z => absurd rfl z)
  refine am_iload eL_law_2004 rfl ?_
  refine am_if_ne ⟨by omega, by omega⟩ eL_law_2006 (fun _ => am_goto eL_law_2021 fin) (fun c1 => ?_)
  refine am_aload_n eL_law_2009 rfl ?_
  refine am_iconst eL_law_2010 ?_
  refine am_lald (len := 1) (x := (an_comes σ a1)) eL_law_2011 en_98 (by decide) (by decide) (by decide) (congrArg am_J (lx_at c1)) ?_
  refine am_iload eL_law_2012 rfl ?_
  refine am_i2l (rg_comes hW) eL_law_2014 ?_
  refine am_lcmp (rg_comes hW) (rg_comes hW) eL_law_2015 (fun z hz hf => ?_)
  exact am_if_eq hz eL_law_2016 (fun _ => am_goto eL_law_2021 fin) (fun c => absurd (hf.mpr rfl) c)
set_option maxRecDepth 100000 in
set_option maxHeartbeats 4000000 in
theorem law_c27 {HH : List (Nat × Nat × Nat × Nat)} {G : am_G} {X : am_X} {Q : State → Prop} {σ : sg_S} {j : Nat} {iv : Int} {kc nc : Nat} (hR : sg_R j σ) (hj : j < 512) (hi : iv = 5 * (j : Int)) (hL1 : iv + 4 < (G.2.2.2.2.2.2.1 : Int)) (hL : G.2.2.2.2.2.2.1 ≤ 2560) (hk : kc ≤ 100 + 20 * j + 2 * (σ 51 0).toNat) (hn : nc ≤ 50000 + 2400 * j + 66 * (σ 51 0).toNat)
    (kk : ∀ (σ' : sg_S) (l5 l6 : Option am_AV) (kc' nc' : Nat), sg_R (j + 1) σ' → kc' ≤ 100 + 20 * (j + 1) + 2 * (σ' 51 0).toNat → nc' ≤ 50000 + 2400 * (j + 1) + 66 * (σ' 51 0).toNat → am_W G X (mLh HH) 11 601024 7293034 Q 2080 (lwL iv l5 l6) [] (en_h σ' σ') kc' nc') : am_W G X (mLh HH) 11 601024 7293034 Q 2024 (lwL iv none none) [] (en_h σ σ) kc nc := by
  obtain ⟨hW, hT, h16, hJ⟩ := id hR
  obtain ⟨hP, hD, hB, hF, hU, hV, hN, h52⟩ := id hJ
  have h51 : 0 ≤ σ 51 0 := hD.1.1
  have hle := si_le hP
  obtain ⟨a1, e1⟩ : ∃ z, z = (G.2.2.2.2.2.2.2 (iv + 1).toNat).toInt := ⟨_, rfl⟩
  have r1 : -2147483648 ≤ a1 ∧ a1 < 2147483648 := by rw [e1]; exact xs_r _
  have hR1 : sg_R (j + 1) (bs_anew σ a1) := sr_anew hR
  have h51a : (bs_anew σ a1) 51 0 = σ 51 0 := by
    unfold bs_anew bs_trial
    (repeat' split) <;> simp [st]
  have hMC : ∀ f j, f < 43 → (sp_comesAnew σ a1) f j = (bs_anew σ a1) f j := fun f j hf => by
    unfold bs_anew sp_comesAnew bs_trial
    by_cases c : ¬ (1 ≤ a1 ∧ a1 ≤ 99)
    · rw [if_pos c, if_pos c]
    · rw [if_neg c, if_neg c]
      split
      · rfl
      · rw [st_nf (f := 52) (by omega), st_nf (f := 54) (by omega), st_nf (f := 53) (by omega)]
  have hWM : md_wb 110000 (sp_comesAnew σ a1) := wb_of hR1.1 hMC
  obtain ⟨S, hS⟩ : ∃ S, S = bs_anew σ a1 := ⟨_, rfl⟩
  have hMS : ∀ f j, f < 43 → (sp_comesAnew σ a1) f j = S f j := fun f j hf => (hMC f j hf).trans (by rw [hS])
  rw [← hS] at hR1 h51a
  have h00 : (sp_comesAnew σ a1) 0 0 = S 0 0 := hMS 0 0 (by decide)
  have w0 := wb0 hWM 0
  rw [h00] at w0
  have fin : am_W G X (mLh HH) 11 601024 7293034 Q 2080 (lwL iv (some (am_I (S 0 0))) (some (am_I (an_comesAnew σ a1)))) [] (en_h (sp_comesAnew σ a1) (lx_w S (an_comesAnew σ a1))) (kc + 4) (nc + 24) := by
    rw [en_m_ag (m := lx_w S (an_comesAnew σ a1)) (fun f j hf => (hMS f j hf).trans (lx_lo (by omega)).symm)]
    exact kk (lx_w S (an_comesAnew σ a1)) _ _ _ _ (sg_R_w hR1) (by rw [lx_lo (by decide)]; omega) (by rw [lx_lo (by decide)]; omega)
  refine am_aload_n eL_law_2024 rfl ?_
  refine lw_arg (a := a1) eL_law_2025 eL_law_2026 eL_law_2028 eL_law_2029 eL_law_2030 (by omega) (by omega) hL e1 ?_
  refine am_aload_n eL_law_2031 rfl ?_
  have hC := c_X8_comesAnew (G := G) (m := σ) hW h52 (a := a1) r1
  rw [h00, ← hS] at hC
  refine am_callSH (mc' := 4) (ms' := 24) eL_law_2032 kL_206 (c_L_comesAnew (c := S) hC (rg_comesAnew hW)) rfl rfl (by decide) (Nat.le_of_ble_eq_true rfl) (by simp) (by omega) (by omega) (fun r h' hq => ?_) (fun x h' hq => by obtain ⟨q1, -⟩ := hq; cases q1)
  obtain ⟨q1, rfl⟩ := hq
  cases q1
  refine am_steq (st' := [am_I (S 0 0)]) rfl ?_
  refine am_istore eL_law_2035 (Nat.le_of_ble_eq_true rfl) ?_
  refine am_lseq (ls' := lwL iv (some (am_I (S 0 0))) none) rfl ?_
  refine am_aload_n eL_law_2037 rfl ?_
  refine lw_arg (a := a1) eL_law_2038 eL_law_2039 eL_law_2041 eL_law_2042 eL_law_2043 (by omega) (by omega) hL e1 ?_
  refine am_cV eL_law_2044 kL_208 (c_X9_comesAnew (m := σ) (x := lx_w S (an_comesAnew σ a1)) hW r1) rfl rfl en_9 (by decide) (by decide) (Nat.le_of_ble_eq_true rfl) (by omega) (by omega) ?_
  refine am_istore eL_law_2047 (Nat.le_of_ble_eq_true rfl) ?_
  refine am_lseq (ls' := lwL iv (some (am_I (S 0 0))) (some (am_I (an_comesAnew σ a1)))) rfl ?_
  refine am_aload_n eL_law_2049 rfl ?_
  refine am_cV eL_law_2050 kL_107 (c_X9_thrown (m := sp_comesAnew σ a1) (x := lx_w S (an_comesAnew σ a1)) hWM) rfl rfl en_9 (by decide) (by decide) (Nat.le_of_ble_eq_true rfl) (by omega) (by omega) ?_
  refine am_iload eL_law_2053 rfl ?_
  refine am_topI_ h00 ?_
  refine am_icmp_eq ⟨by omega, by omega⟩ ⟨by omega, by omega⟩ eL_law_2055 (fun _ => ?_) (fun z => absurd rfl z)
  refine am_iload eL_law_2060 rfl ?_
  refine am_if_ne ⟨by omega, by omega⟩ eL_law_2062 (fun _ => am_goto eL_law_2077 fin) (fun c1 => ?_)
  refine am_aload_n eL_law_2065 rfl ?_
  refine am_iconst eL_law_2066 ?_
  refine am_lald (len := 1) (x := (an_comesAnew σ a1)) eL_law_2067 en_98 (by decide) (by decide) (by decide) (congrArg am_J (lx_at c1)) ?_
  refine am_iload eL_law_2068 rfl ?_
  refine am_i2l (rg_comesAnew hW) eL_law_2070 ?_
  refine am_lcmp (rg_comesAnew hW) (rg_comesAnew hW) eL_law_2071 (fun z hz hf => ?_)
  exact am_if_eq hz eL_law_2072 (fun _ => am_goto eL_law_2077 fin) (fun c => absurd (hf.mpr rfl) c)
