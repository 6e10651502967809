/-! ===== the law's cases ===== -/
theorem la_round {Γ : gam} {Q : qp} {σ : sto} {n b a L m cells slots : Nat} {xs : row} {x5 x6 x7 : Option Value} (hI : LI Γ σ n b a L xs) (hL : 6 * m + 6 ≤ L) (hL2 : L ≤ 3072) (hc : cells + 910 ≤ 601024) (hs : slots + 12700 ≤ 7293034) (kk : ∀ σ' n' y5 y6 y7, LI Γ σ' n' b a L xs → Go Γ RL1 uL_law Q (cells + 910) (slots + 12700) 2749 [some (.ref b), some (.ref a), some (.ref (a + 114)), some (.ref (a + 131)), some (.int (nI (6 * m))), y5, y6, y7] [] σ' n') : Go Γ RL1 uL_law Q cells slots 1652 [some (.ref b), some (.ref a), some (.ref (a + 114)), some (.ref (a + 131)), some (.int (nI (6 * m))), x5, x6, x7] [] σ n := by
  obtain ⟨ro, F, K, G, im, A, Nm, KI, hN, hR⟩ := hI
  have hb := hN.2.1
  have hG : GK K := hN.2.2.2.2.2.1
  have hT : okT (A 14) (A 15) := hN.2.2.2.2.2.2.2.2.2.1
  refine go_aload_n (pc := 1652) dL_law_1652 rfl ?_
  refine go_aload_n (pc := 1653) dL_law_1653 rfl ?_
  refine go_iload (pc := 1654) dL_law_1654 rfl ?_
  refine go_iconst (v := 1) (pc := 1656) dL_law_1656 (by decide) ?_
  refine go_iadd (pc := 1657) dL_law_1657 ?_
  refine go_iaB (hN := (by omega)) (pc := 1658) dL_law_1658 hb (by exact ⟨nI_add _ 1, by omega⟩) ?_
  refine go_aload_n (pc := 1659) dL_law_1659 rfl ?_
  refine go_WI (As := [.ref a, .int _, .ref (a + 131)]) (rest := []) (pc := 1660) s_L_221 rfl rfl rfl dL_law_1660 (wq_round (k := 2000) hN hR.1 (by decide) _) ⟨Nat.le_of_ble_eq_true rfl, Nat.le_of_ble_eq_true rfl⟩ ⟨by show cells + 4 ≤ 601024; omega, by show slots + 24 ≤ 7293034; omega⟩ (Nat.le_of_ble_eq_true rfl) (fun r9 σ1 n1 hQ => ?_)
  have hb := hQ.2.2.1.2.1
  clear hN
  refine go_istore (lw := [_, _, _, _, _, _, _, _]) (pc := 1663) dL_law_1663 (by decide) rfl ?_
  refine go_aload_n (pc := 1665) dL_law_1665 rfl ?_
  refine go_aload_n (pc := 1666) dL_law_1666 rfl ?_
  refine go_iload (pc := 1667) dL_law_1667 rfl ?_
  refine go_iconst (v := 1) (pc := 1669) dL_law_1669 (by decide) ?_
  refine go_iadd (pc := 1670) dL_law_1670 ?_
  refine go_iaB (hN := (by omega)) (pc := 1671) dL_law_1671 hb (by exact ⟨nI_add _ 1, by omega⟩) ?_
  refine go_V1I (pc := 1672) v_L_223 rfl rfl (rcv_of (ci := 8) hQ.2.2.2.2.1 rfl) dL_law_1672 (sp_round (k := 2000) hQ.2.2.2.2 (by decide) hG.1 hG.2.1.1 _) (fun v_1672 σ n h => ?_) (hR := ⟨Nat.le_of_ble_eq_true rfl, Nat.le_of_ble_eq_true rfl⟩) (hC := ⟨by show cells + 4 + 0 ≤ 601024; omega, by show slots + 24 + 0 ≤ 7293034; omega⟩)
  obtain ⟨hv, hJ⟩ := h
  obtain ⟨rfl, hI2, ⟨F2, A2, hM2, hF4⟩, fo, ho2, hv2⟩ := la_r hR hQ rfl rfl rfl hJ
  refine go_istore (lw := [_, _, _, _, _, _, _, _]) (pc := 1675) dL_law_1675 (by decide) rfl ?_
  refine go_aload_n (pc := 1677) dL_law_1677 rfl ?_
  refine go_V0P (pc := 1678) v_L_145 rfl rfl (rcv_of (ci := 8) hM2.1 rfl) dL_law_1678 (sp_thrown (k := 2000) hM2) ?_ (hR := ⟨Nat.le_of_ble_eq_true rfl, Nat.le_of_ble_eq_true rfl⟩) (hC := ⟨by show cells + 4 + 0 + 0 ≤ 601024; omega, by show slots + 24 + 0 + 0 ≤ 7293034; omega⟩)
  refine go_iload (pc := 1681) dL_law_1681 rfl ?_
  refine go_icmp_eq (tgt := 1688) (pc := 1683) dL_law_1683 (by decide) (fun h_1683 => ?_) (fun h_1683 => by exfalso; first | exact h_1683 hF4 | exact h_1683 hF4.symm)
  refine go_iload (pc := 1688) dL_law_1688 rfl ?_
  refine go_if_ne (tgt := 1705) (pc := 1690) dL_law_1690 (by decide) (fun h_1690 => ?_) (fun h_1690 => ?_)
  · refine go_goto (tgt := 2749) (pc := 1705) dL_law_1705 (by decide) ?_
    exact go_wide (c2 := cells + 910) (s2 := slots + 12700) (by show cells + 4 + 0 + 0 ≤ cells + 910; omega) (by show slots + 24 + 0 + 0 ≤ slots + 12700; omega) (kk _ _ _ _ _ hI2)
  · refine go_aload_n (pc := 1693) dL_law_1693 rfl ?_
    refine go_iconst (v := 0) (pc := 1694) dL_law_1694 (by decide) ?_
    refine go_lald (j := 0) (pc := 1695) dL_law_1695 ho2 (by exact ⟨rfl, by decide⟩) ?_
    refine go_iload (pc := 1696) dL_law_1696 rfl ?_
    refine go_i2l (pc := 1698) dL_law_1698 ?_
    refine go_lcmp (pc := 1699) dL_law_1699 ?_
    refine go_if_eq (tgt := 1705) (pc := 1700) dL_law_1700 (by decide) (fun h_1700 => ?_) (fun h_1700 => by exfalso; (have e0 : r9 = 0 := by first | exact h_1690 | exact Decidable.byContradiction h_1690); (have e : fo 0 = v_1672.toInt64 := by rw [hv]; exact hv2 e0); (simp only [lg_cmp_eq] at h_1700); exact h_1700 e)
    refine go_goto (tgt := 2749) (pc := 1705) dL_law_1705 (by decide) ?_
    exact go_wide (c2 := cells + 910) (s2 := slots + 12700) (by show cells + 4 + 0 + 0 ≤ cells + 910; omega) (by show slots + 24 + 0 + 0 ≤ slots + 12700; omega) (kk _ _ _ _ _ hI2)
theorem la_hands {Γ : gam} {Q : qp} {σ : sto} {n b a L m cells slots : Nat} {xs : row} {x5 x6 x7 : Option Value} (hI : LI Γ σ n b a L xs) (hL : 6 * m + 6 ≤ L) (hL2 : L ≤ 3072) (hc : cells + 910 ≤ 601024) (hs : slots + 12700 ≤ 7293034) (kk : ∀ σ' n' y5 y6 y7, LI Γ σ' n' b a L xs → Go Γ RL1 uL_law Q (cells + 910) (slots + 12700) 2749 [some (.ref b), some (.ref a), some (.ref (a + 114)), some (.ref (a + 131)), some (.int (nI (6 * m))), y5, y6, y7] [] σ' n') : Go Γ RL1 uL_law Q cells slots 1721 [some (.ref b), some (.ref a), some (.ref (a + 114)), some (.ref (a + 131)), some (.int (nI (6 * m))), x5, x6, x7] [] σ n := by
  obtain ⟨ro, F, K, G, im, A, Nm, KI, hN, hR⟩ := hI
  have hb := hN.2.1
  have hG : GK K := hN.2.2.2.2.2.1
  have hT : okT (A 14) (A 15) := hN.2.2.2.2.2.2.2.2.2.1
  refine go_aload_n (pc := 1721) dL_law_1721 rfl ?_
  refine go_aload_n (pc := 1722) dL_law_1722 rfl ?_
  refine go_iload (pc := 1723) dL_law_1723 rfl ?_
  refine go_iconst (v := 1) (pc := 1725) dL_law_1725 (by decide) ?_
  refine go_iadd (pc := 1726) dL_law_1726 ?_
  refine go_iaB (hN := (by omega)) (pc := 1727) dL_law_1727 hb (by exact ⟨nI_add _ 1, by omega⟩) ?_
  refine go_aload_n (pc := 1728) dL_law_1728 rfl ?_
  refine go_iload (pc := 1729) dL_law_1729 rfl ?_
  refine go_iconst (v := 2) (pc := 1731) dL_law_1731 (by decide) ?_
  refine go_iadd (pc := 1732) dL_law_1732 ?_
  refine go_iaB (hN := (by omega)) (pc := 1733) dL_law_1733 hb (by exact ⟨nI_add _ 2, by omega⟩) ?_
  refine go_aload_n (pc := 1734) dL_law_1734 rfl ?_
  refine go_WI (As := [.ref a, .int _, .int _, .ref (a + 131)]) (rest := []) (pc := 1735) s_L_228 rfl rfl rfl dL_law_1735 (wq_hands (k := 2000) hN hR.1 (by decide) _ _) ⟨Nat.le_of_ble_eq_true rfl, Nat.le_of_ble_eq_true rfl⟩ ⟨by show cells + 4 ≤ 601024; omega, by show slots + 24 ≤ 7293034; omega⟩ (Nat.le_of_ble_eq_true rfl) (fun r9 σ1 n1 hQ => ?_)
  have hb := hQ.2.2.1.2.1
  clear hN
  refine go_istore (lw := [_, _, _, _, _, _, _, _]) (pc := 1738) dL_law_1738 (by decide) rfl ?_
  refine go_aload_n (pc := 1740) dL_law_1740 rfl ?_
  refine go_aload_n (pc := 1741) dL_law_1741 rfl ?_
  refine go_iload (pc := 1742) dL_law_1742 rfl ?_
  refine go_iconst (v := 1) (pc := 1744) dL_law_1744 (by decide) ?_
  refine go_iadd (pc := 1745) dL_law_1745 ?_
  refine go_iaB (hN := (by omega)) (pc := 1746) dL_law_1746 hb (by exact ⟨nI_add _ 1, by omega⟩) ?_
  refine go_aload_n (pc := 1747) dL_law_1747 rfl ?_
  refine go_iload (pc := 1748) dL_law_1748 rfl ?_
  refine go_iconst (v := 2) (pc := 1750) dL_law_1750 (by decide) ?_
  refine go_iadd (pc := 1751) dL_law_1751 ?_
  refine go_iaB (hN := (by omega)) (pc := 1752) dL_law_1752 hb (by exact ⟨nI_add _ 2, by omega⟩) ?_
  refine go_V2I (pc := 1753) v_L_230 rfl rfl (rcv_of (ci := 8) hQ.2.2.2.2.1 rfl) dL_law_1753 (sp_hands (k := 2000) hQ.2.2.2.2 (by decide) hG.1 hG.2.1.1 _ _) (fun v_1753 σ n h => ?_) (hR := ⟨Nat.le_of_ble_eq_true rfl, Nat.le_of_ble_eq_true rfl⟩) (hC := ⟨by show cells + 4 + 0 ≤ 601024; omega, by show slots + 24 + 0 ≤ 7293034; omega⟩)
  obtain ⟨hv, hJ⟩ := h
  obtain ⟨rfl, hI2, ⟨F2, A2, hM2, hF4⟩, fo, ho2, hv2⟩ := la_r hR hQ rfl rfl rfl hJ
  refine go_istore (lw := [_, _, _, _, _, _, _, _]) (pc := 1756) dL_law_1756 (by decide) rfl ?_
  refine go_aload_n (pc := 1758) dL_law_1758 rfl ?_
  refine go_V0P (pc := 1759) v_L_145 rfl rfl (rcv_of (ci := 8) hM2.1 rfl) dL_law_1759 (sp_thrown (k := 2000) hM2) ?_ (hR := ⟨Nat.le_of_ble_eq_true rfl, Nat.le_of_ble_eq_true rfl⟩) (hC := ⟨by show cells + 4 + 0 + 0 ≤ 601024; omega, by show slots + 24 + 0 + 0 ≤ 7293034; omega⟩)
  refine go_iload (pc := 1762) dL_law_1762 rfl ?_
  refine go_icmp_eq (tgt := 1769) (pc := 1764) dL_law_1764 (by decide) (fun h_1764 => ?_) (fun h_1764 => by exfalso; first | exact h_1764 hF4 | exact h_1764 hF4.symm)
  refine go_iload (pc := 1769) dL_law_1769 rfl ?_
  refine go_if_ne (tgt := 1786) (pc := 1771) dL_law_1771 (by decide) (fun h_1771 => ?_) (fun h_1771 => ?_)
  · refine go_goto (tgt := 2749) (pc := 1786) dL_law_1786 (by decide) ?_
    exact go_wide (c2 := cells + 910) (s2 := slots + 12700) (by show cells + 4 + 0 + 0 ≤ cells + 910; omega) (by show slots + 24 + 0 + 0 ≤ slots + 12700; omega) (kk _ _ _ _ _ hI2)
  · refine go_aload_n (pc := 1774) dL_law_1774 rfl ?_
    refine go_iconst (v := 0) (pc := 1775) dL_law_1775 (by decide) ?_
    refine go_lald (j := 0) (pc := 1776) dL_law_1776 ho2 (by exact ⟨rfl, by decide⟩) ?_
    refine go_iload (pc := 1777) dL_law_1777 rfl ?_
    refine go_i2l (pc := 1779) dL_law_1779 ?_
    refine go_lcmp (pc := 1780) dL_law_1780 ?_
    refine go_if_eq (tgt := 1786) (pc := 1781) dL_law_1781 (by decide) (fun h_1781 => ?_) (fun h_1781 => by exfalso; (have e0 : r9 = 0 := by first | exact h_1771 | exact Decidable.byContradiction h_1771); (have e : fo 0 = v_1753.toInt64 := by rw [hv]; exact hv2 e0); (simp only [lg_cmp_eq] at h_1781); exact h_1781 e)
    refine go_goto (tgt := 2749) (pc := 1786) dL_law_1786 (by decide) ?_
    exact go_wide (c2 := cells + 910) (s2 := slots + 12700) (by show cells + 4 + 0 + 0 ≤ cells + 910; omega) (by show slots + 24 + 0 + 0 ≤ slots + 12700; omega) (kk _ _ _ _ _ hI2)
theorem la_relay {Γ : gam} {Q : qp} {σ : sto} {n b a L m cells slots : Nat} {xs : row} {x5 x6 x7 : Option Value} (hI : LI Γ σ n b a L xs) (hL : 6 * m + 6 ≤ L) (hL2 : L ≤ 3072) (hc : cells + 910 ≤ 601024) (hs : slots + 12700 ≤ 7293034) (kk : ∀ σ' n' y5 y6 y7, LI Γ σ' n' b a L xs → Go Γ RL1 uL_law Q (cells + 910) (slots + 12700) 2749 [some (.ref b), some (.ref a), some (.ref (a + 114)), some (.ref (a + 131)), some (.int (nI (6 * m))), y5, y6, y7] [] σ' n') : Go Γ RL1 uL_law Q cells slots 1789 [some (.ref b), some (.ref a), some (.ref (a + 114)), some (.ref (a + 131)), some (.int (nI (6 * m))), x5, x6, x7] [] σ n := by
  obtain ⟨ro, F, K, G, im, A, Nm, KI, hN, hR⟩ := hI
  have hb := hN.2.1
  have hG : GK K := hN.2.2.2.2.2.1
  have hT : okT (A 14) (A 15) := hN.2.2.2.2.2.2.2.2.2.1
  refine go_aload_n (pc := 1789) dL_law_1789 rfl ?_
  refine go_aload_n (pc := 1790) dL_law_1790 rfl ?_
  refine go_iload (pc := 1791) dL_law_1791 rfl ?_
  refine go_iconst (v := 1) (pc := 1793) dL_law_1793 (by decide) ?_
  refine go_iadd (pc := 1794) dL_law_1794 ?_
  refine go_iaB (hN := (by omega)) (pc := 1795) dL_law_1795 hb (by exact ⟨nI_add _ 1, by omega⟩) ?_
  refine go_aload_n (pc := 1796) dL_law_1796 rfl ?_
  refine go_WI (As := [.ref a, .int _, .ref (a + 131)]) (rest := []) (pc := 1797) s_L_231 rfl rfl rfl dL_law_1797 (wq_relay (k := 2000) hN hR.1 (by decide) _) ⟨Nat.le_of_ble_eq_true rfl, Nat.le_of_ble_eq_true rfl⟩ ⟨by show cells + 4 ≤ 601024; omega, by show slots + 24 ≤ 7293034; omega⟩ (Nat.le_of_ble_eq_true rfl) (fun r9 σ1 n1 hQ => ?_)
  have hb := hQ.2.2.1.2.1
  clear hN
  refine go_istore (lw := [_, _, _, _, _, _, _, _]) (pc := 1800) dL_law_1800 (by decide) rfl ?_
  refine go_aload_n (pc := 1802) dL_law_1802 rfl ?_
  refine go_aload_n (pc := 1803) dL_law_1803 rfl ?_
  refine go_iload (pc := 1804) dL_law_1804 rfl ?_
  refine go_iconst (v := 1) (pc := 1806) dL_law_1806 (by decide) ?_
  refine go_iadd (pc := 1807) dL_law_1807 ?_
  refine go_iaB (hN := (by omega)) (pc := 1808) dL_law_1808 hb (by exact ⟨nI_add _ 1, by omega⟩) ?_
  refine go_V1I (pc := 1809) v_L_233 rfl rfl (rcv_of (ci := 8) hQ.2.2.2.2.1 rfl) dL_law_1809 (sp_relay (k := 2000) hQ.2.2.2.2 (by decide) hG.1 hG.2.1.1 _) (fun v_1809 σ n h => ?_) (hR := ⟨Nat.le_of_ble_eq_true rfl, Nat.le_of_ble_eq_true rfl⟩) (hC := ⟨by show cells + 4 + 0 ≤ 601024; omega, by show slots + 24 + 0 ≤ 7293034; omega⟩)
  obtain ⟨hv, hJ⟩ := h
  obtain ⟨rfl, hI2, ⟨F2, A2, hM2, hF4⟩, fo, ho2, hv2⟩ := la_r hR hQ rfl rfl rfl hJ
  refine go_istore (lw := [_, _, _, _, _, _, _, _]) (pc := 1812) dL_law_1812 (by decide) rfl ?_
  refine go_aload_n (pc := 1814) dL_law_1814 rfl ?_
  refine go_V0P (pc := 1815) v_L_145 rfl rfl (rcv_of (ci := 8) hM2.1 rfl) dL_law_1815 (sp_thrown (k := 2000) hM2) ?_ (hR := ⟨Nat.le_of_ble_eq_true rfl, Nat.le_of_ble_eq_true rfl⟩) (hC := ⟨by show cells + 4 + 0 + 0 ≤ 601024; omega, by show slots + 24 + 0 + 0 ≤ 7293034; omega⟩)
  refine go_iload (pc := 1818) dL_law_1818 rfl ?_
  refine go_icmp_eq (tgt := 1825) (pc := 1820) dL_law_1820 (by decide) (fun h_1820 => ?_) (fun h_1820 => by exfalso; first | exact h_1820 hF4 | exact h_1820 hF4.symm)
  refine go_iload (pc := 1825) dL_law_1825 rfl ?_
  refine go_if_ne (tgt := 1842) (pc := 1827) dL_law_1827 (by decide) (fun h_1827 => ?_) (fun h_1827 => ?_)
  · refine go_goto (tgt := 2749) (pc := 1842) dL_law_1842 (by decide) ?_
    exact go_wide (c2 := cells + 910) (s2 := slots + 12700) (by show cells + 4 + 0 + 0 ≤ cells + 910; omega) (by show slots + 24 + 0 + 0 ≤ slots + 12700; omega) (kk _ _ _ _ _ hI2)
  · refine go_aload_n (pc := 1830) dL_law_1830 rfl ?_
    refine go_iconst (v := 0) (pc := 1831) dL_law_1831 (by decide) ?_
    refine go_lald (j := 0) (pc := 1832) dL_law_1832 ho2 (by exact ⟨rfl, by decide⟩) ?_
    refine go_iload (pc := 1833) dL_law_1833 rfl ?_
    refine go_i2l (pc := 1835) dL_law_1835 ?_
    refine go_lcmp (pc := 1836) dL_law_1836 ?_
    refine go_if_eq (tgt := 1842) (pc := 1837) dL_law_1837 (by decide) (fun h_1837 => ?_) (fun h_1837 => by exfalso; (have e0 : r9 = 0 := by first | exact h_1827 | exact Decidable.byContradiction h_1827); (have e : fo 0 = v_1809.toInt64 := by rw [hv]; exact hv2 e0); (simp only [lg_cmp_eq] at h_1837); exact h_1837 e)
    refine go_goto (tgt := 2749) (pc := 1842) dL_law_1842 (by decide) ?_
    exact go_wide (c2 := cells + 910) (s2 := slots + 12700) (by show cells + 4 + 0 + 0 ≤ cells + 910; omega) (by show slots + 24 + 0 + 0 ≤ slots + 12700; omega) (kk _ _ _ _ _ hI2)
theorem la_cut {Γ : gam} {Q : qp} {σ : sto} {n b a L m cells slots : Nat} {xs : row} {x5 x6 x7 : Option Value} (hI : LI Γ σ n b a L xs) (hL : 6 * m + 6 ≤ L) (hL2 : L ≤ 3072) (hc : cells + 910 ≤ 601024) (hs : slots + 12700 ≤ 7293034) (kk : ∀ σ' n' y5 y6 y7, LI Γ σ' n' b a L xs → Go Γ RL1 uL_law Q (cells + 910) (slots + 12700) 2749 [some (.ref b), some (.ref a), some (.ref (a + 114)), some (.ref (a + 131)), some (.int (nI (6 * m))), y5, y6, y7] [] σ' n') : Go Γ RL1 uL_law Q cells slots 1845 [some (.ref b), some (.ref a), some (.ref (a + 114)), some (.ref (a + 131)), some (.int (nI (6 * m))), x5, x6, x7] [] σ n := by
  obtain ⟨ro, F, K, G, im, A, Nm, KI, hN, hR⟩ := hI
  have hb := hN.2.1
  have hG : GK K := hN.2.2.2.2.2.1
  have hT : okT (A 14) (A 15) := hN.2.2.2.2.2.2.2.2.2.1
  refine go_aload_n (pc := 1845) dL_law_1845 rfl ?_
  refine go_aload_n (pc := 1846) dL_law_1846 rfl ?_
  refine go_iload (pc := 1847) dL_law_1847 rfl ?_
  refine go_iconst (v := 1) (pc := 1849) dL_law_1849 (by decide) ?_
  refine go_iadd (pc := 1850) dL_law_1850 ?_
  refine go_iaB (hN := (by omega)) (pc := 1851) dL_law_1851 hb (by exact ⟨nI_add _ 1, by omega⟩) ?_
  refine go_aload_n (pc := 1852) dL_law_1852 rfl ?_
  refine go_iload (pc := 1853) dL_law_1853 rfl ?_
  refine go_iconst (v := 2) (pc := 1855) dL_law_1855 (by decide) ?_
  refine go_iadd (pc := 1856) dL_law_1856 ?_
  refine go_iaB (hN := (by omega)) (pc := 1857) dL_law_1857 hb (by exact ⟨nI_add _ 2, by omega⟩) ?_
  refine go_aload_n (pc := 1858) dL_law_1858 rfl ?_
  refine go_WI (As := [.ref a, .int _, .int _, .ref (a + 131)]) (rest := []) (pc := 1859) s_L_234 rfl rfl rfl dL_law_1859 (wq_cut (k := 2000) hN hR.1 (by decide) _ _) ⟨Nat.le_of_ble_eq_true rfl, Nat.le_of_ble_eq_true rfl⟩ ⟨by show cells + 4 ≤ 601024; omega, by show slots + 24 ≤ 7293034; omega⟩ (Nat.le_of_ble_eq_true rfl) (fun r9 σ1 n1 hQ => ?_)
  have hb := hQ.2.2.1.2.1
  clear hN
  refine go_istore (lw := [_, _, _, _, _, _, _, _]) (pc := 1862) dL_law_1862 (by decide) rfl ?_
  refine go_aload_n (pc := 1864) dL_law_1864 rfl ?_
  refine go_aload_n (pc := 1865) dL_law_1865 rfl ?_
  refine go_iload (pc := 1866) dL_law_1866 rfl ?_
  refine go_iconst (v := 1) (pc := 1868) dL_law_1868 (by decide) ?_
  refine go_iadd (pc := 1869) dL_law_1869 ?_
  refine go_iaB (hN := (by omega)) (pc := 1870) dL_law_1870 hb (by exact ⟨nI_add _ 1, by omega⟩) ?_
  refine go_aload_n (pc := 1871) dL_law_1871 rfl ?_
  refine go_iload (pc := 1872) dL_law_1872 rfl ?_
  refine go_iconst (v := 2) (pc := 1874) dL_law_1874 (by decide) ?_
  refine go_iadd (pc := 1875) dL_law_1875 ?_
  refine go_iaB (hN := (by omega)) (pc := 1876) dL_law_1876 hb (by exact ⟨nI_add _ 2, by omega⟩) ?_
  refine go_V2I (pc := 1877) v_L_236 rfl rfl (rcv_of (ci := 8) hQ.2.2.2.2.1 rfl) dL_law_1877 (sp_cut (k := 2000) hQ.2.2.2.2 (by decide) hG.1 hG.2.1.1 _ _) (fun v_1877 σ n h => ?_) (hR := ⟨Nat.le_of_ble_eq_true rfl, Nat.le_of_ble_eq_true rfl⟩) (hC := ⟨by show cells + 4 + 0 ≤ 601024; omega, by show slots + 24 + 0 ≤ 7293034; omega⟩)
  obtain ⟨hv, hJ⟩ := h
  obtain ⟨rfl, hI2, ⟨F2, A2, hM2, hF4⟩, fo, ho2, hv2⟩ := la_r hR hQ rfl rfl rfl hJ
  refine go_istore (lw := [_, _, _, _, _, _, _, _]) (pc := 1880) dL_law_1880 (by decide) rfl ?_
  refine go_aload_n (pc := 1882) dL_law_1882 rfl ?_
  refine go_V0P (pc := 1883) v_L_145 rfl rfl (rcv_of (ci := 8) hM2.1 rfl) dL_law_1883 (sp_thrown (k := 2000) hM2) ?_ (hR := ⟨Nat.le_of_ble_eq_true rfl, Nat.le_of_ble_eq_true rfl⟩) (hC := ⟨by show cells + 4 + 0 + 0 ≤ 601024; omega, by show slots + 24 + 0 + 0 ≤ 7293034; omega⟩)
  refine go_iload (pc := 1886) dL_law_1886 rfl ?_
  refine go_icmp_eq (tgt := 1893) (pc := 1888) dL_law_1888 (by decide) (fun h_1888 => ?_) (fun h_1888 => by exfalso; first | exact h_1888 hF4 | exact h_1888 hF4.symm)
  refine go_iload (pc := 1893) dL_law_1893 rfl ?_
  refine go_if_ne (tgt := 1910) (pc := 1895) dL_law_1895 (by decide) (fun h_1895 => ?_) (fun h_1895 => ?_)
  · refine go_goto (tgt := 2749) (pc := 1910) dL_law_1910 (by decide) ?_
    exact go_wide (c2 := cells + 910) (s2 := slots + 12700) (by show cells + 4 + 0 + 0 ≤ cells + 910; omega) (by show slots + 24 + 0 + 0 ≤ slots + 12700; omega) (kk _ _ _ _ _ hI2)
  · refine go_aload_n (pc := 1898) dL_law_1898 rfl ?_
    refine go_iconst (v := 0) (pc := 1899) dL_law_1899 (by decide) ?_
    refine go_lald (j := 0) (pc := 1900) dL_law_1900 ho2 (by exact ⟨rfl, by decide⟩) ?_
    refine go_iload (pc := 1901) dL_law_1901 rfl ?_
    refine go_i2l (pc := 1903) dL_law_1903 ?_
    refine go_lcmp (pc := 1904) dL_law_1904 ?_
    refine go_if_eq (tgt := 1910) (pc := 1905) dL_law_1905 (by decide) (fun h_1905 => ?_) (fun h_1905 => by exfalso; (have e0 : r9 = 0 := by first | exact h_1895 | exact Decidable.byContradiction h_1895); (have e : fo 0 = v_1877.toInt64 := by rw [hv]; exact hv2 e0); (simp only [lg_cmp_eq] at h_1905); exact h_1905 e)
    refine go_goto (tgt := 2749) (pc := 1910) dL_law_1910 (by decide) ?_
    exact go_wide (c2 := cells + 910) (s2 := slots + 12700) (by show cells + 4 + 0 + 0 ≤ cells + 910; omega) (by show slots + 24 + 0 + 0 ≤ slots + 12700; omega) (kk _ _ _ _ _ hI2)
theorem la_driest {Γ : gam} {Q : qp} {σ : sto} {n b a L m cells slots : Nat} {xs : row} {x5 x6 x7 : Option Value} (hI : LI Γ σ n b a L xs) (hL : 6 * m + 6 ≤ L) (hL2 : L ≤ 3072) (hc : cells + 910 ≤ 601024) (hs : slots + 12700 ≤ 7293034) (kk : ∀ σ' n' y5 y6 y7, LI Γ σ' n' b a L xs → Go Γ RL1 uL_law Q (cells + 910) (slots + 12700) 2749 [some (.ref b), some (.ref a), some (.ref (a + 114)), some (.ref (a + 131)), some (.int (nI (6 * m))), y5, y6, y7] [] σ' n') : Go Γ RL1 uL_law Q cells slots 2005 [some (.ref b), some (.ref a), some (.ref (a + 114)), some (.ref (a + 131)), some (.int (nI (6 * m))), x5, x6, x7] [] σ n := by
  obtain ⟨ro, F, K, G, im, A, Nm, KI, hN, hR⟩ := hI
  have hb := hN.2.1
  have hG : GK K := hN.2.2.2.2.2.1
  have hT : okT (A 14) (A 15) := hN.2.2.2.2.2.2.2.2.2.1
  refine go_aload_n (pc := 2005) dL_law_2005 rfl ?_
  refine go_aload_n (pc := 2006) dL_law_2006 rfl ?_
  refine go_iload (pc := 2007) dL_law_2007 rfl ?_
  refine go_iconst (v := 1) (pc := 2009) dL_law_2009 (by decide) ?_
  refine go_iadd (pc := 2010) dL_law_2010 ?_
  refine go_iaB (hN := (by omega)) (pc := 2011) dL_law_2011 hb (by exact ⟨nI_add _ 1, by omega⟩) ?_
  refine go_aload_n (pc := 2012) dL_law_2012 rfl ?_
  refine go_WI (As := [.ref a, .int _, .ref (a + 131)]) (rest := []) (pc := 2013) s_L_244 rfl rfl rfl dL_law_2013 (wq_driest (k := 2000) hN hR.1 (by decide) _) ⟨Nat.le_of_ble_eq_true rfl, Nat.le_of_ble_eq_true rfl⟩ ⟨by show cells + 4 ≤ 601024; omega, by show slots + 24 ≤ 7293034; omega⟩ (Nat.le_of_ble_eq_true rfl) (fun r9 σ1 n1 hQ => ?_)
  have hb := hQ.2.2.1.2.1
  clear hN
  refine go_istore (lw := [_, _, _, _, _, _, _, _]) (pc := 2016) dL_law_2016 (by decide) rfl ?_
  refine go_aload_n (pc := 2018) dL_law_2018 rfl ?_
  refine go_aload_n (pc := 2019) dL_law_2019 rfl ?_
  refine go_iload (pc := 2020) dL_law_2020 rfl ?_
  refine go_iconst (v := 1) (pc := 2022) dL_law_2022 (by decide) ?_
  refine go_iadd (pc := 2023) dL_law_2023 ?_
  refine go_iaB (hN := (by omega)) (pc := 2024) dL_law_2024 hb (by exact ⟨nI_add _ 1, by omega⟩) ?_
  refine go_V1I (pc := 2025) v_L_246 rfl rfl (rcv_of (ci := 8) hQ.2.2.2.2.1 rfl) dL_law_2025 (sp_driest (k := 2000) hQ.2.2.2.2 (by decide) hG.1 hG.2.1.1 _) (fun v_2025 σ n h => ?_) (hR := ⟨Nat.le_of_ble_eq_true rfl, Nat.le_of_ble_eq_true rfl⟩) (hC := ⟨by show cells + 4 + 0 ≤ 601024; omega, by show slots + 24 + 0 ≤ 7293034; omega⟩)
  obtain ⟨hv, hJ⟩ := h
  obtain ⟨rfl, hI2, ⟨F2, A2, hM2, hF4⟩, fo, ho2, hv2⟩ := la_r hR hQ rfl rfl rfl hJ
  refine go_istore (lw := [_, _, _, _, _, _, _, _]) (pc := 2028) dL_law_2028 (by decide) rfl ?_
  refine go_aload_n (pc := 2030) dL_law_2030 rfl ?_
  refine go_V0P (pc := 2031) v_L_145 rfl rfl (rcv_of (ci := 8) hM2.1 rfl) dL_law_2031 (sp_thrown (k := 2000) hM2) ?_ (hR := ⟨Nat.le_of_ble_eq_true rfl, Nat.le_of_ble_eq_true rfl⟩) (hC := ⟨by show cells + 4 + 0 + 0 ≤ 601024; omega, by show slots + 24 + 0 + 0 ≤ 7293034; omega⟩)
  refine go_iload (pc := 2034) dL_law_2034 rfl ?_
  refine go_icmp_eq (tgt := 2041) (pc := 2036) dL_law_2036 (by decide) (fun h_2036 => ?_) (fun h_2036 => by exfalso; first | exact h_2036 hF4 | exact h_2036 hF4.symm)
  refine go_iload (pc := 2041) dL_law_2041 rfl ?_
  refine go_if_ne (tgt := 2058) (pc := 2043) dL_law_2043 (by decide) (fun h_2043 => ?_) (fun h_2043 => ?_)
  · refine go_goto (tgt := 2749) (pc := 2058) dL_law_2058 (by decide) ?_
    exact go_wide (c2 := cells + 910) (s2 := slots + 12700) (by show cells + 4 + 0 + 0 ≤ cells + 910; omega) (by show slots + 24 + 0 + 0 ≤ slots + 12700; omega) (kk _ _ _ _ _ hI2)
  · refine go_aload_n (pc := 2046) dL_law_2046 rfl ?_
    refine go_iconst (v := 0) (pc := 2047) dL_law_2047 (by decide) ?_
    refine go_lald (j := 0) (pc := 2048) dL_law_2048 ho2 (by exact ⟨rfl, by decide⟩) ?_
    refine go_iload (pc := 2049) dL_law_2049 rfl ?_
    refine go_i2l (pc := 2051) dL_law_2051 ?_
    refine go_lcmp (pc := 2052) dL_law_2052 ?_
    refine go_if_eq (tgt := 2058) (pc := 2053) dL_law_2053 (by decide) (fun h_2053 => ?_) (fun h_2053 => by exfalso; (have e0 : r9 = 0 := by first | exact h_2043 | exact Decidable.byContradiction h_2043); (have e : fo 0 = v_2025.toInt64 := by rw [hv]; exact hv2 e0); (simp only [lg_cmp_eq] at h_2053); exact h_2053 e)
    refine go_goto (tgt := 2749) (pc := 2058) dL_law_2058 (by decide) ?_
    exact go_wide (c2 := cells + 910) (s2 := slots + 12700) (by show cells + 4 + 0 + 0 ≤ cells + 910; omega) (by show slots + 24 + 0 + 0 ≤ slots + 12700; omega) (kk _ _ _ _ _ hI2)
theorem la_where {Γ : gam} {Q : qp} {σ : sto} {n b a L m cells slots : Nat} {xs : row} {x5 x6 x7 : Option Value} (hI : LI Γ σ n b a L xs) (hL : 6 * m + 6 ≤ L) (hL2 : L ≤ 3072) (hc : cells + 910 ≤ 601024) (hs : slots + 12700 ≤ 7293034) (kk : ∀ σ' n' y5 y6 y7, LI Γ σ' n' b a L xs → Go Γ RL1 uL_law Q (cells + 910) (slots + 12700) 2749 [some (.ref b), some (.ref a), some (.ref (a + 114)), some (.ref (a + 131)), some (.int (nI (6 * m))), y5, y6, y7] [] σ' n') : Go Γ RL1 uL_law Q cells slots 2061 [some (.ref b), some (.ref a), some (.ref (a + 114)), some (.ref (a + 131)), some (.int (nI (6 * m))), x5, x6, x7] [] σ n := by
  obtain ⟨ro, F, K, G, im, A, Nm, KI, hN, hR⟩ := hI
  have hb := hN.2.1
  have hG : GK K := hN.2.2.2.2.2.1
  have hT : okT (A 14) (A 15) := hN.2.2.2.2.2.2.2.2.2.1
  refine go_aload_n (pc := 2061) dL_law_2061 rfl ?_
  refine go_aload_n (pc := 2062) dL_law_2062 rfl ?_
  refine go_iload (pc := 2063) dL_law_2063 rfl ?_
  refine go_iconst (v := 1) (pc := 2065) dL_law_2065 (by decide) ?_
  refine go_iadd (pc := 2066) dL_law_2066 ?_
  refine go_iaB (hN := (by omega)) (pc := 2067) dL_law_2067 hb (by exact ⟨nI_add _ 1, by omega⟩) ?_
  refine go_aload_n (pc := 2068) dL_law_2068 rfl ?_
  refine go_iload (pc := 2069) dL_law_2069 rfl ?_
  refine go_iconst (v := 2) (pc := 2071) dL_law_2071 (by decide) ?_
  refine go_iadd (pc := 2072) dL_law_2072 ?_
  refine go_iaB (hN := (by omega)) (pc := 2073) dL_law_2073 hb (by exact ⟨nI_add _ 2, by omega⟩) ?_
  refine go_aload_n (pc := 2074) dL_law_2074 rfl ?_
  refine go_WI (As := [.ref a, .int _, .int _, .ref (a + 131)]) (rest := []) (pc := 2075) s_L_247 rfl rfl rfl dL_law_2075 (wq_where (k := 2000) hN hR.1 (by decide) _ _) ⟨Nat.le_of_ble_eq_true rfl, Nat.le_of_ble_eq_true rfl⟩ ⟨by show cells + 4 ≤ 601024; omega, by show slots + 24 ≤ 7293034; omega⟩ (Nat.le_of_ble_eq_true rfl) (fun r9 σ1 n1 hQ => ?_)
  have hb := hQ.2.2.1.2.1
  clear hN
  refine go_istore (lw := [_, _, _, _, _, _, _, _]) (pc := 2078) dL_law_2078 (by decide) rfl ?_
  refine go_aload_n (pc := 2080) dL_law_2080 rfl ?_
  refine go_aload_n (pc := 2081) dL_law_2081 rfl ?_
  refine go_iload (pc := 2082) dL_law_2082 rfl ?_
  refine go_iconst (v := 1) (pc := 2084) dL_law_2084 (by decide) ?_
  refine go_iadd (pc := 2085) dL_law_2085 ?_
  refine go_iaB (hN := (by omega)) (pc := 2086) dL_law_2086 hb (by exact ⟨nI_add _ 1, by omega⟩) ?_
  refine go_aload_n (pc := 2087) dL_law_2087 rfl ?_
  refine go_iload (pc := 2088) dL_law_2088 rfl ?_
  refine go_iconst (v := 2) (pc := 2090) dL_law_2090 (by decide) ?_
  refine go_iadd (pc := 2091) dL_law_2091 ?_
  refine go_iaB (hN := (by omega)) (pc := 2092) dL_law_2092 hb (by exact ⟨nI_add _ 2, by omega⟩) ?_
  refine go_V2I (pc := 2093) v_L_249 rfl rfl (rcv_of (ci := 8) hQ.2.2.2.2.1 rfl) dL_law_2093 (sp_where (k := 2000) hQ.2.2.2.2 (by decide) hG.1 hG.2.1.1 _ _) (fun v_2093 σ n h => ?_) (hR := ⟨Nat.le_of_ble_eq_true rfl, Nat.le_of_ble_eq_true rfl⟩) (hC := ⟨by show cells + 4 + 0 ≤ 601024; omega, by show slots + 24 + 0 ≤ 7293034; omega⟩)
  obtain ⟨hv, hJ⟩ := h
  obtain ⟨rfl, hI2, ⟨F2, A2, hM2, hF4⟩, fo, ho2, hv2⟩ := la_r hR hQ rfl rfl rfl hJ
  refine go_istore (lw := [_, _, _, _, _, _, _, _]) (pc := 2096) dL_law_2096 (by decide) rfl ?_
  refine go_aload_n (pc := 2098) dL_law_2098 rfl ?_
  refine go_V0P (pc := 2099) v_L_145 rfl rfl (rcv_of (ci := 8) hM2.1 rfl) dL_law_2099 (sp_thrown (k := 2000) hM2) ?_ (hR := ⟨Nat.le_of_ble_eq_true rfl, Nat.le_of_ble_eq_true rfl⟩) (hC := ⟨by show cells + 4 + 0 + 0 ≤ 601024; omega, by show slots + 24 + 0 + 0 ≤ 7293034; omega⟩)
  refine go_iload (pc := 2102) dL_law_2102 rfl ?_
  refine go_icmp_eq (tgt := 2109) (pc := 2104) dL_law_2104 (by decide) (fun h_2104 => ?_) (fun h_2104 => by exfalso; first | exact h_2104 hF4 | exact h_2104 hF4.symm)
  refine go_iload (pc := 2109) dL_law_2109 rfl ?_
  refine go_if_ne (tgt := 2126) (pc := 2111) dL_law_2111 (by decide) (fun h_2111 => ?_) (fun h_2111 => ?_)
  · refine go_goto (tgt := 2749) (pc := 2126) dL_law_2126 (by decide) ?_
    exact go_wide (c2 := cells + 910) (s2 := slots + 12700) (by show cells + 4 + 0 + 0 ≤ cells + 910; omega) (by show slots + 24 + 0 + 0 ≤ slots + 12700; omega) (kk _ _ _ _ _ hI2)
  · refine go_aload_n (pc := 2114) dL_law_2114 rfl ?_
    refine go_iconst (v := 0) (pc := 2115) dL_law_2115 (by decide) ?_
    refine go_lald (j := 0) (pc := 2116) dL_law_2116 ho2 (by exact ⟨rfl, by decide⟩) ?_
    refine go_iload (pc := 2117) dL_law_2117 rfl ?_
    refine go_i2l (pc := 2119) dL_law_2119 ?_
    refine go_lcmp (pc := 2120) dL_law_2120 ?_
    refine go_if_eq (tgt := 2126) (pc := 2121) dL_law_2121 (by decide) (fun h_2121 => ?_) (fun h_2121 => by exfalso; (have e0 : r9 = 0 := by first | exact h_2111 | exact Decidable.byContradiction h_2111); (have e : fo 0 = v_2093.toInt64 := by rw [hv]; exact hv2 e0); (simp only [lg_cmp_eq] at h_2121); exact h_2121 e)
    refine go_goto (tgt := 2749) (pc := 2126) dL_law_2126 (by decide) ?_
    exact go_wide (c2 := cells + 910) (s2 := slots + 12700) (by show cells + 4 + 0 + 0 ≤ cells + 910; omega) (by show slots + 24 + 0 + 0 ≤ slots + 12700; omega) (kk _ _ _ _ _ hI2)
theorem la_changed {Γ : gam} {Q : qp} {σ : sto} {n b a L m cells slots : Nat} {xs : row} {x5 x6 x7 : Option Value} (hI : LI Γ σ n b a L xs) (hL : 6 * m + 6 ≤ L) (hL2 : L ≤ 3072) (hc : cells + 910 ≤ 601024) (hs : slots + 12700 ≤ 7293034) (kk : ∀ σ' n' y5 y6 y7, LI Γ σ' n' b a L xs → Go Γ RL1 uL_law Q (cells + 910) (slots + 12700) 2749 [some (.ref b), some (.ref a), some (.ref (a + 114)), some (.ref (a + 131)), some (.int (nI (6 * m))), y5, y6, y7] [] σ' n') : Go Γ RL1 uL_law Q cells slots 2129 [some (.ref b), some (.ref a), some (.ref (a + 114)), some (.ref (a + 131)), some (.int (nI (6 * m))), x5, x6, x7] [] σ n := by
  obtain ⟨ro, F, K, G, im, A, Nm, KI, hN, hR⟩ := hI
  have hb := hN.2.1
  have hG : GK K := hN.2.2.2.2.2.1
  have hT : okT (A 14) (A 15) := hN.2.2.2.2.2.2.2.2.2.1
  refine go_aload_n (pc := 2129) dL_law_2129 rfl ?_
  refine go_aload_n (pc := 2130) dL_law_2130 rfl ?_
  refine go_iload (pc := 2131) dL_law_2131 rfl ?_
  refine go_iconst (v := 1) (pc := 2133) dL_law_2133 (by decide) ?_
  refine go_iadd (pc := 2134) dL_law_2134 ?_
  refine go_iaB (hN := (by omega)) (pc := 2135) dL_law_2135 hb (by exact ⟨nI_add _ 1, by omega⟩) ?_
  refine go_aload_n (pc := 2136) dL_law_2136 rfl ?_
  refine go_iload (pc := 2137) dL_law_2137 rfl ?_
  refine go_iconst (v := 2) (pc := 2139) dL_law_2139 (by decide) ?_
  refine go_iadd (pc := 2140) dL_law_2140 ?_
  refine go_iaB (hN := (by omega)) (pc := 2141) dL_law_2141 hb (by exact ⟨nI_add _ 2, by omega⟩) ?_
  refine go_aload_n (pc := 2142) dL_law_2142 rfl ?_
  refine go_WI (As := [.ref a, .int _, .int _, .ref (a + 131)]) (rest := []) (pc := 2143) s_L_250 rfl rfl rfl dL_law_2143 (wq_changed (k := 2000) hN hR.1 (by decide) _ _) ⟨Nat.le_of_ble_eq_true rfl, Nat.le_of_ble_eq_true rfl⟩ ⟨by show cells + 4 ≤ 601024; omega, by show slots + 24 ≤ 7293034; omega⟩ (Nat.le_of_ble_eq_true rfl) (fun r9 σ1 n1 hQ => ?_)
  have hb := hQ.2.2.1.2.1
  clear hN
  refine go_istore (lw := [_, _, _, _, _, _, _, _]) (pc := 2146) dL_law_2146 (by decide) rfl ?_
  refine go_aload_n (pc := 2148) dL_law_2148 rfl ?_
  refine go_aload_n (pc := 2149) dL_law_2149 rfl ?_
  refine go_iload (pc := 2150) dL_law_2150 rfl ?_
  refine go_iconst (v := 1) (pc := 2152) dL_law_2152 (by decide) ?_
  refine go_iadd (pc := 2153) dL_law_2153 ?_
  refine go_iaB (hN := (by omega)) (pc := 2154) dL_law_2154 hb (by exact ⟨nI_add _ 1, by omega⟩) ?_
  refine go_aload_n (pc := 2155) dL_law_2155 rfl ?_
  refine go_iload (pc := 2156) dL_law_2156 rfl ?_
  refine go_iconst (v := 2) (pc := 2158) dL_law_2158 (by decide) ?_
  refine go_iadd (pc := 2159) dL_law_2159 ?_
  refine go_iaB (hN := (by omega)) (pc := 2160) dL_law_2160 hb (by exact ⟨nI_add _ 2, by omega⟩) ?_
  refine go_V2I (pc := 2161) v_L_252 rfl rfl (rcv_of (ci := 8) hQ.2.2.2.2.1 rfl) dL_law_2161 (sp_changed (k := 2000) hQ.2.2.2.2 (by decide) hG.1 hG.2.1.1 _ _) (fun v_2161 σ n h => ?_) (hR := ⟨Nat.le_of_ble_eq_true rfl, Nat.le_of_ble_eq_true rfl⟩) (hC := ⟨by show cells + 4 + 0 ≤ 601024; omega, by show slots + 24 + 0 ≤ 7293034; omega⟩)
  obtain ⟨hv, hJ⟩ := h
  obtain ⟨rfl, hI2, ⟨F2, A2, hM2, hF4⟩, fo, ho2, hv2⟩ := la_r hR hQ rfl rfl rfl hJ
  refine go_istore (lw := [_, _, _, _, _, _, _, _]) (pc := 2164) dL_law_2164 (by decide) rfl ?_
  refine go_aload_n (pc := 2166) dL_law_2166 rfl ?_
  refine go_V0P (pc := 2167) v_L_145 rfl rfl (rcv_of (ci := 8) hM2.1 rfl) dL_law_2167 (sp_thrown (k := 2000) hM2) ?_ (hR := ⟨Nat.le_of_ble_eq_true rfl, Nat.le_of_ble_eq_true rfl⟩) (hC := ⟨by show cells + 4 + 0 + 0 ≤ 601024; omega, by show slots + 24 + 0 + 0 ≤ 7293034; omega⟩)
  refine go_iload (pc := 2170) dL_law_2170 rfl ?_
  refine go_icmp_eq (tgt := 2177) (pc := 2172) dL_law_2172 (by decide) (fun h_2172 => ?_) (fun h_2172 => by exfalso; first | exact h_2172 hF4 | exact h_2172 hF4.symm)
  refine go_iload (pc := 2177) dL_law_2177 rfl ?_
  refine go_if_ne (tgt := 2194) (pc := 2179) dL_law_2179 (by decide) (fun h_2179 => ?_) (fun h_2179 => ?_)
  · refine go_goto (tgt := 2749) (pc := 2194) dL_law_2194 (by decide) ?_
    exact go_wide (c2 := cells + 910) (s2 := slots + 12700) (by show cells + 4 + 0 + 0 ≤ cells + 910; omega) (by show slots + 24 + 0 + 0 ≤ slots + 12700; omega) (kk _ _ _ _ _ hI2)
  · refine go_aload_n (pc := 2182) dL_law_2182 rfl ?_
    refine go_iconst (v := 0) (pc := 2183) dL_law_2183 (by decide) ?_
    refine go_lald (j := 0) (pc := 2184) dL_law_2184 ho2 (by exact ⟨rfl, by decide⟩) ?_
    refine go_iload (pc := 2185) dL_law_2185 rfl ?_
    refine go_i2l (pc := 2187) dL_law_2187 ?_
    refine go_lcmp (pc := 2188) dL_law_2188 ?_
    refine go_if_eq (tgt := 2194) (pc := 2189) dL_law_2189 (by decide) (fun h_2189 => ?_) (fun h_2189 => by exfalso; (have e0 : r9 = 0 := by first | exact h_2179 | exact Decidable.byContradiction h_2179); (have e : fo 0 = v_2161.toInt64 := by rw [hv]; exact hv2 e0); (simp only [lg_cmp_eq] at h_2189); exact h_2189 e)
    refine go_goto (tgt := 2749) (pc := 2194) dL_law_2194 (by decide) ?_
    exact go_wide (c2 := cells + 910) (s2 := slots + 12700) (by show cells + 4 + 0 + 0 ≤ cells + 910; omega) (by show slots + 24 + 0 + 0 ≤ slots + 12700; omega) (kk _ _ _ _ _ hI2)
theorem la_changedAt {Γ : gam} {Q : qp} {σ : sto} {n b a L m cells slots : Nat} {xs : row} {x5 x6 x7 : Option Value} (hI : LI Γ σ n b a L xs) (hL : 6 * m + 6 ≤ L) (hL2 : L ≤ 3072) (hc : cells + 910 ≤ 601024) (hs : slots + 12700 ≤ 7293034) (kk : ∀ σ' n' y5 y6 y7, LI Γ σ' n' b a L xs → Go Γ RL1 uL_law Q (cells + 910) (slots + 12700) 2749 [some (.ref b), some (.ref a), some (.ref (a + 114)), some (.ref (a + 131)), some (.int (nI (6 * m))), y5, y6, y7] [] σ' n') : Go Γ RL1 uL_law Q cells slots 2197 [some (.ref b), some (.ref a), some (.ref (a + 114)), some (.ref (a + 131)), some (.int (nI (6 * m))), x5, x6, x7] [] σ n := by
  obtain ⟨ro, F, K, G, im, A, Nm, KI, hN, hR⟩ := hI
  have hb := hN.2.1
  have hG : GK K := hN.2.2.2.2.2.1
  have hT : okT (A 14) (A 15) := hN.2.2.2.2.2.2.2.2.2.1
  refine go_aload_n (pc := 2197) dL_law_2197 rfl ?_
  refine go_aload_n (pc := 2198) dL_law_2198 rfl ?_
  refine go_iload (pc := 2199) dL_law_2199 rfl ?_
  refine go_iconst (v := 1) (pc := 2201) dL_law_2201 (by decide) ?_
  refine go_iadd (pc := 2202) dL_law_2202 ?_
  refine go_iaB (hN := (by omega)) (pc := 2203) dL_law_2203 hb (by exact ⟨nI_add _ 1, by omega⟩) ?_
  refine go_aload_n (pc := 2204) dL_law_2204 rfl ?_
  refine go_iload (pc := 2205) dL_law_2205 rfl ?_
  refine go_iconst (v := 2) (pc := 2207) dL_law_2207 (by decide) ?_
  refine go_iadd (pc := 2208) dL_law_2208 ?_
  refine go_iaB (hN := (by omega)) (pc := 2209) dL_law_2209 hb (by exact ⟨nI_add _ 2, by omega⟩) ?_
  refine go_aload_n (pc := 2210) dL_law_2210 rfl ?_
  refine go_iload (pc := 2211) dL_law_2211 rfl ?_
  refine go_iconst (v := 3) (pc := 2213) dL_law_2213 (by decide) ?_
  refine go_iadd (pc := 2214) dL_law_2214 ?_
  refine go_iaB (hN := (by omega)) (pc := 2215) dL_law_2215 hb (by exact ⟨nI_add _ 3, by omega⟩) ?_
  refine go_aload_n (pc := 2216) dL_law_2216 rfl ?_
  refine go_WI (As := [.ref a, .int _, .int _, .int _, .ref (a + 131)]) (rest := []) (pc := 2217) s_L_253 rfl rfl rfl dL_law_2217 (wq_changedAt (k := 2000) hN hR.1 (by decide) _ _ _) ⟨Nat.le_of_ble_eq_true rfl, Nat.le_of_ble_eq_true rfl⟩ ⟨by show cells + 4 ≤ 601024; omega, by show slots + 24 ≤ 7293034; omega⟩ (Nat.le_of_ble_eq_true rfl) (fun r9 σ1 n1 hQ => ?_)
  have hb := hQ.2.2.1.2.1
  clear hN
  refine go_istore (lw := [_, _, _, _, _, _, _, _]) (pc := 2220) dL_law_2220 (by decide) rfl ?_
  refine go_aload_n (pc := 2222) dL_law_2222 rfl ?_
  refine go_aload_n (pc := 2223) dL_law_2223 rfl ?_
  refine go_iload (pc := 2224) dL_law_2224 rfl ?_
  refine go_iconst (v := 1) (pc := 2226) dL_law_2226 (by decide) ?_
  refine go_iadd (pc := 2227) dL_law_2227 ?_
  refine go_iaB (hN := (by omega)) (pc := 2228) dL_law_2228 hb (by exact ⟨nI_add _ 1, by omega⟩) ?_
  refine go_aload_n (pc := 2229) dL_law_2229 rfl ?_
  refine go_iload (pc := 2230) dL_law_2230 rfl ?_
  refine go_iconst (v := 2) (pc := 2232) dL_law_2232 (by decide) ?_
  refine go_iadd (pc := 2233) dL_law_2233 ?_
  refine go_iaB (hN := (by omega)) (pc := 2234) dL_law_2234 hb (by exact ⟨nI_add _ 2, by omega⟩) ?_
  refine go_aload_n (pc := 2235) dL_law_2235 rfl ?_
  refine go_iload (pc := 2236) dL_law_2236 rfl ?_
  refine go_iconst (v := 3) (pc := 2238) dL_law_2238 (by decide) ?_
  refine go_iadd (pc := 2239) dL_law_2239 ?_
  refine go_iaB (hN := (by omega)) (pc := 2240) dL_law_2240 hb (by exact ⟨nI_add _ 3, by omega⟩) ?_
  refine go_V3I (pc := 2241) v_L_255 rfl rfl (rcv_of (ci := 8) hQ.2.2.2.2.1 rfl) dL_law_2241 (sp_changedAt (k := 2000) hQ.2.2.2.2 (by decide) hG.1 hG.2.1.1 _ _ _) (fun v_2241 σ n h => ?_) (hR := ⟨Nat.le_of_ble_eq_true rfl, Nat.le_of_ble_eq_true rfl⟩) (hC := ⟨by show cells + 4 + 0 ≤ 601024; omega, by show slots + 24 + 0 ≤ 7293034; omega⟩)
  obtain ⟨hv, hJ⟩ := h
  obtain ⟨rfl, hI2, ⟨F2, A2, hM2, hF4⟩, fo, ho2, hv2⟩ := la_r hR hQ rfl rfl rfl hJ
  refine go_istore (lw := [_, _, _, _, _, _, _, _]) (pc := 2244) dL_law_2244 (by decide) rfl ?_
  refine go_aload_n (pc := 2246) dL_law_2246 rfl ?_
  refine go_V0P (pc := 2247) v_L_145 rfl rfl (rcv_of (ci := 8) hM2.1 rfl) dL_law_2247 (sp_thrown (k := 2000) hM2) ?_ (hR := ⟨Nat.le_of_ble_eq_true rfl, Nat.le_of_ble_eq_true rfl⟩) (hC := ⟨by show cells + 4 + 0 + 0 ≤ 601024; omega, by show slots + 24 + 0 + 0 ≤ 7293034; omega⟩)
  refine go_iload (pc := 2250) dL_law_2250 rfl ?_
  refine go_icmp_eq (tgt := 2257) (pc := 2252) dL_law_2252 (by decide) (fun h_2252 => ?_) (fun h_2252 => by exfalso; first | exact h_2252 hF4 | exact h_2252 hF4.symm)
  refine go_iload (pc := 2257) dL_law_2257 rfl ?_
  refine go_if_ne (tgt := 2274) (pc := 2259) dL_law_2259 (by decide) (fun h_2259 => ?_) (fun h_2259 => ?_)
  · refine go_goto (tgt := 2749) (pc := 2274) dL_law_2274 (by decide) ?_
    exact go_wide (c2 := cells + 910) (s2 := slots + 12700) (by show cells + 4 + 0 + 0 ≤ cells + 910; omega) (by show slots + 24 + 0 + 0 ≤ slots + 12700; omega) (kk _ _ _ _ _ hI2)
  · refine go_aload_n (pc := 2262) dL_law_2262 rfl ?_
    refine go_iconst (v := 0) (pc := 2263) dL_law_2263 (by decide) ?_
    refine go_lald (j := 0) (pc := 2264) dL_law_2264 ho2 (by exact ⟨rfl, by decide⟩) ?_
    refine go_iload (pc := 2265) dL_law_2265 rfl ?_
    refine go_i2l (pc := 2267) dL_law_2267 ?_
    refine go_lcmp (pc := 2268) dL_law_2268 ?_
    refine go_if_eq (tgt := 2274) (pc := 2269) dL_law_2269 (by decide) (fun h_2269 => ?_) (fun h_2269 => by exfalso; (have e0 : r9 = 0 := by first | exact h_2259 | exact Decidable.byContradiction h_2259); (have e : fo 0 = v_2241.toInt64 := by rw [hv]; exact hv2 e0); (simp only [lg_cmp_eq] at h_2269); exact h_2269 e)
    refine go_goto (tgt := 2749) (pc := 2274) dL_law_2274 (by decide) ?_
    exact go_wide (c2 := cells + 910) (s2 := slots + 12700) (by show cells + 4 + 0 + 0 ≤ cells + 910; omega) (by show slots + 24 + 0 + 0 ≤ slots + 12700; omega) (kk _ _ _ _ _ hI2)
theorem la_sure {Γ : gam} {Q : qp} {σ : sto} {n b a L m cells slots : Nat} {xs : row} {x5 x6 x7 : Option Value} (hI : LI Γ σ n b a L xs) (hL : 6 * m + 6 ≤ L) (hL2 : L ≤ 3072) (hc : cells + 910 ≤ 601024) (hs : slots + 12700 ≤ 7293034) (kk : ∀ σ' n' y5 y6 y7, LI Γ σ' n' b a L xs → Go Γ RL1 uL_law Q (cells + 910) (slots + 12700) 2749 [some (.ref b), some (.ref a), some (.ref (a + 114)), some (.ref (a + 131)), some (.int (nI (6 * m))), y5, y6, y7] [] σ' n') : Go Γ RL1 uL_law Q cells slots 2277 [some (.ref b), some (.ref a), some (.ref (a + 114)), some (.ref (a + 131)), some (.int (nI (6 * m))), x5, x6, x7] [] σ n := by
  obtain ⟨ro, F, K, G, im, A, Nm, KI, hN, hR⟩ := hI
  have hb := hN.2.1
  have hG : GK K := hN.2.2.2.2.2.1
  have hT : okT (A 14) (A 15) := hN.2.2.2.2.2.2.2.2.2.1
  refine go_aload_n (pc := 2277) dL_law_2277 rfl ?_
  refine go_aload_n (pc := 2278) dL_law_2278 rfl ?_
  refine go_iload (pc := 2279) dL_law_2279 rfl ?_
  refine go_iconst (v := 1) (pc := 2281) dL_law_2281 (by decide) ?_
  refine go_iadd (pc := 2282) dL_law_2282 ?_
  refine go_iaB (hN := (by omega)) (pc := 2283) dL_law_2283 hb (by exact ⟨nI_add _ 1, by omega⟩) ?_
  refine go_aload_n (pc := 2284) dL_law_2284 rfl ?_
  refine go_iload (pc := 2285) dL_law_2285 rfl ?_
  refine go_iconst (v := 2) (pc := 2287) dL_law_2287 (by decide) ?_
  refine go_iadd (pc := 2288) dL_law_2288 ?_
  refine go_iaB (hN := (by omega)) (pc := 2289) dL_law_2289 hb (by exact ⟨nI_add _ 2, by omega⟩) ?_
  refine go_aload_n (pc := 2290) dL_law_2290 rfl ?_
  refine go_WI (As := [.ref a, .int _, .int _, .ref (a + 131)]) (rest := []) (pc := 2291) s_L_256 rfl rfl rfl dL_law_2291 (wq_sure (k := 2000) hN hR.1 (by decide) _ _) ⟨Nat.le_of_ble_eq_true rfl, Nat.le_of_ble_eq_true rfl⟩ ⟨by show cells + 4 ≤ 601024; omega, by show slots + 24 ≤ 7293034; omega⟩ (Nat.le_of_ble_eq_true rfl) (fun r9 σ1 n1 hQ => ?_)
  have hb := hQ.2.2.1.2.1
  clear hN
  refine go_istore (lw := [_, _, _, _, _, _, _, _]) (pc := 2294) dL_law_2294 (by decide) rfl ?_
  refine go_aload_n (pc := 2296) dL_law_2296 rfl ?_
  refine go_aload_n (pc := 2297) dL_law_2297 rfl ?_
  refine go_iload (pc := 2298) dL_law_2298 rfl ?_
  refine go_iconst (v := 1) (pc := 2300) dL_law_2300 (by decide) ?_
  refine go_iadd (pc := 2301) dL_law_2301 ?_
  refine go_iaB (hN := (by omega)) (pc := 2302) dL_law_2302 hb (by exact ⟨nI_add _ 1, by omega⟩) ?_
  refine go_aload_n (pc := 2303) dL_law_2303 rfl ?_
  refine go_iload (pc := 2304) dL_law_2304 rfl ?_
  refine go_iconst (v := 2) (pc := 2306) dL_law_2306 (by decide) ?_
  refine go_iadd (pc := 2307) dL_law_2307 ?_
  refine go_iaB (hN := (by omega)) (pc := 2308) dL_law_2308 hb (by exact ⟨nI_add _ 2, by omega⟩) ?_
  refine go_V2I (pc := 2309) v_L_258 rfl rfl (rcv_of (ci := 8) hQ.2.2.2.2.1 rfl) dL_law_2309 (sp_sure (k := 2000) hQ.2.2.2.2 (by decide) hG.1 hG.2.1.1 _ _) (fun v_2309 σ n h => ?_) (hR := ⟨Nat.le_of_ble_eq_true rfl, Nat.le_of_ble_eq_true rfl⟩) (hC := ⟨by show cells + 4 + 0 ≤ 601024; omega, by show slots + 24 + 0 ≤ 7293034; omega⟩)
  obtain ⟨hv, hJ⟩ := h
  obtain ⟨rfl, hI2, ⟨F2, A2, hM2, hF4⟩, fo, ho2, hv2⟩ := la_r hR hQ rfl rfl rfl hJ
  refine go_istore (lw := [_, _, _, _, _, _, _, _]) (pc := 2312) dL_law_2312 (by decide) rfl ?_
  refine go_aload_n (pc := 2314) dL_law_2314 rfl ?_
  refine go_V0P (pc := 2315) v_L_145 rfl rfl (rcv_of (ci := 8) hM2.1 rfl) dL_law_2315 (sp_thrown (k := 2000) hM2) ?_ (hR := ⟨Nat.le_of_ble_eq_true rfl, Nat.le_of_ble_eq_true rfl⟩) (hC := ⟨by show cells + 4 + 0 + 0 ≤ 601024; omega, by show slots + 24 + 0 + 0 ≤ 7293034; omega⟩)
  refine go_iload (pc := 2318) dL_law_2318 rfl ?_
  refine go_icmp_eq (tgt := 2325) (pc := 2320) dL_law_2320 (by decide) (fun h_2320 => ?_) (fun h_2320 => by exfalso; first | exact h_2320 hF4 | exact h_2320 hF4.symm)
  refine go_iload (pc := 2325) dL_law_2325 rfl ?_
  refine go_if_ne (tgt := 2342) (pc := 2327) dL_law_2327 (by decide) (fun h_2327 => ?_) (fun h_2327 => ?_)
  · refine go_goto (tgt := 2749) (pc := 2342) dL_law_2342 (by decide) ?_
    exact go_wide (c2 := cells + 910) (s2 := slots + 12700) (by show cells + 4 + 0 + 0 ≤ cells + 910; omega) (by show slots + 24 + 0 + 0 ≤ slots + 12700; omega) (kk _ _ _ _ _ hI2)
  · refine go_aload_n (pc := 2330) dL_law_2330 rfl ?_
    refine go_iconst (v := 0) (pc := 2331) dL_law_2331 (by decide) ?_
    refine go_lald (j := 0) (pc := 2332) dL_law_2332 ho2 (by exact ⟨rfl, by decide⟩) ?_
    refine go_iload (pc := 2333) dL_law_2333 rfl ?_
    refine go_i2l (pc := 2335) dL_law_2335 ?_
    refine go_lcmp (pc := 2336) dL_law_2336 ?_
    refine go_if_eq (tgt := 2342) (pc := 2337) dL_law_2337 (by decide) (fun h_2337 => ?_) (fun h_2337 => by exfalso; (have e0 : r9 = 0 := by first | exact h_2327 | exact Decidable.byContradiction h_2327); (have e : fo 0 = v_2309.toInt64 := by rw [hv]; exact hv2 e0); (simp only [lg_cmp_eq] at h_2337); exact h_2337 e)
    refine go_goto (tgt := 2749) (pc := 2342) dL_law_2342 (by decide) ?_
    exact go_wide (c2 := cells + 910) (s2 := slots + 12700) (by show cells + 4 + 0 + 0 ≤ cells + 910; omega) (by show slots + 24 + 0 + 0 ≤ slots + 12700; omega) (kk _ _ _ _ _ hI2)
theorem la_look {Γ : gam} {Q : qp} {σ : sto} {n b a L m cells slots : Nat} {xs : row} {x5 x6 x7 : Option Value} (hI : LI Γ σ n b a L xs) (hL : 6 * m + 6 ≤ L) (hL2 : L ≤ 3072) (hc : cells + 910 ≤ 601024) (hs : slots + 12700 ≤ 7293034) (kk : ∀ σ' n' y5 y6 y7, LI Γ σ' n' b a L xs → Go Γ RL1 uL_law Q (cells + 910) (slots + 12700) 2749 [some (.ref b), some (.ref a), some (.ref (a + 114)), some (.ref (a + 131)), some (.int (nI (6 * m))), y5, y6, y7] [] σ' n') : Go Γ RL1 uL_law Q cells slots 2345 [some (.ref b), some (.ref a), some (.ref (a + 114)), some (.ref (a + 131)), some (.int (nI (6 * m))), x5, x6, x7] [] σ n := by
  obtain ⟨ro, F, K, G, im, A, Nm, KI, hN, hR⟩ := hI
  have hb := hN.2.1
  have hG : GK K := hN.2.2.2.2.2.1
  have hT : okT (A 14) (A 15) := hN.2.2.2.2.2.2.2.2.2.1
  refine go_aload_n (pc := 2345) dL_law_2345 rfl ?_
  refine go_aload_n (pc := 2346) dL_law_2346 rfl ?_
  refine go_iload (pc := 2347) dL_law_2347 rfl ?_
  refine go_iconst (v := 1) (pc := 2349) dL_law_2349 (by decide) ?_
  refine go_iadd (pc := 2350) dL_law_2350 ?_
  refine go_iaB (hN := (by omega)) (pc := 2351) dL_law_2351 hb (by exact ⟨nI_add _ 1, by omega⟩) ?_
  refine go_aload_n (pc := 2352) dL_law_2352 rfl ?_
  refine go_iload (pc := 2353) dL_law_2353 rfl ?_
  refine go_iconst (v := 2) (pc := 2355) dL_law_2355 (by decide) ?_
  refine go_iadd (pc := 2356) dL_law_2356 ?_
  refine go_iaB (hN := (by omega)) (pc := 2357) dL_law_2357 hb (by exact ⟨nI_add _ 2, by omega⟩) ?_
  refine go_aload_n (pc := 2358) dL_law_2358 rfl ?_
  refine go_WI (As := [.ref a, .int _, .int _, .ref (a + 131)]) (rest := []) (pc := 2359) s_L_259 rfl rfl rfl dL_law_2359 (wq_look (k := 2000) hN hR.1 (by decide) _ _) ⟨Nat.le_of_ble_eq_true rfl, Nat.le_of_ble_eq_true rfl⟩ ⟨by show cells + 4 ≤ 601024; omega, by show slots + 24 ≤ 7293034; omega⟩ (Nat.le_of_ble_eq_true rfl) (fun r9 σ1 n1 hQ => ?_)
  have hb := hQ.2.2.1.2.1
  clear hN
  refine go_istore (lw := [_, _, _, _, _, _, _, _]) (pc := 2362) dL_law_2362 (by decide) rfl ?_
  refine go_aload_n (pc := 2364) dL_law_2364 rfl ?_
  refine go_aload_n (pc := 2365) dL_law_2365 rfl ?_
  refine go_iload (pc := 2366) dL_law_2366 rfl ?_
  refine go_iconst (v := 1) (pc := 2368) dL_law_2368 (by decide) ?_
  refine go_iadd (pc := 2369) dL_law_2369 ?_
  refine go_iaB (hN := (by omega)) (pc := 2370) dL_law_2370 hb (by exact ⟨nI_add _ 1, by omega⟩) ?_
  refine go_aload_n (pc := 2371) dL_law_2371 rfl ?_
  refine go_iload (pc := 2372) dL_law_2372 rfl ?_
  refine go_iconst (v := 2) (pc := 2374) dL_law_2374 (by decide) ?_
  refine go_iadd (pc := 2375) dL_law_2375 ?_
  refine go_iaB (hN := (by omega)) (pc := 2376) dL_law_2376 hb (by exact ⟨nI_add _ 2, by omega⟩) ?_
  refine go_V2I (pc := 2377) v_L_261 rfl rfl (rcv_of (ci := 8) hQ.2.2.2.2.1 rfl) dL_law_2377 (sp_look (k := 2000) hQ.2.2.2.2 (by decide) hG.1 hG.2.1.1 _ _) (fun v_2377 σ n h => ?_) (hR := ⟨Nat.le_of_ble_eq_true rfl, Nat.le_of_ble_eq_true rfl⟩) (hC := ⟨by show cells + 4 + 0 ≤ 601024; omega, by show slots + 24 + 0 ≤ 7293034; omega⟩)
  obtain ⟨hv, hJ⟩ := h
  obtain ⟨rfl, hI2, ⟨F2, A2, hM2, hF4⟩, fo, ho2, hv2⟩ := la_r hR hQ rfl rfl rfl hJ
  refine go_istore (lw := [_, _, _, _, _, _, _, _]) (pc := 2380) dL_law_2380 (by decide) rfl ?_
  refine go_aload_n (pc := 2382) dL_law_2382 rfl ?_
  refine go_V0P (pc := 2383) v_L_145 rfl rfl (rcv_of (ci := 8) hM2.1 rfl) dL_law_2383 (sp_thrown (k := 2000) hM2) ?_ (hR := ⟨Nat.le_of_ble_eq_true rfl, Nat.le_of_ble_eq_true rfl⟩) (hC := ⟨by show cells + 4 + 0 + 0 ≤ 601024; omega, by show slots + 24 + 0 + 0 ≤ 7293034; omega⟩)
  refine go_iload (pc := 2386) dL_law_2386 rfl ?_
  refine go_icmp_eq (tgt := 2393) (pc := 2388) dL_law_2388 (by decide) (fun h_2388 => ?_) (fun h_2388 => by exfalso; first | exact h_2388 hF4 | exact h_2388 hF4.symm)
  refine go_iload (pc := 2393) dL_law_2393 rfl ?_
  refine go_if_ne (tgt := 2410) (pc := 2395) dL_law_2395 (by decide) (fun h_2395 => ?_) (fun h_2395 => ?_)
  · refine go_goto (tgt := 2749) (pc := 2410) dL_law_2410 (by decide) ?_
    exact go_wide (c2 := cells + 910) (s2 := slots + 12700) (by show cells + 4 + 0 + 0 ≤ cells + 910; omega) (by show slots + 24 + 0 + 0 ≤ slots + 12700; omega) (kk _ _ _ _ _ hI2)
  · refine go_aload_n (pc := 2398) dL_law_2398 rfl ?_
    refine go_iconst (v := 0) (pc := 2399) dL_law_2399 (by decide) ?_
    refine go_lald (j := 0) (pc := 2400) dL_law_2400 ho2 (by exact ⟨rfl, by decide⟩) ?_
    refine go_iload (pc := 2401) dL_law_2401 rfl ?_
    refine go_i2l (pc := 2403) dL_law_2403 ?_
    refine go_lcmp (pc := 2404) dL_law_2404 ?_
    refine go_if_eq (tgt := 2410) (pc := 2405) dL_law_2405 (by decide) (fun h_2405 => ?_) (fun h_2405 => by exfalso; (have e0 : r9 = 0 := by first | exact h_2395 | exact Decidable.byContradiction h_2395); (have e : fo 0 = v_2377.toInt64 := by rw [hv]; exact hv2 e0); (simp only [lg_cmp_eq] at h_2405); exact h_2405 e)
    refine go_goto (tgt := 2749) (pc := 2410) dL_law_2410 (by decide) ?_
    exact go_wide (c2 := cells + 910) (s2 := slots + 12700) (by show cells + 4 + 0 + 0 ≤ cells + 910; omega) (by show slots + 24 + 0 + 0 ≤ slots + 12700; omega) (kk _ _ _ _ _ hI2)
