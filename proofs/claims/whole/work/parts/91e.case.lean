/-! ===== the law's cases ===== -/
theorem la_rise {Γ : gam} {Q : qp} {σ : sto} {n b a L m cells slots : Nat} {xs : row} {x5 x6 x7 : Option Value} (hI : LI Γ σ n b a L xs) (hL : 6 * m + 6 ≤ L) (hL2 : L ≤ 3072) (hc : cells + 910 ≤ 601024) (hs : slots + 12700 ≤ 7293034) (kk : ∀ σ' n' y5 y6 y7, LI Γ σ' n' b a L xs → Go Γ RL1 uL_law Q (cells + 910) (slots + 12700) 2749 [some (.ref b), some (.ref a), some (.ref (a + 114)), some (.ref (a + 131)), some (.int (nI (6 * m))), y5, y6, y7] [] σ' n') : Go Γ RL1 uL_law Q cells slots 741 [some (.ref b), some (.ref a), some (.ref (a + 114)), some (.ref (a + 131)), some (.int (nI (6 * m))), x5, x6, x7] [] σ n := by
  obtain ⟨ro, F, K, G, im, A, Nm, KI, hN, hR⟩ := hI
  have hb := hN.2.1
  have hG : GK K := hN.2.2.2.2.2.1
  have hT : okT (A 14) (A 15) := hN.2.2.2.2.2.2.2.2.2.1
  refine go_aload_n (pc := 741) dL_law_741 rfl ?_
  refine go_aload_n (pc := 742) dL_law_742 rfl ?_
  refine go_iload (pc := 743) dL_law_743 rfl ?_
  refine go_iconst (v := 1) (pc := 745) dL_law_745 (by decide) ?_
  refine go_iadd (pc := 746) dL_law_746 ?_
  refine go_iaB (hN := (by omega)) (pc := 747) dL_law_747 hb (by exact ⟨nI_add _ 1, by omega⟩) ?_
  refine go_V1I (pc := 748) v_L_170 rfl rfl (rcv_of (ci := 7) (co0 hN.2.2.2.1) rfl) dL_law_748 (wq_rise (k := 2000) hN hR.1 (by decide) _) (fun v_748 σ n h => ?_) (hR := ⟨Nat.le_of_ble_eq_true rfl, Nat.le_of_ble_eq_true rfl⟩) (hC := ⟨by show cells + 0 ≤ 601024; omega, by show slots + 0 ≤ 7293034; omega⟩)
  obtain ⟨hv1, rfl, hN2, hM2⟩ := h
  obtain ⟨fo, hfo⟩ := hN2.2.2.1
  have hb := hN2.2.1
  have hQ : LwR Γ _ b a L xs ro _ G im A Nm KI F K A Nm 0 (fo 0) 0 _ _ := ⟨rfl, Nat.le_refl _, hN2, ⟨fo, hfo, fun _ => rfl⟩, hM2⟩
  refine go_aload_n (pc := 751) dL_law_751 rfl ?_
  refine go_aload_n (pc := 752) dL_law_752 rfl ?_
  refine go_iload (pc := 753) dL_law_753 rfl ?_
  refine go_iconst (v := 1) (pc := 755) dL_law_755 (by decide) ?_
  refine go_iadd (pc := 756) dL_law_756 ?_
  refine go_iaB (hN := (by omega)) (pc := 757) dL_law_757 hb (by exact ⟨nI_add _ 1, by omega⟩) ?_
  refine go_V1I (pc := 758) v_L_173 rfl rfl (rcv_of (ci := 8) hQ.2.2.2.2.1 rfl) dL_law_758 (sp_rise (k := 2000) hQ.2.2.2.2 (by decide) hG.D _) (fun v_758 σ n h => ?_) (hR := ⟨Nat.le_of_ble_eq_true rfl, Nat.le_of_ble_eq_true rfl⟩) (hC := ⟨by show cells + 0 + 0 ≤ 601024; omega, by show slots + 0 + 0 ≤ 7293034; omega⟩)
  obtain ⟨hv2, hJ⟩ := h
  obtain ⟨rfl, hI2, -⟩ := la_r hR hQ rfl rfl rfl hJ
  refine go_icmp_eq (tgt := 2749) (pc := 761) dL_law_761 (by decide) (fun h_761 => ?_) (fun h_761 => by exfalso; exact h_761 (hv1.trans hv2.symm))
  exact go_wide (c2 := cells + 910) (s2 := slots + 12700) (by show cells + 0 + 0 ≤ cells + 910; omega) (by show slots + 0 + 0 ≤ slots + 12700; omega) (kk _ _ _ _ _ hI2)
theorem la_sit {Γ : gam} {Q : qp} {σ : sto} {n b a L m cells slots : Nat} {xs : row} {x5 x6 x7 : Option Value} (hI : LI Γ σ n b a L xs) (hL : 6 * m + 6 ≤ L) (hL2 : L ≤ 3072) (hc : cells + 910 ≤ 601024) (hs : slots + 12700 ≤ 7293034) (kk : ∀ σ' n' y5 y6 y7, LI Γ σ' n' b a L xs → Go Γ RL1 uL_law Q (cells + 910) (slots + 12700) 2749 [some (.ref b), some (.ref a), some (.ref (a + 114)), some (.ref (a + 131)), some (.int (nI (6 * m))), y5, y6, y7] [] σ' n') : Go Γ RL1 uL_law Q cells slots 766 [some (.ref b), some (.ref a), some (.ref (a + 114)), some (.ref (a + 131)), some (.int (nI (6 * m))), x5, x6, x7] [] σ n := by
  obtain ⟨ro, F, K, G, im, A, Nm, KI, hN, hR⟩ := hI
  have hb := hN.2.1
  have hG : GK K := hN.2.2.2.2.2.1
  have hT : okT (A 14) (A 15) := hN.2.2.2.2.2.2.2.2.2.1
  refine go_aload_n (pc := 766) dL_law_766 rfl ?_
  refine go_aload_n (pc := 767) dL_law_767 rfl ?_
  refine go_iload (pc := 768) dL_law_768 rfl ?_
  refine go_iconst (v := 1) (pc := 770) dL_law_770 (by decide) ?_
  refine go_iadd (pc := 771) dL_law_771 ?_
  refine go_iaB (hN := (by omega)) (pc := 772) dL_law_772 hb (by exact ⟨nI_add _ 1, by omega⟩) ?_
  refine go_aload_n (pc := 773) dL_law_773 rfl ?_
  refine go_iload (pc := 774) dL_law_774 rfl ?_
  refine go_iconst (v := 2) (pc := 776) dL_law_776 (by decide) ?_
  refine go_iadd (pc := 777) dL_law_777 ?_
  refine go_iaB (hN := (by omega)) (pc := 778) dL_law_778 hb (by exact ⟨nI_add _ 2, by omega⟩) ?_
  refine go_V2I (pc := 779) v_L_174 rfl rfl (rcv_of (ci := 7) (co0 hN.2.2.2.1) rfl) dL_law_779 (wq_sit (k := 2000) hN hR.1 (by decide) _ _) (fun v_779 σ n h => ?_) (hR := ⟨Nat.le_of_ble_eq_true rfl, Nat.le_of_ble_eq_true rfl⟩) (hC := ⟨by show cells + 0 ≤ 601024; omega, by show slots + 0 ≤ 7293034; omega⟩)
  obtain ⟨hv1, rfl, hN2, hM2⟩ := h
  obtain ⟨fo, hfo⟩ := hN2.2.2.1
  have hb := hN2.2.1
  have hQ : LwR Γ _ b a L xs ro _ G im A Nm KI F K A Nm 0 (fo 0) 0 _ _ := ⟨rfl, Nat.le_refl _, hN2, ⟨fo, hfo, fun _ => rfl⟩, hM2⟩
  refine go_aload_n (pc := 782) dL_law_782 rfl ?_
  refine go_aload_n (pc := 783) dL_law_783 rfl ?_
  refine go_iload (pc := 784) dL_law_784 rfl ?_
  refine go_iconst (v := 1) (pc := 786) dL_law_786 (by decide) ?_
  refine go_iadd (pc := 787) dL_law_787 ?_
  refine go_iaB (hN := (by omega)) (pc := 788) dL_law_788 hb (by exact ⟨nI_add _ 1, by omega⟩) ?_
  refine go_aload_n (pc := 789) dL_law_789 rfl ?_
  refine go_iload (pc := 790) dL_law_790 rfl ?_
  refine go_iconst (v := 2) (pc := 792) dL_law_792 (by decide) ?_
  refine go_iadd (pc := 793) dL_law_793 ?_
  refine go_iaB (hN := (by omega)) (pc := 794) dL_law_794 hb (by exact ⟨nI_add _ 2, by omega⟩) ?_
  refine go_V2I (pc := 795) v_L_177 rfl rfl (rcv_of (ci := 8) hQ.2.2.2.2.1 rfl) dL_law_795 (sp_sit (k := 2000) hQ.2.2.2.2 (by decide) hG.D _ _) (fun v_795 σ n h => ?_) (hR := ⟨Nat.le_of_ble_eq_true rfl, Nat.le_of_ble_eq_true rfl⟩) (hC := ⟨by show cells + 0 + 0 ≤ 601024; omega, by show slots + 0 + 0 ≤ 7293034; omega⟩)
  obtain ⟨hv2, hJ⟩ := h
  obtain ⟨rfl, hI2, -⟩ := la_r hR hQ rfl rfl rfl hJ
  refine go_icmp_eq (tgt := 2749) (pc := 798) dL_law_798 (by decide) (fun h_798 => ?_) (fun h_798 => by exfalso; exact h_798 (hv1.trans hv2.symm))
  exact go_wide (c2 := cells + 910) (s2 := slots + 12700) (by show cells + 0 + 0 ≤ cells + 910; omega) (by show slots + 0 + 0 ≤ slots + 12700; omega) (kk _ _ _ _ _ hI2)
theorem la_swap {Γ : gam} {Q : qp} {σ : sto} {n b a L m cells slots : Nat} {xs : row} {x5 x6 x7 : Option Value} (hI : LI Γ σ n b a L xs) (hL : 6 * m + 6 ≤ L) (hL2 : L ≤ 3072) (hc : cells + 910 ≤ 601024) (hs : slots + 12700 ≤ 7293034) (kk : ∀ σ' n' y5 y6 y7, LI Γ σ' n' b a L xs → Go Γ RL1 uL_law Q (cells + 910) (slots + 12700) 2749 [some (.ref b), some (.ref a), some (.ref (a + 114)), some (.ref (a + 131)), some (.int (nI (6 * m))), y5, y6, y7] [] σ' n') : Go Γ RL1 uL_law Q cells slots 803 [some (.ref b), some (.ref a), some (.ref (a + 114)), some (.ref (a + 131)), some (.int (nI (6 * m))), x5, x6, x7] [] σ n := by
  obtain ⟨ro, F, K, G, im, A, Nm, KI, hN, hR⟩ := hI
  have hb := hN.2.1
  have hG : GK K := hN.2.2.2.2.2.1
  have hT : okT (A 14) (A 15) := hN.2.2.2.2.2.2.2.2.2.1
  refine go_aload_n (pc := 803) dL_law_803 rfl ?_
  refine go_aload_n (pc := 804) dL_law_804 rfl ?_
  refine go_iload (pc := 805) dL_law_805 rfl ?_
  refine go_iconst (v := 1) (pc := 807) dL_law_807 (by decide) ?_
  refine go_iadd (pc := 808) dL_law_808 ?_
  refine go_iaB (hN := (by omega)) (pc := 809) dL_law_809 hb (by exact ⟨nI_add _ 1, by omega⟩) ?_
  refine go_aload_n (pc := 810) dL_law_810 rfl ?_
  refine go_iload (pc := 811) dL_law_811 rfl ?_
  refine go_iconst (v := 2) (pc := 813) dL_law_813 (by decide) ?_
  refine go_iadd (pc := 814) dL_law_814 ?_
  refine go_iaB (hN := (by omega)) (pc := 815) dL_law_815 hb (by exact ⟨nI_add _ 2, by omega⟩) ?_
  refine go_V2I (pc := 816) v_L_178 rfl rfl (rcv_of (ci := 7) (co0 hN.2.2.2.1) rfl) dL_law_816 (wq_swap (k := 2000) hN hR.1 (by decide) _ _) (fun v_816 σ n h => ?_) (hR := ⟨Nat.le_of_ble_eq_true rfl, Nat.le_of_ble_eq_true rfl⟩) (hC := ⟨by show cells + 0 ≤ 601024; omega, by show slots + 0 ≤ 7293034; omega⟩)
  obtain ⟨hv1, rfl, hN2, hM2⟩ := h
  obtain ⟨fo, hfo⟩ := hN2.2.2.1
  have hb := hN2.2.1
  have hQ : LwR Γ _ b a L xs ro _ G im A Nm KI F K A Nm 0 (fo 0) 0 _ _ := ⟨rfl, Nat.le_refl _, hN2, ⟨fo, hfo, fun _ => rfl⟩, hM2⟩
  refine go_aload_n (pc := 819) dL_law_819 rfl ?_
  refine go_aload_n (pc := 820) dL_law_820 rfl ?_
  refine go_iload (pc := 821) dL_law_821 rfl ?_
  refine go_iconst (v := 1) (pc := 823) dL_law_823 (by decide) ?_
  refine go_iadd (pc := 824) dL_law_824 ?_
  refine go_iaB (hN := (by omega)) (pc := 825) dL_law_825 hb (by exact ⟨nI_add _ 1, by omega⟩) ?_
  refine go_aload_n (pc := 826) dL_law_826 rfl ?_
  refine go_iload (pc := 827) dL_law_827 rfl ?_
  refine go_iconst (v := 2) (pc := 829) dL_law_829 (by decide) ?_
  refine go_iadd (pc := 830) dL_law_830 ?_
  refine go_iaB (hN := (by omega)) (pc := 831) dL_law_831 hb (by exact ⟨nI_add _ 2, by omega⟩) ?_
  refine go_V2I (pc := 832) v_L_181 rfl rfl (rcv_of (ci := 8) hQ.2.2.2.2.1 rfl) dL_law_832 (sp_swap (k := 2000) hQ.2.2.2.2 (by decide) hG.D _ _) (fun v_832 σ n h => ?_) (hR := ⟨Nat.le_of_ble_eq_true rfl, Nat.le_of_ble_eq_true rfl⟩) (hC := ⟨by show cells + 0 + 0 ≤ 601024; omega, by show slots + 0 + 0 ≤ 7293034; omega⟩)
  obtain ⟨hv2, hJ⟩ := h
  obtain ⟨rfl, hI2, -⟩ := la_r hR hQ rfl rfl rfl hJ
  refine go_icmp_eq (tgt := 2749) (pc := 835) dL_law_835 (by decide) (fun h_835 => ?_) (fun h_835 => by exfalso; exact h_835 (hv1.trans hv2.symm))
  exact go_wide (c2 := cells + 910) (s2 := slots + 12700) (by show cells + 0 + 0 ≤ cells + 910; omega) (by show slots + 0 + 0 ≤ slots + 12700; omega) (kk _ _ _ _ _ hI2)
theorem la_stir {Γ : gam} {Q : qp} {σ : sto} {n b a L m cells slots : Nat} {xs : row} {x5 x6 x7 : Option Value} (hI : LI Γ σ n b a L xs) (hL : 6 * m + 6 ≤ L) (hL2 : L ≤ 3072) (hc : cells + 910 ≤ 601024) (hs : slots + 12700 ≤ 7293034) (kk : ∀ σ' n' y5 y6 y7, LI Γ σ' n' b a L xs → Go Γ RL1 uL_law Q (cells + 910) (slots + 12700) 2749 [some (.ref b), some (.ref a), some (.ref (a + 114)), some (.ref (a + 131)), some (.int (nI (6 * m))), y5, y6, y7] [] σ' n') : Go Γ RL1 uL_law Q cells slots 1708 [some (.ref b), some (.ref a), some (.ref (a + 114)), some (.ref (a + 131)), some (.int (nI (6 * m))), x5, x6, x7] [] σ n := by
  obtain ⟨ro, F, K, G, im, A, Nm, KI, hN, hR⟩ := hI
  have hb := hN.2.1
  have hG : GK K := hN.2.2.2.2.2.1
  have hT : okT (A 14) (A 15) := hN.2.2.2.2.2.2.2.2.2.1
  refine go_aload_n (pc := 1708) dL_law_1708 rfl ?_
  refine go_V0I (pc := 1709) v_L_224 rfl rfl (rcv_of (ci := 7) (co0 hN.2.2.2.1) rfl) dL_law_1709 (wq_stir (k := 2000) hN hR.1 (by decide) ) (fun v_1709 σ n h => ?_) (hR := ⟨Nat.le_of_ble_eq_true rfl, Nat.le_of_ble_eq_true rfl⟩) (hC := ⟨by show cells + 0 ≤ 601024; omega, by show slots + 0 ≤ 7293034; omega⟩)
  obtain ⟨hv1, rfl, hN2, hM2⟩ := h
  obtain ⟨fo, hfo⟩ := hN2.2.2.1
  have hb := hN2.2.1
  have hQ : LwR Γ _ b a L xs ro _ G im A Nm KI F K A Nm 0 (fo 0) 0 _ _ := ⟨rfl, Nat.le_refl _, hN2, ⟨fo, hfo, fun _ => rfl⟩, hM2⟩
  refine go_aload_n (pc := 1712) dL_law_1712 rfl ?_
  refine go_V0I (pc := 1713) v_L_227 rfl rfl (rcv_of (ci := 8) hQ.2.2.2.2.1 rfl) dL_law_1713 (sp_stir (k := 2000) hQ.2.2.2.2 (by decide) hG.1 hG.2.1.1) (fun v_1713 σ n h => ?_) (hR := ⟨Nat.le_of_ble_eq_true rfl, Nat.le_of_ble_eq_true rfl⟩) (hC := ⟨by show cells + 0 + 0 ≤ 601024; omega, by show slots + 0 + 0 ≤ 7293034; omega⟩)
  obtain ⟨hv2, hJ⟩ := h
  obtain ⟨rfl, hI2, -⟩ := la_r hR hQ rfl rfl rfl hJ
  refine go_icmp_eq (tgt := 2749) (pc := 1716) dL_law_1716 (by decide) (fun h_1716 => ?_) (fun h_1716 => by exfalso; exact h_1716 (hv1.trans hv2.symm))
  exact go_wide (c2 := cells + 910) (s2 := slots + 12700) (by show cells + 0 + 0 ≤ cells + 910; omega) (by show slots + 0 + 0 ≤ slots + 12700; omega) (kk _ _ _ _ _ hI2)
theorem la_heaps {Γ : gam} {Q : qp} {σ : sto} {n b a L m cells slots : Nat} {xs : row} {x5 x6 x7 : Option Value} (hI : LI Γ σ n b a L xs) (hL : 6 * m + 6 ≤ L) (hL2 : L ≤ 3072) (hc : cells + 910 ≤ 601024) (hs : slots + 12700 ≤ 7293034) (kk : ∀ σ' n' y5 y6 y7, LI Γ σ' n' b a L xs → Go Γ RL1 uL_law Q (cells + 910) (slots + 12700) 2749 [some (.ref b), some (.ref a), some (.ref (a + 114)), some (.ref (a + 131)), some (.int (nI (6 * m))), y5, y6, y7] [] σ' n') : Go Γ RL1 uL_law Q cells slots 1913 [some (.ref b), some (.ref a), some (.ref (a + 114)), some (.ref (a + 131)), some (.int (nI (6 * m))), x5, x6, x7] [] σ n := by
  obtain ⟨ro, F, K, G, im, A, Nm, KI, hN, hR⟩ := hI
  have hb := hN.2.1
  have hG : GK K := hN.2.2.2.2.2.1
  have hT : okT (A 14) (A 15) := hN.2.2.2.2.2.2.2.2.2.1
  refine go_aload_n (pc := 1913) dL_law_1913 rfl ?_
  refine go_V0I (pc := 1914) v_L_237 rfl rfl (rcv_of (ci := 7) (co0 hN.2.2.2.1) rfl) dL_law_1914 (wq_heaps (k := 2000) hN hR.1 (by decide) ) (fun v_1914 σ n h => ?_) (hR := ⟨Nat.le_of_ble_eq_true rfl, Nat.le_of_ble_eq_true rfl⟩) (hC := ⟨by show cells + 0 ≤ 601024; omega, by show slots + 0 ≤ 7293034; omega⟩)
  obtain ⟨hv1, rfl, hN2, hM2⟩ := h
  obtain ⟨fo, hfo⟩ := hN2.2.2.1
  have hb := hN2.2.1
  have hQ : LwR Γ _ b a L xs ro _ G im A Nm KI F K A Nm 0 (fo 0) 0 _ _ := ⟨rfl, Nat.le_refl _, hN2, ⟨fo, hfo, fun _ => rfl⟩, hM2⟩
  refine go_aload_n (pc := 1917) dL_law_1917 rfl ?_
  refine go_V0I (pc := 1918) v_L_240 rfl rfl (rcv_of (ci := 8) hQ.2.2.2.2.1 rfl) dL_law_1918 (sp_heaps (k := 2000) hQ.2.2.2.2 (by decide) hG.1 hG.2.1.1) (fun v_1918 σ n h => ?_) (hR := ⟨Nat.le_of_ble_eq_true rfl, Nat.le_of_ble_eq_true rfl⟩) (hC := ⟨by show cells + 0 + 0 ≤ 601024; omega, by show slots + 0 + 0 ≤ 7293034; omega⟩)
  obtain ⟨hv2, hJ⟩ := h
  obtain ⟨rfl, hI2, -⟩ := la_r hR hQ rfl rfl rfl hJ
  refine go_icmp_eq (tgt := 2749) (pc := 1921) dL_law_1921 (by decide) (fun h_1921 => ?_) (fun h_1921 => by exfalso; exact h_1921 (hv1.trans hv2.symm))
  exact go_wide (c2 := cells + 910) (s2 := slots + 12700) (by show cells + 0 + 0 ≤ cells + 910; omega) (by show slots + 0 + 0 ≤ slots + 12700; omega) (kk _ _ _ _ _ hI2)
theorem la_count {Γ : gam} {Q : qp} {σ : sto} {n b a L m cells slots : Nat} {xs : row} {x5 x6 x7 : Option Value} (hI : LI Γ σ n b a L xs) (hL : 6 * m + 6 ≤ L) (hL2 : L ≤ 3072) (hc : cells + 910 ≤ 601024) (hs : slots + 12700 ≤ 7293034) (kk : ∀ σ' n' y5 y6 y7, LI Γ σ' n' b a L xs → Go Γ RL1 uL_law Q (cells + 910) (slots + 12700) 2749 [some (.ref b), some (.ref a), some (.ref (a + 114)), some (.ref (a + 131)), some (.int (nI (6 * m))), y5, y6, y7] [] σ' n') : Go Γ RL1 uL_law Q cells slots 2724 [some (.ref b), some (.ref a), some (.ref (a + 114)), some (.ref (a + 131)), some (.int (nI (6 * m))), x5, x6, x7] [] σ n := by
  obtain ⟨ro, F, K, G, im, A, Nm, KI, hN, hR⟩ := hI
  have hb := hN.2.1
  have hG : GK K := hN.2.2.2.2.2.1
  have hT : okT (A 14) (A 15) := hN.2.2.2.2.2.2.2.2.2.1
  obtain ⟨h1, h2, h3, ⟨b2, D, ⟨⟨ch, co, rw, bk, s1, s2⟩, f2, d2, s3⟩, ⟨ag, pa, pf, lm, lt, lw, g2⟩, g3, g4⟩, h5, h6, h7, -⟩ := hN.2.2.2
  refine go_aload_n (pc := 2724) dL_law_2724 rfl ?_
  refine go_aload_n (pc := 2725) dL_law_2725 rfl ?_
  refine go_iload (pc := 2726) dL_law_2726 rfl ?_
  refine go_iconst (v := 1) (pc := 2728) dL_law_2728 (by decide) ?_
  refine go_iadd (pc := 2729) dL_law_2729 ?_
  refine go_iaB (hN := (by omega)) (pc := 2730) dL_law_2730 hb (by exact ⟨nI_add _ 1, by omega⟩) ?_
  refine go_V1P (pc := 2731) v_L_282 rfl rfl (rcv_of (ci := 7) (co0 hN.2.2.2.1) rfl) dL_law_2731 (cp_count (k := 2000) h1 s1 s2 rfl g2 h3.1 s3 (by decide) _) ?_ (hR := ⟨Nat.le_of_ble_eq_true rfl, Nat.le_of_ble_eq_true rfl⟩) (hC := ⟨by show cells + 0 ≤ 601024; omega, by show slots + 0 ≤ 7293034; omega⟩)
  obtain ⟨fo, hfo⟩ := hN.2.2.1
  have hN2 := hN
  have hM2 := hR.1
  have hQ : LwR Γ _ b a L xs ro _ G im A Nm KI F K A Nm 0 (fo 0) 0 _ _ := ⟨rfl, Nat.le_refl _, hN2, ⟨fo, hfo, fun _ => rfl⟩, hM2⟩
  refine go_aload_n (pc := 2734) dL_law_2734 rfl ?_
  refine go_aload_n (pc := 2735) dL_law_2735 rfl ?_
  refine go_iload (pc := 2736) dL_law_2736 rfl ?_
  refine go_iconst (v := 1) (pc := 2738) dL_law_2738 (by decide) ?_
  refine go_iadd (pc := 2739) dL_law_2739 ?_
  refine go_iaB (hN := (by omega)) (pc := 2740) dL_law_2740 hb (by exact ⟨nI_add _ 1, by omega⟩) ?_
  refine go_V1I (pc := 2741) v_L_285 rfl rfl (rcv_of (ci := 8) hQ.2.2.2.2.1 rfl) dL_law_2741 (sp_count (k := 2000) hQ.2.2.2.2 (by decide) hG.1 hG.2.1.1 _) (fun v_2741 σ n h => ?_) (hR := ⟨Nat.le_of_ble_eq_true rfl, Nat.le_of_ble_eq_true rfl⟩) (hC := ⟨by show cells + 0 + 0 ≤ 601024; omega, by show slots + 0 + 0 ≤ 7293034; omega⟩)
  obtain ⟨hv2, hJ⟩ := h
  obtain ⟨rfl, hI2, -⟩ := la_r hR hQ rfl rfl rfl hJ
  refine go_icmp_eq (tgt := 2749) (pc := 2744) dL_law_2744 (by decide) (fun h_2744 => ?_) (fun h_2744 => by exfalso; (rw [hR.2.1] at hv2); exact h_2744 hv2.symm)
  exact go_wide (c2 := cells + 910) (s2 := slots + 12700) (by show cells + 0 + 0 ≤ cells + 910; omega) (by show slots + 0 + 0 ≤ slots + 12700; omega) (kk _ _ _ _ _ hI2)
theorem la_fault {Γ : gam} {Q : qp} {σ : sto} {n b a L m cells slots : Nat} {xs : row} {x5 x6 x7 : Option Value} (hI : LI Γ σ n b a L xs) (hL : 6 * m + 6 ≤ L) (hL2 : L ≤ 3072) (hc : cells + 910 ≤ 601024) (hs : slots + 12700 ≤ 7293034) (kk : ∀ σ' n' y5 y6 y7, LI Γ σ' n' b a L xs → Go Γ RL1 uL_law Q (cells + 910) (slots + 12700) 2749 [some (.ref b), some (.ref a), some (.ref (a + 114)), some (.ref (a + 131)), some (.int (nI (6 * m))), y5, y6, y7] [] σ' n') : Go Γ RL1 uL_law Q cells slots 357 [some (.ref b), some (.ref a), some (.ref (a + 114)), some (.ref (a + 131)), some (.int (nI (6 * m))), x5, x6, x7] [] σ n := by
  obtain ⟨ro, F, K, G, im, A, Nm, KI, hN, hR⟩ := hI
  have hb := hN.2.1
  have hG : GK K := hN.2.2.2.2.2.1
  have hT : okT (A 14) (A 15) := hN.2.2.2.2.2.2.2.2.2.1
  obtain ⟨h1, h2, h3, ⟨b2, D, ⟨⟨ch, co, rw, bk, s1, s2⟩, f2, d2, s3⟩, ⟨ag, pa, pf, lm, lt, lw, g2⟩, g3, g4⟩, h5, h6, h7, -⟩ := hN.2.2.2
  refine go_aload_n (pc := 357) dL_law_357 rfl ?_
  refine go_aload_n (pc := 358) dL_law_358 rfl ?_
  refine go_iload (pc := 359) dL_law_359 rfl ?_
  refine go_iconst (v := 1) (pc := 361) dL_law_361 (by decide) ?_
  refine go_iadd (pc := 362) dL_law_362 ?_
  refine go_iaB (hN := (by omega)) (pc := 363) dL_law_363 hb (by exact ⟨nI_add _ 1, by omega⟩) ?_
  refine go_V1P (pc := 364) v_L_149 rfl rfl (rcv_of (ci := 7) (co0 hN.2.2.2.1) rfl) dL_law_364 (cp_fault (k := 2000) h1 _) ?_ (hR := ⟨Nat.le_of_ble_eq_true rfl, Nat.le_of_ble_eq_true rfl⟩) (hC := ⟨by show cells + 0 ≤ 601024; omega, by show slots + 0 ≤ 7293034; omega⟩)
  obtain ⟨fo, hfo⟩ := hN.2.2.1
  have hN2 := hN
  have hM2 := hR.1
  have hQ : LwR Γ _ b a L xs ro _ G im A Nm KI F K A Nm 0 (fo 0) 0 _ _ := ⟨rfl, Nat.le_refl _, hN2, ⟨fo, hfo, fun _ => rfl⟩, hM2⟩
  refine go_aload_n (pc := 367) dL_law_367 rfl ?_
  refine go_aload_n (pc := 368) dL_law_368 rfl ?_
  refine go_iload (pc := 369) dL_law_369 rfl ?_
  refine go_iconst (v := 1) (pc := 371) dL_law_371 (by decide) ?_
  refine go_iadd (pc := 372) dL_law_372 ?_
  refine go_iaB (hN := (by omega)) (pc := 373) dL_law_373 hb (by exact ⟨nI_add _ 1, by omega⟩) ?_
  refine go_V1I (pc := 374) v_L_152 rfl rfl (rcv_of (ci := 8) hQ.2.2.2.2.1 rfl) dL_law_374 (sp_fault (k := 2000) hQ.2.2.2.2 _) (fun v_374 σ n h => ?_) (hR := ⟨Nat.le_of_ble_eq_true rfl, Nat.le_of_ble_eq_true rfl⟩) (hC := ⟨by show cells + 0 + 0 ≤ 601024; omega, by show slots + 0 + 0 ≤ 7293034; omega⟩)
  obtain ⟨hv2, hJ⟩ := h
  obtain ⟨rfl, hI2, -⟩ := la_r hR hQ rfl rfl rfl hJ
  refine go_icmp_eq (tgt := 2749) (pc := 377) dL_law_377 (by decide) (fun h_377 => ?_) (fun h_377 => by exfalso; (rw [hR.2.2.1, hR.2.2.2.1] at hv2); exact h_377 hv2.symm)
  exact go_wide (c2 := cells + 910) (s2 := slots + 12700) (by show cells + 0 + 0 ≤ cells + 910; omega) (by show slots + 0 + 0 ≤ slots + 12700; omega) (kk _ _ _ _ _ hI2)
