/-! ===== the law's cases ===== -/
theorem la_minutes {Γ : gam} {Q : qp} {σ : sto} {n b a L m cells slots : Nat} {xs : row} {x5 x6 x7 : Option Value} (hI : LI Γ σ n b a L xs) (hL : 6 * m + 6 ≤ L) (hL2 : L ≤ 3072) (hc : cells + 910 ≤ 601024) (hs : slots + 12700 ≤ 7293034) (kk : ∀ σ' n' y5 y6 y7, LI Γ σ' n' b a L xs → Go Γ RL1 uL_law Q (cells + 910) (slots + 12700) 2749 [some (.ref b), some (.ref a), some (.ref (a + 114)), some (.ref (a + 131)), some (.int (nI (6 * m))), y5, y6, y7] [] σ' n') : Go Γ RL1 uL_law Q cells slots 840 [some (.ref b), some (.ref a), some (.ref (a + 114)), some (.ref (a + 131)), some (.int (nI (6 * m))), x5, x6, x7] [] σ n := by
  obtain ⟨ro, F, K, G, im, A, Nm, KI, hN, hR⟩ := hI
  have hb := hN.2.1
  have hG : GK K := hN.2.2.2.2.2.1
  have hT : okT (A 14) (A 15) := hN.2.2.2.2.2.2.2.2.2.1
  refine go_aload_n (pc := 840) dL_law_840 rfl ?_
  refine go_aload_n (pc := 841) dL_law_841 rfl ?_
  refine go_iload (pc := 842) dL_law_842 rfl ?_
  refine go_iconst (v := 1) (pc := 844) dL_law_844 (by decide) ?_
  refine go_iadd (pc := 845) dL_law_845 ?_
  refine go_iaB (hN := (by omega)) (pc := 846) dL_law_846 hb (by exact ⟨nI_add _ 1, by omega⟩) ?_
  refine go_aload_n (pc := 847) dL_law_847 rfl ?_
  refine go_WI (As := [.ref a, .int _, .ref (a + 131)]) (rest := []) (pc := 848) s_L_182 rfl rfl rfl dL_law_848 (wq_minutes (k := 2000) hN hR.1 (by decide) _) ⟨Nat.le_of_ble_eq_true rfl, Nat.le_of_ble_eq_true rfl⟩ ⟨by show cells + 2 ≤ 601024; omega, by show slots + 12 ≤ 7293034; omega⟩ (Nat.le_of_ble_eq_true rfl) (fun r9 σ1 n1 hQ => ?_)
  have hb := hQ.2.2.1.2.1
  clear hN
  refine go_istore (lw := [_, _, _, _, _, _, _, _]) (pc := 851) dL_law_851 (by decide) rfl ?_
  refine go_aload_n (pc := 853) dL_law_853 rfl ?_
  refine go_aload_n (pc := 854) dL_law_854 rfl ?_
  refine go_iload (pc := 855) dL_law_855 rfl ?_
  refine go_iconst (v := 1) (pc := 857) dL_law_857 (by decide) ?_
  refine go_iadd (pc := 858) dL_law_858 ?_
  refine go_iaB (hN := (by omega)) (pc := 859) dL_law_859 hb (by exact ⟨nI_add _ 1, by omega⟩) ?_
  refine go_V1I (pc := 860) v_L_184 rfl rfl (rcv_of (ci := 8) hQ.2.2.2.2.1 rfl) dL_law_860 (sp_minutes (k := 2000) hQ.2.2.2.2 (by decide) hG.D hG.2.2.2.1 _) (fun v_860 σ n h => ?_) (hR := ⟨Nat.le_of_ble_eq_true rfl, Nat.le_of_ble_eq_true rfl⟩) (hC := ⟨by show cells + 2 + 0 ≤ 601024; omega, by show slots + 12 + 0 ≤ 7293034; omega⟩)
  obtain ⟨hv, hJ⟩ := h
  obtain ⟨rfl, hI2, ⟨F2, A2, hM2, hF4⟩, fo, ho2, hv2⟩ := la_r hR hQ rfl rfl rfl hJ
  refine go_istore (lw := [_, _, _, _, _, _, _, _]) (pc := 863) dL_law_863 (by decide) rfl ?_
  refine go_aload_n (pc := 865) dL_law_865 rfl ?_
  refine go_V0P (pc := 866) v_L_145 rfl rfl (rcv_of (ci := 8) hM2.1 rfl) dL_law_866 (sp_thrown (k := 2000) hM2) ?_ (hR := ⟨Nat.le_of_ble_eq_true rfl, Nat.le_of_ble_eq_true rfl⟩) (hC := ⟨by show cells + 2 + 0 + 0 ≤ 601024; omega, by show slots + 12 + 0 + 0 ≤ 7293034; omega⟩)
  refine go_iload (pc := 869) dL_law_869 rfl ?_
  refine go_icmp_eq (tgt := 876) (pc := 871) dL_law_871 (by decide) (fun h_871 => ?_) (fun h_871 => by exfalso; first | exact h_871 hF4 | exact h_871 hF4.symm)
  refine go_iload (pc := 876) dL_law_876 rfl ?_
  refine go_if_ne (tgt := 893) (pc := 878) dL_law_878 (by decide) (fun h_878 => ?_) (fun h_878 => ?_)
  · refine go_goto (tgt := 2749) (pc := 893) dL_law_893 (by decide) ?_
    exact go_wide (c2 := cells + 910) (s2 := slots + 12700) (by show cells + 2 + 0 + 0 ≤ cells + 910; omega) (by show slots + 12 + 0 + 0 ≤ slots + 12700; omega) (kk _ _ _ _ _ hI2)
  · refine go_aload_n (pc := 881) dL_law_881 rfl ?_
    refine go_iconst (v := 0) (pc := 882) dL_law_882 (by decide) ?_
    refine go_lald (j := 0) (pc := 883) dL_law_883 ho2 (by exact ⟨rfl, by decide⟩) ?_
    refine go_iload (pc := 884) dL_law_884 rfl ?_
    refine go_i2l (pc := 886) dL_law_886 ?_
    refine go_lcmp (pc := 887) dL_law_887 ?_
    refine go_if_eq (tgt := 893) (pc := 888) dL_law_888 (by decide) (fun h_888 => ?_) (fun h_888 => by exfalso; (have e0 : r9 = 0 := by first | exact h_878 | exact Decidable.byContradiction h_878); (have e : fo 0 = v_860.toInt64 := by rw [hv]; exact hv2 e0); (simp only [lg_cmp_eq] at h_888); exact h_888 e)
    refine go_goto (tgt := 2749) (pc := 893) dL_law_893 (by decide) ?_
    exact go_wide (c2 := cells + 910) (s2 := slots + 12700) (by show cells + 2 + 0 + 0 ≤ cells + 910; omega) (by show slots + 12 + 0 + 0 ≤ slots + 12700; omega) (kk _ _ _ _ _ hI2)
theorem la_undo {Γ : gam} {Q : qp} {σ : sto} {n b a L m cells slots : Nat} {xs : row} {x5 x6 x7 : Option Value} (hI : LI Γ σ n b a L xs) (hL : 6 * m + 6 ≤ L) (hL2 : L ≤ 3072) (hc : cells + 910 ≤ 601024) (hs : slots + 12700 ≤ 7293034) (kk : ∀ σ' n' y5 y6 y7, LI Γ σ' n' b a L xs → Go Γ RL1 uL_law Q (cells + 910) (slots + 12700) 2749 [some (.ref b), some (.ref a), some (.ref (a + 114)), some (.ref (a + 131)), some (.int (nI (6 * m))), y5, y6, y7] [] σ' n') : Go Γ RL1 uL_law Q cells slots 896 [some (.ref b), some (.ref a), some (.ref (a + 114)), some (.ref (a + 131)), some (.int (nI (6 * m))), x5, x6, x7] [] σ n := by
  obtain ⟨ro, F, K, G, im, A, Nm, KI, hN, hR⟩ := hI
  have hb := hN.2.1
  have hG : GK K := hN.2.2.2.2.2.1
  have hT : okT (A 14) (A 15) := hN.2.2.2.2.2.2.2.2.2.1
  refine go_aload_n (pc := 896) dL_law_896 rfl ?_
  refine go_aload_n (pc := 897) dL_law_897 rfl ?_
  refine go_iload (pc := 898) dL_law_898 rfl ?_
  refine go_iconst (v := 1) (pc := 900) dL_law_900 (by decide) ?_
  refine go_iadd (pc := 901) dL_law_901 ?_
  refine go_iaB (hN := (by omega)) (pc := 902) dL_law_902 hb (by exact ⟨nI_add _ 1, by omega⟩) ?_
  refine go_aload_n (pc := 903) dL_law_903 rfl ?_
  refine go_WI (As := [.ref a, .int _, .ref (a + 131)]) (rest := []) (pc := 904) s_L_185 rfl rfl rfl dL_law_904 (wq_undo (k := 2000) hN hR.1 (by decide) _) ⟨Nat.le_of_ble_eq_true rfl, Nat.le_of_ble_eq_true rfl⟩ ⟨by show cells + 2 ≤ 601024; omega, by show slots + 12 ≤ 7293034; omega⟩ (Nat.le_of_ble_eq_true rfl) (fun r9 σ1 n1 hQ => ?_)
  have hb := hQ.2.2.1.2.1
  clear hN
  refine go_istore (lw := [_, _, _, _, _, _, _, _]) (pc := 907) dL_law_907 (by decide) rfl ?_
  refine go_aload_n (pc := 909) dL_law_909 rfl ?_
  refine go_aload_n (pc := 910) dL_law_910 rfl ?_
  refine go_iload (pc := 911) dL_law_911 rfl ?_
  refine go_iconst (v := 1) (pc := 913) dL_law_913 (by decide) ?_
  refine go_iadd (pc := 914) dL_law_914 ?_
  refine go_iaB (hN := (by omega)) (pc := 915) dL_law_915 hb (by exact ⟨nI_add _ 1, by omega⟩) ?_
  refine go_V1I (pc := 916) v_L_187 rfl rfl (rcv_of (ci := 8) hQ.2.2.2.2.1 rfl) dL_law_916 (sp_undo (k := 2000) hQ.2.2.2.2 (by decide) hG.D _) (fun v_916 σ n h => ?_) (hR := ⟨Nat.le_of_ble_eq_true rfl, Nat.le_of_ble_eq_true rfl⟩) (hC := ⟨by show cells + 2 + 0 ≤ 601024; omega, by show slots + 12 + 0 ≤ 7293034; omega⟩)
  obtain ⟨hv, hJ⟩ := h
  obtain ⟨rfl, hI2, ⟨F2, A2, hM2, hF4⟩, fo, ho2, hv2⟩ := la_r hR hQ rfl rfl rfl hJ
  refine go_istore (lw := [_, _, _, _, _, _, _, _]) (pc := 919) dL_law_919 (by decide) rfl ?_
  refine go_aload_n (pc := 921) dL_law_921 rfl ?_
  refine go_V0P (pc := 922) v_L_145 rfl rfl (rcv_of (ci := 8) hM2.1 rfl) dL_law_922 (sp_thrown (k := 2000) hM2) ?_ (hR := ⟨Nat.le_of_ble_eq_true rfl, Nat.le_of_ble_eq_true rfl⟩) (hC := ⟨by show cells + 2 + 0 + 0 ≤ 601024; omega, by show slots + 12 + 0 + 0 ≤ 7293034; omega⟩)
  refine go_iload (pc := 925) dL_law_925 rfl ?_
  refine go_icmp_eq (tgt := 932) (pc := 927) dL_law_927 (by decide) (fun h_927 => ?_) (fun h_927 => by exfalso; first | exact h_927 hF4 | exact h_927 hF4.symm)
  refine go_iload (pc := 932) dL_law_932 rfl ?_
  refine go_if_ne (tgt := 949) (pc := 934) dL_law_934 (by decide) (fun h_934 => ?_) (fun h_934 => ?_)
  · refine go_goto (tgt := 2749) (pc := 949) dL_law_949 (by decide) ?_
    exact go_wide (c2 := cells + 910) (s2 := slots + 12700) (by show cells + 2 + 0 + 0 ≤ cells + 910; omega) (by show slots + 12 + 0 + 0 ≤ slots + 12700; omega) (kk _ _ _ _ _ hI2)
  · refine go_aload_n (pc := 937) dL_law_937 rfl ?_
    refine go_iconst (v := 0) (pc := 938) dL_law_938 (by decide) ?_
    refine go_lald (j := 0) (pc := 939) dL_law_939 ho2 (by exact ⟨rfl, by decide⟩) ?_
    refine go_iload (pc := 940) dL_law_940 rfl ?_
    refine go_i2l (pc := 942) dL_law_942 ?_
    refine go_lcmp (pc := 943) dL_law_943 ?_
    refine go_if_eq (tgt := 949) (pc := 944) dL_law_944 (by decide) (fun h_944 => ?_) (fun h_944 => by exfalso; (have e0 : r9 = 0 := by first | exact h_934 | exact Decidable.byContradiction h_934); (have e : fo 0 = v_916.toInt64 := by rw [hv]; exact hv2 e0); (simp only [lg_cmp_eq] at h_944); exact h_944 e)
    refine go_goto (tgt := 2749) (pc := 949) dL_law_949 (by decide) ?_
    exact go_wide (c2 := cells + 910) (s2 := slots + 12700) (by show cells + 2 + 0 + 0 ≤ cells + 910; omega) (by show slots + 12 + 0 + 0 ≤ slots + 12700; omega) (kk _ _ _ _ _ hI2)
theorem la_perform {Γ : gam} {Q : qp} {σ : sto} {n b a L m cells slots : Nat} {xs : row} {x5 x6 x7 : Option Value} (hI : LI Γ σ n b a L xs) (hL : 6 * m + 6 ≤ L) (hL2 : L ≤ 3072) (hc : cells + 910 ≤ 601024) (hs : slots + 12700 ≤ 7293034) (kk : ∀ σ' n' y5 y6 y7, LI Γ σ' n' b a L xs → Go Γ RL1 uL_law Q (cells + 910) (slots + 12700) 2749 [some (.ref b), some (.ref a), some (.ref (a + 114)), some (.ref (a + 131)), some (.int (nI (6 * m))), y5, y6, y7] [] σ' n') : Go Γ RL1 uL_law Q cells slots 1020 [some (.ref b), some (.ref a), some (.ref (a + 114)), some (.ref (a + 131)), some (.int (nI (6 * m))), x5, x6, x7] [] σ n := by
  obtain ⟨ro, F, K, G, im, A, Nm, KI, hN, hR⟩ := hI
  have hb := hN.2.1
  have hG : GK K := hN.2.2.2.2.2.1
  have hT : okT (A 14) (A 15) := hN.2.2.2.2.2.2.2.2.2.1
  refine go_aload_n (pc := 1020) dL_law_1020 rfl ?_
  refine go_aload_n (pc := 1021) dL_law_1021 rfl ?_
  refine go_iload (pc := 1022) dL_law_1022 rfl ?_
  refine go_iconst (v := 1) (pc := 1024) dL_law_1024 (by decide) ?_
  refine go_iadd (pc := 1025) dL_law_1025 ?_
  refine go_iaB (hN := (by omega)) (pc := 1026) dL_law_1026 hb (by exact ⟨nI_add _ 1, by omega⟩) ?_
  refine go_aload_n (pc := 1027) dL_law_1027 rfl ?_
  refine go_WI (As := [.ref a, .int _, .ref (a + 131)]) (rest := []) (pc := 1028) s_L_191 rfl rfl rfl dL_law_1028 (wq_perform (k := 2000) hN hR.1 (by decide) _) ⟨Nat.le_of_ble_eq_true rfl, Nat.le_of_ble_eq_true rfl⟩ ⟨by show cells + 4 ≤ 601024; omega, by show slots + 24 ≤ 7293034; omega⟩ (Nat.le_of_ble_eq_true rfl) (fun r9 σ1 n1 hQ => ?_)
  have hb := hQ.2.2.1.2.1
  clear hN
  refine go_istore (lw := [_, _, _, _, _, _, _, _]) (pc := 1031) dL_law_1031 (by decide) rfl ?_
  refine go_aload_n (pc := 1033) dL_law_1033 rfl ?_
  refine go_aload_n (pc := 1034) dL_law_1034 rfl ?_
  refine go_iload (pc := 1035) dL_law_1035 rfl ?_
  refine go_iconst (v := 1) (pc := 1037) dL_law_1037 (by decide) ?_
  refine go_iadd (pc := 1038) dL_law_1038 ?_
  refine go_iaB (hN := (by omega)) (pc := 1039) dL_law_1039 hb (by exact ⟨nI_add _ 1, by omega⟩) ?_
  refine go_V1I (pc := 1040) v_L_193 rfl rfl (rcv_of (ci := 8) hQ.2.2.2.2.1 rfl) dL_law_1040 (sp_perform (k := 2000) hQ.2.2.2.2 (by decide) hG.D hT _) (fun v_1040 σ n h => ?_) (hR := ⟨Nat.le_of_ble_eq_true rfl, Nat.le_of_ble_eq_true rfl⟩) (hC := ⟨by show cells + 4 + 0 ≤ 601024; omega, by show slots + 24 + 0 ≤ 7293034; omega⟩)
  obtain ⟨hv, hJ⟩ := h
  obtain ⟨rfl, hI2, ⟨F2, A2, hM2, hF4⟩, fo, ho2, hv2⟩ := la_r hR hQ rfl rfl rfl hJ
  refine go_istore (lw := [_, _, _, _, _, _, _, _]) (pc := 1043) dL_law_1043 (by decide) rfl ?_
  refine go_aload_n (pc := 1045) dL_law_1045 rfl ?_
  refine go_V0P (pc := 1046) v_L_145 rfl rfl (rcv_of (ci := 8) hM2.1 rfl) dL_law_1046 (sp_thrown (k := 2000) hM2) ?_ (hR := ⟨Nat.le_of_ble_eq_true rfl, Nat.le_of_ble_eq_true rfl⟩) (hC := ⟨by show cells + 4 + 0 + 0 ≤ 601024; omega, by show slots + 24 + 0 + 0 ≤ 7293034; omega⟩)
  refine go_iload (pc := 1049) dL_law_1049 rfl ?_
  refine go_icmp_eq (tgt := 1056) (pc := 1051) dL_law_1051 (by decide) (fun h_1051 => ?_) (fun h_1051 => by exfalso; first | exact h_1051 hF4 | exact h_1051 hF4.symm)
  refine go_iload (pc := 1056) dL_law_1056 rfl ?_
  refine go_if_ne (tgt := 1073) (pc := 1058) dL_law_1058 (by decide) (fun h_1058 => ?_) (fun h_1058 => ?_)
  · refine go_goto (tgt := 2749) (pc := 1073) dL_law_1073 (by decide) ?_
    exact go_wide (c2 := cells + 910) (s2 := slots + 12700) (by show cells + 4 + 0 + 0 ≤ cells + 910; omega) (by show slots + 24 + 0 + 0 ≤ slots + 12700; omega) (kk _ _ _ _ _ hI2)
  · refine go_aload_n (pc := 1061) dL_law_1061 rfl ?_
    refine go_iconst (v := 0) (pc := 1062) dL_law_1062 (by decide) ?_
    refine go_lald (j := 0) (pc := 1063) dL_law_1063 ho2 (by exact ⟨rfl, by decide⟩) ?_
    refine go_iload (pc := 1064) dL_law_1064 rfl ?_
    refine go_i2l (pc := 1066) dL_law_1066 ?_
    refine go_lcmp (pc := 1067) dL_law_1067 ?_
    refine go_if_eq (tgt := 1073) (pc := 1068) dL_law_1068 (by decide) (fun h_1068 => ?_) (fun h_1068 => by exfalso; (have e0 : r9 = 0 := by first | exact h_1058 | exact Decidable.byContradiction h_1058); (have e : fo 0 = v_1040.toInt64 := by rw [hv]; exact hv2 e0); (simp only [lg_cmp_eq] at h_1068); exact h_1068 e)
    refine go_goto (tgt := 2749) (pc := 1073) dL_law_1073 (by decide) ?_
    exact go_wide (c2 := cells + 910) (s2 := slots + 12700) (by show cells + 4 + 0 + 0 ≤ cells + 910; omega) (by show slots + 24 + 0 + 0 ≤ slots + 12700; omega) (kk _ _ _ _ _ hI2)
theorem la_afternoon {Γ : gam} {Q : qp} {σ : sto} {n b a L m cells slots : Nat} {xs : row} {x5 x6 x7 : Option Value} (hI : LI Γ σ n b a L xs) (hL : 6 * m + 6 ≤ L) (hL2 : L ≤ 3072) (hc : cells + 910 ≤ 601024) (hs : slots + 12700 ≤ 7293034) (kk : ∀ σ' n' y5 y6 y7, LI Γ σ' n' b a L xs → Go Γ RL1 uL_law Q (cells + 910) (slots + 12700) 2749 [some (.ref b), some (.ref a), some (.ref (a + 114)), some (.ref (a + 131)), some (.int (nI (6 * m))), y5, y6, y7] [] σ' n') : Go Γ RL1 uL_law Q cells slots 1076 [some (.ref b), some (.ref a), some (.ref (a + 114)), some (.ref (a + 131)), some (.int (nI (6 * m))), x5, x6, x7] [] σ n := by
  obtain ⟨ro, F, K, G, im, A, Nm, KI, hN, hR⟩ := hI
  have hb := hN.2.1
  have hG : GK K := hN.2.2.2.2.2.1
  have hT : okT (A 14) (A 15) := hN.2.2.2.2.2.2.2.2.2.1
  refine go_aload_n (pc := 1076) dL_law_1076 rfl ?_
  refine go_aload_n (pc := 1077) dL_law_1077 rfl ?_
  refine go_iload (pc := 1078) dL_law_1078 rfl ?_
  refine go_iconst (v := 1) (pc := 1080) dL_law_1080 (by decide) ?_
  refine go_iadd (pc := 1081) dL_law_1081 ?_
  refine go_iaB (hN := (by omega)) (pc := 1082) dL_law_1082 hb (by exact ⟨nI_add _ 1, by omega⟩) ?_
  refine go_aload_n (pc := 1083) dL_law_1083 rfl ?_
  refine go_iload (pc := 1084) dL_law_1084 rfl ?_
  refine go_iconst (v := 2) (pc := 1086) dL_law_1086 (by decide) ?_
  refine go_iadd (pc := 1087) dL_law_1087 ?_
  refine go_iaB (hN := (by omega)) (pc := 1088) dL_law_1088 hb (by exact ⟨nI_add _ 2, by omega⟩) ?_
  refine go_aload_n (pc := 1089) dL_law_1089 rfl ?_
  refine go_WI (As := [.ref a, .int _, .int _, .ref (a + 131)]) (rest := []) (pc := 1090) s_L_194 rfl rfl rfl dL_law_1090 (wq_afternoon (k := 2000) hN hR.1 (by decide) _ _) ⟨Nat.le_of_ble_eq_true rfl, Nat.le_of_ble_eq_true rfl⟩ ⟨by show cells + 2 ≤ 601024; omega, by show slots + 12 ≤ 7293034; omega⟩ (Nat.le_of_ble_eq_true rfl) (fun r9 σ1 n1 hQ => ?_)
  obtain ⟨G2, hg2, hQ⟩ := hQ
  have hb := hQ.2.2.1.2.1
  clear hN
  refine go_istore (lw := [_, _, _, _, _, _, _, _]) (pc := 1093) dL_law_1093 (by decide) rfl ?_
  refine go_aload_n (pc := 1095) dL_law_1095 rfl ?_
  refine go_aload_n (pc := 1096) dL_law_1096 rfl ?_
  refine go_iload (pc := 1097) dL_law_1097 rfl ?_
  refine go_iconst (v := 1) (pc := 1099) dL_law_1099 (by decide) ?_
  refine go_iadd (pc := 1100) dL_law_1100 ?_
  refine go_iaB (hN := (by omega)) (pc := 1101) dL_law_1101 hb (by exact ⟨nI_add _ 1, by omega⟩) ?_
  refine go_aload_n (pc := 1102) dL_law_1102 rfl ?_
  refine go_iload (pc := 1103) dL_law_1103 rfl ?_
  refine go_iconst (v := 2) (pc := 1105) dL_law_1105 (by decide) ?_
  refine go_iadd (pc := 1106) dL_law_1106 ?_
  refine go_iaB (hN := (by omega)) (pc := 1107) dL_law_1107 hb (by exact ⟨nI_add _ 2, by omega⟩) ?_
  refine go_V2I (pc := 1108) v_L_196 rfl rfl (rcv_of (ci := 8) hQ.2.2.2.2.1 rfl) dL_law_1108 (sp_afternoon (k := 2000) hQ.2.2.2.2 (by decide) hG.D _ _) (fun v_1108 σ n h => ?_) (hR := ⟨Nat.le_of_ble_eq_true rfl, Nat.le_of_ble_eq_true rfl⟩) (hC := ⟨by show cells + 2 + 0 ≤ 601024; omega, by show slots + 12 + 0 ≤ 7293034; omega⟩)
  obtain ⟨hv, hJ⟩ := h
  obtain ⟨rfl, hI2, ⟨F2, A2, hM2, hF4⟩, fo, ho2, hv2⟩ := la_r hR hQ (hg2 1 (by omega)) (hg2 2 (by omega)) (hg2 3 (by omega)) hJ
  refine go_istore (lw := [_, _, _, _, _, _, _, _]) (pc := 1111) dL_law_1111 (by decide) rfl ?_
  refine go_aload_n (pc := 1113) dL_law_1113 rfl ?_
  refine go_V0P (pc := 1114) v_L_145 rfl rfl (rcv_of (ci := 8) hM2.1 rfl) dL_law_1114 (sp_thrown (k := 2000) hM2) ?_ (hR := ⟨Nat.le_of_ble_eq_true rfl, Nat.le_of_ble_eq_true rfl⟩) (hC := ⟨by show cells + 2 + 0 + 0 ≤ 601024; omega, by show slots + 12 + 0 + 0 ≤ 7293034; omega⟩)
  refine go_iload (pc := 1117) dL_law_1117 rfl ?_
  refine go_icmp_eq (tgt := 1124) (pc := 1119) dL_law_1119 (by decide) (fun h_1119 => ?_) (fun h_1119 => by exfalso; first | exact h_1119 hF4 | exact h_1119 hF4.symm)
  refine go_iload (pc := 1124) dL_law_1124 rfl ?_
  refine go_if_ne (tgt := 1141) (pc := 1126) dL_law_1126 (by decide) (fun h_1126 => ?_) (fun h_1126 => ?_)
  · refine go_goto (tgt := 2749) (pc := 1141) dL_law_1141 (by decide) ?_
    exact go_wide (c2 := cells + 910) (s2 := slots + 12700) (by show cells + 2 + 0 + 0 ≤ cells + 910; omega) (by show slots + 12 + 0 + 0 ≤ slots + 12700; omega) (kk _ _ _ _ _ hI2)
  · refine go_aload_n (pc := 1129) dL_law_1129 rfl ?_
    refine go_iconst (v := 0) (pc := 1130) dL_law_1130 (by decide) ?_
    refine go_lald (j := 0) (pc := 1131) dL_law_1131 ho2 (by exact ⟨rfl, by decide⟩) ?_
    refine go_iload (pc := 1132) dL_law_1132 rfl ?_
    refine go_i2l (pc := 1134) dL_law_1134 ?_
    refine go_lcmp (pc := 1135) dL_law_1135 ?_
    refine go_if_eq (tgt := 1141) (pc := 1136) dL_law_1136 (by decide) (fun h_1136 => ?_) (fun h_1136 => by exfalso; (have e0 : r9 = 0 := by first | exact h_1126 | exact Decidable.byContradiction h_1126); (have e : fo 0 = v_1108.toInt64 := by rw [hv]; exact hv2 e0); (simp only [lg_cmp_eq] at h_1136); exact h_1136 e)
    refine go_goto (tgt := 2749) (pc := 1141) dL_law_1141 (by decide) ?_
    exact go_wide (c2 := cells + 910) (s2 := slots + 12700) (by show cells + 2 + 0 + 0 ≤ cells + 910; omega) (by show slots + 12 + 0 + 0 ≤ slots + 12700; omega) (kk _ _ _ _ _ hI2)
theorem la_dry {Γ : gam} {Q : qp} {σ : sto} {n b a L m cells slots : Nat} {xs : row} {x5 x6 x7 : Option Value} (hI : LI Γ σ n b a L xs) (hL : 6 * m + 6 ≤ L) (hL2 : L ≤ 3072) (hc : cells + 910 ≤ 601024) (hs : slots + 12700 ≤ 7293034) (kk : ∀ σ' n' y5 y6 y7, LI Γ σ' n' b a L xs → Go Γ RL1 uL_law Q (cells + 910) (slots + 12700) 2749 [some (.ref b), some (.ref a), some (.ref (a + 114)), some (.ref (a + 131)), some (.int (nI (6 * m))), y5, y6, y7] [] σ' n') : Go Γ RL1 uL_law Q cells slots 1926 [some (.ref b), some (.ref a), some (.ref (a + 114)), some (.ref (a + 131)), some (.int (nI (6 * m))), x5, x6, x7] [] σ n := by
  obtain ⟨ro, F, K, G, im, A, Nm, KI, hN, hR⟩ := hI
  have hb := hN.2.1
  have hG : GK K := hN.2.2.2.2.2.1
  have hT : okT (A 14) (A 15) := hN.2.2.2.2.2.2.2.2.2.1
  refine go_aload_n (pc := 1926) dL_law_1926 rfl ?_
  refine go_aload_n (pc := 1927) dL_law_1927 rfl ?_
  refine go_iload (pc := 1928) dL_law_1928 rfl ?_
  refine go_iconst (v := 1) (pc := 1930) dL_law_1930 (by decide) ?_
  refine go_iadd (pc := 1931) dL_law_1931 ?_
  refine go_iaB (hN := (by omega)) (pc := 1932) dL_law_1932 hb (by exact ⟨nI_add _ 1, by omega⟩) ?_
  refine go_aload_n (pc := 1933) dL_law_1933 rfl ?_
  refine go_iload (pc := 1934) dL_law_1934 rfl ?_
  refine go_iconst (v := 2) (pc := 1936) dL_law_1936 (by decide) ?_
  refine go_iadd (pc := 1937) dL_law_1937 ?_
  refine go_iaB (hN := (by omega)) (pc := 1938) dL_law_1938 hb (by exact ⟨nI_add _ 2, by omega⟩) ?_
  refine go_aload_n (pc := 1939) dL_law_1939 rfl ?_
  refine go_iload (pc := 1940) dL_law_1940 rfl ?_
  refine go_iconst (v := 3) (pc := 1942) dL_law_1942 (by decide) ?_
  refine go_iadd (pc := 1943) dL_law_1943 ?_
  refine go_iaB (hN := (by omega)) (pc := 1944) dL_law_1944 hb (by exact ⟨nI_add _ 3, by omega⟩) ?_
  refine go_aload_n (pc := 1945) dL_law_1945 rfl ?_
  refine go_WI (As := [.ref a, .int _, .int _, .int _, .ref (a + 131)]) (rest := []) (pc := 1946) s_L_241 rfl rfl rfl dL_law_1946 (wq_dry (k := 2000) hN hR.1 (by decide) _ _ _) ⟨Nat.le_of_ble_eq_true rfl, Nat.le_of_ble_eq_true rfl⟩ ⟨by show cells + 4 ≤ 601024; omega, by show slots + 24 ≤ 7293034; omega⟩ (Nat.le_of_ble_eq_true rfl) (fun r9 σ1 n1 hQ => ?_)
  have hb := hQ.2.2.1.2.1
  clear hN
  refine go_istore (lw := [_, _, _, _, _, _, _, _]) (pc := 1949) dL_law_1949 (by decide) rfl ?_
  refine go_aload_n (pc := 1951) dL_law_1951 rfl ?_
  refine go_aload_n (pc := 1952) dL_law_1952 rfl ?_
  refine go_iload (pc := 1953) dL_law_1953 rfl ?_
  refine go_iconst (v := 1) (pc := 1955) dL_law_1955 (by decide) ?_
  refine go_iadd (pc := 1956) dL_law_1956 ?_
  refine go_iaB (hN := (by omega)) (pc := 1957) dL_law_1957 hb (by exact ⟨nI_add _ 1, by omega⟩) ?_
  refine go_aload_n (pc := 1958) dL_law_1958 rfl ?_
  refine go_iload (pc := 1959) dL_law_1959 rfl ?_
  refine go_iconst (v := 2) (pc := 1961) dL_law_1961 (by decide) ?_
  refine go_iadd (pc := 1962) dL_law_1962 ?_
  refine go_iaB (hN := (by omega)) (pc := 1963) dL_law_1963 hb (by exact ⟨nI_add _ 2, by omega⟩) ?_
  refine go_aload_n (pc := 1964) dL_law_1964 rfl ?_
  refine go_iload (pc := 1965) dL_law_1965 rfl ?_
  refine go_iconst (v := 3) (pc := 1967) dL_law_1967 (by decide) ?_
  refine go_iadd (pc := 1968) dL_law_1968 ?_
  refine go_iaB (hN := (by omega)) (pc := 1969) dL_law_1969 hb (by exact ⟨nI_add _ 3, by omega⟩) ?_
  refine go_V3L (pc := 1970) v_L_243 rfl rfl (rcv_of (ci := 8) hQ.2.2.2.2.1 rfl) dL_law_1970 (sp_dry (k := 2000) hQ.2.2.2.2 (by decide) hG.1 hG.2.1.1 _ _ _) (fun v_1970 σ n h => ?_) (hR := ⟨Nat.le_of_ble_eq_true rfl, Nat.le_of_ble_eq_true rfl⟩) (hC := ⟨by show cells + 4 + 0 ≤ 601024; omega, by show slots + 24 + 0 ≤ 7293034; omega⟩)
  obtain ⟨hv, hJ⟩ := h
  obtain ⟨rfl, hI2, ⟨F2, A2, hM2, hF4⟩, fo, ho2, hv2⟩ := la_r hR hQ rfl rfl rfl hJ
  refine go_lstore (lw := [_, _, _, _, _, _, _, _]) (pc := 1973) dL_law_1973 (by decide) rfl ?_
  refine go_aload_n (pc := 1975) dL_law_1975 rfl ?_
  refine go_V0P (pc := 1976) v_L_145 rfl rfl (rcv_of (ci := 8) hM2.1 rfl) dL_law_1976 (sp_thrown (k := 2000) hM2) ?_ (hR := ⟨Nat.le_of_ble_eq_true rfl, Nat.le_of_ble_eq_true rfl⟩) (hC := ⟨by show cells + 4 + 0 + 0 ≤ 601024; omega, by show slots + 24 + 0 + 0 ≤ 7293034; omega⟩)
  refine go_iload (pc := 1979) dL_law_1979 rfl ?_
  refine go_icmp_eq (tgt := 1986) (pc := 1981) dL_law_1981 (by decide) (fun h_1981 => ?_) (fun h_1981 => by exfalso; first | exact h_1981 hF4 | exact h_1981 hF4.symm)
  refine go_iload (pc := 1986) dL_law_1986 rfl ?_
  refine go_if_ne (tgt := 2002) (pc := 1988) dL_law_1988 (by decide) (fun h_1988 => ?_) (fun h_1988 => ?_)
  · refine go_goto (tgt := 2749) (pc := 2002) dL_law_2002 (by decide) ?_
    exact go_wide (c2 := cells + 910) (s2 := slots + 12700) (by show cells + 4 + 0 + 0 ≤ cells + 910; omega) (by show slots + 24 + 0 + 0 ≤ slots + 12700; omega) (kk _ _ _ _ _ hI2)
  · refine go_aload_n (pc := 1991) dL_law_1991 rfl ?_
    refine go_iconst (v := 0) (pc := 1992) dL_law_1992 (by decide) ?_
    refine go_lald (j := 0) (pc := 1993) dL_law_1993 ho2 (by exact ⟨rfl, by decide⟩) ?_
    refine go_lload (pc := 1994) dL_law_1994 rfl ?_
    refine go_lcmp (pc := 1996) dL_law_1996 ?_
    refine go_if_eq (tgt := 2002) (pc := 1997) dL_law_1997 (by decide) (fun h_1997 => ?_) (fun h_1997 => by exfalso; (have e0 : r9 = 0 := by first | exact h_1988 | exact Decidable.byContradiction h_1988); (have e : fo 0 = v_1970 := by rw [hv]; exact hv2 e0); (simp only [lg_cmp_eq] at h_1997); exact h_1997 e)
    refine go_goto (tgt := 2749) (pc := 2002) dL_law_2002 (by decide) ?_
    exact go_wide (c2 := cells + 910) (s2 := slots + 12700) (by show cells + 4 + 0 + 0 ≤ cells + 910; omega) (by show slots + 24 + 0 + 0 ≤ slots + 12700; omega) (kk _ _ _ _ _ hI2)
theorem la_moves {Γ : gam} {Q : qp} {σ : sto} {n b a L m cells slots : Nat} {xs : row} {x5 x6 x7 : Option Value} (hI : LI Γ σ n b a L xs) (hL : 6 * m + 6 ≤ L) (hL2 : L ≤ 3072) (hc : cells + 910 ≤ 601024) (hs : slots + 12700 ≤ 7293034) (kk : ∀ σ' n' y5 y6 y7, LI Γ σ' n' b a L xs → Go Γ RL1 uL_law Q (cells + 910) (slots + 12700) 2749 [some (.ref b), some (.ref a), some (.ref (a + 114)), some (.ref (a + 131)), some (.int (nI (6 * m))), y5, y6, y7] [] σ' n') : Go Γ RL1 uL_law Q cells slots 574 [some (.ref b), some (.ref a), some (.ref (a + 114)), some (.ref (a + 131)), some (.int (nI (6 * m))), x5, x6, x7] [] σ n := by
  obtain ⟨ro, F, K, G, im, A, Nm, KI, hN, hR⟩ := hI
  have hb := hN.2.1
  have hG : GK K := hN.2.2.2.2.2.1
  have hT : okT (A 14) (A 15) := hN.2.2.2.2.2.2.2.2.2.1
  refine go_aload_n (pc := 574) dL_law_574 rfl ?_
  refine go_aload_n (pc := 575) dL_law_575 rfl ?_
  refine go_iload (pc := 576) dL_law_576 rfl ?_
  refine go_iconst (v := 1) (pc := 578) dL_law_578 (by decide) ?_
  refine go_iadd (pc := 579) dL_law_579 ?_
  refine go_iaB (hN := (by omega)) (pc := 580) dL_law_580 hb (by exact ⟨nI_add _ 1, by omega⟩) ?_
  refine go_aload_n (pc := 581) dL_law_581 rfl ?_
  refine go_iload (pc := 582) dL_law_582 rfl ?_
  refine go_iconst (v := 2) (pc := 584) dL_law_584 (by decide) ?_
  refine go_iadd (pc := 585) dL_law_585 ?_
  refine go_iaB (hN := (by omega)) (pc := 586) dL_law_586 hb (by exact ⟨nI_add _ 2, by omega⟩) ?_
  refine go_aload_n (pc := 587) dL_law_587 rfl ?_
  refine go_iload (pc := 588) dL_law_588 rfl ?_
  refine go_iconst (v := 3) (pc := 590) dL_law_590 (by decide) ?_
  refine go_iadd (pc := 591) dL_law_591 ?_
  refine go_iaB (hN := (by omega)) (pc := 592) dL_law_592 hb (by exact ⟨nI_add _ 3, by omega⟩) ?_
  refine go_aload_n (pc := 593) dL_law_593 rfl ?_
  refine go_WI (As := [.ref a, .int _, .int _, .int _, .ref (a + 131)]) (rest := []) (pc := 594) s_L_163 rfl rfl rfl dL_law_594 (wq_moves (k := 2000) hN hR.1 (by decide) _ _ _) ⟨Nat.le_of_ble_eq_true rfl, Nat.le_of_ble_eq_true rfl⟩ ⟨by show cells + 4 ≤ 601024; omega, by show slots + 24 ≤ 7293034; omega⟩ (Nat.le_of_ble_eq_true rfl) (fun r9 σ1 n1 hQ => ?_)
  have hb := hQ.2.2.1.2.1
  clear hN
  refine go_istore (lw := [_, _, _, _, _, _, _, _]) (pc := 597) dL_law_597 (by decide) rfl ?_
  refine go_aload_n (pc := 599) dL_law_599 rfl ?_
  refine go_aload_n (pc := 600) dL_law_600 rfl ?_
  refine go_iload (pc := 601) dL_law_601 rfl ?_
  refine go_iconst (v := 1) (pc := 603) dL_law_603 (by decide) ?_
  refine go_iadd (pc := 604) dL_law_604 ?_
  refine go_iaB (hN := (by omega)) (pc := 605) dL_law_605 hb (by exact ⟨nI_add _ 1, by omega⟩) ?_
  refine go_aload_n (pc := 606) dL_law_606 rfl ?_
  refine go_iload (pc := 607) dL_law_607 rfl ?_
  refine go_iconst (v := 2) (pc := 609) dL_law_609 (by decide) ?_
  refine go_iadd (pc := 610) dL_law_610 ?_
  refine go_iaB (hN := (by omega)) (pc := 611) dL_law_611 hb (by exact ⟨nI_add _ 2, by omega⟩) ?_
  refine go_aload_n (pc := 612) dL_law_612 rfl ?_
  refine go_iload (pc := 613) dL_law_613 rfl ?_
  refine go_iconst (v := 3) (pc := 615) dL_law_615 (by decide) ?_
  refine go_iadd (pc := 616) dL_law_616 ?_
  refine go_iaB (hN := (by omega)) (pc := 617) dL_law_617 hb (by exact ⟨nI_add _ 3, by omega⟩) ?_
  refine go_V3I (pc := 618) v_L_166 rfl rfl (rcv_of (ci := 8) hQ.2.2.2.2.1 rfl) dL_law_618 (sp_moves (k := 2000) hQ.2.2.2.2 (by decide) hG.1 hG.2.1.1 _ _ _) (fun v_618 σ n h => ?_) (hR := ⟨Nat.le_of_ble_eq_true rfl, Nat.le_of_ble_eq_true rfl⟩) (hC := ⟨by show cells + 4 + 0 ≤ 601024; omega, by show slots + 24 + 0 ≤ 7293034; omega⟩)
  obtain ⟨hv, hJ⟩ := h
  obtain ⟨rfl, hI2, ⟨F2, A2, hM2, hF4⟩, fo, ho2, hv2⟩ := la_r hR hQ rfl rfl rfl hJ
  refine go_istore (lw := [_, _, _, _, _, _, _, _]) (pc := 621) dL_law_621 (by decide) rfl ?_
  refine go_aload_n (pc := 623) dL_law_623 rfl ?_
  refine go_V0P (pc := 624) v_L_145 rfl rfl (rcv_of (ci := 8) hM2.1 rfl) dL_law_624 (sp_thrown (k := 2000) hM2) ?_ (hR := ⟨Nat.le_of_ble_eq_true rfl, Nat.le_of_ble_eq_true rfl⟩) (hC := ⟨by show cells + 4 + 0 + 0 ≤ 601024; omega, by show slots + 24 + 0 + 0 ≤ 7293034; omega⟩)
  refine go_iload (pc := 627) dL_law_627 rfl ?_
  refine go_icmp_eq (tgt := 634) (pc := 629) dL_law_629 (by decide) (fun h_629 => ?_) (fun h_629 => by exfalso; first | exact h_629 hF4 | exact h_629 hF4.symm)
  refine go_iload (pc := 634) dL_law_634 rfl ?_
  refine go_if_ne (tgt := 658) (pc := 636) dL_law_636 (by decide) (fun h_636 => ?_) (fun h_636 => ?_)
  · refine go_goto (tgt := 2749) (pc := 658) dL_law_658 (by decide) ?_
    exact go_wide (c2 := cells + 910) (s2 := slots + 12700) (by show cells + 4 + 0 + 0 ≤ cells + 910; omega) (by show slots + 24 + 0 + 0 ≤ slots + 12700; omega) (kk _ _ _ _ _ hI2)
  · refine go_aload_n (pc := 639) dL_law_639 rfl ?_
    refine go_iconst (v := 0) (pc := 640) dL_law_640 (by decide) ?_
    refine go_lald (j := 0) (pc := 641) dL_law_641 ho2 (by exact ⟨rfl, by decide⟩) ?_
    refine go_iload (pc := 642) dL_law_642 rfl ?_
    refine go_if_eq (tgt := 651) (pc := 644) dL_law_644 (by decide) (fun h_644 => ?_) (fun h_644 => ?_)
    · refine go_lconst (v := 0) (pc := 651) dL_law_651 rfl ?_
      refine go_lcmp (pc := 652) dL_law_652 ?_
      refine go_if_eq (tgt := 658) (pc := 653) dL_law_653 (by decide) (fun h_653 => ?_) (fun h_653 => by exfalso; (have e0 : r9 = 0 := by first | exact h_636 | exact Decidable.byContradiction h_636); (have e : fo 0 = _ := hv2 e0); (rw [← hv] at e); (simp only [lg_cmp_eq] at h_653); first | (rw [if_pos h_644] at e; exact h_653 e) | (rw [if_neg h_644] at e; exact h_653 e))
      refine go_goto (tgt := 2749) (pc := 658) dL_law_658 (by decide) ?_
      exact go_wide (c2 := cells + 910) (s2 := slots + 12700) (by show cells + 4 + 0 + 0 ≤ cells + 910; omega) (by show slots + 24 + 0 + 0 ≤ slots + 12700; omega) (kk _ _ _ _ _ hI2)
    · refine go_lconst (v := 1) (pc := 647) dL_law_647 rfl ?_
      refine go_goto (tgt := 652) (pc := 648) dL_law_648 (by decide) ?_
      refine go_lcmp (pc := 652) dL_law_652 ?_
      refine go_if_eq (tgt := 658) (pc := 653) dL_law_653 (by decide) (fun h_653 => ?_) (fun h_653 => by exfalso; (have e0 : r9 = 0 := by first | exact h_636 | exact Decidable.byContradiction h_636); (have e : fo 0 = _ := hv2 e0); (rw [← hv] at e); (simp only [lg_cmp_eq] at h_653); first | (rw [if_pos h_644] at e; exact h_653 e) | (rw [if_neg h_644] at e; exact h_653 e))
      refine go_goto (tgt := 2749) (pc := 658) dL_law_658 (by decide) ?_
      exact go_wide (c2 := cells + 910) (s2 := slots + 12700) (by show cells + 4 + 0 + 0 ≤ cells + 910; omega) (by show slots + 24 + 0 + 0 ≤ slots + 12700; omega) (kk _ _ _ _ _ hI2)
