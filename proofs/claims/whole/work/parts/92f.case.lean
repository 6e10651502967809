/-! ===== the law's cases: image ===== -/
theorem la_image {Γ : gam} {Q : qp} {σ : sto} {n b a L m cells slots : Nat} {xs : row} {x5 x6 x7 : Option Value} (hI : LI Γ σ n b a L xs) (hL : 6 * m + 6 ≤ L) (hL2 : L ≤ 3072) (hc : cells + 910 ≤ 601024) (hs : slots + 12700 ≤ 7293034) (kk : ∀ σ' n' y5 y6 y7, LI Γ σ' n' b a L xs → Go Γ RL1 uL_law Q (cells + 910) (slots + 12700) 2749 [some (.ref b), some (.ref a), some (.ref (a + 114)), some (.ref (a + 131)), some (.int (nI (6 * m))), y5, y6, y7] [] σ' n') : Go Γ RL1 uL_law Q cells slots 2652 [some (.ref b), some (.ref a), some (.ref (a + 114)), some (.ref (a + 131)), some (.int (nI (6 * m))), x5, x6, x7] [] σ n := by
  obtain ⟨ro, F, K, G, im, A, Nm, KI, hN, hR⟩ := hI
  have hb := hN.2.1
  have hG : GK K := hN.2.2.2.2.2.1
  have hT : okT (A 14) (A 15) := hN.2.2.2.2.2.2.2.2.2.1
  refine go_low (fun hl => ?_)
  refine go_aload_n (pc := 2652) dL_law_2652 rfl ?_
  refine go_aload_n (pc := 2653) dL_law_2653 rfl ?_
  refine go_iload (pc := 2654) dL_law_2654 rfl ?_
  refine go_iconst (v := 1) (pc := 2656) dL_law_2656 (by decide) ?_
  refine go_iadd (pc := 2657) dL_law_2657 ?_
  refine go_iaB (hN := (by omega)) (pc := 2658) dL_law_2658 hb (by exact ⟨nI_add _ 1, by omega⟩) ?_
  refine go_WI (As := [.ref a, .int _]) (rest := []) (pc := 2659) s_L_275 rfl rfl rfl dL_law_2659 (wq_image (k := 2000) hN hl hR.1 (by decide) _) ⟨Nat.le_of_ble_eq_true rfl, Nat.le_of_ble_eq_true rfl⟩ ⟨by show cells + 60 ≤ 601024; omega, by show slots + 600 ≤ 7293034; omega⟩ (Nat.le_of_ble_eq_true rfl) (fun r9 σ1 n1 hQ => ?_)
  obtain ⟨ro2, im2, KI2, hn0, hn1, hQ⟩ := hQ
  have hb := hQ.2.2.1.2.1
  refine go_istore (lw := [_, _, _, _, _, _, _, _]) (pc := 2662) dL_law_2662 (by decide) rfl ?_
  refine go_aload_n (pc := 2664) dL_law_2664 rfl ?_
  refine go_aload_n (pc := 2665) dL_law_2665 rfl ?_
  refine go_iload (pc := 2666) dL_law_2666 rfl ?_
  refine go_iconst (v := 1) (pc := 2668) dL_law_2668 (by decide) ?_
  refine go_iadd (pc := 2669) dL_law_2669 ?_
  refine go_iaB (hN := (by omega)) (pc := 2670) dL_law_2670 hb (by exact ⟨nI_add _ 1, by omega⟩) ?_
  refine go_V1V (pc := 2671) v_L_278 rfl rfl (rcv_of (ci := 8) hQ.2.2.2.1 rfl) dL_law_2671 (sp_image (k := 2000) hQ.2.2.2 (by decide) _) (fun σ n h => ?_) (hR := ⟨Nat.le_of_ble_eq_true rfl, Nat.le_of_ble_eq_true rfl⟩) (hC := ⟨by show cells + 60 + 0 ≤ 601024; omega, by show slots + 600 + 0 ≤ 7293034; omega⟩)
  have hE : n = n1 ∧ LI Γ σ n b a L xs ∧ ∃ (F2 : row) (A9 : Nat → row) (K9 : row) (N9 : Nat → Int64), MoAt Γ σ (a + 114) F2 K9 A9 N9 ∧ F2 4 = r9 := by
    rcases h with ⟨h0, hn9, F2, A9, j2, j3, j4, j5, j6, j7⟩ | ⟨h0, hn9, F2, A9, j2, j3, j4, j5, j6, j7, j8, j9⟩
    · obtain ⟨z1, z2⟩ := hn1 h0
      rw [z1, z2] at hQ
      obtain ⟨y1, y2⟩ := la_u hR hQ j2 j3 j4 j6 j7 (j5 5 (by decide)) (j5 14 (by decide)) (j5 15 (by decide)) (j5 3 (by decide)) (j5 4 (by decide))
      exact ⟨hn9, by rw [hn9]; exact y1, F2, A9, K, _, j2, y2⟩
    · obtain ⟨hi, ⟨x, i1⟩, i2, z4⟩ := hn0 h0
      have hr2 := hR.img j2 hi j7 (j4 14 (by omega) (by omega) (by omega) (by omega)) (j4 15 (by omega) (by omega) (by omega) (by omega)) i1 i2 j8 j9
      rw [← z4] at hr2
      have y1 : LI Γ σ n1 b a L xs := ⟨ro2, F2, K, G, im2, A9, Nm, KI2, lc_ref hQ.2.2.1 j6 (j5 5 (by decide)) (j5 14 (by decide)) (j5 15 (by decide)), hr2⟩
      exact ⟨hn9, by rw [hn9]; exact y1, F2, A9, K, _, j2, (j3.trans h0.symm).trans hQ.1.symm⟩
  obtain ⟨rfl, hI2, F2, A9, K9, N9, hM2, hF4⟩ := hE
  refine go_aload_n (pc := 2674) dL_law_2674 rfl ?_
  refine go_V0P (pc := 2675) v_L_145 rfl rfl (rcv_of (ci := 8) hM2.1 rfl) dL_law_2675 (sp_thrown (k := 2000) hM2) ?_ (hR := ⟨Nat.le_of_ble_eq_true rfl, Nat.le_of_ble_eq_true rfl⟩) (hC := ⟨by show cells + 60 + 0 + 0 ≤ 601024; omega, by show slots + 600 + 0 + 0 ≤ 7293034; omega⟩)
  refine go_iload (pc := 2678) dL_law_2678 rfl ?_
  refine go_icmp_eq (tgt := 2685) (pc := 2680) dL_law_2680 (by decide) (fun h_2680 => ?_) (fun h_2680 => by exfalso; first | exact h_2680 hF4 | exact h_2680 hF4.symm)
  refine go_goto (tgt := 2749) (pc := 2685) dL_law_2685 (by decide) ?_
  exact go_wide (c2 := cells + 910) (s2 := slots + 12700) (by show cells + 60 + 0 + 0 ≤ cells + 910; omega) (by show slots + 600 + 0 + 0 ≤ slots + 12700; omega) (kk _ _ _ _ _ hI2)
