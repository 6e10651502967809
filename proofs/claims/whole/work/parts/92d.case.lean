/-! ===== the law's cases: tray ===== -/
theorem la_tray {Γ : gam} {Q : qp} {σ : sto} {n b a L m cells slots : Nat} {xs : row} {x5 x6 x7 : Option Value} (hI : LI Γ σ n b a L xs) (hL : 6 * m + 6 ≤ L) (hL2 : L ≤ 3072) (hc : cells + 910 ≤ 601024) (hs : slots + 12700 ≤ 7293034) (kk : ∀ σ' n' y5 y6 y7, LI Γ σ' n' b a L xs → Go Γ RL1 uL_law Q (cells + 910) (slots + 12700) 2749 [some (.ref b), some (.ref a), some (.ref (a + 114)), some (.ref (a + 131)), some (.int (nI (6 * m))), y5, y6, y7] [] σ' n') : Go Γ RL1 uL_law Q cells slots 2413 [some (.ref b), some (.ref a), some (.ref (a + 114)), some (.ref (a + 131)), some (.int (nI (6 * m))), x5, x6, x7] [] σ n := by
  obtain ⟨ro, F, K, G, im, A, Nm, KI, hN, hR⟩ := hI
  have hb := hN.2.1
  have hG : GK K := hN.2.2.2.2.2.1
  have hT : okT (A 14) (A 15) := hN.2.2.2.2.2.2.2.2.2.1
  refine go_aload_n (pc := 2413) dL_law_2413 rfl ?_
  refine go_aload_n (pc := 2414) dL_law_2414 rfl ?_
  refine go_iload (pc := 2415) dL_law_2415 rfl ?_
  refine go_iconst (v := 1) (pc := 2417) dL_law_2417 (by decide) ?_
  refine go_iadd (pc := 2418) dL_law_2418 ?_
  refine go_iaB (hN := (by omega)) (pc := 2419) dL_law_2419 hb (by exact ⟨nI_add _ 1, by omega⟩) ?_
  refine go_aload_n (pc := 2420) dL_law_2420 rfl ?_
  refine go_iload (pc := 2421) dL_law_2421 rfl ?_
  refine go_iconst (v := 2) (pc := 2423) dL_law_2423 (by decide) ?_
  refine go_iadd (pc := 2424) dL_law_2424 ?_
  refine go_iaB (hN := (by omega)) (pc := 2425) dL_law_2425 hb (by exact ⟨nI_add _ 2, by omega⟩) ?_
  refine go_aload_n (pc := 2426) dL_law_2426 rfl ?_
  refine go_iload (pc := 2427) dL_law_2427 rfl ?_
  refine go_iconst (v := 3) (pc := 2429) dL_law_2429 (by decide) ?_
  refine go_iadd (pc := 2430) dL_law_2430 ?_
  refine go_iaB (hN := (by omega)) (pc := 2431) dL_law_2431 hb (by exact ⟨nI_add _ 3, by omega⟩) ?_
  refine go_WI (As := [.ref a, .int _, .int _, .int _]) (rest := []) (pc := 2432) s_L_262 rfl rfl rfl dL_law_2432 (wq_tray (k := 2000) hN hR.1 (by decide) _ _ _) ⟨Nat.le_of_ble_eq_true rfl, Nat.le_of_ble_eq_true rfl⟩ ⟨by show cells + 4 ≤ 601024; omega, by show slots + 24 ≤ 7293034; omega⟩ (Nat.le_of_ble_eq_true rfl) (fun r9 σ1 n1 hQ => ?_)
  obtain ⟨A2, N2, hn0, hn1, hQ⟩ := hQ
  have hb := hQ.2.2.1.2.1
  refine go_istore (lw := [_, _, _, _, _, _, _, _]) (pc := 2435) dL_law_2435 (by decide) rfl ?_
  refine go_aload_n (pc := 2437) dL_law_2437 rfl ?_
  refine go_aload_n (pc := 2438) dL_law_2438 rfl ?_
  refine go_iload (pc := 2439) dL_law_2439 rfl ?_
  refine go_iconst (v := 1) (pc := 2441) dL_law_2441 (by decide) ?_
  refine go_iadd (pc := 2442) dL_law_2442 ?_
  refine go_iaB (hN := (by omega)) (pc := 2443) dL_law_2443 hb (by exact ⟨nI_add _ 1, by omega⟩) ?_
  refine go_aload_n (pc := 2444) dL_law_2444 rfl ?_
  refine go_iload (pc := 2445) dL_law_2445 rfl ?_
  refine go_iconst (v := 2) (pc := 2447) dL_law_2447 (by decide) ?_
  refine go_iadd (pc := 2448) dL_law_2448 ?_
  refine go_iaB (hN := (by omega)) (pc := 2449) dL_law_2449 hb (by exact ⟨nI_add _ 2, by omega⟩) ?_
  refine go_aload_n (pc := 2450) dL_law_2450 rfl ?_
  refine go_iload (pc := 2451) dL_law_2451 rfl ?_
  refine go_iconst (v := 3) (pc := 2453) dL_law_2453 (by decide) ?_
  refine go_iadd (pc := 2454) dL_law_2454 ?_
  refine go_iaB (hN := (by omega)) (pc := 2455) dL_law_2455 hb (by exact ⟨nI_add _ 3, by omega⟩) ?_
  refine go_V3V (pc := 2456) v_L_265 rfl rfl (rcv_of (ci := 8) hQ.2.2.2.1 rfl) dL_law_2456 (sp_tray (k := 2000) hQ.2.2.2 (by decide) _ _ _) (fun σ n h => ?_) (hR := ⟨Nat.le_of_ble_eq_true rfl, Nat.le_of_ble_eq_true rfl⟩) (hC := ⟨by show cells + 4 + 0 ≤ 601024; omega, by show slots + 24 + 0 ≤ 7293034; omega⟩)
  have hE : n = n1 ∧ LI Γ σ n b a L xs ∧ ∃ (F2 : row) (A9 : Nat → row) (K9 : row) (N9 : Nat → Int64), MoAt Γ σ (a + 114) F2 K9 A9 N9 ∧ F2 4 = r9 := by
    rcases h with ⟨h0, hn9, F2, A9, j2, j3, j4, j5, j6, j7⟩ | ⟨h0, hn9, F2, A9, j2, j3, j4, j5, j6, j7, j8, j9⟩
    · obtain ⟨z1, z2⟩ := hn1 h0
      rw [← z2] at j2
      obtain ⟨y1, y2⟩ := la_u hR hQ j2 j3 j4 j6 j7 ((j5 5 (by decide)).trans (by rw [z1])) ((j5 14 (by decide)).trans (by rw [z1])) ((j5 15 (by decide)).trans (by rw [z1])) (j5 3 (by decide)) (j5 4 (by decide))
      exact ⟨hn9, by rw [hn9]; exact y1, F2, A9, K, _, j2, y2⟩
    · obtain ⟨z1, z2, z3, z4⟩ := hn0 h0
      rw [← z4] at j2
      obtain ⟨y1, y2⟩ := la_u hR hQ j2 (j3.trans h0.symm) j4 j6 j7 ((j5 5 (by decide)).trans z3.symm) (j8.trans z1.symm) (j9.trans z2.symm) (j5 3 (by decide)) (j5 4 (by decide))
      exact ⟨hn9, by rw [hn9]; exact y1, F2, A9, K, _, j2, y2⟩
  obtain ⟨rfl, hI2, F2, A9, K9, N9, hM2, hF4⟩ := hE
  refine go_aload_n (pc := 2459) dL_law_2459 rfl ?_
  refine go_V0P (pc := 2460) v_L_145 rfl rfl (rcv_of (ci := 8) hM2.1 rfl) dL_law_2460 (sp_thrown (k := 2000) hM2) ?_ (hR := ⟨Nat.le_of_ble_eq_true rfl, Nat.le_of_ble_eq_true rfl⟩) (hC := ⟨by show cells + 4 + 0 + 0 ≤ 601024; omega, by show slots + 24 + 0 + 0 ≤ 7293034; omega⟩)
  refine go_iload (pc := 2463) dL_law_2463 rfl ?_
  refine go_icmp_eq (tgt := 2470) (pc := 2465) dL_law_2465 (by decide) (fun h_2465 => ?_) (fun h_2465 => by exfalso; first | exact h_2465 hF4 | exact h_2465 hF4.symm)
  refine go_goto (tgt := 2749) (pc := 2470) dL_law_2470 (by decide) ?_
  exact go_wide (c2 := cells + 910) (s2 := slots + 12700) (by show cells + 4 + 0 + 0 ≤ cells + 910; omega) (by show slots + 24 + 0 + 0 ≤ slots + 12700; omega) (kk _ _ _ _ _ hI2)
