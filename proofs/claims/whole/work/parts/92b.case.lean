/-! ===== the law's cases: numbers in trays ===== -/
theorem la_copy {Γ : gam} {Q : qp} {σ : sto} {n b a L m cells slots : Nat} {xs : row} {x5 x6 x7 : Option Value} (hI : LI Γ σ n b a L xs) (hL : 6 * m + 6 ≤ L) (hL2 : L ≤ 3072) (hc : cells + 910 ≤ 601024) (hs : slots + 12700 ≤ 7293034) (kk : ∀ σ' n' y5 y6 y7, LI Γ σ' n' b a L xs → Go Γ RL1 uL_law Q (cells + 910) (slots + 12700) 2749 [some (.ref b), some (.ref a), some (.ref (a + 114)), some (.ref (a + 131)), some (.int (nI (6 * m))), y5, y6, y7] [] σ' n') : Go Γ RL1 uL_law Q cells slots 2584 [some (.ref b), some (.ref a), some (.ref (a + 114)), some (.ref (a + 131)), some (.int (nI (6 * m))), x5, x6, x7] [] σ n := by
  obtain ⟨ro, F, K, G, im, A, Nm, KI, hN, hR⟩ := hI
  have hb := hN.2.1
  have hG : GK K := hN.2.2.2.2.2.1
  have hT : okT (A 14) (A 15) := hN.2.2.2.2.2.2.2.2.2.1
  refine go_aload_n (pc := 2584) dL_law_2584 rfl ?_
  refine go_aload_n (pc := 2585) dL_law_2585 rfl ?_
  refine go_iload (pc := 2586) dL_law_2586 rfl ?_
  refine go_iconst (v := 1) (pc := 2588) dL_law_2588 (by decide) ?_
  refine go_iadd (pc := 2589) dL_law_2589 ?_
  refine go_iaB (hN := (by omega)) (pc := 2590) dL_law_2590 hb (by exact ⟨nI_add _ 1, by omega⟩) ?_
  refine go_aload_n (pc := 2591) dL_law_2591 rfl ?_
  refine go_iload (pc := 2592) dL_law_2592 rfl ?_
  refine go_iconst (v := 2) (pc := 2594) dL_law_2594 (by decide) ?_
  refine go_iadd (pc := 2595) dL_law_2595 ?_
  refine go_iaB (hN := (by omega)) (pc := 2596) dL_law_2596 hb (by exact ⟨nI_add _ 2, by omega⟩) ?_
  refine go_aload_n (pc := 2597) dL_law_2597 rfl ?_
  refine go_WI (As := [.ref a, .int _, .int _, .ref (a + 131)]) (rest := []) (pc := 2598) s_L_272 rfl rfl rfl dL_law_2598 (wq_copy (k := 2000) hN hR.1 (by decide) _ _) ⟨Nat.le_of_ble_eq_true rfl, Nat.le_of_ble_eq_true rfl⟩ ⟨by show cells + 4 ≤ 601024; omega, by show slots + 24 ≤ 7293034; omega⟩ (Nat.le_of_ble_eq_true rfl) (fun r9 σ1 n1 hQ => ?_)
  obtain ⟨N2, hn0, hn1, hQ⟩ := hQ
  have hb := hQ.2.2.1.2.1
  clear hN
  refine go_istore (lw := [_, _, _, _, _, _, _, _]) (pc := 2601) dL_law_2601 (by decide) rfl ?_
  refine go_aload_n (pc := 2603) dL_law_2603 rfl ?_
  refine go_aload_n (pc := 2604) dL_law_2604 rfl ?_
  refine go_iload (pc := 2605) dL_law_2605 rfl ?_
  refine go_iconst (v := 1) (pc := 2607) dL_law_2607 (by decide) ?_
  refine go_iadd (pc := 2608) dL_law_2608 ?_
  refine go_iaB (hN := (by omega)) (pc := 2609) dL_law_2609 hb (by exact ⟨nI_add _ 1, by omega⟩) ?_
  refine go_aload_n (pc := 2610) dL_law_2610 rfl ?_
  refine go_iload (pc := 2611) dL_law_2611 rfl ?_
  refine go_iconst (v := 2) (pc := 2613) dL_law_2613 (by decide) ?_
  refine go_iadd (pc := 2614) dL_law_2614 ?_
  refine go_iaB (hN := (by omega)) (pc := 2615) dL_law_2615 hb (by exact ⟨nI_add _ 2, by omega⟩) ?_
  refine go_V2I (pc := 2616) v_L_274 rfl rfl (rcv_of (ci := 8) hQ.2.2.2.2.1 rfl) dL_law_2616 (sp_copy (k := 2000) hQ.2.2.2.2 (by decide) hG.1 hG.2.1.1 hT _ _) (fun v_2616 σ n h => ?_) (hR := ⟨Nat.le_of_ble_eq_true rfl, Nat.le_of_ble_eq_true rfl⟩) (hC := ⟨by show cells + 4 + 0 ≤ 601024; omega, by show slots + 24 + 0 ≤ 7293034; omega⟩)
  have hE : n = n1 ∧ LI Γ σ n b a L xs ∧ (∃ (F2 : row) (A2 : Nat → row), MoAt Γ σ (a + 114) F2 K A2 N2 ∧ F2 4 = r9) ∧ ∃ fo, σ (a + 131) = some (cJ Γ 1 fo) ∧ (r9 = 0 → fo 0 = v_2616.toInt64) := by
    rcases h with ⟨h0, hv, hJ⟩ | ⟨h0, hv, hJ⟩
    · rw [← hn1 h0] at hJ
      obtain ⟨y1, y2, y3, fo, y4, y5⟩ := la_g hR hQ (fun j _ => List.not_mem_nil) hJ
      exact ⟨y1, y2, y3, fo, y4, fun z => absurd (hQ.1.symm.trans z) h0⟩
    · obtain ⟨y1, y2, y3, fo, y4, y5⟩ := la_g (Lx := [6, 7, 8, 9, 10, 11, 12, 13]) (σ2 := σ) (n2 := n) hR hQ (fun j hj => by simp only [List.mem_cons, List.not_mem_nil, or_false]; omega) (by rw [h0, hn0 h0]; exact hJ)
      exact ⟨y1, y2, y3, fo, y4, fun z => by rw [hv]; exact y5 z⟩
  obtain ⟨rfl, hI2, ⟨F2, A2, hM2, hF4⟩, fo, ho2, hv2⟩ := hE
  refine go_istore (lw := [_, _, _, _, _, _, _, _]) (pc := 2619) dL_law_2619 (by decide) rfl ?_
  refine go_aload_n (pc := 2621) dL_law_2621 rfl ?_
  refine go_V0P (pc := 2622) v_L_145 rfl rfl (rcv_of (ci := 8) hM2.1 rfl) dL_law_2622 (sp_thrown (k := 2000) hM2) ?_ (hR := ⟨Nat.le_of_ble_eq_true rfl, Nat.le_of_ble_eq_true rfl⟩) (hC := ⟨by show cells + 4 + 0 + 0 ≤ 601024; omega, by show slots + 24 + 0 + 0 ≤ 7293034; omega⟩)
  refine go_iload (pc := 2625) dL_law_2625 rfl ?_
  refine go_icmp_eq (tgt := 2632) (pc := 2627) dL_law_2627 (by decide) (fun h_2627 => ?_) (fun h_2627 => by exfalso; first | exact h_2627 hF4 | exact h_2627 hF4.symm)
  refine go_iload (pc := 2632) dL_law_2632 rfl ?_
  refine go_if_ne (tgt := 2649) (pc := 2634) dL_law_2634 (by decide) (fun h_2634 => ?_) (fun h_2634 => ?_)
  · refine go_goto (tgt := 2749) (pc := 2649) dL_law_2649 (by decide) ?_
    exact go_wide (c2 := cells + 910) (s2 := slots + 12700) (by show cells + 4 + 0 + 0 ≤ cells + 910; omega) (by show slots + 24 + 0 + 0 ≤ slots + 12700; omega) (kk _ _ _ _ _ hI2)
  · refine go_aload_n (pc := 2637) dL_law_2637 rfl ?_
    refine go_iconst (v := 0) (pc := 2638) dL_law_2638 (by decide) ?_
    refine go_lald (j := 0) (pc := 2639) dL_law_2639 ho2 (by exact ⟨rfl, by decide⟩) ?_
    refine go_iload (pc := 2640) dL_law_2640 rfl ?_
    refine go_i2l (pc := 2642) dL_law_2642 ?_
    refine go_lcmp (pc := 2643) dL_law_2643 ?_
    refine go_if_eq (tgt := 2649) (pc := 2644) dL_law_2644 (by decide) (fun h_2644 => ?_) (fun h_2644 => by exfalso; (have e0 : r9 = 0 := by first | exact h_2634 | exact Decidable.byContradiction h_2634); (simp only [lg_cmp_eq] at h_2644); exact h_2644 (hv2 e0))
    refine go_goto (tgt := 2749) (pc := 2649) dL_law_2649 (by decide) ?_
    exact go_wide (c2 := cells + 910) (s2 := slots + 12700) (by show cells + 4 + 0 + 0 ≤ cells + 910; omega) (by show slots + 24 + 0 + 0 ≤ slots + 12700; omega) (kk _ _ _ _ _ hI2)
theorem la_write {Γ : gam} {Q : qp} {σ : sto} {n b a L m cells slots : Nat} {xs : row} {x5 x6 x7 : Option Value} (hI : LI Γ σ n b a L xs) (hL : 6 * m + 6 ≤ L) (hL2 : L ≤ 3072) (hc : cells + 910 ≤ 601024) (hs : slots + 12700 ≤ 7293034) (kk : ∀ σ' n' y5 y6 y7, LI Γ σ' n' b a L xs → Go Γ RL1 uL_law Q (cells + 910) (slots + 12700) 2749 [some (.ref b), some (.ref a), some (.ref (a + 114)), some (.ref (a + 131)), some (.int (nI (6 * m))), y5, y6, y7] [] σ' n') : Go Γ RL1 uL_law Q cells slots 2473 [some (.ref b), some (.ref a), some (.ref (a + 114)), some (.ref (a + 131)), some (.int (nI (6 * m))), x5, x6, x7] [] σ n := by
  obtain ⟨ro, F, K, G, im, A, Nm, KI, hN, hR⟩ := hI
  have hb := hN.2.1
  have hG : GK K := hN.2.2.2.2.2.1
  have hT : okT (A 14) (A 15) := hN.2.2.2.2.2.2.2.2.2.1
  refine go_aload_n (pc := 2473) dL_law_2473 rfl ?_
  refine go_aload_n (pc := 2474) dL_law_2474 rfl ?_
  refine go_iload (pc := 2475) dL_law_2475 rfl ?_
  refine go_iconst (v := 1) (pc := 2477) dL_law_2477 (by decide) ?_
  refine go_iadd (pc := 2478) dL_law_2478 ?_
  refine go_iaB (hN := (by omega)) (pc := 2479) dL_law_2479 hb (by exact ⟨nI_add _ 1, by omega⟩) ?_
  refine go_aload_n (pc := 2480) dL_law_2480 rfl ?_
  refine go_iload (pc := 2481) dL_law_2481 rfl ?_
  refine go_iconst (v := 2) (pc := 2483) dL_law_2483 (by decide) ?_
  refine go_iadd (pc := 2484) dL_law_2484 ?_
  refine go_iaB (hN := (by omega)) (pc := 2485) dL_law_2485 hb (by exact ⟨nI_add _ 2, by omega⟩) ?_
  refine go_aload_n (pc := 2486) dL_law_2486 rfl ?_
  refine go_iload (pc := 2487) dL_law_2487 rfl ?_
  refine go_iconst (v := 3) (pc := 2489) dL_law_2489 (by decide) ?_
  refine go_iadd (pc := 2490) dL_law_2490 ?_
  refine go_iaB (hN := (by omega)) (pc := 2491) dL_law_2491 hb (by exact ⟨nI_add _ 3, by omega⟩) ?_
  refine go_i2l (pc := 2492) dL_law_2492 ?_
  refine go_bipush (v := 32) (pc := 2493) dL_law_2493 (by decide) ?_
  refine go_lshl (pc := 2495) dL_law_2495 ?_
  refine go_aload_n (pc := 2496) dL_law_2496 rfl ?_
  refine go_iload (pc := 2497) dL_law_2497 rfl ?_
  refine go_iconst (v := 4) (pc := 2499) dL_law_2499 (by decide) ?_
  refine go_iadd (pc := 2500) dL_law_2500 ?_
  refine go_iaB (hN := (by omega)) (pc := 2501) dL_law_2501 hb (by exact ⟨nI_add _ 4, by omega⟩) ?_
  refine go_i2l (pc := 2502) dL_law_2502 ?_
  refine go_ldc2 (pc := 2503) kw8_230 dL_law_2503 ?_
  refine go_land (pc := 2506) dL_law_2506 ?_
  refine go_lor (pc := 2507) dL_law_2507 ?_
  refine go_aload_n (pc := 2508) dL_law_2508 rfl ?_
  refine go_WI (As := [.ref a, .int _, .int _, .long _, .ref (a + 131)]) (rest := []) (pc := 2509) s_L_268 rfl rfl rfl dL_law_2509 (wq_write (k := 2000) hN hR.1 (by decide) _ _ _) ⟨Nat.le_of_ble_eq_true rfl, Nat.le_of_ble_eq_true rfl⟩ ⟨by show cells + 4 ≤ 601024; omega, by show slots + 24 ≤ 7293034; omega⟩ (Nat.le_of_ble_eq_true rfl) (fun r9 σ1 n1 hQ => ?_)
  obtain ⟨N2, hn0, hn1, hQ⟩ := hQ
  have hb := hQ.2.2.1.2.1
  clear hN
  refine go_istore (lw := [_, _, _, _, _, _, _, _]) (pc := 2512) dL_law_2512 (by decide) rfl ?_
  refine go_aload_n (pc := 2514) dL_law_2514 rfl ?_
  refine go_aload_n (pc := 2515) dL_law_2515 rfl ?_
  refine go_iload (pc := 2516) dL_law_2516 rfl ?_
  refine go_iconst (v := 1) (pc := 2518) dL_law_2518 (by decide) ?_
  refine go_iadd (pc := 2519) dL_law_2519 ?_
  refine go_iaB (hN := (by omega)) (pc := 2520) dL_law_2520 hb (by exact ⟨nI_add _ 1, by omega⟩) ?_
  refine go_aload_n (pc := 2521) dL_law_2521 rfl ?_
  refine go_iload (pc := 2522) dL_law_2522 rfl ?_
  refine go_iconst (v := 2) (pc := 2524) dL_law_2524 (by decide) ?_
  refine go_iadd (pc := 2525) dL_law_2525 ?_
  refine go_iaB (hN := (by omega)) (pc := 2526) dL_law_2526 hb (by exact ⟨nI_add _ 2, by omega⟩) ?_
  refine go_aload_n (pc := 2527) dL_law_2527 rfl ?_
  refine go_iload (pc := 2528) dL_law_2528 rfl ?_
  refine go_iconst (v := 3) (pc := 2530) dL_law_2530 (by decide) ?_
  refine go_iadd (pc := 2531) dL_law_2531 ?_
  refine go_iaB (hN := (by omega)) (pc := 2532) dL_law_2532 hb (by exact ⟨nI_add _ 3, by omega⟩) ?_
  refine go_i2l (pc := 2533) dL_law_2533 ?_
  refine go_bipush (v := 32) (pc := 2534) dL_law_2534 (by decide) ?_
  refine go_lshl (pc := 2536) dL_law_2536 ?_
  refine go_aload_n (pc := 2537) dL_law_2537 rfl ?_
  refine go_iload (pc := 2538) dL_law_2538 rfl ?_
  refine go_iconst (v := 4) (pc := 2540) dL_law_2540 (by decide) ?_
  refine go_iadd (pc := 2541) dL_law_2541 ?_
  refine go_iaB (hN := (by omega)) (pc := 2542) dL_law_2542 hb (by exact ⟨nI_add _ 4, by omega⟩) ?_
  refine go_i2l (pc := 2543) dL_law_2543 ?_
  refine go_ldc2 (pc := 2544) kw8_230 dL_law_2544 ?_
  refine go_land (pc := 2547) dL_law_2547 ?_
  refine go_lor (pc := 2548) dL_law_2548 ?_
  refine go_V3L (pc := 2549) v_L_271 rfl rfl (rcv_of (ci := 8) hQ.2.2.2.2.1 rfl) dL_law_2549 (sp_write (k := 2000) hQ.2.2.2.2 (by decide) hT _ _ _) (fun v_2549 σ n h => ?_) (hR := ⟨Nat.le_of_ble_eq_true rfl, Nat.le_of_ble_eq_true rfl⟩) (hC := ⟨by show cells + 4 + 0 ≤ 601024; omega, by show slots + 24 + 0 ≤ 7293034; omega⟩)
  have hE : n = n1 ∧ LI Γ σ n b a L xs ∧ (∃ (F2 : row) (A2 : Nat → row), MoAt Γ σ (a + 114) F2 K A2 N2 ∧ F2 4 = r9) ∧ ∃ fo, σ (a + 131) = some (cJ Γ 1 fo) ∧ (r9 = 0 → fo 0 = v_2549) := by
    rcases h with ⟨h0, hv, hJ⟩ | ⟨h0, hv, hJ⟩
    · rw [← hn1 h0] at hJ
      obtain ⟨y1, y2, y3, fo, y4, y5⟩ := la_g hR hQ (fun j _ => List.not_mem_nil) hJ
      exact ⟨y1, y2, y3, fo, y4, fun z => absurd (hQ.1.symm.trans z) h0⟩
    · obtain ⟨y1, y2, y3, fo, y4, y5⟩ := la_g (Lx := []) (σ2 := σ) (n2 := n) hR hQ (fun j _ => List.not_mem_nil) (by rw [h0, hn0 h0]; exact hJ)
      exact ⟨y1, y2, y3, fo, y4, fun z => by rw [hv]; exact y5 z⟩
  obtain ⟨rfl, hI2, ⟨F2, A2, hM2, hF4⟩, fo, ho2, hv2⟩ := hE
  refine go_lstore (lw := [_, _, _, _, _, _, _, _]) (pc := 2552) dL_law_2552 (by decide) rfl ?_
  refine go_aload_n (pc := 2554) dL_law_2554 rfl ?_
  refine go_V0P (pc := 2555) v_L_145 rfl rfl (rcv_of (ci := 8) hM2.1 rfl) dL_law_2555 (sp_thrown (k := 2000) hM2) ?_ (hR := ⟨Nat.le_of_ble_eq_true rfl, Nat.le_of_ble_eq_true rfl⟩) (hC := ⟨by show cells + 4 + 0 + 0 ≤ 601024; omega, by show slots + 24 + 0 + 0 ≤ 7293034; omega⟩)
  refine go_iload (pc := 2558) dL_law_2558 rfl ?_
  refine go_icmp_eq (tgt := 2565) (pc := 2560) dL_law_2560 (by decide) (fun h_2560 => ?_) (fun h_2560 => by exfalso; first | exact h_2560 hF4 | exact h_2560 hF4.symm)
  refine go_iload (pc := 2565) dL_law_2565 rfl ?_
  refine go_if_ne (tgt := 2581) (pc := 2567) dL_law_2567 (by decide) (fun h_2567 => ?_) (fun h_2567 => ?_)
  · refine go_goto (tgt := 2749) (pc := 2581) dL_law_2581 (by decide) ?_
    exact go_wide (c2 := cells + 910) (s2 := slots + 12700) (by show cells + 4 + 0 + 0 ≤ cells + 910; omega) (by show slots + 24 + 0 + 0 ≤ slots + 12700; omega) (kk _ _ _ _ _ hI2)
  · refine go_aload_n (pc := 2570) dL_law_2570 rfl ?_
    refine go_iconst (v := 0) (pc := 2571) dL_law_2571 (by decide) ?_
    refine go_lald (j := 0) (pc := 2572) dL_law_2572 ho2 (by exact ⟨rfl, by decide⟩) ?_
    refine go_lload (pc := 2573) dL_law_2573 rfl ?_
    refine go_lcmp (pc := 2575) dL_law_2575 ?_
    refine go_if_eq (tgt := 2581) (pc := 2576) dL_law_2576 (by decide) (fun h_2576 => ?_) (fun h_2576 => by exfalso; (have e0 : r9 = 0 := by first | exact h_2567 | exact Decidable.byContradiction h_2567); (simp only [lg_cmp_eq] at h_2576); exact h_2576 (hv2 e0))
    refine go_goto (tgt := 2749) (pc := 2581) dL_law_2581 (by decide) ?_
    exact go_wide (c2 := cells + 910) (s2 := slots + 12700) (by show cells + 4 + 0 + 0 ≤ cells + 910; omega) (by show slots + 24 + 0 + 0 ≤ slots + 12700; omega) (kk _ _ _ _ _ hI2)
