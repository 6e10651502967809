/-! ===== the law's cases ===== -/
theorem la_person {Γ : gam} {Q : qp} {σ : sto} {n b a L m cells slots : Nat} {xs : row} {x5 x6 x7 : Option Value} (hI : LI Γ σ n b a L xs) (hL : 6 * m + 6 ≤ L) (hL2 : L ≤ 3072) (hc : cells + 910 ≤ 601024) (hs : slots + 12700 ≤ 7293034) (kk : ∀ σ' n' y5 y6 y7, LI Γ σ' n' b a L xs → Go Γ RL1 uL_law Q (cells + 910) (slots + 12700) 2749 [some (.ref b), some (.ref a), some (.ref (a + 114)), some (.ref (a + 131)), some (.int (nI (6 * m))), y5, y6, y7] [] σ' n') : Go Γ RL1 uL_law Q cells slots 450 [some (.ref b), some (.ref a), some (.ref (a + 114)), some (.ref (a + 131)), some (.int (nI (6 * m))), x5, x6, x7] [] σ n := by
  obtain ⟨ro, F, K, G, im, A, Nm, KI, hN, hR⟩ := hI
  have hb := hN.2.1
  have hG : GK K := hN.2.2.2.2.2.1
  have hT : okT (A 14) (A 15) := hN.2.2.2.2.2.2.2.2.2.1
  refine go_aload_n (pc := 450) dL_law_450 rfl ?_
  refine go_aload_n (pc := 451) dL_law_451 rfl ?_
  refine go_iload (pc := 452) dL_law_452 rfl ?_
  refine go_iconst (v := 1) (pc := 454) dL_law_454 (by decide) ?_
  refine go_iadd (pc := 455) dL_law_455 ?_
  refine go_iaB (hN := (by omega)) (pc := 456) dL_law_456 hb (by exact ⟨nI_add _ 1, by omega⟩) ?_
  refine go_aload_n (pc := 457) dL_law_457 rfl ?_
  refine go_iload (pc := 458) dL_law_458 rfl ?_
  refine go_iconst (v := 2) (pc := 460) dL_law_460 (by decide) ?_
  refine go_iadd (pc := 461) dL_law_461 ?_
  refine go_iaB (hN := (by omega)) (pc := 462) dL_law_462 hb (by exact ⟨nI_add _ 2, by omega⟩) ?_
  refine go_aload_n (pc := 463) dL_law_463 rfl ?_
  refine go_WI (As := [.ref a, .int _, .int _, .ref (a + 131)]) (rest := []) (pc := 464) s_L_157 rfl rfl rfl dL_law_464 (wq_person (k := 2000) hN hR.1 (by decide) _ _) ⟨Nat.le_of_ble_eq_true rfl, Nat.le_of_ble_eq_true rfl⟩ ⟨by show cells + 4 ≤ 601024; omega, by show slots + 24 ≤ 7293034; omega⟩ (Nat.le_of_ble_eq_true rfl) (fun r9 σ1 n1 hQ => ?_)
  have hb := hQ.2.2.1.2.1
  clear hN
  refine go_istore (lw := [_, _, _, _, _, _, _, _]) (pc := 467) dL_law_467 (by decide) rfl ?_
  refine go_aload_n (pc := 469) dL_law_469 rfl ?_
  refine go_aload_n (pc := 470) dL_law_470 rfl ?_
  refine go_iload (pc := 471) dL_law_471 rfl ?_
  refine go_iconst (v := 1) (pc := 473) dL_law_473 (by decide) ?_
  refine go_iadd (pc := 474) dL_law_474 ?_
  refine go_iaB (hN := (by omega)) (pc := 475) dL_law_475 hb (by exact ⟨nI_add _ 1, by omega⟩) ?_
  refine go_aload_n (pc := 476) dL_law_476 rfl ?_
  refine go_iload (pc := 477) dL_law_477 rfl ?_
  refine go_iconst (v := 2) (pc := 479) dL_law_479 (by decide) ?_
  refine go_iadd (pc := 480) dL_law_480 ?_
  refine go_iaB (hN := (by omega)) (pc := 481) dL_law_481 hb (by exact ⟨nI_add _ 2, by omega⟩) ?_
  refine go_V2I (pc := 482) v_L_159 rfl rfl (rcv_of (ci := 8) hQ.2.2.2.2.1 rfl) dL_law_482 (sp_person (k := 2000) hQ.2.2.2.2 (by decide) hG.1 hG.2.1.1 _ _) (fun v_482 σ n h => ?_) (hR := ⟨Nat.le_of_ble_eq_true rfl, Nat.le_of_ble_eq_true rfl⟩) (hC := ⟨by show cells + 4 + 0 ≤ 601024; omega, by show slots + 24 + 0 ≤ 7293034; omega⟩)
  obtain ⟨hv, hJ⟩ := h
  obtain ⟨rfl, hI2, ⟨F2, A2, hM2, hF4⟩, fo, ho2, hv2⟩ := la_r hR hQ rfl rfl rfl hJ
  refine go_istore (lw := [_, _, _, _, _, _, _, _]) (pc := 485) dL_law_485 (by decide) rfl ?_
  refine go_aload_n (pc := 487) dL_law_487 rfl ?_
  refine go_V0P (pc := 488) v_L_145 rfl rfl (rcv_of (ci := 8) hM2.1 rfl) dL_law_488 (sp_thrown (k := 2000) hM2) ?_ (hR := ⟨Nat.le_of_ble_eq_true rfl, Nat.le_of_ble_eq_true rfl⟩) (hC := ⟨by show cells + 4 + 0 + 0 ≤ 601024; omega, by show slots + 24 + 0 + 0 ≤ 7293034; omega⟩)
  refine go_iload (pc := 491) dL_law_491 rfl ?_
  refine go_icmp_eq (tgt := 498) (pc := 493) dL_law_493 (by decide) (fun h_493 => ?_) (fun h_493 => by exfalso; first | exact h_493 hF4 | exact h_493 hF4.symm)
  refine go_iload (pc := 498) dL_law_498 rfl ?_
  refine go_if_ne (tgt := 515) (pc := 500) dL_law_500 (by decide) (fun h_500 => ?_) (fun h_500 => ?_)
  · refine go_goto (tgt := 2749) (pc := 515) dL_law_515 (by decide) ?_
    exact go_wide (c2 := cells + 910) (s2 := slots + 12700) (by show cells + 4 + 0 + 0 ≤ cells + 910; omega) (by show slots + 24 + 0 + 0 ≤ slots + 12700; omega) (kk _ _ _ _ _ hI2)
  · refine go_aload_n (pc := 503) dL_law_503 rfl ?_
    refine go_iconst (v := 0) (pc := 504) dL_law_504 (by decide) ?_
    refine go_lald (j := 0) (pc := 505) dL_law_505 ho2 (by exact ⟨rfl, by decide⟩) ?_
    refine go_iload (pc := 506) dL_law_506 rfl ?_
    refine go_i2l (pc := 508) dL_law_508 ?_
    refine go_lcmp (pc := 509) dL_law_509 ?_
    refine go_if_eq (tgt := 515) (pc := 510) dL_law_510 (by decide) (fun h_510 => ?_) (fun h_510 => by exfalso; (have e0 : r9 = 0 := by first | exact h_500 | exact Decidable.byContradiction h_500); (have e : fo 0 = v_482.toInt64 := by rw [hv]; exact hv2 e0); (simp only [lg_cmp_eq] at h_510); exact h_510 e)
    refine go_goto (tgt := 2749) (pc := 515) dL_law_515 (by decide) ?_
    exact go_wide (c2 := cells + 910) (s2 := slots + 12700) (by show cells + 4 + 0 + 0 ≤ cells + 910; omega) (by show slots + 24 + 0 + 0 ≤ slots + 12700; omega) (kk _ _ _ _ _ hI2)
theorem la_tide {Γ : gam} {Q : qp} {σ : sto} {n b a L m cells slots : Nat} {xs : row} {x5 x6 x7 : Option Value} (hI : LI Γ σ n b a L xs) (hL : 6 * m + 6 ≤ L) (hL2 : L ≤ 3072) (hc : cells + 910 ≤ 601024) (hs : slots + 12700 ≤ 7293034) (kk : ∀ σ' n' y5 y6 y7, LI Γ σ' n' b a L xs → Go Γ RL1 uL_law Q (cells + 910) (slots + 12700) 2749 [some (.ref b), some (.ref a), some (.ref (a + 114)), some (.ref (a + 131)), some (.int (nI (6 * m))), y5, y6, y7] [] σ' n') : Go Γ RL1 uL_law Q cells slots 518 [some (.ref b), some (.ref a), some (.ref (a + 114)), some (.ref (a + 131)), some (.int (nI (6 * m))), x5, x6, x7] [] σ n := by
  obtain ⟨ro, F, K, G, im, A, Nm, KI, hN, hR⟩ := hI
  have hb := hN.2.1
  have hG : GK K := hN.2.2.2.2.2.1
  have hT : okT (A 14) (A 15) := hN.2.2.2.2.2.2.2.2.2.1
  refine go_aload_n (pc := 518) dL_law_518 rfl ?_
  refine go_aload_n (pc := 519) dL_law_519 rfl ?_
  refine go_iload (pc := 520) dL_law_520 rfl ?_
  refine go_iconst (v := 1) (pc := 522) dL_law_522 (by decide) ?_
  refine go_iadd (pc := 523) dL_law_523 ?_
  refine go_iaB (hN := (by omega)) (pc := 524) dL_law_524 hb (by exact ⟨nI_add _ 1, by omega⟩) ?_
  refine go_aload_n (pc := 525) dL_law_525 rfl ?_
  refine go_WI (As := [.ref a, .int _, .ref (a + 131)]) (rest := []) (pc := 526) s_L_160 rfl rfl rfl dL_law_526 (wq_tide (k := 2000) hN hR.1 (by decide) _) ⟨Nat.le_of_ble_eq_true rfl, Nat.le_of_ble_eq_true rfl⟩ ⟨by show cells + 4 ≤ 601024; omega, by show slots + 24 ≤ 7293034; omega⟩ (Nat.le_of_ble_eq_true rfl) (fun r9 σ1 n1 hQ => ?_)
  have hb := hQ.2.2.1.2.1
  clear hN
  refine go_istore (lw := [_, _, _, _, _, _, _, _]) (pc := 529) dL_law_529 (by decide) rfl ?_
  refine go_aload_n (pc := 531) dL_law_531 rfl ?_
  refine go_aload_n (pc := 532) dL_law_532 rfl ?_
  refine go_iload (pc := 533) dL_law_533 rfl ?_
  refine go_iconst (v := 1) (pc := 535) dL_law_535 (by decide) ?_
  refine go_iadd (pc := 536) dL_law_536 ?_
  refine go_iaB (hN := (by omega)) (pc := 537) dL_law_537 hb (by exact ⟨nI_add _ 1, by omega⟩) ?_
  refine go_V1I (pc := 538) v_L_162 rfl rfl (rcv_of (ci := 8) hQ.2.2.2.2.1 rfl) dL_law_538 (sp_tide (k := 2000) hQ.2.2.2.2 (by decide) hG.1 hG.2.1.1 _) (fun v_538 σ n h => ?_) (hR := ⟨Nat.le_of_ble_eq_true rfl, Nat.le_of_ble_eq_true rfl⟩) (hC := ⟨by show cells + 4 + 0 ≤ 601024; omega, by show slots + 24 + 0 ≤ 7293034; omega⟩)
  obtain ⟨hv, hJ⟩ := h
  obtain ⟨rfl, hI2, ⟨F2, A2, hM2, hF4⟩, fo, ho2, hv2⟩ := la_r hR hQ rfl rfl rfl hJ
  refine go_istore (lw := [_, _, _, _, _, _, _, _]) (pc := 541) dL_law_541 (by decide) rfl ?_
  refine go_aload_n (pc := 543) dL_law_543 rfl ?_
  refine go_V0P (pc := 544) v_L_145 rfl rfl (rcv_of (ci := 8) hM2.1 rfl) dL_law_544 (sp_thrown (k := 2000) hM2) ?_ (hR := ⟨Nat.le_of_ble_eq_true rfl, Nat.le_of_ble_eq_true rfl⟩) (hC := ⟨by show cells + 4 + 0 + 0 ≤ 601024; omega, by show slots + 24 + 0 + 0 ≤ 7293034; omega⟩)
  refine go_iload (pc := 547) dL_law_547 rfl ?_
  refine go_icmp_eq (tgt := 554) (pc := 549) dL_law_549 (by decide) (fun h_549 => ?_) (fun h_549 => by exfalso; first | exact h_549 hF4 | exact h_549 hF4.symm)
  refine go_iload (pc := 554) dL_law_554 rfl ?_
  refine go_if_ne (tgt := 571) (pc := 556) dL_law_556 (by decide) (fun h_556 => ?_) (fun h_556 => ?_)
  · refine go_goto (tgt := 2749) (pc := 571) dL_law_571 (by decide) ?_
    exact go_wide (c2 := cells + 910) (s2 := slots + 12700) (by show cells + 4 + 0 + 0 ≤ cells + 910; omega) (by show slots + 24 + 0 + 0 ≤ slots + 12700; omega) (kk _ _ _ _ _ hI2)
  · refine go_aload_n (pc := 559) dL_law_559 rfl ?_
    refine go_iconst (v := 0) (pc := 560) dL_law_560 (by decide) ?_
    refine go_lald (j := 0) (pc := 561) dL_law_561 ho2 (by exact ⟨rfl, by decide⟩) ?_
    refine go_iload (pc := 562) dL_law_562 rfl ?_
    refine go_i2l (pc := 564) dL_law_564 ?_
    refine go_lcmp (pc := 565) dL_law_565 ?_
    refine go_if_eq (tgt := 571) (pc := 566) dL_law_566 (by decide) (fun h_566 => ?_) (fun h_566 => by exfalso; (have e0 : r9 = 0 := by first | exact h_556 | exact Decidable.byContradiction h_556); (have e : fo 0 = v_538.toInt64 := by rw [hv]; exact hv2 e0); (simp only [lg_cmp_eq] at h_566); exact h_566 e)
    refine go_goto (tgt := 2749) (pc := 571) dL_law_571 (by decide) ?_
    exact go_wide (c2 := cells + 910) (s2 := slots + 12700) (by show cells + 4 + 0 + 0 ≤ cells + 910; omega) (by show slots + 24 + 0 + 0 ≤ slots + 12700; omega) (kk _ _ _ _ _ hI2)
theorem la_wets {Γ : gam} {Q : qp} {σ : sto} {n b a L m cells slots : Nat} {xs : row} {x5 x6 x7 : Option Value} (hI : LI Γ σ n b a L xs) (hL : 6 * m + 6 ≤ L) (hL2 : L ≤ 3072) (hc : cells + 910 ≤ 601024) (hs : slots + 12700 ≤ 7293034) (kk : ∀ σ' n' y5 y6 y7, LI Γ σ' n' b a L xs → Go Γ RL1 uL_law Q (cells + 910) (slots + 12700) 2749 [some (.ref b), some (.ref a), some (.ref (a + 114)), some (.ref (a + 131)), some (.int (nI (6 * m))), y5, y6, y7] [] σ' n') : Go Γ RL1 uL_law Q cells slots 661 [some (.ref b), some (.ref a), some (.ref (a + 114)), some (.ref (a + 131)), some (.int (nI (6 * m))), x5, x6, x7] [] σ n := by
  obtain ⟨ro, F, K, G, im, A, Nm, KI, hN, hR⟩ := hI
  have hb := hN.2.1
  have hG : GK K := hN.2.2.2.2.2.1
  have hT : okT (A 14) (A 15) := hN.2.2.2.2.2.2.2.2.2.1
  refine go_aload_n (pc := 661) dL_law_661 rfl ?_
  refine go_aload_n (pc := 662) dL_law_662 rfl ?_
  refine go_iload (pc := 663) dL_law_663 rfl ?_
  refine go_iconst (v := 1) (pc := 665) dL_law_665 (by decide) ?_
  refine go_iadd (pc := 666) dL_law_666 ?_
  refine go_iaB (hN := (by omega)) (pc := 667) dL_law_667 hb (by exact ⟨nI_add _ 1, by omega⟩) ?_
  refine go_aload_n (pc := 668) dL_law_668 rfl ?_
  refine go_iload (pc := 669) dL_law_669 rfl ?_
  refine go_iconst (v := 2) (pc := 671) dL_law_671 (by decide) ?_
  refine go_iadd (pc := 672) dL_law_672 ?_
  refine go_iaB (hN := (by omega)) (pc := 673) dL_law_673 hb (by exact ⟨nI_add _ 2, by omega⟩) ?_
  refine go_aload_n (pc := 674) dL_law_674 rfl ?_
  refine go_iload (pc := 675) dL_law_675 rfl ?_
  refine go_iconst (v := 3) (pc := 677) dL_law_677 (by decide) ?_
  refine go_iadd (pc := 678) dL_law_678 ?_
  refine go_iaB (hN := (by omega)) (pc := 679) dL_law_679 hb (by exact ⟨nI_add _ 3, by omega⟩) ?_
  refine go_aload_n (pc := 680) dL_law_680 rfl ?_
  refine go_WI (As := [.ref a, .int _, .int _, .int _, .ref (a + 131)]) (rest := []) (pc := 681) s_L_167 rfl rfl rfl dL_law_681 (wq_wets (k := 2000) hN hR.1 (by decide) _ _ _) ⟨Nat.le_of_ble_eq_true rfl, Nat.le_of_ble_eq_true rfl⟩ ⟨by show cells + 4 ≤ 601024; omega, by show slots + 24 ≤ 7293034; omega⟩ (Nat.le_of_ble_eq_true rfl) (fun r9 σ1 n1 hQ => ?_)
  have hb := hQ.2.2.1.2.1
  clear hN
  refine go_istore (lw := [_, _, _, _, _, _, _, _]) (pc := 684) dL_law_684 (by decide) rfl ?_
  refine go_aload_n (pc := 686) dL_law_686 rfl ?_
  refine go_aload_n (pc := 687) dL_law_687 rfl ?_
  refine go_iload (pc := 688) dL_law_688 rfl ?_
  refine go_iconst (v := 1) (pc := 690) dL_law_690 (by decide) ?_
  refine go_iadd (pc := 691) dL_law_691 ?_
  refine go_iaB (hN := (by omega)) (pc := 692) dL_law_692 hb (by exact ⟨nI_add _ 1, by omega⟩) ?_
  refine go_aload_n (pc := 693) dL_law_693 rfl ?_
  refine go_iload (pc := 694) dL_law_694 rfl ?_
  refine go_iconst (v := 2) (pc := 696) dL_law_696 (by decide) ?_
  refine go_iadd (pc := 697) dL_law_697 ?_
  refine go_iaB (hN := (by omega)) (pc := 698) dL_law_698 hb (by exact ⟨nI_add _ 2, by omega⟩) ?_
  refine go_aload_n (pc := 699) dL_law_699 rfl ?_
  refine go_iload (pc := 700) dL_law_700 rfl ?_
  refine go_iconst (v := 3) (pc := 702) dL_law_702 (by decide) ?_
  refine go_iadd (pc := 703) dL_law_703 ?_
  refine go_iaB (hN := (by omega)) (pc := 704) dL_law_704 hb (by exact ⟨nI_add _ 3, by omega⟩) ?_
  refine go_V3I (pc := 705) v_L_169 rfl rfl (rcv_of (ci := 8) hQ.2.2.2.2.1 rfl) dL_law_705 (sp_wets (k := 2000) hQ.2.2.2.2 (by decide) hG.1 hG.2.1.1 _ _ _) (fun v_705 σ n h => ?_) (hR := ⟨Nat.le_of_ble_eq_true rfl, Nat.le_of_ble_eq_true rfl⟩) (hC := ⟨by show cells + 4 + 0 ≤ 601024; omega, by show slots + 24 + 0 ≤ 7293034; omega⟩)
  obtain ⟨hv, hJ⟩ := h
  obtain ⟨rfl, hI2, ⟨F2, A2, hM2, hF4⟩, fo, ho2, hv2⟩ := la_r hR hQ rfl rfl rfl hJ
  refine go_istore (lw := [_, _, _, _, _, _, _, _]) (pc := 708) dL_law_708 (by decide) rfl ?_
  refine go_aload_n (pc := 710) dL_law_710 rfl ?_
  refine go_V0P (pc := 711) v_L_145 rfl rfl (rcv_of (ci := 8) hM2.1 rfl) dL_law_711 (sp_thrown (k := 2000) hM2) ?_ (hR := ⟨Nat.le_of_ble_eq_true rfl, Nat.le_of_ble_eq_true rfl⟩) (hC := ⟨by show cells + 4 + 0 + 0 ≤ 601024; omega, by show slots + 24 + 0 + 0 ≤ 7293034; omega⟩)
  refine go_iload (pc := 714) dL_law_714 rfl ?_
  refine go_icmp_eq (tgt := 721) (pc := 716) dL_law_716 (by decide) (fun h_716 => ?_) (fun h_716 => by exfalso; first | exact h_716 hF4 | exact h_716 hF4.symm)
  refine go_iload (pc := 721) dL_law_721 rfl ?_
  refine go_if_ne (tgt := 738) (pc := 723) dL_law_723 (by decide) (fun h_723 => ?_) (fun h_723 => ?_)
  · refine go_goto (tgt := 2749) (pc := 738) dL_law_738 (by decide) ?_
    exact go_wide (c2 := cells + 910) (s2 := slots + 12700) (by show cells + 4 + 0 + 0 ≤ cells + 910; omega) (by show slots + 24 + 0 + 0 ≤ slots + 12700; omega) (kk _ _ _ _ _ hI2)
  · refine go_aload_n (pc := 726) dL_law_726 rfl ?_
    refine go_iconst (v := 0) (pc := 727) dL_law_727 (by decide) ?_
    refine go_lald (j := 0) (pc := 728) dL_law_728 ho2 (by exact ⟨rfl, by decide⟩) ?_
    refine go_iload (pc := 729) dL_law_729 rfl ?_
    refine go_i2l (pc := 731) dL_law_731 ?_
    refine go_lcmp (pc := 732) dL_law_732 ?_
    refine go_if_eq (tgt := 738) (pc := 733) dL_law_733 (by decide) (fun h_733 => ?_) (fun h_733 => by exfalso; (have e0 : r9 = 0 := by first | exact h_723 | exact Decidable.byContradiction h_723); (have e : fo 0 = v_705.toInt64 := by rw [hv]; exact hv2 e0); (simp only [lg_cmp_eq] at h_733); exact h_733 e)
    refine go_goto (tgt := 2749) (pc := 738) dL_law_738 (by decide) ?_
    exact go_wide (c2 := cells + 910) (s2 := slots + 12700) (by show cells + 4 + 0 + 0 ≤ cells + 910; omega) (by show slots + 24 + 0 + 0 ≤ slots + 12700; omega) (kk _ _ _ _ _ hI2)
theorem la_judge {Γ : gam} {Q : qp} {σ : sto} {n b a L m cells slots : Nat} {xs : row} {x5 x6 x7 : Option Value} (hI : LI Γ σ n b a L xs) (hL : 6 * m + 6 ≤ L) (hL2 : L ≤ 3072) (hc : cells + 910 ≤ 601024) (hs : slots + 12700 ≤ 7293034) (kk : ∀ σ' n' y5 y6 y7, LI Γ σ' n' b a L xs → Go Γ RL1 uL_law Q (cells + 910) (slots + 12700) 2749 [some (.ref b), some (.ref a), some (.ref (a + 114)), some (.ref (a + 131)), some (.int (nI (6 * m))), y5, y6, y7] [] σ' n') : Go Γ RL1 uL_law Q cells slots 952 [some (.ref b), some (.ref a), some (.ref (a + 114)), some (.ref (a + 131)), some (.int (nI (6 * m))), x5, x6, x7] [] σ n := by
  obtain ⟨ro, F, K, G, im, A, Nm, KI, hN, hR⟩ := hI
  have hb := hN.2.1
  have hG : GK K := hN.2.2.2.2.2.1
  have hT : okT (A 14) (A 15) := hN.2.2.2.2.2.2.2.2.2.1
  refine go_aload_n (pc := 952) dL_law_952 rfl ?_
  refine go_aload_n (pc := 953) dL_law_953 rfl ?_
  refine go_iload (pc := 954) dL_law_954 rfl ?_
  refine go_iconst (v := 1) (pc := 956) dL_law_956 (by decide) ?_
  refine go_iadd (pc := 957) dL_law_957 ?_
  refine go_iaB (hN := (by omega)) (pc := 958) dL_law_958 hb (by exact ⟨nI_add _ 1, by omega⟩) ?_
  refine go_aload_n (pc := 959) dL_law_959 rfl ?_
  refine go_iload (pc := 960) dL_law_960 rfl ?_
  refine go_iconst (v := 2) (pc := 962) dL_law_962 (by decide) ?_
  refine go_iadd (pc := 963) dL_law_963 ?_
  refine go_iaB (hN := (by omega)) (pc := 964) dL_law_964 hb (by exact ⟨nI_add _ 2, by omega⟩) ?_
  refine go_aload_n (pc := 965) dL_law_965 rfl ?_
  refine go_WI (As := [.ref a, .int _, .int _, .ref (a + 131)]) (rest := []) (pc := 966) s_L_188 rfl rfl rfl dL_law_966 (wq_judge (k := 2000) hN hR.1 (by decide) _ _) ⟨Nat.le_of_ble_eq_true rfl, Nat.le_of_ble_eq_true rfl⟩ ⟨by show cells + 4 ≤ 601024; omega, by show slots + 24 ≤ 7293034; omega⟩ (Nat.le_of_ble_eq_true rfl) (fun r9 σ1 n1 hQ => ?_)
  have hb := hQ.2.2.1.2.1
  clear hN
  refine go_istore (lw := [_, _, _, _, _, _, _, _]) (pc := 969) dL_law_969 (by decide) rfl ?_
  refine go_aload_n (pc := 971) dL_law_971 rfl ?_
  refine go_aload_n (pc := 972) dL_law_972 rfl ?_
  refine go_iload (pc := 973) dL_law_973 rfl ?_
  refine go_iconst (v := 1) (pc := 975) dL_law_975 (by decide) ?_
  refine go_iadd (pc := 976) dL_law_976 ?_
  refine go_iaB (hN := (by omega)) (pc := 977) dL_law_977 hb (by exact ⟨nI_add _ 1, by omega⟩) ?_
  refine go_aload_n (pc := 978) dL_law_978 rfl ?_
  refine go_iload (pc := 979) dL_law_979 rfl ?_
  refine go_iconst (v := 2) (pc := 981) dL_law_981 (by decide) ?_
  refine go_iadd (pc := 982) dL_law_982 ?_
  refine go_iaB (hN := (by omega)) (pc := 983) dL_law_983 hb (by exact ⟨nI_add _ 2, by omega⟩) ?_
  refine go_V2I (pc := 984) v_L_190 rfl rfl (rcv_of (ci := 8) hQ.2.2.2.2.1 rfl) dL_law_984 (sp_judge (k := 2000) hQ.2.2.2.2 (by decide) hG.D hT _ _) (fun v_984 σ n h => ?_) (hR := ⟨Nat.le_of_ble_eq_true rfl, Nat.le_of_ble_eq_true rfl⟩) (hC := ⟨by show cells + 4 + 0 ≤ 601024; omega, by show slots + 24 + 0 ≤ 7293034; omega⟩)
  obtain ⟨hv, hJ⟩ := h
  obtain ⟨rfl, hI2, ⟨F2, A2, hM2, hF4⟩, fo, ho2, hv2⟩ := la_r hR hQ rfl rfl rfl hJ
  refine go_istore (lw := [_, _, _, _, _, _, _, _]) (pc := 987) dL_law_987 (by decide) rfl ?_
  refine go_aload_n (pc := 989) dL_law_989 rfl ?_
  refine go_V0P (pc := 990) v_L_145 rfl rfl (rcv_of (ci := 8) hM2.1 rfl) dL_law_990 (sp_thrown (k := 2000) hM2) ?_ (hR := ⟨Nat.le_of_ble_eq_true rfl, Nat.le_of_ble_eq_true rfl⟩) (hC := ⟨by show cells + 4 + 0 + 0 ≤ 601024; omega, by show slots + 24 + 0 + 0 ≤ 7293034; omega⟩)
  refine go_iload (pc := 993) dL_law_993 rfl ?_
  refine go_icmp_eq (tgt := 1000) (pc := 995) dL_law_995 (by decide) (fun h_995 => ?_) (fun h_995 => by exfalso; first | exact h_995 hF4 | exact h_995 hF4.symm)
  refine go_iload (pc := 1000) dL_law_1000 rfl ?_
  refine go_if_ne (tgt := 1017) (pc := 1002) dL_law_1002 (by decide) (fun h_1002 => ?_) (fun h_1002 => ?_)
  · refine go_goto (tgt := 2749) (pc := 1017) dL_law_1017 (by decide) ?_
    exact go_wide (c2 := cells + 910) (s2 := slots + 12700) (by show cells + 4 + 0 + 0 ≤ cells + 910; omega) (by show slots + 24 + 0 + 0 ≤ slots + 12700; omega) (kk _ _ _ _ _ hI2)
  · refine go_aload_n (pc := 1005) dL_law_1005 rfl ?_
    refine go_iconst (v := 0) (pc := 1006) dL_law_1006 (by decide) ?_
    refine go_lald (j := 0) (pc := 1007) dL_law_1007 ho2 (by exact ⟨rfl, by decide⟩) ?_
    refine go_iload (pc := 1008) dL_law_1008 rfl ?_
    refine go_i2l (pc := 1010) dL_law_1010 ?_
    refine go_lcmp (pc := 1011) dL_law_1011 ?_
    refine go_if_eq (tgt := 1017) (pc := 1012) dL_law_1012 (by decide) (fun h_1012 => ?_) (fun h_1012 => by exfalso; (have e0 : r9 = 0 := by first | exact h_1002 | exact Decidable.byContradiction h_1002); (have e : fo 0 = v_984.toInt64 := by rw [hv]; exact hv2 e0); (simp only [lg_cmp_eq] at h_1012); exact h_1012 e)
    refine go_goto (tgt := 2749) (pc := 1017) dL_law_1017 (by decide) ?_
    exact go_wide (c2 := cells + 910) (s2 := slots + 12700) (by show cells + 4 + 0 + 0 ≤ cells + 910; omega) (by show slots + 24 + 0 + 0 ≤ slots + 12700; omega) (kk _ _ _ _ _ hI2)
theorem la_sits {Γ : gam} {Q : qp} {σ : sto} {n b a L m cells slots : Nat} {xs : row} {x5 x6 x7 : Option Value} (hI : LI Γ σ n b a L xs) (hL : 6 * m + 6 ≤ L) (hL2 : L ≤ 3072) (hc : cells + 910 ≤ 601024) (hs : slots + 12700 ≤ 7293034) (kk : ∀ σ' n' y5 y6 y7, LI Γ σ' n' b a L xs → Go Γ RL1 uL_law Q (cells + 910) (slots + 12700) 2749 [some (.ref b), some (.ref a), some (.ref (a + 114)), some (.ref (a + 131)), some (.int (nI (6 * m))), y5, y6, y7] [] σ' n') : Go Γ RL1 uL_law Q cells slots 1144 [some (.ref b), some (.ref a), some (.ref (a + 114)), some (.ref (a + 131)), some (.int (nI (6 * m))), x5, x6, x7] [] σ n := by
  obtain ⟨ro, F, K, G, im, A, Nm, KI, hN, hR⟩ := hI
  have hb := hN.2.1
  have hG : GK K := hN.2.2.2.2.2.1
  have hT : okT (A 14) (A 15) := hN.2.2.2.2.2.2.2.2.2.1
  refine go_aload_n (pc := 1144) dL_law_1144 rfl ?_
  refine go_aload_n (pc := 1145) dL_law_1145 rfl ?_
  refine go_iload (pc := 1146) dL_law_1146 rfl ?_
  refine go_iconst (v := 1) (pc := 1148) dL_law_1148 (by decide) ?_
  refine go_iadd (pc := 1149) dL_law_1149 ?_
  refine go_iaB (hN := (by omega)) (pc := 1150) dL_law_1150 hb (by exact ⟨nI_add _ 1, by omega⟩) ?_
  refine go_aload_n (pc := 1151) dL_law_1151 rfl ?_
  refine go_iload (pc := 1152) dL_law_1152 rfl ?_
  refine go_iconst (v := 2) (pc := 1154) dL_law_1154 (by decide) ?_
  refine go_iadd (pc := 1155) dL_law_1155 ?_
  refine go_iaB (hN := (by omega)) (pc := 1156) dL_law_1156 hb (by exact ⟨nI_add _ 2, by omega⟩) ?_
  refine go_aload_n (pc := 1157) dL_law_1157 rfl ?_
  refine go_WI (As := [.ref a, .int _, .int _, .ref (a + 131)]) (rest := []) (pc := 1158) s_L_197 rfl rfl rfl dL_law_1158 (wq_sits (k := 2000) hN hR.1 (by decide) _ _) ⟨Nat.le_of_ble_eq_true rfl, Nat.le_of_ble_eq_true rfl⟩ ⟨by show cells + 4 ≤ 601024; omega, by show slots + 24 ≤ 7293034; omega⟩ (Nat.le_of_ble_eq_true rfl) (fun r9 σ1 n1 hQ => ?_)
  have hb := hQ.2.2.1.2.1
  clear hN
  refine go_istore (lw := [_, _, _, _, _, _, _, _]) (pc := 1161) dL_law_1161 (by decide) rfl ?_
  refine go_aload_n (pc := 1163) dL_law_1163 rfl ?_
  refine go_aload_n (pc := 1164) dL_law_1164 rfl ?_
  refine go_iload (pc := 1165) dL_law_1165 rfl ?_
  refine go_iconst (v := 1) (pc := 1167) dL_law_1167 (by decide) ?_
  refine go_iadd (pc := 1168) dL_law_1168 ?_
  refine go_iaB (hN := (by omega)) (pc := 1169) dL_law_1169 hb (by exact ⟨nI_add _ 1, by omega⟩) ?_
  refine go_aload_n (pc := 1170) dL_law_1170 rfl ?_
  refine go_iload (pc := 1171) dL_law_1171 rfl ?_
  refine go_iconst (v := 2) (pc := 1173) dL_law_1173 (by decide) ?_
  refine go_iadd (pc := 1174) dL_law_1174 ?_
  refine go_iaB (hN := (by omega)) (pc := 1175) dL_law_1175 hb (by exact ⟨nI_add _ 2, by omega⟩) ?_
  refine go_V2I (pc := 1176) v_L_199 rfl rfl (rcv_of (ci := 8) hQ.2.2.2.2.1 rfl) dL_law_1176 (sp_sits (k := 2000) hQ.2.2.2.2 (by decide) hG.1 hG.2.1.1 _ _) (fun v_1176 σ n h => ?_) (hR := ⟨Nat.le_of_ble_eq_true rfl, Nat.le_of_ble_eq_true rfl⟩) (hC := ⟨by show cells + 4 + 0 ≤ 601024; omega, by show slots + 24 + 0 ≤ 7293034; omega⟩)
  obtain ⟨hv, hJ⟩ := h
  obtain ⟨rfl, hI2, ⟨F2, A2, hM2, hF4⟩, fo, ho2, hv2⟩ := la_r hR hQ rfl rfl rfl hJ
  refine go_istore (lw := [_, _, _, _, _, _, _, _]) (pc := 1179) dL_law_1179 (by decide) rfl ?_
  refine go_aload_n (pc := 1181) dL_law_1181 rfl ?_
  refine go_V0P (pc := 1182) v_L_145 rfl rfl (rcv_of (ci := 8) hM2.1 rfl) dL_law_1182 (sp_thrown (k := 2000) hM2) ?_ (hR := ⟨Nat.le_of_ble_eq_true rfl, Nat.le_of_ble_eq_true rfl⟩) (hC := ⟨by show cells + 4 + 0 + 0 ≤ 601024; omega, by show slots + 24 + 0 + 0 ≤ 7293034; omega⟩)
  refine go_iload (pc := 1185) dL_law_1185 rfl ?_
  refine go_icmp_eq (tgt := 1192) (pc := 1187) dL_law_1187 (by decide) (fun h_1187 => ?_) (fun h_1187 => by exfalso; first | exact h_1187 hF4 | exact h_1187 hF4.symm)
  refine go_iload (pc := 1192) dL_law_1192 rfl ?_
  refine go_if_ne (tgt := 1209) (pc := 1194) dL_law_1194 (by decide) (fun h_1194 => ?_) (fun h_1194 => ?_)
  · refine go_goto (tgt := 2749) (pc := 1209) dL_law_1209 (by decide) ?_
    exact go_wide (c2 := cells + 910) (s2 := slots + 12700) (by show cells + 4 + 0 + 0 ≤ cells + 910; omega) (by show slots + 24 + 0 + 0 ≤ slots + 12700; omega) (kk _ _ _ _ _ hI2)
  · refine go_aload_n (pc := 1197) dL_law_1197 rfl ?_
    refine go_iconst (v := 0) (pc := 1198) dL_law_1198 (by decide) ?_
    refine go_lald (j := 0) (pc := 1199) dL_law_1199 ho2 (by exact ⟨rfl, by decide⟩) ?_
    refine go_iload (pc := 1200) dL_law_1200 rfl ?_
    refine go_i2l (pc := 1202) dL_law_1202 ?_
    refine go_lcmp (pc := 1203) dL_law_1203 ?_
    refine go_if_eq (tgt := 1209) (pc := 1204) dL_law_1204 (by decide) (fun h_1204 => ?_) (fun h_1204 => by exfalso; (have e0 : r9 = 0 := by first | exact h_1194 | exact Decidable.byContradiction h_1194); (have e : fo 0 = v_1176.toInt64 := by rw [hv]; exact hv2 e0); (simp only [lg_cmp_eq] at h_1204); exact h_1204 e)
    refine go_goto (tgt := 2749) (pc := 1209) dL_law_1209 (by decide) ?_
    exact go_wide (c2 := cells + 910) (s2 := slots + 12700) (by show cells + 4 + 0 + 0 ≤ cells + 910; omega) (by show slots + 24 + 0 + 0 ≤ slots + 12700; omega) (kk _ _ _ _ _ hI2)
theorem la_wetIn {Γ : gam} {Q : qp} {σ : sto} {n b a L m cells slots : Nat} {xs : row} {x5 x6 x7 : Option Value} (hI : LI Γ σ n b a L xs) (hL : 6 * m + 6 ≤ L) (hL2 : L ≤ 3072) (hc : cells + 910 ≤ 601024) (hs : slots + 12700 ≤ 7293034) (kk : ∀ σ' n' y5 y6 y7, LI Γ σ' n' b a L xs → Go Γ RL1 uL_law Q (cells + 910) (slots + 12700) 2749 [some (.ref b), some (.ref a), some (.ref (a + 114)), some (.ref (a + 131)), some (.int (nI (6 * m))), y5, y6, y7] [] σ' n') : Go Γ RL1 uL_law Q cells slots 1212 [some (.ref b), some (.ref a), some (.ref (a + 114)), some (.ref (a + 131)), some (.int (nI (6 * m))), x5, x6, x7] [] σ n := by
  obtain ⟨ro, F, K, G, im, A, Nm, KI, hN, hR⟩ := hI
  have hb := hN.2.1
  have hG : GK K := hN.2.2.2.2.2.1
  have hT : okT (A 14) (A 15) := hN.2.2.2.2.2.2.2.2.2.1
  refine go_aload_n (pc := 1212) dL_law_1212 rfl ?_
  refine go_aload_n (pc := 1213) dL_law_1213 rfl ?_
  refine go_iload (pc := 1214) dL_law_1214 rfl ?_
  refine go_iconst (v := 1) (pc := 1216) dL_law_1216 (by decide) ?_
  refine go_iadd (pc := 1217) dL_law_1217 ?_
  refine go_iaB (hN := (by omega)) (pc := 1218) dL_law_1218 hb (by exact ⟨nI_add _ 1, by omega⟩) ?_
  refine go_aload_n (pc := 1219) dL_law_1219 rfl ?_
  refine go_WI (As := [.ref a, .int _, .ref (a + 131)]) (rest := []) (pc := 1220) s_L_200 rfl rfl rfl dL_law_1220 (wq_wetIn (k := 2000) hN hR.1 (by decide) _) ⟨Nat.le_of_ble_eq_true rfl, Nat.le_of_ble_eq_true rfl⟩ ⟨by show cells + 4 ≤ 601024; omega, by show slots + 24 ≤ 7293034; omega⟩ (Nat.le_of_ble_eq_true rfl) (fun r9 σ1 n1 hQ => ?_)
  have hb := hQ.2.2.1.2.1
  clear hN
  refine go_istore (lw := [_, _, _, _, _, _, _, _]) (pc := 1223) dL_law_1223 (by decide) rfl ?_
  refine go_aload_n (pc := 1225) dL_law_1225 rfl ?_
  refine go_aload_n (pc := 1226) dL_law_1226 rfl ?_
  refine go_iload (pc := 1227) dL_law_1227 rfl ?_
  refine go_iconst (v := 1) (pc := 1229) dL_law_1229 (by decide) ?_
  refine go_iadd (pc := 1230) dL_law_1230 ?_
  refine go_iaB (hN := (by omega)) (pc := 1231) dL_law_1231 hb (by exact ⟨nI_add _ 1, by omega⟩) ?_
  refine go_V1I (pc := 1232) v_L_202 rfl rfl (rcv_of (ci := 8) hQ.2.2.2.2.1 rfl) dL_law_1232 (sp_wetIn (k := 2000) hQ.2.2.2.2 (by decide) hG.1 hG.2.1.1 _) (fun v_1232 σ n h => ?_) (hR := ⟨Nat.le_of_ble_eq_true rfl, Nat.le_of_ble_eq_true rfl⟩) (hC := ⟨by show cells + 4 + 0 ≤ 601024; omega, by show slots + 24 + 0 ≤ 7293034; omega⟩)
  obtain ⟨hv, hJ⟩ := h
  obtain ⟨rfl, hI2, ⟨F2, A2, hM2, hF4⟩, fo, ho2, hv2⟩ := la_r hR hQ rfl rfl rfl hJ
  refine go_istore (lw := [_, _, _, _, _, _, _, _]) (pc := 1235) dL_law_1235 (by decide) rfl ?_
  refine go_aload_n (pc := 1237) dL_law_1237 rfl ?_
  refine go_V0P (pc := 1238) v_L_145 rfl rfl (rcv_of (ci := 8) hM2.1 rfl) dL_law_1238 (sp_thrown (k := 2000) hM2) ?_ (hR := ⟨Nat.le_of_ble_eq_true rfl, Nat.le_of_ble_eq_true rfl⟩) (hC := ⟨by show cells + 4 + 0 + 0 ≤ 601024; omega, by show slots + 24 + 0 + 0 ≤ 7293034; omega⟩)
  refine go_iload (pc := 1241) dL_law_1241 rfl ?_
  refine go_icmp_eq (tgt := 1248) (pc := 1243) dL_law_1243 (by decide) (fun h_1243 => ?_) (fun h_1243 => by exfalso; first | exact h_1243 hF4 | exact h_1243 hF4.symm)
  refine go_iload (pc := 1248) dL_law_1248 rfl ?_
  refine go_if_ne (tgt := 1265) (pc := 1250) dL_law_1250 (by decide) (fun h_1250 => ?_) (fun h_1250 => ?_)
  · refine go_goto (tgt := 2749) (pc := 1265) dL_law_1265 (by decide) ?_
    exact go_wide (c2 := cells + 910) (s2 := slots + 12700) (by show cells + 4 + 0 + 0 ≤ cells + 910; omega) (by show slots + 24 + 0 + 0 ≤ slots + 12700; omega) (kk _ _ _ _ _ hI2)
  · refine go_aload_n (pc := 1253) dL_law_1253 rfl ?_
    refine go_iconst (v := 0) (pc := 1254) dL_law_1254 (by decide) ?_
    refine go_lald (j := 0) (pc := 1255) dL_law_1255 ho2 (by exact ⟨rfl, by decide⟩) ?_
    refine go_iload (pc := 1256) dL_law_1256 rfl ?_
    refine go_i2l (pc := 1258) dL_law_1258 ?_
    refine go_lcmp (pc := 1259) dL_law_1259 ?_
    refine go_if_eq (tgt := 1265) (pc := 1260) dL_law_1260 (by decide) (fun h_1260 => ?_) (fun h_1260 => by exfalso; (have e0 : r9 = 0 := by first | exact h_1250 | exact Decidable.byContradiction h_1250); (have e : fo 0 = v_1232.toInt64 := by rw [hv]; exact hv2 e0); (simp only [lg_cmp_eq] at h_1260); exact h_1260 e)
    refine go_goto (tgt := 2749) (pc := 1265) dL_law_1265 (by decide) ?_
    exact go_wide (c2 := cells + 910) (s2 := slots + 12700) (by show cells + 4 + 0 + 0 ≤ cells + 910; omega) (by show slots + 24 + 0 + 0 ≤ slots + 12700; omega) (kk _ _ _ _ _ hI2)
theorem la_wetBy {Γ : gam} {Q : qp} {σ : sto} {n b a L m cells slots : Nat} {xs : row} {x5 x6 x7 : Option Value} (hI : LI Γ σ n b a L xs) (hL : 6 * m + 6 ≤ L) (hL2 : L ≤ 3072) (hc : cells + 910 ≤ 601024) (hs : slots + 12700 ≤ 7293034) (kk : ∀ σ' n' y5 y6 y7, LI Γ σ' n' b a L xs → Go Γ RL1 uL_law Q (cells + 910) (slots + 12700) 2749 [some (.ref b), some (.ref a), some (.ref (a + 114)), some (.ref (a + 131)), some (.int (nI (6 * m))), y5, y6, y7] [] σ' n') : Go Γ RL1 uL_law Q cells slots 1268 [some (.ref b), some (.ref a), some (.ref (a + 114)), some (.ref (a + 131)), some (.int (nI (6 * m))), x5, x6, x7] [] σ n := by
  obtain ⟨ro, F, K, G, im, A, Nm, KI, hN, hR⟩ := hI
  have hb := hN.2.1
  have hG : GK K := hN.2.2.2.2.2.1
  have hT : okT (A 14) (A 15) := hN.2.2.2.2.2.2.2.2.2.1
  refine go_aload_n (pc := 1268) dL_law_1268 rfl ?_
  refine go_aload_n (pc := 1269) dL_law_1269 rfl ?_
  refine go_iload (pc := 1270) dL_law_1270 rfl ?_
  refine go_iconst (v := 1) (pc := 1272) dL_law_1272 (by decide) ?_
  refine go_iadd (pc := 1273) dL_law_1273 ?_
  refine go_iaB (hN := (by omega)) (pc := 1274) dL_law_1274 hb (by exact ⟨nI_add _ 1, by omega⟩) ?_
  refine go_aload_n (pc := 1275) dL_law_1275 rfl ?_
  refine go_WI (As := [.ref a, .int _, .ref (a + 131)]) (rest := []) (pc := 1276) s_L_203 rfl rfl rfl dL_law_1276 (wq_wetBy (k := 2000) hN hR.1 (by decide) _) ⟨Nat.le_of_ble_eq_true rfl, Nat.le_of_ble_eq_true rfl⟩ ⟨by show cells + 4 ≤ 601024; omega, by show slots + 24 ≤ 7293034; omega⟩ (Nat.le_of_ble_eq_true rfl) (fun r9 σ1 n1 hQ => ?_)
  have hb := hQ.2.2.1.2.1
  clear hN
  refine go_istore (lw := [_, _, _, _, _, _, _, _]) (pc := 1279) dL_law_1279 (by decide) rfl ?_
  refine go_aload_n (pc := 1281) dL_law_1281 rfl ?_
  refine go_aload_n (pc := 1282) dL_law_1282 rfl ?_
  refine go_iload (pc := 1283) dL_law_1283 rfl ?_
  refine go_iconst (v := 1) (pc := 1285) dL_law_1285 (by decide) ?_
  refine go_iadd (pc := 1286) dL_law_1286 ?_
  refine go_iaB (hN := (by omega)) (pc := 1287) dL_law_1287 hb (by exact ⟨nI_add _ 1, by omega⟩) ?_
  refine go_V1I (pc := 1288) v_L_205 rfl rfl (rcv_of (ci := 8) hQ.2.2.2.2.1 rfl) dL_law_1288 (sp_wetBy (k := 2000) hQ.2.2.2.2 (by decide) hG.1 hG.2.1.1 _) (fun v_1288 σ n h => ?_) (hR := ⟨Nat.le_of_ble_eq_true rfl, Nat.le_of_ble_eq_true rfl⟩) (hC := ⟨by show cells + 4 + 0 ≤ 601024; omega, by show slots + 24 + 0 ≤ 7293034; omega⟩)
  obtain ⟨hv, hJ⟩ := h
  obtain ⟨rfl, hI2, ⟨F2, A2, hM2, hF4⟩, fo, ho2, hv2⟩ := la_r hR hQ rfl rfl rfl hJ
  refine go_istore (lw := [_, _, _, _, _, _, _, _]) (pc := 1291) dL_law_1291 (by decide) rfl ?_
  refine go_aload_n (pc := 1293) dL_law_1293 rfl ?_
  refine go_V0P (pc := 1294) v_L_145 rfl rfl (rcv_of (ci := 8) hM2.1 rfl) dL_law_1294 (sp_thrown (k := 2000) hM2) ?_ (hR := ⟨Nat.le_of_ble_eq_true rfl, Nat.le_of_ble_eq_true rfl⟩) (hC := ⟨by show cells + 4 + 0 + 0 ≤ 601024; omega, by show slots + 24 + 0 + 0 ≤ 7293034; omega⟩)
  refine go_iload (pc := 1297) dL_law_1297 rfl ?_
  refine go_icmp_eq (tgt := 1304) (pc := 1299) dL_law_1299 (by decide) (fun h_1299 => ?_) (fun h_1299 => by exfalso; first | exact h_1299 hF4 | exact h_1299 hF4.symm)
  refine go_iload (pc := 1304) dL_law_1304 rfl ?_
  refine go_if_ne (tgt := 1321) (pc := 1306) dL_law_1306 (by decide) (fun h_1306 => ?_) (fun h_1306 => ?_)
  · refine go_goto (tgt := 2749) (pc := 1321) dL_law_1321 (by decide) ?_
    exact go_wide (c2 := cells + 910) (s2 := slots + 12700) (by show cells + 4 + 0 + 0 ≤ cells + 910; omega) (by show slots + 24 + 0 + 0 ≤ slots + 12700; omega) (kk _ _ _ _ _ hI2)
  · refine go_aload_n (pc := 1309) dL_law_1309 rfl ?_
    refine go_iconst (v := 0) (pc := 1310) dL_law_1310 (by decide) ?_
    refine go_lald (j := 0) (pc := 1311) dL_law_1311 ho2 (by exact ⟨rfl, by decide⟩) ?_
    refine go_iload (pc := 1312) dL_law_1312 rfl ?_
    refine go_i2l (pc := 1314) dL_law_1314 ?_
    refine go_lcmp (pc := 1315) dL_law_1315 ?_
    refine go_if_eq (tgt := 1321) (pc := 1316) dL_law_1316 (by decide) (fun h_1316 => ?_) (fun h_1316 => by exfalso; (have e0 : r9 = 0 := by first | exact h_1306 | exact Decidable.byContradiction h_1306); (have e : fo 0 = v_1288.toInt64 := by rw [hv]; exact hv2 e0); (simp only [lg_cmp_eq] at h_1316); exact h_1316 e)
    refine go_goto (tgt := 2749) (pc := 1321) dL_law_1321 (by decide) ?_
    exact go_wide (c2 := cells + 910) (s2 := slots + 12700) (by show cells + 4 + 0 + 0 ≤ cells + 910; omega) (by show slots + 24 + 0 + 0 ≤ slots + 12700; omega) (kk _ _ _ _ _ hI2)
theorem la_frontIn {Γ : gam} {Q : qp} {σ : sto} {n b a L m cells slots : Nat} {xs : row} {x5 x6 x7 : Option Value} (hI : LI Γ σ n b a L xs) (hL : 6 * m + 6 ≤ L) (hL2 : L ≤ 3072) (hc : cells + 910 ≤ 601024) (hs : slots + 12700 ≤ 7293034) (kk : ∀ σ' n' y5 y6 y7, LI Γ σ' n' b a L xs → Go Γ RL1 uL_law Q (cells + 910) (slots + 12700) 2749 [some (.ref b), some (.ref a), some (.ref (a + 114)), some (.ref (a + 131)), some (.int (nI (6 * m))), y5, y6, y7] [] σ' n') : Go Γ RL1 uL_law Q cells slots 1324 [some (.ref b), some (.ref a), some (.ref (a + 114)), some (.ref (a + 131)), some (.int (nI (6 * m))), x5, x6, x7] [] σ n := by
  obtain ⟨ro, F, K, G, im, A, Nm, KI, hN, hR⟩ := hI
  have hb := hN.2.1
  have hG : GK K := hN.2.2.2.2.2.1
  have hT : okT (A 14) (A 15) := hN.2.2.2.2.2.2.2.2.2.1
  refine go_aload_n (pc := 1324) dL_law_1324 rfl ?_
  refine go_aload_n (pc := 1325) dL_law_1325 rfl ?_
  refine go_iload (pc := 1326) dL_law_1326 rfl ?_
  refine go_iconst (v := 1) (pc := 1328) dL_law_1328 (by decide) ?_
  refine go_iadd (pc := 1329) dL_law_1329 ?_
  refine go_iaB (hN := (by omega)) (pc := 1330) dL_law_1330 hb (by exact ⟨nI_add _ 1, by omega⟩) ?_
  refine go_aload_n (pc := 1331) dL_law_1331 rfl ?_
  refine go_WI (As := [.ref a, .int _, .ref (a + 131)]) (rest := []) (pc := 1332) s_L_206 rfl rfl rfl dL_law_1332 (wq_frontIn (k := 2000) hN hR.1 (by decide) _) ⟨Nat.le_of_ble_eq_true rfl, Nat.le_of_ble_eq_true rfl⟩ ⟨by show cells + 4 ≤ 601024; omega, by show slots + 24 ≤ 7293034; omega⟩ (Nat.le_of_ble_eq_true rfl) (fun r9 σ1 n1 hQ => ?_)
  have hb := hQ.2.2.1.2.1
  clear hN
  refine go_istore (lw := [_, _, _, _, _, _, _, _]) (pc := 1335) dL_law_1335 (by decide) rfl ?_
  refine go_aload_n (pc := 1337) dL_law_1337 rfl ?_
  refine go_aload_n (pc := 1338) dL_law_1338 rfl ?_
  refine go_iload (pc := 1339) dL_law_1339 rfl ?_
  refine go_iconst (v := 1) (pc := 1341) dL_law_1341 (by decide) ?_
  refine go_iadd (pc := 1342) dL_law_1342 ?_
  refine go_iaB (hN := (by omega)) (pc := 1343) dL_law_1343 hb (by exact ⟨nI_add _ 1, by omega⟩) ?_
  refine go_V1I (pc := 1344) v_L_208 rfl rfl (rcv_of (ci := 8) hQ.2.2.2.2.1 rfl) dL_law_1344 (sp_frontIn (k := 2000) hQ.2.2.2.2 (by decide) hG.1 hG.2.1.1 _) (fun v_1344 σ n h => ?_) (hR := ⟨Nat.le_of_ble_eq_true rfl, Nat.le_of_ble_eq_true rfl⟩) (hC := ⟨by show cells + 4 + 0 ≤ 601024; omega, by show slots + 24 + 0 ≤ 7293034; omega⟩)
  obtain ⟨hv, hJ⟩ := h
  obtain ⟨rfl, hI2, ⟨F2, A2, hM2, hF4⟩, fo, ho2, hv2⟩ := la_r hR hQ rfl rfl rfl hJ
  refine go_istore (lw := [_, _, _, _, _, _, _, _]) (pc := 1347) dL_law_1347 (by decide) rfl ?_
  refine go_aload_n (pc := 1349) dL_law_1349 rfl ?_
  refine go_V0P (pc := 1350) v_L_145 rfl rfl (rcv_of (ci := 8) hM2.1 rfl) dL_law_1350 (sp_thrown (k := 2000) hM2) ?_ (hR := ⟨Nat.le_of_ble_eq_true rfl, Nat.le_of_ble_eq_true rfl⟩) (hC := ⟨by show cells + 4 + 0 + 0 ≤ 601024; omega, by show slots + 24 + 0 + 0 ≤ 7293034; omega⟩)
  refine go_iload (pc := 1353) dL_law_1353 rfl ?_
  refine go_icmp_eq (tgt := 1360) (pc := 1355) dL_law_1355 (by decide) (fun h_1355 => ?_) (fun h_1355 => by exfalso; first | exact h_1355 hF4 | exact h_1355 hF4.symm)
  refine go_iload (pc := 1360) dL_law_1360 rfl ?_
  refine go_if_ne (tgt := 1377) (pc := 1362) dL_law_1362 (by decide) (fun h_1362 => ?_) (fun h_1362 => ?_)
  · refine go_goto (tgt := 2749) (pc := 1377) dL_law_1377 (by decide) ?_
    exact go_wide (c2 := cells + 910) (s2 := slots + 12700) (by show cells + 4 + 0 + 0 ≤ cells + 910; omega) (by show slots + 24 + 0 + 0 ≤ slots + 12700; omega) (kk _ _ _ _ _ hI2)
  · refine go_aload_n (pc := 1365) dL_law_1365 rfl ?_
    refine go_iconst (v := 0) (pc := 1366) dL_law_1366 (by decide) ?_
    refine go_lald (j := 0) (pc := 1367) dL_law_1367 ho2 (by exact ⟨rfl, by decide⟩) ?_
    refine go_iload (pc := 1368) dL_law_1368 rfl ?_
    refine go_i2l (pc := 1370) dL_law_1370 ?_
    refine go_lcmp (pc := 1371) dL_law_1371 ?_
    refine go_if_eq (tgt := 1377) (pc := 1372) dL_law_1372 (by decide) (fun h_1372 => ?_) (fun h_1372 => by exfalso; (have e0 : r9 = 0 := by first | exact h_1362 | exact Decidable.byContradiction h_1362); (have e : fo 0 = v_1344.toInt64 := by rw [hv]; exact hv2 e0); (simp only [lg_cmp_eq] at h_1372); exact h_1372 e)
    refine go_goto (tgt := 2749) (pc := 1377) dL_law_1377 (by decide) ?_
    exact go_wide (c2 := cells + 910) (s2 := slots + 12700) (by show cells + 4 + 0 + 0 ≤ cells + 910; omega) (by show slots + 24 + 0 + 0 ≤ slots + 12700; omega) (kk _ _ _ _ _ hI2)
theorem la_front {Γ : gam} {Q : qp} {σ : sto} {n b a L m cells slots : Nat} {xs : row} {x5 x6 x7 : Option Value} (hI : LI Γ σ n b a L xs) (hL : 6 * m + 6 ≤ L) (hL2 : L ≤ 3072) (hc : cells + 910 ≤ 601024) (hs : slots + 12700 ≤ 7293034) (kk : ∀ σ' n' y5 y6 y7, LI Γ σ' n' b a L xs → Go Γ RL1 uL_law Q (cells + 910) (slots + 12700) 2749 [some (.ref b), some (.ref a), some (.ref (a + 114)), some (.ref (a + 131)), some (.int (nI (6 * m))), y5, y6, y7] [] σ' n') : Go Γ RL1 uL_law Q cells slots 1380 [some (.ref b), some (.ref a), some (.ref (a + 114)), some (.ref (a + 131)), some (.int (nI (6 * m))), x5, x6, x7] [] σ n := by
  obtain ⟨ro, F, K, G, im, A, Nm, KI, hN, hR⟩ := hI
  have hb := hN.2.1
  have hG : GK K := hN.2.2.2.2.2.1
  have hT : okT (A 14) (A 15) := hN.2.2.2.2.2.2.2.2.2.1
  refine go_aload_n (pc := 1380) dL_law_1380 rfl ?_
  refine go_aload_n (pc := 1381) dL_law_1381 rfl ?_
  refine go_iload (pc := 1382) dL_law_1382 rfl ?_
  refine go_iconst (v := 1) (pc := 1384) dL_law_1384 (by decide) ?_
  refine go_iadd (pc := 1385) dL_law_1385 ?_
  refine go_iaB (hN := (by omega)) (pc := 1386) dL_law_1386 hb (by exact ⟨nI_add _ 1, by omega⟩) ?_
  refine go_aload_n (pc := 1387) dL_law_1387 rfl ?_
  refine go_WI (As := [.ref a, .int _, .ref (a + 131)]) (rest := []) (pc := 1388) s_L_209 rfl rfl rfl dL_law_1388 (wq_front (k := 2000) hN hR.1 (by decide) _) ⟨Nat.le_of_ble_eq_true rfl, Nat.le_of_ble_eq_true rfl⟩ ⟨by show cells + 4 ≤ 601024; omega, by show slots + 24 ≤ 7293034; omega⟩ (Nat.le_of_ble_eq_true rfl) (fun r9 σ1 n1 hQ => ?_)
  have hb := hQ.2.2.1.2.1
  clear hN
  refine go_istore (lw := [_, _, _, _, _, _, _, _]) (pc := 1391) dL_law_1391 (by decide) rfl ?_
  refine go_aload_n (pc := 1393) dL_law_1393 rfl ?_
  refine go_aload_n (pc := 1394) dL_law_1394 rfl ?_
  refine go_iload (pc := 1395) dL_law_1395 rfl ?_
  refine go_iconst (v := 1) (pc := 1397) dL_law_1397 (by decide) ?_
  refine go_iadd (pc := 1398) dL_law_1398 ?_
  refine go_iaB (hN := (by omega)) (pc := 1399) dL_law_1399 hb (by exact ⟨nI_add _ 1, by omega⟩) ?_
  refine go_V1I (pc := 1400) v_L_211 rfl rfl (rcv_of (ci := 8) hQ.2.2.2.2.1 rfl) dL_law_1400 (sp_front (k := 2000) hQ.2.2.2.2 (by decide) hG.1 hG.2.1.1 _) (fun v_1400 σ n h => ?_) (hR := ⟨Nat.le_of_ble_eq_true rfl, Nat.le_of_ble_eq_true rfl⟩) (hC := ⟨by show cells + 4 + 0 ≤ 601024; omega, by show slots + 24 + 0 ≤ 7293034; omega⟩)
  obtain ⟨hv, hJ⟩ := h
  obtain ⟨rfl, hI2, ⟨F2, A2, hM2, hF4⟩, fo, ho2, hv2⟩ := la_r hR hQ rfl rfl rfl hJ
  refine go_istore (lw := [_, _, _, _, _, _, _, _]) (pc := 1403) dL_law_1403 (by decide) rfl ?_
  refine go_aload_n (pc := 1405) dL_law_1405 rfl ?_
  refine go_V0P (pc := 1406) v_L_145 rfl rfl (rcv_of (ci := 8) hM2.1 rfl) dL_law_1406 (sp_thrown (k := 2000) hM2) ?_ (hR := ⟨Nat.le_of_ble_eq_true rfl, Nat.le_of_ble_eq_true rfl⟩) (hC := ⟨by show cells + 4 + 0 + 0 ≤ 601024; omega, by show slots + 24 + 0 + 0 ≤ 7293034; omega⟩)
  refine go_iload (pc := 1409) dL_law_1409 rfl ?_
  refine go_icmp_eq (tgt := 1416) (pc := 1411) dL_law_1411 (by decide) (fun h_1411 => ?_) (fun h_1411 => by exfalso; first | exact h_1411 hF4 | exact h_1411 hF4.symm)
  refine go_iload (pc := 1416) dL_law_1416 rfl ?_
  refine go_if_ne (tgt := 1433) (pc := 1418) dL_law_1418 (by decide) (fun h_1418 => ?_) (fun h_1418 => ?_)
  · refine go_goto (tgt := 2749) (pc := 1433) dL_law_1433 (by decide) ?_
    exact go_wide (c2 := cells + 910) (s2 := slots + 12700) (by show cells + 4 + 0 + 0 ≤ cells + 910; omega) (by show slots + 24 + 0 + 0 ≤ slots + 12700; omega) (kk _ _ _ _ _ hI2)
  · refine go_aload_n (pc := 1421) dL_law_1421 rfl ?_
    refine go_iconst (v := 0) (pc := 1422) dL_law_1422 (by decide) ?_
    refine go_lald (j := 0) (pc := 1423) dL_law_1423 ho2 (by exact ⟨rfl, by decide⟩) ?_
    refine go_iload (pc := 1424) dL_law_1424 rfl ?_
    refine go_i2l (pc := 1426) dL_law_1426 ?_
    refine go_lcmp (pc := 1427) dL_law_1427 ?_
    refine go_if_eq (tgt := 1433) (pc := 1428) dL_law_1428 (by decide) (fun h_1428 => ?_) (fun h_1428 => by exfalso; (have e0 : r9 = 0 := by first | exact h_1418 | exact Decidable.byContradiction h_1418); (have e : fo 0 = v_1400.toInt64 := by rw [hv]; exact hv2 e0); (simp only [lg_cmp_eq] at h_1428); exact h_1428 e)
    refine go_goto (tgt := 2749) (pc := 1433) dL_law_1433 (by decide) ?_
    exact go_wide (c2 := cells + 910) (s2 := slots + 12700) (by show cells + 4 + 0 + 0 ≤ cells + 910; omega) (by show slots + 24 + 0 + 0 ≤ slots + 12700; omega) (kk _ _ _ _ _ hI2)
theorem la_king {Γ : gam} {Q : qp} {σ : sto} {n b a L m cells slots : Nat} {xs : row} {x5 x6 x7 : Option Value} (hI : LI Γ σ n b a L xs) (hL : 6 * m + 6 ≤ L) (hL2 : L ≤ 3072) (hc : cells + 910 ≤ 601024) (hs : slots + 12700 ≤ 7293034) (kk : ∀ σ' n' y5 y6 y7, LI Γ σ' n' b a L xs → Go Γ RL1 uL_law Q (cells + 910) (slots + 12700) 2749 [some (.ref b), some (.ref a), some (.ref (a + 114)), some (.ref (a + 131)), some (.int (nI (6 * m))), y5, y6, y7] [] σ' n') : Go Γ RL1 uL_law Q cells slots 1436 [some (.ref b), some (.ref a), some (.ref (a + 114)), some (.ref (a + 131)), some (.int (nI (6 * m))), x5, x6, x7] [] σ n := by
  obtain ⟨ro, F, K, G, im, A, Nm, KI, hN, hR⟩ := hI
  have hb := hN.2.1
  have hG : GK K := hN.2.2.2.2.2.1
  have hT : okT (A 14) (A 15) := hN.2.2.2.2.2.2.2.2.2.1
  refine go_aload_n (pc := 1436) dL_law_1436 rfl ?_
  refine go_aload_n (pc := 1437) dL_law_1437 rfl ?_
  refine go_iload (pc := 1438) dL_law_1438 rfl ?_
  refine go_iconst (v := 1) (pc := 1440) dL_law_1440 (by decide) ?_
  refine go_iadd (pc := 1441) dL_law_1441 ?_
  refine go_iaB (hN := (by omega)) (pc := 1442) dL_law_1442 hb (by exact ⟨nI_add _ 1, by omega⟩) ?_
  refine go_aload_n (pc := 1443) dL_law_1443 rfl ?_
  refine go_WI (As := [.ref a, .int _, .ref (a + 131)]) (rest := []) (pc := 1444) s_L_212 rfl rfl rfl dL_law_1444 (wq_king (k := 2000) hN hR.1 (by decide) _) ⟨Nat.le_of_ble_eq_true rfl, Nat.le_of_ble_eq_true rfl⟩ ⟨by show cells + 4 ≤ 601024; omega, by show slots + 24 ≤ 7293034; omega⟩ (Nat.le_of_ble_eq_true rfl) (fun r9 σ1 n1 hQ => ?_)
  have hb := hQ.2.2.1.2.1
  clear hN
  refine go_istore (lw := [_, _, _, _, _, _, _, _]) (pc := 1447) dL_law_1447 (by decide) rfl ?_
  refine go_aload_n (pc := 1449) dL_law_1449 rfl ?_
  refine go_aload_n (pc := 1450) dL_law_1450 rfl ?_
  refine go_iload (pc := 1451) dL_law_1451 rfl ?_
  refine go_iconst (v := 1) (pc := 1453) dL_law_1453 (by decide) ?_
  refine go_iadd (pc := 1454) dL_law_1454 ?_
  refine go_iaB (hN := (by omega)) (pc := 1455) dL_law_1455 hb (by exact ⟨nI_add _ 1, by omega⟩) ?_
  refine go_V1I (pc := 1456) v_L_214 rfl rfl (rcv_of (ci := 8) hQ.2.2.2.2.1 rfl) dL_law_1456 (sp_king (k := 2000) hQ.2.2.2.2 (by decide) hG.1 hG.2.1.1 _) (fun v_1456 σ n h => ?_) (hR := ⟨Nat.le_of_ble_eq_true rfl, Nat.le_of_ble_eq_true rfl⟩) (hC := ⟨by show cells + 4 + 0 ≤ 601024; omega, by show slots + 24 + 0 ≤ 7293034; omega⟩)
  obtain ⟨hv, hJ⟩ := h
  obtain ⟨rfl, hI2, ⟨F2, A2, hM2, hF4⟩, fo, ho2, hv2⟩ := la_r hR hQ rfl rfl rfl hJ
  refine go_istore (lw := [_, _, _, _, _, _, _, _]) (pc := 1459) dL_law_1459 (by decide) rfl ?_
  refine go_aload_n (pc := 1461) dL_law_1461 rfl ?_
  refine go_V0P (pc := 1462) v_L_145 rfl rfl (rcv_of (ci := 8) hM2.1 rfl) dL_law_1462 (sp_thrown (k := 2000) hM2) ?_ (hR := ⟨Nat.le_of_ble_eq_true rfl, Nat.le_of_ble_eq_true rfl⟩) (hC := ⟨by show cells + 4 + 0 + 0 ≤ 601024; omega, by show slots + 24 + 0 + 0 ≤ 7293034; omega⟩)
  refine go_iload (pc := 1465) dL_law_1465 rfl ?_
  refine go_icmp_eq (tgt := 1472) (pc := 1467) dL_law_1467 (by decide) (fun h_1467 => ?_) (fun h_1467 => by exfalso; first | exact h_1467 hF4 | exact h_1467 hF4.symm)
  refine go_iload (pc := 1472) dL_law_1472 rfl ?_
  refine go_if_ne (tgt := 1489) (pc := 1474) dL_law_1474 (by decide) (fun h_1474 => ?_) (fun h_1474 => ?_)
  · refine go_goto (tgt := 2749) (pc := 1489) dL_law_1489 (by decide) ?_
    exact go_wide (c2 := cells + 910) (s2 := slots + 12700) (by show cells + 4 + 0 + 0 ≤ cells + 910; omega) (by show slots + 24 + 0 + 0 ≤ slots + 12700; omega) (kk _ _ _ _ _ hI2)
  · refine go_aload_n (pc := 1477) dL_law_1477 rfl ?_
    refine go_iconst (v := 0) (pc := 1478) dL_law_1478 (by decide) ?_
    refine go_lald (j := 0) (pc := 1479) dL_law_1479 ho2 (by exact ⟨rfl, by decide⟩) ?_
    refine go_iload (pc := 1480) dL_law_1480 rfl ?_
    refine go_i2l (pc := 1482) dL_law_1482 ?_
    refine go_lcmp (pc := 1483) dL_law_1483 ?_
    refine go_if_eq (tgt := 1489) (pc := 1484) dL_law_1484 (by decide) (fun h_1484 => ?_) (fun h_1484 => by exfalso; (have e0 : r9 = 0 := by first | exact h_1474 | exact Decidable.byContradiction h_1474); (have e : fo 0 = v_1456.toInt64 := by rw [hv]; exact hv2 e0); (simp only [lg_cmp_eq] at h_1484); exact h_1484 e)
    refine go_goto (tgt := 2749) (pc := 1489) dL_law_1489 (by decide) ?_
    exact go_wide (c2 := cells + 910) (s2 := slots + 12700) (by show cells + 4 + 0 + 0 ≤ cells + 910; omega) (by show slots + 24 + 0 + 0 ≤ slots + 12700; omega) (kk _ _ _ _ _ hI2)
theorem la_bring {Γ : gam} {Q : qp} {σ : sto} {n b a L m cells slots : Nat} {xs : row} {x5 x6 x7 : Option Value} (hI : LI Γ σ n b a L xs) (hL : 6 * m + 6 ≤ L) (hL2 : L ≤ 3072) (hc : cells + 910 ≤ 601024) (hs : slots + 12700 ≤ 7293034) (kk : ∀ σ' n' y5 y6 y7, LI Γ σ' n' b a L xs → Go Γ RL1 uL_law Q (cells + 910) (slots + 12700) 2749 [some (.ref b), some (.ref a), some (.ref (a + 114)), some (.ref (a + 131)), some (.int (nI (6 * m))), y5, y6, y7] [] σ' n') : Go Γ RL1 uL_law Q cells slots 1492 [some (.ref b), some (.ref a), some (.ref (a + 114)), some (.ref (a + 131)), some (.int (nI (6 * m))), x5, x6, x7] [] σ n := by
  obtain ⟨ro, F, K, G, im, A, Nm, KI, hN, hR⟩ := hI
  have hb := hN.2.1
  have hG : GK K := hN.2.2.2.2.2.1
  have hT : okT (A 14) (A 15) := hN.2.2.2.2.2.2.2.2.2.1
  refine go_aload_n (pc := 1492) dL_law_1492 rfl ?_
  refine go_aload_n (pc := 1493) dL_law_1493 rfl ?_
  refine go_iload (pc := 1494) dL_law_1494 rfl ?_
  refine go_iconst (v := 1) (pc := 1496) dL_law_1496 (by decide) ?_
  refine go_iadd (pc := 1497) dL_law_1497 ?_
  refine go_iaB (hN := (by omega)) (pc := 1498) dL_law_1498 hb (by exact ⟨nI_add _ 1, by omega⟩) ?_
  refine go_aload_n (pc := 1499) dL_law_1499 rfl ?_
  refine go_iload (pc := 1500) dL_law_1500 rfl ?_
  refine go_iconst (v := 2) (pc := 1502) dL_law_1502 (by decide) ?_
  refine go_iadd (pc := 1503) dL_law_1503 ?_
  refine go_iaB (hN := (by omega)) (pc := 1504) dL_law_1504 hb (by exact ⟨nI_add _ 2, by omega⟩) ?_
  refine go_aload_n (pc := 1505) dL_law_1505 rfl ?_
  refine go_iload (pc := 1506) dL_law_1506 rfl ?_
  refine go_iconst (v := 3) (pc := 1508) dL_law_1508 (by decide) ?_
  refine go_iadd (pc := 1509) dL_law_1509 ?_
  refine go_iaB (hN := (by omega)) (pc := 1510) dL_law_1510 hb (by exact ⟨nI_add _ 3, by omega⟩) ?_
  refine go_aload_n (pc := 1511) dL_law_1511 rfl ?_
  refine go_WI (As := [.ref a, .int _, .int _, .int _, .ref (a + 131)]) (rest := []) (pc := 1512) s_L_215 rfl rfl rfl dL_law_1512 (wq_bring (k := 2000) hN hR.1 (by decide) _ _ _) ⟨Nat.le_of_ble_eq_true rfl, Nat.le_of_ble_eq_true rfl⟩ ⟨by show cells + 4 ≤ 601024; omega, by show slots + 24 ≤ 7293034; omega⟩ (Nat.le_of_ble_eq_true rfl) (fun r9 σ1 n1 hQ => ?_)
  have hb := hQ.2.2.1.2.1
  clear hN
  refine go_istore (lw := [_, _, _, _, _, _, _, _]) (pc := 1515) dL_law_1515 (by decide) rfl ?_
  refine go_aload_n (pc := 1517) dL_law_1517 rfl ?_
  refine go_aload_n (pc := 1518) dL_law_1518 rfl ?_
  refine go_iload (pc := 1519) dL_law_1519 rfl ?_
  refine go_iconst (v := 1) (pc := 1521) dL_law_1521 (by decide) ?_
  refine go_iadd (pc := 1522) dL_law_1522 ?_
  refine go_iaB (hN := (by omega)) (pc := 1523) dL_law_1523 hb (by exact ⟨nI_add _ 1, by omega⟩) ?_
  refine go_aload_n (pc := 1524) dL_law_1524 rfl ?_
  refine go_iload (pc := 1525) dL_law_1525 rfl ?_
  refine go_iconst (v := 2) (pc := 1527) dL_law_1527 (by decide) ?_
  refine go_iadd (pc := 1528) dL_law_1528 ?_
  refine go_iaB (hN := (by omega)) (pc := 1529) dL_law_1529 hb (by exact ⟨nI_add _ 2, by omega⟩) ?_
  refine go_aload_n (pc := 1530) dL_law_1530 rfl ?_
  refine go_iload (pc := 1531) dL_law_1531 rfl ?_
  refine go_iconst (v := 3) (pc := 1533) dL_law_1533 (by decide) ?_
  refine go_iadd (pc := 1534) dL_law_1534 ?_
  refine go_iaB (hN := (by omega)) (pc := 1535) dL_law_1535 hb (by exact ⟨nI_add _ 3, by omega⟩) ?_
  refine go_V3I (pc := 1536) v_L_217 rfl rfl (rcv_of (ci := 8) hQ.2.2.2.2.1 rfl) dL_law_1536 (sp_bring (k := 2000) hQ.2.2.2.2 (by decide) hG.1 hG.2.1.1 _ _ _) (fun v_1536 σ n h => ?_) (hR := ⟨Nat.le_of_ble_eq_true rfl, Nat.le_of_ble_eq_true rfl⟩) (hC := ⟨by show cells + 4 + 0 ≤ 601024; omega, by show slots + 24 + 0 ≤ 7293034; omega⟩)
  obtain ⟨hv, hJ⟩ := h
  obtain ⟨rfl, hI2, ⟨F2, A2, hM2, hF4⟩, fo, ho2, hv2⟩ := la_r hR hQ rfl rfl rfl hJ
  refine go_istore (lw := [_, _, _, _, _, _, _, _]) (pc := 1539) dL_law_1539 (by decide) rfl ?_
  refine go_aload_n (pc := 1541) dL_law_1541 rfl ?_
  refine go_V0P (pc := 1542) v_L_145 rfl rfl (rcv_of (ci := 8) hM2.1 rfl) dL_law_1542 (sp_thrown (k := 2000) hM2) ?_ (hR := ⟨Nat.le_of_ble_eq_true rfl, Nat.le_of_ble_eq_true rfl⟩) (hC := ⟨by show cells + 4 + 0 + 0 ≤ 601024; omega, by show slots + 24 + 0 + 0 ≤ 7293034; omega⟩)
  refine go_iload (pc := 1545) dL_law_1545 rfl ?_
  refine go_icmp_eq (tgt := 1552) (pc := 1547) dL_law_1547 (by decide) (fun h_1547 => ?_) (fun h_1547 => by exfalso; first | exact h_1547 hF4 | exact h_1547 hF4.symm)
  refine go_iload (pc := 1552) dL_law_1552 rfl ?_
  refine go_if_ne (tgt := 1569) (pc := 1554) dL_law_1554 (by decide) (fun h_1554 => ?_) (fun h_1554 => ?_)
  · refine go_goto (tgt := 2749) (pc := 1569) dL_law_1569 (by decide) ?_
    exact go_wide (c2 := cells + 910) (s2 := slots + 12700) (by show cells + 4 + 0 + 0 ≤ cells + 910; omega) (by show slots + 24 + 0 + 0 ≤ slots + 12700; omega) (kk _ _ _ _ _ hI2)
  · refine go_aload_n (pc := 1557) dL_law_1557 rfl ?_
    refine go_iconst (v := 0) (pc := 1558) dL_law_1558 (by decide) ?_
    refine go_lald (j := 0) (pc := 1559) dL_law_1559 ho2 (by exact ⟨rfl, by decide⟩) ?_
    refine go_iload (pc := 1560) dL_law_1560 rfl ?_
    refine go_i2l (pc := 1562) dL_law_1562 ?_
    refine go_lcmp (pc := 1563) dL_law_1563 ?_
    refine go_if_eq (tgt := 1569) (pc := 1564) dL_law_1564 (by decide) (fun h_1564 => ?_) (fun h_1564 => by exfalso; (have e0 : r9 = 0 := by first | exact h_1554 | exact Decidable.byContradiction h_1554); (have e : fo 0 = v_1536.toInt64 := by rw [hv]; exact hv2 e0); (simp only [lg_cmp_eq] at h_1564); exact h_1564 e)
    refine go_goto (tgt := 2749) (pc := 1569) dL_law_1569 (by decide) ?_
    exact go_wide (c2 := cells + 910) (s2 := slots + 12700) (by show cells + 4 + 0 + 0 ≤ cells + 910; omega) (by show slots + 24 + 0 + 0 ≤ slots + 12700; omega) (kk _ _ _ _ _ hI2)
theorem la_faints {Γ : gam} {Q : qp} {σ : sto} {n b a L m cells slots : Nat} {xs : row} {x5 x6 x7 : Option Value} (hI : LI Γ σ n b a L xs) (hL : 6 * m + 6 ≤ L) (hL2 : L ≤ 3072) (hc : cells + 910 ≤ 601024) (hs : slots + 12700 ≤ 7293034) (kk : ∀ σ' n' y5 y6 y7, LI Γ σ' n' b a L xs → Go Γ RL1 uL_law Q (cells + 910) (slots + 12700) 2749 [some (.ref b), some (.ref a), some (.ref (a + 114)), some (.ref (a + 131)), some (.int (nI (6 * m))), y5, y6, y7] [] σ' n') : Go Γ RL1 uL_law Q cells slots 1572 [some (.ref b), some (.ref a), some (.ref (a + 114)), some (.ref (a + 131)), some (.int (nI (6 * m))), x5, x6, x7] [] σ n := by
  obtain ⟨ro, F, K, G, im, A, Nm, KI, hN, hR⟩ := hI
  have hb := hN.2.1
  have hG : GK K := hN.2.2.2.2.2.1
  have hT : okT (A 14) (A 15) := hN.2.2.2.2.2.2.2.2.2.1
  refine go_aload_n (pc := 1572) dL_law_1572 rfl ?_
  refine go_aload_n (pc := 1573) dL_law_1573 rfl ?_
  refine go_iload (pc := 1574) dL_law_1574 rfl ?_
  refine go_iconst (v := 1) (pc := 1576) dL_law_1576 (by decide) ?_
  refine go_iadd (pc := 1577) dL_law_1577 ?_
  refine go_iaB (hN := (by omega)) (pc := 1578) dL_law_1578 hb (by exact ⟨nI_add _ 1, by omega⟩) ?_
  refine go_aload_n (pc := 1579) dL_law_1579 rfl ?_
  refine go_iload (pc := 1580) dL_law_1580 rfl ?_
  refine go_iconst (v := 2) (pc := 1582) dL_law_1582 (by decide) ?_
  refine go_iadd (pc := 1583) dL_law_1583 ?_
  refine go_iaB (hN := (by omega)) (pc := 1584) dL_law_1584 hb (by exact ⟨nI_add _ 2, by omega⟩) ?_
  refine go_aload_n (pc := 1585) dL_law_1585 rfl ?_
  refine go_iload (pc := 1586) dL_law_1586 rfl ?_
  refine go_iconst (v := 3) (pc := 1588) dL_law_1588 (by decide) ?_
  refine go_iadd (pc := 1589) dL_law_1589 ?_
  refine go_iaB (hN := (by omega)) (pc := 1590) dL_law_1590 hb (by exact ⟨nI_add _ 3, by omega⟩) ?_
  refine go_aload_n (pc := 1591) dL_law_1591 rfl ?_
  refine go_WI (As := [.ref a, .int _, .int _, .int _, .ref (a + 131)]) (rest := []) (pc := 1592) s_L_218 rfl rfl rfl dL_law_1592 (wq_faints (k := 2000) hN hR.1 (by decide) _ _ _) ⟨Nat.le_of_ble_eq_true rfl, Nat.le_of_ble_eq_true rfl⟩ ⟨by show cells + 4 ≤ 601024; omega, by show slots + 24 ≤ 7293034; omega⟩ (Nat.le_of_ble_eq_true rfl) (fun r9 σ1 n1 hQ => ?_)
  have hb := hQ.2.2.1.2.1
  clear hN
  refine go_istore (lw := [_, _, _, _, _, _, _, _]) (pc := 1595) dL_law_1595 (by decide) rfl ?_
  refine go_aload_n (pc := 1597) dL_law_1597 rfl ?_
  refine go_aload_n (pc := 1598) dL_law_1598 rfl ?_
  refine go_iload (pc := 1599) dL_law_1599 rfl ?_
  refine go_iconst (v := 1) (pc := 1601) dL_law_1601 (by decide) ?_
  refine go_iadd (pc := 1602) dL_law_1602 ?_
  refine go_iaB (hN := (by omega)) (pc := 1603) dL_law_1603 hb (by exact ⟨nI_add _ 1, by omega⟩) ?_
  refine go_aload_n (pc := 1604) dL_law_1604 rfl ?_
  refine go_iload (pc := 1605) dL_law_1605 rfl ?_
  refine go_iconst (v := 2) (pc := 1607) dL_law_1607 (by decide) ?_
  refine go_iadd (pc := 1608) dL_law_1608 ?_
  refine go_iaB (hN := (by omega)) (pc := 1609) dL_law_1609 hb (by exact ⟨nI_add _ 2, by omega⟩) ?_
  refine go_aload_n (pc := 1610) dL_law_1610 rfl ?_
  refine go_iload (pc := 1611) dL_law_1611 rfl ?_
  refine go_iconst (v := 3) (pc := 1613) dL_law_1613 (by decide) ?_
  refine go_iadd (pc := 1614) dL_law_1614 ?_
  refine go_iaB (hN := (by omega)) (pc := 1615) dL_law_1615 hb (by exact ⟨nI_add _ 3, by omega⟩) ?_
  refine go_V3I (pc := 1616) v_L_220 rfl rfl (rcv_of (ci := 8) hQ.2.2.2.2.1 rfl) dL_law_1616 (sp_faints (k := 2000) hQ.2.2.2.2 (by decide) hG.1 hG.2.1.1 _ _ _) (fun v_1616 σ n h => ?_) (hR := ⟨Nat.le_of_ble_eq_true rfl, Nat.le_of_ble_eq_true rfl⟩) (hC := ⟨by show cells + 4 + 0 ≤ 601024; omega, by show slots + 24 + 0 ≤ 7293034; omega⟩)
  obtain ⟨hv, hJ⟩ := h
  obtain ⟨rfl, hI2, ⟨F2, A2, hM2, hF4⟩, fo, ho2, hv2⟩ := la_r hR hQ rfl rfl rfl hJ
  refine go_istore (lw := [_, _, _, _, _, _, _, _]) (pc := 1619) dL_law_1619 (by decide) rfl ?_
  refine go_aload_n (pc := 1621) dL_law_1621 rfl ?_
  refine go_V0P (pc := 1622) v_L_145 rfl rfl (rcv_of (ci := 8) hM2.1 rfl) dL_law_1622 (sp_thrown (k := 2000) hM2) ?_ (hR := ⟨Nat.le_of_ble_eq_true rfl, Nat.le_of_ble_eq_true rfl⟩) (hC := ⟨by show cells + 4 + 0 + 0 ≤ 601024; omega, by show slots + 24 + 0 + 0 ≤ 7293034; omega⟩)
  refine go_iload (pc := 1625) dL_law_1625 rfl ?_
  refine go_icmp_eq (tgt := 1632) (pc := 1627) dL_law_1627 (by decide) (fun h_1627 => ?_) (fun h_1627 => by exfalso; first | exact h_1627 hF4 | exact h_1627 hF4.symm)
  refine go_iload (pc := 1632) dL_law_1632 rfl ?_
  refine go_if_ne (tgt := 1649) (pc := 1634) dL_law_1634 (by decide) (fun h_1634 => ?_) (fun h_1634 => ?_)
  · refine go_goto (tgt := 2749) (pc := 1649) dL_law_1649 (by decide) ?_
    exact go_wide (c2 := cells + 910) (s2 := slots + 12700) (by show cells + 4 + 0 + 0 ≤ cells + 910; omega) (by show slots + 24 + 0 + 0 ≤ slots + 12700; omega) (kk _ _ _ _ _ hI2)
  · refine go_aload_n (pc := 1637) dL_law_1637 rfl ?_
    refine go_iconst (v := 0) (pc := 1638) dL_law_1638 (by decide) ?_
    refine go_lald (j := 0) (pc := 1639) dL_law_1639 ho2 (by exact ⟨rfl, by decide⟩) ?_
    refine go_iload (pc := 1640) dL_law_1640 rfl ?_
    refine go_i2l (pc := 1642) dL_law_1642 ?_
    refine go_lcmp (pc := 1643) dL_law_1643 ?_
    refine go_if_eq (tgt := 1649) (pc := 1644) dL_law_1644 (by decide) (fun h_1644 => ?_) (fun h_1644 => by exfalso; (have e0 : r9 = 0 := by first | exact h_1634 | exact Decidable.byContradiction h_1634); (have e : fo 0 = v_1616.toInt64 := by rw [hv]; exact hv2 e0); (simp only [lg_cmp_eq] at h_1644); exact h_1644 e)
    refine go_goto (tgt := 2749) (pc := 1649) dL_law_1649 (by decide) ?_
    exact go_wide (c2 := cells + 910) (s2 := slots + 12700) (by show cells + 4 + 0 + 0 ≤ cells + 910; omega) (by show slots + 24 + 0 + 0 ≤ slots + 12700; omega) (kk _ _ _ _ _ hI2)
