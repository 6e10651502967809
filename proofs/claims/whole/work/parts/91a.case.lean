/-! ===== the law's cases ===== -/
abbrev RL1 : Room := { frames := 2048, cells := 601024, slots := 7293034, locals := 84000 }
theorem la_chair {Γ : gam} {Q : qp} {σ : sto} {n b a L m cells slots : Nat} {xs : row} {x5 x6 x7 : Option Value} (hI : LI Γ σ n b a L xs) (hL : 6 * m + 6 ≤ L) (hL2 : L ≤ 3072) (hc : cells + 910 ≤ 601024) (hs : slots + 12700 ≤ 7293034) (kk : ∀ σ' n' y5 y6 y7, LI Γ σ' n' b a L xs → Go Γ RL1 uL_law Q (cells + 910) (slots + 12700) 2749 [some (.ref b), some (.ref a), some (.ref (a + 114)), some (.ref (a + 131)), some (.int (nI (6 * m))), y5, y6, y7] [] σ' n') : Go Γ RL1 uL_law Q cells slots 382 [some (.ref b), some (.ref a), some (.ref (a + 114)), some (.ref (a + 131)), some (.int (nI (6 * m))), x5, x6, x7] [] σ n := by
  obtain ⟨ro, F, K, G, im, A, Nm, KI, hN, hR⟩ := hI
  have hb := hN.2.1
  have hG : GK K := hN.2.2.2.2.2.1
  have hT : okT (A 14) (A 15) := hN.2.2.2.2.2.2.2.2.2.1
  refine go_aload_n (pc := 382) dL_law_382 rfl ?_
  refine go_aload_n (pc := 383) dL_law_383 rfl ?_
  refine go_iload (pc := 384) dL_law_384 rfl ?_
  refine go_iconst (v := 1) (pc := 386) dL_law_386 (by decide) ?_
  refine go_iadd (pc := 387) dL_law_387 ?_
  refine go_iaB (hN := (by omega)) (pc := 388) dL_law_388 hb (by exact ⟨nI_add _ 1, by omega⟩) ?_
  refine go_aload_n (pc := 389) dL_law_389 rfl ?_
  refine go_iload (pc := 390) dL_law_390 rfl ?_
  refine go_iconst (v := 2) (pc := 392) dL_law_392 (by decide) ?_
  refine go_iadd (pc := 393) dL_law_393 ?_
  refine go_iaB (hN := (by omega)) (pc := 394) dL_law_394 hb (by exact ⟨nI_add _ 2, by omega⟩) ?_
  refine go_aload_n (pc := 395) dL_law_395 rfl ?_
  refine go_WI (As := [.ref a, .int _, .int _, .ref (a + 131)]) (rest := []) (pc := 396) s_L_153 rfl rfl rfl dL_law_396 (wq_chair (k := 2000) hN hR.1 (by decide) _ _) ⟨Nat.le_of_ble_eq_true rfl, Nat.le_of_ble_eq_true rfl⟩ ⟨by show cells + 4 ≤ 601024; omega, by show slots + 24 ≤ 7293034; omega⟩ (Nat.le_of_ble_eq_true rfl) (fun r9 σ1 n1 hQ => ?_)
  have hb := hQ.2.2.1.2.1
  clear hN
  refine go_istore (lw := [_, _, _, _, _, _, _, _]) (pc := 399) dL_law_399 (by decide) rfl ?_
  refine go_aload_n (pc := 401) dL_law_401 rfl ?_
  refine go_aload_n (pc := 402) dL_law_402 rfl ?_
  refine go_iload (pc := 403) dL_law_403 rfl ?_
  refine go_iconst (v := 1) (pc := 405) dL_law_405 (by decide) ?_
  refine go_iadd (pc := 406) dL_law_406 ?_
  refine go_iaB (hN := (by omega)) (pc := 407) dL_law_407 hb (by exact ⟨nI_add _ 1, by omega⟩) ?_
  refine go_aload_n (pc := 408) dL_law_408 rfl ?_
  refine go_iload (pc := 409) dL_law_409 rfl ?_
  refine go_iconst (v := 2) (pc := 411) dL_law_411 (by decide) ?_
  refine go_iadd (pc := 412) dL_law_412 ?_
  refine go_iaB (hN := (by omega)) (pc := 413) dL_law_413 hb (by exact ⟨nI_add _ 2, by omega⟩) ?_
  refine go_V2I (pc := 414) v_L_156 rfl rfl (rcv_of (ci := 8) hQ.2.2.2.2.1 rfl) dL_law_414 (sp_chair (k := 2000) hQ.2.2.2.2 (by decide) hG.1 hG.2.1.1 _ _) (fun v_414 σ n h => ?_) (hR := ⟨Nat.le_of_ble_eq_true rfl, Nat.le_of_ble_eq_true rfl⟩) (hC := ⟨by show cells + 4 + 0 ≤ 601024; omega, by show slots + 24 + 0 ≤ 7293034; omega⟩)
  obtain ⟨hv, hJ⟩ := h
  obtain ⟨rfl, hI2, ⟨F2, A2, hM2, hF4⟩, fo, ho2, hv2⟩ := la_r hR hQ rfl rfl rfl hJ
  refine go_istore (lw := [_, _, _, _, _, _, _, _]) (pc := 417) dL_law_417 (by decide) rfl ?_
  refine go_aload_n (pc := 419) dL_law_419 rfl ?_
  refine go_V0P (pc := 420) v_L_145 rfl rfl (rcv_of (ci := 8) hM2.1 rfl) dL_law_420 (sp_thrown (k := 2000) hM2) ?_ (hR := ⟨Nat.le_of_ble_eq_true rfl, Nat.le_of_ble_eq_true rfl⟩) (hC := ⟨by show cells + 4 + 0 + 0 ≤ 601024; omega, by show slots + 24 + 0 + 0 ≤ 7293034; omega⟩)
  refine go_iload (pc := 423) dL_law_423 rfl ?_
  refine go_icmp_eq (tgt := 430) (pc := 425) dL_law_425 (by decide) (fun h_425 => ?_) (fun h_425 => by exfalso; first | exact h_425 hF4 | exact h_425 hF4.symm)
  refine go_iload (pc := 430) dL_law_430 rfl ?_
  refine go_if_ne (tgt := 447) (pc := 432) dL_law_432 (by decide) (fun h_432 => ?_) (fun h_432 => ?_)
  · refine go_goto (tgt := 2749) (pc := 447) dL_law_447 (by decide) ?_
    exact go_wide (c2 := cells + 910) (s2 := slots + 12700) (by show cells + 4 + 0 + 0 ≤ cells + 910; omega) (by show slots + 24 + 0 + 0 ≤ slots + 12700; omega) (kk _ _ _ _ _ hI2)
  · refine go_aload_n (pc := 435) dL_law_435 rfl ?_
    refine go_iconst (v := 0) (pc := 436) dL_law_436 (by decide) ?_
    refine go_lald (j := 0) (pc := 437) dL_law_437 ho2 (by exact ⟨rfl, by decide⟩) ?_
    refine go_iload (pc := 438) dL_law_438 rfl ?_
    refine go_i2l (pc := 440) dL_law_440 ?_
    refine go_lcmp (pc := 441) dL_law_441 ?_
    refine go_if_eq (tgt := 447) (pc := 442) dL_law_442 (by decide) (fun h_442 => ?_) (fun h_442 => by exfalso; (have e0 : r9 = 0 := by first | exact h_432 | exact Decidable.byContradiction h_432); (have e : fo 0 = v_414.toInt64 := by rw [hv]; exact hv2 e0); (simp only [lg_cmp_eq] at h_442); exact h_442 e)
    refine go_goto (tgt := 2749) (pc := 447) dL_law_447 (by decide) ?_
    exact go_wide (c2 := cells + 910) (s2 := slots + 12700) (by show cells + 4 + 0 + 0 ≤ cells + 910; omega) (by show slots + 24 + 0 + 0 ≤ slots + 12700; omega) (kk _ _ _ _ _ hI2)
