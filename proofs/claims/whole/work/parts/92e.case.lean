/-! ===== the law's cases: restore ===== -/
theorem la_restore {Γ : gam} {Q : qp} {σ : sto} {n b a L m cells slots : Nat} {xs : row} {x5 x6 x7 : Option Value} (hI : LI Γ σ n b a L xs) (hL : 6 * m + 6 ≤ L) (hL2 : L ≤ 3072) (hc : cells + 910 ≤ 601024) (hs : slots + 12700 ≤ 7293034) (kk : ∀ σ' n' y5 y6 y7, LI Γ σ' n' b a L xs → Go Γ RL1 uL_law Q (cells + 910) (slots + 12700) 2749 [some (.ref b), some (.ref a), some (.ref (a + 114)), some (.ref (a + 131)), some (.int (nI (6 * m))), y5, y6, y7] [] σ' n') : Go Γ RL1 uL_law Q cells slots 2688 [some (.ref b), some (.ref a), some (.ref (a + 114)), some (.ref (a + 131)), some (.int (nI (6 * m))), x5, x6, x7] [] σ n := by
  obtain ⟨ro, F, K, G, im, A, Nm, KI, hN, hR⟩ := hI
  have hb := hN.2.1
  have hG : GK K := hN.2.2.2.2.2.1
  have hT : okT (A 14) (A 15) := hN.2.2.2.2.2.2.2.2.2.1
  refine go_aload_n (pc := 2688) dL_law_2688 rfl ?_
  refine go_aload_n (pc := 2689) dL_law_2689 rfl ?_
  refine go_iload (pc := 2690) dL_law_2690 rfl ?_
  refine go_iconst (v := 1) (pc := 2692) dL_law_2692 (by decide) ?_
  refine go_iadd (pc := 2693) dL_law_2693 ?_
  refine go_iaB (hN := (by omega)) (pc := 2694) dL_law_2694 hb (by exact ⟨nI_add _ 1, by omega⟩) ?_
  refine go_WI (As := [.ref a, .int _]) (rest := []) (pc := 2695) s_L_279 rfl rfl rfl dL_law_2695 (wq_restore (k := 2000) hN hR.2.2.2.2.1 hR.1 (by decide) _) ⟨Nat.le_of_ble_eq_true rfl, Nat.le_of_ble_eq_true rfl⟩ ⟨by show cells + 4 ≤ 601024; omega, by show slots + 24 ≤ 7293034; omega⟩ (Nat.le_of_ble_eq_true rfl) (fun r9 σ1 n1 hQ => ?_)
  obtain ⟨K2, hn0, hn1, hQ⟩ := hQ
  have hb := hQ.2.2.1.2.1
  refine go_istore (lw := [_, _, _, _, _, _, _, _]) (pc := 2698) dL_law_2698 (by decide) rfl ?_
  refine go_aload_n (pc := 2700) dL_law_2700 rfl ?_
  refine go_aload_n (pc := 2701) dL_law_2701 rfl ?_
  refine go_iload (pc := 2702) dL_law_2702 rfl ?_
  refine go_iconst (v := 1) (pc := 2704) dL_law_2704 (by decide) ?_
  refine go_iadd (pc := 2705) dL_law_2705 ?_
  refine go_iaB (hN := (by omega)) (pc := 2706) dL_law_2706 hb (by exact ⟨nI_add _ 1, by omega⟩) ?_
  refine go_V1V (pc := 2707) v_L_281 rfl rfl (rcv_of (ci := 8) hQ.2.2.2.1 rfl) dL_law_2707 (sp_restore (k := 2000) hQ.2.2.2 (by decide) _) (fun σ n h => ?_) (hR := ⟨Nat.le_of_ble_eq_true rfl, Nat.le_of_ble_eq_true rfl⟩) (hC := ⟨by show cells + 4 + 0 ≤ 601024; omega, by show slots + 24 + 0 ≤ 7293034; omega⟩)
  have hE : n = n1 ∧ LI Γ σ n b a L xs ∧ ∃ (F2 : row) (A9 : Nat → row) (K9 : row) (N9 : Nat → Int64), MoAt Γ σ (a + 114) F2 K9 A9 N9 ∧ F2 4 = r9 := by
    rcases h with ⟨h0, hn9, F2, A9, j2, j3, j4, j5, j6, j7⟩ | ⟨h0, hn9, F2, A9, j2, j3, j4, j5, j6, j7⟩
    · rw [← hn1 h0] at j2
      obtain ⟨y1, y2⟩ := la_u hR hQ j2 j3 j4 j6 j7 (j5 5 (by decide)) (j5 14 (by decide)) (j5 15 (by decide)) (j5 3 (by decide)) (j5 4 (by decide))
      exact ⟨hn9, by rw [hn9]; exact y1, F2, A9, K2, _, j2, y2⟩
    · obtain ⟨j, hj, ej, hz⟩ := rs_c h0
      have ej2 := congrArg Int.toNat ej
      rw [Int.toNat_natCast] at ej2
      obtain ⟨bI, DI, hI9⟩ := hN.2.2.2.bI
      cases hx : im j with
      | none => exact absurd ((hR.2.2.2.2.1 j hj).2 hx) hz
      | some x =>
        have e := hR.rs hG (hI9 j x hj hx).2.1 hj hx
        have e2 := hn0 h0
        rw [ej2] at j2 e2
        rw [e, ← e2] at j2
        obtain ⟨y1, y2⟩ := la_u hR hQ j2 (j3.trans h0.symm) j4 j6 j7 (j5 5 (by decide)) (j5 14 (by decide)) (j5 15 (by decide)) (j5 3 (by decide)) (j5 4 (by decide))
        exact ⟨hn9, by rw [hn9]; exact y1, F2, A9, K2, _, j2, y2⟩
  obtain ⟨rfl, hI2, F2, A9, K9, N9, hM2, hF4⟩ := hE
  refine go_aload_n (pc := 2710) dL_law_2710 rfl ?_
  refine go_V0P (pc := 2711) v_L_145 rfl rfl (rcv_of (ci := 8) hM2.1 rfl) dL_law_2711 (sp_thrown (k := 2000) hM2) ?_ (hR := ⟨Nat.le_of_ble_eq_true rfl, Nat.le_of_ble_eq_true rfl⟩) (hC := ⟨by show cells + 4 + 0 + 0 ≤ 601024; omega, by show slots + 24 + 0 + 0 ≤ 7293034; omega⟩)
  refine go_iload (pc := 2714) dL_law_2714 rfl ?_
  refine go_icmp_eq (tgt := 2721) (pc := 2716) dL_law_2716 (by decide) (fun h_2716 => ?_) (fun h_2716 => by exfalso; first | exact h_2716 hF4 | exact h_2716 hF4.symm)
  refine go_goto (tgt := 2749) (pc := 2721) dL_law_2721 (by decide) ?_
  exact go_wide (c2 := cells + 910) (s2 := slots + 12700) (by show cells + 4 + 0 + 0 ≤ cells + 910; omega) (by show slots + 24 + 0 + 0 ≤ slots + 12700; omega) (kk _ _ _ _ _ hI2)
