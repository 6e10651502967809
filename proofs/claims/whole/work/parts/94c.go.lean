/-! ===== the law, from its first row to its end ===== -/
theorem law_go {Γ : gam} {Q : qp} {n b L : Nat} {xs : row} (hsc : scA Γ b L xs) (hL2 : L ≤ 3072) (hbn : b < n) (hQ : ∀ σ n, Q (.inl (some (.int 1))) σ n) : Go Γ RL1 uL_law Q 0 0 0 [some (.ref b), none, none, none, none, none, none, none] [] (fun _ => none) n := by
  refine go_new (ci := 7) (fs := df7) (pc := 0) n_L_8 rfl df7_ok dL_law_0 (Nat.le_of_ble_eq_true rfl) (Nat.le_of_ble_eq_true rfl) ?_
  refine go_dup (pc := 3) dL_law_3 rfl ?_
  refine go_I0V (pc := 4) i_L_130 rfl rfl dL_law_4 (hC := ⟨by show (1 + 113 : Nat) ≤ 601024; decide, by show (16 + 5899 : Nat) ≤ 7293034; decide⟩) (hR := ⟨Nat.le_of_ble_eq_true rfl, Nat.le_of_ble_eq_true rfl⟩) (cp_newF (k := 2000) (a := n) sup_eq (by decide)) (fun σ1 n1 h1 => ?_)
  obtain ⟨rfl, h1, -⟩ := h1
  refine go_astore_n (lw := [_, _, _, _, _, _, _, _]) (pc := 7) dL_law_7 (by decide) rfl ?_
  refine go_new (ci := 8) (fs := df8) (pc := 8) n_L_131 rfl df8_ok dL_law_8 (Nat.le_of_ble_eq_true rfl) (Nat.le_of_ble_eq_true rfl) ?_
  refine go_dup (pc := 11) dL_law_11 rfl ?_
  refine go_I0V (pc := 12) i_L_133 rfl rfl dL_law_12 (hC := ⟨by show (0 + 1 + 113 + 1 + 16 : Nat) ≤ 601024; decide, by show (0 + 16 + 5899 + 32 + 16728 : Nat) ≤ 7293034; decide⟩) (hR := ⟨Nat.le_of_ble_eq_true rfl, Nat.le_of_ble_eq_true rfl⟩) (cp_newM (k := 2000) (r_q := n + 114) sup_eq (by decide)) (fun σ2 n2 h2 => ?_)
  obtain ⟨rfl, h2, f2⟩ := h2
  refine go_astore_n (lw := [_, _, _, _, _, _, _, _]) (pc := 15) dL_law_15 (by decide) rfl ?_
  refine go_iconst (v := 1) (pc := 16) dL_law_16 (by decide) ?_
  refine go_newJ (N := 1) (pc := 17) dL_law_17 (by decide) (by decide) (by decide) (Nat.le_of_ble_eq_true rfl) (Nat.le_of_ble_eq_true rfl) ?_
  refine go_astore_n (lw := [_, _, _, _, _, _, _, _]) (pc := 19) dL_law_19 (by decide) rfl ?_
  refine go_iconst (v := 0) (pc := 20) dL_law_20 (by decide) ?_
  refine go_istore (lw := [_, _, _, _, _, _, _, _]) (pc := 21) dL_law_21 (by decide) rfl ?_
  have k1 : FcN Γ (sup σ2 (n + 114 + 17) (cJ Γ 1 (fun _ => 0))) n := fcn_kp h1 (fun q x1 x2 => sup_ne (by omega) ((f2 q (by omega)).trans (sup_ne (by omega) rfl)))
  have k2 : MoAt Γ (sup σ2 (n + 114 + 17) (cJ Γ 1 (fun _ => 0))) (n + 114) F00 K00 A00 (fun _ => 0) := moEq h2 (fun q x1 x2 => sup_ne (by omega) rfl)
  refine law_loop (a := n) hL2 ⟨fun _ => 0, F00, K00, G00, fun _ => none, A00, fun _ => 0, fun _ => K00, ⟨⟨hbn, by omega, Nat.zero_ne_one⟩, hsc, ⟨_, sup_eq⟩, cl_new k1⟩, rf_new k2⟩ (by show (0 + 1 + 113 + 1 + 16 + 1 + 910 * 512 : Nat) ≤ 601024; decide) (by show (0 + 16 + 5899 + 32 + 16728 + 1 + 12700 * 512 : Nat) ≤ 7293034; decide) hQ
