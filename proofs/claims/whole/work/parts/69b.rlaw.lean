/-! ===== the reference: steps of a law ===== -/
theorem sp_laysStep {Γ : gam} {z0 : sto} {n k r_q N w d_q : Nat} {F K : row} {A : Nat → row} {Nm : Nat → Int64} {s : ps} (hM_q : MoAt Γ z0 r_q F K A Nm) (hS_q : rfR (A 5) N F s) (hW : rsR F (A 2) w d_q s) (hw_q : 4 ≤ w ∧ w ≤ 6) (hl : s.st.length < 900) {c_q : Int32} : Sp Γ (rmk k 0 0) uX8_laysStep [.ref r_q, .int c_q] z0 n (qV fun σ' n' => n' = n ∧ RfP Γ z0 r_q N w d_q F K A Nm (emitP c_q s) σ') := by
  refine sp_intro [some (.ref r_q), some (.int c_q)] (by decide +kernel) rfl (Nat.le_of_ble_eq_true rfl) rfl ?_
  have hwA := lwA_b (w := w)
  obtain ⟨e17, e18, e16, hE⟩ := hW
  by_cases hb_q : s.bad = 0
  · refine go_aload_n (pc := 0) dX8_laysStep_0 rfl ?_
    refine go_getf (pc := 1) f_X8_99 dX8_laysStep_1 (by first | exact mo0 hM_q | exact mo2 hM_q) (by rfl) ?_
    rw [hS_q.2.1]
    refine go_if_eq (tgt := 8) (pc := 4) dX8_laysStep_4 (by decide) (fun h_4 => ?_) (fun h_4 => by exfalso; exact h_4 hb_q)
    obtain ⟨eW, eJ⟩ := hE hb_q
    have hf_q : fr r_q (r_q + 16) z0 z0 := fr.rf
    refine go_aload_n (pc := 8) dX8_laysStep_8 rfl ?_
    refine go_getf (pc := 9) f_X8_13 dX8_laysStep_9 (by first | exact mo0 hM_q | exact mo2 hM_q) (by rfl) ?_
    refine go_aload_n (pc := 12) dX8_laysStep_12 rfl ?_
    refine go_getf (pc := 13) f_X8_132 dX8_laysStep_13 (by first | exact mo0 hM_q | exact mo2 hM_q) (by rfl) ?_
    refine go_aload_n (pc := 16) dX8_laysStep_16 rfl ?_
    refine go_getf (pc := 17) f_X8_13 dX8_laysStep_17 (by first | exact mo0 hM_q | exact mo2 hM_q) (by rfl) ?_
    refine go_aload_n (pc := 20) dX8_laysStep_20 rfl ?_
    refine go_getf (pc := 21) f_X8_135 dX8_laysStep_21 (by first | exact mo0 hM_q | exact mo2 hM_q) (by rfl) ?_
    refine go_iald (pc := 24) dX8_laysStep_24 (by first | exact mo0 hM_q | exact mo2 hM_q) (by exact ⟨e17, by omega⟩) ?_
    refine go_iadd (pc := 25) dX8_laysStep_25 ?_
    rw [e18, eW, nI_add]
    refine go_iload_n (pc := 26) dX8_laysStep_26 rfl ?_
    refine go_mst2 (pc := 27) hM_q dX8_laysStep_27 (by exact ⟨rfl, by omega⟩) (fun σ hM_q hf9 => ?_)
    have hf_q := hf_q.tr hf9
    obtain ⟨A1, hM_q, aA1, oA1⟩ : ∃ A1 : Nat → row, MoAt Γ σ r_q F K A1 Nm ∧ A1 2 = upd (A 2) (lwA w + s.st.length) (c_q) ∧ ∀ i_q, i_q ≠ 2 → A1 i_q = A i_q := ⟨_, hM_q, by simp [updA], fun i_q hi_q => by simp [updA, hi_q]⟩
    have eW1 : A1 2 w = nI s.st.length := by rw [aA1, pk_un (by omega)]; exact eW
    refine go_aload_n (pc := 28) dX8_laysStep_28 rfl ?_
    refine go_getf (pc := 29) f_X8_13 dX8_laysStep_29 (by first | exact mo0 hM_q | exact mo2 hM_q) (by rfl) ?_
    refine go_aload_n (pc := 32) dX8_laysStep_32 rfl ?_
    refine go_getf (pc := 33) f_X8_135 dX8_laysStep_33 (by first | exact mo0 hM_q | exact mo2 hM_q) (by rfl) ?_
    refine go_dup2 (pc := 36) dX8_laysStep_36 rfl rfl ?_
    refine go_iald (pc := 37) dX8_laysStep_37 (by first | exact mo0 hM_q | exact mo2 hM_q) (by exact ⟨e17, by omega⟩) ?_
    refine go_iconst (v := 1) (pc := 38) dX8_laysStep_38 (by decide) ?_
    refine go_iadd (pc := 39) dX8_laysStep_39 ?_
    rw [eW1, nI_1]
    refine go_mst2 (pc := 40) hM_q dX8_laysStep_40 (by exact ⟨e17, by omega⟩) (fun σ hM_q hf9 => ?_)
    have hf_q := hf_q.tr hf9
    obtain ⟨A2, hM_q, aA2, oA2⟩ : ∃ A2 : Nat → row, MoAt Γ σ r_q F K A2 Nm ∧ A2 2 = upd (A1 2) (w) (nI (s.st.length + 1)) ∧ ∀ i_q, i_q ≠ 2 → A2 i_q = A1 i_q := ⟨_, hM_q, by simp [updA], fun i_q hi_q => by simp [updA, hi_q]⟩
    exact go_vretV (pc := 41) rfl dX8_laysStep_41 (Nat.le_of_ble_eq_true rfl) (Nat.le_of_ble_eq_true rfl) (by
  rw [emitP, if_pos hb_q]
  refine ⟨rfl, F, A2, hM_q, ⟨hS_q.1, hS_q.2.1, hS_q.2.2.1, hS_q.2.2.2⟩, ⟨e17, e18, e16, fun _ => ⟨?_, fun j hj_q => ?_⟩⟩, fun _ _ _ => rfl, fun i_q hi_q => (oA2 i_q hi_q).trans (oA1 i_q hi_q), fun j h1_q h2_q => ?_, hf_q⟩
  · show A2 2 w = nI (s.st ++ [c_q]).length
    rw [aA2, pk_us, List.length_append, List.length_singleton]
  · have hj_q : j < (s.st ++ [c_q]).length := hj_q
    rw [List.length_append, List.length_singleton] at hj_q
    show A2 2 (lwA w + j) = (s.st ++ [c_q]).getD j 0
    rw [aA2, pk_un (by omega), aA1]
    by_cases e9_q : j = s.st.length
    · subst e9_q
      rw [pk_us]
      simp [List.getD]
    · rw [pk_un (by omega), eJ j (by omega), List.getD_eq_getElem?_getD, List.getD_eq_getElem?_getD, List.getElem?_append_left (by omega)]
  · rw [aA2, pk_un h1_q, aA1, pk_un (by omega)])
  · refine go_aload_n (pc := 0) dX8_laysStep_0 rfl ?_
    refine go_getf (pc := 1) f_X8_99 dX8_laysStep_1 (by first | exact mo0 hM_q | exact mo2 hM_q) (by rfl) ?_
    rw [hS_q.2.1]
    refine go_if_eq (tgt := 8) (pc := 4) dX8_laysStep_4 (by decide) (fun h_4 => by exfalso; exact hb_q h_4) (fun h_4 => ?_)
    exact go_vretV (pc := 7) rfl dX8_laysStep_7 (Nat.le_of_ble_eq_true rfl) (Nat.le_of_ble_eq_true rfl) (by rw [emitP, if_neg hb_q]; exact ⟨rfl, RfP.rf hM_q hS_q ⟨e17, e18, e16, hE⟩⟩)
theorem rfR_cg {f_q F F2 : row} {N : Nat} {s : ps} (h_q : rfR f_q N F s) (e_q : ∀ j, 7 ≤ j → j ≤ 13 → F2 j = F j) : rfR f_q N F2 s := ⟨(e_q 7 (by omega) (by omega)).trans h_q.1, (e_q 12 (by omega) (by omega)).trans h_q.2.1, fun hb_q => tok_cg (h_q.2.2.1 hb_q) (fun j h1_q h2_q => e_q j (by omega) (by omega)), fun hb_q => (e_q 13 (by omega) (by omega)).trans (h_q.2.2.2 hb_q)⟩
theorem sp_goesIn {Γ : gam} {z0 : sto} {n k r_q N w d_q : Nat} {F K : row} {A : Nat → row} {Nm : Nat → Int64} {s : ps} (hM_q : MoAt Γ z0 r_q F K A Nm) (hS_q : rfR (A 5) N F s) (hW : rsR F (A 2) w d_q s) (hw_q : 4 ≤ w ∧ w ≤ 6) (hN_q : N ≤ 900) (hb_q : s.bad = 0) (hl : s.l ≠ []) (hd_q : d_q ≤ 6) (hk : 2 ≤ k) : Sp Γ (rmk k 0 0) uX8_goesIn [.ref r_q] z0 n (qV fun σ' n' => n' = n ∧ RfP Γ z0 r_q N w (d_q + 1) F K A Nm (if d_q = 6 then failP N 4 s else nextP s) σ') := by
  refine sp_intro [some (.ref r_q)] (by decide +kernel) rfl (Nat.le_of_ble_eq_true rfl) rfl ?_
  obtain ⟨e17, e18, e16, hE⟩ := hW
  by_cases h6_q : d_q = 6
  · refine go_aload_n (pc := 0) dX8_goesIn_0 rfl ?_
    refine go_getf (pc := 1) f_X8_141 dX8_goesIn_1 (by first | exact mo0 hM_q | exact mo2 hM_q) (by rfl) ?_
    refine go_bipush (v := 6) (pc := 4) dX8_goesIn_4 (by decide) ?_
    rw [e16]
    refine go_icmp_ne (tgt := 14) (pc := 6) dX8_goesIn_6 (by decide) (fun h_6 => by exfalso; exact h_6 (by rw [h6_q]; rfl)) (fun h_6 => ?_)
    refine go_aload_n (pc := 9) dX8_goesIn_9 rfl ?_
    refine go_iconst (v := 4) (pc := 10) dX8_goesIn_10 (by decide) ?_
    refine go_V1V (pc := 11) v_X8_121 rfl rfl (rcv_of (ci := 8) (by first | exact mo0 hM_q | exact mo2 hM_q) rfl) dX8_goesIn_11 (sp_blames (k := k - 1) hM_q hS_q (c_q := 4) (by decide)) (fun σ n h_q => ?_)
    obtain ⟨rfl, F1, hM_q, hS1, hF1, hf_q⟩ := h_q
    refine go_aload_n (pc := 14) dX8_goesIn_14 rfl ?_
    refine go_dup (pc := 15) dX8_goesIn_15 rfl ?_
    refine go_getf (pc := 16) f_X8_141 dX8_goesIn_16 (by first | exact mo0 hM_q | exact mo2 hM_q) (by rfl) ?_
    refine go_iconst (v := 1) (pc := 19) dX8_goesIn_19 (by decide) ?_
    refine go_iadd (pc := 20) dX8_goesIn_20 ?_
    rw [hF1 16 (by omega), e16, nI_1]
    refine go_mpf16 (pc := 21) hM_q dX8_goesIn_21 (fun σ hM_q hf9 => ?_)
    have hf_q := hf_q.tr hf9
    obtain ⟨F3, hM_q, t16, tF⟩ : ∃ F3 : row, MoAt Γ σ r_q F3 K A Nm ∧ F3 16 = nI (d_q + 1) ∧ ∀ j, j ≠ 16 → F3 j = F1 j := ⟨_, hM_q, pk_us, fun j hj_q => pk_un hj_q⟩
    refine go_aload_n (pc := 24) dX8_goesIn_24 rfl ?_
    refine go_getf (pc := 25) f_X8_99 dX8_goesIn_25 (by first | exact mo0 hM_q | exact mo2 hM_q) (by rfl) ?_
    rw [tF 12 (by decide), hS1.2.1]
    refine go_if_ne (tgt := 35) (pc := 28) dX8_goesIn_28 (by decide) (fun h_28 => ?_) (fun h_28 => by exfalso; exact failP_ne (by decide) hb_q h_28)
    exact go_vretV (pc := 35) rfl dX8_goesIn_35 (Nat.le_of_ble_eq_true rfl) (Nat.le_of_ble_eq_true rfl) (by
  rw [if_pos h6_q]
  have nz := failP_ne (N := N) (c_q := 4) (by decide) hb_q
  exact ⟨rfl, F3, A, hM_q, rfR_cg hS1 (fun j h1_q h2_q => tF j (by omega)), ⟨(tF 17 (by decide)).trans ((hF1 17 (by omega)).trans e17), (tF 18 (by decide)).trans ((hF1 18 (by omega)).trans e18), t16, fun e_q => absurd e_q nz⟩, fun j h1_q h2_q => (tF j h2_q).trans (hF1 j h1_q), fun _ _ => rfl, fun _ _ _ => rfl, hf_q⟩)
  · refine go_aload_n (pc := 0) dX8_goesIn_0 rfl ?_
    refine go_getf (pc := 1) f_X8_141 dX8_goesIn_1 (by first | exact mo0 hM_q | exact mo2 hM_q) (by rfl) ?_
    refine go_bipush (v := 6) (pc := 4) dX8_goesIn_4 (by decide) ?_
    rw [e16]
    refine go_icmp_ne (tgt := 14) (pc := 6) dX8_goesIn_6 (by decide) (fun h_6 => ?_) (fun h_6 => by exfalso; exact h6_q ((nI_eq (b := 6) (by omega) (by decide)).mp h_6))
    have hf_q : fr r_q (r_q + 16) z0 z0 := fr.rf
    refine go_aload_n (pc := 14) dX8_goesIn_14 rfl ?_
    refine go_dup (pc := 15) dX8_goesIn_15 rfl ?_
    refine go_getf (pc := 16) f_X8_141 dX8_goesIn_16 (by first | exact mo0 hM_q | exact mo2 hM_q) (by rfl) ?_
    refine go_iconst (v := 1) (pc := 19) dX8_goesIn_19 (by decide) ?_
    refine go_iadd (pc := 20) dX8_goesIn_20 ?_
    rw [e16, nI_1]
    refine go_mpf16 (pc := 21) hM_q dX8_goesIn_21 (fun σ hM_q hf9 => ?_)
    have hf_q := hf_q.tr hf9
    obtain ⟨F3, hM_q, t16, tF⟩ : ∃ F3 : row, MoAt Γ σ r_q F3 K A Nm ∧ F3 16 = nI (d_q + 1) ∧ ∀ j, j ≠ 16 → F3 j = F j := ⟨_, hM_q, pk_us, fun j hj_q => pk_un hj_q⟩
    refine go_aload_n (pc := 24) dX8_goesIn_24 rfl ?_
    refine go_getf (pc := 25) f_X8_99 dX8_goesIn_25 (by first | exact mo0 hM_q | exact mo2 hM_q) (by rfl) ?_
    rw [tF 12 (by decide), hS_q.2.1]
    refine go_if_ne (tgt := 35) (pc := 28) dX8_goesIn_28 (by decide) (fun h_28 => by exfalso; exact h_28 hb_q) (fun h_28 => ?_)
    refine go_aload_n (pc := 31) dX8_goesIn_31 rfl ?_
    refine go_V0V (pc := 32) v_X8_118 rfl rfl (rcv_of (ci := 8) (by first | exact mo0 hM_q | exact mo2 hM_q) rfl) dX8_goesIn_32 (sp_rdN (k := k - 1) hM_q (rfR_cg hS_q (fun j h1_q h2_q => tF j (by omega))) hN_q hb_q hl (by omega)) (fun σ n h_q => ?_)
    obtain ⟨rfl, F4, hM_q, hS4, hF4, hf4⟩ := h_q
    exact go_vretV (pc := 35) rfl dX8_goesIn_35 (Nat.le_of_ble_eq_true rfl) (Nat.le_of_ble_eq_true rfl) (by
  rw [if_neg h6_q]
  exact ⟨rfl, F4, A, hM_q, hS4, ⟨(hF4 17 (by omega)).trans ((tF 17 (by decide)).trans e17), (hF4 18 (by omega)).trans ((tF 18 (by decide)).trans e18), (hF4 16 (by omega)).trans t16, fun e_q => hE hb_q⟩, fun j h1_q h2_q => (hF4 j h1_q).trans (tF j h2_q), fun _ _ => rfl, fun _ _ _ => rfl, hf_q.tr hf4⟩)
