/-! ===== the reference: laws read, method by method ===== -/
def mtR (t_q : Nat) : mth := if t_q = 0 then uX8_readTruth else if t_q = 2 then uX8_readBoth else if t_q = 4 then uX8_readUnit else if t_q = 5 then uX8_readSum else if t_q = 7 then uX8_readTerm else uX8_readAtom
def RefOK (Γ : gam) (r_q N w : Nat) (K : row) (Nm : Nat → Int64) (t_q d_q : Nat) (s : ps) : Prop := ∀ (z0 : sto) (n k : Nat) (F : row) (A : Nat → row), MoAt Γ z0 r_q F K A Nm → rfR (A 5) N F s → rsR F (A 2) w d_q s → tot s ≤ 900 → 12 * (7 - d_q) + rk t_q + 12 ≤ k → Sp Γ (rmk k 0 0) (mtR t_q) [.ref r_q] z0 n (qV fun σ' n' => n' = n ∧ RfP Γ z0 r_q N w d_q F K A Nm (pP N w t_q d_q s) σ')
theorem st_tot {s : ps} {m : Nat} (h_q : tot s ≤ m) : s.st.length ≤ m := by
  unfold tot at h_q
  omega
theorem ref_7 {Γ : gam} {r_q N w d_q : Nat} {K : row} {Nm : Nat → Int64} {s : ps} (hw_q : 4 ≤ w ∧ w ≤ 6) (hN_q : N ≤ 900) (h9_q : ∀ s' : ps, s'.l.length ≤ s.l.length → RefOK Γ r_q N w K Nm 9 d_q s') : RefOK Γ r_q N w K Nm 7 d_q s := by
  intro z0 n k F A hM_q hS_q hW ht_q hk
  have r7 : rk 7 = 2 := rfl
  have r9 : rk 9 = 1 := rfl
  show Sp Γ (rmk k 0 0) uX8_readTerm [.ref r_q] z0 n (qV fun σ' n' => n' = n ∧ RfP Γ z0 r_q N w d_q F K A Nm (pP N w 7 d_q s) σ')
  refine sp_intro [some (.ref r_q)] (by decide +kernel) rfl (Nat.le_of_ble_eq_true rfl) rfl ?_
  refine go_aload_n (pc := 0) dX8_readTerm_0 rfl ?_
  refine go_V0V (pc := 1) v_X8_174 rfl rfl (rcv_of (ci := 8) (by first | exact mo0 hM_q | exact mo2 hM_q) rfl) dX8_readTerm_1 (h9_q s (Nat.le_refl _) z0 n (k - 1) F A hM_q hS_q hW ht_q (by omega)) (fun σ n h_q => ?_)
  obtain ⟨rfl, hR_q⟩ := h_q
  refine go_meas (fun m9_q lv9 s8 n9 => ∃ (s9 : ps), lv9 = [some (.ref r_q)] ∧ (RfP Γ z0 r_q N w d_q F K A Nm s9 s8) ∧ (pP N w 8 d_q s9 = pP N w 7 d_q s) ∧ (s9.l.length ≤ s.l.length) ∧ (tot s9 ≤ 900) ∧ m9_q = s9.l.length ∧ n = n9) ((pP N w 9 d_q s).l.length) ⟨_, rfl, hR_q, pP_7.symm, (pP_len (by omega)), (Nat.le_trans (pP_tot (by omega)) ht_q), rfl, rfl⟩ ?_
  rintro m9_q lv9 σ n9 ⟨s9, rfl, hR_q, hE, hl, ht9, rfl, rfl⟩ ih0
  obtain ⟨F9, A9_q, hM_q, hS_q, hW, hF, hA_q, hA2, hf_q⟩ := hR_q
  rw [← hA_q 5 (by decide)] at hS_q
  refine go_aload_n (pc := 4) dX8_readTerm_4 rfl ?_
  refine go_bipush (v := 42) (pc := 5) dX8_readTerm_5 (by decide) ?_
  refine go_V1P (pc := 7) v_X8_162 rfl rfl (rcv_of (ci := 8) (by first | exact mo0 hM_q | exact mo2 hM_q) rfl) dX8_readTerm_7 (sp_isSign (k := k - 1) hM_q hS_q (c_q := 42) (by decide)) ?_
  refine go_if_eq (tgt := 30) (pc := 10) dX8_readTerm_10 (by decide) (fun h_10 => ?_) (fun h_10 => ?_)
  · exact go_vretV (pc := 30) rfl dX8_readTerm_30 (Nat.le_of_ble_eq_true rfl) (Nat.le_of_ble_eq_true rfl) (by have g10 := bI_0.mp h_10; rw [pP_8, if_neg g10] at hE; rw [← hE]; exact ⟨rfl, F9, A9_q, hM_q, (by rw [hA_q 5 (by decide)] at hS_q; exact hS_q), hW, hF, hA_q, hA2, hf_q⟩)
  · have g10 : s9.bad = 0 ∧ kd s9.l = 42 := Decidable.not_not.mp (fun hc_q => h_10 (bI_0.mpr hc_q))
    have n1 := nx_lt g10.2 (by decide)
    have n2 := tot_ne g10.2 (by decide)
    have n3 := pP_len (N := N) (w := w) (d := d_q) (s := nextP s9) (t := 9) (by omega)
    have n4 := pP_tot (N := N) (w := w) (d := d_q) (s := nextP s9) (t := 9) (by omega)
    have n5 := st_tot n4
    have n6 := tot_em (c := 12) (s := pP N w 9 d_q (nextP s9))
    have n7 : (emitP 12 (pP N w 9 d_q (nextP s9))).l = _ := len_emit
    refine go_aload_n (pc := 13) dX8_readTerm_13 rfl ?_
    refine go_V0V (pc := 14) v_X8_118 rfl rfl (rcv_of (ci := 8) (by first | exact mo0 hM_q | exact mo2 hM_q) rfl) dX8_readTerm_14 (sp_rdN (k := k - 1) hM_q hS_q hN_q g10.1 (kd_ne g10.2 (by decide)) (by omega)) (fun σ n h_q => ?_)
    obtain ⟨rfl, F2, hM_q, hS_q, hF2, hf2⟩ := h_q
    have hW : rsR F2 (A9_q 2) w d_q (nextP s9) := ⟨(hF2 17 (by omega)).trans hW.1, (hF2 18 (by omega)).trans hW.2.1, (hF2 16 (by omega)).trans hW.2.2.1, fun _ => hW.2.2.2 g10.1⟩
    refine go_aload_n (pc := 17) dX8_readTerm_17 rfl ?_
    refine go_V0V (pc := 18) v_X8_174 rfl rfl (rcv_of (ci := 8) (by first | exact mo0 hM_q | exact mo2 hM_q) rfl) dX8_readTerm_18 (h9_q (nextP s9) (by omega) _ _ (k - 1) F2 A9_q hM_q hS_q hW (by omega) (by omega)) (fun σ n h_q => ?_)
    obtain ⟨rfl, hR1⟩ := h_q
    have hR1 := RfP.tr (F := F) (A := A) (z0 := z0) (fun j h1_q h2_q => (hF2 j h1_q).trans (hF j h1_q h2_q)) hA_q hA2 (hf_q.tr hf2) hR1
    obtain ⟨F3, A3, hM_q, hS_q, hW, hF3, hA3, hA23, hf3⟩ := hR1
    rw [← hA3 5 (by decide)] at hS_q
    refine go_aload_n (pc := 21) dX8_readTerm_21 rfl ?_
    refine go_bipush (v := 12) (pc := 22) dX8_readTerm_22 (by decide) ?_
    refine go_V1V (pc := 24) v_X8_149 rfl rfl (rcv_of (ci := 8) (by first | exact mo0 hM_q | exact mo2 hM_q) rfl) dX8_readTerm_24 (sp_laysStep (k := k - 1) hM_q hS_q hW hw_q (by omega)) (fun σ n h_q => ?_)
    obtain ⟨rfl, hR2⟩ := h_q
    have hR_q := RfP.tr (F := F) (A := A) (z0 := z0) hF3 hA3 hA23 hf3 hR2
    refine go_goto (tgt := 4) (pc := 27) dX8_readTerm_27 (by decide) ?_
    exact ih0 _ _ _ _ (by rw [n7]; omega) ⟨_, rfl, hR_q, (by rw [← hE, pP_8 (s := s9), if_pos g10]), (by rw [n7]; omega), (by omega), rfl, rfl⟩
theorem ref_2 {Γ : gam} {r_q N w d_q : Nat} {K : row} {Nm : Nat → Int64} {s : ps} (hw_q : 4 ≤ w ∧ w ≤ 6) (hN_q : N ≤ 900) (h9_q : ∀ s' : ps, s'.l.length ≤ s.l.length → RefOK Γ r_q N w K Nm 4 d_q s') : RefOK Γ r_q N w K Nm 2 d_q s := by
  intro z0 n k F A hM_q hS_q hW ht_q hk
  have r7 : rk 2 = rk 4 + 1 := rfl
  have r9 : 1 ≤ rk 4 := by decide
  show Sp Γ (rmk k 0 0) uX8_readBoth [.ref r_q] z0 n (qV fun σ' n' => n' = n ∧ RfP Γ z0 r_q N w d_q F K A Nm (pP N w 2 d_q s) σ')
  refine sp_intro [some (.ref r_q)] (by decide +kernel) rfl (Nat.le_of_ble_eq_true rfl) rfl ?_
  refine go_aload_n (pc := 0) dX8_readBoth_0 rfl ?_
  refine go_V0V (pc := 1) v_X8_152 rfl rfl (rcv_of (ci := 8) (by first | exact mo0 hM_q | exact mo2 hM_q) rfl) dX8_readBoth_1 (h9_q s (Nat.le_refl _) z0 n (k - 1) F A hM_q hS_q hW ht_q (by omega)) (fun σ n h_q => ?_)
  obtain ⟨rfl, hR_q⟩ := h_q
  refine go_meas (fun m9_q lv9 s8 n9 => ∃ (s9 : ps), lv9 = [some (.ref r_q)] ∧ (RfP Γ z0 r_q N w d_q F K A Nm s9 s8) ∧ (pP N w 3 d_q s9 = pP N w 2 d_q s) ∧ (s9.l.length ≤ s.l.length) ∧ (tot s9 ≤ 900) ∧ m9_q = s9.l.length ∧ n = n9) ((pP N w 4 d_q s).l.length) ⟨_, rfl, hR_q, pP_2.symm, (pP_len (by omega)), (Nat.le_trans (pP_tot (by omega)) ht_q), rfl, rfl⟩ ?_
  rintro m9_q lv9 σ n9 ⟨s9, rfl, hR_q, hE, hl, ht9, rfl, rfl⟩ ih0
  obtain ⟨F9, A9_q, hM_q, hS_q, hW, hF, hA_q, hA2, hf_q⟩ := hR_q
  rw [← hA_q 5 (by decide)] at hS_q
  refine go_aload_n (pc := 4) dX8_readBoth_4 rfl ?_
  refine go_ldcS (si := 45) (pc := 5) rfl dX8_readBoth_5 ?_
  refine go_V1I (pc := 7) v_X8_129 rfl rfl (rcv_of (ci := 8) (by first | exact mo0 hM_q | exact mo2 hM_q) rfl) dX8_readBoth_7 (sp_took (k := k - 1) hM_q hS_q (si := 45) (q := ("FrontChairsModel", 155, "and")) (cw := 16) rfl (by decide) wk_16 (by decide) (by decide) hN_q (by omega)) (fun v_7 σ n h_q => ?_)
  obtain ⟨rfl, rfl, F2, hM_q, hS_q, hF2, hf2⟩ := h_q
  refine go_if_eq (tgt := 26) (pc := 10) dX8_readBoth_10 (by decide) (fun h_10 => ?_) (fun h_10 => ?_)
  · exact go_vretV (pc := 26) rfl dX8_readBoth_26 (Nat.le_of_ble_eq_true rfl) (Nat.le_of_ble_eq_true rfl) (by have g10 := bI_0.mp h_10; rw [if_neg g10] at hS_q; rw [pP_3, if_neg g10] at hE; rw [← hE]; exact ⟨rfl, F2, A9_q, hM_q, (by rw [hA_q 5 (by decide)] at hS_q; exact hS_q), ⟨(hF2 17 (by omega)).trans hW.1, (hF2 18 (by omega)).trans hW.2.1, (hF2 16 (by omega)).trans hW.2.2.1, hW.2.2.2⟩, fun j h1_q h2_q => (hF2 j h1_q).trans (hF j h1_q h2_q), hA_q, hA2, hf_q.tr hf2⟩)
  · have g10 : s9.bad = 0 ∧ kd s9.l = 16 := Decidable.not_not.mp (fun hc_q => h_10 (bI_0.mpr hc_q))
    rw [if_pos g10] at hS_q
    have hW : rsR F2 (A9_q 2) w d_q (nextP s9) := ⟨(hF2 17 (by omega)).trans hW.1, (hF2 18 (by omega)).trans hW.2.1, (hF2 16 (by omega)).trans hW.2.2.1, fun _ => hW.2.2.2 g10.1⟩
    have n1 := nx_lt g10.2 (by decide)
    have n2 := tot_ne g10.2 (by decide)
    have n3 := pP_len (N := N) (w := w) (d := d_q) (s := nextP s9) (t := 4) (by omega)
    have n4 := pP_tot (N := N) (w := w) (d := d_q) (s := nextP s9) (t := 4) (by omega)
    have n5 := st_tot n4
    have n6 := tot_em (c := 16) (s := pP N w 4 d_q (nextP s9))
    have n7 : (emitP 16 (pP N w 4 d_q (nextP s9))).l = _ := len_emit
    refine go_aload_n (pc := 13) dX8_readBoth_13 rfl ?_
    refine go_V0V (pc := 14) v_X8_152 rfl rfl (rcv_of (ci := 8) (by first | exact mo0 hM_q | exact mo2 hM_q) rfl) dX8_readBoth_14 (h9_q (nextP s9) (by omega) _ _ (k - 1) F2 A9_q hM_q hS_q hW (by omega) (by omega)) (fun σ n h_q => ?_)
    obtain ⟨rfl, hR1⟩ := h_q
    have hR1 := RfP.tr (F := F) (A := A) (z0 := z0) (fun j h1_q h2_q => (hF2 j h1_q).trans (hF j h1_q h2_q)) hA_q hA2 (hf_q.tr hf2) hR1
    obtain ⟨F3, A3, hM_q, hS_q, hW, hF3, hA3, hA23, hf3⟩ := hR1
    rw [← hA3 5 (by decide)] at hS_q
    refine go_aload_n (pc := 17) dX8_readBoth_17 rfl ?_
    refine go_bipush (v := 16) (pc := 18) dX8_readBoth_18 (by decide) ?_
    refine go_V1V (pc := 20) v_X8_149 rfl rfl (rcv_of (ci := 8) (by first | exact mo0 hM_q | exact mo2 hM_q) rfl) dX8_readBoth_20 (sp_laysStep (k := k - 1) hM_q hS_q hW hw_q (by omega)) (fun σ n h_q => ?_)
    obtain ⟨rfl, hR2⟩ := h_q
    have hR_q := RfP.tr (F := F) (A := A) (z0 := z0) hF3 hA3 hA23 hf3 hR2
    refine go_goto (tgt := 4) (pc := 23) dX8_readBoth_23 (by decide) ?_
    exact ih0 _ _ _ _ (by rw [n7]; omega) ⟨_, rfl, hR_q, (by rw [← hE, pP_3 (s := s9), if_pos g10]), (by rw [n7]; omega), (by omega), rfl, rfl⟩
theorem ref_0 {Γ : gam} {r_q N w d_q : Nat} {K : row} {Nm : Nat → Int64} {s : ps} (hw_q : 4 ≤ w ∧ w ≤ 6) (hN_q : N ≤ 900) (h9_q : ∀ s' : ps, s'.l.length ≤ s.l.length → RefOK Γ r_q N w K Nm 2 d_q s') : RefOK Γ r_q N w K Nm 0 d_q s := by
  intro z0 n k F A hM_q hS_q hW ht_q hk
  have r7 : rk 0 = rk 2 + 1 := rfl
  have r9 : 1 ≤ rk 2 := by decide
  show Sp Γ (rmk k 0 0) uX8_readTruth [.ref r_q] z0 n (qV fun σ' n' => n' = n ∧ RfP Γ z0 r_q N w d_q F K A Nm (pP N w 0 d_q s) σ')
  refine sp_intro [some (.ref r_q)] (by decide +kernel) rfl (Nat.le_of_ble_eq_true rfl) rfl ?_
  refine go_aload_n (pc := 0) dX8_readTruth_0 rfl ?_
  refine go_V0V (pc := 1) v_X8_144 rfl rfl (rcv_of (ci := 8) (by first | exact mo0 hM_q | exact mo2 hM_q) rfl) dX8_readTruth_1 (h9_q s (Nat.le_refl _) z0 n (k - 1) F A hM_q hS_q hW ht_q (by omega)) (fun σ n h_q => ?_)
  obtain ⟨rfl, hR_q⟩ := h_q
  refine go_meas (fun m9_q lv9 s8 n9 => ∃ (s9 : ps), lv9 = [some (.ref r_q)] ∧ (RfP Γ z0 r_q N w d_q F K A Nm s9 s8) ∧ (pP N w 1 d_q s9 = pP N w 0 d_q s) ∧ (s9.l.length ≤ s.l.length) ∧ (tot s9 ≤ 900) ∧ m9_q = s9.l.length ∧ n = n9) ((pP N w 2 d_q s).l.length) ⟨_, rfl, hR_q, pP_0.symm, (pP_len (by omega)), (Nat.le_trans (pP_tot (by omega)) ht_q), rfl, rfl⟩ ?_
  rintro m9_q lv9 σ n9 ⟨s9, rfl, hR_q, hE, hl, ht9, rfl, rfl⟩ ih0
  obtain ⟨F9, A9_q, hM_q, hS_q, hW, hF, hA_q, hA2, hf_q⟩ := hR_q
  rw [← hA_q 5 (by decide)] at hS_q
  refine go_aload_n (pc := 4) dX8_readTruth_4 rfl ?_
  refine go_ldcS (si := 46) (pc := 5) rfl dX8_readTruth_5 ?_
  refine go_V1I (pc := 7) v_X8_129 rfl rfl (rcv_of (ci := 8) (by first | exact mo0 hM_q | exact mo2 hM_q) rfl) dX8_readTruth_7 (sp_took (k := k - 1) hM_q hS_q (si := 46) (q := ("FrontChairsModel", 147, "or")) (cw := 17) rfl (by decide) wk_17 (by decide) (by decide) hN_q (by omega)) (fun v_7 σ n h_q => ?_)
  obtain ⟨rfl, rfl, F2, hM_q, hS_q, hF2, hf2⟩ := h_q
  refine go_if_eq (tgt := 26) (pc := 10) dX8_readTruth_10 (by decide) (fun h_10 => ?_) (fun h_10 => ?_)
  · exact go_vretV (pc := 26) rfl dX8_readTruth_26 (Nat.le_of_ble_eq_true rfl) (Nat.le_of_ble_eq_true rfl) (by have g10 := bI_0.mp h_10; rw [if_neg g10] at hS_q; rw [pP_1, if_neg g10] at hE; rw [← hE]; exact ⟨rfl, F2, A9_q, hM_q, (by rw [hA_q 5 (by decide)] at hS_q; exact hS_q), ⟨(hF2 17 (by omega)).trans hW.1, (hF2 18 (by omega)).trans hW.2.1, (hF2 16 (by omega)).trans hW.2.2.1, hW.2.2.2⟩, fun j h1_q h2_q => (hF2 j h1_q).trans (hF j h1_q h2_q), hA_q, hA2, hf_q.tr hf2⟩)
  · have g10 : s9.bad = 0 ∧ kd s9.l = 17 := Decidable.not_not.mp (fun hc_q => h_10 (bI_0.mpr hc_q))
    rw [if_pos g10] at hS_q
    have hW : rsR F2 (A9_q 2) w d_q (nextP s9) := ⟨(hF2 17 (by omega)).trans hW.1, (hF2 18 (by omega)).trans hW.2.1, (hF2 16 (by omega)).trans hW.2.2.1, fun _ => hW.2.2.2 g10.1⟩
    have n1 := nx_lt g10.2 (by decide)
    have n2 := tot_ne g10.2 (by decide)
    have n3 := pP_len (N := N) (w := w) (d := d_q) (s := nextP s9) (t := 2) (by omega)
    have n4 := pP_tot (N := N) (w := w) (d := d_q) (s := nextP s9) (t := 2) (by omega)
    have n5 := st_tot n4
    have n6 := tot_em (c := 17) (s := pP N w 2 d_q (nextP s9))
    have n7 : (emitP 17 (pP N w 2 d_q (nextP s9))).l = _ := len_emit
    refine go_aload_n (pc := 13) dX8_readTruth_13 rfl ?_
    refine go_V0V (pc := 14) v_X8_144 rfl rfl (rcv_of (ci := 8) (by first | exact mo0 hM_q | exact mo2 hM_q) rfl) dX8_readTruth_14 (h9_q (nextP s9) (by omega) _ _ (k - 1) F2 A9_q hM_q hS_q hW (by omega) (by omega)) (fun σ n h_q => ?_)
    obtain ⟨rfl, hR1⟩ := h_q
    have hR1 := RfP.tr (F := F) (A := A) (z0 := z0) (fun j h1_q h2_q => (hF2 j h1_q).trans (hF j h1_q h2_q)) hA_q hA2 (hf_q.tr hf2) hR1
    obtain ⟨F3, A3, hM_q, hS_q, hW, hF3, hA3, hA23, hf3⟩ := hR1
    rw [← hA3 5 (by decide)] at hS_q
    refine go_aload_n (pc := 17) dX8_readTruth_17 rfl ?_
    refine go_bipush (v := 17) (pc := 18) dX8_readTruth_18 (by decide) ?_
    refine go_V1V (pc := 20) v_X8_149 rfl rfl (rcv_of (ci := 8) (by first | exact mo0 hM_q | exact mo2 hM_q) rfl) dX8_readTruth_20 (sp_laysStep (k := k - 1) hM_q hS_q hW hw_q (by omega)) (fun σ n h_q => ?_)
    obtain ⟨rfl, hR2⟩ := h_q
    have hR_q := RfP.tr (F := F) (A := A) (z0 := z0) hF3 hA3 hA23 hf3 hR2
    refine go_goto (tgt := 4) (pc := 23) dX8_readTruth_23 (by decide) ?_
    exact ih0 _ _ _ _ (by rw [n7]; omega) ⟨_, rfl, hR_q, (by rw [← hE, pP_1 (s := s9), if_pos g10]), (by rw [n7]; omega), (by omega), rfl, rfl⟩
theorem ref_5 {Γ : gam} {r_q N w d_q : Nat} {K : row} {Nm : Nat → Int64} {s : ps} (hw_q : 4 ≤ w ∧ w ≤ 6) (hN_q : N ≤ 900) (h9_q : ∀ s' : ps, s'.l.length ≤ s.l.length → RefOK Γ r_q N w K Nm 7 d_q s') : RefOK Γ r_q N w K Nm 5 d_q s := by
  intro z0 n k F A hM_q hS_q hW ht_q hk
  have r7 : rk 5 = 3 := rfl
  have r9 : rk 7 = 2 := rfl
  show Sp Γ (rmk k 0 0) uX8_readSum [.ref r_q] z0 n (qV fun σ' n' => n' = n ∧ RfP Γ z0 r_q N w d_q F K A Nm (pP N w 5 d_q s) σ')
  refine sp_intro [some (.ref r_q), none] (by decide +kernel) rfl (Nat.le_of_ble_eq_true rfl) rfl ?_
  refine go_aload_n (pc := 0) dX8_readSum_0 rfl ?_
  refine go_V0V (pc := 1) v_X8_171 rfl rfl (rcv_of (ci := 8) (by first | exact mo0 hM_q | exact mo2 hM_q) rfl) dX8_readSum_1 (h9_q s (Nat.le_refl _) z0 n (k - 1) F A hM_q hS_q hW ht_q (by omega)) (fun σ n h_q => ?_)
  obtain ⟨rfl, hR_q⟩ := h_q
  refine go_meas (fun m9_q lv9 s8 n9 => ∃ (s9 : ps), ∃ (x1_q : Option Value), lv9 = [some (.ref r_q), x1_q] ∧ (RfP Γ z0 r_q N w d_q F K A Nm s9 s8) ∧ (pP N w 6 d_q s9 = pP N w 5 d_q s) ∧ (s9.l.length ≤ s.l.length) ∧ (tot s9 ≤ 900) ∧ m9_q = s9.l.length ∧ n = n9) ((pP N w 7 d_q s).l.length) ⟨_, _, rfl, hR_q, pP_5.symm, (pP_len (by omega)), (Nat.le_trans (pP_tot (by omega)) ht_q), rfl, rfl⟩ ?_
  rintro m9_q lv9 σ n9 ⟨s9, x1_q, rfl, hR_q, hE, hl, ht9, rfl, rfl⟩ ih0
  obtain ⟨F9, A9_q, hM_q, hS_q, hW, hF, hA_q, hA2, hf_q⟩ := hR_q
  rw [← hA_q 5 (by decide)] at hS_q
  refine go_aload_n (pc := 4) dX8_readSum_4 rfl ?_
  refine go_bipush (v := 43) (pc := 5) dX8_readSum_5 (by decide) ?_
  refine go_V1P (pc := 7) v_X8_162 rfl rfl (rcv_of (ci := 8) (by first | exact mo0 hM_q | exact mo2 hM_q) rfl) dX8_readSum_7 (sp_isSign (k := k - 1) hM_q hS_q (c_q := 43) (by decide)) ?_
  refine go_if_ne (tgt := 22) (pc := 10) dX8_readSum_10 (by decide) (fun h_10 => ?_) (fun h_10 => ?_)
  · obtain ⟨g10, eT⟩ : (s9.bad = 0 ∧ (kd s9.l = 43 ∨ kd s9.l = 45)) ∧ F9 10 = kd s9.l := by
      first
        | (have g9_q : ¬ bI (s9.bad = 0 ∧ kd s9.l = 43) = 0 := h_10
           have g8_q : s9.bad = 0 ∧ kd s9.l = 43 := Decidable.not_not.mp (fun hc_q => g9_q (bI_0.mpr hc_q))
           exact ⟨⟨g8_q.1, Or.inl g8_q.2⟩, ((tok_sg (hS_q.2.2.1 g8_q.1) (by decide)).mpr g8_q.2).trans g8_q.2.symm⟩)
        | (have g9_q : ¬ bI (s9.bad = 0 ∧ kd s9.l = 45) = 0 := h_19
           have g8_q : s9.bad = 0 ∧ kd s9.l = 45 := Decidable.not_not.mp (fun hc_q => g9_q (bI_0.mpr hc_q))
           exact ⟨⟨g8_q.1, Or.inr g8_q.2⟩, ((tok_sg (hS_q.2.2.1 g8_q.1) (by decide)).mpr g8_q.2).trans g8_q.2.symm⟩)
    have hnk : kd s9.l ≠ 0 := g10.2.elim (fun e_q => by rw [e_q]; decide) (fun e_q => by rw [e_q]; decide)
    have hne : s9.l ≠ [] := kd_ne rfl hnk
    have n1 := len_nextK hnk
    have n2 := tot_nk hnk
    have n3 := pP_len (N := N) (w := w) (d := d_q) (s := nextP s9) (t := 7) (by omega)
    have n4 := pP_tot (N := N) (w := w) (d := d_q) (s := nextP s9) (t := 7) (by omega)
    have n5 := st_tot n4
    have n6 := tot_em (c := (if kd s9.l = 43 then 10 else 11)) (s := pP N w 7 d_q (nextP s9))
    have n7 : (emitP (if kd s9.l = 43 then 10 else 11) (pP N w 7 d_q (nextP s9))).l = _ := len_emit
    refine go_aload_n (pc := 22) dX8_readSum_22 rfl ?_
    refine go_getf (pc := 23) f_X8_79 dX8_readSum_23 (by first | exact mo0 hM_q | exact mo2 hM_q) (by rfl) ?_
    refine go_istore_n (lw := [_, _]) (pc := 26) dX8_readSum_26 (by decide) rfl ?_
    refine go_aload_n (pc := 27) dX8_readSum_27 rfl ?_
    refine go_V0V (pc := 28) v_X8_118 rfl rfl (rcv_of (ci := 8) (by first | exact mo0 hM_q | exact mo2 hM_q) rfl) dX8_readSum_28 (sp_rdN (k := k - 1) hM_q hS_q hN_q g10.1 hne (by omega)) (fun σ n h_q => ?_)
    obtain ⟨rfl, F2, hM_q, hS_q, hF2, hf2⟩ := h_q
    have hW : rsR F2 (A9_q 2) w d_q (nextP s9) := ⟨(hF2 17 (by omega)).trans hW.1, (hF2 18 (by omega)).trans hW.2.1, (hF2 16 (by omega)).trans hW.2.2.1, fun _ => hW.2.2.2 g10.1⟩
    refine go_aload_n (pc := 31) dX8_readSum_31 rfl ?_
    refine go_V0V (pc := 32) v_X8_171 rfl rfl (rcv_of (ci := 8) (by first | exact mo0 hM_q | exact mo2 hM_q) rfl) dX8_readSum_32 (h9_q (nextP s9) (by omega) _ _ (k - 1) F2 A9_q hM_q hS_q hW (by omega) (by omega)) (fun σ n h_q => ?_)
    obtain ⟨rfl, hR1⟩ := h_q
    have hR1 := RfP.tr (F := F) (A := A) (z0 := z0) (fun j h1_q h2_q => (hF2 j h1_q).trans (hF j h1_q h2_q)) hA_q hA2 (hf_q.tr hf2) hR1
    obtain ⟨F3, A3, hM_q, hS_q, hW, hF3, hA3, hA23, hf3⟩ := hR1
    rw [← hA3 5 (by decide)] at hS_q
    refine go_aload_n (pc := 35) dX8_readSum_35 rfl ?_
    refine go_iload_n (pc := 36) dX8_readSum_36 rfl ?_
    refine go_bipush (v := 43) (pc := 37) dX8_readSum_37 (by decide) ?_
    rw [eT]
    refine go_icmp_ne (tgt := 47) (pc := 39) dX8_readSum_39 (by decide) (fun h_39 => ?_) (fun h_39 => ?_)
    · refine go_bipush (v := 11) (pc := 47) dX8_readSum_47 (by decide) ?_
      refine go_V1V (pc := 49) v_X8_149 rfl rfl (rcv_of (ci := 8) (by first | exact mo0 hM_q | exact mo2 hM_q) rfl) dX8_readSum_49 (sp_laysStep (k := k - 1) hM_q hS_q hW hw_q (by omega)) (fun σ n h_q => ?_)
      obtain ⟨rfl, hR2⟩ := h_q
      have hR_q := RfP.tr (F := F) (A := A) (z0 := z0) hF3 hA3 hA23 hf3 hR2
      have hR_q : RfP Γ z0 r_q N w d_q F K A Nm (emitP (if kd s9.l = 43 then 10 else 11) (pP N w 7 d_q (nextP s9))) σ := by
        first
          | (have g_q : ¬ kd s9.l = 43 := h_39
             rw [if_neg g_q]
             exact hR_q)
          | (have g_q : kd s9.l = 43 := h_39
             rw [if_pos g_q]
             exact hR_q)
      refine go_goto (tgt := 4) (pc := 52) dX8_readSum_52 (by decide) ?_
      exact ih0 _ _ _ _ (by rw [n7]; omega) ⟨_, _, rfl, hR_q, (by rw [← hE, pP_6 (s := s9), if_pos g10]), (by rw [n7]; omega), (by omega), rfl, rfl⟩
    · refine go_bipush (v := 10) (pc := 42) dX8_readSum_42 (by decide) ?_
      refine go_goto (tgt := 49) (pc := 44) dX8_readSum_44 (by decide) ?_
      refine go_V1V (pc := 49) v_X8_149 rfl rfl (rcv_of (ci := 8) (by first | exact mo0 hM_q | exact mo2 hM_q) rfl) dX8_readSum_49 (sp_laysStep (k := k - 1) hM_q hS_q hW hw_q (by omega)) (fun σ n h_q => ?_)
      obtain ⟨rfl, hR2⟩ := h_q
      have hR_q := RfP.tr (F := F) (A := A) (z0 := z0) hF3 hA3 hA23 hf3 hR2
      have hR_q : RfP Γ z0 r_q N w d_q F K A Nm (emitP (if kd s9.l = 43 then 10 else 11) (pP N w 7 d_q (nextP s9))) σ := by
        first
          | (have g_q : ¬ kd s9.l = 43 := h_39
             rw [if_neg g_q]
             exact hR_q)
          | (have g_q : kd s9.l = 43 := h_39
             rw [if_pos g_q]
             exact hR_q)
      refine go_goto (tgt := 4) (pc := 52) dX8_readSum_52 (by decide) ?_
      exact ih0 _ _ _ _ (by rw [n7]; omega) ⟨_, _, rfl, hR_q, (by rw [← hE, pP_6 (s := s9), if_pos g10]), (by rw [n7]; omega), (by omega), rfl, rfl⟩
  · refine go_aload_n (pc := 13) dX8_readSum_13 rfl ?_
    refine go_bipush (v := 45) (pc := 14) dX8_readSum_14 (by decide) ?_
    refine go_V1P (pc := 16) v_X8_162 rfl rfl (rcv_of (ci := 8) (by first | exact mo0 hM_q | exact mo2 hM_q) rfl) dX8_readSum_16 (sp_isSign (k := k - 1) hM_q hS_q (c_q := 45) (by decide)) ?_
    refine go_if_eq (tgt := 55) (pc := 19) dX8_readSum_19 (by decide) (fun h_19 => ?_) (fun h_19 => ?_)
    · exact go_vretV (pc := 55) rfl dX8_readSum_55 (Nat.le_of_ble_eq_true rfl) (Nat.le_of_ble_eq_true rfl) (by
  have g1_q := bI_0.mp h_19
  have g0 : ¬ (s9.bad = 0 ∧ kd s9.l = 43) := bI_0.mp (by first | exact h_10 | exact Decidable.not_not.mp h_10)
  have g10 : ¬ (s9.bad = 0 ∧ (kd s9.l = 43 ∨ kd s9.l = 45)) := fun e_q => e_q.2.elim (fun x_q => g0 ⟨e_q.1, x_q⟩) (fun x_q => g1_q ⟨e_q.1, x_q⟩)
  rw [pP_6, if_neg g10] at hE
  rw [← hE]
  exact ⟨rfl, F9, A9_q, hM_q, (by rw [hA_q 5 (by decide)] at hS_q; exact hS_q), hW, hF, hA_q, hA2, hf_q⟩)
    · obtain ⟨g10, eT⟩ : (s9.bad = 0 ∧ (kd s9.l = 43 ∨ kd s9.l = 45)) ∧ F9 10 = kd s9.l := by
        first
          | (have g9_q : ¬ bI (s9.bad = 0 ∧ kd s9.l = 43) = 0 := h_10
             have g8_q : s9.bad = 0 ∧ kd s9.l = 43 := Decidable.not_not.mp (fun hc_q => g9_q (bI_0.mpr hc_q))
             exact ⟨⟨g8_q.1, Or.inl g8_q.2⟩, ((tok_sg (hS_q.2.2.1 g8_q.1) (by decide)).mpr g8_q.2).trans g8_q.2.symm⟩)
          | (have g9_q : ¬ bI (s9.bad = 0 ∧ kd s9.l = 45) = 0 := h_19
             have g8_q : s9.bad = 0 ∧ kd s9.l = 45 := Decidable.not_not.mp (fun hc_q => g9_q (bI_0.mpr hc_q))
             exact ⟨⟨g8_q.1, Or.inr g8_q.2⟩, ((tok_sg (hS_q.2.2.1 g8_q.1) (by decide)).mpr g8_q.2).trans g8_q.2.symm⟩)
      have hnk : kd s9.l ≠ 0 := g10.2.elim (fun e_q => by rw [e_q]; decide) (fun e_q => by rw [e_q]; decide)
      have hne : s9.l ≠ [] := kd_ne rfl hnk
      have n1 := len_nextK hnk
      have n2 := tot_nk hnk
      have n3 := pP_len (N := N) (w := w) (d := d_q) (s := nextP s9) (t := 7) (by omega)
      have n4 := pP_tot (N := N) (w := w) (d := d_q) (s := nextP s9) (t := 7) (by omega)
      have n5 := st_tot n4
      have n6 := tot_em (c := (if kd s9.l = 43 then 10 else 11)) (s := pP N w 7 d_q (nextP s9))
      have n7 : (emitP (if kd s9.l = 43 then 10 else 11) (pP N w 7 d_q (nextP s9))).l = _ := len_emit
      refine go_aload_n (pc := 22) dX8_readSum_22 rfl ?_
      refine go_getf (pc := 23) f_X8_79 dX8_readSum_23 (by first | exact mo0 hM_q | exact mo2 hM_q) (by rfl) ?_
      refine go_istore_n (lw := [_, _]) (pc := 26) dX8_readSum_26 (by decide) rfl ?_
      refine go_aload_n (pc := 27) dX8_readSum_27 rfl ?_
      refine go_V0V (pc := 28) v_X8_118 rfl rfl (rcv_of (ci := 8) (by first | exact mo0 hM_q | exact mo2 hM_q) rfl) dX8_readSum_28 (sp_rdN (k := k - 1) hM_q hS_q hN_q g10.1 hne (by omega)) (fun σ n h_q => ?_)
      obtain ⟨rfl, F2, hM_q, hS_q, hF2, hf2⟩ := h_q
      have hW : rsR F2 (A9_q 2) w d_q (nextP s9) := ⟨(hF2 17 (by omega)).trans hW.1, (hF2 18 (by omega)).trans hW.2.1, (hF2 16 (by omega)).trans hW.2.2.1, fun _ => hW.2.2.2 g10.1⟩
      refine go_aload_n (pc := 31) dX8_readSum_31 rfl ?_
      refine go_V0V (pc := 32) v_X8_171 rfl rfl (rcv_of (ci := 8) (by first | exact mo0 hM_q | exact mo2 hM_q) rfl) dX8_readSum_32 (h9_q (nextP s9) (by omega) _ _ (k - 1) F2 A9_q hM_q hS_q hW (by omega) (by omega)) (fun σ n h_q => ?_)
      obtain ⟨rfl, hR1⟩ := h_q
      have hR1 := RfP.tr (F := F) (A := A) (z0 := z0) (fun j h1_q h2_q => (hF2 j h1_q).trans (hF j h1_q h2_q)) hA_q hA2 (hf_q.tr hf2) hR1
      obtain ⟨F3, A3, hM_q, hS_q, hW, hF3, hA3, hA23, hf3⟩ := hR1
      rw [← hA3 5 (by decide)] at hS_q
      refine go_aload_n (pc := 35) dX8_readSum_35 rfl ?_
      refine go_iload_n (pc := 36) dX8_readSum_36 rfl ?_
      refine go_bipush (v := 43) (pc := 37) dX8_readSum_37 (by decide) ?_
      rw [eT]
      refine go_icmp_ne (tgt := 47) (pc := 39) dX8_readSum_39 (by decide) (fun h_39 => ?_) (fun h_39 => ?_)
      · refine go_bipush (v := 11) (pc := 47) dX8_readSum_47 (by decide) ?_
        refine go_V1V (pc := 49) v_X8_149 rfl rfl (rcv_of (ci := 8) (by first | exact mo0 hM_q | exact mo2 hM_q) rfl) dX8_readSum_49 (sp_laysStep (k := k - 1) hM_q hS_q hW hw_q (by omega)) (fun σ n h_q => ?_)
        obtain ⟨rfl, hR2⟩ := h_q
        have hR_q := RfP.tr (F := F) (A := A) (z0 := z0) hF3 hA3 hA23 hf3 hR2
        have hR_q : RfP Γ z0 r_q N w d_q F K A Nm (emitP (if kd s9.l = 43 then 10 else 11) (pP N w 7 d_q (nextP s9))) σ := by
          first
            | (have g_q : ¬ kd s9.l = 43 := h_39
               rw [if_neg g_q]
               exact hR_q)
            | (have g_q : kd s9.l = 43 := h_39
               rw [if_pos g_q]
               exact hR_q)
        refine go_goto (tgt := 4) (pc := 52) dX8_readSum_52 (by decide) ?_
        exact ih0 _ _ _ _ (by rw [n7]; omega) ⟨_, _, rfl, hR_q, (by rw [← hE, pP_6 (s := s9), if_pos g10]), (by rw [n7]; omega), (by omega), rfl, rfl⟩
      · refine go_bipush (v := 10) (pc := 42) dX8_readSum_42 (by decide) ?_
        refine go_goto (tgt := 49) (pc := 44) dX8_readSum_44 (by decide) ?_
        refine go_V1V (pc := 49) v_X8_149 rfl rfl (rcv_of (ci := 8) (by first | exact mo0 hM_q | exact mo2 hM_q) rfl) dX8_readSum_49 (sp_laysStep (k := k - 1) hM_q hS_q hW hw_q (by omega)) (fun σ n h_q => ?_)
        obtain ⟨rfl, hR2⟩ := h_q
        have hR_q := RfP.tr (F := F) (A := A) (z0 := z0) hF3 hA3 hA23 hf3 hR2
        have hR_q : RfP Γ z0 r_q N w d_q F K A Nm (emitP (if kd s9.l = 43 then 10 else 11) (pP N w 7 d_q (nextP s9))) σ := by
          first
            | (have g_q : ¬ kd s9.l = 43 := h_39
               rw [if_neg g_q]
               exact hR_q)
            | (have g_q : kd s9.l = 43 := h_39
               rw [if_pos g_q]
               exact hR_q)
        refine go_goto (tgt := 4) (pc := 52) dX8_readSum_52 (by decide) ?_
        exact ih0 _ _ _ _ (by rw [n7]; omega) ⟨_, _, rfl, hR_q, (by rw [← hE, pP_6 (s := s9), if_pos g10]), (by rw [n7]; omega), (by omega), rfl, rfl⟩
