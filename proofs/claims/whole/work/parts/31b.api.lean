/-! ===== the reference: deeds, told and drawn ===== -/
theorem sp_refuses {Γ : gam} {z0 : sto} {n k r : Nat} {F K : row} {A : Nat → row} {Nm : Nat → Int64} (hM_q : MoAt Γ z0 r F K A Nm) (hk : 1 ≤ k) {d : Nat} (hd_q : K 7 = nI d) (hd1_q : d ≤ 10) (x : Int32) : Sp Γ (rmk k 0 0) uX8_refuses [.ref r, .int x] z0 n (qI fun v σ' n' => v = -x ∧ moJ Γ r (upd F 4 0) (if x = 0 then keepK K else K) A Nm z0 n [] σ' n') := by
  have hA_q : eqx [] A A := eqx.rf
  have hf_q : fr r (r + 16) z0 z0 := fr.rf
  refine sp_intro [some (.ref r), some (.int x)] (by decide +kernel) rfl (Nat.le_of_ble_eq_true rfl) rfl ?_
  refine go_aload_n (pc := 0) dX8_refuses_0 rfl ?_
  refine go_iconst (v := 0) (pc := 1) dX8_refuses_1 (by decide) ?_
  refine go_mpf4 (pc := 2) hM_q dX8_refuses_2 (fun σ hM_q hf9 => ?_)
  have hf_q := hf_q.tr hf9
  refine go_iload_n (pc := 5) dX8_refuses_5 rfl ?_
  refine go_if_ne (tgt := 13) (pc := 6) dX8_refuses_6 (by decide) (fun h_6 => ?_) (fun h_6 => ?_)
  · refine go_iload_n (pc := 13) dX8_refuses_13 rfl ?_
    refine go_ineg (pc := 14) dX8_refuses_14 ?_
    exact go_iretI (pc := 15) rfl dX8_refuses_15 (Nat.le_of_ble_eq_true rfl) (Nat.le_of_ble_eq_true rfl) ⟨rfl, rfl, _, (by first | (rw [if_neg h_6]; exact hM_q) | (rw [if_pos h_6]; exact hM_q)), hA_q, hf_q⟩
  · refine go_aload_n (pc := 9) dX8_refuses_9 rfl ?_
    refine go_V0V (pc := 10) v_X8_321 rfl rfl (rcv_of (ci := 8) (by first | exact mo0 hM_q | exact mo1 hM_q | exact mo6 hM_q | exact mo7 hM_q | exact mo8 hM_q | exact mo2 hM_q | exact mo3 hM_q | exact mo4 hM_q | exact mo5 hM_q | exact mo9 hM_q | exact mo10 hM_q | exact mo11 hM_q | exact mo12 hM_q | exact mo13 hM_q | exact mo14 hM_q | exact mo15 hM_q | exact mo16 hM_q) rfl) dX8_refuses_10 (sp_keeps (k := k - 1) hM_q hd_q hd1_q) (fun σ n h => ?_)
    obtain ⟨rfl, A1, hM_q, hA1, hf1⟩ := h
    have hA_q := eqx.tr (L := []) (by repeat (first | assumption | exact eqx.rf | refine eqx.up ?_ (by decide))) (hA1.wk (by decide))
    have hf_q := hf_q.tr hf1
    refine go_iload_n (pc := 13) dX8_refuses_13 rfl ?_
    refine go_ineg (pc := 14) dX8_refuses_14 ?_
    exact go_iretI (pc := 15) rfl dX8_refuses_15 (Nat.le_of_ble_eq_true rfl) (Nat.le_of_ble_eq_true rfl) ⟨rfl, rfl, _, (by first | (rw [if_neg h_6]; exact hM_q) | (rw [if_pos h_6]; exact hM_q)), hA_q, hf_q⟩
theorem sp_rise {Γ : gam} {z0 : sto} {n k r : Nat} {F K : row} {A : Nat → row} {Nm : Nat → Int64} (hM_q : MoAt Γ z0 r F K A Nm) (hk : 12 ≤ k) (hG0 : GD K) (p : Int32) : Sp Γ (rmk k 0 0) uX8_rise [.ref r, .int p] z0 n (qI fun v σ' n' => v = (aRise K p.toInt).1 ∧ apJ Γ r F (aRise K p.toInt).2 A Nm z0 n 0 σ' n') := by
  obtain ⟨hB_q, hv_q, d, hd1_q, hd_q⟩ := id hG0
  have hP8 := hB_q.1.2.1
  have hH5 := hB_q.1.2.2.2.1
  have hW4 := hB_q.1.2.2.2.2.2
  have hA_q : eqx [6, 7, 8, 9, 10, 11, 12, 13] A A := eqx.rf
  have hf_q : fr r (r + 16) z0 z0 := fr.rf
  refine sp_intro [some (.ref r), some (.int p), none] (by decide +kernel) rfl (Nat.le_of_ble_eq_true rfl) rfl ?_
  have hU := hG0.U
  have hBk := hG0.keep.1
  have hvk := hG0.keep.2.1
  have ePk := hU.P
  rcases whyR_c (K := K) (z := p.toInt) with h0 | h0 | h0 | h0
  · obtain ⟨j1_q, hz_q, e2, e4⟩ := whyR_0 h0
    have hz1 := pN_some hz_q
    have e1 := hz1.1
    obtain rfl := I_nat e1 (by omega)
    refine go_aload_n (pc := 0) dX8_rise_0 rfl ?_
    refine go_aload_n (pc := 1) dX8_rise_1 rfl ?_
    refine go_iload_n (pc := 2) dX8_rise_2 rfl ?_
    refine go_i2l (pc := 3) dX8_rise_3 ?_
    refine go_V1P (pc := 4) v_X8_324 rfl rfl (rcv_of (ci := 8) (by first | exact mo0 hM_q | exact mo1 hM_q | exact mo6 hM_q | exact mo7 hM_q | exact mo8 hM_q | exact mo2 hM_q | exact mo3 hM_q | exact mo4 hM_q | exact mo5 hM_q | exact mo9 hM_q | exact mo10 hM_q | exact mo11 hM_q | exact mo12 hM_q | exact mo13 hM_q | exact mo14 hM_q | exact mo15 hM_q | exact mo16 hM_q) rfl) dX8_rise_4 (sp_whyRise (k := k - 1) hM_q (by omega) hB_q _) ?_
    rw [Int32.toInt_toInt64, h0]
    refine go_V1I (pc := 7) v_X8_327 rfl rfl (rcv_of (ci := 8) (by first | exact mo0 hM_q | exact mo1 hM_q | exact mo6 hM_q | exact mo7 hM_q | exact mo8 hM_q | exact mo2 hM_q | exact mo3 hM_q | exact mo4 hM_q | exact mo5 hM_q | exact mo9 hM_q | exact mo10 hM_q | exact mo11 hM_q | exact mo12 hM_q | exact mo13 hM_q | exact mo14 hM_q | exact mo15 hM_q | exact mo16 hM_q) rfl) dX8_rise_7 (sp_refuses (k := k - 1) hM_q (by omega) hd_q hd1_q _) (fun v_7 σ n h => ?_)
    obtain ⟨rfl, rfl, A1, hM_q, hA1, hf1⟩ := h
    have hA_q := eqx.tr (L := [6, 7, 8, 9, 10, 11, 12, 13]) (by repeat (first | assumption | exact eqx.rf | refine eqx.up ?_ (by decide))) (hA1.wk (by decide))
    have hf_q := hf_q.tr hf1
    rw [if_pos rfl] at hM_q
    refine go_istore_n (lw := [_, _, _]) (pc := 10) dX8_rise_10 (by decide) rfl ?_
    refine go_iload_n (pc := 11) dX8_rise_11 rfl ?_
    refine go_if_ge (tgt := 19) (pc := 12) dX8_rise_12 (by decide) (fun h_12 => ?_) (fun h_12 => by exfalso; exact h_12 (by decide))
    refine go_aload_n (pc := 19) dX8_rise_19 rfl ?_
    refine go_iload_n (pc := 20) dX8_rise_20 rfl ?_
    refine go_iconst (v := -1) (pc := 21) dX8_rise_21 (by decide) ?_
    refine go_V2I (pc := 22) v_X8_302 rfl rfl (rcv_of (ci := 8) (by first | exact mo0 hM_q | exact mo1 hM_q | exact mo6 hM_q | exact mo7 hM_q | exact mo8 hM_q | exact mo2 hM_q | exact mo3 hM_q | exact mo4 hM_q | exact mo5 hM_q | exact mo9 hM_q | exact mo10 hM_q | exact mo11 hM_q | exact mo12 hM_q | exact mo13 hM_q | exact mo14 hM_q | exact mo15 hM_q | exact mo16 hM_q) rfl) dX8_rise_22 (sp_rises (k := k - 1) hM_q (by omega) hBk hvk (by omega) (by rw [hU _ (by omega)]; exact e2) _) (fun v_22 σ n h => ?_)
    obtain ⟨rfl, rfl, A1, hM_q, hA1, hf1⟩ := h
    have hA_q := eqx.tr (L := [6, 7, 8, 9, 10, 11, 12, 13]) (by repeat (first | assumption | exact eqx.rf | refine eqx.up ?_ (by decide))) (hA1.wk (by decide))
    have hf_q := hf_q.tr hf1
    exact go_iretI (pc := 25) rfl dX8_rise_25 (Nat.le_of_ble_eq_true rfl) (Nat.le_of_ble_eq_true rfl) ⟨(by rw [aRise, if_pos h0, e1]; rfl), rfl, _, _, (by rw [aRise, if_pos h0, e1]; exact hM_q), ⟨rfl, fun j h1 h2 h3 => by simp [upd, h1, h2, h3]⟩, (by repeat (first | assumption | exact eqx.rf | refine eqx.up ?_ (by decide))), hf_q⟩
  · refine go_aload_n (pc := 0) dX8_rise_0 rfl ?_
    refine go_aload_n (pc := 1) dX8_rise_1 rfl ?_
    refine go_iload_n (pc := 2) dX8_rise_2 rfl ?_
    refine go_i2l (pc := 3) dX8_rise_3 ?_
    refine go_V1P (pc := 4) v_X8_324 rfl rfl (rcv_of (ci := 8) (by first | exact mo0 hM_q | exact mo1 hM_q | exact mo6 hM_q | exact mo7 hM_q | exact mo8 hM_q | exact mo2 hM_q | exact mo3 hM_q | exact mo4 hM_q | exact mo5 hM_q | exact mo9 hM_q | exact mo10 hM_q | exact mo11 hM_q | exact mo12 hM_q | exact mo13 hM_q | exact mo14 hM_q | exact mo15 hM_q | exact mo16 hM_q) rfl) dX8_rise_4 (sp_whyRise (k := k - 1) hM_q (by omega) hB_q _) ?_
    rw [Int32.toInt_toInt64, h0]
    refine go_V1I (pc := 7) v_X8_327 rfl rfl (rcv_of (ci := 8) (by first | exact mo0 hM_q | exact mo1 hM_q | exact mo6 hM_q | exact mo7 hM_q | exact mo8 hM_q | exact mo2 hM_q | exact mo3 hM_q | exact mo4 hM_q | exact mo5 hM_q | exact mo9 hM_q | exact mo10 hM_q | exact mo11 hM_q | exact mo12 hM_q | exact mo13 hM_q | exact mo14 hM_q | exact mo15 hM_q | exact mo16 hM_q) rfl) dX8_rise_7 (sp_refuses (k := k - 1) hM_q (by omega) hd_q hd1_q _) (fun v_7 σ n h => ?_)
    obtain ⟨rfl, rfl, A1, hM_q, hA1, hf1⟩ := h
    have hA_q := eqx.tr (L := [6, 7, 8, 9, 10, 11, 12, 13]) (by repeat (first | assumption | exact eqx.rf | refine eqx.up ?_ (by decide))) (hA1.wk (by decide))
    have hf_q := hf_q.tr hf1
    rw [if_neg (by decide)] at hM_q
    refine go_istore_n (lw := [_, _, _]) (pc := 10) dX8_rise_10 (by decide) rfl ?_
    refine go_iload_n (pc := 11) dX8_rise_11 rfl ?_
    refine go_if_ge (tgt := 19) (pc := 12) dX8_rise_12 (by decide) (fun h_12 => by exfalso; exact absurd h_12 (by decide)) (fun h_12 => ?_)
    refine go_iload_n (pc := 15) dX8_rise_15 rfl ?_
    refine go_goto (tgt := 25) (pc := 16) dX8_rise_16 (by decide) ?_
    exact go_iretI (pc := 25) rfl dX8_rise_25 (Nat.le_of_ble_eq_true rfl) (Nat.le_of_ble_eq_true rfl) ⟨(by rw [aRise, h0, if_neg (by decide)]), rfl, _, _, (by rw [aRise, h0, if_neg (by decide)]; exact hM_q), ⟨rfl, fun j h1 h2 h3 => by simp [upd, h1, h2, h3]⟩, (by repeat (first | assumption | exact eqx.rf | refine eqx.up ?_ (by decide))), hf_q⟩
  · refine go_aload_n (pc := 0) dX8_rise_0 rfl ?_
    refine go_aload_n (pc := 1) dX8_rise_1 rfl ?_
    refine go_iload_n (pc := 2) dX8_rise_2 rfl ?_
    refine go_i2l (pc := 3) dX8_rise_3 ?_
    refine go_V1P (pc := 4) v_X8_324 rfl rfl (rcv_of (ci := 8) (by first | exact mo0 hM_q | exact mo1 hM_q | exact mo6 hM_q | exact mo7 hM_q | exact mo8 hM_q | exact mo2 hM_q | exact mo3 hM_q | exact mo4 hM_q | exact mo5 hM_q | exact mo9 hM_q | exact mo10 hM_q | exact mo11 hM_q | exact mo12 hM_q | exact mo13 hM_q | exact mo14 hM_q | exact mo15 hM_q | exact mo16 hM_q) rfl) dX8_rise_4 (sp_whyRise (k := k - 1) hM_q (by omega) hB_q _) ?_
    rw [Int32.toInt_toInt64, h0]
    refine go_V1I (pc := 7) v_X8_327 rfl rfl (rcv_of (ci := 8) (by first | exact mo0 hM_q | exact mo1 hM_q | exact mo6 hM_q | exact mo7 hM_q | exact mo8 hM_q | exact mo2 hM_q | exact mo3 hM_q | exact mo4 hM_q | exact mo5 hM_q | exact mo9 hM_q | exact mo10 hM_q | exact mo11 hM_q | exact mo12 hM_q | exact mo13 hM_q | exact mo14 hM_q | exact mo15 hM_q | exact mo16 hM_q) rfl) dX8_rise_7 (sp_refuses (k := k - 1) hM_q (by omega) hd_q hd1_q _) (fun v_7 σ n h => ?_)
    obtain ⟨rfl, rfl, A1, hM_q, hA1, hf1⟩ := h
    have hA_q := eqx.tr (L := [6, 7, 8, 9, 10, 11, 12, 13]) (by repeat (first | assumption | exact eqx.rf | refine eqx.up ?_ (by decide))) (hA1.wk (by decide))
    have hf_q := hf_q.tr hf1
    rw [if_neg (by decide)] at hM_q
    refine go_istore_n (lw := [_, _, _]) (pc := 10) dX8_rise_10 (by decide) rfl ?_
    refine go_iload_n (pc := 11) dX8_rise_11 rfl ?_
    refine go_if_ge (tgt := 19) (pc := 12) dX8_rise_12 (by decide) (fun h_12 => by exfalso; exact absurd h_12 (by decide)) (fun h_12 => ?_)
    refine go_iload_n (pc := 15) dX8_rise_15 rfl ?_
    refine go_goto (tgt := 25) (pc := 16) dX8_rise_16 (by decide) ?_
    exact go_iretI (pc := 25) rfl dX8_rise_25 (Nat.le_of_ble_eq_true rfl) (Nat.le_of_ble_eq_true rfl) ⟨(by rw [aRise, h0, if_neg (by decide)]), rfl, _, _, (by rw [aRise, h0, if_neg (by decide)]; exact hM_q), ⟨rfl, fun j h1 h2 h3 => by simp [upd, h1, h2, h3]⟩, (by repeat (first | assumption | exact eqx.rf | refine eqx.up ?_ (by decide))), hf_q⟩
  · refine go_aload_n (pc := 0) dX8_rise_0 rfl ?_
    refine go_aload_n (pc := 1) dX8_rise_1 rfl ?_
    refine go_iload_n (pc := 2) dX8_rise_2 rfl ?_
    refine go_i2l (pc := 3) dX8_rise_3 ?_
    refine go_V1P (pc := 4) v_X8_324 rfl rfl (rcv_of (ci := 8) (by first | exact mo0 hM_q | exact mo1 hM_q | exact mo6 hM_q | exact mo7 hM_q | exact mo8 hM_q | exact mo2 hM_q | exact mo3 hM_q | exact mo4 hM_q | exact mo5 hM_q | exact mo9 hM_q | exact mo10 hM_q | exact mo11 hM_q | exact mo12 hM_q | exact mo13 hM_q | exact mo14 hM_q | exact mo15 hM_q | exact mo16 hM_q) rfl) dX8_rise_4 (sp_whyRise (k := k - 1) hM_q (by omega) hB_q _) ?_
    rw [Int32.toInt_toInt64, h0]
    refine go_V1I (pc := 7) v_X8_327 rfl rfl (rcv_of (ci := 8) (by first | exact mo0 hM_q | exact mo1 hM_q | exact mo6 hM_q | exact mo7 hM_q | exact mo8 hM_q | exact mo2 hM_q | exact mo3 hM_q | exact mo4 hM_q | exact mo5 hM_q | exact mo9 hM_q | exact mo10 hM_q | exact mo11 hM_q | exact mo12 hM_q | exact mo13 hM_q | exact mo14 hM_q | exact mo15 hM_q | exact mo16 hM_q) rfl) dX8_rise_7 (sp_refuses (k := k - 1) hM_q (by omega) hd_q hd1_q _) (fun v_7 σ n h => ?_)
    obtain ⟨rfl, rfl, A1, hM_q, hA1, hf1⟩ := h
    have hA_q := eqx.tr (L := [6, 7, 8, 9, 10, 11, 12, 13]) (by repeat (first | assumption | exact eqx.rf | refine eqx.up ?_ (by decide))) (hA1.wk (by decide))
    have hf_q := hf_q.tr hf1
    rw [if_neg (by decide)] at hM_q
    refine go_istore_n (lw := [_, _, _]) (pc := 10) dX8_rise_10 (by decide) rfl ?_
    refine go_iload_n (pc := 11) dX8_rise_11 rfl ?_
    refine go_if_ge (tgt := 19) (pc := 12) dX8_rise_12 (by decide) (fun h_12 => by exfalso; exact absurd h_12 (by decide)) (fun h_12 => ?_)
    refine go_iload_n (pc := 15) dX8_rise_15 rfl ?_
    refine go_goto (tgt := 25) (pc := 16) dX8_rise_16 (by decide) ?_
    exact go_iretI (pc := 25) rfl dX8_rise_25 (Nat.le_of_ble_eq_true rfl) (Nat.le_of_ble_eq_true rfl) ⟨(by rw [aRise, h0, if_neg (by decide)]), rfl, _, _, (by rw [aRise, h0, if_neg (by decide)]; exact hM_q), ⟨rfl, fun j h1 h2 h3 => by simp [upd, h1, h2, h3]⟩, (by repeat (first | assumption | exact eqx.rf | refine eqx.up ?_ (by decide))), hf_q⟩
theorem sp_sit {Γ : gam} {z0 : sto} {n k r : Nat} {F K : row} {A : Nat → row} {Nm : Nat → Int64} (hM_q : MoAt Γ z0 r F K A Nm) (hk : 12 ≤ k) (hG0 : GD K) (p c : Int32) : Sp Γ (rmk k 0 0) uX8_sit [.ref r, .int p, .int c] z0 n (qI fun v σ' n' => v = (aSit K p.toInt c.toInt).1 ∧ apJ Γ r F (aSit K p.toInt c.toInt).2 A Nm z0 n 0 σ' n') := by
  obtain ⟨hB_q, hv_q, d, hd1_q, hd_q⟩ := id hG0
  have hP8 := hB_q.1.2.1
  have hH5 := hB_q.1.2.2.2.1
  have hW4 := hB_q.1.2.2.2.2.2
  have hA_q : eqx [6, 7, 8, 9, 10, 11, 12, 13] A A := eqx.rf
  have hf_q : fr r (r + 16) z0 z0 := fr.rf
  refine sp_intro [some (.ref r), some (.int p), some (.int c), none] (by decide +kernel) rfl (Nat.le_of_ble_eq_true rfl) rfl ?_
  have hU := hG0.U
  have hBk := hG0.keep.1
  have hvk := hG0.keep.2.1
  have ePk := hU.P
  rcases whyS_c (K := K) (z := p.toInt) (c := c.toInt) with h0 | h0 | h0 | h0
  · obtain ⟨j1_q, x1_q, hz_q, hc_q, e2, e4⟩ := whyS_0 h0
    have hz1 := pN_some hz_q
    have hc1 := pN_some hc_q
    have e1 := hz1.1
    have e3 := hc1.1
    obtain rfl := I_nat e1 (by omega)
    obtain rfl := I_nat e3 (by omega)
    refine go_aload_n (pc := 0) dX8_sit_0 rfl ?_
    refine go_aload_n (pc := 1) dX8_sit_1 rfl ?_
    refine go_iload_n (pc := 2) dX8_sit_2 rfl ?_
    refine go_i2l (pc := 3) dX8_sit_3 ?_
    refine go_iload_n (pc := 4) dX8_sit_4 rfl ?_
    refine go_i2l (pc := 5) dX8_sit_5 ?_
    refine go_V2P (pc := 6) v_X8_330 rfl rfl (rcv_of (ci := 8) (by first | exact mo0 hM_q | exact mo1 hM_q | exact mo6 hM_q | exact mo7 hM_q | exact mo8 hM_q | exact mo2 hM_q | exact mo3 hM_q | exact mo4 hM_q | exact mo5 hM_q | exact mo9 hM_q | exact mo10 hM_q | exact mo11 hM_q | exact mo12 hM_q | exact mo13 hM_q | exact mo14 hM_q | exact mo15 hM_q | exact mo16 hM_q) rfl) dX8_sit_6 (sp_whySit (k := k - 1) hM_q (by omega) hB_q _ _) ?_
    rw [Int32.toInt_toInt64, Int32.toInt_toInt64, h0]
    refine go_V1I (pc := 9) v_X8_327 rfl rfl (rcv_of (ci := 8) (by first | exact mo0 hM_q | exact mo1 hM_q | exact mo6 hM_q | exact mo7 hM_q | exact mo8 hM_q | exact mo2 hM_q | exact mo3 hM_q | exact mo4 hM_q | exact mo5 hM_q | exact mo9 hM_q | exact mo10 hM_q | exact mo11 hM_q | exact mo12 hM_q | exact mo13 hM_q | exact mo14 hM_q | exact mo15 hM_q | exact mo16 hM_q) rfl) dX8_sit_9 (sp_refuses (k := k - 1) hM_q (by omega) hd_q hd1_q _) (fun v_9 σ n h => ?_)
    obtain ⟨rfl, rfl, A1, hM_q, hA1, hf1⟩ := h
    have hA_q := eqx.tr (L := [6, 7, 8, 9, 10, 11, 12, 13]) (by repeat (first | assumption | exact eqx.rf | refine eqx.up ?_ (by decide))) (hA1.wk (by decide))
    have hf_q := hf_q.tr hf1
    rw [if_pos rfl] at hM_q
    refine go_istore_n (lw := [_, _, _, _]) (pc := 12) dX8_sit_12 (by decide) rfl ?_
    refine go_iload_n (pc := 13) dX8_sit_13 rfl ?_
    refine go_if_ge (tgt := 21) (pc := 14) dX8_sit_14 (by decide) (fun h_14 => ?_) (fun h_14 => by exfalso; exact h_14 (by decide))
    refine go_aload_n (pc := 21) dX8_sit_21 rfl ?_
    refine go_iload_n (pc := 22) dX8_sit_22 rfl ?_
    refine go_iload_n (pc := 23) dX8_sit_23 rfl ?_
    refine go_V2I (pc := 24) v_X8_299 rfl rfl (rcv_of (ci := 8) (by first | exact mo0 hM_q | exact mo1 hM_q | exact mo6 hM_q | exact mo7 hM_q | exact mo8 hM_q | exact mo2 hM_q | exact mo3 hM_q | exact mo4 hM_q | exact mo5 hM_q | exact mo9 hM_q | exact mo10 hM_q | exact mo11 hM_q | exact mo12 hM_q | exact mo13 hM_q | exact mo14 hM_q | exact mo15 hM_q | exact mo16 hM_q) rfl) dX8_sit_24 (sp_sitsDown (k := k - 1) hM_q (by omega) hBk _ (by omega)) (fun v_24 σ n h => ?_)
    obtain ⟨rfl, rfl, A1, hM_q, hA1, hf1⟩ := h
    have hA_q := eqx.tr (L := [6, 7, 8, 9, 10, 11, 12, 13]) (by repeat (first | assumption | exact eqx.rf | refine eqx.up ?_ (by decide))) (hA1.wk (by decide))
    have hf_q := hf_q.tr hf1
    exact go_iretI (pc := 27) rfl dX8_sit_27 (Nat.le_of_ble_eq_true rfl) (Nat.le_of_ble_eq_true rfl) ⟨(by rw [aSit, if_pos h0, e1, e3]; rfl), rfl, _, _, (by rw [aSit, if_pos h0, e1, e3]; exact hM_q), ⟨rfl, fun j h1 h2 h3 => by simp [upd, h1, h2, h3]⟩, (by repeat (first | assumption | exact eqx.rf | refine eqx.up ?_ (by decide))), hf_q⟩
  · refine go_aload_n (pc := 0) dX8_sit_0 rfl ?_
    refine go_aload_n (pc := 1) dX8_sit_1 rfl ?_
    refine go_iload_n (pc := 2) dX8_sit_2 rfl ?_
    refine go_i2l (pc := 3) dX8_sit_3 ?_
    refine go_iload_n (pc := 4) dX8_sit_4 rfl ?_
    refine go_i2l (pc := 5) dX8_sit_5 ?_
    refine go_V2P (pc := 6) v_X8_330 rfl rfl (rcv_of (ci := 8) (by first | exact mo0 hM_q | exact mo1 hM_q | exact mo6 hM_q | exact mo7 hM_q | exact mo8 hM_q | exact mo2 hM_q | exact mo3 hM_q | exact mo4 hM_q | exact mo5 hM_q | exact mo9 hM_q | exact mo10 hM_q | exact mo11 hM_q | exact mo12 hM_q | exact mo13 hM_q | exact mo14 hM_q | exact mo15 hM_q | exact mo16 hM_q) rfl) dX8_sit_6 (sp_whySit (k := k - 1) hM_q (by omega) hB_q _ _) ?_
    rw [Int32.toInt_toInt64, Int32.toInt_toInt64, h0]
    refine go_V1I (pc := 9) v_X8_327 rfl rfl (rcv_of (ci := 8) (by first | exact mo0 hM_q | exact mo1 hM_q | exact mo6 hM_q | exact mo7 hM_q | exact mo8 hM_q | exact mo2 hM_q | exact mo3 hM_q | exact mo4 hM_q | exact mo5 hM_q | exact mo9 hM_q | exact mo10 hM_q | exact mo11 hM_q | exact mo12 hM_q | exact mo13 hM_q | exact mo14 hM_q | exact mo15 hM_q | exact mo16 hM_q) rfl) dX8_sit_9 (sp_refuses (k := k - 1) hM_q (by omega) hd_q hd1_q _) (fun v_9 σ n h => ?_)
    obtain ⟨rfl, rfl, A1, hM_q, hA1, hf1⟩ := h
    have hA_q := eqx.tr (L := [6, 7, 8, 9, 10, 11, 12, 13]) (by repeat (first | assumption | exact eqx.rf | refine eqx.up ?_ (by decide))) (hA1.wk (by decide))
    have hf_q := hf_q.tr hf1
    rw [if_neg (by decide)] at hM_q
    refine go_istore_n (lw := [_, _, _, _]) (pc := 12) dX8_sit_12 (by decide) rfl ?_
    refine go_iload_n (pc := 13) dX8_sit_13 rfl ?_
    refine go_if_ge (tgt := 21) (pc := 14) dX8_sit_14 (by decide) (fun h_14 => by exfalso; exact absurd h_14 (by decide)) (fun h_14 => ?_)
    refine go_iload_n (pc := 17) dX8_sit_17 rfl ?_
    refine go_goto (tgt := 27) (pc := 18) dX8_sit_18 (by decide) ?_
    exact go_iretI (pc := 27) rfl dX8_sit_27 (Nat.le_of_ble_eq_true rfl) (Nat.le_of_ble_eq_true rfl) ⟨(by rw [aSit, h0, if_neg (by decide)]), rfl, _, _, (by rw [aSit, h0, if_neg (by decide)]; exact hM_q), ⟨rfl, fun j h1 h2 h3 => by simp [upd, h1, h2, h3]⟩, (by repeat (first | assumption | exact eqx.rf | refine eqx.up ?_ (by decide))), hf_q⟩
  · refine go_aload_n (pc := 0) dX8_sit_0 rfl ?_
    refine go_aload_n (pc := 1) dX8_sit_1 rfl ?_
    refine go_iload_n (pc := 2) dX8_sit_2 rfl ?_
    refine go_i2l (pc := 3) dX8_sit_3 ?_
    refine go_iload_n (pc := 4) dX8_sit_4 rfl ?_
    refine go_i2l (pc := 5) dX8_sit_5 ?_
    refine go_V2P (pc := 6) v_X8_330 rfl rfl (rcv_of (ci := 8) (by first | exact mo0 hM_q | exact mo1 hM_q | exact mo6 hM_q | exact mo7 hM_q | exact mo8 hM_q | exact mo2 hM_q | exact mo3 hM_q | exact mo4 hM_q | exact mo5 hM_q | exact mo9 hM_q | exact mo10 hM_q | exact mo11 hM_q | exact mo12 hM_q | exact mo13 hM_q | exact mo14 hM_q | exact mo15 hM_q | exact mo16 hM_q) rfl) dX8_sit_6 (sp_whySit (k := k - 1) hM_q (by omega) hB_q _ _) ?_
    rw [Int32.toInt_toInt64, Int32.toInt_toInt64, h0]
    refine go_V1I (pc := 9) v_X8_327 rfl rfl (rcv_of (ci := 8) (by first | exact mo0 hM_q | exact mo1 hM_q | exact mo6 hM_q | exact mo7 hM_q | exact mo8 hM_q | exact mo2 hM_q | exact mo3 hM_q | exact mo4 hM_q | exact mo5 hM_q | exact mo9 hM_q | exact mo10 hM_q | exact mo11 hM_q | exact mo12 hM_q | exact mo13 hM_q | exact mo14 hM_q | exact mo15 hM_q | exact mo16 hM_q) rfl) dX8_sit_9 (sp_refuses (k := k - 1) hM_q (by omega) hd_q hd1_q _) (fun v_9 σ n h => ?_)
    obtain ⟨rfl, rfl, A1, hM_q, hA1, hf1⟩ := h
    have hA_q := eqx.tr (L := [6, 7, 8, 9, 10, 11, 12, 13]) (by repeat (first | assumption | exact eqx.rf | refine eqx.up ?_ (by decide))) (hA1.wk (by decide))
    have hf_q := hf_q.tr hf1
    rw [if_neg (by decide)] at hM_q
    refine go_istore_n (lw := [_, _, _, _]) (pc := 12) dX8_sit_12 (by decide) rfl ?_
    refine go_iload_n (pc := 13) dX8_sit_13 rfl ?_
    refine go_if_ge (tgt := 21) (pc := 14) dX8_sit_14 (by decide) (fun h_14 => by exfalso; exact absurd h_14 (by decide)) (fun h_14 => ?_)
    refine go_iload_n (pc := 17) dX8_sit_17 rfl ?_
    refine go_goto (tgt := 27) (pc := 18) dX8_sit_18 (by decide) ?_
    exact go_iretI (pc := 27) rfl dX8_sit_27 (Nat.le_of_ble_eq_true rfl) (Nat.le_of_ble_eq_true rfl) ⟨(by rw [aSit, h0, if_neg (by decide)]), rfl, _, _, (by rw [aSit, h0, if_neg (by decide)]; exact hM_q), ⟨rfl, fun j h1 h2 h3 => by simp [upd, h1, h2, h3]⟩, (by repeat (first | assumption | exact eqx.rf | refine eqx.up ?_ (by decide))), hf_q⟩
  · refine go_aload_n (pc := 0) dX8_sit_0 rfl ?_
    refine go_aload_n (pc := 1) dX8_sit_1 rfl ?_
    refine go_iload_n (pc := 2) dX8_sit_2 rfl ?_
    refine go_i2l (pc := 3) dX8_sit_3 ?_
    refine go_iload_n (pc := 4) dX8_sit_4 rfl ?_
    refine go_i2l (pc := 5) dX8_sit_5 ?_
    refine go_V2P (pc := 6) v_X8_330 rfl rfl (rcv_of (ci := 8) (by first | exact mo0 hM_q | exact mo1 hM_q | exact mo6 hM_q | exact mo7 hM_q | exact mo8 hM_q | exact mo2 hM_q | exact mo3 hM_q | exact mo4 hM_q | exact mo5 hM_q | exact mo9 hM_q | exact mo10 hM_q | exact mo11 hM_q | exact mo12 hM_q | exact mo13 hM_q | exact mo14 hM_q | exact mo15 hM_q | exact mo16 hM_q) rfl) dX8_sit_6 (sp_whySit (k := k - 1) hM_q (by omega) hB_q _ _) ?_
    rw [Int32.toInt_toInt64, Int32.toInt_toInt64, h0]
    refine go_V1I (pc := 9) v_X8_327 rfl rfl (rcv_of (ci := 8) (by first | exact mo0 hM_q | exact mo1 hM_q | exact mo6 hM_q | exact mo7 hM_q | exact mo8 hM_q | exact mo2 hM_q | exact mo3 hM_q | exact mo4 hM_q | exact mo5 hM_q | exact mo9 hM_q | exact mo10 hM_q | exact mo11 hM_q | exact mo12 hM_q | exact mo13 hM_q | exact mo14 hM_q | exact mo15 hM_q | exact mo16 hM_q) rfl) dX8_sit_9 (sp_refuses (k := k - 1) hM_q (by omega) hd_q hd1_q _) (fun v_9 σ n h => ?_)
    obtain ⟨rfl, rfl, A1, hM_q, hA1, hf1⟩ := h
    have hA_q := eqx.tr (L := [6, 7, 8, 9, 10, 11, 12, 13]) (by repeat (first | assumption | exact eqx.rf | refine eqx.up ?_ (by decide))) (hA1.wk (by decide))
    have hf_q := hf_q.tr hf1
    rw [if_neg (by decide)] at hM_q
    refine go_istore_n (lw := [_, _, _, _]) (pc := 12) dX8_sit_12 (by decide) rfl ?_
    refine go_iload_n (pc := 13) dX8_sit_13 rfl ?_
    refine go_if_ge (tgt := 21) (pc := 14) dX8_sit_14 (by decide) (fun h_14 => by exfalso; exact absurd h_14 (by decide)) (fun h_14 => ?_)
    refine go_iload_n (pc := 17) dX8_sit_17 rfl ?_
    refine go_goto (tgt := 27) (pc := 18) dX8_sit_18 (by decide) ?_
    exact go_iretI (pc := 27) rfl dX8_sit_27 (Nat.le_of_ble_eq_true rfl) (Nat.le_of_ble_eq_true rfl) ⟨(by rw [aSit, h0, if_neg (by decide)]), rfl, _, _, (by rw [aSit, h0, if_neg (by decide)]; exact hM_q), ⟨rfl, fun j h1 h2 h3 => by simp [upd, h1, h2, h3]⟩, (by repeat (first | assumption | exact eqx.rf | refine eqx.up ?_ (by decide))), hf_q⟩
theorem sp_swap {Γ : gam} {z0 : sto} {n k r : Nat} {F K : row} {A : Nat → row} {Nm : Nat → Int64} (hM_q : MoAt Γ z0 r F K A Nm) (hk : 12 ≤ k) (hG0 : GD K) (p c : Int32) : Sp Γ (rmk k 0 0) uX8_swap [.ref r, .int p, .int c] z0 n (qI fun v σ' n' => v = (aSwap K p.toInt c.toInt).1 ∧ apJ Γ r F (aSwap K p.toInt c.toInt).2 A Nm z0 n 0 σ' n') := by
  obtain ⟨hB_q, hv_q, d, hd1_q, hd_q⟩ := id hG0
  have hP8 := hB_q.1.2.1
  have hH5 := hB_q.1.2.2.2.1
  have hW4 := hB_q.1.2.2.2.2.2
  have hA_q : eqx [6, 7, 8, 9, 10, 11, 12, 13] A A := eqx.rf
  have hf_q : fr r (r + 16) z0 z0 := fr.rf
  refine sp_intro [some (.ref r), some (.int p), some (.int c), none] (by decide +kernel) rfl (Nat.le_of_ble_eq_true rfl) rfl ?_
  have hU := hG0.U
  have hBk := hG0.keep.1
  have hvk := hG0.keep.2.1
  have ePk := hU.P
  rcases whyX_c (K := K) (z := p.toInt) (c := c.toInt) with h0 | h0 | h0 | h0
  · obtain ⟨j1_q, x1_q, hz_q, hc_q, e2, e4⟩ := whyX_0 h0
    have hz1 := pN_some hz_q
    have hc1 := pN_some hc_q
    have e1 := hz1.1
    have e3 := hc1.1
    obtain rfl := I_nat e1 (by omega)
    obtain rfl := I_nat e3 (by omega)
    refine go_aload_n (pc := 0) dX8_swap_0 rfl ?_
    refine go_aload_n (pc := 1) dX8_swap_1 rfl ?_
    refine go_iload_n (pc := 2) dX8_swap_2 rfl ?_
    refine go_i2l (pc := 3) dX8_swap_3 ?_
    refine go_iload_n (pc := 4) dX8_swap_4 rfl ?_
    refine go_i2l (pc := 5) dX8_swap_5 ?_
    refine go_V2P (pc := 6) v_X8_334 rfl rfl (rcv_of (ci := 8) (by first | exact mo0 hM_q | exact mo1 hM_q | exact mo6 hM_q | exact mo7 hM_q | exact mo8 hM_q | exact mo2 hM_q | exact mo3 hM_q | exact mo4 hM_q | exact mo5 hM_q | exact mo9 hM_q | exact mo10 hM_q | exact mo11 hM_q | exact mo12 hM_q | exact mo13 hM_q | exact mo14 hM_q | exact mo15 hM_q | exact mo16 hM_q) rfl) dX8_swap_6 (sp_whySwap (k := k - 1) hM_q (by omega) hB_q _ _) ?_
    rw [Int32.toInt_toInt64, Int32.toInt_toInt64, h0]
    refine go_V1I (pc := 9) v_X8_327 rfl rfl (rcv_of (ci := 8) (by first | exact mo0 hM_q | exact mo1 hM_q | exact mo6 hM_q | exact mo7 hM_q | exact mo8 hM_q | exact mo2 hM_q | exact mo3 hM_q | exact mo4 hM_q | exact mo5 hM_q | exact mo9 hM_q | exact mo10 hM_q | exact mo11 hM_q | exact mo12 hM_q | exact mo13 hM_q | exact mo14 hM_q | exact mo15 hM_q | exact mo16 hM_q) rfl) dX8_swap_9 (sp_refuses (k := k - 1) hM_q (by omega) hd_q hd1_q _) (fun v_9 σ n h => ?_)
    obtain ⟨rfl, rfl, A1, hM_q, hA1, hf1⟩ := h
    have hA_q := eqx.tr (L := [6, 7, 8, 9, 10, 11, 12, 13]) (by repeat (first | assumption | exact eqx.rf | refine eqx.up ?_ (by decide))) (hA1.wk (by decide))
    have hf_q := hf_q.tr hf1
    rw [if_pos rfl] at hM_q
    refine go_istore_n (lw := [_, _, _, _]) (pc := 12) dX8_swap_12 (by decide) rfl ?_
    refine go_iload_n (pc := 13) dX8_swap_13 rfl ?_
    refine go_if_ne (tgt := 23) (pc := 14) dX8_swap_14 (by decide) (fun h_14 => by exfalso; exact h_14 (by decide)) (fun h_14 => ?_)
    refine go_aload_n (pc := 17) dX8_swap_17 rfl ?_
    refine go_iload_n (pc := 18) dX8_swap_18 rfl ?_
    refine go_iload_n (pc := 19) dX8_swap_19 rfl ?_
    refine go_V2V (pc := 20) v_X8_337 rfl rfl (rcv_of (ci := 8) (by first | exact mo0 hM_q | exact mo1 hM_q | exact mo6 hM_q | exact mo7 hM_q | exact mo8 hM_q | exact mo2 hM_q | exact mo3 hM_q | exact mo4 hM_q | exact mo5 hM_q | exact mo9 hM_q | exact mo10 hM_q | exact mo11 hM_q | exact mo12 hM_q | exact mo13 hM_q | exact mo14 hM_q | exact mo15 hM_q | exact mo16 hM_q) rfl) dX8_swap_20 (sp_swaps (k := k - 1) hM_q (by omega) (by omega)) (fun σ n h => ?_)
    obtain ⟨rfl, A1, hM_q, hA1, hf1⟩ := h
    have hA_q := eqx.tr (L := [6, 7, 8, 9, 10, 11, 12, 13]) (by repeat (first | assumption | exact eqx.rf | refine eqx.up ?_ (by decide))) (hA1.wk (by decide))
    have hf_q := hf_q.tr hf1
    refine go_iload_n (pc := 23) dX8_swap_23 rfl ?_
    exact go_iretI (pc := 24) rfl dX8_swap_24 (Nat.le_of_ble_eq_true rfl) (Nat.le_of_ble_eq_true rfl) ⟨(by rw [aSwap, if_pos h0, e1, e3]; rfl), rfl, _, _, (by rw [aSwap, if_pos h0, e1, e3]; exact hM_q), ⟨rfl, fun j h1 h2 h3 => by simp [upd, h1, h2, h3]⟩, (by repeat (first | assumption | exact eqx.rf | refine eqx.up ?_ (by decide))), hf_q⟩
  · refine go_aload_n (pc := 0) dX8_swap_0 rfl ?_
    refine go_aload_n (pc := 1) dX8_swap_1 rfl ?_
    refine go_iload_n (pc := 2) dX8_swap_2 rfl ?_
    refine go_i2l (pc := 3) dX8_swap_3 ?_
    refine go_iload_n (pc := 4) dX8_swap_4 rfl ?_
    refine go_i2l (pc := 5) dX8_swap_5 ?_
    refine go_V2P (pc := 6) v_X8_334 rfl rfl (rcv_of (ci := 8) (by first | exact mo0 hM_q | exact mo1 hM_q | exact mo6 hM_q | exact mo7 hM_q | exact mo8 hM_q | exact mo2 hM_q | exact mo3 hM_q | exact mo4 hM_q | exact mo5 hM_q | exact mo9 hM_q | exact mo10 hM_q | exact mo11 hM_q | exact mo12 hM_q | exact mo13 hM_q | exact mo14 hM_q | exact mo15 hM_q | exact mo16 hM_q) rfl) dX8_swap_6 (sp_whySwap (k := k - 1) hM_q (by omega) hB_q _ _) ?_
    rw [Int32.toInt_toInt64, Int32.toInt_toInt64, h0]
    refine go_V1I (pc := 9) v_X8_327 rfl rfl (rcv_of (ci := 8) (by first | exact mo0 hM_q | exact mo1 hM_q | exact mo6 hM_q | exact mo7 hM_q | exact mo8 hM_q | exact mo2 hM_q | exact mo3 hM_q | exact mo4 hM_q | exact mo5 hM_q | exact mo9 hM_q | exact mo10 hM_q | exact mo11 hM_q | exact mo12 hM_q | exact mo13 hM_q | exact mo14 hM_q | exact mo15 hM_q | exact mo16 hM_q) rfl) dX8_swap_9 (sp_refuses (k := k - 1) hM_q (by omega) hd_q hd1_q _) (fun v_9 σ n h => ?_)
    obtain ⟨rfl, rfl, A1, hM_q, hA1, hf1⟩ := h
    have hA_q := eqx.tr (L := [6, 7, 8, 9, 10, 11, 12, 13]) (by repeat (first | assumption | exact eqx.rf | refine eqx.up ?_ (by decide))) (hA1.wk (by decide))
    have hf_q := hf_q.tr hf1
    rw [if_neg (by decide)] at hM_q
    refine go_istore_n (lw := [_, _, _, _]) (pc := 12) dX8_swap_12 (by decide) rfl ?_
    refine go_iload_n (pc := 13) dX8_swap_13 rfl ?_
    refine go_if_ne (tgt := 23) (pc := 14) dX8_swap_14 (by decide) (fun h_14 => ?_) (fun h_14 => by exfalso; exact absurd h_14 (by decide))
    refine go_iload_n (pc := 23) dX8_swap_23 rfl ?_
    exact go_iretI (pc := 24) rfl dX8_swap_24 (Nat.le_of_ble_eq_true rfl) (Nat.le_of_ble_eq_true rfl) ⟨(by rw [aSwap, h0, if_neg (by decide)]), rfl, _, _, (by rw [aSwap, h0, if_neg (by decide)]; exact hM_q), ⟨rfl, fun j h1 h2 h3 => by simp [upd, h1, h2, h3]⟩, (by repeat (first | assumption | exact eqx.rf | refine eqx.up ?_ (by decide))), hf_q⟩
  · refine go_aload_n (pc := 0) dX8_swap_0 rfl ?_
    refine go_aload_n (pc := 1) dX8_swap_1 rfl ?_
    refine go_iload_n (pc := 2) dX8_swap_2 rfl ?_
    refine go_i2l (pc := 3) dX8_swap_3 ?_
    refine go_iload_n (pc := 4) dX8_swap_4 rfl ?_
    refine go_i2l (pc := 5) dX8_swap_5 ?_
    refine go_V2P (pc := 6) v_X8_334 rfl rfl (rcv_of (ci := 8) (by first | exact mo0 hM_q | exact mo1 hM_q | exact mo6 hM_q | exact mo7 hM_q | exact mo8 hM_q | exact mo2 hM_q | exact mo3 hM_q | exact mo4 hM_q | exact mo5 hM_q | exact mo9 hM_q | exact mo10 hM_q | exact mo11 hM_q | exact mo12 hM_q | exact mo13 hM_q | exact mo14 hM_q | exact mo15 hM_q | exact mo16 hM_q) rfl) dX8_swap_6 (sp_whySwap (k := k - 1) hM_q (by omega) hB_q _ _) ?_
    rw [Int32.toInt_toInt64, Int32.toInt_toInt64, h0]
    refine go_V1I (pc := 9) v_X8_327 rfl rfl (rcv_of (ci := 8) (by first | exact mo0 hM_q | exact mo1 hM_q | exact mo6 hM_q | exact mo7 hM_q | exact mo8 hM_q | exact mo2 hM_q | exact mo3 hM_q | exact mo4 hM_q | exact mo5 hM_q | exact mo9 hM_q | exact mo10 hM_q | exact mo11 hM_q | exact mo12 hM_q | exact mo13 hM_q | exact mo14 hM_q | exact mo15 hM_q | exact mo16 hM_q) rfl) dX8_swap_9 (sp_refuses (k := k - 1) hM_q (by omega) hd_q hd1_q _) (fun v_9 σ n h => ?_)
    obtain ⟨rfl, rfl, A1, hM_q, hA1, hf1⟩ := h
    have hA_q := eqx.tr (L := [6, 7, 8, 9, 10, 11, 12, 13]) (by repeat (first | assumption | exact eqx.rf | refine eqx.up ?_ (by decide))) (hA1.wk (by decide))
    have hf_q := hf_q.tr hf1
    rw [if_neg (by decide)] at hM_q
    refine go_istore_n (lw := [_, _, _, _]) (pc := 12) dX8_swap_12 (by decide) rfl ?_
    refine go_iload_n (pc := 13) dX8_swap_13 rfl ?_
    refine go_if_ne (tgt := 23) (pc := 14) dX8_swap_14 (by decide) (fun h_14 => ?_) (fun h_14 => by exfalso; exact absurd h_14 (by decide))
    refine go_iload_n (pc := 23) dX8_swap_23 rfl ?_
    exact go_iretI (pc := 24) rfl dX8_swap_24 (Nat.le_of_ble_eq_true rfl) (Nat.le_of_ble_eq_true rfl) ⟨(by rw [aSwap, h0, if_neg (by decide)]), rfl, _, _, (by rw [aSwap, h0, if_neg (by decide)]; exact hM_q), ⟨rfl, fun j h1 h2 h3 => by simp [upd, h1, h2, h3]⟩, (by repeat (first | assumption | exact eqx.rf | refine eqx.up ?_ (by decide))), hf_q⟩
  · refine go_aload_n (pc := 0) dX8_swap_0 rfl ?_
    refine go_aload_n (pc := 1) dX8_swap_1 rfl ?_
    refine go_iload_n (pc := 2) dX8_swap_2 rfl ?_
    refine go_i2l (pc := 3) dX8_swap_3 ?_
    refine go_iload_n (pc := 4) dX8_swap_4 rfl ?_
    refine go_i2l (pc := 5) dX8_swap_5 ?_
    refine go_V2P (pc := 6) v_X8_334 rfl rfl (rcv_of (ci := 8) (by first | exact mo0 hM_q | exact mo1 hM_q | exact mo6 hM_q | exact mo7 hM_q | exact mo8 hM_q | exact mo2 hM_q | exact mo3 hM_q | exact mo4 hM_q | exact mo5 hM_q | exact mo9 hM_q | exact mo10 hM_q | exact mo11 hM_q | exact mo12 hM_q | exact mo13 hM_q | exact mo14 hM_q | exact mo15 hM_q | exact mo16 hM_q) rfl) dX8_swap_6 (sp_whySwap (k := k - 1) hM_q (by omega) hB_q _ _) ?_
    rw [Int32.toInt_toInt64, Int32.toInt_toInt64, h0]
    refine go_V1I (pc := 9) v_X8_327 rfl rfl (rcv_of (ci := 8) (by first | exact mo0 hM_q | exact mo1 hM_q | exact mo6 hM_q | exact mo7 hM_q | exact mo8 hM_q | exact mo2 hM_q | exact mo3 hM_q | exact mo4 hM_q | exact mo5 hM_q | exact mo9 hM_q | exact mo10 hM_q | exact mo11 hM_q | exact mo12 hM_q | exact mo13 hM_q | exact mo14 hM_q | exact mo15 hM_q | exact mo16 hM_q) rfl) dX8_swap_9 (sp_refuses (k := k - 1) hM_q (by omega) hd_q hd1_q _) (fun v_9 σ n h => ?_)
    obtain ⟨rfl, rfl, A1, hM_q, hA1, hf1⟩ := h
    have hA_q := eqx.tr (L := [6, 7, 8, 9, 10, 11, 12, 13]) (by repeat (first | assumption | exact eqx.rf | refine eqx.up ?_ (by decide))) (hA1.wk (by decide))
    have hf_q := hf_q.tr hf1
    rw [if_neg (by decide)] at hM_q
    refine go_istore_n (lw := [_, _, _, _]) (pc := 12) dX8_swap_12 (by decide) rfl ?_
    refine go_iload_n (pc := 13) dX8_swap_13 rfl ?_
    refine go_if_ne (tgt := 23) (pc := 14) dX8_swap_14 (by decide) (fun h_14 => ?_) (fun h_14 => by exfalso; exact absurd h_14 (by decide))
    refine go_iload_n (pc := 23) dX8_swap_23 rfl ?_
    exact go_iretI (pc := 24) rfl dX8_swap_24 (Nat.le_of_ble_eq_true rfl) (Nat.le_of_ble_eq_true rfl) ⟨(by rw [aSwap, h0, if_neg (by decide)]), rfl, _, _, (by rw [aSwap, h0, if_neg (by decide)]; exact hM_q), ⟨rfl, fun j h1 h2 h3 => by simp [upd, h1, h2, h3]⟩, (by repeat (first | assumption | exact eqx.rf | refine eqx.up ?_ (by decide))), hf_q⟩
theorem sp_minutes {Γ : gam} {z0 : sto} {n k r : Nat} {F K : row} {A : Nat → row} {Nm : Nat → Int64} (hM_q : MoAt Γ z0 r F K A Nm) (hk : 12 ≤ k) (hG0 : GD K) (hw_q : setP (K 32)) (z : Int32) : Sp Γ (rmk k 0 0) uX8_minutes [.ref r, .int z] z0 n (qI fun v σ' n' => v = (aMin K z.toInt).2.1 ∧ apJ Γ r F (aMin K z.toInt).2.2 A Nm z0 n (aMin K z.toInt).1 σ' n') := by
  obtain ⟨hB_q, hv_q, d, hd1_q, hd_q⟩ := id hG0
  have hP8 := hB_q.1.2.1
  have hH5 := hB_q.1.2.2.2.1
  have hW4 := hB_q.1.2.2.2.2.2
  have hA_q : eqx [6, 7, 8, 9, 10, 11, 12, 13] A A := eqx.rf
  have hf_q : fr r (r + 16) z0 z0 := fr.rf
  have hU := hG0.U
  have hBk := hG0.keep.1
  have hvk := hG0.keep.2.1
  have ePk := hU.P
  have eHk := hU.H
  have hwk : setP (keepK K 32) := by rw [hU 32 (by omega)]; exact hw_q
  refine sp_intro [some (.ref r), some (.int z), none, none] (by decide +kernel) rfl (Nat.le_of_ble_eq_true rfl) rfl ?_
  cases hz_q : rN 1 100 z.toInt with
  | none =>
    refine go_aload_n (pc := 0) dX8_minutes_0 rfl ?_
    refine go_iconst (v := 0) (pc := 1) dX8_minutes_1 (by decide) ?_
    refine go_mpf4 (pc := 2) hM_q dX8_minutes_2 (fun σ hM_q hf9 => ?_)
    have hf_q := hf_q.tr hf9
    refine go_iload_n (pc := 5) dX8_minutes_5 rfl ?_
    refine go_i2l (pc := 6) dX8_minutes_6 ?_
    refine go_lconst (v := 1) (pc := 7) dX8_minutes_7 rfl ?_
    refine go_ldc2 (pc := 8) kw7_199 dX8_minutes_8 ?_
    refine go_S3P (pc := 11) s_X8_125 rfl rfl dX8_minutes_11 (sp_within (k := k - 1) _ _ _) ?_
    refine go_if_ne (tgt := 23) (pc := 14) dX8_minutes_14 (by decide) (fun h_14 => by exfalso; exact h_14 (wi_no hz_q (by decide) (by decide))) (fun h_14 => ?_)
    refine go_aload_n (pc := 17) dX8_minutes_17 rfl ?_
    refine go_iconst (v := 1) (pc := 18) dX8_minutes_18 (by decide) ?_
    refine go_V1I (pc := 19) v_X8_231 rfl rfl (rcv_of (ci := 8) (by first | exact mo0 hM_q | exact mo1 hM_q | exact mo6 hM_q | exact mo7 hM_q | exact mo8 hM_q | exact mo2 hM_q | exact mo3 hM_q | exact mo4 hM_q | exact mo5 hM_q | exact mo9 hM_q | exact mo10 hM_q | exact mo11 hM_q | exact mo12 hM_q | exact mo13 hM_q | exact mo14 hM_q | exact mo15 hM_q | exact mo16 hM_q) rfl) dX8_minutes_19 (sp_fails (k := k - 1) hM_q _) (fun v_19 σ n h => ?_)
    obtain ⟨rfl, rfl, A1, hM_q, hA1, hf1⟩ := h
    have hA_q := eqx.tr (L := [6, 7, 8, 9, 10, 11, 12, 13]) (by repeat (first | assumption | exact eqx.rf | refine eqx.up ?_ (by decide))) (hA1.wk (by decide))
    have hf_q := hf_q.tr hf1
    exact go_iretI (pc := 22) rfl dX8_minutes_22 (Nat.le_of_ble_eq_true rfl) (Nat.le_of_ble_eq_true rfl) ⟨(by simp [aMin, hz_q]), rfl, _, _, (by simp only [aMin, hz_q]; exact hM_q), ⟨(by simp [upd, aMin, hz_q]), fun j h1 h2 h3 => by simp [upd, h1, h2, h3]⟩, (by repeat (first | assumption | exact eqx.rf | refine eqx.up ?_ (by decide))), hf_q⟩
  | some j1_q =>
    have hz1 := rN_some hz_q
    obtain rfl := I_nat hz1.1 (by omega)
    refine go_aload_n (pc := 0) dX8_minutes_0 rfl ?_
    refine go_iconst (v := 0) (pc := 1) dX8_minutes_1 (by decide) ?_
    refine go_mpf4 (pc := 2) hM_q dX8_minutes_2 (fun σ hM_q hf9 => ?_)
    have hf_q := hf_q.tr hf9
    refine go_iload_n (pc := 5) dX8_minutes_5 rfl ?_
    refine go_i2l (pc := 6) dX8_minutes_6 ?_
    refine go_lconst (v := 1) (pc := 7) dX8_minutes_7 rfl ?_
    refine go_ldc2 (pc := 8) kw7_199 dX8_minutes_8 ?_
    refine go_S3P (pc := 11) s_X8_125 rfl rfl dX8_minutes_11 (sp_within (k := k - 1) _ _ _) ?_
    refine go_if_ne (tgt := 23) (pc := 14) dX8_minutes_14 (by decide) (fun h_14 => ?_) (fun h_14 => by exfalso; rw [wi_yes hz_q (by decide) (by decide)] at h_14; exact absurd h_14 (by decide))
    refine go_aload_n (pc := 23) dX8_minutes_23 rfl ?_
    refine go_V0V (pc := 24) v_X8_321 rfl rfl (rcv_of (ci := 8) (by first | exact mo0 hM_q | exact mo1 hM_q | exact mo6 hM_q | exact mo7 hM_q | exact mo8 hM_q | exact mo2 hM_q | exact mo3 hM_q | exact mo4 hM_q | exact mo5 hM_q | exact mo9 hM_q | exact mo10 hM_q | exact mo11 hM_q | exact mo12 hM_q | exact mo13 hM_q | exact mo14 hM_q | exact mo15 hM_q | exact mo16 hM_q) rfl) dX8_minutes_24 (sp_keeps (k := k - 1) hM_q hd_q hd1_q) (fun σ n h => ?_)
    obtain ⟨rfl, A1, hM_q, hA1, hf1⟩ := h
    have hA_q := eqx.tr (L := [6, 7, 8, 9, 10, 11, 12, 13]) (by repeat (first | assumption | exact eqx.rf | refine eqx.up ?_ (by decide))) (hA1.wk (by decide))
    have hf_q := hf_q.tr hf1
    refine go_aload_n (pc := 27) dX8_minutes_27 rfl ?_
    refine go_getf (pc := 28) f_X8_9 dX8_minutes_28 (by first | exact mo0 hM_q | exact mo1 hM_q | exact mo6 hM_q | exact mo7 hM_q | exact mo8 hM_q | exact mo2 hM_q | exact mo3 hM_q | exact mo4 hM_q | exact mo5 hM_q | exact mo9 hM_q | exact mo10 hM_q | exact mo11 hM_q | exact mo12 hM_q | exact mo13 hM_q | exact mo14 hM_q | exact mo15 hM_q | exact mo16 hM_q) (by rfl) ?_
    refine go_bipush (v := 32) (pc := 31) dX8_minutes_31 (by decide) ?_
    refine go_iald (j := 32) (pc := 33) dX8_minutes_33 (by first | exact mo0 hM_q | exact mo1 hM_q | exact mo6 hM_q | exact mo7 hM_q | exact mo8 hM_q | exact mo2 hM_q | exact mo3 hM_q | exact mo4 hM_q | exact mo5 hM_q | exact mo9 hM_q | exact mo10 hM_q | exact mo11 hM_q | exact mo12 hM_q | exact mo13 hM_q | exact mo14 hM_q | exact mo15 hM_q | exact mo16 hM_q) (by exact ⟨rfl, by decide⟩) ?_
    refine go_S1P (pc := 34) s_X8_342 rfl rfl dX8_minutes_34 (sp_size (k := k - 1) (by assumption)) ?_
    refine go_istore_n (lw := [_, _, _, _]) (pc := 37) dX8_minutes_37 (by decide) rfl ?_
    refine go_iconst (v := 0) (pc := 38) dX8_minutes_38 (by decide) ?_
    refine go_istore_n (lw := [_, _, _, _]) (pc := 39) dX8_minutes_39 (by decide) rfl ?_
    refine go_iter (j1_q) (fun i_q lv9 s9 n9 => ∃ A9_q, lv9 = [some (.ref r), some (.int (nI j1_q)), some (.int (szI (keepK K 32))), some (.int (nI i_q))] ∧ (MoAt Γ s9 r (upd F 4 0) (goK i_q (keepK K)) A9_q Nm) ∧ (eqx [6, 7, 8, 9, 10, 11, 12, 13] A A9_q) ∧ (fr r (r + 16) z0 s9) ∧ n = n9) ⟨_, rfl, hM_q, hA_q, hf_q, rfl⟩ ?_ ?_
    · rintro i_q lv9 σ n9 hi_q ⟨A9_q, rfl, hM_q, hA_q, hf_q, rfl⟩ ih_q
      have hS_q : sameB (keepK K) (goK i_q (keepK K)) := goK_same (by omega)
      have hB9_q := hS_q.okB hBk
      have hv9_q : vS (goK i_q (keepK K)) := vS_go hvk (by omega) (by omega)
      refine go_iload_n (pc := 40) dX8_minutes_40 rfl ?_
      refine go_iload_n (pc := 41) dX8_minutes_41 rfl ?_
      refine go_icmp_ge (tgt := 55) (pc := 42) dX8_minutes_42 (by decide) (fun h_42 => by exfalso; exact absurd h_42 (nI_ge (by omega) (by omega))) (fun h_42 => ?_)
      refine go_aload_n (pc := 45) dX8_minutes_45 rfl ?_
      refine go_V0V (pc := 46) v_X8_345 rfl rfl (rcv_of (ci := 8) (by first | exact mo0 hM_q | exact mo1 hM_q | exact mo6 hM_q | exact mo7 hM_q | exact mo8 hM_q | exact mo2 hM_q | exact mo3 hM_q | exact mo4 hM_q | exact mo5 hM_q | exact mo9 hM_q | exact mo10 hM_q | exact mo11 hM_q | exact mo12 hM_q | exact mo13 hM_q | exact mo14 hM_q | exact mo15 hM_q | exact mo16 hM_q) rfl) dX8_minutes_46 (sp_minute (k := k - 1) hM_q (by omega) hB9_q hv9_q) (fun σ n h => ?_)
      obtain ⟨rfl, A1, hM_q, hA1, hf1⟩ := h
      have hA_q := eqx.tr (L := [6, 7, 8, 9, 10, 11, 12, 13]) (by repeat (first | assumption | exact eqx.rf | refine eqx.up ?_ (by decide))) (hA1.wk (by decide))
      have hf_q := hf_q.tr hf1
      rw [← goK_s] at hM_q
      refine go_iinc (v := 1) (lw := [_, _, _, _]) (pc := 49) dX8_minutes_49 rfl (by decide) (by decide) rfl ?_
      refine go_goto (tgt := 40) (pc := 52) dX8_minutes_52 (by decide) ?_
      rw [nI_1]
      exact ih_q _ _ _ ⟨_, rfl, hM_q, hA_q, hf_q, rfl⟩
    · rintro lv9 σ n9 ⟨A9_q, rfl, hM_q, hA_q, hf_q, rfl⟩
      refine go_iload_n (pc := 40) dX8_minutes_40 rfl ?_
      refine go_iload_n (pc := 41) dX8_minutes_41 rfl ?_
      refine go_icmp_ge (tgt := 55) (pc := 42) dX8_minutes_42 (by decide) (fun h_42 => ?_) (fun h_42 => by exfalso; exact h_42 (nI_le (by omega) (by omega)))
      refine go_aload_n (pc := 55) dX8_minutes_55 rfl ?_
      refine go_getf (pc := 56) f_X8_9 dX8_minutes_56 (by first | exact mo0 hM_q | exact mo1 hM_q | exact mo6 hM_q | exact mo7 hM_q | exact mo8 hM_q | exact mo2 hM_q | exact mo3 hM_q | exact mo4 hM_q | exact mo5 hM_q | exact mo9 hM_q | exact mo10 hM_q | exact mo11 hM_q | exact mo12 hM_q | exact mo13 hM_q | exact mo14 hM_q | exact mo15 hM_q | exact mo16 hM_q) (by rfl) ?_
      refine go_bipush (v := 32) (pc := 59) dX8_minutes_59 (by decide) ?_
      refine go_iald (j := 32) (pc := 61) dX8_minutes_61 (by first | exact mo0 hM_q | exact mo1 hM_q | exact mo6 hM_q | exact mo7 hM_q | exact mo8 hM_q | exact mo2 hM_q | exact mo3 hM_q | exact mo4 hM_q | exact mo5 hM_q | exact mo9 hM_q | exact mo10 hM_q | exact mo11 hM_q | exact mo12 hM_q | exact mo13 hM_q | exact mo14 hM_q | exact mo15 hM_q | exact mo16 hM_q) (by exact ⟨rfl, by decide⟩) ?_
      have hw9 : setP (goK j1_q (keepK K) 32) := setP_go (by omega) hwk
      refine go_S1P (pc := 62) s_X8_342 rfl rfl dX8_minutes_62 (sp_size (k := k - 1) (by assumption)) ?_
      refine go_iload_n (pc := 65) dX8_minutes_65 rfl ?_
      refine go_isub (pc := 66) dX8_minutes_66 ?_
      exact go_iretI (pc := 67) rfl dX8_minutes_67 (Nat.le_of_ble_eq_true rfl) (Nat.le_of_ble_eq_true rfl) ⟨(by simp only [aMin, hz_q]; rw [hU 32 (by omega)]), rfl, _, _, (by simp only [aMin, hz_q]; exact hM_q), ⟨(by simp [upd, aMin, hz_q]), fun j h1 h2 h3 => by simp [upd, h1, h2, h3]⟩, (by repeat (first | assumption | exact eqx.rf | refine eqx.up ?_ (by decide))), hf_q⟩
theorem und_7 {K g : row} {x : Int32} {i_q : Nat} : setN (upd K 7 x) g i_q 7 = x := by
  simp only [setN]
  rw [if_neg (by omega), pk_us]
theorem und_rd {K : row} {x : Int32} {dd i_q : Nat} : setN (upd K 7 x) (undK K dd) i_q (59 + 26 * dd + i_q) = undK K dd i_q := by
  simp only [setN]
  rw [if_neg (by omega), pk_un (by omega)]
  rfl
theorem und_no {z : Int32} {d e : Nat} (h : rN 1 (e + 1) z.toInt = none) (he : e = d) (hd_q : d ≤ 10) (h1 : ¬ ¬ (1 ≤ z.toInt64 ∧ z.toInt64 ≤ 10)) (h2 : z ≤ nI d) : False := by
  have g1 := (wi_iff (lo := 1) (m := 11) (by decide) (by decide) z).mp (Decidable.not_not.mp h1)
  have g2 := Int32.le_iff_toInt_le.mp h2
  rw [nI_toInt (by omega)] at g2
  exact rN_none h ⟨g1.1, by omega⟩
theorem sp_undo {Γ : gam} {z0 : sto} {n k r : Nat} {F K : row} {A : Nat → row} {Nm : Nat → Int64} (hM_q : MoAt Γ z0 r F K A Nm) (hk : 12 ≤ k) (hG0 : GD K) (z : Int32) : Sp Γ (rmk k 0 0) uX8_undo [.ref r, .int z] z0 n (qI fun v σ' n' => v = (aUndo K z.toInt).2.1 ∧ apJ Γ r F (aUndo K z.toInt).2.2 A Nm z0 n (aUndo K z.toInt).1 σ' n') := by
  obtain ⟨hB_q, hv_q, d, hd1_q, hd_q⟩ := id hG0
  have hP8 := hB_q.1.2.1
  have hH5 := hB_q.1.2.2.2.1
  have hW4 := hB_q.1.2.2.2.2.2
  have hA_q : eqx [6, 7, 8, 9, 10, 11, 12, 13] A A := eqx.rf
  have hf_q : fr r (r + 16) z0 z0 := fr.rf
  have hkd : kD K = d := by rw [kD, hd_q, nI_clamp (by omega)]
  refine sp_intro [some (.ref r), some (.int z), none] (by decide +kernel) rfl (Nat.le_of_ble_eq_true rfl) rfl ?_
  cases hz_q : rN 1 (kD K + 1) z.toInt with
  | none =>
    refine go_aload_n (pc := 0) dX8_undo_0 rfl ?_
    refine go_iconst (v := 0) (pc := 1) dX8_undo_1 (by decide) ?_
    refine go_mpf4 (pc := 2) hM_q dX8_undo_2 (fun σ hM_q hf9 => ?_)
    have hf_q := hf_q.tr hf9
    refine go_iload_n (pc := 5) dX8_undo_5 rfl ?_
    refine go_i2l (pc := 6) dX8_undo_6 ?_
    refine go_lconst (v := 1) (pc := 7) dX8_undo_7 rfl ?_
    refine go_ldc2 (pc := 8) kw7_211 dX8_undo_8 ?_
    refine go_S3P (pc := 11) s_X8_125 rfl rfl dX8_undo_11 (sp_within (k := k - 1) _ _ _) ?_
    refine go_if_eq (tgt := 28) (pc := 14) dX8_undo_14 (by decide) (fun h_14 => ?_) (fun h_14 => ?_)
    · refine go_aload_n (pc := 28) dX8_undo_28 rfl ?_
      refine go_iconst (v := 1) (pc := 29) dX8_undo_29 (by decide) ?_
      refine go_V1I (pc := 30) v_X8_231 rfl rfl (rcv_of (ci := 8) (by first | exact mo0 hM_q | exact mo1 hM_q | exact mo6 hM_q | exact mo7 hM_q | exact mo8 hM_q | exact mo2 hM_q | exact mo3 hM_q | exact mo4 hM_q | exact mo5 hM_q | exact mo9 hM_q | exact mo10 hM_q | exact mo11 hM_q | exact mo12 hM_q | exact mo13 hM_q | exact mo14 hM_q | exact mo15 hM_q | exact mo16 hM_q) rfl) dX8_undo_30 (sp_fails (k := k - 1) hM_q _) (fun v_30 σ n h => ?_)
      obtain ⟨rfl, rfl, A1, hM_q, hA1, hf1⟩ := h
      have hA_q := eqx.tr (L := [6, 7, 8, 9, 10, 11, 12, 13]) (by repeat (first | assumption | exact eqx.rf | refine eqx.up ?_ (by decide))) (hA1.wk (by decide))
      have hf_q := hf_q.tr hf1
      exact go_iretI (pc := 33) rfl dX8_undo_33 (Nat.le_of_ble_eq_true rfl) (Nat.le_of_ble_eq_true rfl) ⟨(by simp [aUndo, hz_q]), rfl, _, _, (by simp only [aUndo, hz_q]; exact hM_q), ⟨(by simp [upd, aUndo, hz_q]), fun j h1 h2 h3 => by simp [upd, h1, h2, h3]⟩, (by repeat (first | assumption | exact eqx.rf | refine eqx.up ?_ (by decide))), hf_q⟩
    · refine go_iload_n (pc := 17) dX8_undo_17 rfl ?_
      refine go_aload_n (pc := 18) dX8_undo_18 rfl ?_
      refine go_getf (pc := 19) f_X8_9 dX8_undo_19 (by first | exact mo0 hM_q | exact mo1 hM_q | exact mo6 hM_q | exact mo7 hM_q | exact mo8 hM_q | exact mo2 hM_q | exact mo3 hM_q | exact mo4 hM_q | exact mo5 hM_q | exact mo9 hM_q | exact mo10 hM_q | exact mo11 hM_q | exact mo12 hM_q | exact mo13 hM_q | exact mo14 hM_q | exact mo15 hM_q | exact mo16 hM_q) (by rfl) ?_
      refine go_bipush (v := 7) (pc := 22) dX8_undo_22 (by decide) ?_
      refine go_iald (j := 7) (pc := 24) dX8_undo_24 (by first | exact mo0 hM_q | exact mo1 hM_q | exact mo6 hM_q | exact mo7 hM_q | exact mo8 hM_q | exact mo2 hM_q | exact mo3 hM_q | exact mo4 hM_q | exact mo5 hM_q | exact mo9 hM_q | exact mo10 hM_q | exact mo11 hM_q | exact mo12 hM_q | exact mo13 hM_q | exact mo14 hM_q | exact mo15 hM_q | exact mo16 hM_q) (by exact ⟨rfl, by decide⟩) ?_
      refine go_icmp_le (tgt := 34) (pc := 25) dX8_undo_25 (by decide) (fun h_25 => by exfalso; exact und_no hz_q hkd hd1_q (fun hc_q => h_14 (bI_0.mpr hc_q)) (by rw [hd_q] at h_25; exact h_25)) (fun h_25 => ?_)
      refine go_aload_n (pc := 28) dX8_undo_28 rfl ?_
      refine go_iconst (v := 1) (pc := 29) dX8_undo_29 (by decide) ?_
      refine go_V1I (pc := 30) v_X8_231 rfl rfl (rcv_of (ci := 8) (by first | exact mo0 hM_q | exact mo1 hM_q | exact mo6 hM_q | exact mo7 hM_q | exact mo8 hM_q | exact mo2 hM_q | exact mo3 hM_q | exact mo4 hM_q | exact mo5 hM_q | exact mo9 hM_q | exact mo10 hM_q | exact mo11 hM_q | exact mo12 hM_q | exact mo13 hM_q | exact mo14 hM_q | exact mo15 hM_q | exact mo16 hM_q) rfl) dX8_undo_30 (sp_fails (k := k - 1) hM_q _) (fun v_30 σ n h => ?_)
      obtain ⟨rfl, rfl, A1, hM_q, hA1, hf1⟩ := h
      have hA_q := eqx.tr (L := [6, 7, 8, 9, 10, 11, 12, 13]) (by repeat (first | assumption | exact eqx.rf | refine eqx.up ?_ (by decide))) (hA1.wk (by decide))
      have hf_q := hf_q.tr hf1
      exact go_iretI (pc := 33) rfl dX8_undo_33 (Nat.le_of_ble_eq_true rfl) (Nat.le_of_ble_eq_true rfl) ⟨(by simp [aUndo, hz_q]), rfl, _, _, (by simp only [aUndo, hz_q]; exact hM_q), ⟨(by simp [upd, aUndo, hz_q]), fun j h1 h2 h3 => by simp [upd, h1, h2, h3]⟩, (by repeat (first | assumption | exact eqx.rf | refine eqx.up ?_ (by decide))), hf_q⟩
  | some j1_q =>
    have hz1 := rN_some hz_q
    obtain rfl := I_nat hz1.1 (by omega)
    have e7 : nI d - nI j1_q = nI (d - j1_q) := pk_sub (by omega)
    refine go_aload_n (pc := 0) dX8_undo_0 rfl ?_
    refine go_iconst (v := 0) (pc := 1) dX8_undo_1 (by decide) ?_
    refine go_mpf4 (pc := 2) hM_q dX8_undo_2 (fun σ hM_q hf9 => ?_)
    have hf_q := hf_q.tr hf9
    refine go_iload_n (pc := 5) dX8_undo_5 rfl ?_
    refine go_i2l (pc := 6) dX8_undo_6 ?_
    refine go_lconst (v := 1) (pc := 7) dX8_undo_7 rfl ?_
    refine go_ldc2 (pc := 8) kw7_211 dX8_undo_8 ?_
    refine go_S3P (pc := 11) s_X8_125 rfl rfl dX8_undo_11 (sp_within (k := k - 1) _ _ _) ?_
    refine go_if_eq (tgt := 28) (pc := 14) dX8_undo_14 (by decide) (fun h_14 => by exfalso; exact absurd h_14 (by rw [bI_0, Decidable.not_not]; exact (wi_iff (lo := 1) (m := 11) (by decide) (by decide) _).mpr (by omega))) (fun h_14 => ?_)
    refine go_iload_n (pc := 17) dX8_undo_17 rfl ?_
    refine go_aload_n (pc := 18) dX8_undo_18 rfl ?_
    refine go_getf (pc := 19) f_X8_9 dX8_undo_19 (by first | exact mo0 hM_q | exact mo1 hM_q | exact mo6 hM_q | exact mo7 hM_q | exact mo8 hM_q | exact mo2 hM_q | exact mo3 hM_q | exact mo4 hM_q | exact mo5 hM_q | exact mo9 hM_q | exact mo10 hM_q | exact mo11 hM_q | exact mo12 hM_q | exact mo13 hM_q | exact mo14 hM_q | exact mo15 hM_q | exact mo16 hM_q) (by rfl) ?_
    refine go_bipush (v := 7) (pc := 22) dX8_undo_22 (by decide) ?_
    refine go_iald (j := 7) (pc := 24) dX8_undo_24 (by first | exact mo0 hM_q | exact mo1 hM_q | exact mo6 hM_q | exact mo7 hM_q | exact mo8 hM_q | exact mo2 hM_q | exact mo3 hM_q | exact mo4 hM_q | exact mo5 hM_q | exact mo9 hM_q | exact mo10 hM_q | exact mo11 hM_q | exact mo12 hM_q | exact mo13 hM_q | exact mo14 hM_q | exact mo15 hM_q | exact mo16 hM_q) (by exact ⟨rfl, by decide⟩) ?_
    rw [hd_q]
    refine go_icmp_le (tgt := 34) (pc := 25) dX8_undo_25 (by decide) (fun h_25 => ?_) (fun h_25 => by exfalso; exact h_25 (nI_le (by omega) (by omega)))
    refine go_aload_n (pc := 34) dX8_undo_34 rfl ?_
    refine go_getf (pc := 35) f_X8_9 dX8_undo_35 (by first | exact mo0 hM_q | exact mo1 hM_q | exact mo6 hM_q | exact mo7 hM_q | exact mo8 hM_q | exact mo2 hM_q | exact mo3 hM_q | exact mo4 hM_q | exact mo5 hM_q | exact mo9 hM_q | exact mo10 hM_q | exact mo11 hM_q | exact mo12 hM_q | exact mo13 hM_q | exact mo14 hM_q | exact mo15 hM_q | exact mo16 hM_q) (by rfl) ?_
    refine go_bipush (v := 7) (pc := 38) dX8_undo_38 (by decide) ?_
    refine go_dup2 (pc := 40) dX8_undo_40 rfl rfl ?_
    refine go_iald (pc := 41) dX8_undo_41 (by first | exact mo0 hM_q | exact mo1 hM_q | exact mo6 hM_q | exact mo7 hM_q | exact mo8 hM_q | exact mo2 hM_q | exact mo3 hM_q | exact mo4 hM_q | exact mo5 hM_q | exact mo9 hM_q | exact mo10 hM_q | exact mo11 hM_q | exact mo12 hM_q | exact mo13 hM_q | exact mo14 hM_q | exact mo15 hM_q | exact mo16 hM_q) (by first | exact ⟨nI_add _ _, by omega⟩ | exact ⟨rfl, by decide⟩ | exact ⟨rfl, by omega⟩) ?_
    refine go_iload_n (pc := 42) dX8_undo_42 rfl ?_
    rw [hd_q]
    refine go_isub (pc := 43) dX8_undo_43 ?_
    rw [e7]
    refine go_mstK (j := 7) (pc := 44) hM_q dX8_undo_44 (by exact ⟨rfl, by decide⟩) (fun σ hM_q hf9 => ?_)
    have hf_q := hf_q.tr hf9
    refine go_iconst (v := 0) (pc := 45) dX8_undo_45 (by decide) ?_
    refine go_istore_n (lw := [_, _, _]) (pc := 46) dX8_undo_46 (by decide) rfl ?_
    refine go_iter (26) (fun i_q lv9 s9 n9 => ∃ A9_q, lv9 = [some (.ref r), some (.int (nI j1_q)), some (.int (nI i_q))] ∧ (MoAt Γ s9 r (upd F 4 0) (setN (upd K 7 (nI (d - j1_q))) (undK K (d - j1_q)) i_q) A9_q Nm) ∧ (eqx [6, 7, 8, 9, 10, 11, 12, 13] A A9_q) ∧ (fr r (r + 16) z0 s9) ∧ n = n9) ⟨_, rfl, (by rw [setN_0]; exact hM_q), hA_q, hf_q, rfl⟩ ?_ ?_
    · rintro i_q lv9 σ n9 hi_q ⟨A9_q, rfl, hM_q, hA_q, hf_q, rfl⟩ ih_q
      refine go_iload_n (pc := 47) dX8_undo_47 rfl ?_
      refine go_bipush (v := 26) (pc := 48) dX8_undo_48 (by decide) ?_
      refine go_icmp_ge (tgt := 88) (pc := 50) dX8_undo_50 (by decide) (fun h_50 => by exfalso; exact absurd h_50 (nI_ge (b := 26) (by omega) (by decide))) (fun h_50 => ?_)
      refine go_aload_n (pc := 53) dX8_undo_53 rfl ?_
      refine go_getf (pc := 54) f_X8_9 dX8_undo_54 (by first | exact mo0 hM_q | exact mo1 hM_q | exact mo6 hM_q | exact mo7 hM_q | exact mo8 hM_q | exact mo2 hM_q | exact mo3 hM_q | exact mo4 hM_q | exact mo5 hM_q | exact mo9 hM_q | exact mo10 hM_q | exact mo11 hM_q | exact mo12 hM_q | exact mo13 hM_q | exact mo14 hM_q | exact mo15 hM_q | exact mo16 hM_q) (by rfl) ?_
      refine go_bipush (v := 8) (pc := 57) dX8_undo_57 (by decide) ?_
      refine go_iload_n (pc := 59) dX8_undo_59 rfl ?_
      refine go_iadd (pc := 60) dX8_undo_60 ?_
      refine go_aload_n (pc := 61) dX8_undo_61 rfl ?_
      refine go_getf (pc := 62) f_X8_9 dX8_undo_62 (by first | exact mo0 hM_q | exact mo1 hM_q | exact mo6 hM_q | exact mo7 hM_q | exact mo8 hM_q | exact mo2 hM_q | exact mo3 hM_q | exact mo4 hM_q | exact mo5 hM_q | exact mo9 hM_q | exact mo10 hM_q | exact mo11 hM_q | exact mo12 hM_q | exact mo13 hM_q | exact mo14 hM_q | exact mo15 hM_q | exact mo16 hM_q) (by rfl) ?_
      refine go_bipush (v := 59) (pc := 65) dX8_undo_65 (by decide) ?_
      refine go_bipush (v := 26) (pc := 67) dX8_undo_67 (by decide) ?_
      refine go_aload_n (pc := 69) dX8_undo_69 rfl ?_
      refine go_getf (pc := 70) f_X8_9 dX8_undo_70 (by first | exact mo0 hM_q | exact mo1 hM_q | exact mo6 hM_q | exact mo7 hM_q | exact mo8 hM_q | exact mo2 hM_q | exact mo3 hM_q | exact mo4 hM_q | exact mo5 hM_q | exact mo9 hM_q | exact mo10 hM_q | exact mo11 hM_q | exact mo12 hM_q | exact mo13 hM_q | exact mo14 hM_q | exact mo15 hM_q | exact mo16 hM_q) (by rfl) ?_
      refine go_bipush (v := 7) (pc := 73) dX8_undo_73 (by decide) ?_
      refine go_iald (j := 7) (pc := 75) dX8_undo_75 (by first | exact mo0 hM_q | exact mo1 hM_q | exact mo6 hM_q | exact mo7 hM_q | exact mo8 hM_q | exact mo2 hM_q | exact mo3 hM_q | exact mo4 hM_q | exact mo5 hM_q | exact mo9 hM_q | exact mo10 hM_q | exact mo11 hM_q | exact mo12 hM_q | exact mo13 hM_q | exact mo14 hM_q | exact mo15 hM_q | exact mo16 hM_q) (by exact ⟨rfl, by decide⟩) ?_
      refine go_imul (pc := 76) dX8_undo_76 ?_
      refine go_iadd (pc := 77) dX8_undo_77 ?_
      refine go_iload_n (pc := 78) dX8_undo_78 rfl ?_
      refine go_iadd (pc := 79) dX8_undo_79 ?_
      refine go_iald (pc := 80) dX8_undo_80 (by first | exact mo0 hM_q | exact mo1 hM_q | exact mo6 hM_q | exact mo7 hM_q | exact mo8 hM_q | exact mo2 hM_q | exact mo3 hM_q | exact mo4 hM_q | exact mo5 hM_q | exact mo9 hM_q | exact mo10 hM_q | exact mo11 hM_q | exact mo12 hM_q | exact mo13 hM_q | exact mo14 hM_q | exact mo15 hM_q | exact mo16 hM_q) (by exact ⟨by rw [und_7]; exact und_ix, by omega⟩) ?_
      refine go_mstK (pc := 81) hM_q dX8_undo_81 (by exact ⟨nI_add 8 _, by omega⟩) (fun σ hM_q hf9 => ?_)
      have hf_q := hf_q.tr hf9
      refine go_iinc (v := 1) (lw := [_, _, _]) (pc := 82) dX8_undo_82 rfl (by decide) (by decide) rfl ?_
      refine go_goto (tgt := 47) (pc := 85) dX8_undo_85 (by decide) ?_
      rw [nI_1]
      exact ih_q _ _ _ ⟨_, rfl, (by rw [und_rd] at hM_q; rw [← setN_s]; exact hM_q), hA_q, hf_q, rfl⟩
    · rintro lv9 σ n9 ⟨A9_q, rfl, hM_q, hA_q, hf_q, rfl⟩
      refine go_iload_n (pc := 47) dX8_undo_47 rfl ?_
      refine go_bipush (v := 26) (pc := 48) dX8_undo_48 (by decide) ?_
      refine go_icmp_ge (tgt := 88) (pc := 50) dX8_undo_50 (by decide) (fun h_50 => ?_) (fun h_50 => by exfalso; exact h_50 (by decide))
      refine go_aload_n (pc := 88) dX8_undo_88 rfl ?_
      refine go_getf (pc := 89) f_X8_9 dX8_undo_89 (by first | exact mo0 hM_q | exact mo1 hM_q | exact mo6 hM_q | exact mo7 hM_q | exact mo8 hM_q | exact mo2 hM_q | exact mo3 hM_q | exact mo4 hM_q | exact mo5 hM_q | exact mo9 hM_q | exact mo10 hM_q | exact mo11 hM_q | exact mo12 hM_q | exact mo13 hM_q | exact mo14 hM_q | exact mo15 hM_q | exact mo16 hM_q) (by rfl) ?_
      refine go_bipush (v := 7) (pc := 92) dX8_undo_92 (by decide) ?_
      refine go_iald (j := 7) (pc := 94) dX8_undo_94 (by first | exact mo0 hM_q | exact mo1 hM_q | exact mo6 hM_q | exact mo7 hM_q | exact mo8 hM_q | exact mo2 hM_q | exact mo3 hM_q | exact mo4 hM_q | exact mo5 hM_q | exact mo9 hM_q | exact mo10 hM_q | exact mo11 hM_q | exact mo12 hM_q | exact mo13 hM_q | exact mo14 hM_q | exact mo15 hM_q | exact mo16 hM_q) (by exact ⟨rfl, by decide⟩) ?_
      rw [und_7]
      exact go_iretI (pc := 95) rfl dX8_undo_95 (Nat.le_of_ble_eq_true rfl) (Nat.le_of_ble_eq_true rfl) ⟨(by simp only [aUndo, hz_q]; rw [hkd]), rfl, _, _, (by simp only [aUndo, hz_q]; rw [hkd, ← setN_26]; exact hM_q), ⟨(by simp [aUndo, hz_q, upd]), fun j h1 h2 h3 => by simp [upd, h1, h2, h3]⟩, (by repeat (first | assumption | exact eqx.rf | refine eqx.up ?_ (by decide))), hf_q⟩
theorem sp_isTray {Γ : gam} {z0 : sto} {n k : Nat} (hk : 1 ≤ k) (t : Int32) : Sp Γ (rmk k 0 0) uX8_isTray [.int t] z0 n (qP (bI (0 ≤ t.toInt64 ∧ t.toInt64 ≤ 3)) z0 n) := by
  refine sp_intro [some (.int t)] (by decide +kernel) rfl (Nat.le_of_ble_eq_true rfl) rfl ?_
  refine go_iload_n (pc := 0) dX8_isTray_0 rfl ?_
  refine go_i2l (pc := 1) dX8_isTray_1 ?_
  refine go_lconst (v := 0) (pc := 2) dX8_isTray_2 rfl ?_
  refine go_ldc2 (pc := 3) kw7_223 dX8_isTray_3 ?_
  refine go_S3P (pc := 6) s_X8_125 rfl rfl dX8_isTray_6 (sp_within (k := k - 1) _ _ _) ?_
  exact go_zretP (pc := 9) rfl (by first | rfl | exact nb_bI) dX8_isTray_9 (Nat.le_of_ble_eq_true rfl) (Nat.le_of_ble_eq_true rfl) rfl
theorem tw_no {t : Int32} (h : pN 4 t.toInt = none) : bI (0 ≤ t.toInt64 ∧ t.toInt64 ≤ 3) = 0 := bI_0.mpr fun hc_q => pN_none h (by have := (wi_iff (lo := 0) (m := 4) (by decide) (by decide) t).mp hc_q; omega)
theorem tw_yes {t : Int32} {j : Nat} (h : pN 4 t.toInt = some j) : bI (0 ≤ t.toInt64 ∧ t.toInt64 ≤ 3) = 1 := bI_t ((wi_iff (lo := 0) (m := 4) (by decide) (by decide) t).mpr (by have := pN_some h; omega))
theorem sp_trayFault {Γ : gam} {z0 : sto} {n k r : Nat} {F K : row} {A : Nat → row} {Nm : Nat → Int64} (hM_q : MoAt Γ z0 r F K A Nm) (hk : 2 ≤ k) (t : Int32) : Sp Γ (rmk k 0 0) uX8_trayFault [.ref r, .int t] z0 n (qP (tyF (A 14) t.toInt) z0 n) := by
  refine sp_intro [some (.ref r), some (.int t)] (by decide +kernel) rfl (Nat.le_of_ble_eq_true rfl) rfl ?_
  cases hz_q : pN 4 t.toInt with
  | none =>
    refine go_iload_n (pc := 0) dX8_trayFault_0 rfl ?_
    refine go_S1P (pc := 1) s_X8_349 rfl rfl dX8_trayFault_1 (sp_isTray (k := k - 1) (by omega) _) ?_
    refine go_if_ne (tgt := 11) (pc := 4) dX8_trayFault_4 (by decide) (fun h_4 => by exfalso; exact h_4 (tw_no hz_q)) (fun h_4 => ?_)
    refine go_iconst (v := 1) (pc := 7) dX8_trayFault_7 (by decide) ?_
    refine go_goto (tgt := 26) (pc := 8) dX8_trayFault_8 (by decide) ?_
    exact go_iretP (pc := 26) rfl dX8_trayFault_26 (Nat.le_of_ble_eq_true rfl) (Nat.le_of_ble_eq_true rfl) (by simp [tyF, hz_q])
  | some j1_q =>
    have hz1 := pN_some hz_q
    obtain rfl := I_nat hz1.1 (by omega)
    refine go_iload_n (pc := 0) dX8_trayFault_0 rfl ?_
    refine go_S1P (pc := 1) s_X8_349 rfl rfl dX8_trayFault_1 (sp_isTray (k := k - 1) (by omega) _) ?_
    refine go_if_ne (tgt := 11) (pc := 4) dX8_trayFault_4 (by decide) (fun h_4 => ?_) (fun h_4 => by exfalso; rw [tw_yes hz_q] at h_4; exact absurd h_4 (by decide))
    refine go_aload_n (pc := 11) dX8_trayFault_11 rfl ?_
    refine go_getf (pc := 12) f_X8_54 dX8_trayFault_12 (by first | exact mo0 hM_q | exact mo1 hM_q | exact mo6 hM_q | exact mo7 hM_q | exact mo8 hM_q | exact mo2 hM_q | exact mo3 hM_q | exact mo4 hM_q | exact mo5 hM_q | exact mo9 hM_q | exact mo10 hM_q | exact mo11 hM_q | exact mo12 hM_q | exact mo13 hM_q | exact mo14 hM_q | exact mo15 hM_q | exact mo16 hM_q) (by rfl) ?_
    refine go_iload_n (pc := 15) dX8_trayFault_15 rfl ?_
    refine go_iald (pc := 16) dX8_trayFault_16 (by first | exact mo0 hM_q | exact mo1 hM_q | exact mo6 hM_q | exact mo7 hM_q | exact mo8 hM_q | exact mo2 hM_q | exact mo3 hM_q | exact mo4 hM_q | exact mo5 hM_q | exact mo9 hM_q | exact mo10 hM_q | exact mo11 hM_q | exact mo12 hM_q | exact mo13 hM_q | exact mo14 hM_q | exact mo15 hM_q | exact mo16 hM_q) (by exact ⟨rfl, by omega⟩) ?_
    refine go_iconst (v := -1) (pc := 17) dX8_trayFault_17 (by decide) ?_
    refine go_icmp_ne (tgt := 25) (pc := 18) dX8_trayFault_18 (by decide) (fun h_18 => ?_) (fun h_18 => ?_)
    · refine go_iconst (v := 0) (pc := 25) dX8_trayFault_25 (by decide) ?_
      exact go_iretP (pc := 26) rfl dX8_trayFault_26 (Nat.le_of_ble_eq_true rfl) (Nat.le_of_ble_eq_true rfl) (by simp_all [tyF])
    · refine go_iconst (v := 2) (pc := 21) dX8_trayFault_21 (by decide) ?_
      refine go_goto (tgt := 26) (pc := 22) dX8_trayFault_22 (by decide) ?_
      exact go_iretP (pc := 26) rfl dX8_trayFault_26 (Nat.le_of_ble_eq_true rfl) (Nat.le_of_ble_eq_true rfl) (by simp_all [tyF])
theorem wl_iff {lo m : Int} {a b : Int64} (ha : a.toInt = lo) (hb_q : b.toInt = m) (z : Int64) : (a ≤ z ∧ z ≤ b) ↔ (lo ≤ z.toInt ∧ z.toInt ≤ m) := by
  rw [Int64.le_iff_toInt_le, Int64.le_iff_toInt_le, ha, hb_q]
theorem wl_no {lo m : Int} {a b z : Int64} (h : ¬ (lo ≤ z.toInt ∧ z.toInt ≤ m)) (ha : a.toInt = lo) (hb_q : b.toInt = m) : bI (a ≤ z ∧ z ≤ b) = 0 := bI_0.mpr fun hc_q => h ((wl_iff ha hb_q z).mp hc_q)
theorem wl_yes {lo m : Int} {a b z : Int64} (h : lo ≤ z.toInt ∧ z.toInt ≤ m) (ha : a.toInt = lo) (hb_q : b.toInt = m) : bI (a ≤ z ∧ z ≤ b) = 1 := bI_t ((wl_iff ha hb_q z).mpr h)
theorem tl_div : ∀ m : Fin 300, 100 ≤ m.val → ((((nI m.val).toInt64 - 100) / 10).toInt = ((m.val : Int) - 100) / 10) := by decide +kernel
theorem tl_div2 : ∀ m : Fin 300, 200 ≤ m.val → ((((nI m.val).toInt64 - 200) / 10).toInt = ((m.val : Int) - 200) / 10) := by decide +kernel
theorem tl_rem : ∀ m : Fin 300, ((nI m.val).toInt64 - (nI m.val).toInt64 / 10 * 10).toInt = (m.val : Int) % 10 := by decide +kernel
theorem told_d {v : Int64} (h : 100 ≤ v.toInt ∧ v.toInt ≤ 199) : ((v - 100) / 10).toInt = (v.toInt - 100) / 10 ∧ (v - v / 10 * 10).toInt = v.toInt % 10 := by
  obtain ⟨m, hm⟩ : ∃ m : Nat, v.toInt = (m : Int) := ⟨v.toInt.toNat, by omega⟩
  obtain rfl := L_nat hm (by omega)
  rw [hm] at h
  have a := tl_div ⟨m, by omega⟩ (by simp only; omega)
  have b := tl_rem ⟨m, by omega⟩
  rw [hm]
  exact ⟨a, b⟩
theorem told_d2 {v : Int64} (h : 200 ≤ v.toInt ∧ v.toInt ≤ 299) : ((v - 200) / 10).toInt = (v.toInt - 200) / 10 ∧ (v - v / 10 * 10).toInt = v.toInt % 10 := by
  obtain ⟨m, hm⟩ : ∃ m : Nat, v.toInt = (m : Int) := ⟨v.toInt.toNat, by omega⟩
  obtain rfl := L_nat hm (by omega)
  rw [hm] at h
  have a := tl_div2 ⟨m, by omega⟩ (by simp only; omega)
  have b := tl_rem ⟨m, by omega⟩
  rw [hm]
  exact ⟨a, b⟩
theorem sp_whyTold {Γ : gam} {z0 : sto} {n k r : Nat} {F K : row} {A : Nat → row} {Nm : Nat → Int64} (hM_q : MoAt Γ z0 r F K A Nm) (hk : 4 ≤ k) (hB_q : okB K) (z : Int64) : Sp Γ (rmk k 0 0) uX8_whyTold [.ref r, .long z] z0 n (qP (whyT K z.toInt) z0 n) := by
  refine sp_intro [some (.ref r), some (.long z), none] (by decide +kernel) rfl (Nat.le_of_ble_eq_true rfl) rfl ?_
  have em : z = -1 ↔ z.toInt = -1 := ⟨fun hc_q => by rw [hc_q]; decide, fun hc_q => Int64.toInt_inj.mp (by rw [hc_q]; decide)⟩
  by_cases qq1 : z.toInt = -1
  · refine go_lload_n (pc := 0) dX8_whyTold_0 rfl ?_
    refine go_ldc2 (pc := 1) kw7_232 dX8_whyTold_1 ?_
    refine go_lcmp (pc := 4) dX8_whyTold_4 ?_
    refine go_if_ne (tgt := 10) (pc := 5) dX8_whyTold_5 (by decide) (fun h_5 => by exfalso; exact h_5 ((lg_cmp_eq _ _).mpr (em.mpr qq1))) (fun h_5 => ?_)
    refine go_iconst (v := 0) (pc := 8) dX8_whyTold_8 (by decide) ?_
    exact go_iretP (pc := 9) rfl dX8_whyTold_9 (Nat.le_of_ble_eq_true rfl) (Nat.le_of_ble_eq_true rfl) (by rw [whyT, if_pos qq1])
  · by_cases qq2 : 0 ≤ z.toInt ∧ z.toInt ≤ 9
    · refine go_lload_n (pc := 0) dX8_whyTold_0 rfl ?_
      refine go_ldc2 (pc := 1) kw7_232 dX8_whyTold_1 ?_
      refine go_lcmp (pc := 4) dX8_whyTold_4 ?_
      refine go_if_ne (tgt := 10) (pc := 5) dX8_whyTold_5 (by decide) (fun h_5 => ?_) (fun h_5 => by exfalso; exact qq1 (em.mp ((lg_cmp_eq _ _).mp h_5)))
      refine go_lload_n (pc := 10) dX8_whyTold_10 rfl ?_
      refine go_lconst (v := 0) (pc := 11) dX8_whyTold_11 rfl ?_
      refine go_ldc2 (pc := 12) kw7_233 dX8_whyTold_12 ?_
      refine go_S3P (pc := 15) s_X8_125 rfl rfl dX8_whyTold_15 (sp_within (k := k - 1) _ _ _) ?_
      refine go_if_eq (tgt := 27) (pc := 18) dX8_whyTold_18 (by decide) (fun h_18 => by exfalso; rw [wl_yes qq2 (by decide) (by decide)] at h_18; exact absurd h_18 (by decide)) (fun h_18 => ?_)
      refine go_aload_n (pc := 21) dX8_whyTold_21 rfl ?_
      refine go_lload_n (pc := 22) dX8_whyTold_22 rfl ?_
      refine go_V1P (pc := 23) v_X8_324 rfl rfl (rcv_of (ci := 8) (by first | exact mo0 hM_q | exact mo1 hM_q | exact mo6 hM_q | exact mo7 hM_q | exact mo8 hM_q | exact mo2 hM_q | exact mo3 hM_q | exact mo4 hM_q | exact mo5 hM_q | exact mo9 hM_q | exact mo10 hM_q | exact mo11 hM_q | exact mo12 hM_q | exact mo13 hM_q | exact mo14 hM_q | exact mo15 hM_q | exact mo16 hM_q) rfl) dX8_whyTold_23 (sp_whyRise (k := k - 1) hM_q (by omega) hB_q _) ?_
      exact go_iretP (pc := 26) rfl dX8_whyTold_26 (Nat.le_of_ble_eq_true rfl) (Nat.le_of_ble_eq_true rfl) (by rw [whyT, if_neg qq1, if_pos qq2])
    · by_cases qq3 : 100 ≤ z.toInt ∧ z.toInt ≤ 199
      · refine go_lload_n (pc := 0) dX8_whyTold_0 rfl ?_
        refine go_ldc2 (pc := 1) kw7_232 dX8_whyTold_1 ?_
        refine go_lcmp (pc := 4) dX8_whyTold_4 ?_
        refine go_if_ne (tgt := 10) (pc := 5) dX8_whyTold_5 (by decide) (fun h_5 => ?_) (fun h_5 => by exfalso; exact qq1 (em.mp ((lg_cmp_eq _ _).mp h_5)))
        refine go_lload_n (pc := 10) dX8_whyTold_10 rfl ?_
        refine go_lconst (v := 0) (pc := 11) dX8_whyTold_11 rfl ?_
        refine go_ldc2 (pc := 12) kw7_233 dX8_whyTold_12 ?_
        refine go_S3P (pc := 15) s_X8_125 rfl rfl dX8_whyTold_15 (sp_within (k := k - 1) _ _ _) ?_
        refine go_if_eq (tgt := 27) (pc := 18) dX8_whyTold_18 (by decide) (fun h_18 => ?_) (fun h_18 => by exfalso; exact h_18 (wl_no qq2 (by decide) (by decide)))
        refine go_lload_n (pc := 27) dX8_whyTold_27 rfl ?_
        refine go_ldc2 (pc := 28) kw7_234 dX8_whyTold_28 ?_
        refine go_ldc2 (pc := 31) kw7_235 dX8_whyTold_31 ?_
        refine go_S3P (pc := 34) s_X8_125 rfl rfl dX8_whyTold_34 (sp_within (k := k - 1) _ _ _) ?_
        refine go_if_eq (tgt := 59) (pc := 37) dX8_whyTold_37 (by decide) (fun h_37 => by exfalso; rw [wl_yes qq3 (by decide) (by decide)] at h_37; exact absurd h_37 (by decide)) (fun h_37 => ?_)
        refine go_aload_n (pc := 40) dX8_whyTold_40 rfl ?_
        refine go_lload_n (pc := 41) dX8_whyTold_41 rfl ?_
        refine go_ldc2 (pc := 42) kw7_234 dX8_whyTold_42 ?_
        refine go_lsub (pc := 45) dX8_whyTold_45 ?_
        refine go_ldc2 (pc := 46) kw7_211 dX8_whyTold_46 ?_
        refine go_ldiv (pc := 49) dX8_whyTold_49 (by decide) ?_
        refine go_lload_n (pc := 50) dX8_whyTold_50 rfl ?_
        refine go_ldc2 (pc := 51) kw7_211 dX8_whyTold_51 ?_
        refine go_lrem (pc := 54) dX8_whyTold_54 (by decide) ?_
        refine go_V2P (pc := 55) v_X8_330 rfl rfl (rcv_of (ci := 8) (by first | exact mo0 hM_q | exact mo1 hM_q | exact mo6 hM_q | exact mo7 hM_q | exact mo8 hM_q | exact mo2 hM_q | exact mo3 hM_q | exact mo4 hM_q | exact mo5 hM_q | exact mo9 hM_q | exact mo10 hM_q | exact mo11 hM_q | exact mo12 hM_q | exact mo13 hM_q | exact mo14 hM_q | exact mo15 hM_q | exact mo16 hM_q) rfl) dX8_whyTold_55 (sp_whySit (k := k - 1) hM_q (by omega) hB_q _ _) ?_
        exact go_iretP (pc := 58) rfl dX8_whyTold_58 (Nat.le_of_ble_eq_true rfl) (Nat.le_of_ble_eq_true rfl) (by rw [whyT, if_neg qq1, if_neg qq2, if_pos qq3, (told_d qq3).1, (told_d qq3).2])
      · by_cases qq4 : 200 ≤ z.toInt ∧ z.toInt ≤ 299
        · refine go_lload_n (pc := 0) dX8_whyTold_0 rfl ?_
          refine go_ldc2 (pc := 1) kw7_232 dX8_whyTold_1 ?_
          refine go_lcmp (pc := 4) dX8_whyTold_4 ?_
          refine go_if_ne (tgt := 10) (pc := 5) dX8_whyTold_5 (by decide) (fun h_5 => ?_) (fun h_5 => by exfalso; exact qq1 (em.mp ((lg_cmp_eq _ _).mp h_5)))
          refine go_lload_n (pc := 10) dX8_whyTold_10 rfl ?_
          refine go_lconst (v := 0) (pc := 11) dX8_whyTold_11 rfl ?_
          refine go_ldc2 (pc := 12) kw7_233 dX8_whyTold_12 ?_
          refine go_S3P (pc := 15) s_X8_125 rfl rfl dX8_whyTold_15 (sp_within (k := k - 1) _ _ _) ?_
          refine go_if_eq (tgt := 27) (pc := 18) dX8_whyTold_18 (by decide) (fun h_18 => ?_) (fun h_18 => by exfalso; exact h_18 (wl_no qq2 (by decide) (by decide)))
          refine go_lload_n (pc := 27) dX8_whyTold_27 rfl ?_
          refine go_ldc2 (pc := 28) kw7_234 dX8_whyTold_28 ?_
          refine go_ldc2 (pc := 31) kw7_235 dX8_whyTold_31 ?_
          refine go_S3P (pc := 34) s_X8_125 rfl rfl dX8_whyTold_34 (sp_within (k := k - 1) _ _ _) ?_
          refine go_if_eq (tgt := 59) (pc := 37) dX8_whyTold_37 (by decide) (fun h_37 => ?_) (fun h_37 => by exfalso; exact h_37 (wl_no qq3 (by decide) (by decide)))
          refine go_lload_n (pc := 59) dX8_whyTold_59 rfl ?_
          refine go_ldc2 (pc := 60) kw7_236 dX8_whyTold_60 ?_
          refine go_ldc2 (pc := 63) kw7_237 dX8_whyTold_63 ?_
          refine go_S3P (pc := 66) s_X8_125 rfl rfl dX8_whyTold_66 (sp_within (k := k - 1) _ _ _) ?_
          refine go_if_eq (tgt := 93) (pc := 69) dX8_whyTold_69 (by decide) (fun h_69 => by exfalso; rw [wl_yes qq4 (by decide) (by decide)] at h_69; exact absurd h_69 (by decide)) (fun h_69 => ?_)
          refine go_aload_n (pc := 72) dX8_whyTold_72 rfl ?_
          refine go_lload_n (pc := 73) dX8_whyTold_73 rfl ?_
          refine go_ldc2 (pc := 74) kw7_236 dX8_whyTold_74 ?_
          refine go_lsub (pc := 77) dX8_whyTold_77 ?_
          refine go_ldc2 (pc := 78) kw7_211 dX8_whyTold_78 ?_
          refine go_ldiv (pc := 81) dX8_whyTold_81 (by decide) ?_
          refine go_lload_n (pc := 82) dX8_whyTold_82 rfl ?_
          refine go_ldc2 (pc := 83) kw7_211 dX8_whyTold_83 ?_
          refine go_lrem (pc := 86) dX8_whyTold_86 (by decide) ?_
          refine go_V2P (pc := 87) v_X8_334 rfl rfl (rcv_of (ci := 8) (by first | exact mo0 hM_q | exact mo1 hM_q | exact mo6 hM_q | exact mo7 hM_q | exact mo8 hM_q | exact mo2 hM_q | exact mo3 hM_q | exact mo4 hM_q | exact mo5 hM_q | exact mo9 hM_q | exact mo10 hM_q | exact mo11 hM_q | exact mo12 hM_q | exact mo13 hM_q | exact mo14 hM_q | exact mo15 hM_q | exact mo16 hM_q) rfl) dX8_whyTold_87 (sp_whySwap (k := k - 1) hM_q (by omega) hB_q _ _) ?_
          refine go_goto (tgt := 94) (pc := 90) dX8_whyTold_90 (by decide) ?_
          exact go_iretP (pc := 94) rfl dX8_whyTold_94 (Nat.le_of_ble_eq_true rfl) (Nat.le_of_ble_eq_true rfl) (by rw [whyT, if_neg qq1, if_neg qq2, if_neg qq3, if_pos qq4, (told_d2 qq4).1, (told_d2 qq4).2])
        · refine go_lload_n (pc := 0) dX8_whyTold_0 rfl ?_
          refine go_ldc2 (pc := 1) kw7_232 dX8_whyTold_1 ?_
          refine go_lcmp (pc := 4) dX8_whyTold_4 ?_
          refine go_if_ne (tgt := 10) (pc := 5) dX8_whyTold_5 (by decide) (fun h_5 => ?_) (fun h_5 => by exfalso; exact qq1 (em.mp ((lg_cmp_eq _ _).mp h_5)))
          refine go_lload_n (pc := 10) dX8_whyTold_10 rfl ?_
          refine go_lconst (v := 0) (pc := 11) dX8_whyTold_11 rfl ?_
          refine go_ldc2 (pc := 12) kw7_233 dX8_whyTold_12 ?_
          refine go_S3P (pc := 15) s_X8_125 rfl rfl dX8_whyTold_15 (sp_within (k := k - 1) _ _ _) ?_
          refine go_if_eq (tgt := 27) (pc := 18) dX8_whyTold_18 (by decide) (fun h_18 => ?_) (fun h_18 => by exfalso; exact h_18 (wl_no qq2 (by decide) (by decide)))
          refine go_lload_n (pc := 27) dX8_whyTold_27 rfl ?_
          refine go_ldc2 (pc := 28) kw7_234 dX8_whyTold_28 ?_
          refine go_ldc2 (pc := 31) kw7_235 dX8_whyTold_31 ?_
          refine go_S3P (pc := 34) s_X8_125 rfl rfl dX8_whyTold_34 (sp_within (k := k - 1) _ _ _) ?_
          refine go_if_eq (tgt := 59) (pc := 37) dX8_whyTold_37 (by decide) (fun h_37 => ?_) (fun h_37 => by exfalso; exact h_37 (wl_no qq3 (by decide) (by decide)))
          refine go_lload_n (pc := 59) dX8_whyTold_59 rfl ?_
          refine go_ldc2 (pc := 60) kw7_236 dX8_whyTold_60 ?_
          refine go_ldc2 (pc := 63) kw7_237 dX8_whyTold_63 ?_
          refine go_S3P (pc := 66) s_X8_125 rfl rfl dX8_whyTold_66 (sp_within (k := k - 1) _ _ _) ?_
          refine go_if_eq (tgt := 93) (pc := 69) dX8_whyTold_69 (by decide) (fun h_69 => ?_) (fun h_69 => by exfalso; exact h_69 (wl_no qq4 (by decide) (by decide)))
          refine go_iconst (v := 1) (pc := 93) dX8_whyTold_93 (by decide) ?_
          exact go_iretP (pc := 94) rfl dX8_whyTold_94 (Nat.le_of_ble_eq_true rfl) (Nat.le_of_ble_eq_true rfl) (by rw [whyT, if_neg qq1, if_neg qq2, if_neg qq3, if_neg qq4])
theorem td_div : ∀ m : Fin 300, (100 ≤ m.val → (nI m.val - 100) / 10 = nI ((m.val - 100) / 10)) ∧ (200 ≤ m.val → (nI m.val - 200) / 10 = nI ((m.val - 200) / 10)) ∧ nI m.val - nI m.val / 10 * 10 = nI (m.val % 10) := by decide +kernel
theorem td_s {j d : Nat} (hj_q : j < 10) (hd_q : d < 10) : (nI (100 + 10 * j + d) - 100) / 10 = nI j ∧ nI (100 + 10 * j + d) - nI (100 + 10 * j + d) / 10 * 10 = nI d := by
  have h := td_div ⟨100 + 10 * j + d, by omega⟩
  have a := h.1 (by simp only; omega)
  have b := h.2.2
  simp only at a b
  rw [a, b, show (100 + 10 * j + d - 100) / 10 = j by omega, show (100 + 10 * j + d) % 10 = d by omega]
  exact ⟨rfl, rfl⟩
theorem td_x {j d : Nat} (hj_q : j < 10) (hd_q : d < 10) : (nI (200 + 10 * j + d) - 200) / 10 = nI j ∧ nI (200 + 10 * j + d) - nI (200 + 10 * j + d) / 10 * 10 = nI d := by
  have h := td_div ⟨200 + 10 * j + d, by omega⟩
  have a := h.2.1 (by simp only; omega)
  have b := h.2.2
  simp only at a b
  rw [a, b, show (200 + 10 * j + d - 200) / 10 = j by omega, show (200 + 10 * j + d) % 10 = d by omega]
  exact ⟨rfl, rfl⟩
theorem sp_does {Γ : gam} {z0 : sto} {n k r : Nat} {F K : row} {A : Nat → row} {Nm : Nat → Int64} (hM_q : MoAt Γ z0 r F K A Nm) (hk : 8 ≤ k) (hB_q : okB K) (hv_q : vS K) {z : Int32} (hz_q : whyT K z.toInt = 0) : Sp Γ (rmk k 0 0) uX8_does [.ref r, .int z] z0 n (qV fun σ' n' => moJ Γ r F (doK K z.toInt) A Nm z0 n [6, 7] σ' n') := by
  have hP8 := hB_q.1.2.1
  have hH5 := hB_q.1.2.2.2.1
  have hW4 := hB_q.1.2.2.2.2.2
  have hA_q : eqx [6, 7] A A := eqx.rf
  have hf_q : fr r (r + 16) z0 z0 := fr.rf
  refine sp_intro [some (.ref r), some (.int z)] (by decide +kernel) rfl (Nat.le_of_ble_eq_true rfl) rfl ?_
  rcases told_c hz_q with e1 | ⟨j1_q, g1, g2, e1, g3, g4⟩ | ⟨j1_q, x1_q, g1, g2, g3, g4, e1, g5, g6⟩ | ⟨j1_q, x1_q, g1, g2, g3, g4, e1, g5, g6, g7⟩
  · obtain rfl : z = -1 := Int32.toInt_inj.mp (by rw [e1]; decide)
    refine go_iload_n (pc := 0) dX8_does_0 rfl ?_
    refine go_iconst (v := -1) (pc := 1) dX8_does_1 (by decide) ?_
    refine go_icmp_ne (tgt := 12) (pc := 2) dX8_does_2 (by decide) (fun h_2 => by exfalso; exact h_2 rfl) (fun h_2 => ?_)
    refine go_aload_n (pc := 5) dX8_does_5 rfl ?_
    refine go_V0V (pc := 6) v_X8_345 rfl rfl (rcv_of (ci := 8) (by first | exact mo0 hM_q | exact mo1 hM_q | exact mo6 hM_q | exact mo7 hM_q | exact mo8 hM_q | exact mo2 hM_q | exact mo3 hM_q | exact mo4 hM_q | exact mo5 hM_q | exact mo9 hM_q | exact mo10 hM_q | exact mo11 hM_q | exact mo12 hM_q | exact mo13 hM_q | exact mo14 hM_q | exact mo15 hM_q | exact mo16 hM_q) rfl) dX8_does_6 (sp_minute (k := k - 1) hM_q (by omega) hB_q hv_q) (fun σ n h => ?_)
    obtain ⟨rfl, A1, hM_q, hA1, hf1⟩ := h
    have hA_q := eqx.tr (L := [6, 7]) (by repeat (first | assumption | exact eqx.rf | refine eqx.up ?_ (by decide))) (hA1.wk (by decide))
    have hf_q := hf_q.tr hf1
    refine go_goto (tgt := 70) (pc := 9) dX8_does_9 (by decide) ?_
    exact go_vretV (pc := 70) rfl dX8_does_70 (Nat.le_of_ble_eq_true rfl) (Nat.le_of_ble_eq_true rfl) ⟨rfl, _, (by rw [e1, do_m]; exact hM_q), hA_q, hf_q⟩
  · obtain rfl := I_nat e1 (by omega)
    refine go_iload_n (pc := 0) dX8_does_0 rfl ?_
    refine go_iconst (v := -1) (pc := 1) dX8_does_1 (by decide) ?_
    refine go_icmp_ne (tgt := 12) (pc := 2) dX8_does_2 (by decide) (fun h_2 => ?_) (fun h_2 => by exfalso; exact absurd h_2 (nI_ne1 (by omega)))
    refine go_iload_n (pc := 12) dX8_does_12 rfl ?_
    refine go_bipush (v := 10) (pc := 13) dX8_does_13 (by decide) ?_
    refine go_icmp_ge (tgt := 28) (pc := 15) dX8_does_15 (by decide) (fun h_15 => by exfalso; exact absurd h_15 (nI_ge (b := 10) (by omega) (by decide))) (fun h_15 => ?_)
    refine go_aload_n (pc := 18) dX8_does_18 rfl ?_
    refine go_iload_n (pc := 19) dX8_does_19 rfl ?_
    refine go_iconst (v := -1) (pc := 20) dX8_does_20 (by decide) ?_
    refine go_V2I (pc := 21) v_X8_302 rfl rfl (rcv_of (ci := 8) (by first | exact mo0 hM_q | exact mo1 hM_q | exact mo6 hM_q | exact mo7 hM_q | exact mo8 hM_q | exact mo2 hM_q | exact mo3 hM_q | exact mo4 hM_q | exact mo5 hM_q | exact mo9 hM_q | exact mo10 hM_q | exact mo11 hM_q | exact mo12 hM_q | exact mo13 hM_q | exact mo14 hM_q | exact mo15 hM_q | exact mo16 hM_q) rfl) dX8_does_21 (sp_rises (k := k - 1) hM_q (by omega) hB_q hv_q (by omega) (by assumption) _) (fun v_21 σ n h => ?_)
    obtain ⟨rfl, rfl, A1, hM_q, hA1, hf1⟩ := h
    have hA_q := eqx.tr (L := [6, 7]) (by repeat (first | assumption | exact eqx.rf | refine eqx.up ?_ (by decide))) (hA1.wk (by decide))
    have hf_q := hf_q.tr hf1
    refine go_pop (pc := 24) dX8_does_24 rfl ?_
    refine go_goto (tgt := 70) (pc := 25) dX8_does_25 (by decide) ?_
    exact go_vretV (pc := 70) rfl dX8_does_70 (Nat.le_of_ble_eq_true rfl) (Nat.le_of_ble_eq_true rfl) ⟨rfl, _, (by rw [e1, do_r g2]; exact hM_q), hA_q, hf_q⟩
  · obtain rfl : z = nI (100 + 10 * j1_q + x1_q) := I_nat (by rw [e1]; omega) (by omega)
    refine go_iload_n (pc := 0) dX8_does_0 rfl ?_
    refine go_iconst (v := -1) (pc := 1) dX8_does_1 (by decide) ?_
    refine go_icmp_ne (tgt := 12) (pc := 2) dX8_does_2 (by decide) (fun h_2 => ?_) (fun h_2 => by exfalso; exact absurd h_2 (nI_ne1 (by omega)))
    refine go_iload_n (pc := 12) dX8_does_12 rfl ?_
    refine go_bipush (v := 10) (pc := 13) dX8_does_13 (by decide) ?_
    refine go_icmp_ge (tgt := 28) (pc := 15) dX8_does_15 (by decide) (fun h_15 => ?_) (fun h_15 => by exfalso; exact h_15 (nI_le (a := 10) (by omega) (by omega)))
    refine go_iload_n (pc := 28) dX8_does_28 rfl ?_
    refine go_sipush (v := 200) (pc := 29) dX8_does_29 (by decide) ?_
    refine go_icmp_ge (tgt := 54) (pc := 32) dX8_does_32 (by decide) (fun h_32 => by exfalso; exact absurd h_32 (nI_ge (b := 200) (by omega) (by decide))) (fun h_32 => ?_)
    refine go_aload_n (pc := 35) dX8_does_35 rfl ?_
    refine go_iload_n (pc := 36) dX8_does_36 rfl ?_
    refine go_bipush (v := 100) (pc := 37) dX8_does_37 (by decide) ?_
    refine go_isub (pc := 39) dX8_does_39 ?_
    refine go_bipush (v := 10) (pc := 40) dX8_does_40 (by decide) ?_
    refine go_idiv (pc := 42) dX8_does_42 (by decide) ?_
    refine go_iload_n (pc := 43) dX8_does_43 rfl ?_
    refine go_bipush (v := 10) (pc := 44) dX8_does_44 (by decide) ?_
    refine go_irem (pc := 46) dX8_does_46 (by decide) ?_
    rw [(td_s g3 g4).1, (td_s g3 g4).2]
    refine go_V2I (pc := 47) v_X8_299 rfl rfl (rcv_of (ci := 8) (by first | exact mo0 hM_q | exact mo1 hM_q | exact mo6 hM_q | exact mo7 hM_q | exact mo8 hM_q | exact mo2 hM_q | exact mo3 hM_q | exact mo4 hM_q | exact mo5 hM_q | exact mo9 hM_q | exact mo10 hM_q | exact mo11 hM_q | exact mo12 hM_q | exact mo13 hM_q | exact mo14 hM_q | exact mo15 hM_q | exact mo16 hM_q) rfl) dX8_does_47 (sp_sitsDown (k := k - 1) hM_q (by omega) hB_q _ (by omega)) (fun v_47 σ n h => ?_)
    obtain ⟨rfl, rfl, A1, hM_q, hA1, hf1⟩ := h
    have hA_q := eqx.tr (L := [6, 7]) (by repeat (first | assumption | exact eqx.rf | refine eqx.up ?_ (by decide))) (hA1.wk (by decide))
    have hf_q := hf_q.tr hf1
    refine go_pop (pc := 50) dX8_does_50 rfl ?_
    refine go_goto (tgt := 70) (pc := 51) dX8_does_51 (by decide) ?_
    exact go_vretV (pc := 70) rfl dX8_does_70 (Nat.le_of_ble_eq_true rfl) (Nat.le_of_ble_eq_true rfl) ⟨rfl, _, (by rw [e1, do_s g3 g4]; exact hM_q), hA_q, hf_q⟩
  · obtain rfl : z = nI (200 + 10 * j1_q + x1_q) := I_nat (by rw [e1]; omega) (by omega)
    refine go_iload_n (pc := 0) dX8_does_0 rfl ?_
    refine go_iconst (v := -1) (pc := 1) dX8_does_1 (by decide) ?_
    refine go_icmp_ne (tgt := 12) (pc := 2) dX8_does_2 (by decide) (fun h_2 => ?_) (fun h_2 => by exfalso; exact absurd h_2 (nI_ne1 (by omega)))
    refine go_iload_n (pc := 12) dX8_does_12 rfl ?_
    refine go_bipush (v := 10) (pc := 13) dX8_does_13 (by decide) ?_
    refine go_icmp_ge (tgt := 28) (pc := 15) dX8_does_15 (by decide) (fun h_15 => ?_) (fun h_15 => by exfalso; exact h_15 (nI_le (a := 10) (by omega) (by omega)))
    refine go_iload_n (pc := 28) dX8_does_28 rfl ?_
    refine go_sipush (v := 200) (pc := 29) dX8_does_29 (by decide) ?_
    refine go_icmp_ge (tgt := 54) (pc := 32) dX8_does_32 (by decide) (fun h_32 => ?_) (fun h_32 => by exfalso; exact h_32 (nI_le (a := 200) (by omega) (by omega)))
    refine go_aload_n (pc := 54) dX8_does_54 rfl ?_
    refine go_iload_n (pc := 55) dX8_does_55 rfl ?_
    refine go_sipush (v := 200) (pc := 56) dX8_does_56 (by decide) ?_
    refine go_isub (pc := 59) dX8_does_59 ?_
    refine go_bipush (v := 10) (pc := 60) dX8_does_60 (by decide) ?_
    refine go_idiv (pc := 62) dX8_does_62 (by decide) ?_
    refine go_iload_n (pc := 63) dX8_does_63 rfl ?_
    refine go_bipush (v := 10) (pc := 64) dX8_does_64 (by decide) ?_
    refine go_irem (pc := 66) dX8_does_66 (by decide) ?_
    rw [(td_x g3 g4).1, (td_x g3 g4).2]
    refine go_V2V (pc := 67) v_X8_337 rfl rfl (rcv_of (ci := 8) (by first | exact mo0 hM_q | exact mo1 hM_q | exact mo6 hM_q | exact mo7 hM_q | exact mo8 hM_q | exact mo2 hM_q | exact mo3 hM_q | exact mo4 hM_q | exact mo5 hM_q | exact mo9 hM_q | exact mo10 hM_q | exact mo11 hM_q | exact mo12 hM_q | exact mo13 hM_q | exact mo14 hM_q | exact mo15 hM_q | exact mo16 hM_q) rfl) dX8_does_67 (sp_swaps (k := k - 1) hM_q (by omega) (by omega)) (fun σ n h => ?_)
    obtain ⟨rfl, A1, hM_q, hA1, hf1⟩ := h
    have hA_q := eqx.tr (L := [6, 7]) (by repeat (first | assumption | exact eqx.rf | refine eqx.up ?_ (by decide))) (hA1.wk (by decide))
    have hf_q := hf_q.tr hf1
    exact go_vretV (pc := 70) rfl dX8_does_70 (Nat.le_of_ble_eq_true rfl) (Nat.le_of_ble_eq_true rfl) ⟨rfl, _, (by rw [e1, do_x g3 g4]; exact hM_q), hA_q, hf_q⟩
