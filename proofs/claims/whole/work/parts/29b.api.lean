/-! ===== the reference: its first calls ===== -/
theorem sp_chair {Γ : gam} {z0 : sto} {n k r : Nat} {F K : row} {A : Nat → row} {Nm : Nat → Int64} (hM : MoAt Γ z0 r F K A Nm) (hk : 12 ≤ k) (hB : okB K) (hv : vS K) (c w : Int32) : Sp Γ (rmk k 0 0) uX8_chair [.ref r, .int c, .int w] z0 n (qI fun v σ' n' => v = (aChair K c.toInt w.toInt).2 ∧ apJ Γ r F K A Nm z0 n (aChair K c.toInt w.toInt).1 σ' n') := by
  have hP8 := hB.1.2.1
  have hH5 := hB.1.2.2.2.1
  have hW4 := hB.1.2.2.2.2.2
  have hA : eqx [6, 7, 8, 9, 10, 11, 12, 13] A A := eqx.rf
  have hf : fr r (r + 16) z0 z0 := fr.rf
  refine sp_intro [some (.ref r), some (.int c), some (.int w)] (by decide +kernel) rfl (Nat.le_of_ble_eq_true rfl) rfl ?_
  cases hc : chK K c.toInt w.toInt with
  | none =>
    refine go_aload_n (pc := 0) dX8_chair_0 rfl ?_
    refine go_iconst (v := 0) (pc := 1) dX8_chair_1 (by decide) ?_
    refine go_mpf4 (pc := 2) hM dX8_chair_2 (fun σ hM hf9 => ?_)
    have hf := hf.tr hf9
    refine go_aload_n (pc := 5) dX8_chair_5 rfl ?_
    refine go_iload_n (pc := 6) dX8_chair_6 rfl ?_
    refine go_iload_n (pc := 7) dX8_chair_7 rfl ?_
    refine go_V2P (pc := 8) v_X8_307 rfl rfl (rcv_of (ci := 8) (by first | exact mo0 hM | exact mo1 hM | exact mo6 hM | exact mo7 hM | exact mo8 hM | exact mo2 hM | exact mo3 hM | exact mo4 hM | exact mo5 hM | exact mo9 hM | exact mo10 hM | exact mo11 hM | exact mo12 hM | exact mo13 hM | exact mo14 hM | exact mo15 hM | exact mo16 hM) rfl) dX8_chair_8 (sp_isChair (k := k - 1) hM (by omega) _ _) ?_
    refine go_if_eq (tgt := 23) (pc := 11) dX8_chair_11 (by decide) (fun h_11 => ?_) (fun h_11 => by exfalso; exact h_11 (ch_no hB.1 hc))
    refine go_aload_n (pc := 23) dX8_chair_23 rfl ?_
    refine go_iconst (v := 1) (pc := 24) dX8_chair_24 (by decide) ?_
    refine go_V1I (pc := 25) v_X8_231 rfl rfl (rcv_of (ci := 8) (by first | exact mo0 hM | exact mo1 hM | exact mo6 hM | exact mo7 hM | exact mo8 hM | exact mo2 hM | exact mo3 hM | exact mo4 hM | exact mo5 hM | exact mo9 hM | exact mo10 hM | exact mo11 hM | exact mo12 hM | exact mo13 hM | exact mo14 hM | exact mo15 hM | exact mo16 hM) rfl) dX8_chair_25 (sp_fails (k := k - 1) hM _) (fun v_25 σ n h => ?_)
    obtain ⟨rfl, rfl, A1, hM, hA1, hf1⟩ := h
    have hA := eqx.tr (L := [6, 7, 8, 9, 10, 11, 12, 13]) (by repeat (first | assumption | exact eqx.rf | refine eqx.up ?_ (by decide))) (hA1.wk (by decide))
    have hf := hf.tr hf1
    exact go_iretI (pc := 28) rfl dX8_chair_28 (Nat.le_of_ble_eq_true rfl) (Nat.le_of_ble_eq_true rfl) ⟨(by simp [aChair, hc]), rfl, _, _, hM, ⟨(by simp [upd, aChair, hc]), fun j h1 h2 h3 => by simp [upd, h1, h2, h3]⟩, (by repeat (first | assumption | exact eqx.rf | refine eqx.up ?_ (by decide))), hf⟩
  | some hcab =>
    obtain ⟨a1, b1⟩ := hcab
    have hc1 := pN_some (chK_some hc).1
    have hc2 := pN_some (chK_some hc).2
    obtain rfl := I_nat hc1.1 (by omega)
    obtain rfl := I_nat hc2.1 (by omega)
    refine go_aload_n (pc := 0) dX8_chair_0 rfl ?_
    refine go_iconst (v := 0) (pc := 1) dX8_chair_1 (by decide) ?_
    refine go_mpf4 (pc := 2) hM dX8_chair_2 (fun σ hM hf9 => ?_)
    have hf := hf.tr hf9
    refine go_aload_n (pc := 5) dX8_chair_5 rfl ?_
    refine go_iload_n (pc := 6) dX8_chair_6 rfl ?_
    refine go_iload_n (pc := 7) dX8_chair_7 rfl ?_
    refine go_V2P (pc := 8) v_X8_307 rfl rfl (rcv_of (ci := 8) (by first | exact mo0 hM | exact mo1 hM | exact mo6 hM | exact mo7 hM | exact mo8 hM | exact mo2 hM | exact mo3 hM | exact mo4 hM | exact mo5 hM | exact mo9 hM | exact mo10 hM | exact mo11 hM | exact mo12 hM | exact mo13 hM | exact mo14 hM | exact mo15 hM | exact mo16 hM) rfl) dX8_chair_8 (sp_isChair (k := k - 1) hM (by omega) _ _) ?_
    refine go_if_eq (tgt := 23) (pc := 11) dX8_chair_11 (by decide) (fun h_11 => by exfalso; rw [ch_yes hB.1 hc] at h_11; exact absurd h_11 (by decide)) (fun h_11 => ?_)
    refine go_aload_n (pc := 14) dX8_chair_14 rfl ?_
    refine go_iload_n (pc := 15) dX8_chair_15 rfl ?_
    refine go_iload_n (pc := 16) dX8_chair_16 rfl ?_
    refine go_V2P (pc := 17) v_X8_280 rfl rfl (rcv_of (ci := 8) (by first | exact mo0 hM | exact mo1 hM | exact mo6 hM | exact mo7 hM | exact mo8 hM | exact mo2 hM | exact mo3 hM | exact mo4 hM | exact mo5 hM | exact mo9 hM | exact mo10 hM | exact mo11 hM | exact mo12 hM | exact mo13 hM | exact mo14 hM | exact mo15 hM | exact mo16 hM) rfl) dX8_chair_17 (sp_sitter (k := k - 1) hM (by omega) hB.1 _ _) ?_
    refine go_goto (tgt := 28) (pc := 20) dX8_chair_20 (by decide) ?_
    exact go_iretI (pc := 28) rfl dX8_chair_28 (Nat.le_of_ble_eq_true rfl) (Nat.le_of_ble_eq_true rfl) ⟨(by simp [aChair, hc]), rfl, _, _, hM, ⟨(by simp [upd, aChair, hc]), fun j h1 h2 h3 => by simp [upd, h1, h2, h3]⟩, (by repeat (first | assumption | exact eqx.rf | refine eqx.up ?_ (by decide))), hf⟩
theorem sp_tide {Γ : gam} {z0 : sto} {n k r : Nat} {F K : row} {A : Nat → row} {Nm : Nat → Int64} (hM : MoAt Γ z0 r F K A Nm) (hk : 12 ≤ k) (hB : okB K) (hv : vS K) (z : Int32) : Sp Γ (rmk k 0 0) uX8_tide [.ref r, .int z] z0 n (qI fun v σ' n' => v = (aTide K z.toInt).2 ∧ apJ Γ r F K A Nm z0 n (aTide K z.toInt).1 σ' n') := by
  have hP8 := hB.1.2.1
  have hH5 := hB.1.2.2.2.1
  have hW4 := hB.1.2.2.2.2.2
  have hA : eqx [6, 7, 8, 9, 10, 11, 12, 13] A A := eqx.rf
  have hf : fr r (r + 16) z0 z0 := fr.rf
  refine sp_intro [some (.ref r), some (.int z)] (by decide +kernel) rfl (Nat.le_of_ble_eq_true rfl) rfl ?_
  cases hz : rN 0 1000 z.toInt with
  | none =>
    refine go_aload_n (pc := 0) dX8_tide_0 rfl ?_
    refine go_iconst (v := 0) (pc := 1) dX8_tide_1 (by decide) ?_
    refine go_mpf4 (pc := 2) hM dX8_tide_2 (fun σ hM hf9 => ?_)
    have hf := hf.tr hf9
    refine go_iload_n (pc := 5) dX8_tide_5 rfl ?_
    refine go_i2l (pc := 6) dX8_tide_6 ?_
    refine go_lconst (v := 0) (pc := 7) dX8_tide_7 rfl ?_
    refine go_ldc2 (pc := 8) kw7_98 dX8_tide_8 ?_
    refine go_S3P (pc := 11) s_X8_125 rfl rfl dX8_tide_11 (sp_within (k := k - 1) _ _ _) ?_
    refine go_if_eq (tgt := 33) (pc := 14) dX8_tide_14 (by decide) (fun h_14 => ?_) (fun h_14 => by exfalso; exact h_14 (wi_no hz (by decide) (by decide)))
    refine go_aload_n (pc := 33) dX8_tide_33 rfl ?_
    refine go_iconst (v := 1) (pc := 34) dX8_tide_34 (by decide) ?_
    refine go_V1I (pc := 35) v_X8_231 rfl rfl (rcv_of (ci := 8) (by first | exact mo0 hM | exact mo1 hM | exact mo6 hM | exact mo7 hM | exact mo8 hM | exact mo2 hM | exact mo3 hM | exact mo4 hM | exact mo5 hM | exact mo9 hM | exact mo10 hM | exact mo11 hM | exact mo12 hM | exact mo13 hM | exact mo14 hM | exact mo15 hM | exact mo16 hM) rfl) dX8_tide_35 (sp_fails (k := k - 1) hM _) (fun v_35 σ n h => ?_)
    obtain ⟨rfl, rfl, A1, hM, hA1, hf1⟩ := h
    have hA := eqx.tr (L := [6, 7, 8, 9, 10, 11, 12, 13]) (by repeat (first | assumption | exact eqx.rf | refine eqx.up ?_ (by decide))) (hA1.wk (by decide))
    have hf := hf.tr hf1
    exact go_iretI (pc := 38) rfl dX8_tide_38 (Nat.le_of_ble_eq_true rfl) (Nat.le_of_ble_eq_true rfl) ⟨(by simp [aTide, hz]), rfl, _, _, hM, ⟨(by simp [upd, aTide, hz]), fun j h1 h2 h3 => by simp [upd, h1, h2, h3]⟩, (by repeat (first | assumption | exact eqx.rf | refine eqx.up ?_ (by decide))), hf⟩
  | some j1 =>
    have hz1 := rN_some hz
    obtain rfl := I_nat hz1.1 (by omega)
    refine go_aload_n (pc := 0) dX8_tide_0 rfl ?_
    refine go_iconst (v := 0) (pc := 1) dX8_tide_1 (by decide) ?_
    refine go_mpf4 (pc := 2) hM dX8_tide_2 (fun σ hM hf9 => ?_)
    have hf := hf.tr hf9
    refine go_iload_n (pc := 5) dX8_tide_5 rfl ?_
    refine go_i2l (pc := 6) dX8_tide_6 ?_
    refine go_lconst (v := 0) (pc := 7) dX8_tide_7 rfl ?_
    refine go_ldc2 (pc := 8) kw7_98 dX8_tide_8 ?_
    refine go_S3P (pc := 11) s_X8_125 rfl rfl dX8_tide_11 (sp_within (k := k - 1) _ _ _) ?_
    refine go_if_eq (tgt := 33) (pc := 14) dX8_tide_14 (by decide) (fun h_14 => by exfalso; rw [wi_yes hz (by decide) (by decide)] at h_14; exact absurd h_14 (by decide)) (fun h_14 => ?_)
    refine go_aload_n (pc := 17) dX8_tide_17 rfl ?_
    refine go_aload_n (pc := 18) dX8_tide_18 rfl ?_
    refine go_getf (pc := 19) f_X8_9 dX8_tide_19 (by first | exact mo0 hM | exact mo1 hM | exact mo6 hM | exact mo7 hM | exact mo8 hM | exact mo2 hM | exact mo3 hM | exact mo4 hM | exact mo5 hM | exact mo9 hM | exact mo10 hM | exact mo11 hM | exact mo12 hM | exact mo13 hM | exact mo14 hM | exact mo15 hM | exact mo16 hM) (by rfl) ?_
    refine go_bipush (v := 33) (pc := 22) dX8_tide_22 (by decide) ?_
    refine go_iald (j := 33) (pc := 24) dX8_tide_24 (by first | exact mo0 hM | exact mo1 hM | exact mo6 hM | exact mo7 hM | exact mo8 hM | exact mo2 hM | exact mo3 hM | exact mo4 hM | exact mo5 hM | exact mo9 hM | exact mo10 hM | exact mo11 hM | exact mo12 hM | exact mo13 hM | exact mo14 hM | exact mo15 hM | exact mo16 hM) (by exact ⟨rfl, by decide⟩) ?_
    refine go_iload_n (pc := 25) dX8_tide_25 rfl ?_
    refine go_iadd (pc := 26) dX8_tide_26 ?_
    refine go_V1I (pc := 27) v_X8_304 rfl rfl (rcv_of (ci := 8) (by first | exact mo0 hM | exact mo1 hM | exact mo6 hM | exact mo7 hM | exact mo8 hM | exact mo2 hM | exact mo3 hM | exact mo4 hM | exact mo5 hM | exact mo9 hM | exact mo10 hM | exact mo11 hM | exact mo12 hM | exact mo13 hM | exact mo14 hM | exact mo15 hM | exact mo16 hM) rfl) dX8_tide_27 (sp_tideIn (k := k - 1) hM (by omega) _ hB.2.2.1) (fun v_27 σ n h => ?_)
    obtain ⟨rfl, rfl, A1, hM, hA1, hf1⟩ := h
    have hA := eqx.tr (L := [6, 7, 8, 9, 10, 11, 12, 13]) (by repeat (first | assumption | exact eqx.rf | refine eqx.up ?_ (by decide))) (hA1.wk (by decide))
    have hf := hf.tr hf1
    refine go_goto (tgt := 38) (pc := 30) dX8_tide_30 (by decide) ?_
    exact go_iretI (pc := 38) rfl dX8_tide_38 (Nat.le_of_ble_eq_true rfl) (Nat.le_of_ble_eq_true rfl) ⟨(by simp [aTide, hz]), rfl, _, _, hM, ⟨(by simp [upd, aTide, hz]), fun j h1 h2 h3 => by simp [upd, h1, h2, h3]⟩, (by repeat (first | assumption | exact eqx.rf | refine eqx.up ?_ (by decide))), hf⟩
theorem sp_wets {Γ : gam} {z0 : sto} {n k r : Nat} {F K : row} {A : Nat → row} {Nm : Nat → Int64} (hM : MoAt Γ z0 r F K A Nm) (hk : 12 ≤ k) (hB : okB K) (hv : vS K) (c w z : Int32) : Sp Γ (rmk k 0 0) uX8_wets [.ref r, .int c, .int w, .int z] z0 n (qI fun v σ' n' => v = (aWets K c.toInt w.toInt z.toInt).2 ∧ apJ Γ r F K A Nm z0 n (aWets K c.toInt w.toInt z.toInt).1 σ' n') := by
  have hP8 := hB.1.2.1
  have hH5 := hB.1.2.2.2.1
  have hW4 := hB.1.2.2.2.2.2
  have hA : eqx [6, 7, 8, 9, 10, 11, 12, 13] A A := eqx.rf
  have hf : fr r (r + 16) z0 z0 := fr.rf
  refine sp_intro [some (.ref r), some (.int c), some (.int w), some (.int z)] (by decide +kernel) rfl (Nat.le_of_ble_eq_true rfl) rfl ?_
  cases hc : chK K c.toInt w.toInt with
  | none =>
    refine go_aload_n (pc := 0) dX8_wets_0 rfl ?_
    refine go_aload_n (pc := 1) dX8_wets_1 rfl ?_
    refine go_iload_n (pc := 2) dX8_wets_2 rfl ?_
    refine go_iload_n (pc := 3) dX8_wets_3 rfl ?_
    refine go_V2P (pc := 4) v_X8_307 rfl rfl (rcv_of (ci := 8) (by first | exact mo0 hM | exact mo1 hM | exact mo6 hM | exact mo7 hM | exact mo8 hM | exact mo2 hM | exact mo3 hM | exact mo4 hM | exact mo5 hM | exact mo9 hM | exact mo10 hM | exact mo11 hM | exact mo12 hM | exact mo13 hM | exact mo14 hM | exact mo15 hM | exact mo16 hM) rfl) dX8_wets_4 (sp_isChair (k := k - 1) hM (by omega) _ _) ?_
    refine go_if_ne (tgt := 14) (pc := 7) dX8_wets_7 (by decide) (fun h_7 => by exfalso; exact h_7 (ch_no hB.1 hc)) (fun h_7 => ?_)
    refine go_iconst (v := 1) (pc := 10) dX8_wets_10 (by decide) ?_
    refine go_goto (tgt := 31) (pc := 11) dX8_wets_11 (by decide) ?_
    refine go_mpf4 (pc := 31) hM dX8_wets_31 (fun σ hM hf9 => ?_)
    have hf := hf.tr hf9
    refine go_aload_n (pc := 34) dX8_wets_34 rfl ?_
    refine go_getf (pc := 35) f_X8_64 dX8_wets_35 (by first | exact mo0 hM | exact mo1 hM | exact mo6 hM | exact mo7 hM | exact mo8 hM | exact mo2 hM | exact mo3 hM | exact mo4 hM | exact mo5 hM | exact mo9 hM | exact mo10 hM | exact mo11 hM | exact mo12 hM | exact mo13 hM | exact mo14 hM | exact mo15 hM | exact mo16 hM) (by rfl) ?_
    refine go_if_le (tgt := 45) (pc := 38) dX8_wets_38 (by decide) (fun h_38 => by exfalso; exact absurd (show (1 : Int32) ≤ 0 from h_38) (by decide)) (fun h_38 => ?_)
    refine go_iconst (v := 0) (pc := 41) dX8_wets_41 (by decide) ?_
    refine go_goto (tgt := 60) (pc := 42) dX8_wets_42 (by decide) ?_
    exact go_iretI (pc := 60) rfl dX8_wets_60 (Nat.le_of_ble_eq_true rfl) (Nat.le_of_ble_eq_true rfl) ⟨(by simp [aWets, hc]), rfl, _, _, hM, ⟨(by simp [upd, aWets, hc]), fun j h1 h2 h3 => by simp [upd, h1, h2, h3]⟩, (by repeat (first | assumption | exact eqx.rf | refine eqx.up ?_ (by decide))), hf⟩
  | some hcab =>
    obtain ⟨a1, b1⟩ := hcab
    have hc1 := pN_some (chK_some hc).1
    have hc2 := pN_some (chK_some hc).2
    obtain rfl := I_nat hc1.1 (by omega)
    obtain rfl := I_nat hc2.1 (by omega)
    cases hz : rN 0 1000 z.toInt with
    | none =>
      refine go_aload_n (pc := 0) dX8_wets_0 rfl ?_
      refine go_aload_n (pc := 1) dX8_wets_1 rfl ?_
      refine go_iload_n (pc := 2) dX8_wets_2 rfl ?_
      refine go_iload_n (pc := 3) dX8_wets_3 rfl ?_
      refine go_V2P (pc := 4) v_X8_307 rfl rfl (rcv_of (ci := 8) (by first | exact mo0 hM | exact mo1 hM | exact mo6 hM | exact mo7 hM | exact mo8 hM | exact mo2 hM | exact mo3 hM | exact mo4 hM | exact mo5 hM | exact mo9 hM | exact mo10 hM | exact mo11 hM | exact mo12 hM | exact mo13 hM | exact mo14 hM | exact mo15 hM | exact mo16 hM) rfl) dX8_wets_4 (sp_isChair (k := k - 1) hM (by omega) _ _) ?_
      refine go_if_ne (tgt := 14) (pc := 7) dX8_wets_7 (by decide) (fun h_7 => ?_) (fun h_7 => by exfalso; rw [ch_yes hB.1 hc] at h_7; exact absurd h_7 (by decide))
      refine go_iload_n (pc := 14) dX8_wets_14 rfl ?_
      refine go_i2l (pc := 15) dX8_wets_15 ?_
      refine go_lconst (v := 0) (pc := 16) dX8_wets_16 rfl ?_
      refine go_ldc2 (pc := 17) kw7_98 dX8_wets_17 ?_
      refine go_S3P (pc := 20) s_X8_125 rfl rfl dX8_wets_20 (sp_within (k := k - 1) _ _ _) ?_
      refine go_if_eq (tgt := 30) (pc := 23) dX8_wets_23 (by decide) (fun h_23 => ?_) (fun h_23 => by exfalso; exact h_23 (wi_no hz (by decide) (by decide)))
      refine go_iconst (v := 2) (pc := 30) dX8_wets_30 (by decide) ?_
      refine go_mpf4 (pc := 31) hM dX8_wets_31 (fun σ hM hf9 => ?_)
      have hf := hf.tr hf9
      refine go_aload_n (pc := 34) dX8_wets_34 rfl ?_
      refine go_getf (pc := 35) f_X8_64 dX8_wets_35 (by first | exact mo0 hM | exact mo1 hM | exact mo6 hM | exact mo7 hM | exact mo8 hM | exact mo2 hM | exact mo3 hM | exact mo4 hM | exact mo5 hM | exact mo9 hM | exact mo10 hM | exact mo11 hM | exact mo12 hM | exact mo13 hM | exact mo14 hM | exact mo15 hM | exact mo16 hM) (by rfl) ?_
      refine go_if_le (tgt := 45) (pc := 38) dX8_wets_38 (by decide) (fun h_38 => by exfalso; exact absurd (show (2 : Int32) ≤ 0 from h_38) (by decide)) (fun h_38 => ?_)
      refine go_iconst (v := 0) (pc := 41) dX8_wets_41 (by decide) ?_
      refine go_goto (tgt := 60) (pc := 42) dX8_wets_42 (by decide) ?_
      exact go_iretI (pc := 60) rfl dX8_wets_60 (Nat.le_of_ble_eq_true rfl) (Nat.le_of_ble_eq_true rfl) ⟨(by simp [aWets, hc, hz]), rfl, _, _, hM, ⟨(by simp [upd, aWets, hc, hz]), fun j h1 h2 h3 => by simp [upd, h1, h2, h3]⟩, (by repeat (first | assumption | exact eqx.rf | refine eqx.up ?_ (by decide))), hf⟩
    | some j1 =>
      have hz1 := rN_some hz
      obtain rfl := I_nat hz1.1 (by omega)
      refine go_aload_n (pc := 0) dX8_wets_0 rfl ?_
      refine go_aload_n (pc := 1) dX8_wets_1 rfl ?_
      refine go_iload_n (pc := 2) dX8_wets_2 rfl ?_
      refine go_iload_n (pc := 3) dX8_wets_3 rfl ?_
      refine go_V2P (pc := 4) v_X8_307 rfl rfl (rcv_of (ci := 8) (by first | exact mo0 hM | exact mo1 hM | exact mo6 hM | exact mo7 hM | exact mo8 hM | exact mo2 hM | exact mo3 hM | exact mo4 hM | exact mo5 hM | exact mo9 hM | exact mo10 hM | exact mo11 hM | exact mo12 hM | exact mo13 hM | exact mo14 hM | exact mo15 hM | exact mo16 hM) rfl) dX8_wets_4 (sp_isChair (k := k - 1) hM (by omega) _ _) ?_
      refine go_if_ne (tgt := 14) (pc := 7) dX8_wets_7 (by decide) (fun h_7 => ?_) (fun h_7 => by exfalso; rw [ch_yes hB.1 hc] at h_7; exact absurd h_7 (by decide))
      refine go_iload_n (pc := 14) dX8_wets_14 rfl ?_
      refine go_i2l (pc := 15) dX8_wets_15 ?_
      refine go_lconst (v := 0) (pc := 16) dX8_wets_16 rfl ?_
      refine go_ldc2 (pc := 17) kw7_98 dX8_wets_17 ?_
      refine go_S3P (pc := 20) s_X8_125 rfl rfl dX8_wets_20 (sp_within (k := k - 1) _ _ _) ?_
      refine go_if_eq (tgt := 30) (pc := 23) dX8_wets_23 (by decide) (fun h_23 => by exfalso; rw [wi_yes hz (by decide) (by decide)] at h_23; exact absurd h_23 (by decide)) (fun h_23 => ?_)
      refine go_iconst (v := 0) (pc := 26) dX8_wets_26 (by decide) ?_
      refine go_goto (tgt := 31) (pc := 27) dX8_wets_27 (by decide) ?_
      refine go_mpf4 (pc := 31) hM dX8_wets_31 (fun σ hM hf9 => ?_)
      have hf := hf.tr hf9
      refine go_aload_n (pc := 34) dX8_wets_34 rfl ?_
      refine go_getf (pc := 35) f_X8_64 dX8_wets_35 (by first | exact mo0 hM | exact mo1 hM | exact mo6 hM | exact mo7 hM | exact mo8 hM | exact mo2 hM | exact mo3 hM | exact mo4 hM | exact mo5 hM | exact mo9 hM | exact mo10 hM | exact mo11 hM | exact mo12 hM | exact mo13 hM | exact mo14 hM | exact mo15 hM | exact mo16 hM) (by rfl) ?_
      refine go_if_le (tgt := 45) (pc := 38) dX8_wets_38 (by decide) (fun h_38 => ?_) (fun h_38 => by exfalso; exact h_38 (show (0 : Int32) ≤ 0 from by decide))
      refine go_aload_n (pc := 45) dX8_wets_45 rfl ?_
      refine go_iload_n (pc := 46) dX8_wets_46 rfl ?_
      refine go_iload_n (pc := 47) dX8_wets_47 rfl ?_
      refine go_aload_n (pc := 48) dX8_wets_48 rfl ?_
      refine go_getf (pc := 49) f_X8_9 dX8_wets_49 (by first | exact mo0 hM | exact mo1 hM | exact mo6 hM | exact mo7 hM | exact mo8 hM | exact mo2 hM | exact mo3 hM | exact mo4 hM | exact mo5 hM | exact mo9 hM | exact mo10 hM | exact mo11 hM | exact mo12 hM | exact mo13 hM | exact mo14 hM | exact mo15 hM | exact mo16 hM) (by rfl) ?_
      refine go_bipush (v := 33) (pc := 52) dX8_wets_52 (by decide) ?_
      refine go_iald (j := 33) (pc := 54) dX8_wets_54 (by first | exact mo0 hM | exact mo1 hM | exact mo6 hM | exact mo7 hM | exact mo8 hM | exact mo2 hM | exact mo3 hM | exact mo4 hM | exact mo5 hM | exact mo9 hM | exact mo10 hM | exact mo11 hM | exact mo12 hM | exact mo13 hM | exact mo14 hM | exact mo15 hM | exact mo16 hM) (by exact ⟨rfl, by decide⟩) ?_
      refine go_iload_n (pc := 55) dX8_wets_55 rfl ?_
      refine go_iadd (pc := 56) dX8_wets_56 ?_
      refine go_V3I (pc := 57) v_X8_317 rfl rfl (rcv_of (ci := 8) (by first | exact mo0 hM | exact mo1 hM | exact mo6 hM | exact mo7 hM | exact mo8 hM | exact mo2 hM | exact mo3 hM | exact mo4 hM | exact mo5 hM | exact mo9 hM | exact mo10 hM | exact mo11 hM | exact mo12 hM | exact mo13 hM | exact mo14 hM | exact mo15 hM | exact mo16 hM) rfl) dX8_wets_57 (sp_wetsHow (k := k - 1) hM (by omega) _ _ _ hB.2.2.2) (fun v_57 σ n h => ?_)
      obtain ⟨rfl, rfl, A1, hM, hA1, hf1⟩ := h
      have hA := eqx.tr (L := [6, 7, 8, 9, 10, 11, 12, 13]) (by repeat (first | assumption | exact eqx.rf | refine eqx.up ?_ (by decide))) (hA1.wk (by decide))
      have hf := hf.tr hf1
      exact go_iretI (pc := 60) rfl dX8_wets_60 (Nat.le_of_ble_eq_true rfl) (Nat.le_of_ble_eq_true rfl) ⟨(by simp [aWets, hc, hz]), rfl, _, _, hM, ⟨(by simp [upd, aWets, hc, hz]), fun j h1 h2 h3 => by simp [upd, h1, h2, h3]⟩, (by repeat (first | assumption | exact eqx.rf | refine eqx.up ?_ (by decide))), hf⟩
theorem sp_moves {Γ : gam} {z0 : sto} {n k r : Nat} {F K : row} {A : Nat → row} {Nm : Nat → Int64} (hM : MoAt Γ z0 r F K A Nm) (hk : 12 ≤ k) (hB : okB K) (hv : vS K) (p c w : Int32) : Sp Γ (rmk k 0 0) uX8_moves [.ref r, .int p, .int c, .int w] z0 n (qI fun v σ' n' => v = (aMoves K p.toInt c.toInt w.toInt).2 ∧ apJ Γ r F K A Nm z0 n (aMoves K p.toInt c.toInt w.toInt).1 σ' n') := by
  have hP8 := hB.1.2.1
  have hH5 := hB.1.2.2.2.1
  have hW4 := hB.1.2.2.2.2.2
  have hA : eqx [6, 7, 8, 9, 10, 11, 12, 13] A A := eqx.rf
  have hf : fr r (r + 16) z0 z0 := fr.rf
  refine sp_intro [some (.ref r), some (.int p), some (.int c), some (.int w)] (by decide +kernel) rfl (Nat.le_of_ble_eq_true rfl) rfl ?_
  cases hp : pN (kP K) p.toInt with
  | none =>
    refine go_aload_n (pc := 0) dX8_moves_0 rfl ?_
    refine go_aload_n (pc := 1) dX8_moves_1 rfl ?_
    refine go_iload_n (pc := 2) dX8_moves_2 rfl ?_
    refine go_i2l (pc := 3) dX8_moves_3 ?_
    refine go_V1P (pc := 4) v_X8_310 rfl rfl (rcv_of (ci := 8) (by first | exact mo0 hM | exact mo1 hM | exact mo6 hM | exact mo7 hM | exact mo8 hM | exact mo2 hM | exact mo3 hM | exact mo4 hM | exact mo5 hM | exact mo9 hM | exact mo10 hM | exact mo11 hM | exact mo12 hM | exact mo13 hM | exact mo14 hM | exact mo15 hM | exact mo16 hM) rfl) dX8_moves_4 (sp_isPerson (k := k - 1) hM (by omega) _) ?_
    refine go_if_eq (tgt := 23) (pc := 7) dX8_moves_7 (by decide) (fun h_7 => ?_) (fun h_7 => by exfalso; exact h_7 (pi_no hB.1.1 (by omega) hp))
    refine go_iconst (v := 1) (pc := 23) dX8_moves_23 (by decide) ?_
    refine go_mpf4 (pc := 24) hM dX8_moves_24 (fun σ hM hf9 => ?_)
    have hf := hf.tr hf9
    refine go_aload_n (pc := 27) dX8_moves_27 rfl ?_
    refine go_getf (pc := 28) f_X8_64 dX8_moves_28 (by first | exact mo0 hM | exact mo1 hM | exact mo6 hM | exact mo7 hM | exact mo8 hM | exact mo2 hM | exact mo3 hM | exact mo4 hM | exact mo5 hM | exact mo9 hM | exact mo10 hM | exact mo11 hM | exact mo12 hM | exact mo13 hM | exact mo14 hM | exact mo15 hM | exact mo16 hM) (by rfl) ?_
    refine go_if_ne (tgt := 48) (pc := 31) dX8_moves_31 (by decide) (fun h_31 => ?_) (fun h_31 => by exfalso; exact absurd (show (1 : Int32) = 0 from h_31) (by decide))
    refine go_iconst (v := 0) (pc := 48) dX8_moves_48 (by decide) ?_
    exact go_zretI (pc := 49) rfl (by first | rfl | exact nb_bI) dX8_moves_49 (Nat.le_of_ble_eq_true rfl) (Nat.le_of_ble_eq_true rfl) ⟨(by simp_all [aMoves, bI_0, bI]), rfl, _, _, hM, ⟨(by simp [upd, aMoves, hp]), fun j h1 h2 h3 => by simp [upd, h1, h2, h3]⟩, (by repeat (first | assumption | exact eqx.rf | refine eqx.up ?_ (by decide))), hf⟩
  | some j1 =>
    have hp1 := pN_some hp
    obtain rfl := I_nat hp1.1 (by omega)
    cases hc : chK K c.toInt w.toInt with
    | none =>
      refine go_aload_n (pc := 0) dX8_moves_0 rfl ?_
      refine go_aload_n (pc := 1) dX8_moves_1 rfl ?_
      refine go_iload_n (pc := 2) dX8_moves_2 rfl ?_
      refine go_i2l (pc := 3) dX8_moves_3 ?_
      refine go_V1P (pc := 4) v_X8_310 rfl rfl (rcv_of (ci := 8) (by first | exact mo0 hM | exact mo1 hM | exact mo6 hM | exact mo7 hM | exact mo8 hM | exact mo2 hM | exact mo3 hM | exact mo4 hM | exact mo5 hM | exact mo9 hM | exact mo10 hM | exact mo11 hM | exact mo12 hM | exact mo13 hM | exact mo14 hM | exact mo15 hM | exact mo16 hM) rfl) dX8_moves_4 (sp_isPerson (k := k - 1) hM (by omega) _) ?_
      refine go_if_eq (tgt := 23) (pc := 7) dX8_moves_7 (by decide) (fun h_7 => by exfalso; rw [pi_yes hB.1.1 (by omega) hp] at h_7; exact absurd h_7 (by decide)) (fun h_7 => ?_)
      refine go_aload_n (pc := 10) dX8_moves_10 rfl ?_
      refine go_iload_n (pc := 11) dX8_moves_11 rfl ?_
      refine go_iload_n (pc := 12) dX8_moves_12 rfl ?_
      refine go_V2P (pc := 13) v_X8_307 rfl rfl (rcv_of (ci := 8) (by first | exact mo0 hM | exact mo1 hM | exact mo6 hM | exact mo7 hM | exact mo8 hM | exact mo2 hM | exact mo3 hM | exact mo4 hM | exact mo5 hM | exact mo9 hM | exact mo10 hM | exact mo11 hM | exact mo12 hM | exact mo13 hM | exact mo14 hM | exact mo15 hM | exact mo16 hM) rfl) dX8_moves_13 (sp_isChair (k := k - 1) hM (by omega) _ _) ?_
      refine go_if_eq (tgt := 23) (pc := 16) dX8_moves_16 (by decide) (fun h_16 => ?_) (fun h_16 => by exfalso; exact h_16 (ch_no hB.1 hc))
      refine go_iconst (v := 1) (pc := 23) dX8_moves_23 (by decide) ?_
      refine go_mpf4 (pc := 24) hM dX8_moves_24 (fun σ hM hf9 => ?_)
      have hf := hf.tr hf9
      refine go_aload_n (pc := 27) dX8_moves_27 rfl ?_
      refine go_getf (pc := 28) f_X8_64 dX8_moves_28 (by first | exact mo0 hM | exact mo1 hM | exact mo6 hM | exact mo7 hM | exact mo8 hM | exact mo2 hM | exact mo3 hM | exact mo4 hM | exact mo5 hM | exact mo9 hM | exact mo10 hM | exact mo11 hM | exact mo12 hM | exact mo13 hM | exact mo14 hM | exact mo15 hM | exact mo16 hM) (by rfl) ?_
      refine go_if_ne (tgt := 48) (pc := 31) dX8_moves_31 (by decide) (fun h_31 => ?_) (fun h_31 => by exfalso; exact absurd (show (1 : Int32) = 0 from h_31) (by decide))
      refine go_iconst (v := 0) (pc := 48) dX8_moves_48 (by decide) ?_
      exact go_zretI (pc := 49) rfl (by first | rfl | exact nb_bI) dX8_moves_49 (Nat.le_of_ble_eq_true rfl) (Nat.le_of_ble_eq_true rfl) ⟨(by simp_all [aMoves, bI_0, bI]), rfl, _, _, hM, ⟨(by simp [upd, aMoves, hp, hc]), fun j h1 h2 h3 => by simp [upd, h1, h2, h3]⟩, (by repeat (first | assumption | exact eqx.rf | refine eqx.up ?_ (by decide))), hf⟩
    | some hcab =>
      obtain ⟨a1, b1⟩ := hcab
      have hc1 := pN_some (chK_some hc).1
      have hc2 := pN_some (chK_some hc).2
      obtain rfl := I_nat hc1.1 (by omega)
      obtain rfl := I_nat hc2.1 (by omega)
      refine go_aload_n (pc := 0) dX8_moves_0 rfl ?_
      refine go_aload_n (pc := 1) dX8_moves_1 rfl ?_
      refine go_iload_n (pc := 2) dX8_moves_2 rfl ?_
      refine go_i2l (pc := 3) dX8_moves_3 ?_
      refine go_V1P (pc := 4) v_X8_310 rfl rfl (rcv_of (ci := 8) (by first | exact mo0 hM | exact mo1 hM | exact mo6 hM | exact mo7 hM | exact mo8 hM | exact mo2 hM | exact mo3 hM | exact mo4 hM | exact mo5 hM | exact mo9 hM | exact mo10 hM | exact mo11 hM | exact mo12 hM | exact mo13 hM | exact mo14 hM | exact mo15 hM | exact mo16 hM) rfl) dX8_moves_4 (sp_isPerson (k := k - 1) hM (by omega) _) ?_
      refine go_if_eq (tgt := 23) (pc := 7) dX8_moves_7 (by decide) (fun h_7 => by exfalso; rw [pi_yes hB.1.1 (by omega) hp] at h_7; exact absurd h_7 (by decide)) (fun h_7 => ?_)
      refine go_aload_n (pc := 10) dX8_moves_10 rfl ?_
      refine go_iload_n (pc := 11) dX8_moves_11 rfl ?_
      refine go_iload_n (pc := 12) dX8_moves_12 rfl ?_
      refine go_V2P (pc := 13) v_X8_307 rfl rfl (rcv_of (ci := 8) (by first | exact mo0 hM | exact mo1 hM | exact mo6 hM | exact mo7 hM | exact mo8 hM | exact mo2 hM | exact mo3 hM | exact mo4 hM | exact mo5 hM | exact mo9 hM | exact mo10 hM | exact mo11 hM | exact mo12 hM | exact mo13 hM | exact mo14 hM | exact mo15 hM | exact mo16 hM) rfl) dX8_moves_13 (sp_isChair (k := k - 1) hM (by omega) _ _) ?_
      refine go_if_eq (tgt := 23) (pc := 16) dX8_moves_16 (by decide) (fun h_16 => by exfalso; rw [ch_yes hB.1 hc] at h_16; exact absurd h_16 (by decide)) (fun h_16 => ?_)
      refine go_iconst (v := 0) (pc := 19) dX8_moves_19 (by decide) ?_
      refine go_goto (tgt := 24) (pc := 20) dX8_moves_20 (by decide) ?_
      refine go_mpf4 (pc := 24) hM dX8_moves_24 (fun σ hM hf9 => ?_)
      have hf := hf.tr hf9
      refine go_aload_n (pc := 27) dX8_moves_27 rfl ?_
      refine go_getf (pc := 28) f_X8_64 dX8_moves_28 (by first | exact mo0 hM | exact mo1 hM | exact mo6 hM | exact mo7 hM | exact mo8 hM | exact mo2 hM | exact mo3 hM | exact mo4 hM | exact mo5 hM | exact mo9 hM | exact mo10 hM | exact mo11 hM | exact mo12 hM | exact mo13 hM | exact mo14 hM | exact mo15 hM | exact mo16 hM) (by rfl) ?_
      refine go_if_ne (tgt := 48) (pc := 31) dX8_moves_31 (by decide) (fun h_31 => by exfalso; exact absurd (show (0 : Int32) = 0 from rfl) h_31) (fun h_31 => ?_)
      refine go_aload_n (pc := 34) dX8_moves_34 rfl ?_
      refine go_iload_n (pc := 35) dX8_moves_35 rfl ?_
      refine go_iload_n (pc := 36) dX8_moves_36 rfl ?_
      refine go_iload_n (pc := 37) dX8_moves_37 rfl ?_
      refine go_V3I (pc := 38) v_X8_286 rfl rfl (rcv_of (ci := 8) (by first | exact mo0 hM | exact mo1 hM | exact mo6 hM | exact mo7 hM | exact mo8 hM | exact mo2 hM | exact mo3 hM | exact mo4 hM | exact mo5 hM | exact mo9 hM | exact mo10 hM | exact mo11 hM | exact mo12 hM | exact mo13 hM | exact mo14 hM | exact mo15 hM | exact mo16 hM) rfl) dX8_moves_38 (sp_comesTo (k := k - 1) hM (by omega) (by omega) _ _ hB.2.1) (fun v_38 σ n h => ?_)
      obtain ⟨rfl, rfl, A1, hM, hA1, hf1⟩ := h
      have hA := eqx.tr (L := [6, 7, 8, 9, 10, 11, 12, 13]) (by repeat (first | assumption | exact eqx.rf | refine eqx.up ?_ (by decide))) (hA1.wk (by decide))
      have hf := hf.tr hf1
      refine go_if_eq (tgt := 48) (pc := 41) dX8_moves_41 (by decide) (fun h_41 => ?_) (fun h_41 => ?_)
      · refine go_iconst (v := 0) (pc := 48) dX8_moves_48 (by decide) ?_
        exact go_zretI (pc := 49) rfl (by first | rfl | exact nb_bI) dX8_moves_49 (Nat.le_of_ble_eq_true rfl) (Nat.le_of_ble_eq_true rfl) ⟨(by simp_all [aMoves, bI_0, bI]), rfl, _, _, hM, ⟨(by simp [upd, aMoves, hp, hc]), fun j h1 h2 h3 => by simp [upd, h1, h2, h3]⟩, (by repeat (first | assumption | exact eqx.rf | refine eqx.up ?_ (by decide))), hf⟩
      · refine go_iconst (v := 1) (pc := 44) dX8_moves_44 (by decide) ?_
        refine go_goto (tgt := 49) (pc := 45) dX8_moves_45 (by decide) ?_
        exact go_zretI (pc := 49) rfl (by first | rfl | exact nb_bI) dX8_moves_49 (Nat.le_of_ble_eq_true rfl) (Nat.le_of_ble_eq_true rfl) ⟨(by simp_all [aMoves, bI_0, bI]), rfl, _, _, hM, ⟨(by simp [upd, aMoves, hp, hc]), fun j h1 h2 h3 => by simp [upd, h1, h2, h3]⟩, (by repeat (first | assumption | exact eqx.rf | refine eqx.up ?_ (by decide))), hf⟩
theorem sp_person {Γ : gam} {z0 : sto} {n k r : Nat} {F K : row} {A : Nat → row} {Nm : Nat → Int64} (hM : MoAt Γ z0 r F K A Nm) (hk : 12 ≤ k) (hB : okB K) (hv : vS K) (p z : Int32) : Sp Γ (rmk k 0 0) uX8_person [.ref r, .int p, .int z] z0 n (qI fun v σ' n' => v = (aPerson K p.toInt z.toInt).2 ∧ apJ Γ r F K A Nm z0 n (aPerson K p.toInt z.toInt).1 σ' n') := by
  have hP8 := hB.1.2.1
  have hH5 := hB.1.2.2.2.1
  have hW4 := hB.1.2.2.2.2.2
  have hA : eqx [6, 7, 8, 9, 10, 11, 12, 13] A A := eqx.rf
  have hf : fr r (r + 16) z0 z0 := fr.rf
  refine sp_intro [some (.ref r), some (.int p), some (.int z)] (by decide +kernel) rfl (Nat.le_of_ble_eq_true rfl) rfl ?_
  cases hp : pN (kP K) p.toInt with
  | none =>
    refine go_aload_n (pc := 0) dX8_person_0 rfl ?_
    refine go_aload_n (pc := 1) dX8_person_1 rfl ?_
    refine go_iload_n (pc := 2) dX8_person_2 rfl ?_
    refine go_i2l (pc := 3) dX8_person_3 ?_
    refine go_V1P (pc := 4) v_X8_310 rfl rfl (rcv_of (ci := 8) (by first | exact mo0 hM | exact mo1 hM | exact mo6 hM | exact mo7 hM | exact mo8 hM | exact mo2 hM | exact mo3 hM | exact mo4 hM | exact mo5 hM | exact mo9 hM | exact mo10 hM | exact mo11 hM | exact mo12 hM | exact mo13 hM | exact mo14 hM | exact mo15 hM | exact mo16 hM) rfl) dX8_person_4 (sp_isPerson (k := k - 1) hM (by omega) _) ?_
    refine go_if_ne (tgt := 14) (pc := 7) dX8_person_7 (by decide) (fun h_7 => by exfalso; exact h_7 (pi_no hB.1.1 (by omega) hp)) (fun h_7 => ?_)
    refine go_iconst (v := 1) (pc := 10) dX8_person_10 (by decide) ?_
    refine go_goto (tgt := 31) (pc := 11) dX8_person_11 (by decide) ?_
    refine go_mpf4 (pc := 31) hM dX8_person_31 (fun σ hM hf9 => ?_)
    have hf := hf.tr hf9
    refine go_aload_n (pc := 34) dX8_person_34 rfl ?_
    refine go_getf (pc := 35) f_X8_64 dX8_person_35 (by first | exact mo0 hM | exact mo1 hM | exact mo6 hM | exact mo7 hM | exact mo8 hM | exact mo2 hM | exact mo3 hM | exact mo4 hM | exact mo5 hM | exact mo9 hM | exact mo10 hM | exact mo11 hM | exact mo12 hM | exact mo13 hM | exact mo14 hM | exact mo15 hM | exact mo16 hM) (by rfl) ?_
    refine go_if_le (tgt := 43) (pc := 38) dX8_person_38 (by decide) (fun h_38 => by exfalso; exact absurd (show (1 : Int32) ≤ 0 from h_38) (by decide)) (fun h_38 => ?_)
    refine go_iconst (v := 0) (pc := 41) dX8_person_41 (by decide) ?_
    exact go_iretI (pc := 42) rfl dX8_person_42 (Nat.le_of_ble_eq_true rfl) (Nat.le_of_ble_eq_true rfl) ⟨(by simp [aPerson, hp]), rfl, _, _, hM, ⟨(by simp [upd, aPerson, hp]), fun j h1 h2 h3 => by simp [upd, h1, h2, h3]⟩, (by repeat (first | assumption | exact eqx.rf | refine eqx.up ?_ (by decide))), hf⟩
  | some j1 =>
    have hp1 := pN_some hp
    obtain rfl := I_nat hp1.1 (by omega)
    cases hz : rN 0 8 z.toInt with
    | none =>
      refine go_aload_n (pc := 0) dX8_person_0 rfl ?_
      refine go_aload_n (pc := 1) dX8_person_1 rfl ?_
      refine go_iload_n (pc := 2) dX8_person_2 rfl ?_
      refine go_i2l (pc := 3) dX8_person_3 ?_
      refine go_V1P (pc := 4) v_X8_310 rfl rfl (rcv_of (ci := 8) (by first | exact mo0 hM | exact mo1 hM | exact mo6 hM | exact mo7 hM | exact mo8 hM | exact mo2 hM | exact mo3 hM | exact mo4 hM | exact mo5 hM | exact mo9 hM | exact mo10 hM | exact mo11 hM | exact mo12 hM | exact mo13 hM | exact mo14 hM | exact mo15 hM | exact mo16 hM) rfl) dX8_person_4 (sp_isPerson (k := k - 1) hM (by omega) _) ?_
      refine go_if_ne (tgt := 14) (pc := 7) dX8_person_7 (by decide) (fun h_7 => ?_) (fun h_7 => by exfalso; rw [pi_yes hB.1.1 (by omega) hp] at h_7; exact absurd h_7 (by decide))
      refine go_iload_n (pc := 14) dX8_person_14 rfl ?_
      refine go_i2l (pc := 15) dX8_person_15 ?_
      refine go_lconst (v := 0) (pc := 16) dX8_person_16 rfl ?_
      refine go_ldc2 (pc := 17) kw7_86 dX8_person_17 ?_
      refine go_S3P (pc := 20) s_X8_125 rfl rfl dX8_person_20 (sp_within (k := k - 1) _ _ _) ?_
      refine go_if_eq (tgt := 30) (pc := 23) dX8_person_23 (by decide) (fun h_23 => ?_) (fun h_23 => by exfalso; exact h_23 (wi_no hz (by decide) (by decide)))
      refine go_iconst (v := 2) (pc := 30) dX8_person_30 (by decide) ?_
      refine go_mpf4 (pc := 31) hM dX8_person_31 (fun σ hM hf9 => ?_)
      have hf := hf.tr hf9
      refine go_aload_n (pc := 34) dX8_person_34 rfl ?_
      refine go_getf (pc := 35) f_X8_64 dX8_person_35 (by first | exact mo0 hM | exact mo1 hM | exact mo6 hM | exact mo7 hM | exact mo8 hM | exact mo2 hM | exact mo3 hM | exact mo4 hM | exact mo5 hM | exact mo9 hM | exact mo10 hM | exact mo11 hM | exact mo12 hM | exact mo13 hM | exact mo14 hM | exact mo15 hM | exact mo16 hM) (by rfl) ?_
      refine go_if_le (tgt := 43) (pc := 38) dX8_person_38 (by decide) (fun h_38 => by exfalso; exact absurd (show (2 : Int32) ≤ 0 from h_38) (by decide)) (fun h_38 => ?_)
      refine go_iconst (v := 0) (pc := 41) dX8_person_41 (by decide) ?_
      exact go_iretI (pc := 42) rfl dX8_person_42 (Nat.le_of_ble_eq_true rfl) (Nat.le_of_ble_eq_true rfl) ⟨(by simp [aPerson, hp, hz]), rfl, _, _, hM, ⟨(by simp [upd, aPerson, hp, hz]), fun j h1 h2 h3 => by simp [upd, h1, h2, h3]⟩, (by repeat (first | assumption | exact eqx.rf | refine eqx.up ?_ (by decide))), hf⟩
    | some x1 =>
      have hz1 := rN_some hz
      obtain rfl := I_nat hz1.1 (by omega)
      rcases (show x1 = 0 ∨ x1 = 1 ∨ x1 = 2 ∨ x1 = 3 ∨ x1 = 4 ∨ x1 = 5 ∨ x1 = 6 ∨ x1 = 7 by omega) with rfl | rfl | rfl | rfl | rfl | rfl | rfl | rfl
      · refine go_aload_n (pc := 0) dX8_person_0 rfl ?_
        refine go_aload_n (pc := 1) dX8_person_1 rfl ?_
        refine go_iload_n (pc := 2) dX8_person_2 rfl ?_
        refine go_i2l (pc := 3) dX8_person_3 ?_
        refine go_V1P (pc := 4) v_X8_310 rfl rfl (rcv_of (ci := 8) (by first | exact mo0 hM | exact mo1 hM | exact mo6 hM | exact mo7 hM | exact mo8 hM | exact mo2 hM | exact mo3 hM | exact mo4 hM | exact mo5 hM | exact mo9 hM | exact mo10 hM | exact mo11 hM | exact mo12 hM | exact mo13 hM | exact mo14 hM | exact mo15 hM | exact mo16 hM) rfl) dX8_person_4 (sp_isPerson (k := k - 1) hM (by omega) _) ?_
        refine go_if_ne (tgt := 14) (pc := 7) dX8_person_7 (by decide) (fun h_7 => ?_) (fun h_7 => by exfalso; rw [pi_yes hB.1.1 (by omega) hp] at h_7; exact absurd h_7 (by decide))
        refine go_iload_n (pc := 14) dX8_person_14 rfl ?_
        refine go_i2l (pc := 15) dX8_person_15 ?_
        refine go_lconst (v := 0) (pc := 16) dX8_person_16 rfl ?_
        refine go_ldc2 (pc := 17) kw7_86 dX8_person_17 ?_
        refine go_S3P (pc := 20) s_X8_125 rfl rfl dX8_person_20 (sp_within (k := k - 1) _ _ _) ?_
        refine go_if_eq (tgt := 30) (pc := 23) dX8_person_23 (by decide) (fun h_23 => by exfalso; rw [wi_yes hz (by decide) (by decide)] at h_23; exact absurd h_23 (by decide)) (fun h_23 => ?_)
        refine go_iconst (v := 0) (pc := 26) dX8_person_26 (by decide) ?_
        refine go_goto (tgt := 31) (pc := 27) dX8_person_27 (by decide) ?_
        refine go_mpf4 (pc := 31) hM dX8_person_31 (fun σ hM hf9 => ?_)
        have hf := hf.tr hf9
        refine go_aload_n (pc := 34) dX8_person_34 rfl ?_
        refine go_getf (pc := 35) f_X8_64 dX8_person_35 (by first | exact mo0 hM | exact mo1 hM | exact mo6 hM | exact mo7 hM | exact mo8 hM | exact mo2 hM | exact mo3 hM | exact mo4 hM | exact mo5 hM | exact mo9 hM | exact mo10 hM | exact mo11 hM | exact mo12 hM | exact mo13 hM | exact mo14 hM | exact mo15 hM | exact mo16 hM) (by rfl) ?_
        refine go_if_le (tgt := 43) (pc := 38) dX8_person_38 (by decide) (fun h_38 => ?_) (fun h_38 => by exfalso; exact h_38 (show (0 : Int32) ≤ 0 from by decide))
        refine go_iload_n (pc := 43) dX8_person_43 rfl ?_
        refine go_tableIn (off := 44) (tgt := 88) (pc := 44) dX8_person_44 (by decide) (by decide) rfl (by decide) ?_
        refine go_aload_n (pc := 88) dX8_person_88 rfl ?_
        refine go_getf (pc := 89) f_X8_9 dX8_person_89 (by first | exact mo0 hM | exact mo1 hM | exact mo6 hM | exact mo7 hM | exact mo8 hM | exact mo2 hM | exact mo3 hM | exact mo4 hM | exact mo5 hM | exact mo9 hM | exact mo10 hM | exact mo11 hM | exact mo12 hM | exact mo13 hM | exact mo14 hM | exact mo15 hM | exact mo16 hM) (by rfl) ?_
        refine go_bipush (v := 8) (pc := 92) dX8_person_92 (by decide) ?_
        refine go_iload_n (pc := 94) dX8_person_94 rfl ?_
        refine go_iadd (pc := 95) dX8_person_95 ?_
        refine go_iald (pc := 96) dX8_person_96 (by first | exact mo0 hM | exact mo1 hM | exact mo6 hM | exact mo7 hM | exact mo8 hM | exact mo2 hM | exact mo3 hM | exact mo4 hM | exact mo5 hM | exact mo9 hM | exact mo10 hM | exact mo11 hM | exact mo12 hM | exact mo13 hM | exact mo14 hM | exact mo15 hM | exact mo16 hM) (by exact ⟨nI_add 8 _, by omega⟩) ?_
        exact go_iretI (pc := 97) rfl dX8_person_97 (Nat.le_of_ble_eq_true rfl) (Nat.le_of_ble_eq_true rfl) ⟨(by simp [aPerson, hp, hz]), rfl, _, _, hM, ⟨(by simp [upd, aPerson, hp, hz]), fun j h1 h2 h3 => by simp [upd, h1, h2, h3]⟩, (by repeat (first | assumption | exact eqx.rf | refine eqx.up ?_ (by decide))), hf⟩
      · refine go_aload_n (pc := 0) dX8_person_0 rfl ?_
        refine go_aload_n (pc := 1) dX8_person_1 rfl ?_
        refine go_iload_n (pc := 2) dX8_person_2 rfl ?_
        refine go_i2l (pc := 3) dX8_person_3 ?_
        refine go_V1P (pc := 4) v_X8_310 rfl rfl (rcv_of (ci := 8) (by first | exact mo0 hM | exact mo1 hM | exact mo6 hM | exact mo7 hM | exact mo8 hM | exact mo2 hM | exact mo3 hM | exact mo4 hM | exact mo5 hM | exact mo9 hM | exact mo10 hM | exact mo11 hM | exact mo12 hM | exact mo13 hM | exact mo14 hM | exact mo15 hM | exact mo16 hM) rfl) dX8_person_4 (sp_isPerson (k := k - 1) hM (by omega) _) ?_
        refine go_if_ne (tgt := 14) (pc := 7) dX8_person_7 (by decide) (fun h_7 => ?_) (fun h_7 => by exfalso; rw [pi_yes hB.1.1 (by omega) hp] at h_7; exact absurd h_7 (by decide))
        refine go_iload_n (pc := 14) dX8_person_14 rfl ?_
        refine go_i2l (pc := 15) dX8_person_15 ?_
        refine go_lconst (v := 0) (pc := 16) dX8_person_16 rfl ?_
        refine go_ldc2 (pc := 17) kw7_86 dX8_person_17 ?_
        refine go_S3P (pc := 20) s_X8_125 rfl rfl dX8_person_20 (sp_within (k := k - 1) _ _ _) ?_
        refine go_if_eq (tgt := 30) (pc := 23) dX8_person_23 (by decide) (fun h_23 => by exfalso; rw [wi_yes hz (by decide) (by decide)] at h_23; exact absurd h_23 (by decide)) (fun h_23 => ?_)
        refine go_iconst (v := 0) (pc := 26) dX8_person_26 (by decide) ?_
        refine go_goto (tgt := 31) (pc := 27) dX8_person_27 (by decide) ?_
        refine go_mpf4 (pc := 31) hM dX8_person_31 (fun σ hM hf9 => ?_)
        have hf := hf.tr hf9
        refine go_aload_n (pc := 34) dX8_person_34 rfl ?_
        refine go_getf (pc := 35) f_X8_64 dX8_person_35 (by first | exact mo0 hM | exact mo1 hM | exact mo6 hM | exact mo7 hM | exact mo8 hM | exact mo2 hM | exact mo3 hM | exact mo4 hM | exact mo5 hM | exact mo9 hM | exact mo10 hM | exact mo11 hM | exact mo12 hM | exact mo13 hM | exact mo14 hM | exact mo15 hM | exact mo16 hM) (by rfl) ?_
        refine go_if_le (tgt := 43) (pc := 38) dX8_person_38 (by decide) (fun h_38 => ?_) (fun h_38 => by exfalso; exact h_38 (show (0 : Int32) ≤ 0 from by decide))
        refine go_iload_n (pc := 43) dX8_person_43 rfl ?_
        refine go_tableIn (off := 54) (tgt := 98) (pc := 44) dX8_person_44 (by decide) (by decide) rfl (by decide) ?_
        refine go_aload_n (pc := 98) dX8_person_98 rfl ?_
        refine go_getf (pc := 99) f_X8_9 dX8_person_99 (by first | exact mo0 hM | exact mo1 hM | exact mo6 hM | exact mo7 hM | exact mo8 hM | exact mo2 hM | exact mo3 hM | exact mo4 hM | exact mo5 hM | exact mo9 hM | exact mo10 hM | exact mo11 hM | exact mo12 hM | exact mo13 hM | exact mo14 hM | exact mo15 hM | exact mo16 hM) (by rfl) ?_
        refine go_bipush (v := 16) (pc := 102) dX8_person_102 (by decide) ?_
        refine go_iload_n (pc := 104) dX8_person_104 rfl ?_
        refine go_iadd (pc := 105) dX8_person_105 ?_
        refine go_iald (pc := 106) dX8_person_106 (by first | exact mo0 hM | exact mo1 hM | exact mo6 hM | exact mo7 hM | exact mo8 hM | exact mo2 hM | exact mo3 hM | exact mo4 hM | exact mo5 hM | exact mo9 hM | exact mo10 hM | exact mo11 hM | exact mo12 hM | exact mo13 hM | exact mo14 hM | exact mo15 hM | exact mo16 hM) (by exact ⟨nI_add 16 _, by omega⟩) ?_
        exact go_iretI (pc := 107) rfl dX8_person_107 (Nat.le_of_ble_eq_true rfl) (Nat.le_of_ble_eq_true rfl) ⟨(by simp [aPerson, hp, hz]), rfl, _, _, hM, ⟨(by simp [upd, aPerson, hp, hz]), fun j h1 h2 h3 => by simp [upd, h1, h2, h3]⟩, (by repeat (first | assumption | exact eqx.rf | refine eqx.up ?_ (by decide))), hf⟩
      · refine go_aload_n (pc := 0) dX8_person_0 rfl ?_
        refine go_aload_n (pc := 1) dX8_person_1 rfl ?_
        refine go_iload_n (pc := 2) dX8_person_2 rfl ?_
        refine go_i2l (pc := 3) dX8_person_3 ?_
        refine go_V1P (pc := 4) v_X8_310 rfl rfl (rcv_of (ci := 8) (by first | exact mo0 hM | exact mo1 hM | exact mo6 hM | exact mo7 hM | exact mo8 hM | exact mo2 hM | exact mo3 hM | exact mo4 hM | exact mo5 hM | exact mo9 hM | exact mo10 hM | exact mo11 hM | exact mo12 hM | exact mo13 hM | exact mo14 hM | exact mo15 hM | exact mo16 hM) rfl) dX8_person_4 (sp_isPerson (k := k - 1) hM (by omega) _) ?_
        refine go_if_ne (tgt := 14) (pc := 7) dX8_person_7 (by decide) (fun h_7 => ?_) (fun h_7 => by exfalso; rw [pi_yes hB.1.1 (by omega) hp] at h_7; exact absurd h_7 (by decide))
        refine go_iload_n (pc := 14) dX8_person_14 rfl ?_
        refine go_i2l (pc := 15) dX8_person_15 ?_
        refine go_lconst (v := 0) (pc := 16) dX8_person_16 rfl ?_
        refine go_ldc2 (pc := 17) kw7_86 dX8_person_17 ?_
        refine go_S3P (pc := 20) s_X8_125 rfl rfl dX8_person_20 (sp_within (k := k - 1) _ _ _) ?_
        refine go_if_eq (tgt := 30) (pc := 23) dX8_person_23 (by decide) (fun h_23 => by exfalso; rw [wi_yes hz (by decide) (by decide)] at h_23; exact absurd h_23 (by decide)) (fun h_23 => ?_)
        refine go_iconst (v := 0) (pc := 26) dX8_person_26 (by decide) ?_
        refine go_goto (tgt := 31) (pc := 27) dX8_person_27 (by decide) ?_
        refine go_mpf4 (pc := 31) hM dX8_person_31 (fun σ hM hf9 => ?_)
        have hf := hf.tr hf9
        refine go_aload_n (pc := 34) dX8_person_34 rfl ?_
        refine go_getf (pc := 35) f_X8_64 dX8_person_35 (by first | exact mo0 hM | exact mo1 hM | exact mo6 hM | exact mo7 hM | exact mo8 hM | exact mo2 hM | exact mo3 hM | exact mo4 hM | exact mo5 hM | exact mo9 hM | exact mo10 hM | exact mo11 hM | exact mo12 hM | exact mo13 hM | exact mo14 hM | exact mo15 hM | exact mo16 hM) (by rfl) ?_
        refine go_if_le (tgt := 43) (pc := 38) dX8_person_38 (by decide) (fun h_38 => ?_) (fun h_38 => by exfalso; exact h_38 (show (0 : Int32) ≤ 0 from by decide))
        refine go_iload_n (pc := 43) dX8_person_43 rfl ?_
        refine go_tableIn (off := 64) (tgt := 108) (pc := 44) dX8_person_44 (by decide) (by decide) rfl (by decide) ?_
        refine go_aload_n (pc := 108) dX8_person_108 rfl ?_
        refine go_getf (pc := 109) f_X8_9 dX8_person_109 (by first | exact mo0 hM | exact mo1 hM | exact mo6 hM | exact mo7 hM | exact mo8 hM | exact mo2 hM | exact mo3 hM | exact mo4 hM | exact mo5 hM | exact mo9 hM | exact mo10 hM | exact mo11 hM | exact mo12 hM | exact mo13 hM | exact mo14 hM | exact mo15 hM | exact mo16 hM) (by rfl) ?_
        refine go_bipush (v := 34) (pc := 112) dX8_person_112 (by decide) ?_
        refine go_iload_n (pc := 114) dX8_person_114 rfl ?_
        refine go_iadd (pc := 115) dX8_person_115 ?_
        refine go_iald (pc := 116) dX8_person_116 (by first | exact mo0 hM | exact mo1 hM | exact mo6 hM | exact mo7 hM | exact mo8 hM | exact mo2 hM | exact mo3 hM | exact mo4 hM | exact mo5 hM | exact mo9 hM | exact mo10 hM | exact mo11 hM | exact mo12 hM | exact mo13 hM | exact mo14 hM | exact mo15 hM | exact mo16 hM) (by exact ⟨nI_add 34 _, by omega⟩) ?_
        exact go_iretI (pc := 117) rfl dX8_person_117 (Nat.le_of_ble_eq_true rfl) (Nat.le_of_ble_eq_true rfl) ⟨(by simp [aPerson, hp, hz]), rfl, _, _, hM, ⟨(by simp [upd, aPerson, hp, hz]), fun j h1 h2 h3 => by simp [upd, h1, h2, h3]⟩, (by repeat (first | assumption | exact eqx.rf | refine eqx.up ?_ (by decide))), hf⟩
      · refine go_aload_n (pc := 0) dX8_person_0 rfl ?_
        refine go_aload_n (pc := 1) dX8_person_1 rfl ?_
        refine go_iload_n (pc := 2) dX8_person_2 rfl ?_
        refine go_i2l (pc := 3) dX8_person_3 ?_
        refine go_V1P (pc := 4) v_X8_310 rfl rfl (rcv_of (ci := 8) (by first | exact mo0 hM | exact mo1 hM | exact mo6 hM | exact mo7 hM | exact mo8 hM | exact mo2 hM | exact mo3 hM | exact mo4 hM | exact mo5 hM | exact mo9 hM | exact mo10 hM | exact mo11 hM | exact mo12 hM | exact mo13 hM | exact mo14 hM | exact mo15 hM | exact mo16 hM) rfl) dX8_person_4 (sp_isPerson (k := k - 1) hM (by omega) _) ?_
        refine go_if_ne (tgt := 14) (pc := 7) dX8_person_7 (by decide) (fun h_7 => ?_) (fun h_7 => by exfalso; rw [pi_yes hB.1.1 (by omega) hp] at h_7; exact absurd h_7 (by decide))
        refine go_iload_n (pc := 14) dX8_person_14 rfl ?_
        refine go_i2l (pc := 15) dX8_person_15 ?_
        refine go_lconst (v := 0) (pc := 16) dX8_person_16 rfl ?_
        refine go_ldc2 (pc := 17) kw7_86 dX8_person_17 ?_
        refine go_S3P (pc := 20) s_X8_125 rfl rfl dX8_person_20 (sp_within (k := k - 1) _ _ _) ?_
        refine go_if_eq (tgt := 30) (pc := 23) dX8_person_23 (by decide) (fun h_23 => by exfalso; rw [wi_yes hz (by decide) (by decide)] at h_23; exact absurd h_23 (by decide)) (fun h_23 => ?_)
        refine go_iconst (v := 0) (pc := 26) dX8_person_26 (by decide) ?_
        refine go_goto (tgt := 31) (pc := 27) dX8_person_27 (by decide) ?_
        refine go_mpf4 (pc := 31) hM dX8_person_31 (fun σ hM hf9 => ?_)
        have hf := hf.tr hf9
        refine go_aload_n (pc := 34) dX8_person_34 rfl ?_
        refine go_getf (pc := 35) f_X8_64 dX8_person_35 (by first | exact mo0 hM | exact mo1 hM | exact mo6 hM | exact mo7 hM | exact mo8 hM | exact mo2 hM | exact mo3 hM | exact mo4 hM | exact mo5 hM | exact mo9 hM | exact mo10 hM | exact mo11 hM | exact mo12 hM | exact mo13 hM | exact mo14 hM | exact mo15 hM | exact mo16 hM) (by rfl) ?_
        refine go_if_le (tgt := 43) (pc := 38) dX8_person_38 (by decide) (fun h_38 => ?_) (fun h_38 => by exfalso; exact h_38 (show (0 : Int32) ≤ 0 from by decide))
        refine go_iload_n (pc := 43) dX8_person_43 rfl ?_
        refine go_tableIn (off := 74) (tgt := 118) (pc := 44) dX8_person_44 (by decide) (by decide) rfl (by decide) ?_
        refine go_aload_n (pc := 118) dX8_person_118 rfl ?_
        refine go_iload_n (pc := 119) dX8_person_119 rfl ?_
        refine go_V1P (pc := 120) v_X8_283 rfl rfl (rcv_of (ci := 8) (by first | exact mo0 hM | exact mo1 hM | exact mo6 hM | exact mo7 hM | exact mo8 hM | exact mo2 hM | exact mo3 hM | exact mo4 hM | exact mo5 hM | exact mo9 hM | exact mo10 hM | exact mo11 hM | exact mo12 hM | exact mo13 hM | exact mo14 hM | exact mo15 hM | exact mo16 hM) rfl) dX8_person_120 (sp_isAsleep (k := k - 1) hM (by omega)) ?_
        refine go_if_eq (tgt := 130) (pc := 123) dX8_person_123 (by decide) (fun h_123 => ?_) (fun h_123 => ?_)
        · refine go_iconst (v := 0) (pc := 130) dX8_person_130 (by decide) ?_
          exact go_iretI (pc := 131) rfl dX8_person_131 (Nat.le_of_ble_eq_true rfl) (Nat.le_of_ble_eq_true rfl) ⟨(by simp [aPerson, hp, hz]; simp_all [bI, hasB]), rfl, _, _, hM, ⟨(by simp [upd, aPerson, hp, hz]), fun j h1 h2 h3 => by simp [upd, h1, h2, h3]⟩, (by repeat (first | assumption | exact eqx.rf | refine eqx.up ?_ (by decide))), hf⟩
        · refine go_iconst (v := 1) (pc := 126) dX8_person_126 (by decide) ?_
          refine go_goto (tgt := 131) (pc := 127) dX8_person_127 (by decide) ?_
          exact go_iretI (pc := 131) rfl dX8_person_131 (Nat.le_of_ble_eq_true rfl) (Nat.le_of_ble_eq_true rfl) ⟨(by simp [aPerson, hp, hz]; simp_all [bI, hasB]), rfl, _, _, hM, ⟨(by simp [upd, aPerson, hp, hz]), fun j h1 h2 h3 => by simp [upd, h1, h2, h3]⟩, (by repeat (first | assumption | exact eqx.rf | refine eqx.up ?_ (by decide))), hf⟩
      · refine go_aload_n (pc := 0) dX8_person_0 rfl ?_
        refine go_aload_n (pc := 1) dX8_person_1 rfl ?_
        refine go_iload_n (pc := 2) dX8_person_2 rfl ?_
        refine go_i2l (pc := 3) dX8_person_3 ?_
        refine go_V1P (pc := 4) v_X8_310 rfl rfl (rcv_of (ci := 8) (by first | exact mo0 hM | exact mo1 hM | exact mo6 hM | exact mo7 hM | exact mo8 hM | exact mo2 hM | exact mo3 hM | exact mo4 hM | exact mo5 hM | exact mo9 hM | exact mo10 hM | exact mo11 hM | exact mo12 hM | exact mo13 hM | exact mo14 hM | exact mo15 hM | exact mo16 hM) rfl) dX8_person_4 (sp_isPerson (k := k - 1) hM (by omega) _) ?_
        refine go_if_ne (tgt := 14) (pc := 7) dX8_person_7 (by decide) (fun h_7 => ?_) (fun h_7 => by exfalso; rw [pi_yes hB.1.1 (by omega) hp] at h_7; exact absurd h_7 (by decide))
        refine go_iload_n (pc := 14) dX8_person_14 rfl ?_
        refine go_i2l (pc := 15) dX8_person_15 ?_
        refine go_lconst (v := 0) (pc := 16) dX8_person_16 rfl ?_
        refine go_ldc2 (pc := 17) kw7_86 dX8_person_17 ?_
        refine go_S3P (pc := 20) s_X8_125 rfl rfl dX8_person_20 (sp_within (k := k - 1) _ _ _) ?_
        refine go_if_eq (tgt := 30) (pc := 23) dX8_person_23 (by decide) (fun h_23 => by exfalso; rw [wi_yes hz (by decide) (by decide)] at h_23; exact absurd h_23 (by decide)) (fun h_23 => ?_)
        refine go_iconst (v := 0) (pc := 26) dX8_person_26 (by decide) ?_
        refine go_goto (tgt := 31) (pc := 27) dX8_person_27 (by decide) ?_
        refine go_mpf4 (pc := 31) hM dX8_person_31 (fun σ hM hf9 => ?_)
        have hf := hf.tr hf9
        refine go_aload_n (pc := 34) dX8_person_34 rfl ?_
        refine go_getf (pc := 35) f_X8_64 dX8_person_35 (by first | exact mo0 hM | exact mo1 hM | exact mo6 hM | exact mo7 hM | exact mo8 hM | exact mo2 hM | exact mo3 hM | exact mo4 hM | exact mo5 hM | exact mo9 hM | exact mo10 hM | exact mo11 hM | exact mo12 hM | exact mo13 hM | exact mo14 hM | exact mo15 hM | exact mo16 hM) (by rfl) ?_
        refine go_if_le (tgt := 43) (pc := 38) dX8_person_38 (by decide) (fun h_38 => ?_) (fun h_38 => by exfalso; exact h_38 (show (0 : Int32) ≤ 0 from by decide))
        refine go_iload_n (pc := 43) dX8_person_43 rfl ?_
        refine go_tableIn (off := 88) (tgt := 132) (pc := 44) dX8_person_44 (by decide) (by decide) rfl (by decide) ?_
        refine go_aload_n (pc := 132) dX8_person_132 rfl ?_
        refine go_getf (pc := 133) f_X8_9 dX8_person_133 (by first | exact mo0 hM | exact mo1 hM | exact mo6 hM | exact mo7 hM | exact mo8 hM | exact mo2 hM | exact mo3 hM | exact mo4 hM | exact mo5 hM | exact mo9 hM | exact mo10 hM | exact mo11 hM | exact mo12 hM | exact mo13 hM | exact mo14 hM | exact mo15 hM | exact mo16 hM) (by rfl) ?_
        refine go_bipush (v := 32) (pc := 136) dX8_person_136 (by decide) ?_
        refine go_iald (j := 32) (pc := 138) dX8_person_138 (by first | exact mo0 hM | exact mo1 hM | exact mo6 hM | exact mo7 hM | exact mo8 hM | exact mo2 hM | exact mo3 hM | exact mo4 hM | exact mo5 hM | exact mo9 hM | exact mo10 hM | exact mo11 hM | exact mo12 hM | exact mo13 hM | exact mo14 hM | exact mo15 hM | exact mo16 hM) (by exact ⟨rfl, by decide⟩) ?_
        refine go_iload_n (pc := 139) dX8_person_139 rfl ?_
        refine go_S2P (pc := 140) s_X8_249 rfl rfl dX8_person_140 (sp_has (k := k - 1) _ _) ?_
        refine go_if_eq (tgt := 150) (pc := 143) dX8_person_143 (by decide) (fun h_143 => ?_) (fun h_143 => ?_)
        · refine go_iconst (v := 0) (pc := 150) dX8_person_150 (by decide) ?_
          exact go_iretI (pc := 151) rfl dX8_person_151 (Nat.le_of_ble_eq_true rfl) (Nat.le_of_ble_eq_true rfl) ⟨(by simp [aPerson, hp, hz]; simp_all [bI, hasB]), rfl, _, _, hM, ⟨(by simp [upd, aPerson, hp, hz]), fun j h1 h2 h3 => by simp [upd, h1, h2, h3]⟩, (by repeat (first | assumption | exact eqx.rf | refine eqx.up ?_ (by decide))), hf⟩
        · refine go_iconst (v := 1) (pc := 146) dX8_person_146 (by decide) ?_
          refine go_goto (tgt := 151) (pc := 147) dX8_person_147 (by decide) ?_
          exact go_iretI (pc := 151) rfl dX8_person_151 (Nat.le_of_ble_eq_true rfl) (Nat.le_of_ble_eq_true rfl) ⟨(by simp [aPerson, hp, hz]; simp_all [bI, hasB]), rfl, _, _, hM, ⟨(by simp [upd, aPerson, hp, hz]), fun j h1 h2 h3 => by simp [upd, h1, h2, h3]⟩, (by repeat (first | assumption | exact eqx.rf | refine eqx.up ?_ (by decide))), hf⟩
      · refine go_aload_n (pc := 0) dX8_person_0 rfl ?_
        refine go_aload_n (pc := 1) dX8_person_1 rfl ?_
        refine go_iload_n (pc := 2) dX8_person_2 rfl ?_
        refine go_i2l (pc := 3) dX8_person_3 ?_
        refine go_V1P (pc := 4) v_X8_310 rfl rfl (rcv_of (ci := 8) (by first | exact mo0 hM | exact mo1 hM | exact mo6 hM | exact mo7 hM | exact mo8 hM | exact mo2 hM | exact mo3 hM | exact mo4 hM | exact mo5 hM | exact mo9 hM | exact mo10 hM | exact mo11 hM | exact mo12 hM | exact mo13 hM | exact mo14 hM | exact mo15 hM | exact mo16 hM) rfl) dX8_person_4 (sp_isPerson (k := k - 1) hM (by omega) _) ?_
        refine go_if_ne (tgt := 14) (pc := 7) dX8_person_7 (by decide) (fun h_7 => ?_) (fun h_7 => by exfalso; rw [pi_yes hB.1.1 (by omega) hp] at h_7; exact absurd h_7 (by decide))
        refine go_iload_n (pc := 14) dX8_person_14 rfl ?_
        refine go_i2l (pc := 15) dX8_person_15 ?_
        refine go_lconst (v := 0) (pc := 16) dX8_person_16 rfl ?_
        refine go_ldc2 (pc := 17) kw7_86 dX8_person_17 ?_
        refine go_S3P (pc := 20) s_X8_125 rfl rfl dX8_person_20 (sp_within (k := k - 1) _ _ _) ?_
        refine go_if_eq (tgt := 30) (pc := 23) dX8_person_23 (by decide) (fun h_23 => by exfalso; rw [wi_yes hz (by decide) (by decide)] at h_23; exact absurd h_23 (by decide)) (fun h_23 => ?_)
        refine go_iconst (v := 0) (pc := 26) dX8_person_26 (by decide) ?_
        refine go_goto (tgt := 31) (pc := 27) dX8_person_27 (by decide) ?_
        refine go_mpf4 (pc := 31) hM dX8_person_31 (fun σ hM hf9 => ?_)
        have hf := hf.tr hf9
        refine go_aload_n (pc := 34) dX8_person_34 rfl ?_
        refine go_getf (pc := 35) f_X8_64 dX8_person_35 (by first | exact mo0 hM | exact mo1 hM | exact mo6 hM | exact mo7 hM | exact mo8 hM | exact mo2 hM | exact mo3 hM | exact mo4 hM | exact mo5 hM | exact mo9 hM | exact mo10 hM | exact mo11 hM | exact mo12 hM | exact mo13 hM | exact mo14 hM | exact mo15 hM | exact mo16 hM) (by rfl) ?_
        refine go_if_le (tgt := 43) (pc := 38) dX8_person_38 (by decide) (fun h_38 => ?_) (fun h_38 => by exfalso; exact h_38 (show (0 : Int32) ≤ 0 from by decide))
        refine go_iload_n (pc := 43) dX8_person_43 rfl ?_
        refine go_tableIn (off := 108) (tgt := 152) (pc := 44) dX8_person_44 (by decide) (by decide) rfl (by decide) ?_
        refine go_aload_n (pc := 152) dX8_person_152 rfl ?_
        refine go_getf (pc := 153) f_X8_9 dX8_person_153 (by first | exact mo0 hM | exact mo1 hM | exact mo6 hM | exact mo7 hM | exact mo8 hM | exact mo2 hM | exact mo3 hM | exact mo4 hM | exact mo5 hM | exact mo9 hM | exact mo10 hM | exact mo11 hM | exact mo12 hM | exact mo13 hM | exact mo14 hM | exact mo15 hM | exact mo16 hM) (by rfl) ?_
        refine go_bipush (v := 43) (pc := 156) dX8_person_156 (by decide) ?_
        refine go_iload_n (pc := 158) dX8_person_158 rfl ?_
        refine go_iadd (pc := 159) dX8_person_159 ?_
        refine go_iald (pc := 160) dX8_person_160 (by first | exact mo0 hM | exact mo1 hM | exact mo6 hM | exact mo7 hM | exact mo8 hM | exact mo2 hM | exact mo3 hM | exact mo4 hM | exact mo5 hM | exact mo9 hM | exact mo10 hM | exact mo11 hM | exact mo12 hM | exact mo13 hM | exact mo14 hM | exact mo15 hM | exact mo16 hM) (by exact ⟨nI_add 43 _, by omega⟩) ?_
        exact go_iretI (pc := 161) rfl dX8_person_161 (Nat.le_of_ble_eq_true rfl) (Nat.le_of_ble_eq_true rfl) ⟨(by simp [aPerson, hp, hz]), rfl, _, _, hM, ⟨(by simp [upd, aPerson, hp, hz]), fun j h1 h2 h3 => by simp [upd, h1, h2, h3]⟩, (by repeat (first | assumption | exact eqx.rf | refine eqx.up ?_ (by decide))), hf⟩
      · refine go_aload_n (pc := 0) dX8_person_0 rfl ?_
        refine go_aload_n (pc := 1) dX8_person_1 rfl ?_
        refine go_iload_n (pc := 2) dX8_person_2 rfl ?_
        refine go_i2l (pc := 3) dX8_person_3 ?_
        refine go_V1P (pc := 4) v_X8_310 rfl rfl (rcv_of (ci := 8) (by first | exact mo0 hM | exact mo1 hM | exact mo6 hM | exact mo7 hM | exact mo8 hM | exact mo2 hM | exact mo3 hM | exact mo4 hM | exact mo5 hM | exact mo9 hM | exact mo10 hM | exact mo11 hM | exact mo12 hM | exact mo13 hM | exact mo14 hM | exact mo15 hM | exact mo16 hM) rfl) dX8_person_4 (sp_isPerson (k := k - 1) hM (by omega) _) ?_
        refine go_if_ne (tgt := 14) (pc := 7) dX8_person_7 (by decide) (fun h_7 => ?_) (fun h_7 => by exfalso; rw [pi_yes hB.1.1 (by omega) hp] at h_7; exact absurd h_7 (by decide))
        refine go_iload_n (pc := 14) dX8_person_14 rfl ?_
        refine go_i2l (pc := 15) dX8_person_15 ?_
        refine go_lconst (v := 0) (pc := 16) dX8_person_16 rfl ?_
        refine go_ldc2 (pc := 17) kw7_86 dX8_person_17 ?_
        refine go_S3P (pc := 20) s_X8_125 rfl rfl dX8_person_20 (sp_within (k := k - 1) _ _ _) ?_
        refine go_if_eq (tgt := 30) (pc := 23) dX8_person_23 (by decide) (fun h_23 => by exfalso; rw [wi_yes hz (by decide) (by decide)] at h_23; exact absurd h_23 (by decide)) (fun h_23 => ?_)
        refine go_iconst (v := 0) (pc := 26) dX8_person_26 (by decide) ?_
        refine go_goto (tgt := 31) (pc := 27) dX8_person_27 (by decide) ?_
        refine go_mpf4 (pc := 31) hM dX8_person_31 (fun σ hM hf9 => ?_)
        have hf := hf.tr hf9
        refine go_aload_n (pc := 34) dX8_person_34 rfl ?_
        refine go_getf (pc := 35) f_X8_64 dX8_person_35 (by first | exact mo0 hM | exact mo1 hM | exact mo6 hM | exact mo7 hM | exact mo8 hM | exact mo2 hM | exact mo3 hM | exact mo4 hM | exact mo5 hM | exact mo9 hM | exact mo10 hM | exact mo11 hM | exact mo12 hM | exact mo13 hM | exact mo14 hM | exact mo15 hM | exact mo16 hM) (by rfl) ?_
        refine go_if_le (tgt := 43) (pc := 38) dX8_person_38 (by decide) (fun h_38 => ?_) (fun h_38 => by exfalso; exact h_38 (show (0 : Int32) ≤ 0 from by decide))
        refine go_iload_n (pc := 43) dX8_person_43 rfl ?_
        refine go_tableIn (off := 118) (tgt := 162) (pc := 44) dX8_person_44 (by decide) (by decide) rfl (by decide) ?_
        refine go_aload_n (pc := 162) dX8_person_162 rfl ?_
        refine go_getf (pc := 163) f_X8_9 dX8_person_163 (by first | exact mo0 hM | exact mo1 hM | exact mo6 hM | exact mo7 hM | exact mo8 hM | exact mo2 hM | exact mo3 hM | exact mo4 hM | exact mo5 hM | exact mo9 hM | exact mo10 hM | exact mo11 hM | exact mo12 hM | exact mo13 hM | exact mo14 hM | exact mo15 hM | exact mo16 hM) (by rfl) ?_
        refine go_bipush (v := 51) (pc := 166) dX8_person_166 (by decide) ?_
        refine go_iload_n (pc := 168) dX8_person_168 rfl ?_
        refine go_iadd (pc := 169) dX8_person_169 ?_
        refine go_iald (pc := 170) dX8_person_170 (by first | exact mo0 hM | exact mo1 hM | exact mo6 hM | exact mo7 hM | exact mo8 hM | exact mo2 hM | exact mo3 hM | exact mo4 hM | exact mo5 hM | exact mo9 hM | exact mo10 hM | exact mo11 hM | exact mo12 hM | exact mo13 hM | exact mo14 hM | exact mo15 hM | exact mo16 hM) (by exact ⟨nI_add 51 _, by omega⟩) ?_
        exact go_iretI (pc := 171) rfl dX8_person_171 (Nat.le_of_ble_eq_true rfl) (Nat.le_of_ble_eq_true rfl) ⟨(by simp [aPerson, hp, hz]), rfl, _, _, hM, ⟨(by simp [upd, aPerson, hp, hz]), fun j h1 h2 h3 => by simp [upd, h1, h2, h3]⟩, (by repeat (first | assumption | exact eqx.rf | refine eqx.up ?_ (by decide))), hf⟩
      · refine go_aload_n (pc := 0) dX8_person_0 rfl ?_
        refine go_aload_n (pc := 1) dX8_person_1 rfl ?_
        refine go_iload_n (pc := 2) dX8_person_2 rfl ?_
        refine go_i2l (pc := 3) dX8_person_3 ?_
        refine go_V1P (pc := 4) v_X8_310 rfl rfl (rcv_of (ci := 8) (by first | exact mo0 hM | exact mo1 hM | exact mo6 hM | exact mo7 hM | exact mo8 hM | exact mo2 hM | exact mo3 hM | exact mo4 hM | exact mo5 hM | exact mo9 hM | exact mo10 hM | exact mo11 hM | exact mo12 hM | exact mo13 hM | exact mo14 hM | exact mo15 hM | exact mo16 hM) rfl) dX8_person_4 (sp_isPerson (k := k - 1) hM (by omega) _) ?_
        refine go_if_ne (tgt := 14) (pc := 7) dX8_person_7 (by decide) (fun h_7 => ?_) (fun h_7 => by exfalso; rw [pi_yes hB.1.1 (by omega) hp] at h_7; exact absurd h_7 (by decide))
        refine go_iload_n (pc := 14) dX8_person_14 rfl ?_
        refine go_i2l (pc := 15) dX8_person_15 ?_
        refine go_lconst (v := 0) (pc := 16) dX8_person_16 rfl ?_
        refine go_ldc2 (pc := 17) kw7_86 dX8_person_17 ?_
        refine go_S3P (pc := 20) s_X8_125 rfl rfl dX8_person_20 (sp_within (k := k - 1) _ _ _) ?_
        refine go_if_eq (tgt := 30) (pc := 23) dX8_person_23 (by decide) (fun h_23 => by exfalso; rw [wi_yes hz (by decide) (by decide)] at h_23; exact absurd h_23 (by decide)) (fun h_23 => ?_)
        refine go_iconst (v := 0) (pc := 26) dX8_person_26 (by decide) ?_
        refine go_goto (tgt := 31) (pc := 27) dX8_person_27 (by decide) ?_
        refine go_mpf4 (pc := 31) hM dX8_person_31 (fun σ hM hf9 => ?_)
        have hf := hf.tr hf9
        refine go_aload_n (pc := 34) dX8_person_34 rfl ?_
        refine go_getf (pc := 35) f_X8_64 dX8_person_35 (by first | exact mo0 hM | exact mo1 hM | exact mo6 hM | exact mo7 hM | exact mo8 hM | exact mo2 hM | exact mo3 hM | exact mo4 hM | exact mo5 hM | exact mo9 hM | exact mo10 hM | exact mo11 hM | exact mo12 hM | exact mo13 hM | exact mo14 hM | exact mo15 hM | exact mo16 hM) (by rfl) ?_
        refine go_if_le (tgt := 43) (pc := 38) dX8_person_38 (by decide) (fun h_38 => ?_) (fun h_38 => by exfalso; exact h_38 (show (0 : Int32) ≤ 0 from by decide))
        refine go_iload_n (pc := 43) dX8_person_43 rfl ?_
        refine go_tableOut (tgt := 172) (pc := 44) dX8_person_44 (by decide) (by decide) ?_
        refine go_aload_n (pc := 172) dX8_person_172 rfl ?_
        refine go_getf (pc := 173) f_X8_9 dX8_person_173 (by first | exact mo0 hM | exact mo1 hM | exact mo6 hM | exact mo7 hM | exact mo8 hM | exact mo2 hM | exact mo3 hM | exact mo4 hM | exact mo5 hM | exact mo9 hM | exact mo10 hM | exact mo11 hM | exact mo12 hM | exact mo13 hM | exact mo14 hM | exact mo15 hM | exact mo16 hM) (by rfl) ?_
        refine go_bipush (v := 24) (pc := 176) dX8_person_176 (by decide) ?_
        refine go_iload_n (pc := 178) dX8_person_178 rfl ?_
        refine go_iadd (pc := 179) dX8_person_179 ?_
        refine go_iald (pc := 180) dX8_person_180 (by first | exact mo0 hM | exact mo1 hM | exact mo6 hM | exact mo7 hM | exact mo8 hM | exact mo2 hM | exact mo3 hM | exact mo4 hM | exact mo5 hM | exact mo9 hM | exact mo10 hM | exact mo11 hM | exact mo12 hM | exact mo13 hM | exact mo14 hM | exact mo15 hM | exact mo16 hM) (by exact ⟨nI_add 24 _, by omega⟩) ?_
        exact go_iretI (pc := 181) rfl dX8_person_181 (Nat.le_of_ble_eq_true rfl) (Nat.le_of_ble_eq_true rfl) ⟨(by simp [aPerson, hp, hz]), rfl, _, _, hM, ⟨(by simp [upd, aPerson, hp, hz]), fun j h1 h2 h3 => by simp [upd, h1, h2, h3]⟩, (by repeat (first | assumption | exact eqx.rf | refine eqx.up ?_ (by decide))), hf⟩
theorem sp_fault {Γ : gam} {z0 : sto} {n k r : Nat} {F K : row} {A : Nat → row} {Nm : Nat → Int64} (hM : MoAt Γ z0 r F K A Nm) (z : Int32) : Sp Γ (rmk k 0 0) uX8_fault [.ref r, .int z] z0 n (qI fun v σ' n' => v = (if z = 0 then F 14 else if z = 1 then F 15 else -1) ∧ apJ Γ r F K A Nm z0 n 0 σ' n') := by
  have hA : eqx [6, 7, 8, 9, 10, 11, 12, 13] A A := eqx.rf
  have hf : fr r (r + 16) z0 z0 := fr.rf
  refine sp_intro [some (.ref r), some (.int z)] (by decide +kernel) rfl (Nat.le_of_ble_eq_true rfl) rfl ?_
  refine go_aload_n (pc := 0) dX8_fault_0 rfl ?_
  refine go_iconst (v := 0) (pc := 1) dX8_fault_1 (by decide) ?_
  refine go_mpf4 (pc := 2) hM dX8_fault_2 (fun σ hM hf9 => ?_)
  have hf := hf.tr hf9
  refine go_iload_n (pc := 5) dX8_fault_5 rfl ?_
  refine go_if_ne (tgt := 16) (pc := 6) dX8_fault_6 (by decide) (fun h_6 => ?_) (fun h_6 => ?_)
  · refine go_iload_n (pc := 16) dX8_fault_16 rfl ?_
    refine go_iconst (v := 1) (pc := 17) dX8_fault_17 (by decide) ?_
    refine go_icmp_ne (tgt := 28) (pc := 18) dX8_fault_18 (by decide) (fun h_18 => ?_) (fun h_18 => ?_)
    · refine go_iconst (v := -1) (pc := 28) dX8_fault_28 (by decide) ?_
      exact go_iretI (pc := 29) rfl dX8_fault_29 (Nat.le_of_ble_eq_true rfl) (Nat.le_of_ble_eq_true rfl) ⟨(by simp_all [upd]), rfl, _, _, hM, ⟨rfl, fun j h1 h2 h3 => by simp [upd, h1, h2, h3]⟩, eqx.rf, hf⟩
    · refine go_aload_n (pc := 21) dX8_fault_21 rfl ?_
      refine go_getf (pc := 22) f_X8_26 dX8_fault_22 (by first | exact mo0 hM | exact mo1 hM | exact mo6 hM | exact mo7 hM | exact mo8 hM | exact mo2 hM | exact mo3 hM | exact mo4 hM | exact mo5 hM | exact mo9 hM | exact mo10 hM | exact mo11 hM | exact mo12 hM | exact mo13 hM | exact mo14 hM | exact mo15 hM | exact mo16 hM) (by rfl) ?_
      refine go_goto (tgt := 29) (pc := 25) dX8_fault_25 (by decide) ?_
      exact go_iretI (pc := 29) rfl dX8_fault_29 (Nat.le_of_ble_eq_true rfl) (Nat.le_of_ble_eq_true rfl) ⟨(by simp_all [upd]), rfl, _, _, hM, ⟨rfl, fun j h1 h2 h3 => by simp [upd, h1, h2, h3]⟩, eqx.rf, hf⟩
  · refine go_aload_n (pc := 9) dX8_fault_9 rfl ?_
    refine go_getf (pc := 10) f_X8_239 dX8_fault_10 (by first | exact mo0 hM | exact mo1 hM | exact mo6 hM | exact mo7 hM | exact mo8 hM | exact mo2 hM | exact mo3 hM | exact mo4 hM | exact mo5 hM | exact mo9 hM | exact mo10 hM | exact mo11 hM | exact mo12 hM | exact mo13 hM | exact mo14 hM | exact mo15 hM | exact mo16 hM) (by rfl) ?_
    refine go_goto (tgt := 29) (pc := 13) dX8_fault_13 (by decide) ?_
    exact go_iretI (pc := 29) rfl dX8_fault_29 (Nat.le_of_ble_eq_true rfl) (Nat.le_of_ble_eq_true rfl) ⟨(by simp_all [upd]), rfl, _, _, hM, ⟨rfl, fun j h1 h2 h3 => by simp [upd, h1, h2, h3]⟩, eqx.rf, hf⟩
theorem sp_ups {Γ : gam} {z0 : sto} {n k r : Nat} {F K : row} {A : Nat → row} {Nm : Nat → Int64} (hM : MoAt Γ z0 r F K A Nm) (hk : 1 ≤ k) (hB : okB K) : Sp Γ (rmk k 0 0) uX8_ups [.ref r] z0 n (qP (upsK K) z0 n) := by
  have hP8 := hB.1.2.1
  refine sp_intro [some (.ref r), none, none] (by decide +kernel) rfl (Nat.le_of_ble_eq_true rfl) rfl ?_
  refine go_iconst (v := 0) (pc := 0) dX8_ups_0 (by decide) ?_
  refine go_istore_n (lw := [_, _, _]) (pc := 1) dX8_ups_1 (by decide) rfl ?_
  refine go_iconst (v := 0) (pc := 2) dX8_ups_2 (by decide) ?_
  refine go_istore_n (lw := [_, _, _]) (pc := 3) dX8_ups_3 (by decide) rfl ?_
  refine go_iter (kP K) (fun i lv9 s9 n9 => ∃ x1, lv9 = [some (.ref r), some (.int x1), some (.int (nI i))] ∧ (bits (upK K) (kP K - i) i x1 = upsK K) ∧ (z0 = s9) ∧ n = n9) ⟨0, rfl, rfl, rfl, rfl⟩ ?_ ?_
  · rintro i lv9 σ n9 hi ⟨x1, rfl, hR, rfl, rfl⟩ ih
    refine go_iload_n (pc := 4) dX8_ups_4 rfl ?_
    refine go_aload_n (pc := 5) dX8_ups_5 rfl ?_
    refine go_V0P (pc := 6) v_X8_242 rfl rfl (rcv_of (ci := 8) (by first | exact mo0 hM | exact mo1 hM | exact mo6 hM | exact mo7 hM | exact mo8 hM | exact mo2 hM | exact mo3 hM | exact mo4 hM | exact mo5 hM | exact mo9 hM | exact mo10 hM | exact mo11 hM | exact mo12 hM | exact mo13 hM | exact mo14 hM | exact mo15 hM | exact mo16 hM) rfl) dX8_ups_6 (sp_people (k := k - 1) hM) ?_
    rw [hB.1.1]
    refine go_icmp_ge (tgt := 36) (pc := 9) dX8_ups_9 (by decide) (fun h_9 => by exfalso; exact absurd h_9 (nI_ge (by omega) (by omega))) (fun h_9 => ?_)
    refine go_iload_n (pc := 12) dX8_ups_12 rfl ?_
    refine go_aload_n (pc := 13) dX8_ups_13 rfl ?_
    refine go_iload_n (pc := 14) dX8_ups_14 rfl ?_
    refine go_V1P (pc := 15) v_X8_296 rfl rfl (rcv_of (ci := 8) (by first | exact mo0 hM | exact mo1 hM | exact mo6 hM | exact mo7 hM | exact mo8 hM | exact mo2 hM | exact mo3 hM | exact mo4 hM | exact mo5 hM | exact mo9 hM | exact mo10 hM | exact mo11 hM | exact mo12 hM | exact mo13 hM | exact mo14 hM | exact mo15 hM | exact mo16 hM) rfl) dX8_ups_15 (sp_isUp (k := k - 1) hM (by omega)) ?_
    refine go_if_eq (tgt := 27) (pc := 18) dX8_ups_18 (by decide) (fun h_18 => ?_) (fun h_18 => ?_)
    · refine go_iconst (v := 0) (pc := 27) dX8_ups_27 (by decide) ?_
      refine go_ior (pc := 28) dX8_ups_28 ?_
      refine go_istore_n (lw := [_, _, _]) (pc := 29) dX8_ups_29 (by decide) rfl ?_
      refine go_iinc (v := 1) (lw := [_, _, _]) (pc := 30) dX8_ups_30 rfl (by decide) (by decide) rfl ?_
      refine go_goto (tgt := 4) (pc := 33) dX8_ups_33 (by decide) ?_
      rw [nI_1]
      exact ih _ _ _ ⟨_, rfl, (by rw [← hR, bits_step hi]; congr 2; split <;> simp_all [upK_iff, bI_0]), rfl, rfl⟩
    · refine go_iconst (v := 1) (pc := 21) dX8_ups_21 (by decide) ?_
      refine go_iload_n (pc := 22) dX8_ups_22 rfl ?_
      refine go_ishl (pc := 23) dX8_ups_23 ?_
      refine go_goto (tgt := 28) (pc := 24) dX8_ups_24 (by decide) ?_
      refine go_ior (pc := 28) dX8_ups_28 ?_
      refine go_istore_n (lw := [_, _, _]) (pc := 29) dX8_ups_29 (by decide) rfl ?_
      refine go_iinc (v := 1) (lw := [_, _, _]) (pc := 30) dX8_ups_30 rfl (by decide) (by decide) rfl ?_
      refine go_goto (tgt := 4) (pc := 33) dX8_ups_33 (by decide) ?_
      rw [nI_1]
      exact ih _ _ _ ⟨_, rfl, (by rw [← hR, bits_step hi]; congr 2; split <;> simp_all [upK_iff, bI_0]), rfl, rfl⟩
  · rintro lv9 σ n9 ⟨x1, rfl, hR, rfl, rfl⟩
    refine go_iload_n (pc := 4) dX8_ups_4 rfl ?_
    refine go_aload_n (pc := 5) dX8_ups_5 rfl ?_
    refine go_V0P (pc := 6) v_X8_242 rfl rfl (rcv_of (ci := 8) (by first | exact mo0 hM | exact mo1 hM | exact mo6 hM | exact mo7 hM | exact mo8 hM | exact mo2 hM | exact mo3 hM | exact mo4 hM | exact mo5 hM | exact mo9 hM | exact mo10 hM | exact mo11 hM | exact mo12 hM | exact mo13 hM | exact mo14 hM | exact mo15 hM | exact mo16 hM) rfl) dX8_ups_6 (sp_people (k := k - 1) hM) ?_
    rw [hB.1.1]
    refine go_icmp_ge (tgt := 36) (pc := 9) dX8_ups_9 (by decide) (fun h_9 => ?_) (fun h_9 => by exfalso; exact h_9 (nI_le (by omega) (by omega)))
    refine go_iload_n (pc := 36) dX8_ups_36 rfl ?_
    exact go_iretP (pc := 37) rfl dX8_ups_37 (Nat.le_of_ble_eq_true rfl) (Nat.le_of_ble_eq_true rfl) (by rw [Nat.sub_self] at hR; exact hR)
theorem lp_size {Γ : gam} {σ : sto} {n k : Nat} {s0 R0 : Int32} : ∀ (v : Nat) (cn : Nat), v < 256 → nI (cn + szK 8 (nI v)) = R0 → Go Γ (rmk k 0 0) uX8_size (qP R0 σ n) 0 0 4 [some (.int s0), some (.int (nI cn)), some (.int (nI v))] [] σ n := by
  intro v
  induction v using Nat.strongRecOn with
  | _ v ih =>
    intro cn hv hR
    obtain ⟨g1, g2, g3, -⟩ := sz_rec ⟨v, hv⟩
    simp only at g1 g2 g3
    by_cases hv0 : v = 0
    · refine go_iload_n (pc := 4) dX8_size_4 rfl ?_
      refine go_if_eq (tgt := 20) (pc := 5) dX8_size_5 (by decide) (fun h_5 => ?_) (fun h_5 => by exfalso; exact h_5 (by rw [hv0]; rfl))
      refine go_iload_n (pc := 20) dX8_size_20 rfl ?_
      exact go_iretP (pc := 21) rfl dX8_size_21 (Nat.le_of_ble_eq_true rfl) (Nat.le_of_ble_eq_true rfl) (by rw [← hR, hv0]; have e0 := (sz_rec ⟨0, by omega⟩).2.2.1; simp at e0; rw [e0]; rfl)
    · refine go_iload_n (pc := 4) dX8_size_4 rfl ?_
      refine go_if_eq (tgt := 20) (pc := 5) dX8_size_5 (by decide) (fun h_5 => by exfalso; exact nI_ne0 (by omega) (by omega) h_5) (fun h_5 => ?_)
      refine go_iinc (v := 1) (lw := [_, _, _]) (pc := 8) dX8_size_8 rfl (by decide) (by decide) rfl ?_
      refine go_iload_n (pc := 11) dX8_size_11 rfl ?_
      refine go_iload_n (pc := 12) dX8_size_12 rfl ?_
      refine go_iconst (v := 1) (pc := 13) dX8_size_13 (by decide) ?_
      refine go_isub (pc := 14) dX8_size_14 ?_
      refine go_iand (pc := 15) dX8_size_15 ?_
      refine go_istore_n (lw := [_, _, _]) (pc := 16) dX8_size_16 (by decide) rfl ?_
      refine go_goto (tgt := 4) (pc := 17) dX8_size_17 (by decide) ?_
      rw [nI_1, g1]
      exact ih _ (by have := Nat.and_le_right (n := v) (m := v - 1); omega) _ g2 (by rw [← hR, g3, if_neg hv0]; congr 1; omega)
theorem sp_size {Γ : gam} {σ : sto} {n k : Nat} {s0 : Int32} (hs : setP s0) : Sp Γ (rmk k 0 0) uX8_size [.int s0] σ n (qP (szI s0) σ n) := by
  obtain ⟨v, hv, rfl⟩ := hs
  refine sp_intro [some (.int (nI v)), none, none] (by decide +kernel) rfl (Nat.le_of_ble_eq_true rfl) rfl ?_
  refine go_iconst (v := 0) (pc := 0) dX8_size_0 (by decide) ?_
  refine go_istore_n (lw := [_, _, _]) (pc := 1) dX8_size_1 (by decide) rfl ?_
  refine go_iload_n (pc := 2) dX8_size_2 rfl ?_
  refine go_istore_n (lw := [_, _, _]) (pc := 3) dX8_size_3 (by decide) rfl ?_
  exact lp_size v 0 hv (by rw [Nat.zero_add]; rfl)
theorem cntK_out {K : row} {z tp : Int32} (h : z < 0 ∨ nI 10 ≤ z) : cntK K z tp = -1 := by
  have hz : ∀ i : Nat, i < 10 → ¬ z = nI i := fun i hi e => by
    subst e
    rcases h with h | h
    · exact nI_pos (by omega) h
    · exact nI_ge (by omega) (by decide) h
  unfold cntK
  rw [if_neg (show ¬ z = 0 from hz 0 (by omega)), if_neg (show ¬ z = 1 from hz 1 (by omega)), if_neg (show ¬ z = 2 from hz 2 (by omega)), if_neg (show ¬ z = 3 from hz 3 (by omega)), if_neg (show ¬ z = 4 from hz 4 (by omega)), if_neg (show ¬ z = 5 from hz 5 (by omega)), if_neg (show ¬ z = 6 from hz 6 (by omega)), if_neg (show ¬ z = 7 from hz 7 (by omega)), if_neg (show ¬ z = 8 from hz 8 (by omega)), if_neg (show ¬ z = 9 from hz 9 (by omega))]
theorem tb_out {z : Int32} {m : Nat} (hm : m < 2 ^ 31) (h : z < 0 ∨ nI m ≤ z) : z.toInt < 0 ∨ (m : Int) - 1 < z.toInt := by
  rcases h with h | h
  · exact Or.inl (Int32.lt_iff_toInt_lt.mp h)
  · have := Int32.le_iff_toInt_le.mp h
    rw [nI_toInt hm] at this
    omega
theorem sp_count {Γ : gam} {z0 : sto} {n k r : Nat} {F K : row} {A : Nat → row} {Nm : Nat → Int64} (hM : MoAt Γ z0 r F K A Nm) (hk : 12 ≤ k) (hB : okB K) (hv : vS K) (z : Int32) : Sp Γ (rmk k 0 0) uX8_count [.ref r, .int z] z0 n (qI fun v σ' n' => v = (cntK K z (F 6)) ∧ apJ Γ r F K A Nm z0 n 0 σ' n') := by
  have hP8 := hB.1.2.1
  have hH5 := hB.1.2.2.2.1
  have hW4 := hB.1.2.2.2.2.2
  have hA : eqx [6, 7, 8, 9, 10, 11, 12, 13] A A := eqx.rf
  have hf : fr r (r + 16) z0 z0 := fr.rf
  refine sp_intro [some (.ref r), some (.int z)] (by decide +kernel) rfl (Nat.le_of_ble_eq_true rfl) rfl ?_
  have hups : setP (upsK K) := setP_bits (by omega) setP_0
  rcases pk_ix z (n := 10) (by decide) with hlow | hhigh | ⟨j, hj, rfl⟩
  · refine go_aload_n (pc := 0) dX8_count_0 rfl ?_
    refine go_iconst (v := 0) (pc := 1) dX8_count_1 (by decide) ?_
    refine go_mpf4 (pc := 2) hM dX8_count_2 (fun σ hM hf9 => ?_)
    have hf := hf.tr hf9
    refine go_iload_n (pc := 5) dX8_count_5 rfl ?_
    refine go_tableOut (tgt := 147) (pc := 6) dX8_count_6 (tb_out (m := 10) (by decide) (by first | exact Or.inl hlow | exact Or.inr hhigh)) (by decide) ?_
    refine go_iconst (v := -1) (pc := 147) dX8_count_147 (by decide) ?_
    exact go_iretI (pc := 148) rfl dX8_count_148 (Nat.le_of_ble_eq_true rfl) (Nat.le_of_ble_eq_true rfl) ⟨(by rw [cntK_out (by first | exact Or.inl hlow | exact Or.inr hhigh)]), rfl, _, _, hM, ⟨rfl, fun j h1 h2 h3 => by simp [upd, h1, h2, h3]⟩, (by repeat (first | assumption | exact eqx.rf | refine eqx.up ?_ (by decide))), hf⟩
  · refine go_aload_n (pc := 0) dX8_count_0 rfl ?_
    refine go_iconst (v := 0) (pc := 1) dX8_count_1 (by decide) ?_
    refine go_mpf4 (pc := 2) hM dX8_count_2 (fun σ hM hf9 => ?_)
    have hf := hf.tr hf9
    refine go_iload_n (pc := 5) dX8_count_5 rfl ?_
    refine go_tableOut (tgt := 147) (pc := 6) dX8_count_6 (tb_out (m := 10) (by decide) (by first | exact Or.inl hlow | exact Or.inr hhigh)) (by decide) ?_
    refine go_iconst (v := -1) (pc := 147) dX8_count_147 (by decide) ?_
    exact go_iretI (pc := 148) rfl dX8_count_148 (Nat.le_of_ble_eq_true rfl) (Nat.le_of_ble_eq_true rfl) ⟨(by rw [cntK_out (by first | exact Or.inl hlow | exact Or.inr hhigh)]), rfl, _, _, hM, ⟨rfl, fun j h1 h2 h3 => by simp [upd, h1, h2, h3]⟩, (by repeat (first | assumption | exact eqx.rf | refine eqx.up ?_ (by decide))), hf⟩
  · rcases (show j = 0 ∨ j = 1 ∨ j = 2 ∨ j = 3 ∨ j = 4 ∨ j = 5 ∨ j = 6 ∨ j = 7 ∨ j = 8 ∨ j = 9 by omega) with rfl | rfl | rfl | rfl | rfl | rfl | rfl | rfl | rfl | rfl
    · refine go_aload_n (pc := 0) dX8_count_0 rfl ?_
      refine go_iconst (v := 0) (pc := 1) dX8_count_1 (by decide) ?_
      refine go_mpf4 (pc := 2) hM dX8_count_2 (fun σ hM hf9 => ?_)
      have hf := hf.tr hf9
      refine go_iload_n (pc := 5) dX8_count_5 rfl ?_
      refine go_tableIn (off := 54) (tgt := 60) (pc := 6) dX8_count_6 (by decide) (by decide) rfl (by decide) ?_
      refine go_aload_n (pc := 60) dX8_count_60 rfl ?_
      refine go_getf (pc := 61) f_X8_9 dX8_count_61 (by first | exact mo0 hM | exact mo1 hM | exact mo6 hM | exact mo7 hM | exact mo8 hM | exact mo2 hM | exact mo3 hM | exact mo4 hM | exact mo5 hM | exact mo9 hM | exact mo10 hM | exact mo11 hM | exact mo12 hM | exact mo13 hM | exact mo14 hM | exact mo15 hM | exact mo16 hM) (by rfl) ?_
      refine go_iconst (v := 0) (pc := 64) dX8_count_64 (by decide) ?_
      refine go_iald (j := 0) (pc := 65) dX8_count_65 (by first | exact mo0 hM | exact mo1 hM | exact mo6 hM | exact mo7 hM | exact mo8 hM | exact mo2 hM | exact mo3 hM | exact mo4 hM | exact mo5 hM | exact mo9 hM | exact mo10 hM | exact mo11 hM | exact mo12 hM | exact mo13 hM | exact mo14 hM | exact mo15 hM | exact mo16 hM) (by exact ⟨rfl, by decide⟩) ?_
      exact go_iretI (pc := 66) rfl dX8_count_66 (Nat.le_of_ble_eq_true rfl) (Nat.le_of_ble_eq_true rfl) ⟨(by rfl), rfl, _, _, hM, ⟨rfl, fun j h1 h2 h3 => by simp [upd, h1, h2, h3]⟩, (by repeat (first | assumption | exact eqx.rf | refine eqx.up ?_ (by decide))), hf⟩
    · refine go_aload_n (pc := 0) dX8_count_0 rfl ?_
      refine go_iconst (v := 0) (pc := 1) dX8_count_1 (by decide) ?_
      refine go_mpf4 (pc := 2) hM dX8_count_2 (fun σ hM hf9 => ?_)
      have hf := hf.tr hf9
      refine go_iload_n (pc := 5) dX8_count_5 rfl ?_
      refine go_tableIn (off := 61) (tgt := 67) (pc := 6) dX8_count_6 (by decide) (by decide) rfl (by decide) ?_
      refine go_aload_n (pc := 67) dX8_count_67 rfl ?_
      refine go_getf (pc := 68) f_X8_9 dX8_count_68 (by first | exact mo0 hM | exact mo1 hM | exact mo6 hM | exact mo7 hM | exact mo8 hM | exact mo2 hM | exact mo3 hM | exact mo4 hM | exact mo5 hM | exact mo9 hM | exact mo10 hM | exact mo11 hM | exact mo12 hM | exact mo13 hM | exact mo14 hM | exact mo15 hM | exact mo16 hM) (by rfl) ?_
      refine go_iconst (v := 1) (pc := 71) dX8_count_71 (by decide) ?_
      refine go_iald (j := 1) (pc := 72) dX8_count_72 (by first | exact mo0 hM | exact mo1 hM | exact mo6 hM | exact mo7 hM | exact mo8 hM | exact mo2 hM | exact mo3 hM | exact mo4 hM | exact mo5 hM | exact mo9 hM | exact mo10 hM | exact mo11 hM | exact mo12 hM | exact mo13 hM | exact mo14 hM | exact mo15 hM | exact mo16 hM) (by exact ⟨rfl, by decide⟩) ?_
      exact go_iretI (pc := 73) rfl dX8_count_73 (Nat.le_of_ble_eq_true rfl) (Nat.le_of_ble_eq_true rfl) ⟨(by rfl), rfl, _, _, hM, ⟨rfl, fun j h1 h2 h3 => by simp [upd, h1, h2, h3]⟩, (by repeat (first | assumption | exact eqx.rf | refine eqx.up ?_ (by decide))), hf⟩
    · refine go_aload_n (pc := 0) dX8_count_0 rfl ?_
      refine go_iconst (v := 0) (pc := 1) dX8_count_1 (by decide) ?_
      refine go_mpf4 (pc := 2) hM dX8_count_2 (fun σ hM hf9 => ?_)
      have hf := hf.tr hf9
      refine go_iload_n (pc := 5) dX8_count_5 rfl ?_
      refine go_tableIn (off := 68) (tgt := 74) (pc := 6) dX8_count_6 (by decide) (by decide) rfl (by decide) ?_
      refine go_aload_n (pc := 74) dX8_count_74 rfl ?_
      refine go_getf (pc := 75) f_X8_9 dX8_count_75 (by first | exact mo0 hM | exact mo1 hM | exact mo6 hM | exact mo7 hM | exact mo8 hM | exact mo2 hM | exact mo3 hM | exact mo4 hM | exact mo5 hM | exact mo9 hM | exact mo10 hM | exact mo11 hM | exact mo12 hM | exact mo13 hM | exact mo14 hM | exact mo15 hM | exact mo16 hM) (by rfl) ?_
      refine go_iconst (v := 2) (pc := 78) dX8_count_78 (by decide) ?_
      refine go_iald (j := 2) (pc := 79) dX8_count_79 (by first | exact mo0 hM | exact mo1 hM | exact mo6 hM | exact mo7 hM | exact mo8 hM | exact mo2 hM | exact mo3 hM | exact mo4 hM | exact mo5 hM | exact mo9 hM | exact mo10 hM | exact mo11 hM | exact mo12 hM | exact mo13 hM | exact mo14 hM | exact mo15 hM | exact mo16 hM) (by exact ⟨rfl, by decide⟩) ?_
      exact go_iretI (pc := 80) rfl dX8_count_80 (Nat.le_of_ble_eq_true rfl) (Nat.le_of_ble_eq_true rfl) ⟨(by rfl), rfl, _, _, hM, ⟨rfl, fun j h1 h2 h3 => by simp [upd, h1, h2, h3]⟩, (by repeat (first | assumption | exact eqx.rf | refine eqx.up ?_ (by decide))), hf⟩
    · refine go_aload_n (pc := 0) dX8_count_0 rfl ?_
      refine go_iconst (v := 0) (pc := 1) dX8_count_1 (by decide) ?_
      refine go_mpf4 (pc := 2) hM dX8_count_2 (fun σ hM hf9 => ?_)
      have hf := hf.tr hf9
      refine go_iload_n (pc := 5) dX8_count_5 rfl ?_
      refine go_tableIn (off := 75) (tgt := 81) (pc := 6) dX8_count_6 (by decide) (by decide) rfl (by decide) ?_
      refine go_aload_n (pc := 81) dX8_count_81 rfl ?_
      refine go_V0P (pc := 82) v_X8_242 rfl rfl (rcv_of (ci := 8) (by first | exact mo0 hM | exact mo1 hM | exact mo6 hM | exact mo7 hM | exact mo8 hM | exact mo2 hM | exact mo3 hM | exact mo4 hM | exact mo5 hM | exact mo9 hM | exact mo10 hM | exact mo11 hM | exact mo12 hM | exact mo13 hM | exact mo14 hM | exact mo15 hM | exact mo16 hM) rfl) dX8_count_82 (sp_people (k := k - 1) hM) ?_
      exact go_iretI (pc := 85) rfl dX8_count_85 (Nat.le_of_ble_eq_true rfl) (Nat.le_of_ble_eq_true rfl) ⟨(by rfl), rfl, _, _, hM, ⟨rfl, fun j h1 h2 h3 => by simp [upd, h1, h2, h3]⟩, (by repeat (first | assumption | exact eqx.rf | refine eqx.up ?_ (by decide))), hf⟩
    · refine go_aload_n (pc := 0) dX8_count_0 rfl ?_
      refine go_iconst (v := 0) (pc := 1) dX8_count_1 (by decide) ?_
      refine go_mpf4 (pc := 2) hM dX8_count_2 (fun σ hM hf9 => ?_)
      have hf := hf.tr hf9
      refine go_iload_n (pc := 5) dX8_count_5 rfl ?_
      refine go_tableIn (off := 80) (tgt := 86) (pc := 6) dX8_count_6 (by decide) (by decide) rfl (by decide) ?_
      refine go_aload_n (pc := 86) dX8_count_86 rfl ?_
      refine go_V0P (pc := 87) v_X8_477 rfl rfl (rcv_of (ci := 8) (by first | exact mo0 hM | exact mo1 hM | exact mo6 hM | exact mo7 hM | exact mo8 hM | exact mo2 hM | exact mo3 hM | exact mo4 hM | exact mo5 hM | exact mo9 hM | exact mo10 hM | exact mo11 hM | exact mo12 hM | exact mo13 hM | exact mo14 hM | exact mo15 hM | exact mo16 hM) rfl) dX8_count_87 (sp_ups (k := k - 1) hM (by omega) hB) ?_
      exact go_iretI (pc := 90) rfl dX8_count_90 (Nat.le_of_ble_eq_true rfl) (Nat.le_of_ble_eq_true rfl) ⟨(by rfl), rfl, _, _, hM, ⟨rfl, fun j h1 h2 h3 => by simp [upd, h1, h2, h3]⟩, (by repeat (first | assumption | exact eqx.rf | refine eqx.up ?_ (by decide))), hf⟩
    · refine go_aload_n (pc := 0) dX8_count_0 rfl ?_
      refine go_iconst (v := 0) (pc := 1) dX8_count_1 (by decide) ?_
      refine go_mpf4 (pc := 2) hM dX8_count_2 (fun σ hM hf9 => ?_)
      have hf := hf.tr hf9
      refine go_iload_n (pc := 5) dX8_count_5 rfl ?_
      refine go_tableIn (off := 85) (tgt := 91) (pc := 6) dX8_count_6 (by decide) (by decide) rfl (by decide) ?_
      refine go_aload_n (pc := 91) dX8_count_91 rfl ?_
      refine go_getf (pc := 92) f_X8_9 dX8_count_92 (by first | exact mo0 hM | exact mo1 hM | exact mo6 hM | exact mo7 hM | exact mo8 hM | exact mo2 hM | exact mo3 hM | exact mo4 hM | exact mo5 hM | exact mo9 hM | exact mo10 hM | exact mo11 hM | exact mo12 hM | exact mo13 hM | exact mo14 hM | exact mo15 hM | exact mo16 hM) (by rfl) ?_
      refine go_bipush (v := 32) (pc := 95) dX8_count_95 (by decide) ?_
      refine go_iald (j := 32) (pc := 97) dX8_count_97 (by first | exact mo0 hM | exact mo1 hM | exact mo6 hM | exact mo7 hM | exact mo8 hM | exact mo2 hM | exact mo3 hM | exact mo4 hM | exact mo5 hM | exact mo9 hM | exact mo10 hM | exact mo11 hM | exact mo12 hM | exact mo13 hM | exact mo14 hM | exact mo15 hM | exact mo16 hM) (by exact ⟨rfl, by decide⟩) ?_
      exact go_iretI (pc := 98) rfl dX8_count_98 (Nat.le_of_ble_eq_true rfl) (Nat.le_of_ble_eq_true rfl) ⟨(by rfl), rfl, _, _, hM, ⟨rfl, fun j h1 h2 h3 => by simp [upd, h1, h2, h3]⟩, (by repeat (first | assumption | exact eqx.rf | refine eqx.up ?_ (by decide))), hf⟩
    · refine go_aload_n (pc := 0) dX8_count_0 rfl ?_
      refine go_iconst (v := 0) (pc := 1) dX8_count_1 (by decide) ?_
      refine go_mpf4 (pc := 2) hM dX8_count_2 (fun σ hM hf9 => ?_)
      have hf := hf.tr hf9
      refine go_iload_n (pc := 5) dX8_count_5 rfl ?_
      refine go_tableIn (off := 93) (tgt := 99) (pc := 6) dX8_count_6 (by decide) (by decide) rfl (by decide) ?_
      refine go_aload_n (pc := 99) dX8_count_99 rfl ?_
      refine go_getf (pc := 100) f_X8_9 dX8_count_100 (by first | exact mo0 hM | exact mo1 hM | exact mo6 hM | exact mo7 hM | exact mo8 hM | exact mo2 hM | exact mo3 hM | exact mo4 hM | exact mo5 hM | exact mo9 hM | exact mo10 hM | exact mo11 hM | exact mo12 hM | exact mo13 hM | exact mo14 hM | exact mo15 hM | exact mo16 hM) (by rfl) ?_
      refine go_bipush (v := 33) (pc := 103) dX8_count_103 (by decide) ?_
      refine go_iald (j := 33) (pc := 105) dX8_count_105 (by first | exact mo0 hM | exact mo1 hM | exact mo6 hM | exact mo7 hM | exact mo8 hM | exact mo2 hM | exact mo3 hM | exact mo4 hM | exact mo5 hM | exact mo9 hM | exact mo10 hM | exact mo11 hM | exact mo12 hM | exact mo13 hM | exact mo14 hM | exact mo15 hM | exact mo16 hM) (by exact ⟨rfl, by decide⟩) ?_
      exact go_iretI (pc := 106) rfl dX8_count_106 (Nat.le_of_ble_eq_true rfl) (Nat.le_of_ble_eq_true rfl) ⟨(by rfl), rfl, _, _, hM, ⟨rfl, fun j h1 h2 h3 => by simp [upd, h1, h2, h3]⟩, (by repeat (first | assumption | exact eqx.rf | refine eqx.up ?_ (by decide))), hf⟩
    · refine go_aload_n (pc := 0) dX8_count_0 rfl ?_
      refine go_iconst (v := 0) (pc := 1) dX8_count_1 (by decide) ?_
      refine go_mpf4 (pc := 2) hM dX8_count_2 (fun σ hM hf9 => ?_)
      have hf := hf.tr hf9
      refine go_iload_n (pc := 5) dX8_count_5 rfl ?_
      refine go_tableIn (off := 101) (tgt := 107) (pc := 6) dX8_count_6 (by decide) (by decide) rfl (by decide) ?_
      refine go_aload_n (pc := 107) dX8_count_107 rfl ?_
      refine go_getf (pc := 108) f_X8_9 dX8_count_108 (by first | exact mo0 hM | exact mo1 hM | exact mo6 hM | exact mo7 hM | exact mo8 hM | exact mo2 hM | exact mo3 hM | exact mo4 hM | exact mo5 hM | exact mo9 hM | exact mo10 hM | exact mo11 hM | exact mo12 hM | exact mo13 hM | exact mo14 hM | exact mo15 hM | exact mo16 hM) (by rfl) ?_
      refine go_iconst (v := 1) (pc := 111) dX8_count_111 (by decide) ?_
      refine go_iald (j := 1) (pc := 112) dX8_count_112 (by first | exact mo0 hM | exact mo1 hM | exact mo6 hM | exact mo7 hM | exact mo8 hM | exact mo2 hM | exact mo3 hM | exact mo4 hM | exact mo5 hM | exact mo9 hM | exact mo10 hM | exact mo11 hM | exact mo12 hM | exact mo13 hM | exact mo14 hM | exact mo15 hM | exact mo16 hM) (by exact ⟨rfl, by decide⟩) ?_
      refine go_aload_n (pc := 113) dX8_count_113 rfl ?_
      refine go_getf (pc := 114) f_X8_9 dX8_count_114 (by first | exact mo0 hM | exact mo1 hM | exact mo6 hM | exact mo7 hM | exact mo8 hM | exact mo2 hM | exact mo3 hM | exact mo4 hM | exact mo5 hM | exact mo9 hM | exact mo10 hM | exact mo11 hM | exact mo12 hM | exact mo13 hM | exact mo14 hM | exact mo15 hM | exact mo16 hM) (by rfl) ?_
      refine go_iconst (v := 2) (pc := 117) dX8_count_117 (by decide) ?_
      refine go_iald (j := 2) (pc := 118) dX8_count_118 (by first | exact mo0 hM | exact mo1 hM | exact mo6 hM | exact mo7 hM | exact mo8 hM | exact mo2 hM | exact mo3 hM | exact mo4 hM | exact mo5 hM | exact mo9 hM | exact mo10 hM | exact mo11 hM | exact mo12 hM | exact mo13 hM | exact mo14 hM | exact mo15 hM | exact mo16 hM) (by exact ⟨rfl, by decide⟩) ?_
      refine go_imul (pc := 119) dX8_count_119 ?_
      refine go_aload_n (pc := 120) dX8_count_120 rfl ?_
      refine go_V0P (pc := 121) v_X8_242 rfl rfl (rcv_of (ci := 8) (by first | exact mo0 hM | exact mo1 hM | exact mo6 hM | exact mo7 hM | exact mo8 hM | exact mo2 hM | exact mo3 hM | exact mo4 hM | exact mo5 hM | exact mo9 hM | exact mo10 hM | exact mo11 hM | exact mo12 hM | exact mo13 hM | exact mo14 hM | exact mo15 hM | exact mo16 hM) rfl) dX8_count_121 (sp_people (k := k - 1) hM) ?_
      refine go_isub (pc := 124) dX8_count_124 ?_
      refine go_aload_n (pc := 125) dX8_count_125 rfl ?_
      refine go_V0P (pc := 126) v_X8_477 rfl rfl (rcv_of (ci := 8) (by first | exact mo0 hM | exact mo1 hM | exact mo6 hM | exact mo7 hM | exact mo8 hM | exact mo2 hM | exact mo3 hM | exact mo4 hM | exact mo5 hM | exact mo9 hM | exact mo10 hM | exact mo11 hM | exact mo12 hM | exact mo13 hM | exact mo14 hM | exact mo15 hM | exact mo16 hM) rfl) dX8_count_126 (sp_ups (k := k - 1) hM (by omega) hB) ?_
      refine go_S1P (pc := 129) s_X8_342 rfl rfl dX8_count_129 (sp_size (k := k - 1) (by assumption)) ?_
      refine go_iadd (pc := 132) dX8_count_132 ?_
      exact go_iretI (pc := 133) rfl dX8_count_133 (Nat.le_of_ble_eq_true rfl) (Nat.le_of_ble_eq_true rfl) ⟨(by rfl), rfl, _, _, hM, ⟨rfl, fun j h1 h2 h3 => by simp [upd, h1, h2, h3]⟩, (by repeat (first | assumption | exact eqx.rf | refine eqx.up ?_ (by decide))), hf⟩
    · refine go_aload_n (pc := 0) dX8_count_0 rfl ?_
      refine go_iconst (v := 0) (pc := 1) dX8_count_1 (by decide) ?_
      refine go_mpf4 (pc := 2) hM dX8_count_2 (fun σ hM hf9 => ?_)
      have hf := hf.tr hf9
      refine go_iload_n (pc := 5) dX8_count_5 rfl ?_
      refine go_tableIn (off := 128) (tgt := 134) (pc := 6) dX8_count_6 (by decide) (by decide) rfl (by decide) ?_
      refine go_aload_n (pc := 134) dX8_count_134 rfl ?_
      refine go_getf (pc := 135) f_X8_9 dX8_count_135 (by first | exact mo0 hM | exact mo1 hM | exact mo6 hM | exact mo7 hM | exact mo8 hM | exact mo2 hM | exact mo3 hM | exact mo4 hM | exact mo5 hM | exact mo9 hM | exact mo10 hM | exact mo11 hM | exact mo12 hM | exact mo13 hM | exact mo14 hM | exact mo15 hM | exact mo16 hM) (by rfl) ?_
      refine go_bipush (v := 7) (pc := 138) dX8_count_138 (by decide) ?_
      refine go_iald (j := 7) (pc := 140) dX8_count_140 (by first | exact mo0 hM | exact mo1 hM | exact mo6 hM | exact mo7 hM | exact mo8 hM | exact mo2 hM | exact mo3 hM | exact mo4 hM | exact mo5 hM | exact mo9 hM | exact mo10 hM | exact mo11 hM | exact mo12 hM | exact mo13 hM | exact mo14 hM | exact mo15 hM | exact mo16 hM) (by exact ⟨rfl, by decide⟩) ?_
      exact go_iretI (pc := 141) rfl dX8_count_141 (Nat.le_of_ble_eq_true rfl) (Nat.le_of_ble_eq_true rfl) ⟨(by rfl), rfl, _, _, hM, ⟨rfl, fun j h1 h2 h3 => by simp [upd, h1, h2, h3]⟩, (by repeat (first | assumption | exact eqx.rf | refine eqx.up ?_ (by decide))), hf⟩
    · refine go_aload_n (pc := 0) dX8_count_0 rfl ?_
      refine go_iconst (v := 0) (pc := 1) dX8_count_1 (by decide) ?_
      refine go_mpf4 (pc := 2) hM dX8_count_2 (fun σ hM hf9 => ?_)
      have hf := hf.tr hf9
      refine go_iload_n (pc := 5) dX8_count_5 rfl ?_
      refine go_tableIn (off := 136) (tgt := 142) (pc := 6) dX8_count_6 (by decide) (by decide) rfl (by decide) ?_
      refine go_aload_n (pc := 142) dX8_count_142 rfl ?_
      refine go_getf (pc := 143) f_X8_67 dX8_count_143 (by first | exact mo0 hM | exact mo1 hM | exact mo6 hM | exact mo7 hM | exact mo8 hM | exact mo2 hM | exact mo3 hM | exact mo4 hM | exact mo5 hM | exact mo9 hM | exact mo10 hM | exact mo11 hM | exact mo12 hM | exact mo13 hM | exact mo14 hM | exact mo15 hM | exact mo16 hM) (by rfl) ?_
      exact go_iretI (pc := 146) rfl dX8_count_146 (Nat.le_of_ble_eq_true rfl) (Nat.le_of_ble_eq_true rfl) ⟨(by rfl), rfl, _, _, hM, ⟨rfl, fun j h1 h2 h3 => by simp [upd, h1, h2, h3]⟩, (by repeat (first | assumption | exact eqx.rf | refine eqx.up ?_ (by decide))), hf⟩
