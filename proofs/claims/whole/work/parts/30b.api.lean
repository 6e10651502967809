/-! ===== the reference: deeds and what is to come ===== -/
def aheadT (K : row) (p z : Int) : Int32 := match pN (kP K) p with
  | none => 1
  | some _ => (match rN 0 201 z with
    | none => 2
    | some _ => 0)
theorem sp_isAheadOut {Γ : gam} {z0 : sto} {n k r : Nat} {F K : row} {A : Nat → row} {Nm : Nat → Int64} (hM_q : MoAt Γ z0 r F K A Nm) (hk : 2 ≤ k) (hB_q : okB K) (p z : Int32) : Sp Γ (rmk k 0 0) uX8_isAheadOut [.ref r, .int p, .int z] z0 n (qI fun v σ' n' => v = bI (0 < aheadT K p.toInt z.toInt) ∧ moJ Γ r (upd F 4 (aheadT K p.toInt z.toInt)) K A Nm z0 n [] σ' n') := by
  have hP8 := hB_q.1.2.1
  have hH5 := hB_q.1.2.2.2.1
  have hA_q : eqx [] A A := eqx.rf
  have hf_q : fr r (r + 16) z0 z0 := fr.rf
  refine sp_intro [some (.ref r), some (.int p), some (.int z)] (by decide +kernel) rfl (Nat.le_of_ble_eq_true rfl) rfl ?_
  cases hp_q : pN (kP K) p.toInt with
  | none =>
    refine go_aload_n (pc := 0) dX8_isAheadOut_0 rfl ?_
    refine go_aload_n (pc := 1) dX8_isAheadOut_1 rfl ?_
    refine go_iload_n (pc := 2) dX8_isAheadOut_2 rfl ?_
    refine go_i2l (pc := 3) dX8_isAheadOut_3 ?_
    refine go_V1P (pc := 4) v_X8_310 rfl rfl (rcv_of (ci := 8) (by first | exact mo0 hM_q | exact mo1 hM_q | exact mo6 hM_q | exact mo7 hM_q | exact mo8 hM_q | exact mo2 hM_q | exact mo3 hM_q | exact mo4 hM_q | exact mo5 hM_q | exact mo9 hM_q | exact mo10 hM_q | exact mo11 hM_q | exact mo12 hM_q | exact mo13 hM_q | exact mo14 hM_q | exact mo15 hM_q | exact mo16 hM_q) rfl) dX8_isAheadOut_4 (sp_isPerson (k := k - 1) hM_q (by omega) _) ?_
    refine go_if_ne (tgt := 14) (pc := 7) dX8_isAheadOut_7 (by decide) (fun h_7 => by exfalso; exact h_7 (pi_no hB_q.1.1 (by omega) hp_q)) (fun h_7 => ?_)
    refine go_iconst (v := 1) (pc := 10) dX8_isAheadOut_10 (by decide) ?_
    refine go_goto (tgt := 31) (pc := 11) dX8_isAheadOut_11 (by decide) ?_
    refine go_mpf4 (pc := 31) hM_q dX8_isAheadOut_31 (fun σ hM_q hf9 => ?_)
    have hf_q := hf_q.tr hf9
    refine go_aload_n (pc := 34) dX8_isAheadOut_34 rfl ?_
    refine go_getf (pc := 35) f_X8_64 dX8_isAheadOut_35 (by first | exact mo0 hM_q | exact mo1 hM_q | exact mo6 hM_q | exact mo7 hM_q | exact mo8 hM_q | exact mo2 hM_q | exact mo3 hM_q | exact mo4 hM_q | exact mo5 hM_q | exact mo9 hM_q | exact mo10 hM_q | exact mo11 hM_q | exact mo12 hM_q | exact mo13 hM_q | exact mo14 hM_q | exact mo15 hM_q | exact mo16 hM_q) (by rfl) ?_
    refine go_if_le (tgt := 45) (pc := 38) dX8_isAheadOut_38 (by decide) (fun h_38 => by exfalso; exact absurd (show (1 : Int32) ≤ 0 from h_38) (by decide)) (fun h_38 => ?_)
    refine go_iconst (v := 1) (pc := 41) dX8_isAheadOut_41 (by decide) ?_
    refine go_goto (tgt := 46) (pc := 42) dX8_isAheadOut_42 (by decide) ?_
    exact go_zretI (pc := 46) rfl (by first | rfl | exact nb_bI) dX8_isAheadOut_46 (Nat.le_of_ble_eq_true rfl) (Nat.le_of_ble_eq_true rfl) ⟨(by simp only [aheadT, hp_q]; rfl), rfl, A, (by simp only [aheadT, hp_q]; exact hM_q), eqx.rf, hf_q⟩
  | some j1_q =>
    have hp1 := pN_some hp_q
    obtain rfl := I_nat hp1.1 (by omega)
    cases hz_q : rN 0 201 z.toInt with
    | none =>
      refine go_aload_n (pc := 0) dX8_isAheadOut_0 rfl ?_
      refine go_aload_n (pc := 1) dX8_isAheadOut_1 rfl ?_
      refine go_iload_n (pc := 2) dX8_isAheadOut_2 rfl ?_
      refine go_i2l (pc := 3) dX8_isAheadOut_3 ?_
      refine go_V1P (pc := 4) v_X8_310 rfl rfl (rcv_of (ci := 8) (by first | exact mo0 hM_q | exact mo1 hM_q | exact mo6 hM_q | exact mo7 hM_q | exact mo8 hM_q | exact mo2 hM_q | exact mo3 hM_q | exact mo4 hM_q | exact mo5 hM_q | exact mo9 hM_q | exact mo10 hM_q | exact mo11 hM_q | exact mo12 hM_q | exact mo13 hM_q | exact mo14 hM_q | exact mo15 hM_q | exact mo16 hM_q) rfl) dX8_isAheadOut_4 (sp_isPerson (k := k - 1) hM_q (by omega) _) ?_
      refine go_if_ne (tgt := 14) (pc := 7) dX8_isAheadOut_7 (by decide) (fun h_7 => ?_) (fun h_7 => by exfalso; rw [pi_yes hB_q.1.1 (by omega) hp_q] at h_7; exact absurd h_7 (by decide))
      refine go_iload_n (pc := 14) dX8_isAheadOut_14 rfl ?_
      refine go_i2l (pc := 15) dX8_isAheadOut_15 ?_
      refine go_lconst (v := 0) (pc := 16) dX8_isAheadOut_16 rfl ?_
      refine go_ldc2 (pc := 17) kw7_236 dX8_isAheadOut_17 ?_
      refine go_S3P (pc := 20) s_X8_125 rfl rfl dX8_isAheadOut_20 (sp_within (k := k - 1) _ _ _) ?_
      refine go_if_eq (tgt := 30) (pc := 23) dX8_isAheadOut_23 (by decide) (fun h_23 => ?_) (fun h_23 => by exfalso; exact h_23 (wi_no hz_q (by decide) (by decide)))
      refine go_iconst (v := 2) (pc := 30) dX8_isAheadOut_30 (by decide) ?_
      refine go_mpf4 (pc := 31) hM_q dX8_isAheadOut_31 (fun σ hM_q hf9 => ?_)
      have hf_q := hf_q.tr hf9
      refine go_aload_n (pc := 34) dX8_isAheadOut_34 rfl ?_
      refine go_getf (pc := 35) f_X8_64 dX8_isAheadOut_35 (by first | exact mo0 hM_q | exact mo1 hM_q | exact mo6 hM_q | exact mo7 hM_q | exact mo8 hM_q | exact mo2 hM_q | exact mo3 hM_q | exact mo4 hM_q | exact mo5 hM_q | exact mo9 hM_q | exact mo10 hM_q | exact mo11 hM_q | exact mo12 hM_q | exact mo13 hM_q | exact mo14 hM_q | exact mo15 hM_q | exact mo16 hM_q) (by rfl) ?_
      refine go_if_le (tgt := 45) (pc := 38) dX8_isAheadOut_38 (by decide) (fun h_38 => by exfalso; exact absurd (show (2 : Int32) ≤ 0 from h_38) (by decide)) (fun h_38 => ?_)
      refine go_iconst (v := 1) (pc := 41) dX8_isAheadOut_41 (by decide) ?_
      refine go_goto (tgt := 46) (pc := 42) dX8_isAheadOut_42 (by decide) ?_
      exact go_zretI (pc := 46) rfl (by first | rfl | exact nb_bI) dX8_isAheadOut_46 (Nat.le_of_ble_eq_true rfl) (Nat.le_of_ble_eq_true rfl) ⟨(by simp only [aheadT, hp_q, hz_q]; rfl), rfl, A, (by simp only [aheadT, hp_q, hz_q]; exact hM_q), eqx.rf, hf_q⟩
    | some x1_q =>
      have hz1 := rN_some hz_q
      obtain rfl := I_nat hz1.1 (by omega)
      refine go_aload_n (pc := 0) dX8_isAheadOut_0 rfl ?_
      refine go_aload_n (pc := 1) dX8_isAheadOut_1 rfl ?_
      refine go_iload_n (pc := 2) dX8_isAheadOut_2 rfl ?_
      refine go_i2l (pc := 3) dX8_isAheadOut_3 ?_
      refine go_V1P (pc := 4) v_X8_310 rfl rfl (rcv_of (ci := 8) (by first | exact mo0 hM_q | exact mo1 hM_q | exact mo6 hM_q | exact mo7 hM_q | exact mo8 hM_q | exact mo2 hM_q | exact mo3 hM_q | exact mo4 hM_q | exact mo5 hM_q | exact mo9 hM_q | exact mo10 hM_q | exact mo11 hM_q | exact mo12 hM_q | exact mo13 hM_q | exact mo14 hM_q | exact mo15 hM_q | exact mo16 hM_q) rfl) dX8_isAheadOut_4 (sp_isPerson (k := k - 1) hM_q (by omega) _) ?_
      refine go_if_ne (tgt := 14) (pc := 7) dX8_isAheadOut_7 (by decide) (fun h_7 => ?_) (fun h_7 => by exfalso; rw [pi_yes hB_q.1.1 (by omega) hp_q] at h_7; exact absurd h_7 (by decide))
      refine go_iload_n (pc := 14) dX8_isAheadOut_14 rfl ?_
      refine go_i2l (pc := 15) dX8_isAheadOut_15 ?_
      refine go_lconst (v := 0) (pc := 16) dX8_isAheadOut_16 rfl ?_
      refine go_ldc2 (pc := 17) kw7_236 dX8_isAheadOut_17 ?_
      refine go_S3P (pc := 20) s_X8_125 rfl rfl dX8_isAheadOut_20 (sp_within (k := k - 1) _ _ _) ?_
      refine go_if_eq (tgt := 30) (pc := 23) dX8_isAheadOut_23 (by decide) (fun h_23 => by exfalso; rw [wi_yes hz_q (by decide) (by decide)] at h_23; exact absurd h_23 (by decide)) (fun h_23 => ?_)
      refine go_iconst (v := 0) (pc := 26) dX8_isAheadOut_26 (by decide) ?_
      refine go_goto (tgt := 31) (pc := 27) dX8_isAheadOut_27 (by decide) ?_
      refine go_mpf4 (pc := 31) hM_q dX8_isAheadOut_31 (fun σ hM_q hf9 => ?_)
      have hf_q := hf_q.tr hf9
      refine go_aload_n (pc := 34) dX8_isAheadOut_34 rfl ?_
      refine go_getf (pc := 35) f_X8_64 dX8_isAheadOut_35 (by first | exact mo0 hM_q | exact mo1 hM_q | exact mo6 hM_q | exact mo7 hM_q | exact mo8 hM_q | exact mo2 hM_q | exact mo3 hM_q | exact mo4 hM_q | exact mo5 hM_q | exact mo9 hM_q | exact mo10 hM_q | exact mo11 hM_q | exact mo12 hM_q | exact mo13 hM_q | exact mo14 hM_q | exact mo15 hM_q | exact mo16 hM_q) (by rfl) ?_
      refine go_if_le (tgt := 45) (pc := 38) dX8_isAheadOut_38 (by decide) (fun h_38 => ?_) (fun h_38 => by exfalso; exact h_38 (show (0 : Int32) ≤ 0 from by decide))
      refine go_iconst (v := 0) (pc := 45) dX8_isAheadOut_45 (by decide) ?_
      exact go_zretI (pc := 46) rfl (by first | rfl | exact nb_bI) dX8_isAheadOut_46 (Nat.le_of_ble_eq_true rfl) (Nat.le_of_ble_eq_true rfl) ⟨(by simp only [aheadT, hp_q, hz_q]; rfl), rfl, A, (by simp only [aheadT, hp_q, hz_q]; exact hM_q), eqx.rf, hf_q⟩
theorem sp_sits {Γ : gam} {z0 : sto} {n k r : Nat} {F K : row} {A : Nat → row} {Nm : Nat → Int64} (hM_q : MoAt Γ z0 r F K A Nm) (hk : 12 ≤ k) (hB_q : okB K) (hv_q : vS K) (p z : Int32) : Sp Γ (rmk k 0 0) uX8_sits [.ref r, .int p, .int z] z0 n (qI fun v σ' n' => v = (aSits K p.toInt z.toInt).2 ∧ apJ Γ r F K A Nm z0 n (aSits K p.toInt z.toInt).1 σ' n') := by
  have hP8 := hB_q.1.2.1
  have hH5 := hB_q.1.2.2.2.1
  have hW4 := hB_q.1.2.2.2.2.2
  have hA_q : eqx [6, 7, 8, 9, 10, 11, 12, 13] A A := eqx.rf
  have hf_q : fr r (r + 16) z0 z0 := fr.rf
  refine sp_intro [some (.ref r), some (.int p), some (.int z), none] (by decide +kernel) rfl (Nat.le_of_ble_eq_true rfl) rfl ?_
  cases hp_q : pN (kP K) p.toInt with
  | none =>
    refine go_aload_n (pc := 0) dX8_sits_0 rfl ?_
    refine go_iload_n (pc := 1) dX8_sits_1 rfl ?_
    refine go_iload_n (pc := 2) dX8_sits_2 rfl ?_
    refine go_V2I (pc := 3) v_X8_396 rfl rfl (rcv_of (ci := 8) (by first | exact mo0 hM_q | exact mo1 hM_q | exact mo6 hM_q | exact mo7 hM_q | exact mo8 hM_q | exact mo2 hM_q | exact mo3 hM_q | exact mo4 hM_q | exact mo5 hM_q | exact mo9 hM_q | exact mo10 hM_q | exact mo11 hM_q | exact mo12 hM_q | exact mo13 hM_q | exact mo14 hM_q | exact mo15 hM_q | exact mo16 hM_q) rfl) dX8_sits_3 (sp_isAheadOut (k := k - 1) hM_q (by omega) hB_q _ _) (fun v_3 σ n h => ?_)
    obtain ⟨rfl, rfl, A1, hM_q, hA1, hf1⟩ := h
    have hA_q := eqx.tr (L := [6, 7, 8, 9, 10, 11, 12, 13]) (by repeat (first | assumption | exact eqx.rf | refine eqx.up ?_ (by decide))) (hA1.wk (by decide))
    have hf_q := hf_q.tr hf1
    have ht_q : aheadT K _ _ = 1 := (by simp only [aheadT, hp_q] : aheadT K p.toInt z.toInt = 1)
    rw [ht_q]
    rw [ht_q] at hM_q
    refine go_if_eq (tgt := 11) (pc := 6) dX8_sits_6 (by decide) (fun h_6 => by exfalso; exact absurd h_6 (by decide)) (fun h_6 => ?_)
    refine go_iconst (v := 0) (pc := 9) dX8_sits_9 (by decide) ?_
    exact go_iretI (pc := 10) rfl dX8_sits_10 (Nat.le_of_ble_eq_true rfl) (Nat.le_of_ble_eq_true rfl) ⟨(by simp [aSits, hp_q]), rfl, _, _, hM_q, ⟨(by simp [upd, aSits, hp_q]), fun j h1 h2 h3 => by simp [upd, h1, h2, h3]⟩, (by repeat (first | assumption | exact eqx.rf | refine eqx.up ?_ (by decide))), hf_q⟩
  | some j1_q =>
    have hp1 := pN_some hp_q
    obtain rfl := I_nat hp1.1 (by omega)
    cases hz_q : rN 0 201 z.toInt with
    | none =>
      refine go_aload_n (pc := 0) dX8_sits_0 rfl ?_
      refine go_iload_n (pc := 1) dX8_sits_1 rfl ?_
      refine go_iload_n (pc := 2) dX8_sits_2 rfl ?_
      refine go_V2I (pc := 3) v_X8_396 rfl rfl (rcv_of (ci := 8) (by first | exact mo0 hM_q | exact mo1 hM_q | exact mo6 hM_q | exact mo7 hM_q | exact mo8 hM_q | exact mo2 hM_q | exact mo3 hM_q | exact mo4 hM_q | exact mo5 hM_q | exact mo9 hM_q | exact mo10 hM_q | exact mo11 hM_q | exact mo12 hM_q | exact mo13 hM_q | exact mo14 hM_q | exact mo15 hM_q | exact mo16 hM_q) rfl) dX8_sits_3 (sp_isAheadOut (k := k - 1) hM_q (by omega) hB_q _ _) (fun v_3 σ n h => ?_)
      obtain ⟨rfl, rfl, A1, hM_q, hA1, hf1⟩ := h
      have hA_q := eqx.tr (L := [6, 7, 8, 9, 10, 11, 12, 13]) (by repeat (first | assumption | exact eqx.rf | refine eqx.up ?_ (by decide))) (hA1.wk (by decide))
      have hf_q := hf_q.tr hf1
      have ht_q : aheadT K _ _ = 2 := (by simp only [aheadT, hp_q, hz_q] : aheadT K (nI j1_q).toInt z.toInt = 2)
      rw [ht_q]
      rw [ht_q] at hM_q
      refine go_if_eq (tgt := 11) (pc := 6) dX8_sits_6 (by decide) (fun h_6 => by exfalso; exact absurd h_6 (by decide)) (fun h_6 => ?_)
      refine go_iconst (v := 0) (pc := 9) dX8_sits_9 (by decide) ?_
      exact go_iretI (pc := 10) rfl dX8_sits_10 (Nat.le_of_ble_eq_true rfl) (Nat.le_of_ble_eq_true rfl) ⟨(by simp [aSits, hp_q, hz_q]), rfl, _, _, hM_q, ⟨(by simp [upd, aSits, hp_q, hz_q]), fun j h1 h2 h3 => by simp [upd, h1, h2, h3]⟩, (by repeat (first | assumption | exact eqx.rf | refine eqx.up ?_ (by decide))), hf_q⟩
    | some x1_q =>
      have hz1 := rN_some hz_q
      obtain rfl := I_nat hz1.1 (by omega)
      refine go_aload_n (pc := 0) dX8_sits_0 rfl ?_
      refine go_iload_n (pc := 1) dX8_sits_1 rfl ?_
      refine go_iload_n (pc := 2) dX8_sits_2 rfl ?_
      refine go_V2I (pc := 3) v_X8_396 rfl rfl (rcv_of (ci := 8) (by first | exact mo0 hM_q | exact mo1 hM_q | exact mo6 hM_q | exact mo7 hM_q | exact mo8 hM_q | exact mo2 hM_q | exact mo3 hM_q | exact mo4 hM_q | exact mo5 hM_q | exact mo9 hM_q | exact mo10 hM_q | exact mo11 hM_q | exact mo12 hM_q | exact mo13 hM_q | exact mo14 hM_q | exact mo15 hM_q | exact mo16 hM_q) rfl) dX8_sits_3 (sp_isAheadOut (k := k - 1) hM_q (by omega) hB_q _ _) (fun v_3 σ n h => ?_)
      obtain ⟨rfl, rfl, A1, hM_q, hA1, hf1⟩ := h
      have hA_q := eqx.tr (L := [6, 7, 8, 9, 10, 11, 12, 13]) (by repeat (first | assumption | exact eqx.rf | refine eqx.up ?_ (by decide))) (hA1.wk (by decide))
      have hf_q := hf_q.tr hf1
      have ht_q : aheadT K _ _ = 0 := (by simp only [aheadT, hp_q, hz_q] : aheadT K (nI j1_q).toInt (nI x1_q).toInt = 0)
      rw [ht_q]
      rw [ht_q] at hM_q
      refine go_if_eq (tgt := 11) (pc := 6) dX8_sits_6 (by decide) (fun h_6 => ?_) (fun h_6 => by exfalso; exact h_6 (by decide))
      refine go_aload_n (pc := 11) dX8_sits_11 rfl ?_
      refine go_V0V (pc := 12) v_X8_369 rfl rfl (rcv_of (ci := 8) (by first | exact mo0 hM_q | exact mo1 hM_q | exact mo6 hM_q | exact mo7 hM_q | exact mo8 hM_q | exact mo2 hM_q | exact mo3 hM_q | exact mo4 hM_q | exact mo5 hM_q | exact mo9 hM_q | exact mo10 hM_q | exact mo11 hM_q | exact mo12 hM_q | exact mo13 hM_q | exact mo14 hM_q | exact mo15 hM_q | exact mo16 hM_q) rfl) dX8_sits_12 (sp_putsAside (k := k - 1) hM_q) (fun σ n h => ?_)
      obtain ⟨rfl, A1, hM_q, hA1, hf1, hG_q⟩ := h
      have hA_q := eqx.tr (L := [6, 7, 8, 9, 10, 11, 12, 13]) (by repeat (first | assumption | exact eqx.rf | refine eqx.up ?_ (by decide))) (hA1.wk (by decide))
      have hf_q := hf_q.tr hf1
      refine go_aload_n (pc := 15) dX8_sits_15 rfl ?_
      refine go_iload_n (pc := 16) dX8_sits_16 rfl ?_
      refine go_V1V (pc := 17) v_X8_399 rfl rfl (rcv_of (ci := 8) (by first | exact mo0 hM_q | exact mo1 hM_q | exact mo6 hM_q | exact mo7 hM_q | exact mo8 hM_q | exact mo2 hM_q | exact mo3 hM_q | exact mo4 hM_q | exact mo5 hM_q | exact mo9 hM_q | exact mo10 hM_q | exact mo11 hM_q | exact mo12 hM_q | exact mo13 hM_q | exact mo14 hM_q | exact mo15 hM_q | exact mo16 hM_q) rfl) dX8_sits_17 (sp_goesOn (k := k - 1) hM_q (by omega) hB_q hv_q (by omega)) (fun σ n h => ?_)
      obtain ⟨rfl, A1, hM_q, hA1, hf1⟩ := h
      have hA_q := eqx.tr (L := [6, 7, 8, 9, 10, 11, 12, 13]) (by repeat (first | assumption | exact eqx.rf | refine eqx.up ?_ (by decide))) (hA1.wk (by decide))
      have hf_q := hf_q.tr hf1
      have hG_q : ∀ j, j < 26 → A1 8 j = K (8 + j) := fun j hj_q => by rw [hA1 8 (by decide)]; exact hG_q j hj_q
      refine go_aload_n (pc := 20) dX8_sits_20 rfl ?_
      refine go_iload_n (pc := 21) dX8_sits_21 rfl ?_
      refine go_V1P (pc := 22) v_X8_402 rfl rfl (rcv_of (ci := 8) (by first | exact mo0 hM_q | exact mo1 hM_q | exact mo6 hM_q | exact mo7 hM_q | exact mo8 hM_q | exact mo2 hM_q | exact mo3 hM_q | exact mo4 hM_q | exact mo5 hM_q | exact mo9 hM_q | exact mo10 hM_q | exact mo11 hM_q | exact mo12 hM_q | exact mo13 hM_q | exact mo14 hM_q | exact mo15 hM_q | exact mo16 hM_q) rfl) dX8_sits_22 (sp_placeOf (k := k - 1) hM_q (by omega) (by omega)) ?_
      refine go_istore_n (lw := [_, _, _, _]) (pc := 25) dX8_sits_25 (by decide) rfl ?_
      refine go_aload_n (pc := 26) dX8_sits_26 rfl ?_
      refine go_V0V (pc := 27) v_X8_381 rfl rfl (rcv_of (ci := 8) (by first | exact mo0 hM_q | exact mo1 hM_q | exact mo6 hM_q | exact mo7 hM_q | exact mo8 hM_q | exact mo2 hM_q | exact mo3 hM_q | exact mo4 hM_q | exact mo5 hM_q | exact mo9 hM_q | exact mo10 hM_q | exact mo11 hM_q | exact mo12 hM_q | exact mo13 hM_q | exact mo14 hM_q | exact mo15 hM_q | exact mo16 hM_q) rfl) dX8_sits_27 (sp_putsBack (k := k - 1) hM_q) (fun σ n h => ?_)
      obtain ⟨rfl, A1, hM_q, hA1, hf1⟩ := h
      have hA_q := eqx.tr (L := [6, 7, 8, 9, 10, 11, 12, 13]) (by repeat (first | assumption | exact eqx.rf | refine eqx.up ?_ (by decide))) (hA1.wk (by decide))
      have hf_q := hf_q.tr hf1
      rw [setS_back (goK_same (by omega)) hG_q] at hM_q
      refine go_iload_n (pc := 30) dX8_sits_30 rfl ?_
      exact go_iretI (pc := 31) rfl dX8_sits_31 (Nat.le_of_ble_eq_true rfl) (Nat.le_of_ble_eq_true rfl) ⟨(by simp [aSits, hp_q, hz_q]), rfl, _, _, hM_q, ⟨(by simp [upd, aSits, hp_q, hz_q]), fun j h1 h2 h3 => by simp [upd, h1, h2, h3]⟩, (by repeat (first | assumption | exact eqx.rf | refine eqx.up ?_ (by decide))), hf_q⟩
theorem sp_wetBy {Γ : gam} {z0 : sto} {n k r : Nat} {F K : row} {A : Nat → row} {Nm : Nat → Int64} (hM_q : MoAt Γ z0 r F K A Nm) (hk : 12 ≤ k) (hB_q : okB K) (hv_q : vS K) (z : Int32) : Sp Γ (rmk k 0 0) uX8_wetBy [.ref r, .int z] z0 n (qI fun v σ' n' => v = (aWetBy K z.toInt).2 ∧ apJ Γ r F K A Nm z0 n (aWetBy K z.toInt).1 σ' n') := by
  have hP8 := hB_q.1.2.1
  have hH5 := hB_q.1.2.2.2.1
  have hW4 := hB_q.1.2.2.2.2.2
  have hA_q : eqx [6, 7, 8, 9, 10, 11, 12, 13] A A := eqx.rf
  have hf_q : fr r (r + 16) z0 z0 := fr.rf
  refine sp_intro [some (.ref r), some (.int z), none] (by decide +kernel) rfl (Nat.le_of_ble_eq_true rfl) rfl ?_
  cases hz_q : rN 0 201 z.toInt with
  | none =>
    refine go_aload_n (pc := 0) dX8_wetBy_0 rfl ?_
    refine go_iconst (v := 0) (pc := 1) dX8_wetBy_1 (by decide) ?_
    refine go_mpf4 (pc := 2) hM_q dX8_wetBy_2 (fun σ hM_q hf9 => ?_)
    have hf_q := hf_q.tr hf9
    refine go_iload_n (pc := 5) dX8_wetBy_5 rfl ?_
    refine go_i2l (pc := 6) dX8_wetBy_6 ?_
    refine go_lconst (v := 0) (pc := 7) dX8_wetBy_7 rfl ?_
    refine go_ldc2 (pc := 8) kw7_236 dX8_wetBy_8 ?_
    refine go_S3P (pc := 11) s_X8_125 rfl rfl dX8_wetBy_11 (sp_within (k := k - 1) _ _ _) ?_
    refine go_if_ne (tgt := 23) (pc := 14) dX8_wetBy_14 (by decide) (fun h_14 => by exfalso; exact h_14 (wi_no hz_q (by decide) (by decide))) (fun h_14 => ?_)
    refine go_aload_n (pc := 17) dX8_wetBy_17 rfl ?_
    refine go_iconst (v := 1) (pc := 18) dX8_wetBy_18 (by decide) ?_
    refine go_V1I (pc := 19) v_X8_231 rfl rfl (rcv_of (ci := 8) (by first | exact mo0 hM_q | exact mo1 hM_q | exact mo6 hM_q | exact mo7 hM_q | exact mo8 hM_q | exact mo2 hM_q | exact mo3 hM_q | exact mo4 hM_q | exact mo5 hM_q | exact mo9 hM_q | exact mo10 hM_q | exact mo11 hM_q | exact mo12 hM_q | exact mo13 hM_q | exact mo14 hM_q | exact mo15 hM_q | exact mo16 hM_q) rfl) dX8_wetBy_19 (sp_fails (k := k - 1) hM_q _) (fun v_19 σ n h => ?_)
    obtain ⟨rfl, rfl, A1, hM_q, hA1, hf1⟩ := h
    have hA_q := eqx.tr (L := [6, 7, 8, 9, 10, 11, 12, 13]) (by repeat (first | assumption | exact eqx.rf | refine eqx.up ?_ (by decide))) (hA1.wk (by decide))
    have hf_q := hf_q.tr hf1
    exact go_iretI (pc := 22) rfl dX8_wetBy_22 (Nat.le_of_ble_eq_true rfl) (Nat.le_of_ble_eq_true rfl) ⟨(by simp [aWetBy, hz_q]), rfl, _, _, hM_q, ⟨(by simp [upd, aWetBy, hz_q]), fun j h1 h2 h3 => by simp [upd, h1, h2, h3]⟩, (by repeat (first | assumption | exact eqx.rf | refine eqx.up ?_ (by decide))), hf_q⟩
  | some j1_q =>
    have hz1 := rN_some hz_q
    obtain rfl := I_nat hz1.1 (by omega)
    refine go_aload_n (pc := 0) dX8_wetBy_0 rfl ?_
    refine go_iconst (v := 0) (pc := 1) dX8_wetBy_1 (by decide) ?_
    refine go_mpf4 (pc := 2) hM_q dX8_wetBy_2 (fun σ hM_q hf9 => ?_)
    have hf_q := hf_q.tr hf9
    refine go_iload_n (pc := 5) dX8_wetBy_5 rfl ?_
    refine go_i2l (pc := 6) dX8_wetBy_6 ?_
    refine go_lconst (v := 0) (pc := 7) dX8_wetBy_7 rfl ?_
    refine go_ldc2 (pc := 8) kw7_236 dX8_wetBy_8 ?_
    refine go_S3P (pc := 11) s_X8_125 rfl rfl dX8_wetBy_11 (sp_within (k := k - 1) _ _ _) ?_
    refine go_if_ne (tgt := 23) (pc := 14) dX8_wetBy_14 (by decide) (fun h_14 => ?_) (fun h_14 => by exfalso; rw [wi_yes hz_q (by decide) (by decide)] at h_14; exact absurd h_14 (by decide))
    refine go_aload_n (pc := 23) dX8_wetBy_23 rfl ?_
    refine go_V0V (pc := 24) v_X8_369 rfl rfl (rcv_of (ci := 8) (by first | exact mo0 hM_q | exact mo1 hM_q | exact mo6 hM_q | exact mo7 hM_q | exact mo8 hM_q | exact mo2 hM_q | exact mo3 hM_q | exact mo4 hM_q | exact mo5 hM_q | exact mo9 hM_q | exact mo10 hM_q | exact mo11 hM_q | exact mo12 hM_q | exact mo13 hM_q | exact mo14 hM_q | exact mo15 hM_q | exact mo16 hM_q) rfl) dX8_wetBy_24 (sp_putsAside (k := k - 1) hM_q) (fun σ n h => ?_)
    obtain ⟨rfl, A1, hM_q, hA1, hf1, hG_q⟩ := h
    have hA_q := eqx.tr (L := [6, 7, 8, 9, 10, 11, 12, 13]) (by repeat (first | assumption | exact eqx.rf | refine eqx.up ?_ (by decide))) (hA1.wk (by decide))
    have hf_q := hf_q.tr hf1
    refine go_aload_n (pc := 27) dX8_wetBy_27 rfl ?_
    refine go_iload_n (pc := 28) dX8_wetBy_28 rfl ?_
    refine go_V1V (pc := 29) v_X8_399 rfl rfl (rcv_of (ci := 8) (by first | exact mo0 hM_q | exact mo1 hM_q | exact mo6 hM_q | exact mo7 hM_q | exact mo8 hM_q | exact mo2 hM_q | exact mo3 hM_q | exact mo4 hM_q | exact mo5 hM_q | exact mo9 hM_q | exact mo10 hM_q | exact mo11 hM_q | exact mo12 hM_q | exact mo13 hM_q | exact mo14 hM_q | exact mo15 hM_q | exact mo16 hM_q) rfl) dX8_wetBy_29 (sp_goesOn (k := k - 1) hM_q (by omega) hB_q hv_q (by omega)) (fun σ n h => ?_)
    obtain ⟨rfl, A1, hM_q, hA1, hf1⟩ := h
    have hA_q := eqx.tr (L := [6, 7, 8, 9, 10, 11, 12, 13]) (by repeat (first | assumption | exact eqx.rf | refine eqx.up ?_ (by decide))) (hA1.wk (by decide))
    have hf_q := hf_q.tr hf1
    have hG_q : ∀ j, j < 26 → A1 8 j = K (8 + j) := fun j hj_q => by rw [hA1 8 (by decide)]; exact hG_q j hj_q
    refine go_aload_n (pc := 32) dX8_wetBy_32 rfl ?_
    refine go_getf (pc := 33) f_X8_9 dX8_wetBy_33 (by first | exact mo0 hM_q | exact mo1 hM_q | exact mo6 hM_q | exact mo7 hM_q | exact mo8 hM_q | exact mo2 hM_q | exact mo3 hM_q | exact mo4 hM_q | exact mo5 hM_q | exact mo9 hM_q | exact mo10 hM_q | exact mo11 hM_q | exact mo12 hM_q | exact mo13 hM_q | exact mo14 hM_q | exact mo15 hM_q | exact mo16 hM_q) (by rfl) ?_
    refine go_bipush (v := 32) (pc := 36) dX8_wetBy_36 (by decide) ?_
    refine go_iald (j := 32) (pc := 38) dX8_wetBy_38 (by first | exact mo0 hM_q | exact mo1 hM_q | exact mo6 hM_q | exact mo7 hM_q | exact mo8 hM_q | exact mo2 hM_q | exact mo3 hM_q | exact mo4 hM_q | exact mo5 hM_q | exact mo9 hM_q | exact mo10 hM_q | exact mo11 hM_q | exact mo12 hM_q | exact mo13 hM_q | exact mo14 hM_q | exact mo15 hM_q | exact mo16 hM_q) (by exact ⟨rfl, by decide⟩) ?_
    refine go_istore_n (lw := [_, _, _]) (pc := 39) dX8_wetBy_39 (by decide) rfl ?_
    refine go_aload_n (pc := 40) dX8_wetBy_40 rfl ?_
    refine go_V0V (pc := 41) v_X8_381 rfl rfl (rcv_of (ci := 8) (by first | exact mo0 hM_q | exact mo1 hM_q | exact mo6 hM_q | exact mo7 hM_q | exact mo8 hM_q | exact mo2 hM_q | exact mo3 hM_q | exact mo4 hM_q | exact mo5 hM_q | exact mo9 hM_q | exact mo10 hM_q | exact mo11 hM_q | exact mo12 hM_q | exact mo13 hM_q | exact mo14 hM_q | exact mo15 hM_q | exact mo16 hM_q) rfl) dX8_wetBy_41 (sp_putsBack (k := k - 1) hM_q) (fun σ n h => ?_)
    obtain ⟨rfl, A1, hM_q, hA1, hf1⟩ := h
    have hA_q := eqx.tr (L := [6, 7, 8, 9, 10, 11, 12, 13]) (by repeat (first | assumption | exact eqx.rf | refine eqx.up ?_ (by decide))) (hA1.wk (by decide))
    have hf_q := hf_q.tr hf1
    rw [setS_back (goK_same (by omega)) hG_q] at hM_q
    refine go_iload_n (pc := 44) dX8_wetBy_44 rfl ?_
    exact go_iretI (pc := 45) rfl dX8_wetBy_45 (Nat.le_of_ble_eq_true rfl) (Nat.le_of_ble_eq_true rfl) ⟨(by simp [aWetBy, hz_q]), rfl, _, _, hM_q, ⟨(by simp [upd, aWetBy, hz_q]), fun j h1 h2 h3 => by simp [upd, h1, h2, h3]⟩, (by repeat (first | assumption | exact eqx.rf | refine eqx.up ?_ (by decide))), hf_q⟩
theorem sp_front {Γ : gam} {z0 : sto} {n k r : Nat} {F K : row} {A : Nat → row} {Nm : Nat → Int64} (hM_q : MoAt Γ z0 r F K A Nm) (hk : 12 ≤ k) (hB_q : okB K) (hv_q : vS K) (z : Int32) : Sp Γ (rmk k 0 0) uX8_front [.ref r, .int z] z0 n (qI fun v σ' n' => v = (aFront K z.toInt).2 ∧ apJ Γ r F K A Nm z0 n (aFront K z.toInt).1 σ' n') := by
  have hP8 := hB_q.1.2.1
  have hH5 := hB_q.1.2.2.2.1
  have hW4 := hB_q.1.2.2.2.2.2
  have hA_q : eqx [6, 7, 8, 9, 10, 11, 12, 13] A A := eqx.rf
  have hf_q : fr r (r + 16) z0 z0 := fr.rf
  refine sp_intro [some (.ref r), some (.int z), none] (by decide +kernel) rfl (Nat.le_of_ble_eq_true rfl) rfl ?_
  cases hz_q : rN 0 201 z.toInt with
  | none =>
    refine go_aload_n (pc := 0) dX8_front_0 rfl ?_
    refine go_iconst (v := 0) (pc := 1) dX8_front_1 (by decide) ?_
    refine go_mpf4 (pc := 2) hM_q dX8_front_2 (fun σ hM_q hf9 => ?_)
    have hf_q := hf_q.tr hf9
    refine go_iload_n (pc := 5) dX8_front_5 rfl ?_
    refine go_i2l (pc := 6) dX8_front_6 ?_
    refine go_lconst (v := 0) (pc := 7) dX8_front_7 rfl ?_
    refine go_ldc2 (pc := 8) kw7_236 dX8_front_8 ?_
    refine go_S3P (pc := 11) s_X8_125 rfl rfl dX8_front_11 (sp_within (k := k - 1) _ _ _) ?_
    refine go_if_ne (tgt := 23) (pc := 14) dX8_front_14 (by decide) (fun h_14 => by exfalso; exact h_14 (wi_no hz_q (by decide) (by decide))) (fun h_14 => ?_)
    refine go_aload_n (pc := 17) dX8_front_17 rfl ?_
    refine go_iconst (v := 1) (pc := 18) dX8_front_18 (by decide) ?_
    refine go_V1I (pc := 19) v_X8_231 rfl rfl (rcv_of (ci := 8) (by first | exact mo0 hM_q | exact mo1 hM_q | exact mo6 hM_q | exact mo7 hM_q | exact mo8 hM_q | exact mo2 hM_q | exact mo3 hM_q | exact mo4 hM_q | exact mo5 hM_q | exact mo9 hM_q | exact mo10 hM_q | exact mo11 hM_q | exact mo12 hM_q | exact mo13 hM_q | exact mo14 hM_q | exact mo15 hM_q | exact mo16 hM_q) rfl) dX8_front_19 (sp_fails (k := k - 1) hM_q _) (fun v_19 σ n h => ?_)
    obtain ⟨rfl, rfl, A1, hM_q, hA1, hf1⟩ := h
    have hA_q := eqx.tr (L := [6, 7, 8, 9, 10, 11, 12, 13]) (by repeat (first | assumption | exact eqx.rf | refine eqx.up ?_ (by decide))) (hA1.wk (by decide))
    have hf_q := hf_q.tr hf1
    exact go_iretI (pc := 22) rfl dX8_front_22 (Nat.le_of_ble_eq_true rfl) (Nat.le_of_ble_eq_true rfl) ⟨(by simp [aFront, hz_q]), rfl, _, _, hM_q, ⟨(by simp [upd, aFront, hz_q]), fun j h1 h2 h3 => by simp [upd, h1, h2, h3]⟩, (by repeat (first | assumption | exact eqx.rf | refine eqx.up ?_ (by decide))), hf_q⟩
  | some j1_q =>
    have hz1 := rN_some hz_q
    obtain rfl := I_nat hz1.1 (by omega)
    refine go_aload_n (pc := 0) dX8_front_0 rfl ?_
    refine go_iconst (v := 0) (pc := 1) dX8_front_1 (by decide) ?_
    refine go_mpf4 (pc := 2) hM_q dX8_front_2 (fun σ hM_q hf9 => ?_)
    have hf_q := hf_q.tr hf9
    refine go_iload_n (pc := 5) dX8_front_5 rfl ?_
    refine go_i2l (pc := 6) dX8_front_6 ?_
    refine go_lconst (v := 0) (pc := 7) dX8_front_7 rfl ?_
    refine go_ldc2 (pc := 8) kw7_236 dX8_front_8 ?_
    refine go_S3P (pc := 11) s_X8_125 rfl rfl dX8_front_11 (sp_within (k := k - 1) _ _ _) ?_
    refine go_if_ne (tgt := 23) (pc := 14) dX8_front_14 (by decide) (fun h_14 => ?_) (fun h_14 => by exfalso; rw [wi_yes hz_q (by decide) (by decide)] at h_14; exact absurd h_14 (by decide))
    refine go_aload_n (pc := 23) dX8_front_23 rfl ?_
    refine go_V0V (pc := 24) v_X8_369 rfl rfl (rcv_of (ci := 8) (by first | exact mo0 hM_q | exact mo1 hM_q | exact mo6 hM_q | exact mo7 hM_q | exact mo8 hM_q | exact mo2 hM_q | exact mo3 hM_q | exact mo4 hM_q | exact mo5 hM_q | exact mo9 hM_q | exact mo10 hM_q | exact mo11 hM_q | exact mo12 hM_q | exact mo13 hM_q | exact mo14 hM_q | exact mo15 hM_q | exact mo16 hM_q) rfl) dX8_front_24 (sp_putsAside (k := k - 1) hM_q) (fun σ n h => ?_)
    obtain ⟨rfl, A1, hM_q, hA1, hf1, hG_q⟩ := h
    have hA_q := eqx.tr (L := [6, 7, 8, 9, 10, 11, 12, 13]) (by repeat (first | assumption | exact eqx.rf | refine eqx.up ?_ (by decide))) (hA1.wk (by decide))
    have hf_q := hf_q.tr hf1
    refine go_aload_n (pc := 27) dX8_front_27 rfl ?_
    refine go_iload_n (pc := 28) dX8_front_28 rfl ?_
    refine go_V1V (pc := 29) v_X8_399 rfl rfl (rcv_of (ci := 8) (by first | exact mo0 hM_q | exact mo1 hM_q | exact mo6 hM_q | exact mo7 hM_q | exact mo8 hM_q | exact mo2 hM_q | exact mo3 hM_q | exact mo4 hM_q | exact mo5 hM_q | exact mo9 hM_q | exact mo10 hM_q | exact mo11 hM_q | exact mo12 hM_q | exact mo13 hM_q | exact mo14 hM_q | exact mo15 hM_q | exact mo16 hM_q) rfl) dX8_front_29 (sp_goesOn (k := k - 1) hM_q (by omega) hB_q hv_q (by omega)) (fun σ n h => ?_)
    obtain ⟨rfl, A1, hM_q, hA1, hf1⟩ := h
    have hA_q := eqx.tr (L := [6, 7, 8, 9, 10, 11, 12, 13]) (by repeat (first | assumption | exact eqx.rf | refine eqx.up ?_ (by decide))) (hA1.wk (by decide))
    have hf_q := hf_q.tr hf1
    have hG_q : ∀ j, j < 26 → A1 8 j = K (8 + j) := fun j hj_q => by rw [hA1 8 (by decide)]; exact hG_q j hj_q
    refine go_aload_n (pc := 32) dX8_front_32 rfl ?_
    refine go_V0P (pc := 33) v_X8_378 rfl rfl (rcv_of (ci := 8) (by first | exact mo0 hM_q | exact mo1 hM_q | exact mo6 hM_q | exact mo7 hM_q | exact mo8 hM_q | exact mo2 hM_q | exact mo3 hM_q | exact mo4 hM_q | exact mo5 hM_q | exact mo9 hM_q | exact mo10 hM_q | exact mo11 hM_q | exact mo12 hM_q | exact mo13 hM_q | exact mo14 hM_q | exact mo15 hM_q | exact mo16 hM_q) rfl) dX8_front_33 (sp_inFront (k := k - 1) hM_q (by omega) ((goK_same (by omega)).okB hB_q)) ?_
    refine go_istore_n (lw := [_, _, _]) (pc := 36) dX8_front_36 (by decide) rfl ?_
    refine go_aload_n (pc := 37) dX8_front_37 rfl ?_
    refine go_V0V (pc := 38) v_X8_381 rfl rfl (rcv_of (ci := 8) (by first | exact mo0 hM_q | exact mo1 hM_q | exact mo6 hM_q | exact mo7 hM_q | exact mo8 hM_q | exact mo2 hM_q | exact mo3 hM_q | exact mo4 hM_q | exact mo5 hM_q | exact mo9 hM_q | exact mo10 hM_q | exact mo11 hM_q | exact mo12 hM_q | exact mo13 hM_q | exact mo14 hM_q | exact mo15 hM_q | exact mo16 hM_q) rfl) dX8_front_38 (sp_putsBack (k := k - 1) hM_q) (fun σ n h => ?_)
    obtain ⟨rfl, A1, hM_q, hA1, hf1⟩ := h
    have hA_q := eqx.tr (L := [6, 7, 8, 9, 10, 11, 12, 13]) (by repeat (first | assumption | exact eqx.rf | refine eqx.up ?_ (by decide))) (hA1.wk (by decide))
    have hf_q := hf_q.tr hf1
    rw [setS_back (goK_same (by omega)) hG_q] at hM_q
    refine go_iload_n (pc := 41) dX8_front_41 rfl ?_
    exact go_iretI (pc := 42) rfl dX8_front_42 (Nat.le_of_ble_eq_true rfl) (Nat.le_of_ble_eq_true rfl) ⟨(by simp [aFront, hz_q]), rfl, _, _, hM_q, ⟨(by simp [upd, aFront, hz_q]), fun j h1 h2 h3 => by simp [upd, h1, h2, h3]⟩, (by repeat (first | assumption | exact eqx.rf | refine eqx.up ?_ (by decide))), hf_q⟩
theorem sp_wetIn {Γ : gam} {z0 : sto} {n k r : Nat} {F K : row} {A : Nat → row} {Nm : Nat → Int64} (hM_q : MoAt Γ z0 r F K A Nm) (hk : 12 ≤ k) (hB_q : okB K) (hv_q : vS K) (p : Int32) : Sp Γ (rmk k 0 0) uX8_wetIn [.ref r, .int p] z0 n (qI fun v σ' n' => v = (aWetIn K p.toInt).2 ∧ apJ Γ r F K A Nm z0 n (aWetIn K p.toInt).1 σ' n') := by
  have hP8 := hB_q.1.2.1
  have hH5 := hB_q.1.2.2.2.1
  have hW4 := hB_q.1.2.2.2.2.2
  have hA_q : eqx [6, 7, 8, 9, 10, 11, 12, 13] A A := eqx.rf
  have hf_q : fr r (r + 16) z0 z0 := fr.rf
  refine sp_intro [some (.ref r), some (.int p), none] (by decide +kernel) rfl (Nat.le_of_ble_eq_true rfl) rfl ?_
  cases hp_q : pN (kP K) p.toInt with
  | none =>
    refine go_aload_n (pc := 0) dX8_wetIn_0 rfl ?_
    refine go_iconst (v := 0) (pc := 1) dX8_wetIn_1 (by decide) ?_
    refine go_mpf4 (pc := 2) hM_q dX8_wetIn_2 (fun σ hM_q hf9 => ?_)
    have hf_q := hf_q.tr hf9
    refine go_aload_n (pc := 5) dX8_wetIn_5 rfl ?_
    refine go_iload_n (pc := 6) dX8_wetIn_6 rfl ?_
    refine go_i2l (pc := 7) dX8_wetIn_7 ?_
    refine go_V1P (pc := 8) v_X8_310 rfl rfl (rcv_of (ci := 8) (by first | exact mo0 hM_q | exact mo1 hM_q | exact mo6 hM_q | exact mo7 hM_q | exact mo8 hM_q | exact mo2 hM_q | exact mo3 hM_q | exact mo4 hM_q | exact mo5 hM_q | exact mo9 hM_q | exact mo10 hM_q | exact mo11 hM_q | exact mo12 hM_q | exact mo13 hM_q | exact mo14 hM_q | exact mo15 hM_q | exact mo16 hM_q) rfl) dX8_wetIn_8 (sp_isPerson (k := k - 1) hM_q (by omega) _) ?_
    refine go_if_ne (tgt := 20) (pc := 11) dX8_wetIn_11 (by decide) (fun h_11 => by exfalso; exact h_11 (pi_no hB_q.1.1 (by omega) hp_q)) (fun h_11 => ?_)
    refine go_aload_n (pc := 14) dX8_wetIn_14 rfl ?_
    refine go_iconst (v := 1) (pc := 15) dX8_wetIn_15 (by decide) ?_
    refine go_V1I (pc := 16) v_X8_231 rfl rfl (rcv_of (ci := 8) (by first | exact mo0 hM_q | exact mo1 hM_q | exact mo6 hM_q | exact mo7 hM_q | exact mo8 hM_q | exact mo2 hM_q | exact mo3 hM_q | exact mo4 hM_q | exact mo5 hM_q | exact mo9 hM_q | exact mo10 hM_q | exact mo11 hM_q | exact mo12 hM_q | exact mo13 hM_q | exact mo14 hM_q | exact mo15 hM_q | exact mo16 hM_q) rfl) dX8_wetIn_16 (sp_fails (k := k - 1) hM_q _) (fun v_16 σ n h => ?_)
    obtain ⟨rfl, rfl, A1, hM_q, hA1, hf1⟩ := h
    have hA_q := eqx.tr (L := [6, 7, 8, 9, 10, 11, 12, 13]) (by repeat (first | assumption | exact eqx.rf | refine eqx.up ?_ (by decide))) (hA1.wk (by decide))
    have hf_q := hf_q.tr hf1
    exact go_iretI (pc := 19) rfl dX8_wetIn_19 (Nat.le_of_ble_eq_true rfl) (Nat.le_of_ble_eq_true rfl) ⟨(by simp [aWetIn, hp_q]), rfl, _, _, hM_q, ⟨(by simp [upd, aWetIn, hp_q]), fun j h1 h2 h3 => by simp [upd, h1, h2, h3]⟩, (by repeat (first | assumption | exact eqx.rf | refine eqx.up ?_ (by decide))), hf_q⟩
  | some j1_q =>
    have hp1 := pN_some hp_q
    obtain rfl := I_nat hp1.1 (by omega)
    refine go_aload_n (pc := 0) dX8_wetIn_0 rfl ?_
    refine go_iconst (v := 0) (pc := 1) dX8_wetIn_1 (by decide) ?_
    refine go_mpf4 (pc := 2) hM_q dX8_wetIn_2 (fun σ hM_q hf9 => ?_)
    have hf_q := hf_q.tr hf9
    refine go_aload_n (pc := 5) dX8_wetIn_5 rfl ?_
    refine go_iload_n (pc := 6) dX8_wetIn_6 rfl ?_
    refine go_i2l (pc := 7) dX8_wetIn_7 ?_
    refine go_V1P (pc := 8) v_X8_310 rfl rfl (rcv_of (ci := 8) (by first | exact mo0 hM_q | exact mo1 hM_q | exact mo6 hM_q | exact mo7 hM_q | exact mo8 hM_q | exact mo2 hM_q | exact mo3 hM_q | exact mo4 hM_q | exact mo5 hM_q | exact mo9 hM_q | exact mo10 hM_q | exact mo11 hM_q | exact mo12 hM_q | exact mo13 hM_q | exact mo14 hM_q | exact mo15 hM_q | exact mo16 hM_q) rfl) dX8_wetIn_8 (sp_isPerson (k := k - 1) hM_q (by omega) _) ?_
    refine go_if_ne (tgt := 20) (pc := 11) dX8_wetIn_11 (by decide) (fun h_11 => ?_) (fun h_11 => by exfalso; rw [pi_yes hB_q.1.1 (by omega) hp_q] at h_11; exact absurd h_11 (by decide))
    refine go_aload_n (pc := 20) dX8_wetIn_20 rfl ?_
    refine go_V0V (pc := 21) v_X8_369 rfl rfl (rcv_of (ci := 8) (by first | exact mo0 hM_q | exact mo1 hM_q | exact mo6 hM_q | exact mo7 hM_q | exact mo8 hM_q | exact mo2 hM_q | exact mo3 hM_q | exact mo4 hM_q | exact mo5 hM_q | exact mo9 hM_q | exact mo10 hM_q | exact mo11 hM_q | exact mo12 hM_q | exact mo13 hM_q | exact mo14 hM_q | exact mo15 hM_q | exact mo16 hM_q) rfl) dX8_wetIn_21 (sp_putsAside (k := k - 1) hM_q) (fun σ n h => ?_)
    obtain ⟨rfl, A1, hM_q, hA1, hf1, hG_q⟩ := h
    have hA_q := eqx.tr (L := [6, 7, 8, 9, 10, 11, 12, 13]) (by repeat (first | assumption | exact eqx.rf | refine eqx.up ?_ (by decide))) (hA1.wk (by decide))
    have hf_q := hf_q.tr hf1
    refine go_iconst (v := 0) (pc := 24) dX8_wetIn_24 (by decide) ?_
    refine go_istore_n (lw := [_, _, _]) (pc := 25) dX8_wetIn_25 (by decide) rfl ?_
    refine go_iter (201) (fun i_q lv9 s9 n9 => ∃ A9_q, lv9 = [some (.ref r), some (.int (nI j1_q)), some (.int (nI i_q))] ∧ (MoAt Γ s9 r (upd F 4 0) (goK i_q K) A9_q Nm) ∧ (eqx [6, 7, 8, 9, 10, 11, 12, 13] A A9_q) ∧ (fr r (r + 16) z0 s9) ∧ (∀ q, q < i_q → (fun m => hasB (goK m K 32) (nI j1_q)) q = false) ∧ (∀ j, j < 26 → A9_q 8 j = K (8 + j)) ∧ n = n9) ⟨_, rfl, hM_q, hA_q, hf_q, (fun q hq_q => absurd hq_q (by omega)), hG_q, rfl⟩ ?_ ?_
    · rintro i_q lv9 σ n9 hi_q ⟨A9_q, rfl, hM_q, hA_q, hf_q, hN_q, hG_q, rfl⟩ ih_q
      have hS_q : sameB K (goK i_q K) := goK_same (by omega)
      have hB9_q := hS_q.okB hB_q
      have hv9_q : vS (goK i_q K) := vS_go hv_q (by omega) (by omega)
      refine go_iload_n (pc := 26) dX8_wetIn_26 rfl ?_
      refine go_sipush (v := 200) (pc := 27) dX8_wetIn_27 (by decide) ?_
      refine go_icmp_gt (tgt := 57) (pc := 30) dX8_wetIn_30 (by decide) (fun h_30 => by exfalso; exact absurd h_30 (nI_nlt (a := 200) (by omega) (by decide))) (fun h_30 => ?_)
      refine go_aload_n (pc := 33) dX8_wetIn_33 rfl ?_
      refine go_getf (pc := 34) f_X8_9 dX8_wetIn_34 (by first | exact mo0 hM_q | exact mo1 hM_q | exact mo6 hM_q | exact mo7 hM_q | exact mo8 hM_q | exact mo2 hM_q | exact mo3 hM_q | exact mo4 hM_q | exact mo5 hM_q | exact mo9 hM_q | exact mo10 hM_q | exact mo11 hM_q | exact mo12 hM_q | exact mo13 hM_q | exact mo14 hM_q | exact mo15 hM_q | exact mo16 hM_q) (by rfl) ?_
      refine go_bipush (v := 32) (pc := 37) dX8_wetIn_37 (by decide) ?_
      refine go_iald (j := 32) (pc := 39) dX8_wetIn_39 (by first | exact mo0 hM_q | exact mo1 hM_q | exact mo6 hM_q | exact mo7 hM_q | exact mo8 hM_q | exact mo2 hM_q | exact mo3 hM_q | exact mo4 hM_q | exact mo5 hM_q | exact mo9 hM_q | exact mo10 hM_q | exact mo11 hM_q | exact mo12 hM_q | exact mo13 hM_q | exact mo14 hM_q | exact mo15 hM_q | exact mo16 hM_q) (by exact ⟨rfl, by decide⟩) ?_
      refine go_iload_n (pc := 40) dX8_wetIn_40 rfl ?_
      refine go_S2P (pc := 41) s_X8_249 rfl rfl dX8_wetIn_41 (sp_has (k := k - 1) _ _) ?_
      refine go_if_ne (tgt := 57) (pc := 44) dX8_wetIn_44 (by decide) (fun h_44 => ?_) (fun h_44 => ?_)
      · refine go_aload_n (pc := 57) dX8_wetIn_57 rfl ?_
        refine go_V0V (pc := 58) v_X8_381 rfl rfl (rcv_of (ci := 8) (by first | exact mo0 hM_q | exact mo1 hM_q | exact mo6 hM_q | exact mo7 hM_q | exact mo8 hM_q | exact mo2 hM_q | exact mo3 hM_q | exact mo4 hM_q | exact mo5 hM_q | exact mo9 hM_q | exact mo10 hM_q | exact mo11 hM_q | exact mo12 hM_q | exact mo13 hM_q | exact mo14 hM_q | exact mo15 hM_q | exact mo16 hM_q) rfl) dX8_wetIn_58 (sp_putsBack (k := k - 1) hM_q) (fun σ n h => ?_)
        obtain ⟨rfl, A1, hM_q, hA1, hf1⟩ := h
        have hA_q := eqx.tr (L := [6, 7, 8, 9, 10, 11, 12, 13]) (by repeat (first | assumption | exact eqx.rf | refine eqx.up ?_ (by decide))) (hA1.wk (by decide))
        have hf_q := hf_q.tr hf1
        rw [setS_back (goK_same (by omega)) hG_q] at hM_q
        refine go_iload_n (pc := 61) dX8_wetIn_61 rfl ?_
        refine go_sipush (v := 200) (pc := 62) dX8_wetIn_62 (by decide) ?_
        refine go_icmp_le (tgt := 72) (pc := 65) dX8_wetIn_65 (by decide) (fun h_65 => ?_) (fun h_65 => by exfalso; exact h_65 (nI_le (b := 200) (by omega) (by decide)))
        refine go_iload_n (pc := 72) dX8_wetIn_72 rfl ?_
        exact go_iretI (pc := 73) rfl dX8_wetIn_73 (Nat.le_of_ble_eq_true rfl) (Nat.le_of_ble_eq_true rfl) ⟨(by simp only [aWetIn, hp_q]; rw [fnd_at (p := i_q) (by first | simpa [hasB, bI_0] using h_44 | simpa using h_42) (by omega) (by omega) (fun q _ hq_q => hN_q q hq_q)]; rfl), rfl, _, _, hM_q, ⟨(by simp [upd, aWetIn, hp_q]), fun j h1 h2 h3 => by simp [upd, h1, h2, h3]⟩, (by repeat (first | assumption | exact eqx.rf | refine eqx.up ?_ (by decide))), hf_q⟩
      · refine go_aload_n (pc := 47) dX8_wetIn_47 rfl ?_
        refine go_V0V (pc := 48) v_X8_345 rfl rfl (rcv_of (ci := 8) (by first | exact mo0 hM_q | exact mo1 hM_q | exact mo6 hM_q | exact mo7 hM_q | exact mo8 hM_q | exact mo2 hM_q | exact mo3 hM_q | exact mo4 hM_q | exact mo5 hM_q | exact mo9 hM_q | exact mo10 hM_q | exact mo11 hM_q | exact mo12 hM_q | exact mo13 hM_q | exact mo14 hM_q | exact mo15 hM_q | exact mo16 hM_q) rfl) dX8_wetIn_48 (sp_minute (k := k - 1) hM_q (by omega) hB9_q hv9_q) (fun σ n h => ?_)
        obtain ⟨rfl, A1, hM_q, hA1, hf1⟩ := h
        have hA_q := eqx.tr (L := [6, 7, 8, 9, 10, 11, 12, 13]) (by repeat (first | assumption | exact eqx.rf | refine eqx.up ?_ (by decide))) (hA1.wk (by decide))
        have hf_q := hf_q.tr hf1
        rw [← goK_s] at hM_q
        have hG_q : ∀ j, j < 26 → A1 8 j = K (8 + j) := fun j hj_q => by rw [hA1 8 (by decide)]; exact hG_q j hj_q
        refine go_iinc (v := 1) (lw := [_, _, _]) (pc := 51) dX8_wetIn_51 rfl (by decide) (by decide) rfl ?_
        refine go_goto (tgt := 26) (pc := 54) dX8_wetIn_54 (by decide) ?_
        rw [nI_1]
        exact ih_q _ _ _ ⟨_, rfl, hM_q, hA_q, hf_q, (fun q hq_q => (Nat.lt_or_ge q i_q).elim (hN_q q) (fun hq2 => by obtain rfl : i_q = q := (by omega); first | simpa [hasB, bI_0] using h_44 | simpa using h_42)), hG_q, rfl⟩
    · rintro lv9 σ n9 ⟨A9_q, rfl, hM_q, hA_q, hf_q, hN_q, hG_q, rfl⟩
      refine go_iload_n (pc := 26) dX8_wetIn_26 rfl ?_
      refine go_sipush (v := 200) (pc := 27) dX8_wetIn_27 (by decide) ?_
      refine go_icmp_gt (tgt := 57) (pc := 30) dX8_wetIn_30 (by decide) (fun h_30 => ?_) (fun h_30 => by exfalso; exact h_30 (by decide))
      refine go_aload_n (pc := 57) dX8_wetIn_57 rfl ?_
      refine go_V0V (pc := 58) v_X8_381 rfl rfl (rcv_of (ci := 8) (by first | exact mo0 hM_q | exact mo1 hM_q | exact mo6 hM_q | exact mo7 hM_q | exact mo8 hM_q | exact mo2 hM_q | exact mo3 hM_q | exact mo4 hM_q | exact mo5 hM_q | exact mo9 hM_q | exact mo10 hM_q | exact mo11 hM_q | exact mo12 hM_q | exact mo13 hM_q | exact mo14 hM_q | exact mo15 hM_q | exact mo16 hM_q) rfl) dX8_wetIn_58 (sp_putsBack (k := k - 1) hM_q) (fun σ n h => ?_)
      obtain ⟨rfl, A1, hM_q, hA1, hf1⟩ := h
      have hA_q := eqx.tr (L := [6, 7, 8, 9, 10, 11, 12, 13]) (by repeat (first | assumption | exact eqx.rf | refine eqx.up ?_ (by decide))) (hA1.wk (by decide))
      have hf_q := hf_q.tr hf1
      rw [setS_back (goK_same (by omega)) hG_q] at hM_q
      refine go_iload_n (pc := 61) dX8_wetIn_61 rfl ?_
      refine go_sipush (v := 200) (pc := 62) dX8_wetIn_62 (by decide) ?_
      refine go_icmp_le (tgt := 72) (pc := 65) dX8_wetIn_65 (by decide) (fun h_65 => by exfalso; exact absurd h_65 (by decide)) (fun h_65 => ?_)
      refine go_iconst (v := -1) (pc := 68) dX8_wetIn_68 (by decide) ?_
      refine go_goto (tgt := 73) (pc := 69) dX8_wetIn_69 (by decide) ?_
      exact go_iretI (pc := 73) rfl dX8_wetIn_73 (Nat.le_of_ble_eq_true rfl) (Nat.le_of_ble_eq_true rfl) ⟨(by simp only [aWetIn, hp_q]; rw [fnd_none (fun q _ hq_q => hN_q q (by omega))]; rfl), rfl, _, _, hM_q, ⟨(by simp [upd, aWetIn, hp_q]), fun j h1 h2 h3 => by simp [upd, h1, h2, h3]⟩, (by repeat (first | assumption | exact eqx.rf | refine eqx.up ?_ (by decide))), hf_q⟩
theorem sp_frontIn {Γ : gam} {z0 : sto} {n k r : Nat} {F K : row} {A : Nat → row} {Nm : Nat → Int64} (hM_q : MoAt Γ z0 r F K A Nm) (hk : 12 ≤ k) (hB_q : okB K) (hv_q : vS K) (p : Int32) : Sp Γ (rmk k 0 0) uX8_frontIn [.ref r, .int p] z0 n (qI fun v σ' n' => v = (aFrontIn K p.toInt).2 ∧ apJ Γ r F K A Nm z0 n (aFrontIn K p.toInt).1 σ' n') := by
  have hP8 := hB_q.1.2.1
  have hH5 := hB_q.1.2.2.2.1
  have hW4 := hB_q.1.2.2.2.2.2
  have hA_q : eqx [6, 7, 8, 9, 10, 11, 12, 13] A A := eqx.rf
  have hf_q : fr r (r + 16) z0 z0 := fr.rf
  refine sp_intro [some (.ref r), some (.int p), none] (by decide +kernel) rfl (Nat.le_of_ble_eq_true rfl) rfl ?_
  cases hp_q : pN (kP K) p.toInt with
  | none =>
    refine go_aload_n (pc := 0) dX8_frontIn_0 rfl ?_
    refine go_iconst (v := 0) (pc := 1) dX8_frontIn_1 (by decide) ?_
    refine go_mpf4 (pc := 2) hM_q dX8_frontIn_2 (fun σ hM_q hf9 => ?_)
    have hf_q := hf_q.tr hf9
    refine go_aload_n (pc := 5) dX8_frontIn_5 rfl ?_
    refine go_iload_n (pc := 6) dX8_frontIn_6 rfl ?_
    refine go_i2l (pc := 7) dX8_frontIn_7 ?_
    refine go_V1P (pc := 8) v_X8_310 rfl rfl (rcv_of (ci := 8) (by first | exact mo0 hM_q | exact mo1 hM_q | exact mo6 hM_q | exact mo7 hM_q | exact mo8 hM_q | exact mo2 hM_q | exact mo3 hM_q | exact mo4 hM_q | exact mo5 hM_q | exact mo9 hM_q | exact mo10 hM_q | exact mo11 hM_q | exact mo12 hM_q | exact mo13 hM_q | exact mo14 hM_q | exact mo15 hM_q | exact mo16 hM_q) rfl) dX8_frontIn_8 (sp_isPerson (k := k - 1) hM_q (by omega) _) ?_
    refine go_if_ne (tgt := 20) (pc := 11) dX8_frontIn_11 (by decide) (fun h_11 => by exfalso; exact h_11 (pi_no hB_q.1.1 (by omega) hp_q)) (fun h_11 => ?_)
    refine go_aload_n (pc := 14) dX8_frontIn_14 rfl ?_
    refine go_iconst (v := 1) (pc := 15) dX8_frontIn_15 (by decide) ?_
    refine go_V1I (pc := 16) v_X8_231 rfl rfl (rcv_of (ci := 8) (by first | exact mo0 hM_q | exact mo1 hM_q | exact mo6 hM_q | exact mo7 hM_q | exact mo8 hM_q | exact mo2 hM_q | exact mo3 hM_q | exact mo4 hM_q | exact mo5 hM_q | exact mo9 hM_q | exact mo10 hM_q | exact mo11 hM_q | exact mo12 hM_q | exact mo13 hM_q | exact mo14 hM_q | exact mo15 hM_q | exact mo16 hM_q) rfl) dX8_frontIn_16 (sp_fails (k := k - 1) hM_q _) (fun v_16 σ n h => ?_)
    obtain ⟨rfl, rfl, A1, hM_q, hA1, hf1⟩ := h
    have hA_q := eqx.tr (L := [6, 7, 8, 9, 10, 11, 12, 13]) (by repeat (first | assumption | exact eqx.rf | refine eqx.up ?_ (by decide))) (hA1.wk (by decide))
    have hf_q := hf_q.tr hf1
    exact go_iretI (pc := 19) rfl dX8_frontIn_19 (Nat.le_of_ble_eq_true rfl) (Nat.le_of_ble_eq_true rfl) ⟨(by simp [aFrontIn, hp_q]), rfl, _, _, hM_q, ⟨(by simp [upd, aFrontIn, hp_q]), fun j h1 h2 h3 => by simp [upd, h1, h2, h3]⟩, (by repeat (first | assumption | exact eqx.rf | refine eqx.up ?_ (by decide))), hf_q⟩
  | some j1_q =>
    have hp1 := pN_some hp_q
    obtain rfl := I_nat hp1.1 (by omega)
    refine go_aload_n (pc := 0) dX8_frontIn_0 rfl ?_
    refine go_iconst (v := 0) (pc := 1) dX8_frontIn_1 (by decide) ?_
    refine go_mpf4 (pc := 2) hM_q dX8_frontIn_2 (fun σ hM_q hf9 => ?_)
    have hf_q := hf_q.tr hf9
    refine go_aload_n (pc := 5) dX8_frontIn_5 rfl ?_
    refine go_iload_n (pc := 6) dX8_frontIn_6 rfl ?_
    refine go_i2l (pc := 7) dX8_frontIn_7 ?_
    refine go_V1P (pc := 8) v_X8_310 rfl rfl (rcv_of (ci := 8) (by first | exact mo0 hM_q | exact mo1 hM_q | exact mo6 hM_q | exact mo7 hM_q | exact mo8 hM_q | exact mo2 hM_q | exact mo3 hM_q | exact mo4 hM_q | exact mo5 hM_q | exact mo9 hM_q | exact mo10 hM_q | exact mo11 hM_q | exact mo12 hM_q | exact mo13 hM_q | exact mo14 hM_q | exact mo15 hM_q | exact mo16 hM_q) rfl) dX8_frontIn_8 (sp_isPerson (k := k - 1) hM_q (by omega) _) ?_
    refine go_if_ne (tgt := 20) (pc := 11) dX8_frontIn_11 (by decide) (fun h_11 => ?_) (fun h_11 => by exfalso; rw [pi_yes hB_q.1.1 (by omega) hp_q] at h_11; exact absurd h_11 (by decide))
    refine go_aload_n (pc := 20) dX8_frontIn_20 rfl ?_
    refine go_V0V (pc := 21) v_X8_369 rfl rfl (rcv_of (ci := 8) (by first | exact mo0 hM_q | exact mo1 hM_q | exact mo6 hM_q | exact mo7 hM_q | exact mo8 hM_q | exact mo2 hM_q | exact mo3 hM_q | exact mo4 hM_q | exact mo5 hM_q | exact mo9 hM_q | exact mo10 hM_q | exact mo11 hM_q | exact mo12 hM_q | exact mo13 hM_q | exact mo14 hM_q | exact mo15 hM_q | exact mo16 hM_q) rfl) dX8_frontIn_21 (sp_putsAside (k := k - 1) hM_q) (fun σ n h => ?_)
    obtain ⟨rfl, A1, hM_q, hA1, hf1, hG_q⟩ := h
    have hA_q := eqx.tr (L := [6, 7, 8, 9, 10, 11, 12, 13]) (by repeat (first | assumption | exact eqx.rf | refine eqx.up ?_ (by decide))) (hA1.wk (by decide))
    have hf_q := hf_q.tr hf1
    refine go_iconst (v := 0) (pc := 24) dX8_frontIn_24 (by decide) ?_
    refine go_istore_n (lw := [_, _, _]) (pc := 25) dX8_frontIn_25 (by decide) rfl ?_
    refine go_iter (201) (fun i_q lv9 s9 n9 => ∃ A9_q, lv9 = [some (.ref r), some (.int (nI j1_q)), some (.int (nI i_q))] ∧ (MoAt Γ s9 r (upd F 4 0) (goK i_q K) A9_q Nm) ∧ (eqx [6, 7, 8, 9, 10, 11, 12, 13] A A9_q) ∧ (fr r (r + 16) z0 s9) ∧ (∀ q, q < i_q → (fun m => decide (goK m K (16 + j1_q) = 0)) q = false) ∧ (∀ j, j < 26 → A9_q 8 j = K (8 + j)) ∧ n = n9) ⟨_, rfl, hM_q, hA_q, hf_q, (fun q hq_q => absurd hq_q (by omega)), hG_q, rfl⟩ ?_ ?_
    · rintro i_q lv9 σ n9 hi_q ⟨A9_q, rfl, hM_q, hA_q, hf_q, hN_q, hG_q, rfl⟩ ih_q
      have hS_q : sameB K (goK i_q K) := goK_same (by omega)
      have hB9_q := hS_q.okB hB_q
      have hv9_q : vS (goK i_q K) := vS_go hv_q (by omega) (by omega)
      refine go_iload_n (pc := 26) dX8_frontIn_26 rfl ?_
      refine go_sipush (v := 200) (pc := 27) dX8_frontIn_27 (by decide) ?_
      refine go_icmp_gt (tgt := 55) (pc := 30) dX8_frontIn_30 (by decide) (fun h_30 => by exfalso; exact absurd h_30 (nI_nlt (a := 200) (by omega) (by decide))) (fun h_30 => ?_)
      refine go_aload_n (pc := 33) dX8_frontIn_33 rfl ?_
      refine go_getf (pc := 34) f_X8_9 dX8_frontIn_34 (by first | exact mo0 hM_q | exact mo1 hM_q | exact mo6 hM_q | exact mo7 hM_q | exact mo8 hM_q | exact mo2 hM_q | exact mo3 hM_q | exact mo4 hM_q | exact mo5 hM_q | exact mo9 hM_q | exact mo10 hM_q | exact mo11 hM_q | exact mo12 hM_q | exact mo13 hM_q | exact mo14 hM_q | exact mo15 hM_q | exact mo16 hM_q) (by rfl) ?_
      refine go_bipush (v := 16) (pc := 37) dX8_frontIn_37 (by decide) ?_
      refine go_iload_n (pc := 39) dX8_frontIn_39 rfl ?_
      refine go_iadd (pc := 40) dX8_frontIn_40 ?_
      refine go_iald (pc := 41) dX8_frontIn_41 (by first | exact mo0 hM_q | exact mo1 hM_q | exact mo6 hM_q | exact mo7 hM_q | exact mo8 hM_q | exact mo2 hM_q | exact mo3 hM_q | exact mo4 hM_q | exact mo5 hM_q | exact mo9 hM_q | exact mo10 hM_q | exact mo11 hM_q | exact mo12 hM_q | exact mo13 hM_q | exact mo14 hM_q | exact mo15 hM_q | exact mo16 hM_q) (by exact ⟨nI_add 16 _, by omega⟩) ?_
      refine go_if_eq (tgt := 55) (pc := 42) dX8_frontIn_42 (by decide) (fun h_42 => ?_) (fun h_42 => ?_)
      · refine go_aload_n (pc := 55) dX8_frontIn_55 rfl ?_
        refine go_V0V (pc := 56) v_X8_381 rfl rfl (rcv_of (ci := 8) (by first | exact mo0 hM_q | exact mo1 hM_q | exact mo6 hM_q | exact mo7 hM_q | exact mo8 hM_q | exact mo2 hM_q | exact mo3 hM_q | exact mo4 hM_q | exact mo5 hM_q | exact mo9 hM_q | exact mo10 hM_q | exact mo11 hM_q | exact mo12 hM_q | exact mo13 hM_q | exact mo14 hM_q | exact mo15 hM_q | exact mo16 hM_q) rfl) dX8_frontIn_56 (sp_putsBack (k := k - 1) hM_q) (fun σ n h => ?_)
        obtain ⟨rfl, A1, hM_q, hA1, hf1⟩ := h
        have hA_q := eqx.tr (L := [6, 7, 8, 9, 10, 11, 12, 13]) (by repeat (first | assumption | exact eqx.rf | refine eqx.up ?_ (by decide))) (hA1.wk (by decide))
        have hf_q := hf_q.tr hf1
        rw [setS_back (goK_same (by omega)) hG_q] at hM_q
        refine go_iload_n (pc := 59) dX8_frontIn_59 rfl ?_
        refine go_sipush (v := 200) (pc := 60) dX8_frontIn_60 (by decide) ?_
        refine go_icmp_le (tgt := 70) (pc := 63) dX8_frontIn_63 (by decide) (fun h_63 => ?_) (fun h_63 => by exfalso; exact h_63 (nI_le (b := 200) (by omega) (by decide)))
        refine go_iload_n (pc := 70) dX8_frontIn_70 rfl ?_
        exact go_iretI (pc := 71) rfl dX8_frontIn_71 (Nat.le_of_ble_eq_true rfl) (Nat.le_of_ble_eq_true rfl) ⟨(by simp only [aFrontIn, hp_q]; rw [fnd_at (p := i_q) (by first | simpa [hasB, bI_0] using h_44 | simpa using h_42) (by omega) (by omega) (fun q _ hq_q => hN_q q hq_q)]; rfl), rfl, _, _, hM_q, ⟨(by simp [upd, aFrontIn, hp_q]), fun j h1 h2 h3 => by simp [upd, h1, h2, h3]⟩, (by repeat (first | assumption | exact eqx.rf | refine eqx.up ?_ (by decide))), hf_q⟩
      · refine go_aload_n (pc := 45) dX8_frontIn_45 rfl ?_
        refine go_V0V (pc := 46) v_X8_345 rfl rfl (rcv_of (ci := 8) (by first | exact mo0 hM_q | exact mo1 hM_q | exact mo6 hM_q | exact mo7 hM_q | exact mo8 hM_q | exact mo2 hM_q | exact mo3 hM_q | exact mo4 hM_q | exact mo5 hM_q | exact mo9 hM_q | exact mo10 hM_q | exact mo11 hM_q | exact mo12 hM_q | exact mo13 hM_q | exact mo14 hM_q | exact mo15 hM_q | exact mo16 hM_q) rfl) dX8_frontIn_46 (sp_minute (k := k - 1) hM_q (by omega) hB9_q hv9_q) (fun σ n h => ?_)
        obtain ⟨rfl, A1, hM_q, hA1, hf1⟩ := h
        have hA_q := eqx.tr (L := [6, 7, 8, 9, 10, 11, 12, 13]) (by repeat (first | assumption | exact eqx.rf | refine eqx.up ?_ (by decide))) (hA1.wk (by decide))
        have hf_q := hf_q.tr hf1
        rw [← goK_s] at hM_q
        have hG_q : ∀ j, j < 26 → A1 8 j = K (8 + j) := fun j hj_q => by rw [hA1 8 (by decide)]; exact hG_q j hj_q
        refine go_iinc (v := 1) (lw := [_, _, _]) (pc := 49) dX8_frontIn_49 rfl (by decide) (by decide) rfl ?_
        refine go_goto (tgt := 26) (pc := 52) dX8_frontIn_52 (by decide) ?_
        rw [nI_1]
        exact ih_q _ _ _ ⟨_, rfl, hM_q, hA_q, hf_q, (fun q hq_q => (Nat.lt_or_ge q i_q).elim (hN_q q) (fun hq2 => by obtain rfl : i_q = q := (by omega); first | simpa [hasB, bI_0] using h_44 | simpa using h_42)), hG_q, rfl⟩
    · rintro lv9 σ n9 ⟨A9_q, rfl, hM_q, hA_q, hf_q, hN_q, hG_q, rfl⟩
      refine go_iload_n (pc := 26) dX8_frontIn_26 rfl ?_
      refine go_sipush (v := 200) (pc := 27) dX8_frontIn_27 (by decide) ?_
      refine go_icmp_gt (tgt := 55) (pc := 30) dX8_frontIn_30 (by decide) (fun h_30 => ?_) (fun h_30 => by exfalso; exact h_30 (by decide))
      refine go_aload_n (pc := 55) dX8_frontIn_55 rfl ?_
      refine go_V0V (pc := 56) v_X8_381 rfl rfl (rcv_of (ci := 8) (by first | exact mo0 hM_q | exact mo1 hM_q | exact mo6 hM_q | exact mo7 hM_q | exact mo8 hM_q | exact mo2 hM_q | exact mo3 hM_q | exact mo4 hM_q | exact mo5 hM_q | exact mo9 hM_q | exact mo10 hM_q | exact mo11 hM_q | exact mo12 hM_q | exact mo13 hM_q | exact mo14 hM_q | exact mo15 hM_q | exact mo16 hM_q) rfl) dX8_frontIn_56 (sp_putsBack (k := k - 1) hM_q) (fun σ n h => ?_)
      obtain ⟨rfl, A1, hM_q, hA1, hf1⟩ := h
      have hA_q := eqx.tr (L := [6, 7, 8, 9, 10, 11, 12, 13]) (by repeat (first | assumption | exact eqx.rf | refine eqx.up ?_ (by decide))) (hA1.wk (by decide))
      have hf_q := hf_q.tr hf1
      rw [setS_back (goK_same (by omega)) hG_q] at hM_q
      refine go_iload_n (pc := 59) dX8_frontIn_59 rfl ?_
      refine go_sipush (v := 200) (pc := 60) dX8_frontIn_60 (by decide) ?_
      refine go_icmp_le (tgt := 70) (pc := 63) dX8_frontIn_63 (by decide) (fun h_63 => by exfalso; exact absurd h_63 (by decide)) (fun h_63 => ?_)
      refine go_iconst (v := -1) (pc := 66) dX8_frontIn_66 (by decide) ?_
      refine go_goto (tgt := 71) (pc := 67) dX8_frontIn_67 (by decide) ?_
      exact go_iretI (pc := 71) rfl dX8_frontIn_71 (Nat.le_of_ble_eq_true rfl) (Nat.le_of_ble_eq_true rfl) ⟨(by simp only [aFrontIn, hp_q]; rw [fnd_none (fun q _ hq_q => hN_q q (by omega))]; rfl), rfl, _, _, hM_q, ⟨(by simp [upd, aFrontIn, hp_q]), fun j h1 h2 h3 => by simp [upd, h1, h2, h3]⟩, (by repeat (first | assumption | exact eqx.rf | refine eqx.up ?_ (by decide))), hf_q⟩
theorem sp_king {Γ : gam} {z0 : sto} {n k r : Nat} {F K : row} {A : Nat → row} {Nm : Nat → Int64} (hM_q : MoAt Γ z0 r F K A Nm) (hk : 12 ≤ k) (hB_q : okB K) (hv_q : vS K) (z : Int32) : Sp Γ (rmk k 0 0) uX8_king [.ref r, .int z] z0 n (qI fun v σ' n' => v = (aKing K z.toInt).2 ∧ apJ Γ r F K A Nm z0 n (aKing K z.toInt).1 σ' n') := by
  have hP8 := hB_q.1.2.1
  have hH5 := hB_q.1.2.2.2.1
  have hW4 := hB_q.1.2.2.2.2.2
  have hA_q : eqx [6, 7, 8, 9, 10, 11, 12, 13] A A := eqx.rf
  have hf_q : fr r (r + 16) z0 z0 := fr.rf
  refine sp_intro [some (.ref r), some (.int z), none, none] (by decide +kernel) rfl (Nat.le_of_ble_eq_true rfl) rfl ?_
  cases hz_q : rN 0 201 z.toInt with
  | none =>
    refine go_aload_n (pc := 0) dX8_king_0 rfl ?_
    refine go_iconst (v := 0) (pc := 1) dX8_king_1 (by decide) ?_
    refine go_mpf4 (pc := 2) hM_q dX8_king_2 (fun σ hM_q hf9 => ?_)
    have hf_q := hf_q.tr hf9
    refine go_iload_n (pc := 5) dX8_king_5 rfl ?_
    refine go_i2l (pc := 6) dX8_king_6 ?_
    refine go_lconst (v := 0) (pc := 7) dX8_king_7 rfl ?_
    refine go_ldc2 (pc := 8) kw7_236 dX8_king_8 ?_
    refine go_S3P (pc := 11) s_X8_125 rfl rfl dX8_king_11 (sp_within (k := k - 1) _ _ _) ?_
    refine go_if_ne (tgt := 23) (pc := 14) dX8_king_14 (by decide) (fun h_14 => by exfalso; exact h_14 (wi_no hz_q (by decide) (by decide))) (fun h_14 => ?_)
    refine go_aload_n (pc := 17) dX8_king_17 rfl ?_
    refine go_iconst (v := 1) (pc := 18) dX8_king_18 (by decide) ?_
    refine go_V1I (pc := 19) v_X8_231 rfl rfl (rcv_of (ci := 8) (by first | exact mo0 hM_q | exact mo1 hM_q | exact mo6 hM_q | exact mo7 hM_q | exact mo8 hM_q | exact mo2 hM_q | exact mo3 hM_q | exact mo4 hM_q | exact mo5 hM_q | exact mo9 hM_q | exact mo10 hM_q | exact mo11 hM_q | exact mo12 hM_q | exact mo13 hM_q | exact mo14 hM_q | exact mo15 hM_q | exact mo16 hM_q) rfl) dX8_king_19 (sp_fails (k := k - 1) hM_q _) (fun v_19 σ n h => ?_)
    obtain ⟨rfl, rfl, A1, hM_q, hA1, hf1⟩ := h
    have hA_q := eqx.tr (L := [6, 7, 8, 9, 10, 11, 12, 13]) (by repeat (first | assumption | exact eqx.rf | refine eqx.up ?_ (by decide))) (hA1.wk (by decide))
    have hf_q := hf_q.tr hf1
    exact go_iretI (pc := 22) rfl dX8_king_22 (Nat.le_of_ble_eq_true rfl) (Nat.le_of_ble_eq_true rfl) ⟨(by simp [aKing, hz_q]), rfl, _, _, hM_q, ⟨(by simp [upd, aKing, hz_q]), fun j h1 h2 h3 => by simp [upd, h1, h2, h3]⟩, (by repeat (first | assumption | exact eqx.rf | refine eqx.up ?_ (by decide))), hf_q⟩
  | some j1_q =>
    have hz1 := rN_some hz_q
    obtain rfl := I_nat hz1.1 (by omega)
    refine go_aload_n (pc := 0) dX8_king_0 rfl ?_
    refine go_iconst (v := 0) (pc := 1) dX8_king_1 (by decide) ?_
    refine go_mpf4 (pc := 2) hM_q dX8_king_2 (fun σ hM_q hf9 => ?_)
    have hf_q := hf_q.tr hf9
    refine go_iload_n (pc := 5) dX8_king_5 rfl ?_
    refine go_i2l (pc := 6) dX8_king_6 ?_
    refine go_lconst (v := 0) (pc := 7) dX8_king_7 rfl ?_
    refine go_ldc2 (pc := 8) kw7_236 dX8_king_8 ?_
    refine go_S3P (pc := 11) s_X8_125 rfl rfl dX8_king_11 (sp_within (k := k - 1) _ _ _) ?_
    refine go_if_ne (tgt := 23) (pc := 14) dX8_king_14 (by decide) (fun h_14 => ?_) (fun h_14 => by exfalso; rw [wi_yes hz_q (by decide) (by decide)] at h_14; exact absurd h_14 (by decide))
    refine go_aload_n (pc := 23) dX8_king_23 rfl ?_
    refine go_V0V (pc := 24) v_X8_369 rfl rfl (rcv_of (ci := 8) (by first | exact mo0 hM_q | exact mo1 hM_q | exact mo6 hM_q | exact mo7 hM_q | exact mo8 hM_q | exact mo2 hM_q | exact mo3 hM_q | exact mo4 hM_q | exact mo5 hM_q | exact mo9 hM_q | exact mo10 hM_q | exact mo11 hM_q | exact mo12 hM_q | exact mo13 hM_q | exact mo14 hM_q | exact mo15 hM_q | exact mo16 hM_q) rfl) dX8_king_24 (sp_putsAside (k := k - 1) hM_q) (fun σ n h => ?_)
    obtain ⟨rfl, A1, hM_q, hA1, hf1, hG_q⟩ := h
    have hA_q := eqx.tr (L := [6, 7, 8, 9, 10, 11, 12, 13]) (by repeat (first | assumption | exact eqx.rf | refine eqx.up ?_ (by decide))) (hA1.wk (by decide))
    have hf_q := hf_q.tr hf1
    refine go_iconst (v := 0) (pc := 27) dX8_king_27 (by decide) ?_
    refine go_istore_n (lw := [_, _, _, _]) (pc := 28) dX8_king_28 (by decide) rfl ?_
    refine go_iter (8) (fun i_q lv9 s9 n9 => ∃ A9_q, lv9 = [some (.ref r), some (.int (nI j1_q)), some (.int (nI i_q)), none] ∧ (MoAt Γ s9 r (upd F 4 0) K A9_q Nm) ∧ (eqx [6, 7, 8, 9, 10, 11, 12, 13] A A9_q) ∧ (fr r (r + 16) z0 s9) ∧ (∀ q, q < i_q → A9_q 9 q = 0) ∧ (∀ j, j < 26 → A9_q 8 j = K (8 + j)) ∧ n = n9) ⟨_, rfl, hM_q, hA_q, hf_q, (fun q hq_q => absurd hq_q (by omega)), hG_q, rfl⟩ ?_ ?_
    · rintro i_q lv9 σ n9 hi_q ⟨A9_q, rfl, hM_q, hA_q, hf_q, hT_q, hG_q, rfl⟩ ih_q
      refine go_iload_n (pc := 29) dX8_king_29 rfl ?_
      refine go_bipush (v := 8) (pc := 30) dX8_king_30 (by decide) ?_
      refine go_icmp_ge (tgt := 48) (pc := 32) dX8_king_32 (by decide) (fun h_32 => by exfalso; exact absurd h_32 (nI_ge (b := 8) (by omega) (by decide))) (fun h_32 => ?_)
      refine go_aload_n (pc := 35) dX8_king_35 rfl ?_
      refine go_getf (pc := 36) f_X8_39 dX8_king_36 (by first | exact mo0 hM_q | exact mo1 hM_q | exact mo6 hM_q | exact mo7 hM_q | exact mo8 hM_q | exact mo2 hM_q | exact mo3 hM_q | exact mo4 hM_q | exact mo5 hM_q | exact mo9 hM_q | exact mo10 hM_q | exact mo11 hM_q | exact mo12 hM_q | exact mo13 hM_q | exact mo14 hM_q | exact mo15 hM_q | exact mo16 hM_q) (by rfl) ?_
      refine go_iload_n (pc := 39) dX8_king_39 rfl ?_
      refine go_iconst (v := 0) (pc := 40) dX8_king_40 (by decide) ?_
      refine go_mst9 (pc := 41) hM_q dX8_king_41 (by exact ⟨rfl, by omega⟩) (fun σ hM_q hf9 => ?_)
      have hf_q := hf_q.tr hf9
      refine go_iinc (v := 1) (lw := [_, _, _, _]) (pc := 42) dX8_king_42 rfl (by decide) (by decide) rfl ?_
      refine go_goto (tgt := 29) (pc := 45) dX8_king_45 (by decide) ?_
      rw [nI_1]
      exact ih_q _ _ _ ⟨_, rfl, hM_q, (by repeat (first | assumption | exact eqx.rf | refine eqx.up ?_ (by decide))), hf_q, (fun q hq_q => by simp only [updA, if_true]; by_cases e : q = i_q <;> first | rw [e, pk_us] | (rw [pk_un e]; exact hT_q q (by omega))), (fun j hj_q => by simp only [updA]; exact hG_q j hj_q), rfl⟩
    · rintro lv9 σ n9 ⟨A9_q, rfl, hM_q, hA_q, hf_q, hT_q, hG_q, rfl⟩
      refine go_iload_n (pc := 29) dX8_king_29 rfl ?_
      refine go_bipush (v := 8) (pc := 30) dX8_king_30 (by decide) ?_
      refine go_icmp_ge (tgt := 48) (pc := 32) dX8_king_32 (by decide) (fun h_32 => ?_) (fun h_32 => by exfalso; exact h_32 (by decide))
      refine go_iconst (v := 0) (pc := 48) dX8_king_48 (by decide) ?_
      refine go_istore_n (lw := [_, _, _, _]) (pc := 49) dX8_king_49 (by decide) rfl ?_
      refine go_iter (j1_q + 1) (fun i_q lv9 s9 n9 => ∃ x3_q, ∃ A9_q, lv9 = [some (.ref r), some (.int (nI j1_q)), some (.int (nI i_q)), x3_q] ∧ (MoAt Γ s9 r (upd F 4 0) (goK i_q K) A9_q Nm) ∧ (eqx [6, 7, 8, 9, 10, 11, 12, 13] A A9_q) ∧ (fr r (r + 16) z0 s9) ∧ (∀ q, q < kP K → A9_q 9 q = talK i_q K q) ∧ (∀ j, j < 26 → A9_q 8 j = K (8 + j)) ∧ n = n9) ⟨_, _, rfl, hM_q, hA_q, hf_q, (fun q hq_q => by rw [hT_q q (by omega)]; rfl), hG_q, rfl⟩ ?_ ?_
      · rintro i_q lv9 σ n9 hi_q ⟨x3_q, A9_q, rfl, hM_q, hA_q, hf_q, hT_q, hG_q, rfl⟩ ih_q
        have hS_q : sameB K (goK i_q K) := goK_same (by omega)
        have hB9_q := hS_q.okB hB_q
        have hv9_q : vS (goK i_q K) := vS_go hv_q (by omega) (by omega)
        have eP_q := hS_q.P
        refine go_iload_n (pc := 50) dX8_king_50 rfl ?_
        refine go_iload_n (pc := 51) dX8_king_51 rfl ?_
        refine go_icmp_gt (tgt := 107) (pc := 52) dX8_king_52 (by decide) (fun h_52 => by exfalso; exact absurd h_52 (nI_nlt (by omega) (by omega))) (fun h_52 => ?_)
        refine go_iconst (v := 0) (pc := 55) dX8_king_55 (by decide) ?_
        refine go_istore_n (lw := [_, _, _, _]) (pc := 56) dX8_king_56 (by decide) rfl ?_
        refine go_iter (kP K) (fun i2_q lv9 s9 n9 => ∃ A9_q, lv9 = [some (.ref r), some (.int (nI j1_q)), some (.int (nI i_q)), some (.int (nI i2_q))] ∧ (MoAt Γ s9 r (upd F 4 0) (goK i_q K) A9_q Nm) ∧ (eqx [6, 7, 8, 9, 10, 11, 12, 13] A A9_q) ∧ (fr r (r + 16) z0 s9) ∧ (∀ q, q < kP K → A9_q 9 q = if q < i2_q then talK (i_q + 1) K q else talK i_q K q) ∧ (∀ j, j < 26 → A9_q 8 j = K (8 + j)) ∧ n = n9) ⟨_, rfl, hM_q, hA_q, hf_q, (fun q hq_q => by rw [hT_q q hq_q, if_neg (by omega)]), hG_q, rfl⟩ ?_ ?_
        · rintro i2_q lv9 σ n9 hi2_q ⟨A9_q, rfl, hM_q, hA_q, hf_q, hT_q, hG_q, rfl⟩ ih2_q
          refine go_iload_n (pc := 57) dX8_king_57 rfl ?_
          refine go_aload_n (pc := 58) dX8_king_58 rfl ?_
          refine go_V0P (pc := 59) v_X8_242 rfl rfl (rcv_of (ci := 8) (by first | exact mo0 hM_q | exact mo1 hM_q | exact mo6 hM_q | exact mo7 hM_q | exact mo8 hM_q | exact mo2 hM_q | exact mo3 hM_q | exact mo4 hM_q | exact mo5 hM_q | exact mo9 hM_q | exact mo10 hM_q | exact mo11 hM_q | exact mo12 hM_q | exact mo13 hM_q | exact mo14 hM_q | exact mo15 hM_q | exact mo16 hM_q) rfl) dX8_king_59 (sp_people (k := k - 1) hM_q) ?_
          rw [hB9_q.1.1, eP_q]
          refine go_icmp_ge (tgt := 97) (pc := 62) dX8_king_62 (by decide) (fun h_62 => by exfalso; exact absurd h_62 (nI_ge (by omega) (by omega))) (fun h_62 => ?_)
          refine go_aload_n (pc := 65) dX8_king_65 rfl ?_
          refine go_getf (pc := 66) f_X8_39 dX8_king_66 (by first | exact mo0 hM_q | exact mo1 hM_q | exact mo6 hM_q | exact mo7 hM_q | exact mo8 hM_q | exact mo2 hM_q | exact mo3 hM_q | exact mo4 hM_q | exact mo5 hM_q | exact mo9 hM_q | exact mo10 hM_q | exact mo11 hM_q | exact mo12 hM_q | exact mo13 hM_q | exact mo14 hM_q | exact mo15 hM_q | exact mo16 hM_q) (by rfl) ?_
          refine go_iload_n (pc := 69) dX8_king_69 rfl ?_
          refine go_dup2 (pc := 70) dX8_king_70 rfl rfl ?_
          refine go_iald (pc := 71) dX8_king_71 (by first | exact mo0 hM_q | exact mo1 hM_q | exact mo6 hM_q | exact mo7 hM_q | exact mo8 hM_q | exact mo2 hM_q | exact mo3 hM_q | exact mo4 hM_q | exact mo5 hM_q | exact mo9 hM_q | exact mo10 hM_q | exact mo11 hM_q | exact mo12 hM_q | exact mo13 hM_q | exact mo14 hM_q | exact mo15 hM_q | exact mo16 hM_q) (by exact ⟨rfl, by omega⟩) ?_
          refine go_aload_n (pc := 72) dX8_king_72 rfl ?_
          refine go_getf (pc := 73) f_X8_9 dX8_king_73 (by first | exact mo0 hM_q | exact mo1 hM_q | exact mo6 hM_q | exact mo7 hM_q | exact mo8 hM_q | exact mo2 hM_q | exact mo3 hM_q | exact mo4 hM_q | exact mo5 hM_q | exact mo9 hM_q | exact mo10 hM_q | exact mo11 hM_q | exact mo12 hM_q | exact mo13 hM_q | exact mo14 hM_q | exact mo15 hM_q | exact mo16 hM_q) (by rfl) ?_
          refine go_bipush (v := 16) (pc := 76) dX8_king_76 (by decide) ?_
          refine go_iload_n (pc := 78) dX8_king_78 rfl ?_
          refine go_iadd (pc := 79) dX8_king_79 ?_
          refine go_iald (pc := 80) dX8_king_80 (by first | exact mo0 hM_q | exact mo1 hM_q | exact mo6 hM_q | exact mo7 hM_q | exact mo8 hM_q | exact mo2 hM_q | exact mo3 hM_q | exact mo4 hM_q | exact mo5 hM_q | exact mo9 hM_q | exact mo10 hM_q | exact mo11 hM_q | exact mo12 hM_q | exact mo13 hM_q | exact mo14 hM_q | exact mo15 hM_q | exact mo16 hM_q) (by exact ⟨nI_add 16 _, by omega⟩) ?_
          refine go_if_ne (tgt := 88) (pc := 81) dX8_king_81 (by decide) (fun h_81 => ?_) (fun h_81 => ?_)
          · refine go_iconst (v := 0) (pc := 88) dX8_king_88 (by decide) ?_
            refine go_iadd (pc := 89) dX8_king_89 ?_
            refine go_mst9 (pc := 90) hM_q dX8_king_90 (by exact ⟨rfl, by omega⟩) (fun σ hM_q hf9 => ?_)
            have hf_q := hf_q.tr hf9
            refine go_iinc (v := 1) (lw := [_, _, _, _]) (pc := 91) dX8_king_91 rfl (by decide) (by decide) rfl ?_
            refine go_goto (tgt := 57) (pc := 94) dX8_king_94 (by decide) ?_
            rw [nI_1]
            exact ih2_q _ _ _ ⟨_, rfl, hM_q, (by repeat (first | assumption | exact eqx.rf | refine eqx.up ?_ (by decide))), hf_q, (fun q hq_q => by simp only [updA, if_true]; by_cases e : q = i2_q <;> first | (rw [e, pk_us, hT_q i2_q hi2_q, if_neg (by omega), if_pos (by omega)]; simp [talK, h_81]) | (rw [pk_un e, hT_q q hq_q]; by_cases e2 : q < i2_q <;> first | rw [if_pos e2, if_pos (by omega)] | rw [if_neg e2, if_neg (by omega)])), (fun j hj_q => by simp only [updA]; exact hG_q j hj_q), rfl⟩
          · refine go_iconst (v := 1) (pc := 84) dX8_king_84 (by decide) ?_
            refine go_goto (tgt := 89) (pc := 85) dX8_king_85 (by decide) ?_
            refine go_iadd (pc := 89) dX8_king_89 ?_
            refine go_mst9 (pc := 90) hM_q dX8_king_90 (by exact ⟨rfl, by omega⟩) (fun σ hM_q hf9 => ?_)
            have hf_q := hf_q.tr hf9
            refine go_iinc (v := 1) (lw := [_, _, _, _]) (pc := 91) dX8_king_91 rfl (by decide) (by decide) rfl ?_
            refine go_goto (tgt := 57) (pc := 94) dX8_king_94 (by decide) ?_
            rw [nI_1]
            exact ih2_q _ _ _ ⟨_, rfl, hM_q, (by repeat (first | assumption | exact eqx.rf | refine eqx.up ?_ (by decide))), hf_q, (fun q hq_q => by simp only [updA, if_true]; by_cases e : q = i2_q <;> first | (rw [e, pk_us, hT_q i2_q hi2_q, if_neg (by omega), if_pos (by omega)]; simp [talK, h_81]) | (rw [pk_un e, hT_q q hq_q]; by_cases e2 : q < i2_q <;> first | rw [if_pos e2, if_pos (by omega)] | rw [if_neg e2, if_neg (by omega)])), (fun j hj_q => by simp only [updA]; exact hG_q j hj_q), rfl⟩
        · rintro lv9 σ n9 ⟨A9_q, rfl, hM_q, hA_q, hf_q, hT_q, hG_q, rfl⟩
          refine go_iload_n (pc := 57) dX8_king_57 rfl ?_
          refine go_aload_n (pc := 58) dX8_king_58 rfl ?_
          refine go_V0P (pc := 59) v_X8_242 rfl rfl (rcv_of (ci := 8) (by first | exact mo0 hM_q | exact mo1 hM_q | exact mo6 hM_q | exact mo7 hM_q | exact mo8 hM_q | exact mo2 hM_q | exact mo3 hM_q | exact mo4 hM_q | exact mo5 hM_q | exact mo9 hM_q | exact mo10 hM_q | exact mo11 hM_q | exact mo12 hM_q | exact mo13 hM_q | exact mo14 hM_q | exact mo15 hM_q | exact mo16 hM_q) rfl) dX8_king_59 (sp_people (k := k - 1) hM_q) ?_
          rw [hB9_q.1.1, eP_q]
          refine go_icmp_ge (tgt := 97) (pc := 62) dX8_king_62 (by decide) (fun h_62 => ?_) (fun h_62 => by exfalso; exact h_62 (nI_le (by omega) (by omega)))
          refine go_aload_n (pc := 97) dX8_king_97 rfl ?_
          refine go_V0V (pc := 98) v_X8_345 rfl rfl (rcv_of (ci := 8) (by first | exact mo0 hM_q | exact mo1 hM_q | exact mo6 hM_q | exact mo7 hM_q | exact mo8 hM_q | exact mo2 hM_q | exact mo3 hM_q | exact mo4 hM_q | exact mo5 hM_q | exact mo9 hM_q | exact mo10 hM_q | exact mo11 hM_q | exact mo12 hM_q | exact mo13 hM_q | exact mo14 hM_q | exact mo15 hM_q | exact mo16 hM_q) rfl) dX8_king_98 (sp_minute (k := k - 1) hM_q (by omega) hB9_q hv9_q) (fun σ n h => ?_)
          obtain ⟨rfl, A1, hM_q, hA1, hf1⟩ := h
          have hA_q := eqx.tr (L := [6, 7, 8, 9, 10, 11, 12, 13]) (by repeat (first | assumption | exact eqx.rf | refine eqx.up ?_ (by decide))) (hA1.wk (by decide))
          have hf_q := hf_q.tr hf1
          rw [← goK_s] at hM_q
          have hG_q : ∀ j, j < 26 → A1 8 j = K (8 + j) := fun j hj_q => by rw [hA1 8 (by decide)]; exact hG_q j hj_q
          refine go_iinc (v := 1) (lw := [_, _, _, _]) (pc := 101) dX8_king_101 rfl (by decide) (by decide) rfl ?_
          refine go_goto (tgt := 50) (pc := 104) dX8_king_104 (by decide) ?_
          rw [nI_1]
          exact ih_q _ _ _ ⟨_, _, rfl, hM_q, hA_q, hf_q, (fun q hq_q => by rw [hA1 9 (by decide), hT_q q hq_q, if_pos (by omega)]), hG_q, rfl⟩
      · rintro lv9 σ n9 ⟨x3_q, A9_q, rfl, hM_q, hA_q, hf_q, hT_q, hG_q, rfl⟩
        refine go_iload_n (pc := 50) dX8_king_50 rfl ?_
        refine go_iload_n (pc := 51) dX8_king_51 rfl ?_
        refine go_icmp_gt (tgt := 107) (pc := 52) dX8_king_52 (by decide) (fun h_52 => ?_) (fun h_52 => by exfalso; exact h_52 (nI_lt (by omega) (by omega)))
        refine go_aload_n (pc := 107) dX8_king_107 rfl ?_
        refine go_V0V (pc := 108) v_X8_381 rfl rfl (rcv_of (ci := 8) (by first | exact mo0 hM_q | exact mo1 hM_q | exact mo6 hM_q | exact mo7 hM_q | exact mo8 hM_q | exact mo2 hM_q | exact mo3 hM_q | exact mo4 hM_q | exact mo5 hM_q | exact mo9 hM_q | exact mo10 hM_q | exact mo11 hM_q | exact mo12 hM_q | exact mo13 hM_q | exact mo14 hM_q | exact mo15 hM_q | exact mo16 hM_q) rfl) dX8_king_108 (sp_putsBack (k := k - 1) hM_q) (fun σ n h => ?_)
        obtain ⟨rfl, A1, hM_q, hA1, hf1⟩ := h
        have hA_q := eqx.tr (L := [6, 7, 8, 9, 10, 11, 12, 13]) (by repeat (first | assumption | exact eqx.rf | refine eqx.up ?_ (by decide))) (hA1.wk (by decide))
        have hf_q := hf_q.tr hf1
        rw [setS_back (goK_same (by omega)) hG_q] at hM_q
        refine go_iconst (v := -1) (pc := 111) dX8_king_111 (by decide) ?_
        refine go_istore_n (lw := [_, _, _, _]) (pc := 112) dX8_king_112 (by decide) rfl ?_
        refine go_iconst (v := 0) (pc := 113) dX8_king_113 (by decide) ?_
        refine go_istore_n (lw := [_, _, _, _]) (pc := 114) dX8_king_114 (by decide) rfl ?_
        refine go_iter (kP K) (fun i_q lv9 s9 n9 => ∃ (b9_q : Int32), ∃ (x9_q : Int32), ∃ A9_q, lv9 = [some (.ref r), some (.int (nI j1_q)), some (.int b9_q), some (.int (nI i_q))] ∧ (MoAt Γ s9 r (upd F 4 0) K A9_q Nm) ∧ (eqx [6, 7, 8, 9, 10, 11, 12, 13] A A9_q) ∧ (fr r (r + 16) z0 s9) ∧ (∀ q, q < kP K → A9_q 9 q = talK (j1_q + 1) K q) ∧ ((b9_q = -1 ∧ x9_q = 0) ∨ ∃ q, q < kP K ∧ b9_q = nI q ∧ x9_q = talK (j1_q + 1) K q) ∧ (argm (talK (j1_q + 1) K) (kP K - i_q) i_q b9_q x9_q = argm (talK (j1_q + 1) K) (kP K) 0 (-1) 0) ∧ n = n9) ⟨(-1), 0, _, rfl, hM_q, hA_q, hf_q, (fun q hq_q => by rw [hA1 9 (by decide)]; exact hT_q q hq_q), (Or.inl ⟨rfl, rfl⟩), rfl, rfl⟩ ?_ ?_
        · rintro i_q lv9 σ n9 hi_q ⟨b9_q, x9_q, A9_q, rfl, hM_q, hA_q, hf_q, hT_q, hb_q, hR_q, rfl⟩ ih_q
          refine go_iload_n (pc := 115) dX8_king_115 rfl ?_
          refine go_aload_n (pc := 116) dX8_king_116 rfl ?_
          refine go_V0P (pc := 117) v_X8_242 rfl rfl (rcv_of (ci := 8) (by first | exact mo0 hM_q | exact mo1 hM_q | exact mo6 hM_q | exact mo7 hM_q | exact mo8 hM_q | exact mo2 hM_q | exact mo3 hM_q | exact mo4 hM_q | exact mo5 hM_q | exact mo9 hM_q | exact mo10 hM_q | exact mo11 hM_q | exact mo12 hM_q | exact mo13 hM_q | exact mo14 hM_q | exact mo15 hM_q | exact mo16 hM_q) rfl) dX8_king_117 (sp_people (k := k - 1) hM_q) ?_
          rw [hB_q.1.1]
          refine go_icmp_ge (tgt := 155) (pc := 120) dX8_king_120 (by decide) (fun h_120 => by exfalso; exact absurd h_120 (nI_ge (by omega) (by omega))) (fun h_120 => ?_)
          refine go_aload_n (pc := 123) dX8_king_123 rfl ?_
          refine go_getf (pc := 124) f_X8_39 dX8_king_124 (by first | exact mo0 hM_q | exact mo1 hM_q | exact mo6 hM_q | exact mo7 hM_q | exact mo8 hM_q | exact mo2 hM_q | exact mo3 hM_q | exact mo4 hM_q | exact mo5 hM_q | exact mo9 hM_q | exact mo10 hM_q | exact mo11 hM_q | exact mo12 hM_q | exact mo13 hM_q | exact mo14 hM_q | exact mo15 hM_q | exact mo16 hM_q) (by rfl) ?_
          refine go_iload_n (pc := 127) dX8_king_127 rfl ?_
          refine go_iald (pc := 128) dX8_king_128 (by first | exact mo0 hM_q | exact mo1 hM_q | exact mo6 hM_q | exact mo7 hM_q | exact mo8 hM_q | exact mo2 hM_q | exact mo3 hM_q | exact mo4 hM_q | exact mo5 hM_q | exact mo9 hM_q | exact mo10 hM_q | exact mo11 hM_q | exact mo12 hM_q | exact mo13 hM_q | exact mo14 hM_q | exact mo15 hM_q | exact mo16 hM_q) (by exact ⟨rfl, by omega⟩) ?_
          refine go_iload_n (pc := 129) dX8_king_129 rfl ?_
          refine go_iconst (v := -1) (pc := 130) dX8_king_130 (by decide) ?_
          refine go_icmp_ne (tgt := 138) (pc := 131) dX8_king_131 (by decide) (fun h_131 => ?_) (fun h_131 => ?_)
          · obtain ⟨q9_q, hq9, rfl, rfl⟩ := hb_q.resolve_left (fun hc_q => h_131 hc_q.1)
            refine go_aload_n (pc := 138) dX8_king_138 rfl ?_
            refine go_getf (pc := 139) f_X8_39 dX8_king_139 (by first | exact mo0 hM_q | exact mo1 hM_q | exact mo6 hM_q | exact mo7 hM_q | exact mo8 hM_q | exact mo2 hM_q | exact mo3 hM_q | exact mo4 hM_q | exact mo5 hM_q | exact mo9 hM_q | exact mo10 hM_q | exact mo11 hM_q | exact mo12 hM_q | exact mo13 hM_q | exact mo14 hM_q | exact mo15 hM_q | exact mo16 hM_q) (by rfl) ?_
            refine go_iload_n (pc := 142) dX8_king_142 rfl ?_
            refine go_iald (pc := 143) dX8_king_143 (by first | exact mo0 hM_q | exact mo1 hM_q | exact mo6 hM_q | exact mo7 hM_q | exact mo8 hM_q | exact mo2 hM_q | exact mo3 hM_q | exact mo4 hM_q | exact mo5 hM_q | exact mo9 hM_q | exact mo10 hM_q | exact mo11 hM_q | exact mo12 hM_q | exact mo13 hM_q | exact mo14 hM_q | exact mo15 hM_q | exact mo16 hM_q) (by exact ⟨rfl, by omega⟩) ?_
            rw [hT_q i_q hi_q]
            try rw [hT_q q9_q hq9]
            refine go_icmp_le (tgt := 149) (pc := 144) dX8_king_144 (by decide) (fun h_144 => ?_) (fun h_144 => ?_)
            · refine go_iinc (v := 1) (lw := [_, _, _, _]) (pc := 149) dX8_king_149 rfl (by decide) (by decide) rfl ?_
              refine go_goto (tgt := 115) (pc := 152) dX8_king_152 (by decide) ?_
              rw [nI_1]
              first | exact ih_q _ _ _ ⟨_, _, _, rfl, hM_q, hA_q, hf_q, hT_q, hb_q, (by rw [← hR_q, argm_step hi_q, if_neg (Int32.not_lt.mpr h_144)]), rfl⟩ | exact ih_q _ _ _ ⟨_, talK (j1_q + 1) K i_q, _, rfl, hM_q, hA_q, hf_q, hT_q, Or.inr ⟨i_q, hi_q, rfl, rfl⟩, (by rw [← hR_q, argm_step hi_q, if_pos (Int32.not_le.mp h_144)]), rfl⟩
            · refine go_iload_n (pc := 147) dX8_king_147 rfl ?_
              refine go_istore_n (lw := [_, _, _, _]) (pc := 148) dX8_king_148 (by decide) rfl ?_
              refine go_iinc (v := 1) (lw := [_, _, _, _]) (pc := 149) dX8_king_149 rfl (by decide) (by decide) rfl ?_
              refine go_goto (tgt := 115) (pc := 152) dX8_king_152 (by decide) ?_
              rw [nI_1]
              first | exact ih_q _ _ _ ⟨_, _, _, rfl, hM_q, hA_q, hf_q, hT_q, hb_q, (by rw [← hR_q, argm_step hi_q, if_neg (Int32.not_lt.mpr h_144)]), rfl⟩ | exact ih_q _ _ _ ⟨_, talK (j1_q + 1) K i_q, _, rfl, hM_q, hA_q, hf_q, hT_q, Or.inr ⟨i_q, hi_q, rfl, rfl⟩, (by rw [← hR_q, argm_step hi_q, if_pos (Int32.not_le.mp h_144)]), rfl⟩
          · obtain rfl : x9_q = 0 := hb_q.elim (fun e => e.2) (fun ⟨q9_q, hq9, e, _⟩ => by rw [e] at h_131; exact absurd h_131 (nI_ne1 (by omega)))
            refine go_iconst (v := 0) (pc := 134) dX8_king_134 (by decide) ?_
            refine go_goto (tgt := 144) (pc := 135) dX8_king_135 (by decide) ?_
            rw [hT_q i_q hi_q]
            try rw [hT_q q9_q hq9]
            refine go_icmp_le (tgt := 149) (pc := 144) dX8_king_144 (by decide) (fun h_144 => ?_) (fun h_144 => ?_)
            · refine go_iinc (v := 1) (lw := [_, _, _, _]) (pc := 149) dX8_king_149 rfl (by decide) (by decide) rfl ?_
              refine go_goto (tgt := 115) (pc := 152) dX8_king_152 (by decide) ?_
              rw [nI_1]
              first | exact ih_q _ _ _ ⟨_, _, _, rfl, hM_q, hA_q, hf_q, hT_q, hb_q, (by rw [← hR_q, argm_step hi_q, if_neg (Int32.not_lt.mpr h_144)]), rfl⟩ | exact ih_q _ _ _ ⟨_, talK (j1_q + 1) K i_q, _, rfl, hM_q, hA_q, hf_q, hT_q, Or.inr ⟨i_q, hi_q, rfl, rfl⟩, (by rw [← hR_q, argm_step hi_q, if_pos (Int32.not_le.mp h_144)]), rfl⟩
            · refine go_iload_n (pc := 147) dX8_king_147 rfl ?_
              refine go_istore_n (lw := [_, _, _, _]) (pc := 148) dX8_king_148 (by decide) rfl ?_
              refine go_iinc (v := 1) (lw := [_, _, _, _]) (pc := 149) dX8_king_149 rfl (by decide) (by decide) rfl ?_
              refine go_goto (tgt := 115) (pc := 152) dX8_king_152 (by decide) ?_
              rw [nI_1]
              first | exact ih_q _ _ _ ⟨_, _, _, rfl, hM_q, hA_q, hf_q, hT_q, hb_q, (by rw [← hR_q, argm_step hi_q, if_neg (Int32.not_lt.mpr h_144)]), rfl⟩ | exact ih_q _ _ _ ⟨_, talK (j1_q + 1) K i_q, _, rfl, hM_q, hA_q, hf_q, hT_q, Or.inr ⟨i_q, hi_q, rfl, rfl⟩, (by rw [← hR_q, argm_step hi_q, if_pos (Int32.not_le.mp h_144)]), rfl⟩
        · rintro lv9 σ n9 ⟨b9_q, x9_q, A9_q, rfl, hM_q, hA_q, hf_q, hT_q, hb_q, hR_q, rfl⟩
          refine go_iload_n (pc := 115) dX8_king_115 rfl ?_
          refine go_aload_n (pc := 116) dX8_king_116 rfl ?_
          refine go_V0P (pc := 117) v_X8_242 rfl rfl (rcv_of (ci := 8) (by first | exact mo0 hM_q | exact mo1 hM_q | exact mo6 hM_q | exact mo7 hM_q | exact mo8 hM_q | exact mo2 hM_q | exact mo3 hM_q | exact mo4 hM_q | exact mo5 hM_q | exact mo9 hM_q | exact mo10 hM_q | exact mo11 hM_q | exact mo12 hM_q | exact mo13 hM_q | exact mo14 hM_q | exact mo15 hM_q | exact mo16 hM_q) rfl) dX8_king_117 (sp_people (k := k - 1) hM_q) ?_
          rw [hB_q.1.1]
          refine go_icmp_ge (tgt := 155) (pc := 120) dX8_king_120 (by decide) (fun h_120 => ?_) (fun h_120 => by exfalso; exact h_120 (nI_le (by omega) (by omega)))
          refine go_iload_n (pc := 155) dX8_king_155 rfl ?_
          exact go_iretI (pc := 156) rfl dX8_king_156 (Nat.le_of_ble_eq_true rfl) (Nat.le_of_ble_eq_true rfl) ⟨(by simp only [aKing, hz_q]; rw [Nat.sub_self] at hR_q; exact hR_q), rfl, _, _, hM_q, ⟨(by simp [upd, aKing, hz_q]), fun j h1 h2 h3 => by simp [upd, h1, h2, h3]⟩, (by repeat (first | assumption | exact eqx.rf | refine eqx.up ?_ (by decide))), hf_q⟩
