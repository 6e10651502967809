/-! ===== the reference: whom to have rise ===== -/
theorem sp_stir {Γ : gam} {z0 : sto} {n k r : Nat} {F K : row} {A : Nat → row} {Nm : Nat → Int64} (hM_q : MoAt Γ z0 r F K A Nm) (hk : 14 ≤ k) (hB_q : okB K) (hv_q : vS K)  : Sp Γ (rmk k 0 0) uX8_stir [.ref r] z0 n (qI fun v σ' n' => v = (aStir K) ∧ apJ Γ r F K A Nm z0 n 0 σ' n') := by
  have hP8 := hB_q.1.2.1
  have hH5 := hB_q.1.2.2.2.1
  have hW4 := hB_q.1.2.2.2.2.2
  have hA_q : eqx [6, 7, 8, 9, 10, 11, 12, 13] A A := eqx.rf
  have hf_q : fr r (r + 16) z0 z0 := fr.rf
  refine sp_intro [some (.ref r), none, none, none, none] (by decide +kernel) rfl (Nat.le_of_ble_eq_true rfl) rfl ?_
  refine go_aload_n (pc := 0) dX8_stir_0 rfl ?_
  refine go_iconst (v := 0) (pc := 1) dX8_stir_1 (by decide) ?_
  refine go_mpf4 (pc := 2) hM_q dX8_stir_2 (fun σ hM_q hf9 => ?_)
  have hf_q := hf_q.tr hf9
  refine go_iconst (v := -1) (pc := 5) dX8_stir_5 (by decide) ?_
  refine go_istore_n (lw := [_, _, _, _, _]) (pc := 6) dX8_stir_6 (by decide) rfl ?_
  refine go_iconst (v := 0) (pc := 7) dX8_stir_7 (by decide) ?_
  refine go_istore_n (lw := [_, _, _, _, _]) (pc := 8) dX8_stir_8 (by decide) rfl ?_
  refine go_aload_n (pc := 9) dX8_stir_9 rfl ?_
  refine go_V0V (pc := 10) v_X8_369 rfl rfl (rcv_of (ci := 8) (by first | exact mo0 hM_q | exact mo1 hM_q | exact mo6 hM_q | exact mo7 hM_q | exact mo8 hM_q | exact mo2 hM_q | exact mo3 hM_q | exact mo4 hM_q | exact mo5 hM_q | exact mo9 hM_q | exact mo10 hM_q | exact mo11 hM_q | exact mo12 hM_q | exact mo13 hM_q | exact mo14 hM_q | exact mo15 hM_q | exact mo16 hM_q) rfl) dX8_stir_10 (sp_putsAside (k := k - 1) hM_q) (fun σ n h_q => ?_)
  obtain ⟨rfl, A1, hM_q, hA1, hf1, hG_q⟩ := h_q
  have hA_q := eqx.tr (L := [6, 7, 8, 9, 10, 11, 12, 13]) (by repeat (first | assumption | exact eqx.rf | refine eqx.up ?_ (by decide))) (hA1.wk (by decide))
  have hf_q := hf_q.tr hf1
  refine go_iconst (v := 0) (pc := 13) dX8_stir_13 (by decide) ?_
  refine go_istore_n (lw := [_, _, _, _, _]) (pc := 14) dX8_stir_14 (by decide) rfl ?_
  refine go_iter (kP K) (fun i_q lv9 s9 n9 => ∃ (b9_q : Int32), ∃ (x9_q : Int32), ∃ x4_q, ∃ A9_q, lv9 = [some (.ref r), some (.int b9_q), some (.int x9_q), some (.int (nI i_q)), x4_q] ∧ (MoAt Γ s9 r (upd F 4 0) K A9_q Nm) ∧ (eqx [6, 7, 8, 9, 10, 11, 12, 13] A A9_q) ∧ (fr r (r + 16) z0 s9) ∧ (∀ j, j < 26 → A9_q 8 j = K (8 + j)) ∧ (0 ≤ x9_q) ∧ (argm (stirF K) (kP K - i_q) i_q b9_q x9_q = aStir K) ∧ n = n9) ⟨(-1), 0, none, _, rfl, hM_q, hA_q, hf_q, hG_q, (by decide), rfl, rfl⟩ ?_ ?_
  · rintro i_q lv9 σ n9 hi_q ⟨b9_q, x9_q, x4_q, A9_q, rfl, hM_q, hA_q, hf_q, hG_q, hx_q, hR_q, rfl⟩ ih_q
    refine go_iload_n (pc := 15) dX8_stir_15 rfl ?_
    refine go_aload_n (pc := 16) dX8_stir_16 rfl ?_
    refine go_V0P (pc := 17) v_X8_242 rfl rfl (rcv_of (ci := 8) (by first | exact mo0 hM_q | exact mo1 hM_q | exact mo6 hM_q | exact mo7 hM_q | exact mo8 hM_q | exact mo2 hM_q | exact mo3 hM_q | exact mo4 hM_q | exact mo5 hM_q | exact mo9 hM_q | exact mo10 hM_q | exact mo11 hM_q | exact mo12 hM_q | exact mo13 hM_q | exact mo14 hM_q | exact mo15 hM_q | exact mo16 hM_q) rfl) dX8_stir_17 (sp_people (k := k - 1) hM_q) ?_
    rw [hB_q.1.1]
    refine go_icmp_ge (tgt := 67) (pc := 20) dX8_stir_20 (by decide) (fun h_20 => by exfalso; exact absurd h_20 (nI_ge (by omega) (by omega))) (fun h_20 => ?_)
    refine go_aload_n (pc := 23) dX8_stir_23 rfl ?_
    refine go_iload_n (pc := 24) dX8_stir_24 rfl ?_
    refine go_i2l (pc := 25) dX8_stir_25 ?_
    refine go_V1P (pc := 26) v_X8_324 rfl rfl (rcv_of (ci := 8) (by first | exact mo0 hM_q | exact mo1 hM_q | exact mo6 hM_q | exact mo7 hM_q | exact mo8 hM_q | exact mo2 hM_q | exact mo3 hM_q | exact mo4 hM_q | exact mo5 hM_q | exact mo9 hM_q | exact mo10 hM_q | exact mo11 hM_q | exact mo12 hM_q | exact mo13 hM_q | exact mo14 hM_q | exact mo15 hM_q | exact mo16 hM_q) rfl) dX8_stir_26 (sp_whyRise (k := k - 1) hM_q (by omega) hB_q _) ?_
    rw [Int32.toInt_toInt64, nI_toInt (by omega)]
    refine go_if_eq (tgt := 35) (pc := 29) dX8_stir_29 (by decide) (fun h_29 => ?_) (fun h_29 => ?_)
    · refine go_aload_n (pc := 35) dX8_stir_35 rfl ?_
      refine go_iload_n (pc := 36) dX8_stir_36 rfl ?_
      refine go_iconst (v := -1) (pc := 37) dX8_stir_37 (by decide) ?_
      obtain ⟨q9_q, hq9, hu, -⟩ := whyR_0 h_29
      obtain rfl : i_q = q9_q := by have := (pN_some hq9).1; omega
      refine go_V2I (pc := 38) v_X8_302 rfl rfl (rcv_of (ci := 8) (by first | exact mo0 hM_q | exact mo1 hM_q | exact mo6 hM_q | exact mo7 hM_q | exact mo8 hM_q | exact mo2 hM_q | exact mo3 hM_q | exact mo4 hM_q | exact mo5 hM_q | exact mo9 hM_q | exact mo10 hM_q | exact mo11 hM_q | exact mo12 hM_q | exact mo13 hM_q | exact mo14 hM_q | exact mo15 hM_q | exact mo16 hM_q) rfl) dX8_stir_38 (sp_rises (k := k - 1) hM_q (by omega) hB_q hv_q (by omega) hu _) (fun v_38 σ n h_q => ?_)
      obtain ⟨rfl, rfl, A1, hM_q, hA1, hf1⟩ := h_q
      have hA_q := eqx.tr (L := [6, 7, 8, 9, 10, 11, 12, 13]) (by repeat (first | assumption | exact eqx.rf | refine eqx.up ?_ (by decide))) (hA1.wk (by decide))
      have hf_q := hf_q.tr hf1
      have hG_q : ∀ j, j < 26 → A1 8 j = K (8 + j) := fun j hj_q => by rw [hA1 8 (by decide)]; exact hG_q j hj_q
      refine go_istore (lw := [_, _, _, _, _]) (pc := 41) dX8_stir_41 (by decide) rfl ?_
      refine go_aload_n (pc := 43) dX8_stir_43 rfl ?_
      refine go_V0V (pc := 44) v_X8_381 rfl rfl (rcv_of (ci := 8) (by first | exact mo0 hM_q | exact mo1 hM_q | exact mo6 hM_q | exact mo7 hM_q | exact mo8 hM_q | exact mo2 hM_q | exact mo3 hM_q | exact mo4 hM_q | exact mo5 hM_q | exact mo9 hM_q | exact mo10 hM_q | exact mo11 hM_q | exact mo12 hM_q | exact mo13 hM_q | exact mo14 hM_q | exact mo15 hM_q | exact mo16 hM_q) rfl) dX8_stir_44 (sp_putsBack (k := k - 1) hM_q) (fun σ n h_q => ?_)
      obtain ⟨rfl, A1, hM_q, hA1, hf1⟩ := h_q
      have hA_q := eqx.tr (L := [6, 7, 8, 9, 10, 11, 12, 13]) (by repeat (first | assumption | exact eqx.rf | refine eqx.up ?_ (by decide))) (hA1.wk (by decide))
      have hf_q := hf_q.tr hf1
      rw [setS_back (riseK_same (by omega) (by omega)) hG_q] at hM_q
      have hG_q : ∀ j, j < 26 → A1 8 j = K (8 + j) := fun j hj_q => by rw [hA1 8 (by decide)]; exact hG_q j hj_q
      refine go_iload (pc := 47) dX8_stir_47 rfl ?_
      refine go_iload_n (pc := 49) dX8_stir_49 rfl ?_
      refine go_icmp_gt (tgt := 56) (pc := 50) dX8_stir_50 (by decide) (fun h_50 => ?_) (fun h_50 => ?_)
      · refine go_iload_n (pc := 56) dX8_stir_56 rfl ?_
        refine go_istore_n (lw := [_, _, _, _, _]) (pc := 57) dX8_stir_57 (by decide) rfl ?_
        refine go_iload (pc := 58) dX8_stir_58 rfl ?_
        refine go_istore_n (lw := [_, _, _, _, _]) (pc := 60) dX8_stir_60 (by decide) rfl ?_
        refine go_iinc (v := 1) (lw := [_, _, _, _, _]) (pc := 61) dX8_stir_61 rfl (by decide) (by decide) rfl ?_
        refine go_goto (tgt := 15) (pc := 64) dX8_stir_64 (by decide) ?_
        rw [nI_1]
        first
          | exact ih_q _ _ _ ⟨_, _, _, _, rfl, hM_q, hA_q, hf_q, hG_q, hx_q, (by rw [← hR_q, argm_step hi_q, stirF, if_neg h_29, if_neg (Int32.not_lt.mpr hx_q)]), rfl⟩
          | exact ih_q _ _ _ ⟨_, _, _, _, rfl, hM_q, hA_q, hf_q, hG_q, hx_q, (by rw [← hR_q, argm_step hi_q, stirF, if_pos h_29, if_neg h_50]), rfl⟩
          | exact ih_q _ _ _ ⟨_, _, _, _, rfl, hM_q, hA_q, hf_q, hG_q, nI_pos' (by have := rise_cnt (K := K) (p := i_q) (s := -1) hH5; omega), (by rw [← hR_q, argm_step hi_q, stirF, if_pos h_29, if_pos h_50]), rfl⟩
      · refine go_goto (tgt := 61) (pc := 53) dX8_stir_53 (by decide) ?_
        refine go_iinc (v := 1) (lw := [_, _, _, _, _]) (pc := 61) dX8_stir_61 rfl (by decide) (by decide) rfl ?_
        refine go_goto (tgt := 15) (pc := 64) dX8_stir_64 (by decide) ?_
        rw [nI_1]
        first
          | exact ih_q _ _ _ ⟨_, _, _, _, rfl, hM_q, hA_q, hf_q, hG_q, hx_q, (by rw [← hR_q, argm_step hi_q, stirF, if_neg h_29, if_neg (Int32.not_lt.mpr hx_q)]), rfl⟩
          | exact ih_q _ _ _ ⟨_, _, _, _, rfl, hM_q, hA_q, hf_q, hG_q, hx_q, (by rw [← hR_q, argm_step hi_q, stirF, if_pos h_29, if_neg h_50]), rfl⟩
          | exact ih_q _ _ _ ⟨_, _, _, _, rfl, hM_q, hA_q, hf_q, hG_q, nI_pos' (by have := rise_cnt (K := K) (p := i_q) (s := -1) hH5; omega), (by rw [← hR_q, argm_step hi_q, stirF, if_pos h_29, if_pos h_50]), rfl⟩
    · refine go_goto (tgt := 61) (pc := 32) dX8_stir_32 (by decide) ?_
      refine go_iinc (v := 1) (lw := [_, _, _, _, _]) (pc := 61) dX8_stir_61 rfl (by decide) (by decide) rfl ?_
      refine go_goto (tgt := 15) (pc := 64) dX8_stir_64 (by decide) ?_
      rw [nI_1]
      first
        | exact ih_q _ _ _ ⟨_, _, _, _, rfl, hM_q, hA_q, hf_q, hG_q, hx_q, (by rw [← hR_q, argm_step hi_q, stirF, if_neg h_29, if_neg (Int32.not_lt.mpr hx_q)]), rfl⟩
        | exact ih_q _ _ _ ⟨_, _, _, _, rfl, hM_q, hA_q, hf_q, hG_q, hx_q, (by rw [← hR_q, argm_step hi_q, stirF, if_pos h_29, if_neg h_50]), rfl⟩
        | exact ih_q _ _ _ ⟨_, _, _, _, rfl, hM_q, hA_q, hf_q, hG_q, nI_pos' (by have := rise_cnt (K := K) (p := i_q) (s := -1) hH5; omega), (by rw [← hR_q, argm_step hi_q, stirF, if_pos h_29, if_pos h_50]), rfl⟩
  · rintro lv9 σ n9 ⟨b9_q, x9_q, x4_q, A9_q, rfl, hM_q, hA_q, hf_q, hG_q, hx_q, hR_q, rfl⟩
    refine go_iload_n (pc := 15) dX8_stir_15 rfl ?_
    refine go_aload_n (pc := 16) dX8_stir_16 rfl ?_
    refine go_V0P (pc := 17) v_X8_242 rfl rfl (rcv_of (ci := 8) (by first | exact mo0 hM_q | exact mo1 hM_q | exact mo6 hM_q | exact mo7 hM_q | exact mo8 hM_q | exact mo2 hM_q | exact mo3 hM_q | exact mo4 hM_q | exact mo5 hM_q | exact mo9 hM_q | exact mo10 hM_q | exact mo11 hM_q | exact mo12 hM_q | exact mo13 hM_q | exact mo14 hM_q | exact mo15 hM_q | exact mo16 hM_q) rfl) dX8_stir_17 (sp_people (k := k - 1) hM_q) ?_
    rw [hB_q.1.1]
    refine go_icmp_ge (tgt := 67) (pc := 20) dX8_stir_20 (by decide) (fun h_20 => ?_) (fun h_20 => by exfalso; exact h_20 (nI_le (by omega) (by omega)))
    refine go_iload_n (pc := 67) dX8_stir_67 rfl ?_
    exact go_iretI (pc := 68) rfl dX8_stir_68 (Nat.le_of_ble_eq_true rfl) (Nat.le_of_ble_eq_true rfl) ⟨(by rw [← hR_q, Nat.sub_self, argm]), rfl, _, _, hM_q, ⟨rfl, fun j h1_q h2_q h3_q => by simp [upd, h1_q, h2_q, h3_q]⟩, (by repeat (first | assumption | exact eqx.rf | refine eqx.up ?_ (by decide))), hf_q⟩
theorem oI_ne {x : Option Nat} (h_q : ¬ oI x = -1) : ∃ p, x = some p := by
  cases x with
  | none => exact absurd rfl h_q
  | some p => exact ⟨p, rfl⟩
theorem sit_m1 {K : row} {c w : Int32} (h8_q : kP K ≤ 8) : oI (sitK K c w) = -1 ↔ sitK K c w = none := oI_none fun p hp_q => by have := (sitK_lt hp_q).1; omega
theorem sp_foremost {Γ : gam} {z0 : sto} {n k r : Nat} {F K : row} {A : Nat → row} {Nm : Nat → Int64} (hM_q : MoAt Γ z0 r F K A Nm) (hk : 2 ≤ k) (hB_q : okB K) (c : Int32) : Sp Γ (rmk k 0 0) uX8_foremost [.ref r, .int c] z0 n (qP (oI (fmK K c)) z0 n) := by
  have hH5 := hB_q.1.2.2.2.1
  have hP8 := hB_q.1.2.1
  refine sp_intro [some (.ref r), some (.int c), none, none] (by decide +kernel) rfl (Nat.le_of_ble_eq_true rfl) rfl ?_
  refine go_iconst (v := 0) (pc := 0) dX8_foremost_0 (by decide) ?_
  refine go_istore_n (lw := [_, _, _, _]) (pc := 1) dX8_foremost_1 (by decide) rfl ?_
  refine go_iter (kH K) (fun i_q lv9 s9 n9 => ∃ x3_q, lv9 = [some (.ref r), some (.int c), some (.int (nI i_q)), x3_q] ∧ (∀ q, q < i_q → fmF K c q = false) ∧ (z0 = s9) ∧ n = n9) ⟨none, rfl, (fun q hq_q => absurd hq_q (by omega)), rfl, rfl⟩ ?_ ?_
  · rintro i_q lv9 σ n9 hi_q ⟨x3_q, rfl, hN_q, rfl, rfl⟩ ih_q
    refine go_iload_n (pc := 2) dX8_foremost_2 rfl ?_
    refine go_aload_n (pc := 3) dX8_foremost_3 rfl ?_
    refine go_getf (pc := 4) f_X8_9 dX8_foremost_4 (by first | exact mo0 hM_q | exact mo1 hM_q | exact mo6 hM_q | exact mo7 hM_q | exact mo8 hM_q | exact mo2 hM_q | exact mo3 hM_q | exact mo4 hM_q | exact mo5 hM_q | exact mo9 hM_q | exact mo10 hM_q | exact mo11 hM_q | exact mo12 hM_q | exact mo13 hM_q | exact mo14 hM_q | exact mo15 hM_q | exact mo16 hM_q) (by rfl) ?_
    refine go_iconst (v := 2) (pc := 7) dX8_foremost_7 (by decide) ?_
    refine go_iald (j := 2) (pc := 8) dX8_foremost_8 (by first | exact mo0 hM_q | exact mo1 hM_q | exact mo6 hM_q | exact mo7 hM_q | exact mo8 hM_q | exact mo2 hM_q | exact mo3 hM_q | exact mo4 hM_q | exact mo5 hM_q | exact mo9 hM_q | exact mo10 hM_q | exact mo11 hM_q | exact mo12 hM_q | exact mo13 hM_q | exact mo14 hM_q | exact mo15 hM_q | exact mo16 hM_q) (by exact ⟨rfl, by decide⟩) ?_
    rw [hB_q.1.2.2.1]
    refine go_icmp_ge (tgt := 40) (pc := 9) dX8_foremost_9 (by decide) (fun h_9 => by exfalso; exact absurd h_9 (nI_ge (by omega) (by omega))) (fun h_9 => ?_)
    refine go_aload_n (pc := 12) dX8_foremost_12 rfl ?_
    refine go_iload_n (pc := 13) dX8_foremost_13 rfl ?_
    refine go_iload_n (pc := 14) dX8_foremost_14 rfl ?_
    refine go_V2P (pc := 15) v_X8_280 rfl rfl (rcv_of (ci := 8) (by first | exact mo0 hM_q | exact mo1 hM_q | exact mo6 hM_q | exact mo7 hM_q | exact mo8 hM_q | exact mo2 hM_q | exact mo3 hM_q | exact mo4 hM_q | exact mo5 hM_q | exact mo9 hM_q | exact mo10 hM_q | exact mo11 hM_q | exact mo12 hM_q | exact mo13 hM_q | exact mo14 hM_q | exact mo15 hM_q | exact mo16 hM_q) rfl) dX8_foremost_15 (sp_sitter (k := k - 1) hM_q (by omega) hB_q.1 _ _) ?_
    refine go_istore_n (lw := [_, _, _, _]) (pc := 18) dX8_foremost_18 (by decide) rfl ?_
    refine go_iload_n (pc := 19) dX8_foremost_19 rfl ?_
    refine go_iconst (v := -1) (pc := 20) dX8_foremost_20 (by decide) ?_
    refine go_icmp_eq (tgt := 34) (pc := 21) dX8_foremost_21 (by decide) (fun h_21 => ?_) (fun h_21 => ?_)
    · refine go_iinc (v := 1) (lw := [_, _, _, _]) (pc := 34) dX8_foremost_34 rfl (by decide) (by decide) rfl ?_
      refine go_goto (tgt := 2) (pc := 37) dX8_foremost_37 (by decide) ?_
      rw [nI_1]
      exact ih_q _ _ _ ⟨_, rfl, (fun q hq_q => (Nat.lt_or_ge q i_q).elim (hN_q q) (fun hq2 => by
        obtain rfl : i_q = q := (by omega)
        first
          | (have hn := (sit_m1 hP8).mp h_21; simp only [fmF, hn]; done)
          | (simp only [fmF, hp9]; simpa using (fun hc_q => h_29 (bI_0.mpr hc_q)); done))), rfl, rfl⟩
    · obtain ⟨p9_q, hp9⟩ := oI_ne h_21
      have hp8 := (sitK_lt hp9).1
      rw [hp9]
      refine go_aload_n (pc := 24) dX8_foremost_24 rfl ?_
      refine go_iload_n (pc := 25) dX8_foremost_25 rfl ?_
      refine go_V1P (pc := 26) v_X8_283 rfl rfl (rcv_of (ci := 8) (by first | exact mo0 hM_q | exact mo1 hM_q | exact mo6 hM_q | exact mo7 hM_q | exact mo8 hM_q | exact mo2 hM_q | exact mo3 hM_q | exact mo4 hM_q | exact mo5 hM_q | exact mo9 hM_q | exact mo10 hM_q | exact mo11 hM_q | exact mo12 hM_q | exact mo13 hM_q | exact mo14 hM_q | exact mo15 hM_q | exact mo16 hM_q) rfl) dX8_foremost_26 (sp_isAsleep (k := k - 1) hM_q (by omega)) ?_
      refine go_if_ne (tgt := 34) (pc := 29) dX8_foremost_29 (by decide) (fun h_29 => ?_) (fun h_29 => ?_)
      · refine go_iinc (v := 1) (lw := [_, _, _, _]) (pc := 34) dX8_foremost_34 rfl (by decide) (by decide) rfl ?_
        refine go_goto (tgt := 2) (pc := 37) dX8_foremost_37 (by decide) ?_
        rw [nI_1]
        exact ih_q _ _ _ ⟨_, rfl, (fun q hq_q => (Nat.lt_or_ge q i_q).elim (hN_q q) (fun hq2 => by
          obtain rfl : i_q = q := (by omega)
          first
            | (have hn := (sit_m1 hP8).mp h_21; simp only [fmF, hn]; done)
            | (simp only [fmF, hp9]; simpa using (fun hc_q => h_29 (bI_0.mpr hc_q)); done))), rfl, rfl⟩
      · refine go_iload_n (pc := 32) dX8_foremost_32 rfl ?_
        exact go_iretP (pc := 33) rfl dX8_foremost_33 (Nat.le_of_ble_eq_true rfl) (Nat.le_of_ble_eq_true rfl) (by rw [fmK, fnd_at (p := i_q) (by simpa [fmF, hp9] using bI_0.mp h_29) (by omega) (by omega) (fun q _ hq_q => hN_q q hq_q)]; simp only [hp9])
  · rintro lv9 σ n9 ⟨x3_q, rfl, hN_q, rfl, rfl⟩
    refine go_iload_n (pc := 2) dX8_foremost_2 rfl ?_
    refine go_aload_n (pc := 3) dX8_foremost_3 rfl ?_
    refine go_getf (pc := 4) f_X8_9 dX8_foremost_4 (by first | exact mo0 hM_q | exact mo1 hM_q | exact mo6 hM_q | exact mo7 hM_q | exact mo8 hM_q | exact mo2 hM_q | exact mo3 hM_q | exact mo4 hM_q | exact mo5 hM_q | exact mo9 hM_q | exact mo10 hM_q | exact mo11 hM_q | exact mo12 hM_q | exact mo13 hM_q | exact mo14 hM_q | exact mo15 hM_q | exact mo16 hM_q) (by rfl) ?_
    refine go_iconst (v := 2) (pc := 7) dX8_foremost_7 (by decide) ?_
    refine go_iald (j := 2) (pc := 8) dX8_foremost_8 (by first | exact mo0 hM_q | exact mo1 hM_q | exact mo6 hM_q | exact mo7 hM_q | exact mo8 hM_q | exact mo2 hM_q | exact mo3 hM_q | exact mo4 hM_q | exact mo5 hM_q | exact mo9 hM_q | exact mo10 hM_q | exact mo11 hM_q | exact mo12 hM_q | exact mo13 hM_q | exact mo14 hM_q | exact mo15 hM_q | exact mo16 hM_q) (by exact ⟨rfl, by decide⟩) ?_
    rw [hB_q.1.2.2.1]
    refine go_icmp_ge (tgt := 40) (pc := 9) dX8_foremost_9 (by decide) (fun h_9 => ?_) (fun h_9 => by exfalso; exact h_9 (nI_le (by omega) (by omega)))
    refine go_iconst (v := -1) (pc := 40) dX8_foremost_40 (by decide) ?_
    exact go_iretP (pc := 41) rfl dX8_foremost_41 (Nat.le_of_ble_eq_true rfl) (Nat.le_of_ble_eq_true rfl) (by rw [fmK, fnd_none (fun q _ hq_q => hN_q q (by omega))]; rfl)
theorem sp_headOf {Γ : gam} {z0 : sto} {n k r : Nat} {F K : row} {A : Nat → row} {Nm : Nat → Int64} (hM_q : MoAt Γ z0 r F K A Nm) (hk : 2 ≤ k) (hB_q : okB K) (c : Int32) : Sp Γ (rmk k 0 0) uX8_headOf [.ref r, .int c] z0 n (qP (bitO (sitK K c 0)) z0 n) := by
  have hH5 := hB_q.1.2.2.2.1
  have hP8 := hB_q.1.2.1
  refine sp_intro [some (.ref r), some (.int c), none] (by decide +kernel) rfl (Nat.le_of_ble_eq_true rfl) rfl ?_
  refine go_aload_n (pc := 0) dX8_headOf_0 rfl ?_
  refine go_iload_n (pc := 1) dX8_headOf_1 rfl ?_
  refine go_iconst (v := 0) (pc := 2) dX8_headOf_2 (by decide) ?_
  refine go_V2P (pc := 3) v_X8_280 rfl rfl (rcv_of (ci := 8) (by first | exact mo0 hM_q | exact mo1 hM_q | exact mo6 hM_q | exact mo7 hM_q | exact mo8 hM_q | exact mo2 hM_q | exact mo3 hM_q | exact mo4 hM_q | exact mo5 hM_q | exact mo9 hM_q | exact mo10 hM_q | exact mo11 hM_q | exact mo12 hM_q | exact mo13 hM_q | exact mo14 hM_q | exact mo15 hM_q | exact mo16 hM_q) rfl) dX8_headOf_3 (sp_sitter (k := k - 1) hM_q (by omega) hB_q.1 _ _) ?_
  refine go_istore_n (lw := [_, _, _]) (pc := 6) dX8_headOf_6 (by decide) rfl ?_
  refine go_iload_n (pc := 7) dX8_headOf_7 rfl ?_
  refine go_iconst (v := -1) (pc := 8) dX8_headOf_8 (by decide) ?_
  refine go_icmp_ne (tgt := 16) (pc := 9) dX8_headOf_9 (by decide) (fun h_9 => ?_) (fun h_9 => ?_)
  · obtain ⟨p9_q, hp9⟩ := oI_ne h_9
    refine go_iconst (v := 1) (pc := 16) dX8_headOf_16 (by decide) ?_
    refine go_iload_n (pc := 17) dX8_headOf_17 rfl ?_
    refine go_ishl (pc := 18) dX8_headOf_18 ?_
    exact go_iretP (pc := 19) rfl dX8_headOf_19 (Nat.le_of_ble_eq_true rfl) (Nat.le_of_ble_eq_true rfl) (by first | (rw [hp9]; rfl) | (rw [(sit_m1 hP8).mp (Decidable.not_not.mp h_9)]; rfl) | (rw [(sit_m1 hP8).mp h_9]; rfl))
  · refine go_iconst (v := 0) (pc := 12) dX8_headOf_12 (by decide) ?_
    refine go_goto (tgt := 19) (pc := 13) dX8_headOf_13 (by decide) ?_
    exact go_iretP (pc := 19) rfl dX8_headOf_19 (Nat.le_of_ble_eq_true rfl) (Nat.le_of_ble_eq_true rfl) (by first | (rw [hp9]; rfl) | (rw [(sit_m1 hP8).mp (Decidable.not_not.mp h_9)]; rfl) | (rw [(sit_m1 hP8).mp h_9]; rfl))
theorem sp_round {Γ : gam} {z0 : sto} {n k r : Nat} {F K : row} {A : Nat → row} {Nm : Nat → Int64} (hM_q : MoAt Γ z0 r F K A Nm) (hk : 14 ≤ k) (hB_q : okB K) (hv_q : vS K) (c : Int32) : Sp Γ (rmk k 0 0) uX8_round [.ref r, .int c] z0 n (qI fun v σ' n' => v = (aRound K c.toInt).2 ∧ apJ Γ r F K A Nm z0 n (aRound K c.toInt).1 σ' n') := by
  have hP8 := hB_q.1.2.1
  have hH5 := hB_q.1.2.2.2.1
  have hW4 := hB_q.1.2.2.2.2.2
  have hA_q : eqx [6, 7, 8, 9, 10, 11, 12, 13] A A := eqx.rf
  have hf_q : fr r (r + 16) z0 z0 := fr.rf
  refine sp_intro [some (.ref r), some (.int c), none, none, none, none] (by decide +kernel) rfl (Nat.le_of_ble_eq_true rfl) rfl ?_
  cases hz_q : pN (kW K) c.toInt with
  | none =>
    refine go_aload_n (pc := 0) dX8_round_0 rfl ?_
    refine go_iconst (v := 0) (pc := 1) dX8_round_1 (by decide) ?_
    refine go_mpf4 (pc := 2) hM_q dX8_round_2 (fun σ hM_q hf9 => ?_)
    have hf_q := hf_q.tr hf9
    refine go_aload_n (pc := 5) dX8_round_5 rfl ?_
    refine go_iload_n (pc := 6) dX8_round_6 rfl ?_
    refine go_i2l (pc := 7) dX8_round_7 ?_
    refine go_V1P (pc := 8) v_X8_245 rfl rfl (rcv_of (ci := 8) (by first | exact mo0 hM_q | exact mo1 hM_q | exact mo6 hM_q | exact mo7 hM_q | exact mo8 hM_q | exact mo2 hM_q | exact mo3 hM_q | exact mo4 hM_q | exact mo5 hM_q | exact mo9 hM_q | exact mo10 hM_q | exact mo11 hM_q | exact mo12 hM_q | exact mo13 hM_q | exact mo14 hM_q | exact mo15 hM_q | exact mo16 hM_q) rfl) dX8_round_8 (sp_isColumn (k := k - 1) hM_q (by omega) _) ?_
    refine go_if_ne (tgt := 20) (pc := 11) dX8_round_11 (by decide) (fun h_11 => by exfalso; exact h_11 (pi_no hB_q.1.2.2.2.2.1 (by omega) hz_q)) (fun h_11 => ?_)
    refine go_aload_n (pc := 14) dX8_round_14 rfl ?_
    refine go_iconst (v := 1) (pc := 15) dX8_round_15 (by decide) ?_
    refine go_V1I (pc := 16) v_X8_231 rfl rfl (rcv_of (ci := 8) (by first | exact mo0 hM_q | exact mo1 hM_q | exact mo6 hM_q | exact mo7 hM_q | exact mo8 hM_q | exact mo2 hM_q | exact mo3 hM_q | exact mo4 hM_q | exact mo5 hM_q | exact mo9 hM_q | exact mo10 hM_q | exact mo11 hM_q | exact mo12 hM_q | exact mo13 hM_q | exact mo14 hM_q | exact mo15 hM_q | exact mo16 hM_q) rfl) dX8_round_16 (sp_fails (k := k - 1) hM_q _) (fun v_16 σ n h_q => ?_)
    obtain ⟨rfl, rfl, A1, hM_q, hA1, hf1⟩ := h_q
    have hA_q := eqx.tr (L := [6, 7, 8, 9, 10, 11, 12, 13]) (by repeat (first | assumption | exact eqx.rf | refine eqx.up ?_ (by decide))) (hA1.wk (by decide))
    have hf_q := hf_q.tr hf1
    exact go_iretI (pc := 19) rfl dX8_round_19 (Nat.le_of_ble_eq_true rfl) (Nat.le_of_ble_eq_true rfl) ⟨(by simp [aRound, hz_q]), rfl, _, _, hM_q, ⟨(by simp [upd, aRound, hz_q]), fun j h1_q h2_q h3_q => by simp [upd, h1_q, h2_q, h3_q]⟩, (by repeat (first | assumption | exact eqx.rf | refine eqx.up ?_ (by decide))), hf_q⟩
  | some j1_q =>
    have hz1 := pN_some hz_q
    obtain rfl := I_nat hz1.1 (by omega)
    refine go_aload_n (pc := 0) dX8_round_0 rfl ?_
    refine go_iconst (v := 0) (pc := 1) dX8_round_1 (by decide) ?_
    refine go_mpf4 (pc := 2) hM_q dX8_round_2 (fun σ hM_q hf9 => ?_)
    have hf_q := hf_q.tr hf9
    refine go_aload_n (pc := 5) dX8_round_5 rfl ?_
    refine go_iload_n (pc := 6) dX8_round_6 rfl ?_
    refine go_i2l (pc := 7) dX8_round_7 ?_
    refine go_V1P (pc := 8) v_X8_245 rfl rfl (rcv_of (ci := 8) (by first | exact mo0 hM_q | exact mo1 hM_q | exact mo6 hM_q | exact mo7 hM_q | exact mo8 hM_q | exact mo2 hM_q | exact mo3 hM_q | exact mo4 hM_q | exact mo5 hM_q | exact mo9 hM_q | exact mo10 hM_q | exact mo11 hM_q | exact mo12 hM_q | exact mo13 hM_q | exact mo14 hM_q | exact mo15 hM_q | exact mo16 hM_q) rfl) dX8_round_8 (sp_isColumn (k := k - 1) hM_q (by omega) _) ?_
    refine go_if_ne (tgt := 20) (pc := 11) dX8_round_11 (by decide) (fun h_11 => ?_) (fun h_11 => by exfalso; rw [pi_yes hB_q.1.2.2.2.2.1 (by omega) hz_q] at h_11; exact absurd h_11 (by decide))
    refine go_iconst (v := 0) (pc := 20) dX8_round_20 (by decide) ?_
    refine go_istore_n (lw := [_, _, _, _, _, _]) (pc := 21) dX8_round_21 (by decide) rfl ?_
    refine go_iconst (v := 0) (pc := 22) dX8_round_22 (by decide) ?_
    refine go_istore_n (lw := [_, _, _, _, _, _]) (pc := 23) dX8_round_23 (by decide) rfl ?_
    refine go_iter (kH K) (fun i_q lv9 s9 n9 => ∃ (x2_q : Int32), ∃ A9_q, lv9 = [some (.ref r), some (.int (nI j1_q)), some (.int x2_q), some (.int (nI i_q)), none, none] ∧ (MoAt Γ s9 r (upd F 4 0) K A9_q Nm) ∧ (eqx [6, 7, 8, 9, 10, 11, 12, 13] A A9_q) ∧ (fr r (r + 16) z0 s9) ∧ (allF K (nI j1_q) (kH K - i_q) i_q x2_q = allF K (nI j1_q) (kH K) 0 0) ∧ n = n9) ⟨0, _, rfl, hM_q, hA_q, hf_q, rfl, rfl⟩ ?_ ?_
    · rintro i_q lv9 σ n9 hi_q ⟨x2_q, A9_q, rfl, hM_q, hA_q, hf_q, hR_q, rfl⟩ ih_q
      refine go_iload_n (pc := 24) dX8_round_24 rfl ?_
      refine go_aload_n (pc := 25) dX8_round_25 rfl ?_
      refine go_getf (pc := 26) f_X8_9 dX8_round_26 (by first | exact mo0 hM_q | exact mo1 hM_q | exact mo6 hM_q | exact mo7 hM_q | exact mo8 hM_q | exact mo2 hM_q | exact mo3 hM_q | exact mo4 hM_q | exact mo5 hM_q | exact mo9 hM_q | exact mo10 hM_q | exact mo11 hM_q | exact mo12 hM_q | exact mo13 hM_q | exact mo14 hM_q | exact mo15 hM_q | exact mo16 hM_q) (by rfl) ?_
      refine go_iconst (v := 2) (pc := 29) dX8_round_29 (by decide) ?_
      refine go_iald (j := 2) (pc := 30) dX8_round_30 (by first | exact mo0 hM_q | exact mo1 hM_q | exact mo6 hM_q | exact mo7 hM_q | exact mo8 hM_q | exact mo2 hM_q | exact mo3 hM_q | exact mo4 hM_q | exact mo5 hM_q | exact mo9 hM_q | exact mo10 hM_q | exact mo11 hM_q | exact mo12 hM_q | exact mo13 hM_q | exact mo14 hM_q | exact mo15 hM_q | exact mo16 hM_q) (by exact ⟨rfl, by decide⟩) ?_
      rw [hB_q.1.2.2.1]
      refine go_icmp_ge (tgt := 65) (pc := 31) dX8_round_31 (by decide) (fun h_31 => by exfalso; exact absurd h_31 (nI_ge (by omega) (by omega))) (fun h_31 => ?_)
      refine go_iload_n (pc := 34) dX8_round_34 rfl ?_
      refine go_aload_n (pc := 35) dX8_round_35 rfl ?_
      refine go_iload_n (pc := 36) dX8_round_36 rfl ?_
      refine go_iload_n (pc := 37) dX8_round_37 rfl ?_
      refine go_V2P (pc := 38) v_X8_280 rfl rfl (rcv_of (ci := 8) (by first | exact mo0 hM_q | exact mo1 hM_q | exact mo6 hM_q | exact mo7 hM_q | exact mo8 hM_q | exact mo2 hM_q | exact mo3 hM_q | exact mo4 hM_q | exact mo5 hM_q | exact mo9 hM_q | exact mo10 hM_q | exact mo11 hM_q | exact mo12 hM_q | exact mo13 hM_q | exact mo14 hM_q | exact mo15 hM_q | exact mo16 hM_q) rfl) dX8_round_38 (sp_sitter (k := k - 1) hM_q (by omega) hB_q.1 _ _) ?_
      refine go_iconst (v := -1) (pc := 41) dX8_round_41 (by decide) ?_
      refine go_icmp_ne (tgt := 49) (pc := 42) dX8_round_42 (by decide) (fun h_42 => ?_) (fun h_42 => ?_)
      · refine go_iconst (v := 1) (pc := 49) dX8_round_49 (by decide) ?_
        refine go_aload_n (pc := 50) dX8_round_50 rfl ?_
        refine go_iload_n (pc := 51) dX8_round_51 rfl ?_
        refine go_iload_n (pc := 52) dX8_round_52 rfl ?_
        obtain ⟨p9_q, hp9⟩ := oI_ne h_42
        refine go_V2P (pc := 53) v_X8_280 rfl rfl (rcv_of (ci := 8) (by first | exact mo0 hM_q | exact mo1 hM_q | exact mo6 hM_q | exact mo7 hM_q | exact mo8 hM_q | exact mo2 hM_q | exact mo3 hM_q | exact mo4 hM_q | exact mo5 hM_q | exact mo9 hM_q | exact mo10 hM_q | exact mo11 hM_q | exact mo12 hM_q | exact mo13 hM_q | exact mo14 hM_q | exact mo15 hM_q | exact mo16 hM_q) rfl) dX8_round_53 (sp_sitter (k := k - 1) hM_q (by omega) hB_q.1 _ _) ?_
        refine go_ishl (pc := 56) dX8_round_56 ?_
        refine go_ior (pc := 57) dX8_round_57 ?_
        refine go_istore_n (lw := [_, _, _, _, _, _]) (pc := 58) dX8_round_58 (by decide) rfl ?_
        refine go_iinc (v := 1) (lw := [_, _, _, _, _, _]) (pc := 59) dX8_round_59 rfl (by decide) (by decide) rfl ?_
        refine go_goto (tgt := 24) (pc := 62) dX8_round_62 (by decide) ?_
        rw [nI_1]
        exact ih_q _ _ _ ⟨_, _, rfl, hM_q, hA_q, hf_q, (by rw [← hR_q, allF_step hi_q]; congr 2; first | (rw [hp9]; rfl) | (rw [(sit_m1 hP8).mp h_42]; rfl)), rfl⟩
      · refine go_iconst (v := 0) (pc := 45) dX8_round_45 (by decide) ?_
        refine go_goto (tgt := 57) (pc := 46) dX8_round_46 (by decide) ?_
        refine go_ior (pc := 57) dX8_round_57 ?_
        refine go_istore_n (lw := [_, _, _, _, _, _]) (pc := 58) dX8_round_58 (by decide) rfl ?_
        refine go_iinc (v := 1) (lw := [_, _, _, _, _, _]) (pc := 59) dX8_round_59 rfl (by decide) (by decide) rfl ?_
        refine go_goto (tgt := 24) (pc := 62) dX8_round_62 (by decide) ?_
        rw [nI_1]
        exact ih_q _ _ _ ⟨_, _, rfl, hM_q, hA_q, hf_q, (by rw [← hR_q, allF_step hi_q]; congr 2; first | (rw [hp9]; rfl) | (rw [(sit_m1 hP8).mp h_42]; rfl)), rfl⟩
    · rintro lv9 σ n9 ⟨x2_q, A9_q, rfl, hM_q, hA_q, hf_q, hR_q, rfl⟩
      refine go_iload_n (pc := 24) dX8_round_24 rfl ?_
      refine go_aload_n (pc := 25) dX8_round_25 rfl ?_
      refine go_getf (pc := 26) f_X8_9 dX8_round_26 (by first | exact mo0 hM_q | exact mo1 hM_q | exact mo6 hM_q | exact mo7 hM_q | exact mo8 hM_q | exact mo2 hM_q | exact mo3 hM_q | exact mo4 hM_q | exact mo5 hM_q | exact mo9 hM_q | exact mo10 hM_q | exact mo11 hM_q | exact mo12 hM_q | exact mo13 hM_q | exact mo14 hM_q | exact mo15 hM_q | exact mo16 hM_q) (by rfl) ?_
      refine go_iconst (v := 2) (pc := 29) dX8_round_29 (by decide) ?_
      refine go_iald (j := 2) (pc := 30) dX8_round_30 (by first | exact mo0 hM_q | exact mo1 hM_q | exact mo6 hM_q | exact mo7 hM_q | exact mo8 hM_q | exact mo2 hM_q | exact mo3 hM_q | exact mo4 hM_q | exact mo5 hM_q | exact mo9 hM_q | exact mo10 hM_q | exact mo11 hM_q | exact mo12 hM_q | exact mo13 hM_q | exact mo14 hM_q | exact mo15 hM_q | exact mo16 hM_q) (by exact ⟨rfl, by decide⟩) ?_
      rw [hB_q.1.2.2.1]
      refine go_icmp_ge (tgt := 65) (pc := 31) dX8_round_31 (by decide) (fun h_31 => ?_) (fun h_31 => by exfalso; exact h_31 (nI_le (by omega) (by omega)))
      rw [Nat.sub_self] at hR_q
      have hR_q : x2_q = allF K (nI j1_q) (kH K) 0 0 := hR_q
      subst hR_q
      refine go_aload_n (pc := 65) dX8_round_65 rfl ?_
      refine go_V0V (pc := 66) v_X8_369 rfl rfl (rcv_of (ci := 8) (by first | exact mo0 hM_q | exact mo1 hM_q | exact mo6 hM_q | exact mo7 hM_q | exact mo8 hM_q | exact mo2 hM_q | exact mo3 hM_q | exact mo4 hM_q | exact mo5 hM_q | exact mo9 hM_q | exact mo10 hM_q | exact mo11 hM_q | exact mo12 hM_q | exact mo13 hM_q | exact mo14 hM_q | exact mo15 hM_q | exact mo16 hM_q) rfl) dX8_round_66 (sp_putsAside (k := k - 1) hM_q) (fun σ n h_q => ?_)
      obtain ⟨rfl, A1, hM_q, hA1, hf1, hG_q⟩ := h_q
      have hA_q := eqx.tr (L := [6, 7, 8, 9, 10, 11, 12, 13]) (by repeat (first | assumption | exact eqx.rf | refine eqx.up ?_ (by decide))) (hA1.wk (by decide))
      have hf_q := hf_q.tr hf1
      refine go_aload_n (pc := 69) dX8_round_69 rfl ?_
      refine go_iload_n (pc := 70) dX8_round_70 rfl ?_
      refine go_V1P (pc := 71) v_X8_419 rfl rfl (rcv_of (ci := 8) (by first | exact mo0 hM_q | exact mo1 hM_q | exact mo6 hM_q | exact mo7 hM_q | exact mo8 hM_q | exact mo2 hM_q | exact mo3 hM_q | exact mo4 hM_q | exact mo5 hM_q | exact mo9 hM_q | exact mo10 hM_q | exact mo11 hM_q | exact mo12 hM_q | exact mo13 hM_q | exact mo14 hM_q | exact mo15 hM_q | exact mo16 hM_q) rfl) dX8_round_71 (sp_headOf (k := k - 1) hM_q (by omega) hB_q _) ?_
      refine go_istore_n (lw := [_, _, _, _, _, _]) (pc := 74) dX8_round_74 (by decide) rfl ?_
      refine go_iconst (v := 0) (pc := 75) dX8_round_75 (by decide) ?_
      refine go_istore (lw := [_, _, _, _, _, _]) (pc := 76) dX8_round_76 (by decide) rfl ?_
      refine go_iter (100) (fun i_q lv9 s9 n9 => ∃ x5_q, ∃ A9_q, lv9 = [some (.ref r), some (.int (nI j1_q)), some (.int (allF K (nI j1_q) (kH K) 0 0)), some (.int (metK K (nI j1_q) i_q)), some (.int (nI i_q)), x5_q] ∧ (MoAt Γ s9 r (upd F 4 0) (rdI (nI j1_q) i_q K) A9_q Nm) ∧ (eqx [6, 7, 8, 9, 10, 11, 12, 13] A A9_q) ∧ (fr r (r + 16) z0 s9) ∧ (∀ j, j < 26 → A9_q 8 j = K (8 + j)) ∧ (∀ q, q < i_q → (fun m => decide (allF K (nI j1_q) (kH K) 0 0 &&& (metK K (nI j1_q) m ^^^ (-1)) = 0)) q = false) ∧ n = n9) ⟨none, _, rfl, hM_q, hA_q, hf_q, hG_q, (fun q hq_q => absurd hq_q (by omega)), rfl⟩ ?_ ?_
      · rintro i_q lv9 σ n9 hi_q ⟨x5_q, A9_q, rfl, hM_q, hA_q, hf_q, hG_q, hN_q, rfl⟩ ih_q
        have hS_q := (rdI_good hv_q hP8 hH5 hz1.2 i_q).1
        have hv9_q := (rdI_good hv_q hP8 hH5 hz1.2 i_q).2
        have hB9_q := hS_q.okB hB_q
        have eP_q := hS_q.P
        have eH_q := hS_q.H
        have eW := hS_q.W
        refine go_iload (pc := 78) dX8_round_78 rfl ?_
        refine go_bipush (v := 100) (pc := 80) dX8_round_80 (by decide) ?_
        refine go_icmp_ge (tgt := 140) (pc := 82) dX8_round_82 (by decide) (fun h_82 => by exfalso; exact absurd h_82 (nI_ge (b := 100) (by omega) (by decide))) (fun h_82 => ?_)
        refine go_iload_n (pc := 85) dX8_round_85 rfl ?_
        refine go_iload_n (pc := 86) dX8_round_86 rfl ?_
        refine go_iconst (v := -1) (pc := 87) dX8_round_87 (by decide) ?_
        refine go_ixor (pc := 88) dX8_round_88 ?_
        refine go_iand (pc := 89) dX8_round_89 ?_
        refine go_if_eq (tgt := 140) (pc := 90) dX8_round_90 (by decide) (fun h_90 => ?_) (fun h_90 => ?_)
        · refine go_aload_n (pc := 140) dX8_round_140 rfl ?_
          refine go_V0V (pc := 141) v_X8_381 rfl rfl (rcv_of (ci := 8) (by first | exact mo0 hM_q | exact mo1 hM_q | exact mo6 hM_q | exact mo7 hM_q | exact mo8 hM_q | exact mo2 hM_q | exact mo3 hM_q | exact mo4 hM_q | exact mo5 hM_q | exact mo9 hM_q | exact mo10 hM_q | exact mo11 hM_q | exact mo12 hM_q | exact mo13 hM_q | exact mo14 hM_q | exact mo15 hM_q | exact mo16 hM_q) rfl) dX8_round_141 (sp_putsBack (k := k - 1) hM_q) (fun σ n h_q => ?_)
          obtain ⟨rfl, A1, hM_q, hA1, hf1⟩ := h_q
          have hA_q := eqx.tr (L := [6, 7, 8, 9, 10, 11, 12, 13]) (by repeat (first | assumption | exact eqx.rf | refine eqx.up ?_ (by decide))) (hA1.wk (by decide))
          have hf_q := hf_q.tr hf1
          rw [setS_back hS_q hG_q] at hM_q
          refine go_iload (pc := 144) dX8_round_144 rfl ?_
          refine go_bipush (v := 99) (pc := 146) dX8_round_146 (by decide) ?_
          refine go_icmp_le (tgt := 155) (pc := 148) dX8_round_148 (by decide) (fun h_148 => ?_) (fun h_148 => by exfalso; exact h_148 (nI_le (b := 99) (by omega) (by decide)))
          refine go_iload (pc := 155) dX8_round_155 rfl ?_
          exact go_iretI (pc := 157) rfl dX8_round_157 (Nat.le_of_ble_eq_true rfl) (Nat.le_of_ble_eq_true rfl) ⟨(by simp only [aRound, hz_q]; rw [fnd_at (p := i_q) (by simpa using h_90) (by omega) (by omega) (fun q _ hq_q => hN_q q hq_q)]; rfl), rfl, _, _, hM_q, ⟨(by simp [upd, aRound, hz_q]), fun j h1_q h2_q h3_q => by simp [upd, h1_q, h2_q, h3_q]⟩, (by repeat (first | assumption | exact eqx.rf | refine eqx.up ?_ (by decide))), hf_q⟩
        · refine go_aload_n (pc := 93) dX8_round_93 rfl ?_
          refine go_iload_n (pc := 94) dX8_round_94 rfl ?_
          refine go_V1P (pc := 95) v_X8_422 rfl rfl (rcv_of (ci := 8) (by first | exact mo0 hM_q | exact mo1 hM_q | exact mo6 hM_q | exact mo7 hM_q | exact mo8 hM_q | exact mo2 hM_q | exact mo3 hM_q | exact mo4 hM_q | exact mo5 hM_q | exact mo9 hM_q | exact mo10 hM_q | exact mo11 hM_q | exact mo12 hM_q | exact mo13 hM_q | exact mo14 hM_q | exact mo15 hM_q | exact mo16 hM_q) rfl) dX8_round_95 (sp_foremost (k := k - 1) hM_q (by omega) hB9_q _) ?_
          refine go_istore (lw := [_, _, _, _, _, _]) (pc := 98) dX8_round_98 (by decide) rfl ?_
          refine go_iload (pc := 100) dX8_round_100 rfl ?_
          refine go_iconst (v := -1) (pc := 102) dX8_round_102 (by decide) ?_
          refine go_icmp_eq (tgt := 122) (pc := 103) dX8_round_103 (by decide) (fun h_103 => ?_) (fun h_103 => ?_)
          · first
              | rw [← hrd] at hM_q
              | (have hrd : rdA (rdI (nI j1_q) i_q K) (nI j1_q) = rdI (nI j1_q) i_q K := (by rw [rdA, show fmK (rdI (nI j1_q) i_q K) (nI j1_q) = none from (oI_none (fun p hp_q => by have := (fm_some hp_q).1; omega)).mp h_103]); rw [← hrd] at hM_q)
            refine go_aload_n (pc := 122) dX8_round_122 rfl ?_
            refine go_V0V (pc := 123) v_X8_345 rfl rfl (rcv_of (ci := 8) (by first | exact mo0 hM_q | exact mo1 hM_q | exact mo6 hM_q | exact mo7 hM_q | exact mo8 hM_q | exact mo2 hM_q | exact mo3 hM_q | exact mo4 hM_q | exact mo5 hM_q | exact mo9 hM_q | exact mo10 hM_q | exact mo11 hM_q | exact mo12 hM_q | exact mo13 hM_q | exact mo14 hM_q | exact mo15 hM_q | exact mo16 hM_q) rfl) dX8_round_123 (sp_minute (k := k - 1) hM_q (by omega) ((rdA_same (by omega)).okB hB9_q) (vS_rdA hv9_q (by omega) (by omega) (by omega))) (fun σ n h_q => ?_)
            obtain ⟨rfl, A1, hM_q, hA1, hf1⟩ := h_q
            have hA_q := eqx.tr (L := [6, 7, 8, 9, 10, 11, 12, 13]) (by repeat (first | assumption | exact eqx.rf | refine eqx.up ?_ (by decide))) (hA1.wk (by decide))
            have hf_q := hf_q.tr hf1
            have hG_q : ∀ j, j < 26 → A1 8 j = K (8 + j) := fun j hj_q => by rw [hA1 8 (by decide)]; exact hG_q j hj_q
            refine go_iload_n (pc := 126) dX8_round_126 rfl ?_
            refine go_aload_n (pc := 127) dX8_round_127 rfl ?_
            refine go_iload_n (pc := 128) dX8_round_128 rfl ?_
            refine go_V1P (pc := 129) v_X8_419 rfl rfl (rcv_of (ci := 8) (by first | exact mo0 hM_q | exact mo1 hM_q | exact mo6 hM_q | exact mo7 hM_q | exact mo8 hM_q | exact mo2 hM_q | exact mo3 hM_q | exact mo4 hM_q | exact mo5 hM_q | exact mo9 hM_q | exact mo10 hM_q | exact mo11 hM_q | exact mo12 hM_q | exact mo13 hM_q | exact mo14 hM_q | exact mo15 hM_q | exact mo16 hM_q) rfl) dX8_round_129 (sp_headOf (k := k - 1) hM_q (by omega) ((rdS_same (by omega)).okB hB9_q) _) ?_
            refine go_ior (pc := 132) dX8_round_132 ?_
            refine go_istore_n (lw := [_, _, _, _, _, _]) (pc := 133) dX8_round_133 (by decide) rfl ?_
            refine go_iinc (v := 1) (lw := [_, _, _, _, _, _]) (pc := 134) dX8_round_134 rfl (by decide) (by decide) rfl ?_
            refine go_goto (tgt := 78) (pc := 137) dX8_round_137 (by decide) ?_
            rw [nI_1]
            exact ih_q _ _ _ ⟨_, _, rfl, hM_q, hA_q, hf_q, hG_q, (fun q hq_q => (Nat.lt_or_ge q i_q).elim (hN_q q) (fun hq2 => by obtain rfl : i_q = q := (by omega); simpa using h_90)), rfl⟩
          · obtain ⟨p9_q, hp9⟩ := oI_ne h_103
            obtain ⟨a9_q, ⟨w9_q, b9_q, c9_q⟩, -, -⟩ := fm_some hp9
            have hu9 : rdI (nI j1_q) i_q K (16 + p9_q) ≠ -1 := by rw [c9_q]; exact nI_ne1 (by omega)
            rw [hp9]
            have hS1 : sameB (rdI (nI j1_q) i_q K) (riseK (rdI (nI j1_q) i_q K) p9_q (-1)).1 := riseK_same (by omega) (by omega)
            have hrd : rdA (rdI (nI j1_q) i_q K) (nI j1_q) = sitdK (riseK (rdI (nI j1_q) i_q K) p9_q (-1)).1 p9_q (nI j1_q) := by rw [rdA, hp9]
            refine go_aload_n (pc := 106) dX8_round_106 rfl ?_
            refine go_iload (pc := 107) dX8_round_107 rfl ?_
            refine go_iconst (v := -1) (pc := 109) dX8_round_109 (by decide) ?_
            refine go_V2I (pc := 110) v_X8_302 rfl rfl (rcv_of (ci := 8) (by first | exact mo0 hM_q | exact mo1 hM_q | exact mo6 hM_q | exact mo7 hM_q | exact mo8 hM_q | exact mo2 hM_q | exact mo3 hM_q | exact mo4 hM_q | exact mo5 hM_q | exact mo9 hM_q | exact mo10 hM_q | exact mo11 hM_q | exact mo12 hM_q | exact mo13 hM_q | exact mo14 hM_q | exact mo15 hM_q | exact mo16 hM_q) rfl) dX8_round_110 (sp_rises (k := k - 1) hM_q (by omega) hB9_q hv9_q a9_q hu9 _) (fun v_110 σ n h_q => ?_)
            obtain ⟨rfl, rfl, A1, hM_q, hA1, hf1⟩ := h_q
            have hA_q := eqx.tr (L := [6, 7, 8, 9, 10, 11, 12, 13]) (by repeat (first | assumption | exact eqx.rf | refine eqx.up ?_ (by decide))) (hA1.wk (by decide))
            have hf_q := hf_q.tr hf1
            have hG_q : ∀ j, j < 26 → A1 8 j = K (8 + j) := fun j hj_q => by rw [hA1 8 (by decide)]; exact hG_q j hj_q
            refine go_pop (pc := 113) dX8_round_113 rfl ?_
            refine go_aload_n (pc := 114) dX8_round_114 rfl ?_
            refine go_iload (pc := 115) dX8_round_115 rfl ?_
            refine go_iload_n (pc := 117) dX8_round_117 rfl ?_
            refine go_V2I (pc := 118) v_X8_299 rfl rfl (rcv_of (ci := 8) (by first | exact mo0 hM_q | exact mo1 hM_q | exact mo6 hM_q | exact mo7 hM_q | exact mo8 hM_q | exact mo2 hM_q | exact mo3 hM_q | exact mo4 hM_q | exact mo5 hM_q | exact mo9 hM_q | exact mo10 hM_q | exact mo11 hM_q | exact mo12 hM_q | exact mo13 hM_q | exact mo14 hM_q | exact mo15 hM_q | exact mo16 hM_q) rfl) dX8_round_118 (sp_sitsDown (k := k - 1) hM_q (by omega) (hS1.okB hB9_q) _ (by omega)) (fun v_118 σ n h_q => ?_)
            obtain ⟨rfl, rfl, A1, hM_q, hA1, hf1⟩ := h_q
            have hA_q := eqx.tr (L := [6, 7, 8, 9, 10, 11, 12, 13]) (by repeat (first | assumption | exact eqx.rf | refine eqx.up ?_ (by decide))) (hA1.wk (by decide))
            have hf_q := hf_q.tr hf1
            have hG_q : ∀ j, j < 26 → A1 8 j = K (8 + j) := fun j hj_q => by rw [hA1 8 (by decide)]; exact hG_q j hj_q
            refine go_pop (pc := 121) dX8_round_121 rfl ?_
            first
              | rw [← hrd] at hM_q
              | (have hrd : rdA (rdI (nI j1_q) i_q K) (nI j1_q) = rdI (nI j1_q) i_q K := (by rw [rdA, show fmK (rdI (nI j1_q) i_q K) (nI j1_q) = none from (oI_none (fun p hp_q => by have := (fm_some hp_q).1; omega)).mp h_103]); rw [← hrd] at hM_q)
            refine go_aload_n (pc := 122) dX8_round_122 rfl ?_
            refine go_V0V (pc := 123) v_X8_345 rfl rfl (rcv_of (ci := 8) (by first | exact mo0 hM_q | exact mo1 hM_q | exact mo6 hM_q | exact mo7 hM_q | exact mo8 hM_q | exact mo2 hM_q | exact mo3 hM_q | exact mo4 hM_q | exact mo5 hM_q | exact mo9 hM_q | exact mo10 hM_q | exact mo11 hM_q | exact mo12 hM_q | exact mo13 hM_q | exact mo14 hM_q | exact mo15 hM_q | exact mo16 hM_q) rfl) dX8_round_123 (sp_minute (k := k - 1) hM_q (by omega) ((rdA_same (by omega)).okB hB9_q) (vS_rdA hv9_q (by omega) (by omega) (by omega))) (fun σ n h_q => ?_)
            obtain ⟨rfl, A1, hM_q, hA1, hf1⟩ := h_q
            have hA_q := eqx.tr (L := [6, 7, 8, 9, 10, 11, 12, 13]) (by repeat (first | assumption | exact eqx.rf | refine eqx.up ?_ (by decide))) (hA1.wk (by decide))
            have hf_q := hf_q.tr hf1
            have hG_q : ∀ j, j < 26 → A1 8 j = K (8 + j) := fun j hj_q => by rw [hA1 8 (by decide)]; exact hG_q j hj_q
            refine go_iload_n (pc := 126) dX8_round_126 rfl ?_
            refine go_aload_n (pc := 127) dX8_round_127 rfl ?_
            refine go_iload_n (pc := 128) dX8_round_128 rfl ?_
            refine go_V1P (pc := 129) v_X8_419 rfl rfl (rcv_of (ci := 8) (by first | exact mo0 hM_q | exact mo1 hM_q | exact mo6 hM_q | exact mo7 hM_q | exact mo8 hM_q | exact mo2 hM_q | exact mo3 hM_q | exact mo4 hM_q | exact mo5 hM_q | exact mo9 hM_q | exact mo10 hM_q | exact mo11 hM_q | exact mo12 hM_q | exact mo13 hM_q | exact mo14 hM_q | exact mo15 hM_q | exact mo16 hM_q) rfl) dX8_round_129 (sp_headOf (k := k - 1) hM_q (by omega) ((rdS_same (by omega)).okB hB9_q) _) ?_
            refine go_ior (pc := 132) dX8_round_132 ?_
            refine go_istore_n (lw := [_, _, _, _, _, _]) (pc := 133) dX8_round_133 (by decide) rfl ?_
            refine go_iinc (v := 1) (lw := [_, _, _, _, _, _]) (pc := 134) dX8_round_134 rfl (by decide) (by decide) rfl ?_
            refine go_goto (tgt := 78) (pc := 137) dX8_round_137 (by decide) ?_
            rw [nI_1]
            exact ih_q _ _ _ ⟨_, _, rfl, hM_q, hA_q, hf_q, hG_q, (fun q hq_q => (Nat.lt_or_ge q i_q).elim (hN_q q) (fun hq2 => by obtain rfl : i_q = q := (by omega); simpa using h_90)), rfl⟩
      · rintro lv9 σ n9 ⟨x5_q, A9_q, rfl, hM_q, hA_q, hf_q, hG_q, hN_q, rfl⟩
        have hS_q := (rdI_good hv_q hP8 hH5 hz1.2 100).1
        refine go_iload (pc := 78) dX8_round_78 rfl ?_
        refine go_bipush (v := 100) (pc := 80) dX8_round_80 (by decide) ?_
        refine go_icmp_ge (tgt := 140) (pc := 82) dX8_round_82 (by decide) (fun h_82 => ?_) (fun h_82 => by exfalso; exact h_82 (by decide))
        refine go_aload_n (pc := 140) dX8_round_140 rfl ?_
        refine go_V0V (pc := 141) v_X8_381 rfl rfl (rcv_of (ci := 8) (by first | exact mo0 hM_q | exact mo1 hM_q | exact mo6 hM_q | exact mo7 hM_q | exact mo8 hM_q | exact mo2 hM_q | exact mo3 hM_q | exact mo4 hM_q | exact mo5 hM_q | exact mo9 hM_q | exact mo10 hM_q | exact mo11 hM_q | exact mo12 hM_q | exact mo13 hM_q | exact mo14 hM_q | exact mo15 hM_q | exact mo16 hM_q) rfl) dX8_round_141 (sp_putsBack (k := k - 1) hM_q) (fun σ n h_q => ?_)
        obtain ⟨rfl, A1, hM_q, hA1, hf1⟩ := h_q
        have hA_q := eqx.tr (L := [6, 7, 8, 9, 10, 11, 12, 13]) (by repeat (first | assumption | exact eqx.rf | refine eqx.up ?_ (by decide))) (hA1.wk (by decide))
        have hf_q := hf_q.tr hf1
        rw [setS_back hS_q hG_q] at hM_q
        refine go_iload (pc := 144) dX8_round_144 rfl ?_
        refine go_bipush (v := 99) (pc := 146) dX8_round_146 (by decide) ?_
        refine go_icmp_le (tgt := 155) (pc := 148) dX8_round_148 (by decide) (fun h_148 => by exfalso; exact absurd h_148 (by decide)) (fun h_148 => ?_)
        refine go_iconst (v := -1) (pc := 151) dX8_round_151 (by decide) ?_
        refine go_goto (tgt := 157) (pc := 152) dX8_round_152 (by decide) ?_
        exact go_iretI (pc := 157) rfl dX8_round_157 (Nat.le_of_ble_eq_true rfl) (Nat.le_of_ble_eq_true rfl) ⟨(by simp only [aRound, hz_q]; rw [fnd_none (fun q _ hq_q => hN_q q (by omega))]; rfl), rfl, _, _, hM_q, ⟨(by simp [upd, aRound, hz_q]), fun j h1_q h2_q h3_q => by simp [upd, h1_q, h2_q, h3_q]⟩, (by repeat (first | assumption | exact eqx.rf | refine eqx.up ?_ (by decide))), hf_q⟩
theorem lev_ix {d i_q : Nat} : 26 * nI d + nI i_q = nI (26 * d + i_q) := by
  rw [show (26 : Int32) = nI 26 from rfl, pk_mul, nI_add]
theorem sp_keepsLevel {Γ : gam} {z0 : sto} {n k r : Nat} {F K : row} {A : Nat → row} {Nm : Nat → Int64} (hM_q : MoAt Γ z0 r F K A Nm) {dp : Nat} (hdp : dp ≤ 8) : Sp Γ (rmk k 0 0) uX8_keepsLevel [.ref r, .int (nI dp)] z0 n (qV fun σ' n' => n' = n ∧ ∃ A', MoAt Γ σ' r F K A' Nm ∧ eqx [11] A A' ∧ fr r (r + 16) z0 σ' ∧ ∀ j, A' 11 j = if 26 * dp ≤ j ∧ j < 26 * dp + 26 then K (8 + (j - 26 * dp)) else A 11 j) := by
  have hA_q : eqx [11] A A := eqx.rf
  have hf_q : fr r (r + 16) z0 z0 := fr.rf
  refine sp_intro [some (.ref r), some (.int (nI dp)), none] (by decide +kernel) rfl (Nat.le_of_ble_eq_true rfl) rfl ?_
  refine go_iconst (v := 0) (pc := 0) dX8_keepsLevel_0 (by decide) ?_
  refine go_istore_n (lw := [_, _, _]) (pc := 1) dX8_keepsLevel_1 (by decide) rfl ?_
  refine go_iter (26) (fun i_q lv9 s9 n9 => ∃ A9_q, lv9 = [some (.ref r), some (.int (nI dp)), some (.int (nI i_q))] ∧ (MoAt Γ s9 r F K A9_q Nm) ∧ (eqx [11] A A9_q) ∧ (fr r (r + 16) z0 s9) ∧ (∀ j, A9_q 11 j = if 26 * dp ≤ j ∧ j < 26 * dp + i_q then K (8 + (j - 26 * dp)) else A 11 j) ∧ n = n9) ⟨_, rfl, hM_q, hA_q, hf_q, (fun j => by rw [if_neg (by omega)]), rfl⟩ ?_ ?_
  · rintro i_q lv9 σ n9 hi_q ⟨A9_q, rfl, hM_q, hA_q, hf_q, hG_q, rfl⟩ ih_q
    refine go_iload_n (pc := 2) dX8_keepsLevel_2 rfl ?_
    refine go_bipush (v := 26) (pc := 3) dX8_keepsLevel_3 (by decide) ?_
    refine go_icmp_ge (tgt := 34) (pc := 5) dX8_keepsLevel_5 (by decide) (fun h_5 => by exfalso; exact absurd h_5 (nI_ge (b := 26) (by omega) (by decide))) (fun h_5 => ?_)
    refine go_aload_n (pc := 8) dX8_keepsLevel_8 rfl ?_
    refine go_getf (pc := 9) f_X8_45 dX8_keepsLevel_9 (by first | exact mo0 hM_q | exact mo1 hM_q | exact mo6 hM_q | exact mo7 hM_q | exact mo8 hM_q | exact mo2 hM_q | exact mo3 hM_q | exact mo4 hM_q | exact mo5 hM_q | exact mo9 hM_q | exact mo10 hM_q | exact mo11 hM_q | exact mo12 hM_q | exact mo13 hM_q | exact mo14 hM_q | exact mo15 hM_q | exact mo16 hM_q) (by rfl) ?_
    refine go_bipush (v := 26) (pc := 12) dX8_keepsLevel_12 (by decide) ?_
    refine go_iload_n (pc := 14) dX8_keepsLevel_14 rfl ?_
    refine go_imul (pc := 15) dX8_keepsLevel_15 ?_
    refine go_iload_n (pc := 16) dX8_keepsLevel_16 rfl ?_
    refine go_iadd (pc := 17) dX8_keepsLevel_17 ?_
    refine go_aload_n (pc := 18) dX8_keepsLevel_18 rfl ?_
    refine go_getf (pc := 19) f_X8_9 dX8_keepsLevel_19 (by first | exact mo0 hM_q | exact mo1 hM_q | exact mo6 hM_q | exact mo7 hM_q | exact mo8 hM_q | exact mo2 hM_q | exact mo3 hM_q | exact mo4 hM_q | exact mo5 hM_q | exact mo9 hM_q | exact mo10 hM_q | exact mo11 hM_q | exact mo12 hM_q | exact mo13 hM_q | exact mo14 hM_q | exact mo15 hM_q | exact mo16 hM_q) (by rfl) ?_
    refine go_bipush (v := 8) (pc := 22) dX8_keepsLevel_22 (by decide) ?_
    refine go_iload_n (pc := 24) dX8_keepsLevel_24 rfl ?_
    refine go_iadd (pc := 25) dX8_keepsLevel_25 ?_
    refine go_iald (pc := 26) dX8_keepsLevel_26 (by first | exact mo0 hM_q | exact mo1 hM_q | exact mo6 hM_q | exact mo7 hM_q | exact mo8 hM_q | exact mo2 hM_q | exact mo3 hM_q | exact mo4 hM_q | exact mo5 hM_q | exact mo9 hM_q | exact mo10 hM_q | exact mo11 hM_q | exact mo12 hM_q | exact mo13 hM_q | exact mo14 hM_q | exact mo15 hM_q | exact mo16 hM_q) (by exact ⟨nI_add 8 _, by omega⟩) ?_
    refine go_mst11 (pc := 27) hM_q dX8_keepsLevel_27 (by exact ⟨lev_ix, by omega⟩) (fun σ hM_q hf9 => ?_)
    have hf_q := hf_q.tr hf9
    refine go_iinc (v := 1) (lw := [_, _, _]) (pc := 28) dX8_keepsLevel_28 rfl (by decide) (by decide) rfl ?_
    refine go_goto (tgt := 2) (pc := 31) dX8_keepsLevel_31 (by decide) ?_
    rw [nI_1]
    exact ih_q _ _ _ ⟨_, rfl, hM_q, (by repeat (first | assumption | exact eqx.rf | refine eqx.up ?_ (by decide))), hf_q, (fun j => by simp only [updA, if_true, upd]; by_cases e_q : j = 26 * dp + i_q <;> first | (rw [if_pos e_q, if_pos (by omega), e_q, show 26 * dp + i_q - 26 * dp = i_q by omega]) | (rw [if_neg e_q, hG_q j]; by_cases e2_q : 26 * dp ≤ j ∧ j < 26 * dp + i_q <;> first | rw [if_pos e2_q, if_pos (by omega)] | rw [if_neg e2_q, if_neg (by omega)])), rfl⟩
  · rintro lv9 σ n9 ⟨A9_q, rfl, hM_q, hA_q, hf_q, hG_q, rfl⟩
    refine go_iload_n (pc := 2) dX8_keepsLevel_2 rfl ?_
    refine go_bipush (v := 26) (pc := 3) dX8_keepsLevel_3 (by decide) ?_
    refine go_icmp_ge (tgt := 34) (pc := 5) dX8_keepsLevel_5 (by decide) (fun h_5 => ?_) (fun h_5 => by exfalso; exact h_5 (by decide))
    exact go_vretV (pc := 34) rfl dX8_keepsLevel_34 (Nat.le_of_ble_eq_true rfl) (Nat.le_of_ble_eq_true rfl) ⟨rfl, A9_q, hM_q, hA_q, hf_q, hG_q⟩
theorem sp_backToLevel {Γ : gam} {z0 : sto} {n k r : Nat} {F K : row} {A : Nat → row} {Nm : Nat → Int64} (hM_q : MoAt Γ z0 r F K A Nm) {dp : Nat} (hdp : dp ≤ 8) : Sp Γ (rmk k 0 0) uX8_backToLevel [.ref r, .int (nI dp)] z0 n (qV fun σ' n' => moJ Γ r F (setS K (fun j => A 11 (26 * dp + j))) A Nm z0 n [] σ' n') := by
  have hA_q : eqx [] A A := eqx.rf
  have hf_q : fr r (r + 16) z0 z0 := fr.rf
  refine sp_intro [some (.ref r), some (.int (nI dp)), none] (by decide +kernel) rfl (Nat.le_of_ble_eq_true rfl) rfl ?_
  refine go_iconst (v := 0) (pc := 0) dX8_backToLevel_0 (by decide) ?_
  refine go_istore_n (lw := [_, _, _]) (pc := 1) dX8_backToLevel_1 (by decide) rfl ?_
  refine go_iter (26) (fun i_q lv9 s9 n9 => ∃ A9_q, lv9 = [some (.ref r), some (.int (nI dp)), some (.int (nI i_q))] ∧ (MoAt Γ s9 r F (setN K (fun j => A 11 (26 * dp + j)) i_q) A9_q Nm) ∧ (eqx [] A A9_q) ∧ (fr r (r + 16) z0 s9) ∧ n = n9) ⟨_, rfl, (by rw [setN_0]; exact hM_q), hA_q, hf_q, rfl⟩ ?_ ?_
  · rintro i_q lv9 σ n9 hi_q ⟨A9_q, rfl, hM_q, hA_q, hf_q, rfl⟩ ih_q
    refine go_iload_n (pc := 2) dX8_backToLevel_2 rfl ?_
    refine go_bipush (v := 26) (pc := 3) dX8_backToLevel_3 (by decide) ?_
    refine go_icmp_ge (tgt := 34) (pc := 5) dX8_backToLevel_5 (by decide) (fun h_5 => by exfalso; exact absurd h_5 (nI_ge (b := 26) (by omega) (by decide))) (fun h_5 => ?_)
    refine go_aload_n (pc := 8) dX8_backToLevel_8 rfl ?_
    refine go_getf (pc := 9) f_X8_9 dX8_backToLevel_9 (by first | exact mo0 hM_q | exact mo1 hM_q | exact mo6 hM_q | exact mo7 hM_q | exact mo8 hM_q | exact mo2 hM_q | exact mo3 hM_q | exact mo4 hM_q | exact mo5 hM_q | exact mo9 hM_q | exact mo10 hM_q | exact mo11 hM_q | exact mo12 hM_q | exact mo13 hM_q | exact mo14 hM_q | exact mo15 hM_q | exact mo16 hM_q) (by rfl) ?_
    refine go_bipush (v := 8) (pc := 12) dX8_backToLevel_12 (by decide) ?_
    refine go_iload_n (pc := 14) dX8_backToLevel_14 rfl ?_
    refine go_iadd (pc := 15) dX8_backToLevel_15 ?_
    refine go_aload_n (pc := 16) dX8_backToLevel_16 rfl ?_
    refine go_getf (pc := 17) f_X8_45 dX8_backToLevel_17 (by first | exact mo0 hM_q | exact mo1 hM_q | exact mo6 hM_q | exact mo7 hM_q | exact mo8 hM_q | exact mo2 hM_q | exact mo3 hM_q | exact mo4 hM_q | exact mo5 hM_q | exact mo9 hM_q | exact mo10 hM_q | exact mo11 hM_q | exact mo12 hM_q | exact mo13 hM_q | exact mo14 hM_q | exact mo15 hM_q | exact mo16 hM_q) (by rfl) ?_
    refine go_bipush (v := 26) (pc := 20) dX8_backToLevel_20 (by decide) ?_
    refine go_iload_n (pc := 22) dX8_backToLevel_22 rfl ?_
    refine go_imul (pc := 23) dX8_backToLevel_23 ?_
    refine go_iload_n (pc := 24) dX8_backToLevel_24 rfl ?_
    refine go_iadd (pc := 25) dX8_backToLevel_25 ?_
    refine go_iald (pc := 26) dX8_backToLevel_26 (by first | exact mo0 hM_q | exact mo1 hM_q | exact mo6 hM_q | exact mo7 hM_q | exact mo8 hM_q | exact mo2 hM_q | exact mo3 hM_q | exact mo4 hM_q | exact mo5 hM_q | exact mo9 hM_q | exact mo10 hM_q | exact mo11 hM_q | exact mo12 hM_q | exact mo13 hM_q | exact mo14 hM_q | exact mo15 hM_q | exact mo16 hM_q) (by exact ⟨lev_ix, by omega⟩) ?_
    refine go_mstK (pc := 27) hM_q dX8_backToLevel_27 (by exact ⟨nI_add 8 _, by omega⟩) (fun σ hM_q hf9 => ?_)
    have hf_q := hf_q.tr hf9
    refine go_iinc (v := 1) (lw := [_, _, _]) (pc := 28) dX8_backToLevel_28 rfl (by decide) (by decide) rfl ?_
    refine go_goto (tgt := 2) (pc := 31) dX8_backToLevel_31 (by decide) ?_
    rw [nI_1]
    exact ih_q _ _ _ ⟨_, rfl, (by rw [← setN_s]; rw [hA_q 11 (by decide)] at hM_q; exact hM_q), hA_q, hf_q, rfl⟩
  · rintro lv9 σ n9 ⟨A9_q, rfl, hM_q, hA_q, hf_q, rfl⟩
    refine go_iload_n (pc := 2) dX8_backToLevel_2 rfl ?_
    refine go_bipush (v := 26) (pc := 3) dX8_backToLevel_3 (by decide) ?_
    refine go_icmp_ge (tgt := 34) (pc := 5) dX8_backToLevel_5 (by decide) (fun h_5 => ?_) (fun h_5 => by exfalso; exact h_5 (by decide))
    exact go_vretV (pc := 34) rfl dX8_backToLevel_34 (Nat.le_of_ble_eq_true rfl) (Nat.le_of_ble_eq_true rfl) ⟨rfl, A9_q, (by rw [← setN_26]; exact hM_q), hA_q, hf_q⟩
