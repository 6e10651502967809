/-! ===== the class: questions to a beach ===== -/
theorem c_pn {x : Int32} {m : Nat} (hx_q : x = nI m) (hm_q : m ≤ 100) (z : Int32) : (0 ≤ z ∧ z < x) ↔ (0 ≤ z.toInt ∧ z.toInt < (m : Int)) := by
  rw [hx_q, Int32.le_iff_toInt_le, Int32.lt_iff_toInt_lt, nI_toInt (by omega)]
  exact Iff.rfl
theorem c_no {x : Int32} {m : Nat} (hx_q : x = nI m) (hm_q : m ≤ 100) {z : Int32} (h_q : pN m z.toInt = none) : bI (0 ≤ z ∧ z < x) = 0 := bI_0.mpr fun hc_q => pN_none h_q ((c_pn hx_q hm_q z).mp hc_q)
theorem c_yes {x : Int32} {m j : Nat} (hx_q : x = nI m) (hm_q : m ≤ 100) {z : Int32} (h_q : pN m z.toInt = some j) : bI (0 ≤ z ∧ z < x) = 1 := bI_t ((c_pn hx_q hm_q z).mpr (by have := pN_some h_q; omega))
theorem cch_no {K : row} (hP : okP K) {c w : Int32} (h_q : chK K c.toInt w.toInt = none) : bI ((0 ≤ c ∧ c < K 1) ∧ 0 ≤ w ∧ w < K 2) = 0 := bI_0.mpr fun hc_q => by
  have h1_q := (c_pn hP.2.2.2.2.1 (by have := hP.2.2.2.2.2; omega) c).mp hc_q.1
  have h2_q := (c_pn hP.2.2.1 (by have := hP.2.2.2.1; omega) w).mp hc_q.2
  rw [chK, show pN (kW K) c.toInt = some c.toInt.toNat from if_pos h1_q, show pN (kH K) w.toInt = some w.toInt.toNat from if_pos h2_q] at h_q
  cases h_q
theorem cch_yes {K : row} (hP : okP K) {c w : Int32} {x y : Nat} (h_q : chK K c.toInt w.toInt = some (x, y)) : bI ((0 ≤ c ∧ c < K 1) ∧ 0 ≤ w ∧ w < K 2) = 1 := bI_t (by
  have h3_q := chK_some h_q
  have g1_q := pN_some h3_q.1
  have g2_q := pN_some h3_q.2
  exact ⟨(c_pn hP.2.2.2.2.1 (by have := hP.2.2.2.2.2; omega) c).mpr (by omega), (c_pn hP.2.2.1 (by have := hP.2.2.2.1; omega) w).mpr (by omega)⟩)
theorem c_at {K : row} (hP : okP K) {c w : Nat} (hc_q : c < kW K) (hw_q : w < kH K) : bI ((0 ≤ nI c ∧ nI c < K 1) ∧ 0 ≤ nI w ∧ nI w < K 2) = 1 := cch_yes hP (x := c) (y := w) (by
  have h5_q := hP.2.2.2.1
  have h4_q := hP.2.2.2.2.2
  rw [nI_toInt (by omega), nI_toInt (by omega), chK, pN_nat hc_q, pN_nat hw_q])
theorem cp_isPerson {Γ : gam} {D : Nat} {ro : Nat → Nat} {z0 : sto} {n k b : Nat} {K ag pa pf : row} {lm lt lw : Value} (hQ : BrAt Γ D ro z0 b K ag pa pf lm lt lw) (z : Int32) : Sp Γ (rmk k 0 0) uX0_isPerson [.ref b, .int z] z0 n (qP (bI (0 ≤ z ∧ z < K 3)) z0 n) := by
  refine sp_intro [some (.ref b), some (.int z)] (by decide +kernel) rfl (Nat.le_of_ble_eq_true rfl) rfl ?_
  refine go_iload_n (pc := 0) dX0_isPerson_0 rfl ?_
  refine go_if_lt (tgt := 16) (pc := 1) dX0_isPerson_1 (by decide) (fun h_1 => ?_) (fun h_1 => ?_)
  · refine go_iconst (v := 0) (pc := 16) dX0_isPerson_16 (by decide) ?_
    exact go_zretP (pc := 17) rfl (by first | rfl | exact nb_bI) dX0_isPerson_17 (Nat.le_of_ble_eq_true rfl) (Nat.le_of_ble_eq_true rfl) (by first | exact (bI_f (fun hc_q => absurd hc_q.1 (Int32.not_le.mpr h_1))).symm | exact (bI_f (fun hc_q => absurd hc_q.2 (Int32.not_lt.mpr h_9))).symm | exact (bI_t ⟨Int32.not_lt.mp h_1, Int32.not_le.mp h_9⟩).symm)
  · refine go_iload_n (pc := 4) dX0_isPerson_4 rfl ?_
    refine go_aload_n (pc := 5) dX0_isPerson_5 rfl ?_
    refine go_getf (pc := 6) f_X0_18 dX0_isPerson_6 (by exact be0 hQ) (by rfl) ?_
    refine go_icmp_ge (tgt := 16) (pc := 9) dX0_isPerson_9 (by decide) (fun h_9 => ?_) (fun h_9 => ?_)
    · refine go_iconst (v := 0) (pc := 16) dX0_isPerson_16 (by decide) ?_
      exact go_zretP (pc := 17) rfl (by first | rfl | exact nb_bI) dX0_isPerson_17 (Nat.le_of_ble_eq_true rfl) (Nat.le_of_ble_eq_true rfl) (by first | exact (bI_f (fun hc_q => absurd hc_q.1 (Int32.not_le.mpr h_1))).symm | exact (bI_f (fun hc_q => absurd hc_q.2 (Int32.not_lt.mpr h_9))).symm | exact (bI_t ⟨Int32.not_lt.mp h_1, Int32.not_le.mp h_9⟩).symm)
    · refine go_iconst (v := 1) (pc := 12) dX0_isPerson_12 (by decide) ?_
      refine go_goto (tgt := 17) (pc := 13) dX0_isPerson_13 (by decide) ?_
      exact go_zretP (pc := 17) rfl (by first | rfl | exact nb_bI) dX0_isPerson_17 (Nat.le_of_ble_eq_true rfl) (Nat.le_of_ble_eq_true rfl) (by first | exact (bI_f (fun hc_q => absurd hc_q.1 (Int32.not_le.mpr h_1))).symm | exact (bI_f (fun hc_q => absurd hc_q.2 (Int32.not_lt.mpr h_9))).symm | exact (bI_t ⟨Int32.not_lt.mp h_1, Int32.not_le.mp h_9⟩).symm)
theorem cp_isColumn {Γ : gam} {D : Nat} {ro : Nat → Nat} {z0 : sto} {n k b : Nat} {K ag pa pf : row} {lm lt lw : Value} (hQ : BrAt Γ D ro z0 b K ag pa pf lm lt lw) (z : Int32) : Sp Γ (rmk k 0 0) uX0_isColumn [.ref b, .int z] z0 n (qP (bI (0 ≤ z ∧ z < K 1)) z0 n) := by
  refine sp_intro [some (.ref b), some (.int z)] (by decide +kernel) rfl (Nat.le_of_ble_eq_true rfl) rfl ?_
  refine go_iload_n (pc := 0) dX0_isColumn_0 rfl ?_
  refine go_if_lt (tgt := 16) (pc := 1) dX0_isColumn_1 (by decide) (fun h_1 => ?_) (fun h_1 => ?_)
  · refine go_iconst (v := 0) (pc := 16) dX0_isColumn_16 (by decide) ?_
    exact go_zretP (pc := 17) rfl (by first | rfl | exact nb_bI) dX0_isColumn_17 (Nat.le_of_ble_eq_true rfl) (Nat.le_of_ble_eq_true rfl) (by first | exact (bI_f (fun hc_q => absurd hc_q.1 (Int32.not_le.mpr h_1))).symm | exact (bI_f (fun hc_q => absurd hc_q.2 (Int32.not_lt.mpr h_9))).symm | exact (bI_t ⟨Int32.not_lt.mp h_1, Int32.not_le.mp h_9⟩).symm)
  · refine go_iload_n (pc := 4) dX0_isColumn_4 rfl ?_
    refine go_aload_n (pc := 5) dX0_isColumn_5 rfl ?_
    refine go_getf (pc := 6) f_X0_9 dX0_isColumn_6 (by exact be0 hQ) (by rfl) ?_
    refine go_icmp_ge (tgt := 16) (pc := 9) dX0_isColumn_9 (by decide) (fun h_9 => ?_) (fun h_9 => ?_)
    · refine go_iconst (v := 0) (pc := 16) dX0_isColumn_16 (by decide) ?_
      exact go_zretP (pc := 17) rfl (by first | rfl | exact nb_bI) dX0_isColumn_17 (Nat.le_of_ble_eq_true rfl) (Nat.le_of_ble_eq_true rfl) (by first | exact (bI_f (fun hc_q => absurd hc_q.1 (Int32.not_le.mpr h_1))).symm | exact (bI_f (fun hc_q => absurd hc_q.2 (Int32.not_lt.mpr h_9))).symm | exact (bI_t ⟨Int32.not_lt.mp h_1, Int32.not_le.mp h_9⟩).symm)
    · refine go_iconst (v := 1) (pc := 12) dX0_isColumn_12 (by decide) ?_
      refine go_goto (tgt := 17) (pc := 13) dX0_isColumn_13 (by decide) ?_
      exact go_zretP (pc := 17) rfl (by first | rfl | exact nb_bI) dX0_isColumn_17 (Nat.le_of_ble_eq_true rfl) (Nat.le_of_ble_eq_true rfl) (by first | exact (bI_f (fun hc_q => absurd hc_q.1 (Int32.not_le.mpr h_1))).symm | exact (bI_f (fun hc_q => absurd hc_q.2 (Int32.not_lt.mpr h_9))).symm | exact (bI_t ⟨Int32.not_lt.mp h_1, Int32.not_le.mp h_9⟩).symm)
theorem cp_isChair {Γ : gam} {D : Nat} {ro : Nat → Nat} {z0 : sto} {n k b : Nat} {K ag pa pf : row} {lm lt lw : Value} (hQ : BrAt Γ D ro z0 b K ag pa pf lm lt lw) (hk : 1 ≤ k) (c y : Int32) : Sp Γ (rmk k 0 0) uX0_isChair [.ref b, .int c, .int y] z0 n (qP (bI ((0 ≤ c ∧ c < K 1) ∧ 0 ≤ y ∧ y < K 2)) z0 n) := by
  refine sp_intro [some (.ref b), some (.int c), some (.int y)] (by decide +kernel) rfl (Nat.le_of_ble_eq_true rfl) rfl ?_
  refine go_aload_n (pc := 0) dX0_isChair_0 rfl ?_
  refine go_iload_n (pc := 1) dX0_isChair_1 rfl ?_
  refine go_V1P (pc := 2) v_X0_53 rfl rfl (rcv_of (ci := 0) (by exact be0 hQ) rfl) dX0_isChair_2 (cp_isColumn (k := k - 1) hQ _) ?_
  refine go_if_eq (tgt := 24) (pc := 5) dX0_isChair_5 (by decide) (fun h_5 => ?_) (fun h_5 => ?_)
  · refine go_iconst (v := 0) (pc := 24) dX0_isChair_24 (by decide) ?_
    exact go_zretP (pc := 25) rfl (by first | rfl | exact nb_bI) dX0_isChair_25 (Nat.le_of_ble_eq_true rfl) (Nat.le_of_ble_eq_true rfl) (by first | exact (bI_f (fun hc_q => bI_0.mp h_5 hc_q.1)).symm | exact (bI_f (fun hc_q => absurd hc_q.2.1 (Int32.not_le.mpr h_9))).symm | exact (bI_f (fun hc_q => absurd hc_q.2.2 (Int32.not_lt.mpr h_17))).symm | exact (bI_t ⟨Decidable.not_not.mp (fun hc_q => h_5 (bI_0.mpr hc_q)), Int32.not_lt.mp h_9, Int32.not_le.mp h_17⟩).symm)
  · refine go_iload_n (pc := 8) dX0_isChair_8 rfl ?_
    refine go_if_lt (tgt := 24) (pc := 9) dX0_isChair_9 (by decide) (fun h_9 => ?_) (fun h_9 => ?_)
    · refine go_iconst (v := 0) (pc := 24) dX0_isChair_24 (by decide) ?_
      exact go_zretP (pc := 25) rfl (by first | rfl | exact nb_bI) dX0_isChair_25 (Nat.le_of_ble_eq_true rfl) (Nat.le_of_ble_eq_true rfl) (by first | exact (bI_f (fun hc_q => bI_0.mp h_5 hc_q.1)).symm | exact (bI_f (fun hc_q => absurd hc_q.2.1 (Int32.not_le.mpr h_9))).symm | exact (bI_f (fun hc_q => absurd hc_q.2.2 (Int32.not_lt.mpr h_17))).symm | exact (bI_t ⟨Decidable.not_not.mp (fun hc_q => h_5 (bI_0.mpr hc_q)), Int32.not_lt.mp h_9, Int32.not_le.mp h_17⟩).symm)
    · refine go_iload_n (pc := 12) dX0_isChair_12 rfl ?_
      refine go_aload_n (pc := 13) dX0_isChair_13 rfl ?_
      refine go_getf (pc := 14) f_X0_15 dX0_isChair_14 (by exact be0 hQ) (by rfl) ?_
      refine go_icmp_ge (tgt := 24) (pc := 17) dX0_isChair_17 (by decide) (fun h_17 => ?_) (fun h_17 => ?_)
      · refine go_iconst (v := 0) (pc := 24) dX0_isChair_24 (by decide) ?_
        exact go_zretP (pc := 25) rfl (by first | rfl | exact nb_bI) dX0_isChair_25 (Nat.le_of_ble_eq_true rfl) (Nat.le_of_ble_eq_true rfl) (by first | exact (bI_f (fun hc_q => bI_0.mp h_5 hc_q.1)).symm | exact (bI_f (fun hc_q => absurd hc_q.2.1 (Int32.not_le.mpr h_9))).symm | exact (bI_f (fun hc_q => absurd hc_q.2.2 (Int32.not_lt.mpr h_17))).symm | exact (bI_t ⟨Decidable.not_not.mp (fun hc_q => h_5 (bI_0.mpr hc_q)), Int32.not_lt.mp h_9, Int32.not_le.mp h_17⟩).symm)
      · refine go_iconst (v := 1) (pc := 20) dX0_isChair_20 (by decide) ?_
        refine go_goto (tgt := 25) (pc := 21) dX0_isChair_21 (by decide) ?_
        exact go_zretP (pc := 25) rfl (by first | rfl | exact nb_bI) dX0_isChair_25 (Nat.le_of_ble_eq_true rfl) (Nat.le_of_ble_eq_true rfl) (by first | exact (bI_f (fun hc_q => bI_0.mp h_5 hc_q.1)).symm | exact (bI_f (fun hc_q => absurd hc_q.2.1 (Int32.not_le.mpr h_9))).symm | exact (bI_f (fun hc_q => absurd hc_q.2.2 (Int32.not_lt.mpr h_17))).symm | exact (bI_t ⟨Decidable.not_not.mp (fun hc_q => h_5 (bI_0.mpr hc_q)), Int32.not_lt.mp h_9, Int32.not_le.mp h_17⟩).symm)
theorem cp_isAsleep {Γ : gam} {D : Nat} {ro : Nat → Nat} {z0 : sto} {n k b : Nat} {K ag pa pf : row} {lm lt lw : Value} (hQ : BrAt Γ D ro z0 b K ag pa pf lm lt lw) (p : Int32) : Sp Γ (rmk k 0 0) uX0_isAsleep [.ref b, .int p] z0 n (qP (bI (hasB (K 42) p = true)) z0 n) := by
  refine sp_intro [some (.ref b), some (.int p)] (by decide +kernel) rfl (Nat.le_of_ble_eq_true rfl) rfl ?_
  refine go_aload_n (pc := 0) dX0_isAsleep_0 rfl ?_
  refine go_getf (pc := 1) f_X0_24 dX0_isAsleep_1 (by exact be0 hQ) (by rfl) ?_
  refine go_iload_n (pc := 4) dX0_isAsleep_4 rfl ?_
  refine go_ishr (pc := 5) dX0_isAsleep_5 ?_
  refine go_iconst (v := 1) (pc := 6) dX0_isAsleep_6 (by decide) ?_
  refine go_iand (pc := 7) dX0_isAsleep_7 ?_
  refine go_iconst (v := 1) (pc := 8) dX0_isAsleep_8 (by decide) ?_
  refine go_icmp_ne (tgt := 16) (pc := 9) dX0_isAsleep_9 (by decide) (fun h_9 => ?_) (fun h_9 => ?_)
  · refine go_iconst (v := 0) (pc := 16) dX0_isAsleep_16 (by decide) ?_
    exact go_zretP (pc := 17) rfl (by first | rfl | exact nb_bI) dX0_isAsleep_17 (Nat.le_of_ble_eq_true rfl) (Nat.le_of_ble_eq_true rfl) (by first | exact (bI_f (by simpa [hasB] using h_9)).symm | exact (bI_t (by simpa [hasB] using h_9)).symm)
  · refine go_iconst (v := 1) (pc := 12) dX0_isAsleep_12 (by decide) ?_
    refine go_goto (tgt := 17) (pc := 13) dX0_isAsleep_13 (by decide) ?_
    exact go_zretP (pc := 17) rfl (by first | rfl | exact nb_bI) dX0_isAsleep_17 (Nat.le_of_ble_eq_true rfl) (Nat.le_of_ble_eq_true rfl) (by first | exact (bI_f (by simpa [hasB] using h_9)).symm | exact (bI_t (by simpa [hasB] using h_9)).symm)
theorem cp_everybody {Γ : gam} {D : Nat} {ro : Nat → Nat} {z0 : sto} {n k b : Nat} {K ag pa pf : row} {lm lt lw : Value} (hQ : BrAt Γ D ro z0 b K ag pa pf lm lt lw)  : Sp Γ (rmk k 0 0) uX0_everybody [.ref b] z0 n (qP ((1 : Int32) <<< (K 3 &&& 31) - 1) z0 n) := by
  refine sp_intro [some (.ref b)] (by decide +kernel) rfl (Nat.le_of_ble_eq_true rfl) rfl ?_
  refine go_iconst (v := 1) (pc := 0) dX0_everybody_0 (by decide) ?_
  refine go_aload_n (pc := 1) dX0_everybody_1 rfl ?_
  refine go_getf (pc := 2) f_X0_18 dX0_everybody_2 (by exact be0 hQ) (by rfl) ?_
  refine go_ishl (pc := 5) dX0_everybody_5 ?_
  refine go_iconst (v := 1) (pc := 6) dX0_everybody_6 (by decide) ?_
  refine go_isub (pc := 7) dX0_everybody_7 ?_
  exact go_iretP (pc := 8) rfl dX0_everybody_8 (Nat.le_of_ble_eq_true rfl) (Nat.le_of_ble_eq_true rfl) rfl
theorem cp_lawful {Γ : gam} {D : Nat} {ro : Nat → Nat} {z0 : sto} {n k b : Nat} {K ag pa pf : row} {lm lt lw : Value} (hQ : BrAt Γ D ro z0 b K ag pa pf lm lt lw) (hk : 2 ≤ k) (hB_q : okB K) {p : Nat} (hp_q : p < kP K) (c y : Int32) : Sp Γ (rmk k 0 0) uX0_lawful [.ref b, .int (nI p), .int c, .int y, .int (K 33)] z0 n (qI fun v σ' n' => v = bI (comK K p c y = true) ∧ n' = n ∧ frC Γ ro 1 0 z0 σ') := by
  have hP8 := hB_q.1.2.1
  refine sp_intro [some (.ref b), some (.int (nI p)), some (.int c), some (.int y), some (.int (K 33))] (by decide +kernel) rfl (Nat.le_of_ble_eq_true rfl) rfl ?_
  rcases hQ.2.2.2.2.2.1 with ⟨h4_q, rfl⟩ | ⟨h4_q, l, rfl, hLw⟩
  · refine go_aload_n (pc := 0) dX0_lawful_0 rfl ?_
    refine go_getf (pc := 1) f_X0_37 dX0_lawful_1 (by first | exact be0 hQ | exact be1 hQ) (by rfl) ?_
    refine go_ifnullN (tgt := 28) (pc := 4) dX0_lawful_4 (by decide) ?_
    refine go_iconst (v := 1) (pc := 28) dX0_lawful_28 (by decide) ?_
    refine go_goto (tgt := 33) (pc := 29) dX0_lawful_29 (by decide) ?_
    exact go_zretI (pc := 33) rfl (by first | rfl | exact nb_bI) dX0_lawful_33 (Nat.le_of_ble_eq_true rfl) (Nat.le_of_ble_eq_true rfl) ⟨(bI_t (by rw [comK, if_pos h4_q])).symm, rfl, frC.rf⟩
  · have hok := hB_q.2.1.resolve_left h4_q
    refine go_aload_n (pc := 0) dX0_lawful_0 rfl ?_
    refine go_getf (pc := 1) f_X0_37 dX0_lawful_1 (by first | exact be0 hQ | exact be1 hQ) (by rfl) ?_
    refine go_ifnull (pc := 4) dX0_lawful_4 ?_
    refine go_aload_n (pc := 7) dX0_lawful_7 rfl ?_
    refine go_getf (pc := 8) f_X0_37 dX0_lawful_8 (by first | exact be0 hQ | exact be1 hQ) (by rfl) ?_
    refine go_iload_n (pc := 11) dX0_lawful_11 rfl ?_
    refine go_aload_n (pc := 12) dX0_lawful_12 rfl ?_
    refine go_getf (pc := 13) f_X0_27 dX0_lawful_13 (by first | exact be0 hQ | exact be1 hQ) (by rfl) ?_
    refine go_iload_n (pc := 16) dX0_lawful_16 rfl ?_
    refine go_iald (pc := 17) dX0_lawful_17 (by first | exact be0 hQ | exact be1 hQ) (by exact ⟨rfl, by omega⟩) ?_
    rw [(hQ.2.2.2.2.2.2.2.2 p hp_q).1]
    refine go_iload_n (pc := 18) dX0_lawful_18 rfl ?_
    refine go_iload_n (pc := 19) dX0_lawful_19 rfl ?_
    refine go_iload (pc := 20) dX0_lawful_20 rfl ?_
    refine go_V5I (pc := 22) v_X0_57 rfl rfl (rcv_of (ci := 3) hLw.2.1 rfl) dX0_lawful_22 (sp_value (k := k - 1) (by omega) hLw hok (by decide) _ _ _ _ _) (fun v_22 σ n h_q => ?_)
    obtain ⟨rfl, h01, rfl, hf1⟩ := h_q
    refine go_if_eq (tgt := 32) (pc := 25) dX0_lawful_25 (by decide) (fun h_25 => ?_) (fun h_25 => ?_)
    · refine go_iconst (v := 0) (pc := 32) dX0_lawful_32 (by decide) ?_
      exact go_zretI (pc := 33) rfl (by first | rfl | exact nb_bI) dX0_lawful_33 (Nat.le_of_ble_eq_true rfl) (Nat.le_of_ble_eq_true rfl) ⟨(by first | exact (bI_f (by rw [comK, if_neg h4_q, h_25]; decide)).symm | exact (bI_t (by rw [comK, if_neg h4_q]; exact decide_eq_true ((h01 rfl).resolve_left h_25))).symm), rfl, hf1⟩
    · refine go_iconst (v := 1) (pc := 28) dX0_lawful_28 (by decide) ?_
      refine go_goto (tgt := 33) (pc := 29) dX0_lawful_29 (by decide) ?_
      exact go_zretI (pc := 33) rfl (by first | rfl | exact nb_bI) dX0_lawful_33 (Nat.le_of_ble_eq_true rfl) (Nat.le_of_ble_eq_true rfl) ⟨(by first | exact (bI_f (by rw [comK, if_neg h4_q, h_25]; decide)).symm | exact (bI_t (by rw [comK, if_neg h4_q]; exact decide_eq_true ((h01 rfl).resolve_left h_25))).symm), rfl, hf1⟩
theorem cp_tideIn {Γ : gam} {D : Nat} {ro : Nat → Nat} {z0 : sto} {n k b : Nat} {K ag pa pf : row} {lm lt lw : Value} (hQ : BrAt Γ D ro z0 b K ag pa pf lm lt lw) (hk : 2 ≤ k) (hB_q : okB K) (m : Int32) : Sp Γ (rmk k 0 0) uX0_tideIn [.ref b, .int m] z0 n (qI fun v σ' n' => v = tideK K m ∧ n' = n ∧ frC Γ ro 1 0 z0 σ') := by
  refine sp_intro [some (.ref b), some (.int m)] (by decide +kernel) rfl (Nat.le_of_ble_eq_true rfl) rfl ?_
  rcases hQ.2.2.2.2.2.2.1 with ⟨h4_q, rfl⟩ | ⟨h4_q, l, rfl, hLw⟩
  · refine go_aload_n (pc := 0) dX0_tideIn_0 rfl ?_
    refine go_getf (pc := 1) f_X0_41 dX0_tideIn_1 (by first | exact be0 hQ | exact be1 hQ) (by rfl) ?_
    refine go_ifnonnullN (pc := 4) dX0_tideIn_4 ?_
    refine go_iconst (v := 0) (pc := 7) dX0_tideIn_7 (by decide) ?_
    exact go_iretI (pc := 8) rfl dX0_tideIn_8 (Nat.le_of_ble_eq_true rfl) (Nat.le_of_ble_eq_true rfl) ⟨(by rw [tideK, if_pos h4_q]), rfl, frC.rf⟩
  · have hok := hB_q.2.2.1.resolve_left h4_q
    refine go_aload_n (pc := 0) dX0_tideIn_0 rfl ?_
    refine go_getf (pc := 1) f_X0_41 dX0_tideIn_1 (by first | exact be0 hQ | exact be1 hQ) (by rfl) ?_
    refine go_ifnonnull (tgt := 9) (pc := 4) dX0_tideIn_4 (by decide) ?_
    refine go_iconst (v := 0) (pc := 9) dX0_tideIn_9 (by decide) ?_
    refine go_aload_n (pc := 10) dX0_tideIn_10 rfl ?_
    refine go_getf (pc := 11) f_X0_15 dX0_tideIn_11 (by first | exact be0 hQ | exact be1 hQ) (by rfl) ?_
    refine go_aload_n (pc := 14) dX0_tideIn_14 rfl ?_
    refine go_getf (pc := 15) f_X0_41 dX0_tideIn_15 (by first | exact be0 hQ | exact be1 hQ) (by rfl) ?_
    refine go_iconst (v := 0) (pc := 18) dX0_tideIn_18 (by decide) ?_
    refine go_iconst (v := 0) (pc := 19) dX0_tideIn_19 (by decide) ?_
    refine go_iconst (v := 0) (pc := 20) dX0_tideIn_20 (by decide) ?_
    refine go_iconst (v := 0) (pc := 21) dX0_tideIn_21 (by decide) ?_
    refine go_iload_n (pc := 22) dX0_tideIn_22 rfl ?_
    refine go_V5I (pc := 23) v_X0_57 rfl rfl (rcv_of (ci := 3) hLw.2.1 rfl) dX0_tideIn_23 (sp_value (k := k - 1) (by omega) hLw hok (by decide) _ _ _ _ _) (fun v_23 σ n h_q => ?_)
    obtain ⟨rfl, h01, rfl, hf1⟩ := h_q
    refine go_mmin (pc := 26) s_X0_63 dX0_tideIn_26 ?_
    refine go_mmax (pc := 29) s_X0_69 dX0_tideIn_29 ?_
    exact go_iretI (pc := 32) rfl dX0_tideIn_32 (Nat.le_of_ble_eq_true rfl) (Nat.le_of_ble_eq_true rfl) ⟨(by rw [tideK, if_neg h4_q]; rfl), rfl, hf1⟩
theorem cp_waveOn {Γ : gam} {D : Nat} {ro : Nat → Nat} {z0 : sto} {n k b : Nat} {K ag pa pf : row} {lm lt lw : Value} (hQ : BrAt Γ D ro z0 b K ag pa pf lm lt lw) (hk : 2 ≤ k) (hB_q : okB K) (c y m : Int32) : Sp Γ (rmk k 0 0) uX0_waveOn [.ref b, .int c, .int y, .int m] z0 n (qI fun v σ' n' => v = waveK K c y m ∧ n' = n ∧ frC Γ ro 1 0 z0 σ') := by
  refine sp_intro [some (.ref b), some (.int c), some (.int y), some (.int m)] (by decide +kernel) rfl (Nat.le_of_ble_eq_true rfl) rfl ?_
  rcases hQ.2.2.2.2.2.2.2.1 with ⟨h4_q, rfl⟩ | ⟨h4_q, l, rfl, hLw⟩
  · refine go_aload_n (pc := 0) dX0_waveOn_0 rfl ?_
    refine go_getf (pc := 1) f_X0_44 dX0_waveOn_1 (by first | exact be0 hQ | exact be1 hQ) (by rfl) ?_
    refine go_ifnonnullN (pc := 4) dX0_waveOn_4 ?_
    refine go_iload_n (pc := 7) dX0_waveOn_7 rfl ?_
    refine go_if_ne (tgt := 15) (pc := 8) dX0_waveOn_8 (by decide) (fun h_8 => ?_) (fun h_8 => ?_)
    · refine go_iconst (v := 0) (pc := 15) dX0_waveOn_15 (by decide) ?_
      exact go_iretI (pc := 16) rfl dX0_waveOn_16 (Nat.le_of_ble_eq_true rfl) (Nat.le_of_ble_eq_true rfl) ⟨(by rw [waveK, if_pos h4_q]; first | rw [if_pos h_8] | rw [if_neg h_8]), rfl, frC.rf⟩
    · refine go_iconst (v := 5) (pc := 11) dX0_waveOn_11 (by decide) ?_
      refine go_goto (tgt := 16) (pc := 12) dX0_waveOn_12 (by decide) ?_
      exact go_iretI (pc := 16) rfl dX0_waveOn_16 (Nat.le_of_ble_eq_true rfl) (Nat.le_of_ble_eq_true rfl) ⟨(by rw [waveK, if_pos h4_q]; first | rw [if_pos h_8] | rw [if_neg h_8]), rfl, frC.rf⟩
  · have hok := hB_q.2.2.2.resolve_left h4_q
    refine go_aload_n (pc := 0) dX0_waveOn_0 rfl ?_
    refine go_getf (pc := 1) f_X0_44 dX0_waveOn_1 (by first | exact be0 hQ | exact be1 hQ) (by rfl) ?_
    refine go_ifnonnull (tgt := 17) (pc := 4) dX0_waveOn_4 (by decide) ?_
    refine go_iconst (v := 0) (pc := 17) dX0_waveOn_17 (by decide) ?_
    refine go_bipush (v := 10) (pc := 18) dX0_waveOn_18 (by decide) ?_
    refine go_aload_n (pc := 20) dX0_waveOn_20 rfl ?_
    refine go_getf (pc := 21) f_X0_44 dX0_waveOn_21 (by first | exact be0 hQ | exact be1 hQ) (by rfl) ?_
    refine go_iconst (v := 0) (pc := 24) dX0_waveOn_24 (by decide) ?_
    refine go_iconst (v := 0) (pc := 25) dX0_waveOn_25 (by decide) ?_
    refine go_iload_n (pc := 26) dX0_waveOn_26 rfl ?_
    refine go_iload_n (pc := 27) dX0_waveOn_27 rfl ?_
    refine go_iload_n (pc := 28) dX0_waveOn_28 rfl ?_
    refine go_V5I (pc := 29) v_X0_57 rfl rfl (rcv_of (ci := 3) hLw.2.1 rfl) dX0_waveOn_29 (sp_value (k := k - 1) (by omega) hLw hok (by decide) _ _ _ _ _) (fun v_29 σ n h_q => ?_)
    obtain ⟨rfl, h01, rfl, hf1⟩ := h_q
    refine go_mmin (pc := 32) s_X0_63 dX0_waveOn_32 ?_
    refine go_mmax (pc := 35) s_X0_69 dX0_waveOn_35 ?_
    exact go_iretI (pc := 38) rfl dX0_waveOn_38 (Nat.le_of_ble_eq_true rfl) (Nat.le_of_ble_eq_true rfl) ⟨(by rw [waveK, if_neg h4_q]; rfl), rfl, hf1⟩
