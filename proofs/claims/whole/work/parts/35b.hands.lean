/-! ===== the reference: hands ===== -/
theorem side_iff {K : row} {p q : Nat} : sideK K p q = true ↔ (K (16 + p) ≠ -1 ∧ K (16 + q) ≠ -1 ∧ abI (K (8 + p) - K (8 + q)) + abI (K (16 + p) - K (16 + q)) = 1) := by simp only [sideK, decide_eq_true_eq]
theorem sp_areSide {Γ : gam} {z0 : sto} {n k r : Nat} {F K : row} {A : Nat → row} {Nm : Nat → Int64} (hM_q : MoAt Γ z0 r F K A Nm) (hk : 2 ≤ k) {p q : Nat} (hp_q : p < 8) (hq_q : q < 8) : Sp Γ (rmk k 0 0) uX8_areSide [.ref r, .int (nI p), .int (nI q)] z0 n (qP (bI (sideK K p q = true)) z0 n) := by
  refine sp_intro [some (.ref r), some (.int (nI p)), some (.int (nI q))] (by decide +kernel) rfl (Nat.le_of_ble_eq_true rfl) rfl ?_
  refine go_aload_n (pc := 0) dX8_areSide_0 rfl ?_
  refine go_iload_n (pc := 1) dX8_areSide_1 rfl ?_
  refine go_V1P (pc := 2) v_X8_296 rfl rfl (rcv_of (ci := 8) (by first | exact mo0 hM_q | exact mo1 hM_q | exact mo6 hM_q | exact mo7 hM_q | exact mo8 hM_q | exact mo2 hM_q | exact mo3 hM_q | exact mo4 hM_q | exact mo5 hM_q | exact mo9 hM_q | exact mo10 hM_q | exact mo11 hM_q | exact mo12 hM_q | exact mo13 hM_q | exact mo14 hM_q | exact mo15 hM_q | exact mo16 hM_q) rfl) dX8_areSide_2 (sp_isUp (k := k - 1) hM_q (by omega)) ?_
  refine go_if_ne (tgt := 69) (pc := 5) dX8_areSide_5 (by decide) (fun h_5 => ?_) (fun h_5 => ?_)
  · refine go_iconst (v := 0) (pc := 69) dX8_areSide_69 (by decide) ?_
    exact go_zretP (pc := 70) rfl (by first | rfl | exact nb_bI) dX8_areSide_70 (Nat.le_of_ble_eq_true rfl) (Nat.le_of_ble_eq_true rfl) (by first | exact (bI_t (side_iff.mpr ⟨bI_0.mp h_5, bI_0.mp h_13, h_62⟩)).symm | exact (bI_f (fun hc_q => h_62 (side_iff.mp hc_q).2.2)).symm | exact (bI_f (fun hc_q => h_13 (bI_0.mpr (side_iff.mp hc_q).2.1))).symm | exact (bI_f (fun hc_q => h_5 (bI_0.mpr (side_iff.mp hc_q).1))).symm)
  · refine go_aload_n (pc := 8) dX8_areSide_8 rfl ?_
    refine go_iload_n (pc := 9) dX8_areSide_9 rfl ?_
    refine go_V1P (pc := 10) v_X8_296 rfl rfl (rcv_of (ci := 8) (by first | exact mo0 hM_q | exact mo1 hM_q | exact mo6 hM_q | exact mo7 hM_q | exact mo8 hM_q | exact mo2 hM_q | exact mo3 hM_q | exact mo4 hM_q | exact mo5 hM_q | exact mo9 hM_q | exact mo10 hM_q | exact mo11 hM_q | exact mo12 hM_q | exact mo13 hM_q | exact mo14 hM_q | exact mo15 hM_q | exact mo16 hM_q) rfl) dX8_areSide_10 (sp_isUp (k := k - 1) hM_q (by omega)) ?_
    refine go_if_ne (tgt := 69) (pc := 13) dX8_areSide_13 (by decide) (fun h_13 => ?_) (fun h_13 => ?_)
    · refine go_iconst (v := 0) (pc := 69) dX8_areSide_69 (by decide) ?_
      exact go_zretP (pc := 70) rfl (by first | rfl | exact nb_bI) dX8_areSide_70 (Nat.le_of_ble_eq_true rfl) (Nat.le_of_ble_eq_true rfl) (by first | exact (bI_t (side_iff.mpr ⟨bI_0.mp h_5, bI_0.mp h_13, h_62⟩)).symm | exact (bI_f (fun hc_q => h_62 (side_iff.mp hc_q).2.2)).symm | exact (bI_f (fun hc_q => h_13 (bI_0.mpr (side_iff.mp hc_q).2.1))).symm | exact (bI_f (fun hc_q => h_5 (bI_0.mpr (side_iff.mp hc_q).1))).symm)
    · refine go_aload_n (pc := 16) dX8_areSide_16 rfl ?_
      refine go_getf (pc := 17) f_X8_9 dX8_areSide_17 (by first | exact mo0 hM_q | exact mo1 hM_q | exact mo6 hM_q | exact mo7 hM_q | exact mo8 hM_q | exact mo2 hM_q | exact mo3 hM_q | exact mo4 hM_q | exact mo5 hM_q | exact mo9 hM_q | exact mo10 hM_q | exact mo11 hM_q | exact mo12 hM_q | exact mo13 hM_q | exact mo14 hM_q | exact mo15 hM_q | exact mo16 hM_q) (by rfl) ?_
      refine go_bipush (v := 8) (pc := 20) dX8_areSide_20 (by decide) ?_
      refine go_iload_n (pc := 22) dX8_areSide_22 rfl ?_
      refine go_iadd (pc := 23) dX8_areSide_23 ?_
      refine go_iald (pc := 24) dX8_areSide_24 (by first | exact mo0 hM_q | exact mo1 hM_q | exact mo6 hM_q | exact mo7 hM_q | exact mo8 hM_q | exact mo2 hM_q | exact mo3 hM_q | exact mo4 hM_q | exact mo5 hM_q | exact mo9 hM_q | exact mo10 hM_q | exact mo11 hM_q | exact mo12 hM_q | exact mo13 hM_q | exact mo14 hM_q | exact mo15 hM_q | exact mo16 hM_q) (by exact ⟨nI_add 8 _, by omega⟩) ?_
      refine go_aload_n (pc := 25) dX8_areSide_25 rfl ?_
      refine go_getf (pc := 26) f_X8_9 dX8_areSide_26 (by first | exact mo0 hM_q | exact mo1 hM_q | exact mo6 hM_q | exact mo7 hM_q | exact mo8 hM_q | exact mo2 hM_q | exact mo3 hM_q | exact mo4 hM_q | exact mo5 hM_q | exact mo9 hM_q | exact mo10 hM_q | exact mo11 hM_q | exact mo12 hM_q | exact mo13 hM_q | exact mo14 hM_q | exact mo15 hM_q | exact mo16 hM_q) (by rfl) ?_
      refine go_bipush (v := 8) (pc := 29) dX8_areSide_29 (by decide) ?_
      refine go_iload_n (pc := 31) dX8_areSide_31 rfl ?_
      refine go_iadd (pc := 32) dX8_areSide_32 ?_
      refine go_iald (pc := 33) dX8_areSide_33 (by first | exact mo0 hM_q | exact mo1 hM_q | exact mo6 hM_q | exact mo7 hM_q | exact mo8 hM_q | exact mo2 hM_q | exact mo3 hM_q | exact mo4 hM_q | exact mo5 hM_q | exact mo9 hM_q | exact mo10 hM_q | exact mo11 hM_q | exact mo12 hM_q | exact mo13 hM_q | exact mo14 hM_q | exact mo15 hM_q | exact mo16 hM_q) (by exact ⟨nI_add 8 _, by omega⟩) ?_
      refine go_isub (pc := 34) dX8_areSide_34 ?_
      refine go_mabs (pc := 35) s_X8_425 dX8_areSide_35 ?_
      refine go_aload_n (pc := 38) dX8_areSide_38 rfl ?_
      refine go_getf (pc := 39) f_X8_9 dX8_areSide_39 (by first | exact mo0 hM_q | exact mo1 hM_q | exact mo6 hM_q | exact mo7 hM_q | exact mo8 hM_q | exact mo2 hM_q | exact mo3 hM_q | exact mo4 hM_q | exact mo5 hM_q | exact mo9 hM_q | exact mo10 hM_q | exact mo11 hM_q | exact mo12 hM_q | exact mo13 hM_q | exact mo14 hM_q | exact mo15 hM_q | exact mo16 hM_q) (by rfl) ?_
      refine go_bipush (v := 16) (pc := 42) dX8_areSide_42 (by decide) ?_
      refine go_iload_n (pc := 44) dX8_areSide_44 rfl ?_
      refine go_iadd (pc := 45) dX8_areSide_45 ?_
      refine go_iald (pc := 46) dX8_areSide_46 (by first | exact mo0 hM_q | exact mo1 hM_q | exact mo6 hM_q | exact mo7 hM_q | exact mo8 hM_q | exact mo2 hM_q | exact mo3 hM_q | exact mo4 hM_q | exact mo5 hM_q | exact mo9 hM_q | exact mo10 hM_q | exact mo11 hM_q | exact mo12 hM_q | exact mo13 hM_q | exact mo14 hM_q | exact mo15 hM_q | exact mo16 hM_q) (by exact ⟨nI_add 16 _, by omega⟩) ?_
      refine go_aload_n (pc := 47) dX8_areSide_47 rfl ?_
      refine go_getf (pc := 48) f_X8_9 dX8_areSide_48 (by first | exact mo0 hM_q | exact mo1 hM_q | exact mo6 hM_q | exact mo7 hM_q | exact mo8 hM_q | exact mo2 hM_q | exact mo3 hM_q | exact mo4 hM_q | exact mo5 hM_q | exact mo9 hM_q | exact mo10 hM_q | exact mo11 hM_q | exact mo12 hM_q | exact mo13 hM_q | exact mo14 hM_q | exact mo15 hM_q | exact mo16 hM_q) (by rfl) ?_
      refine go_bipush (v := 16) (pc := 51) dX8_areSide_51 (by decide) ?_
      refine go_iload_n (pc := 53) dX8_areSide_53 rfl ?_
      refine go_iadd (pc := 54) dX8_areSide_54 ?_
      refine go_iald (pc := 55) dX8_areSide_55 (by first | exact mo0 hM_q | exact mo1 hM_q | exact mo6 hM_q | exact mo7 hM_q | exact mo8 hM_q | exact mo2 hM_q | exact mo3 hM_q | exact mo4 hM_q | exact mo5 hM_q | exact mo9 hM_q | exact mo10 hM_q | exact mo11 hM_q | exact mo12 hM_q | exact mo13 hM_q | exact mo14 hM_q | exact mo15 hM_q | exact mo16 hM_q) (by exact ⟨nI_add 16 _, by omega⟩) ?_
      refine go_isub (pc := 56) dX8_areSide_56 ?_
      refine go_mabs (pc := 57) s_X8_425 dX8_areSide_57 ?_
      refine go_iadd (pc := 60) dX8_areSide_60 ?_
      refine go_iconst (v := 1) (pc := 61) dX8_areSide_61 (by decide) ?_
      refine go_icmp_ne (tgt := 69) (pc := 62) dX8_areSide_62 (by decide) (fun h_62 => ?_) (fun h_62 => ?_)
      · refine go_iconst (v := 0) (pc := 69) dX8_areSide_69 (by decide) ?_
        exact go_zretP (pc := 70) rfl (by first | rfl | exact nb_bI) dX8_areSide_70 (Nat.le_of_ble_eq_true rfl) (Nat.le_of_ble_eq_true rfl) (by first | exact (bI_t (side_iff.mpr ⟨bI_0.mp h_5, bI_0.mp h_13, h_62⟩)).symm | exact (bI_f (fun hc_q => h_62 (side_iff.mp hc_q).2.2)).symm | exact (bI_f (fun hc_q => h_13 (bI_0.mpr (side_iff.mp hc_q).2.1))).symm | exact (bI_f (fun hc_q => h_5 (bI_0.mpr (side_iff.mp hc_q).1))).symm)
      · refine go_iconst (v := 1) (pc := 65) dX8_areSide_65 (by decide) ?_
        refine go_goto (tgt := 70) (pc := 66) dX8_areSide_66 (by decide) ?_
        exact go_zretP (pc := 70) rfl (by first | rfl | exact nb_bI) dX8_areSide_70 (Nat.le_of_ble_eq_true rfl) (Nat.le_of_ble_eq_true rfl) (by first | exact (bI_t (side_iff.mpr ⟨bI_0.mp h_5, bI_0.mp h_13, h_62⟩)).symm | exact (bI_f (fun hc_q => h_62 (side_iff.mp hc_q).2.2)).symm | exact (bI_f (fun hc_q => h_13 (bI_0.mpr (side_iff.mp hc_q).2.1))).symm | exact (bI_f (fun hc_q => h_5 (bI_0.mpr (side_iff.mp hc_q).1))).symm)
theorem sp_besides {Γ : gam} {z0 : sto} {n k r : Nat} {F K : row} {A : Nat → row} {Nm : Nat → Int64} (hM_q : MoAt Γ z0 r F K A Nm) (hk : 3 ≤ k) (hB_q : okB K) (s : Int32) : Sp Γ (rmk k 0 0) uX8_besides [.ref r, .int s] z0 n (qP (besK K s) z0 n) := by
  have hP8 := hB_q.1.2.1
  refine sp_intro [some (.ref r), some (.int s), none, none, none] (by decide +kernel) rfl (Nat.le_of_ble_eq_true rfl) rfl ?_
  refine go_iload_n (pc := 0) dX8_besides_0 rfl ?_
  refine go_istore_n (lw := [_, _, _, _, _]) (pc := 1) dX8_besides_1 (by decide) rfl ?_
  refine go_iconst (v := 0) (pc := 2) dX8_besides_2 (by decide) ?_
  refine go_istore_n (lw := [_, _, _, _, _]) (pc := 3) dX8_besides_3 (by decide) rfl ?_
  refine go_iter (kP K) (fun i_q lv9 s9 n9 => ∃ (x2_q : Int32), ∃ x4_q, lv9 = [some (.ref r), some (.int s), some (.int x2_q), some (.int (nI i_q)), x4_q] ∧ (besF K s (kP K - i_q) i_q x2_q = besK K s) ∧ (z0 = s9) ∧ n = n9) ⟨s, none, rfl, rfl, rfl, rfl⟩ ?_ ?_
  · rintro i_q lv9 σ n9 hi_q ⟨x2_q, x4_q, rfl, hR_q, rfl, rfl⟩ ih_q
    refine go_iload_n (pc := 4) dX8_besides_4 rfl ?_
    refine go_aload_n (pc := 5) dX8_besides_5 rfl ?_
    refine go_V0P (pc := 6) v_X8_242 rfl rfl (rcv_of (ci := 8) (by first | exact mo0 hM_q | exact mo1 hM_q | exact mo6 hM_q | exact mo7 hM_q | exact mo8 hM_q | exact mo2 hM_q | exact mo3 hM_q | exact mo4 hM_q | exact mo5 hM_q | exact mo9 hM_q | exact mo10 hM_q | exact mo11 hM_q | exact mo12 hM_q | exact mo13 hM_q | exact mo14 hM_q | exact mo15 hM_q | exact mo16 hM_q) rfl) dX8_besides_6 (sp_people (k := k - 1) hM_q) ?_
    rw [hB_q.1.1]
    refine go_icmp_ge (tgt := 61) (pc := 9) dX8_besides_9 (by decide) (fun h_9 => by exfalso; exact absurd h_9 (nI_ge (by omega) (by omega))) (fun h_9 => ?_)
    refine go_iconst (v := 0) (pc := 12) dX8_besides_12 (by decide) ?_
    refine go_istore (lw := [_, _, _, _, _]) (pc := 13) dX8_besides_13 (by decide) rfl ?_
    refine go_iter (kP K) (fun i2_q lv9 s9 n9 => ∃ (y1_q : Int32), lv9 = [some (.ref r), some (.int s), some (.int y1_q), some (.int (nI i_q)), some (.int (nI i2_q))] ∧ (bits (fun q => hasB s (nI i_q) && sideK K i_q q) (kP K - i2_q) i2_q y1_q = bits (fun q => hasB s (nI i_q) && sideK K i_q q) (kP K) 0 x2_q) ∧ (z0 = s9) ∧ n = n9) ⟨x2_q, rfl, rfl, rfl, rfl⟩ ?_ ?_
    · rintro i2_q lv9 σ n9 hi2_q ⟨y1_q, rfl, hR2, rfl, rfl⟩ ih2_q
      refine go_iload (pc := 15) dX8_besides_15 rfl ?_
      refine go_aload_n (pc := 17) dX8_besides_17 rfl ?_
      refine go_V0P (pc := 18) v_X8_242 rfl rfl (rcv_of (ci := 8) (by first | exact mo0 hM_q | exact mo1 hM_q | exact mo6 hM_q | exact mo7 hM_q | exact mo8 hM_q | exact mo2 hM_q | exact mo3 hM_q | exact mo4 hM_q | exact mo5 hM_q | exact mo9 hM_q | exact mo10 hM_q | exact mo11 hM_q | exact mo12 hM_q | exact mo13 hM_q | exact mo14 hM_q | exact mo15 hM_q | exact mo16 hM_q) rfl) dX8_besides_18 (sp_people (k := k - 1) hM_q) ?_
      rw [hB_q.1.1]
      refine go_icmp_ge (tgt := 55) (pc := 21) dX8_besides_21 (by decide) (fun h_21 => by exfalso; exact absurd h_21 (nI_ge (by omega) (by omega))) (fun h_21 => ?_)
      refine go_iload_n (pc := 24) dX8_besides_24 rfl ?_
      refine go_iload_n (pc := 25) dX8_besides_25 rfl ?_
      refine go_S2P (pc := 26) s_X8_249 rfl rfl dX8_besides_26 (sp_has (k := k - 1) _ _) ?_
      refine go_if_eq (tgt := 49) (pc := 29) dX8_besides_29 (by decide) (fun h_29 => ?_) (fun h_29 => ?_)
      · refine go_iinc (v := 1) (lw := [_, _, _, _, _]) (pc := 49) dX8_besides_49 rfl (by decide) (by decide) rfl ?_
        refine go_goto (tgt := 15) (pc := 52) dX8_besides_52 (by decide) ?_
        rw [nI_1]
        first
          | (have hq0 := bI_0.mp h_29; exact ih2_q _ _ _ ⟨_, rfl, (by rw [← hR2, bits_step hi2_q, if_neg (by simp [hasB, hq0])]; simp), rfl, rfl⟩)
          | (have hq0 := bI_0.mp h_39; exact ih2_q _ _ _ ⟨_, rfl, (by rw [← hR2, bits_step hi2_q, if_neg (by simp [hq0])]; simp), rfl, rfl⟩)
          | (have hq0 := Decidable.not_not.mp (fun hc_q => h_29 (bI_0.mpr hc_q)); have hq1 := Decidable.not_not.mp (fun hc_q => h_39 (bI_0.mpr hc_q)); exact ih2_q _ _ _ ⟨_, rfl, (by rw [← hR2, bits_step hi2_q, if_pos (by simp only [Bool.and_eq_true]; exact ⟨by simpa [hasB] using hq0, hq1⟩)]), rfl, rfl⟩)
      · refine go_aload_n (pc := 32) dX8_besides_32 rfl ?_
        refine go_iload_n (pc := 33) dX8_besides_33 rfl ?_
        refine go_iload (pc := 34) dX8_besides_34 rfl ?_
        refine go_V2P (pc := 36) v_X8_428 rfl rfl (rcv_of (ci := 8) (by first | exact mo0 hM_q | exact mo1 hM_q | exact mo6 hM_q | exact mo7 hM_q | exact mo8 hM_q | exact mo2 hM_q | exact mo3 hM_q | exact mo4 hM_q | exact mo5 hM_q | exact mo9 hM_q | exact mo10 hM_q | exact mo11 hM_q | exact mo12 hM_q | exact mo13 hM_q | exact mo14 hM_q | exact mo15 hM_q | exact mo16 hM_q) rfl) dX8_besides_36 (sp_areSide (k := k - 1) hM_q (by omega) (by omega) (by omega)) ?_
        refine go_if_eq (tgt := 49) (pc := 39) dX8_besides_39 (by decide) (fun h_39 => ?_) (fun h_39 => ?_)
        · refine go_iinc (v := 1) (lw := [_, _, _, _, _]) (pc := 49) dX8_besides_49 rfl (by decide) (by decide) rfl ?_
          refine go_goto (tgt := 15) (pc := 52) dX8_besides_52 (by decide) ?_
          rw [nI_1]
          first
            | (have hq0 := bI_0.mp h_29; exact ih2_q _ _ _ ⟨_, rfl, (by rw [← hR2, bits_step hi2_q, if_neg (by simp [hasB, hq0])]; simp), rfl, rfl⟩)
            | (have hq0 := bI_0.mp h_39; exact ih2_q _ _ _ ⟨_, rfl, (by rw [← hR2, bits_step hi2_q, if_neg (by simp [hq0])]; simp), rfl, rfl⟩)
            | (have hq0 := Decidable.not_not.mp (fun hc_q => h_29 (bI_0.mpr hc_q)); have hq1 := Decidable.not_not.mp (fun hc_q => h_39 (bI_0.mpr hc_q)); exact ih2_q _ _ _ ⟨_, rfl, (by rw [← hR2, bits_step hi2_q, if_pos (by simp only [Bool.and_eq_true]; exact ⟨by simpa [hasB] using hq0, hq1⟩)]), rfl, rfl⟩)
        · refine go_iload_n (pc := 42) dX8_besides_42 rfl ?_
          refine go_iconst (v := 1) (pc := 43) dX8_besides_43 (by decide) ?_
          refine go_iload (pc := 44) dX8_besides_44 rfl ?_
          refine go_ishl (pc := 46) dX8_besides_46 ?_
          refine go_ior (pc := 47) dX8_besides_47 ?_
          refine go_istore_n (lw := [_, _, _, _, _]) (pc := 48) dX8_besides_48 (by decide) rfl ?_
          refine go_iinc (v := 1) (lw := [_, _, _, _, _]) (pc := 49) dX8_besides_49 rfl (by decide) (by decide) rfl ?_
          refine go_goto (tgt := 15) (pc := 52) dX8_besides_52 (by decide) ?_
          rw [nI_1]
          first
            | (have hq0 := bI_0.mp h_29; exact ih2_q _ _ _ ⟨_, rfl, (by rw [← hR2, bits_step hi2_q, if_neg (by simp [hasB, hq0])]; simp), rfl, rfl⟩)
            | (have hq0 := bI_0.mp h_39; exact ih2_q _ _ _ ⟨_, rfl, (by rw [← hR2, bits_step hi2_q, if_neg (by simp [hq0])]; simp), rfl, rfl⟩)
            | (have hq0 := Decidable.not_not.mp (fun hc_q => h_29 (bI_0.mpr hc_q)); have hq1 := Decidable.not_not.mp (fun hc_q => h_39 (bI_0.mpr hc_q)); exact ih2_q _ _ _ ⟨_, rfl, (by rw [← hR2, bits_step hi2_q, if_pos (by simp only [Bool.and_eq_true]; exact ⟨by simpa [hasB] using hq0, hq1⟩)]), rfl, rfl⟩)
    · rintro lv9 σ n9 ⟨y1_q, rfl, hR2, rfl, rfl⟩
      refine go_iload (pc := 15) dX8_besides_15 rfl ?_
      refine go_aload_n (pc := 17) dX8_besides_17 rfl ?_
      refine go_V0P (pc := 18) v_X8_242 rfl rfl (rcv_of (ci := 8) (by first | exact mo0 hM_q | exact mo1 hM_q | exact mo6 hM_q | exact mo7 hM_q | exact mo8 hM_q | exact mo2 hM_q | exact mo3 hM_q | exact mo4 hM_q | exact mo5 hM_q | exact mo9 hM_q | exact mo10 hM_q | exact mo11 hM_q | exact mo12 hM_q | exact mo13 hM_q | exact mo14 hM_q | exact mo15 hM_q | exact mo16 hM_q) rfl) dX8_besides_18 (sp_people (k := k - 1) hM_q) ?_
      rw [hB_q.1.1]
      refine go_icmp_ge (tgt := 55) (pc := 21) dX8_besides_21 (by decide) (fun h_21 => ?_) (fun h_21 => by exfalso; exact h_21 (nI_le (by omega) (by omega)))
      refine go_iinc (v := 1) (lw := [_, _, _, _, _]) (pc := 55) dX8_besides_55 rfl (by decide) (by decide) rfl ?_
      refine go_goto (tgt := 4) (pc := 58) dX8_besides_58 (by decide) ?_
      rw [nI_1]
      exact ih_q _ _ _ ⟨_, _, rfl, (by rw [← hR_q, besF_step hi_q]; congr 1; rw [Nat.sub_self] at hR2; exact hR2), rfl, rfl⟩
  · rintro lv9 σ n9 ⟨x2_q, x4_q, rfl, hR_q, rfl, rfl⟩
    refine go_iload_n (pc := 4) dX8_besides_4 rfl ?_
    refine go_aload_n (pc := 5) dX8_besides_5 rfl ?_
    refine go_V0P (pc := 6) v_X8_242 rfl rfl (rcv_of (ci := 8) (by first | exact mo0 hM_q | exact mo1 hM_q | exact mo6 hM_q | exact mo7 hM_q | exact mo8 hM_q | exact mo2 hM_q | exact mo3 hM_q | exact mo4 hM_q | exact mo5 hM_q | exact mo9 hM_q | exact mo10 hM_q | exact mo11 hM_q | exact mo12 hM_q | exact mo13 hM_q | exact mo14 hM_q | exact mo15 hM_q | exact mo16 hM_q) rfl) dX8_besides_6 (sp_people (k := k - 1) hM_q) ?_
    rw [hB_q.1.1]
    refine go_icmp_ge (tgt := 61) (pc := 9) dX8_besides_9 (by decide) (fun h_9 => ?_) (fun h_9 => by exfalso; exact h_9 (nI_le (by omega) (by omega)))
    refine go_iload_n (pc := 61) dX8_besides_61 rfl ?_
    exact go_iretP (pc := 62) rfl dX8_besides_62 (Nat.le_of_ble_eq_true rfl) (Nat.le_of_ble_eq_true rfl) (by rw [Nat.sub_self] at hR_q; exact hR_q)
theorem sp_handsFrom {Γ : gam} {z0 : sto} {n k r : Nat} {F K : row} {A : Nat → row} {Nm : Nat → Int64} (hM_q : MoAt Γ z0 r F K A Nm) (hk : 4 ≤ k) (hB_q : okB K) (s q b : Int32) : Sp Γ (rmk k 0 0) uX8_handsFrom [.ref r, .int s, .int q, .int b] z0 n (qP (hfK K s q b) z0 n) := by
  have hP8 := hB_q.1.2.1
  refine sp_intro [some (.ref r), some (.int s), some (.int q), some (.int b), none, none] (by decide +kernel) rfl (Nat.le_of_ble_eq_true rfl) rfl ?_
  refine go_iload_n (pc := 0) dX8_handsFrom_0 rfl ?_
  refine go_istore (lw := [_, _, _, _, _, _]) (pc := 1) dX8_handsFrom_1 (by decide) rfl ?_
  refine go_iconst (v := 0) (pc := 3) dX8_handsFrom_3 (by decide) ?_
  refine go_istore (lw := [_, _, _, _, _, _]) (pc := 4) dX8_handsFrom_4 (by decide) rfl ?_
  refine go_iter (8) (fun i_q lv9 s9 n9 => ∃ (x4_q : Int32), lv9 = [some (.ref r), some (.int s), some (.int q), some (.int b), some (.int x4_q), some (.int (nI i_q))] ∧ (hfF K q b (8 - i_q) i_q x4_q = hfF K q b 8 0 s) ∧ (z0 = s9) ∧ n = n9) ⟨s, rfl, rfl, rfl, rfl⟩ ?_ ?_
  · rintro i_q lv9 σ n9 hi_q ⟨x4_q, rfl, hR_q, rfl, rfl⟩ ih_q
    refine go_iload (pc := 6) dX8_handsFrom_6 rfl ?_
    refine go_bipush (v := 8) (pc := 8) dX8_handsFrom_8 (by decide) ?_
    refine go_icmp_ge (tgt := 54) (pc := 10) dX8_handsFrom_10 (by decide) (fun h_10 => by exfalso; exact absurd h_10 (nI_ge (b := 8) (by omega) (by decide))) (fun h_10 => ?_)
    refine go_aload_n (pc := 13) dX8_handsFrom_13 rfl ?_
    refine go_iload (pc := 14) dX8_handsFrom_14 rfl ?_
    refine go_V1P (pc := 16) v_X8_431 rfl rfl (rcv_of (ci := 8) (by first | exact mo0 hM_q | exact mo1 hM_q | exact mo6 hM_q | exact mo7 hM_q | exact mo8 hM_q | exact mo2 hM_q | exact mo3 hM_q | exact mo4 hM_q | exact mo5 hM_q | exact mo9 hM_q | exact mo10 hM_q | exact mo11 hM_q | exact mo12 hM_q | exact mo13 hM_q | exact mo14 hM_q | exact mo15 hM_q | exact mo16 hM_q) rfl) dX8_handsFrom_16 (sp_besides (k := k - 1) hM_q (by omega) hB_q _) ?_
    refine go_istore (lw := [_, _, _, _, _, _]) (pc := 19) dX8_handsFrom_19 (by decide) rfl ?_
    refine go_iload_n (pc := 21) dX8_handsFrom_21 rfl ?_
    refine go_iconst (v := -1) (pc := 22) dX8_handsFrom_22 (by decide) ?_
    refine go_icmp_eq (tgt := 36) (pc := 23) dX8_handsFrom_23 (by decide) (fun h_23 => ?_) (fun h_23 => ?_)
    · first
        | rw [show besK K x4_q &&& ((1 : Int32) <<< (b &&& 31) ^^^ (-1)) = cutS (besK K x4_q) b from by rw [cutS, if_neg h_23]]
        | rw [show besK K x4_q = cutS (besK K x4_q) b from by rw [cutS, if_pos h_23]]
      refine go_iload (pc := 36) dX8_handsFrom_36 rfl ?_
      refine go_iload_n (pc := 38) dX8_handsFrom_38 rfl ?_
      refine go_S2P (pc := 39) s_X8_249 rfl rfl dX8_handsFrom_39 (sp_has (k := k - 1) _ _) ?_
      refine go_if_eq (tgt := 48) (pc := 42) dX8_handsFrom_42 (by decide) (fun h_42 => ?_) (fun h_42 => ?_)
      · refine go_iinc (v := 1) (lw := [_, _, _, _, _, _]) (pc := 48) dX8_handsFrom_48 rfl (by decide) (by decide) rfl ?_
        refine go_goto (tgt := 6) (pc := 51) dX8_handsFrom_51 (by decide) ?_
        rw [nI_1]
        exact ih_q _ _ _ ⟨_, rfl, (by rw [← hR_q, hfF_step hi_q, if_neg (by simpa [hasB] using bI_0.mp h_42)]), rfl, rfl⟩
      · refine go_iload (pc := 45) dX8_handsFrom_45 rfl ?_
        exact go_iretP (pc := 47) rfl dX8_handsFrom_47 (Nat.le_of_ble_eq_true rfl) (Nat.le_of_ble_eq_true rfl) (by rw [hfK, ← hR_q, hfF_step hi_q, if_pos (by simpa [hasB] using Decidable.not_not.mp (fun hc_q => h_42 (bI_0.mpr hc_q)))]; rfl)
    · refine go_iload (pc := 26) dX8_handsFrom_26 rfl ?_
      refine go_iconst (v := 1) (pc := 28) dX8_handsFrom_28 (by decide) ?_
      refine go_iload_n (pc := 29) dX8_handsFrom_29 rfl ?_
      refine go_ishl (pc := 30) dX8_handsFrom_30 ?_
      refine go_iconst (v := -1) (pc := 31) dX8_handsFrom_31 (by decide) ?_
      refine go_ixor (pc := 32) dX8_handsFrom_32 ?_
      refine go_iand (pc := 33) dX8_handsFrom_33 ?_
      refine go_istore (lw := [_, _, _, _, _, _]) (pc := 34) dX8_handsFrom_34 (by decide) rfl ?_
      first
        | rw [show besK K x4_q &&& ((1 : Int32) <<< (b &&& 31) ^^^ (-1)) = cutS (besK K x4_q) b from by rw [cutS, if_neg h_23]]
        | rw [show besK K x4_q = cutS (besK K x4_q) b from by rw [cutS, if_pos h_23]]
      refine go_iload (pc := 36) dX8_handsFrom_36 rfl ?_
      refine go_iload_n (pc := 38) dX8_handsFrom_38 rfl ?_
      refine go_S2P (pc := 39) s_X8_249 rfl rfl dX8_handsFrom_39 (sp_has (k := k - 1) _ _) ?_
      refine go_if_eq (tgt := 48) (pc := 42) dX8_handsFrom_42 (by decide) (fun h_42 => ?_) (fun h_42 => ?_)
      · refine go_iinc (v := 1) (lw := [_, _, _, _, _, _]) (pc := 48) dX8_handsFrom_48 rfl (by decide) (by decide) rfl ?_
        refine go_goto (tgt := 6) (pc := 51) dX8_handsFrom_51 (by decide) ?_
        rw [nI_1]
        exact ih_q _ _ _ ⟨_, rfl, (by rw [← hR_q, hfF_step hi_q, if_neg (by simpa [hasB] using bI_0.mp h_42)]), rfl, rfl⟩
      · refine go_iload (pc := 45) dX8_handsFrom_45 rfl ?_
        exact go_iretP (pc := 47) rfl dX8_handsFrom_47 (Nat.le_of_ble_eq_true rfl) (Nat.le_of_ble_eq_true rfl) (by rw [hfK, ← hR_q, hfF_step hi_q, if_pos (by simpa [hasB] using Decidable.not_not.mp (fun hc_q => h_42 (bI_0.mpr hc_q)))]; rfl)
  · rintro lv9 σ n9 ⟨x4_q, rfl, hR_q, rfl, rfl⟩
    refine go_iload (pc := 6) dX8_handsFrom_6 rfl ?_
    refine go_bipush (v := 8) (pc := 8) dX8_handsFrom_8 (by decide) ?_
    refine go_icmp_ge (tgt := 54) (pc := 10) dX8_handsFrom_10 (by decide) (fun h_10 => ?_) (fun h_10 => by exfalso; exact h_10 (by decide))
    refine go_iconst (v := -1) (pc := 54) dX8_handsFrom_54 (by decide) ?_
    exact go_iretP (pc := 55) rfl dX8_handsFrom_55 (Nat.le_of_ble_eq_true rfl) (Nat.le_of_ble_eq_true rfl) (by rw [hfK, ← hR_q]; rfl)
theorem sp_areHandsOut {Γ : gam} {z0 : sto} {n k r : Nat} {F K : row} {A : Nat → row} {Nm : Nat → Int64} (hM_q : MoAt Γ z0 r F K A Nm) (hk : 3 ≤ k) (hB_q : okB K) (p q : Int32) : Sp Γ (rmk k 0 0) uX8_areHandsOut [.ref r, .int p, .int q] z0 n (qI fun v σ' n' => v = bI (0 < hoT K p.toInt q.toInt) ∧ moJ Γ r (upd F 4 (hoT K p.toInt q.toInt)) K A Nm z0 n [] σ' n') := by
  have hP8 := hB_q.1.2.1
  have hH5 := hB_q.1.2.2.2.1
  have hA_q : eqx [] A A := eqx.rf
  have hf_q : fr r (r + 16) z0 z0 := fr.rf
  refine sp_intro [some (.ref r), some (.int p), some (.int q)] (by decide +kernel) rfl (Nat.le_of_ble_eq_true rfl) rfl ?_
  cases hp_q : pN (kP K) p.toInt with
  | none =>
    refine go_aload_n (pc := 0) dX8_areHandsOut_0 rfl ?_
    refine go_aload_n (pc := 1) dX8_areHandsOut_1 rfl ?_
    refine go_iload_n (pc := 2) dX8_areHandsOut_2 rfl ?_
    refine go_i2l (pc := 3) dX8_areHandsOut_3 ?_
    refine go_V1P (pc := 4) v_X8_310 rfl rfl (rcv_of (ci := 8) (by first | exact mo0 hM_q | exact mo1 hM_q | exact mo6 hM_q | exact mo7 hM_q | exact mo8 hM_q | exact mo2 hM_q | exact mo3 hM_q | exact mo4 hM_q | exact mo5 hM_q | exact mo9 hM_q | exact mo10 hM_q | exact mo11 hM_q | exact mo12 hM_q | exact mo13 hM_q | exact mo14 hM_q | exact mo15 hM_q | exact mo16 hM_q) rfl) dX8_areHandsOut_4 (sp_isPerson (k := k - 1) hM_q (by omega) _) ?_
    refine go_if_eq (tgt := 19) (pc := 7) dX8_areHandsOut_7 (by decide) (fun h_7 => ?_) (fun h_7 => by exfalso; exact h_7 (pi_no hB_q.1.1 (by omega) hp_q))
    refine go_iconst (v := 1) (pc := 19) dX8_areHandsOut_19 (by decide) ?_
    refine go_goto (tgt := 53) (pc := 20) dX8_areHandsOut_20 (by decide) ?_
    refine go_mpf4 (pc := 53) hM_q dX8_areHandsOut_53 (fun σ hM_q hf9 => ?_)
    have hf_q := hf_q.tr hf9
    refine go_aload_n (pc := 56) dX8_areHandsOut_56 rfl ?_
    refine go_getf (pc := 57) f_X8_64 dX8_areHandsOut_57 (by first | exact mo0 hM_q | exact mo1 hM_q | exact mo6 hM_q | exact mo7 hM_q | exact mo8 hM_q | exact mo2 hM_q | exact mo3 hM_q | exact mo4 hM_q | exact mo5 hM_q | exact mo9 hM_q | exact mo10 hM_q | exact mo11 hM_q | exact mo12 hM_q | exact mo13 hM_q | exact mo14 hM_q | exact mo15 hM_q | exact mo16 hM_q) (by rfl) ?_
    refine go_if_le (tgt := 67) (pc := 60) dX8_areHandsOut_60 (by decide) (fun h_60 => ?_) (fun h_60 => ?_)
    · refine go_iconst (v := 0) (pc := 67) dX8_areHandsOut_67 (by decide) ?_
      exact go_zretI (pc := 68) rfl (by first | rfl | exact nb_bI) dX8_areHandsOut_68 (Nat.le_of_ble_eq_true rfl) (Nat.le_of_ble_eq_true rfl) (by first | exact absurd (show (1 : Int32) ≤ 0 from h_60) (by decide) | exact absurd (show (2 : Int32) ≤ 0 from h_60) (by decide) | exact absurd (show (3 : Int32) ≤ 0 from h_60) (by decide) | exact absurd (show (0 : Int32) ≤ 0 from by decide) h_60 | (have ht_q : hoT K _ _ = 1 := (by simp only [hoT, hp_q] : hoT K p.toInt q.toInt = 1); exact ⟨by rw [ht_q]; rfl, rfl, A, (by rw [ht_q]; exact hM_q), eqx.rf, hf_q⟩))
    · refine go_iconst (v := 1) (pc := 63) dX8_areHandsOut_63 (by decide) ?_
      refine go_goto (tgt := 68) (pc := 64) dX8_areHandsOut_64 (by decide) ?_
      exact go_zretI (pc := 68) rfl (by first | rfl | exact nb_bI) dX8_areHandsOut_68 (Nat.le_of_ble_eq_true rfl) (Nat.le_of_ble_eq_true rfl) (by first | exact absurd (show (1 : Int32) ≤ 0 from h_60) (by decide) | exact absurd (show (2 : Int32) ≤ 0 from h_60) (by decide) | exact absurd (show (3 : Int32) ≤ 0 from h_60) (by decide) | exact absurd (show (0 : Int32) ≤ 0 from by decide) h_60 | (have ht_q : hoT K _ _ = 1 := (by simp only [hoT, hp_q] : hoT K p.toInt q.toInt = 1); exact ⟨by rw [ht_q]; rfl, rfl, A, (by rw [ht_q]; exact hM_q), eqx.rf, hf_q⟩))
  | some j1_q =>
    have hp1 := pN_some hp_q
    obtain rfl := I_nat hp1.1 (by omega)
    cases hq_q : pN (kP K) q.toInt with
    | none =>
      refine go_aload_n (pc := 0) dX8_areHandsOut_0 rfl ?_
      refine go_aload_n (pc := 1) dX8_areHandsOut_1 rfl ?_
      refine go_iload_n (pc := 2) dX8_areHandsOut_2 rfl ?_
      refine go_i2l (pc := 3) dX8_areHandsOut_3 ?_
      refine go_V1P (pc := 4) v_X8_310 rfl rfl (rcv_of (ci := 8) (by first | exact mo0 hM_q | exact mo1 hM_q | exact mo6 hM_q | exact mo7 hM_q | exact mo8 hM_q | exact mo2 hM_q | exact mo3 hM_q | exact mo4 hM_q | exact mo5 hM_q | exact mo9 hM_q | exact mo10 hM_q | exact mo11 hM_q | exact mo12 hM_q | exact mo13 hM_q | exact mo14 hM_q | exact mo15 hM_q | exact mo16 hM_q) rfl) dX8_areHandsOut_4 (sp_isPerson (k := k - 1) hM_q (by omega) _) ?_
      refine go_if_eq (tgt := 19) (pc := 7) dX8_areHandsOut_7 (by decide) (fun h_7 => by exfalso; rw [pi_yes hB_q.1.1 (by omega) hp_q] at h_7; exact absurd h_7 (by decide)) (fun h_7 => ?_)
      refine go_aload_n (pc := 10) dX8_areHandsOut_10 rfl ?_
      refine go_iload_n (pc := 11) dX8_areHandsOut_11 rfl ?_
      refine go_i2l (pc := 12) dX8_areHandsOut_12 ?_
      refine go_V1P (pc := 13) v_X8_310 rfl rfl (rcv_of (ci := 8) (by first | exact mo0 hM_q | exact mo1 hM_q | exact mo6 hM_q | exact mo7 hM_q | exact mo8 hM_q | exact mo2 hM_q | exact mo3 hM_q | exact mo4 hM_q | exact mo5 hM_q | exact mo9 hM_q | exact mo10 hM_q | exact mo11 hM_q | exact mo12 hM_q | exact mo13 hM_q | exact mo14 hM_q | exact mo15 hM_q | exact mo16 hM_q) rfl) dX8_areHandsOut_13 (sp_isPerson (k := k - 1) hM_q (by omega) _) ?_
      refine go_if_ne (tgt := 23) (pc := 16) dX8_areHandsOut_16 (by decide) (fun h_16 => by exfalso; exact h_16 (pi_no hB_q.1.1 (by omega) hq_q)) (fun h_16 => ?_)
      refine go_iconst (v := 1) (pc := 19) dX8_areHandsOut_19 (by decide) ?_
      refine go_goto (tgt := 53) (pc := 20) dX8_areHandsOut_20 (by decide) ?_
      refine go_mpf4 (pc := 53) hM_q dX8_areHandsOut_53 (fun σ hM_q hf9 => ?_)
      have hf_q := hf_q.tr hf9
      refine go_aload_n (pc := 56) dX8_areHandsOut_56 rfl ?_
      refine go_getf (pc := 57) f_X8_64 dX8_areHandsOut_57 (by first | exact mo0 hM_q | exact mo1 hM_q | exact mo6 hM_q | exact mo7 hM_q | exact mo8 hM_q | exact mo2 hM_q | exact mo3 hM_q | exact mo4 hM_q | exact mo5 hM_q | exact mo9 hM_q | exact mo10 hM_q | exact mo11 hM_q | exact mo12 hM_q | exact mo13 hM_q | exact mo14 hM_q | exact mo15 hM_q | exact mo16 hM_q) (by rfl) ?_
      refine go_if_le (tgt := 67) (pc := 60) dX8_areHandsOut_60 (by decide) (fun h_60 => ?_) (fun h_60 => ?_)
      · refine go_iconst (v := 0) (pc := 67) dX8_areHandsOut_67 (by decide) ?_
        exact go_zretI (pc := 68) rfl (by first | rfl | exact nb_bI) dX8_areHandsOut_68 (Nat.le_of_ble_eq_true rfl) (Nat.le_of_ble_eq_true rfl) (by first | exact absurd (show (1 : Int32) ≤ 0 from h_60) (by decide) | exact absurd (show (2 : Int32) ≤ 0 from h_60) (by decide) | exact absurd (show (3 : Int32) ≤ 0 from h_60) (by decide) | exact absurd (show (0 : Int32) ≤ 0 from by decide) h_60 | (have ht_q : hoT K _ _ = 1 := (by simp only [hoT, hp_q, hq_q] : hoT K (nI j1_q).toInt q.toInt = 1); exact ⟨by rw [ht_q]; rfl, rfl, A, (by rw [ht_q]; exact hM_q), eqx.rf, hf_q⟩))
      · refine go_iconst (v := 1) (pc := 63) dX8_areHandsOut_63 (by decide) ?_
        refine go_goto (tgt := 68) (pc := 64) dX8_areHandsOut_64 (by decide) ?_
        exact go_zretI (pc := 68) rfl (by first | rfl | exact nb_bI) dX8_areHandsOut_68 (Nat.le_of_ble_eq_true rfl) (Nat.le_of_ble_eq_true rfl) (by first | exact absurd (show (1 : Int32) ≤ 0 from h_60) (by decide) | exact absurd (show (2 : Int32) ≤ 0 from h_60) (by decide) | exact absurd (show (3 : Int32) ≤ 0 from h_60) (by decide) | exact absurd (show (0 : Int32) ≤ 0 from by decide) h_60 | (have ht_q : hoT K _ _ = 1 := (by simp only [hoT, hp_q, hq_q] : hoT K (nI j1_q).toInt q.toInt = 1); exact ⟨by rw [ht_q]; rfl, rfl, A, (by rw [ht_q]; exact hM_q), eqx.rf, hf_q⟩))
    | some x1_q =>
      have hq1 := pN_some hq_q
      obtain rfl := I_nat hq1.1 (by omega)
      refine go_aload_n (pc := 0) dX8_areHandsOut_0 rfl ?_
      refine go_aload_n (pc := 1) dX8_areHandsOut_1 rfl ?_
      refine go_iload_n (pc := 2) dX8_areHandsOut_2 rfl ?_
      refine go_i2l (pc := 3) dX8_areHandsOut_3 ?_
      refine go_V1P (pc := 4) v_X8_310 rfl rfl (rcv_of (ci := 8) (by first | exact mo0 hM_q | exact mo1 hM_q | exact mo6 hM_q | exact mo7 hM_q | exact mo8 hM_q | exact mo2 hM_q | exact mo3 hM_q | exact mo4 hM_q | exact mo5 hM_q | exact mo9 hM_q | exact mo10 hM_q | exact mo11 hM_q | exact mo12 hM_q | exact mo13 hM_q | exact mo14 hM_q | exact mo15 hM_q | exact mo16 hM_q) rfl) dX8_areHandsOut_4 (sp_isPerson (k := k - 1) hM_q (by omega) _) ?_
      refine go_if_eq (tgt := 19) (pc := 7) dX8_areHandsOut_7 (by decide) (fun h_7 => by exfalso; rw [pi_yes hB_q.1.1 (by omega) hp_q] at h_7; exact absurd h_7 (by decide)) (fun h_7 => ?_)
      refine go_aload_n (pc := 10) dX8_areHandsOut_10 rfl ?_
      refine go_iload_n (pc := 11) dX8_areHandsOut_11 rfl ?_
      refine go_i2l (pc := 12) dX8_areHandsOut_12 ?_
      refine go_V1P (pc := 13) v_X8_310 rfl rfl (rcv_of (ci := 8) (by first | exact mo0 hM_q | exact mo1 hM_q | exact mo6 hM_q | exact mo7 hM_q | exact mo8 hM_q | exact mo2 hM_q | exact mo3 hM_q | exact mo4 hM_q | exact mo5 hM_q | exact mo9 hM_q | exact mo10 hM_q | exact mo11 hM_q | exact mo12 hM_q | exact mo13 hM_q | exact mo14 hM_q | exact mo15 hM_q | exact mo16 hM_q) rfl) dX8_areHandsOut_13 (sp_isPerson (k := k - 1) hM_q (by omega) _) ?_
      refine go_if_ne (tgt := 23) (pc := 16) dX8_areHandsOut_16 (by decide) (fun h_16 => ?_) (fun h_16 => by exfalso; rw [pi_yes hB_q.1.1 (by omega) hq_q] at h_16; exact absurd h_16 (by decide))
      refine go_iload_n (pc := 23) dX8_areHandsOut_23 rfl ?_
      refine go_iload_n (pc := 24) dX8_areHandsOut_24 rfl ?_
      refine go_icmp_ne (tgt := 32) (pc := 25) dX8_areHandsOut_25 (by decide) (fun h_25 => ?_) (fun h_25 => ?_)
      · refine go_aload_n (pc := 32) dX8_areHandsOut_32 rfl ?_
        refine go_iload_n (pc := 33) dX8_areHandsOut_33 rfl ?_
        refine go_V1P (pc := 34) v_X8_296 rfl rfl (rcv_of (ci := 8) (by first | exact mo0 hM_q | exact mo1 hM_q | exact mo6 hM_q | exact mo7 hM_q | exact mo8 hM_q | exact mo2 hM_q | exact mo3 hM_q | exact mo4 hM_q | exact mo5 hM_q | exact mo9 hM_q | exact mo10 hM_q | exact mo11 hM_q | exact mo12 hM_q | exact mo13 hM_q | exact mo14 hM_q | exact mo15 hM_q | exact mo16 hM_q) rfl) dX8_areHandsOut_34 (sp_isUp (k := k - 1) hM_q (by omega)) ?_
        refine go_if_ne (tgt := 48) (pc := 37) dX8_areHandsOut_37 (by decide) (fun h_37 => ?_) (fun h_37 => ?_)
        · refine go_iconst (v := 3) (pc := 48) dX8_areHandsOut_48 (by decide) ?_
          refine go_goto (tgt := 53) (pc := 49) dX8_areHandsOut_49 (by decide) ?_
          refine go_mpf4 (pc := 53) hM_q dX8_areHandsOut_53 (fun σ hM_q hf9 => ?_)
          have hf_q := hf_q.tr hf9
          refine go_aload_n (pc := 56) dX8_areHandsOut_56 rfl ?_
          refine go_getf (pc := 57) f_X8_64 dX8_areHandsOut_57 (by first | exact mo0 hM_q | exact mo1 hM_q | exact mo6 hM_q | exact mo7 hM_q | exact mo8 hM_q | exact mo2 hM_q | exact mo3 hM_q | exact mo4 hM_q | exact mo5 hM_q | exact mo9 hM_q | exact mo10 hM_q | exact mo11 hM_q | exact mo12 hM_q | exact mo13 hM_q | exact mo14 hM_q | exact mo15 hM_q | exact mo16 hM_q) (by rfl) ?_
          refine go_if_le (tgt := 67) (pc := 60) dX8_areHandsOut_60 (by decide) (fun h_60 => ?_) (fun h_60 => ?_)
          · refine go_iconst (v := 0) (pc := 67) dX8_areHandsOut_67 (by decide) ?_
            exact go_zretI (pc := 68) rfl (by first | rfl | exact nb_bI) dX8_areHandsOut_68 (Nat.le_of_ble_eq_true rfl) (Nat.le_of_ble_eq_true rfl) (by first | exact absurd (show (1 : Int32) ≤ 0 from h_60) (by decide) | exact absurd (show (2 : Int32) ≤ 0 from h_60) (by decide) | exact absurd (show (3 : Int32) ≤ 0 from h_60) (by decide) | exact absurd (show (0 : Int32) ≤ 0 from by decide) h_60 | (have ht_q : hoT K (nI j1_q).toInt (nI x1_q).toInt = 2 := (by simp only [hoT, hp_q, hq_q]; rw [if_pos ((nI_eq (by omega) (by omega)).mp h_25)]); exact ⟨by rw [ht_q]; rfl, rfl, A, (by rw [ht_q]; exact hM_q), eqx.rf, hf_q⟩) | (have ht_q : hoT K (nI j1_q).toInt (nI x1_q).toInt = 3 := (by simp only [hoT, hp_q, hq_q]; rw [if_neg (fun hc_q => h_25 ((nI_eq (by omega) (by omega)).mpr hc_q)), if_pos (Or.inl (Decidable.not_not.mp (fun hc_q => h_37 (bI_0.mpr hc_q))))]); exact ⟨by rw [ht_q]; rfl, rfl, A, (by rw [ht_q]; exact hM_q), eqx.rf, hf_q⟩) | (have ht_q : hoT K (nI j1_q).toInt (nI x1_q).toInt = 3 := (by simp only [hoT, hp_q, hq_q]; rw [if_neg (fun hc_q => h_25 ((nI_eq (by omega) (by omega)).mpr hc_q)), if_pos (Or.inr (Decidable.not_not.mp (fun hc_q => h_45 (bI_0.mpr hc_q))))]); exact ⟨by rw [ht_q]; rfl, rfl, A, (by rw [ht_q]; exact hM_q), eqx.rf, hf_q⟩) | (have ht_q : hoT K (nI j1_q).toInt (nI x1_q).toInt = 0 := (by simp only [hoT, hp_q, hq_q]; rw [if_neg (fun hc_q => h_25 ((nI_eq (by omega) (by omega)).mpr hc_q)), if_neg (fun hc_q => hc_q.elim (bI_0.mp h_37) (bI_0.mp h_45))]); exact ⟨by rw [ht_q]; rfl, rfl, A, (by rw [ht_q]; exact hM_q), eqx.rf, hf_q⟩))
          · refine go_iconst (v := 1) (pc := 63) dX8_areHandsOut_63 (by decide) ?_
            refine go_goto (tgt := 68) (pc := 64) dX8_areHandsOut_64 (by decide) ?_
            exact go_zretI (pc := 68) rfl (by first | rfl | exact nb_bI) dX8_areHandsOut_68 (Nat.le_of_ble_eq_true rfl) (Nat.le_of_ble_eq_true rfl) (by first | exact absurd (show (1 : Int32) ≤ 0 from h_60) (by decide) | exact absurd (show (2 : Int32) ≤ 0 from h_60) (by decide) | exact absurd (show (3 : Int32) ≤ 0 from h_60) (by decide) | exact absurd (show (0 : Int32) ≤ 0 from by decide) h_60 | (have ht_q : hoT K (nI j1_q).toInt (nI x1_q).toInt = 2 := (by simp only [hoT, hp_q, hq_q]; rw [if_pos ((nI_eq (by omega) (by omega)).mp h_25)]); exact ⟨by rw [ht_q]; rfl, rfl, A, (by rw [ht_q]; exact hM_q), eqx.rf, hf_q⟩) | (have ht_q : hoT K (nI j1_q).toInt (nI x1_q).toInt = 3 := (by simp only [hoT, hp_q, hq_q]; rw [if_neg (fun hc_q => h_25 ((nI_eq (by omega) (by omega)).mpr hc_q)), if_pos (Or.inl (Decidable.not_not.mp (fun hc_q => h_37 (bI_0.mpr hc_q))))]); exact ⟨by rw [ht_q]; rfl, rfl, A, (by rw [ht_q]; exact hM_q), eqx.rf, hf_q⟩) | (have ht_q : hoT K (nI j1_q).toInt (nI x1_q).toInt = 3 := (by simp only [hoT, hp_q, hq_q]; rw [if_neg (fun hc_q => h_25 ((nI_eq (by omega) (by omega)).mpr hc_q)), if_pos (Or.inr (Decidable.not_not.mp (fun hc_q => h_45 (bI_0.mpr hc_q))))]); exact ⟨by rw [ht_q]; rfl, rfl, A, (by rw [ht_q]; exact hM_q), eqx.rf, hf_q⟩) | (have ht_q : hoT K (nI j1_q).toInt (nI x1_q).toInt = 0 := (by simp only [hoT, hp_q, hq_q]; rw [if_neg (fun hc_q => h_25 ((nI_eq (by omega) (by omega)).mpr hc_q)), if_neg (fun hc_q => hc_q.elim (bI_0.mp h_37) (bI_0.mp h_45))]); exact ⟨by rw [ht_q]; rfl, rfl, A, (by rw [ht_q]; exact hM_q), eqx.rf, hf_q⟩))
        · refine go_aload_n (pc := 40) dX8_areHandsOut_40 rfl ?_
          refine go_iload_n (pc := 41) dX8_areHandsOut_41 rfl ?_
          refine go_V1P (pc := 42) v_X8_296 rfl rfl (rcv_of (ci := 8) (by first | exact mo0 hM_q | exact mo1 hM_q | exact mo6 hM_q | exact mo7 hM_q | exact mo8 hM_q | exact mo2 hM_q | exact mo3 hM_q | exact mo4 hM_q | exact mo5 hM_q | exact mo9 hM_q | exact mo10 hM_q | exact mo11 hM_q | exact mo12 hM_q | exact mo13 hM_q | exact mo14 hM_q | exact mo15 hM_q | exact mo16 hM_q) rfl) dX8_areHandsOut_42 (sp_isUp (k := k - 1) hM_q (by omega)) ?_
          refine go_if_eq (tgt := 52) (pc := 45) dX8_areHandsOut_45 (by decide) (fun h_45 => ?_) (fun h_45 => ?_)
          · refine go_iconst (v := 0) (pc := 52) dX8_areHandsOut_52 (by decide) ?_
            refine go_mpf4 (pc := 53) hM_q dX8_areHandsOut_53 (fun σ hM_q hf9 => ?_)
            have hf_q := hf_q.tr hf9
            refine go_aload_n (pc := 56) dX8_areHandsOut_56 rfl ?_
            refine go_getf (pc := 57) f_X8_64 dX8_areHandsOut_57 (by first | exact mo0 hM_q | exact mo1 hM_q | exact mo6 hM_q | exact mo7 hM_q | exact mo8 hM_q | exact mo2 hM_q | exact mo3 hM_q | exact mo4 hM_q | exact mo5 hM_q | exact mo9 hM_q | exact mo10 hM_q | exact mo11 hM_q | exact mo12 hM_q | exact mo13 hM_q | exact mo14 hM_q | exact mo15 hM_q | exact mo16 hM_q) (by rfl) ?_
            refine go_if_le (tgt := 67) (pc := 60) dX8_areHandsOut_60 (by decide) (fun h_60 => ?_) (fun h_60 => ?_)
            · refine go_iconst (v := 0) (pc := 67) dX8_areHandsOut_67 (by decide) ?_
              exact go_zretI (pc := 68) rfl (by first | rfl | exact nb_bI) dX8_areHandsOut_68 (Nat.le_of_ble_eq_true rfl) (Nat.le_of_ble_eq_true rfl) (by first | exact absurd (show (1 : Int32) ≤ 0 from h_60) (by decide) | exact absurd (show (2 : Int32) ≤ 0 from h_60) (by decide) | exact absurd (show (3 : Int32) ≤ 0 from h_60) (by decide) | exact absurd (show (0 : Int32) ≤ 0 from by decide) h_60 | (have ht_q : hoT K (nI j1_q).toInt (nI x1_q).toInt = 2 := (by simp only [hoT, hp_q, hq_q]; rw [if_pos ((nI_eq (by omega) (by omega)).mp h_25)]); exact ⟨by rw [ht_q]; rfl, rfl, A, (by rw [ht_q]; exact hM_q), eqx.rf, hf_q⟩) | (have ht_q : hoT K (nI j1_q).toInt (nI x1_q).toInt = 3 := (by simp only [hoT, hp_q, hq_q]; rw [if_neg (fun hc_q => h_25 ((nI_eq (by omega) (by omega)).mpr hc_q)), if_pos (Or.inl (Decidable.not_not.mp (fun hc_q => h_37 (bI_0.mpr hc_q))))]); exact ⟨by rw [ht_q]; rfl, rfl, A, (by rw [ht_q]; exact hM_q), eqx.rf, hf_q⟩) | (have ht_q : hoT K (nI j1_q).toInt (nI x1_q).toInt = 3 := (by simp only [hoT, hp_q, hq_q]; rw [if_neg (fun hc_q => h_25 ((nI_eq (by omega) (by omega)).mpr hc_q)), if_pos (Or.inr (Decidable.not_not.mp (fun hc_q => h_45 (bI_0.mpr hc_q))))]); exact ⟨by rw [ht_q]; rfl, rfl, A, (by rw [ht_q]; exact hM_q), eqx.rf, hf_q⟩) | (have ht_q : hoT K (nI j1_q).toInt (nI x1_q).toInt = 0 := (by simp only [hoT, hp_q, hq_q]; rw [if_neg (fun hc_q => h_25 ((nI_eq (by omega) (by omega)).mpr hc_q)), if_neg (fun hc_q => hc_q.elim (bI_0.mp h_37) (bI_0.mp h_45))]); exact ⟨by rw [ht_q]; rfl, rfl, A, (by rw [ht_q]; exact hM_q), eqx.rf, hf_q⟩))
            · refine go_iconst (v := 1) (pc := 63) dX8_areHandsOut_63 (by decide) ?_
              refine go_goto (tgt := 68) (pc := 64) dX8_areHandsOut_64 (by decide) ?_
              exact go_zretI (pc := 68) rfl (by first | rfl | exact nb_bI) dX8_areHandsOut_68 (Nat.le_of_ble_eq_true rfl) (Nat.le_of_ble_eq_true rfl) (by first | exact absurd (show (1 : Int32) ≤ 0 from h_60) (by decide) | exact absurd (show (2 : Int32) ≤ 0 from h_60) (by decide) | exact absurd (show (3 : Int32) ≤ 0 from h_60) (by decide) | exact absurd (show (0 : Int32) ≤ 0 from by decide) h_60 | (have ht_q : hoT K (nI j1_q).toInt (nI x1_q).toInt = 2 := (by simp only [hoT, hp_q, hq_q]; rw [if_pos ((nI_eq (by omega) (by omega)).mp h_25)]); exact ⟨by rw [ht_q]; rfl, rfl, A, (by rw [ht_q]; exact hM_q), eqx.rf, hf_q⟩) | (have ht_q : hoT K (nI j1_q).toInt (nI x1_q).toInt = 3 := (by simp only [hoT, hp_q, hq_q]; rw [if_neg (fun hc_q => h_25 ((nI_eq (by omega) (by omega)).mpr hc_q)), if_pos (Or.inl (Decidable.not_not.mp (fun hc_q => h_37 (bI_0.mpr hc_q))))]); exact ⟨by rw [ht_q]; rfl, rfl, A, (by rw [ht_q]; exact hM_q), eqx.rf, hf_q⟩) | (have ht_q : hoT K (nI j1_q).toInt (nI x1_q).toInt = 3 := (by simp only [hoT, hp_q, hq_q]; rw [if_neg (fun hc_q => h_25 ((nI_eq (by omega) (by omega)).mpr hc_q)), if_pos (Or.inr (Decidable.not_not.mp (fun hc_q => h_45 (bI_0.mpr hc_q))))]); exact ⟨by rw [ht_q]; rfl, rfl, A, (by rw [ht_q]; exact hM_q), eqx.rf, hf_q⟩) | (have ht_q : hoT K (nI j1_q).toInt (nI x1_q).toInt = 0 := (by simp only [hoT, hp_q, hq_q]; rw [if_neg (fun hc_q => h_25 ((nI_eq (by omega) (by omega)).mpr hc_q)), if_neg (fun hc_q => hc_q.elim (bI_0.mp h_37) (bI_0.mp h_45))]); exact ⟨by rw [ht_q]; rfl, rfl, A, (by rw [ht_q]; exact hM_q), eqx.rf, hf_q⟩))
          · refine go_iconst (v := 3) (pc := 48) dX8_areHandsOut_48 (by decide) ?_
            refine go_goto (tgt := 53) (pc := 49) dX8_areHandsOut_49 (by decide) ?_
            refine go_mpf4 (pc := 53) hM_q dX8_areHandsOut_53 (fun σ hM_q hf9 => ?_)
            have hf_q := hf_q.tr hf9
            refine go_aload_n (pc := 56) dX8_areHandsOut_56 rfl ?_
            refine go_getf (pc := 57) f_X8_64 dX8_areHandsOut_57 (by first | exact mo0 hM_q | exact mo1 hM_q | exact mo6 hM_q | exact mo7 hM_q | exact mo8 hM_q | exact mo2 hM_q | exact mo3 hM_q | exact mo4 hM_q | exact mo5 hM_q | exact mo9 hM_q | exact mo10 hM_q | exact mo11 hM_q | exact mo12 hM_q | exact mo13 hM_q | exact mo14 hM_q | exact mo15 hM_q | exact mo16 hM_q) (by rfl) ?_
            refine go_if_le (tgt := 67) (pc := 60) dX8_areHandsOut_60 (by decide) (fun h_60 => ?_) (fun h_60 => ?_)
            · refine go_iconst (v := 0) (pc := 67) dX8_areHandsOut_67 (by decide) ?_
              exact go_zretI (pc := 68) rfl (by first | rfl | exact nb_bI) dX8_areHandsOut_68 (Nat.le_of_ble_eq_true rfl) (Nat.le_of_ble_eq_true rfl) (by first | exact absurd (show (1 : Int32) ≤ 0 from h_60) (by decide) | exact absurd (show (2 : Int32) ≤ 0 from h_60) (by decide) | exact absurd (show (3 : Int32) ≤ 0 from h_60) (by decide) | exact absurd (show (0 : Int32) ≤ 0 from by decide) h_60 | (have ht_q : hoT K (nI j1_q).toInt (nI x1_q).toInt = 2 := (by simp only [hoT, hp_q, hq_q]; rw [if_pos ((nI_eq (by omega) (by omega)).mp h_25)]); exact ⟨by rw [ht_q]; rfl, rfl, A, (by rw [ht_q]; exact hM_q), eqx.rf, hf_q⟩) | (have ht_q : hoT K (nI j1_q).toInt (nI x1_q).toInt = 3 := (by simp only [hoT, hp_q, hq_q]; rw [if_neg (fun hc_q => h_25 ((nI_eq (by omega) (by omega)).mpr hc_q)), if_pos (Or.inl (Decidable.not_not.mp (fun hc_q => h_37 (bI_0.mpr hc_q))))]); exact ⟨by rw [ht_q]; rfl, rfl, A, (by rw [ht_q]; exact hM_q), eqx.rf, hf_q⟩) | (have ht_q : hoT K (nI j1_q).toInt (nI x1_q).toInt = 3 := (by simp only [hoT, hp_q, hq_q]; rw [if_neg (fun hc_q => h_25 ((nI_eq (by omega) (by omega)).mpr hc_q)), if_pos (Or.inr (Decidable.not_not.mp (fun hc_q => h_45 (bI_0.mpr hc_q))))]); exact ⟨by rw [ht_q]; rfl, rfl, A, (by rw [ht_q]; exact hM_q), eqx.rf, hf_q⟩) | (have ht_q : hoT K (nI j1_q).toInt (nI x1_q).toInt = 0 := (by simp only [hoT, hp_q, hq_q]; rw [if_neg (fun hc_q => h_25 ((nI_eq (by omega) (by omega)).mpr hc_q)), if_neg (fun hc_q => hc_q.elim (bI_0.mp h_37) (bI_0.mp h_45))]); exact ⟨by rw [ht_q]; rfl, rfl, A, (by rw [ht_q]; exact hM_q), eqx.rf, hf_q⟩))
            · refine go_iconst (v := 1) (pc := 63) dX8_areHandsOut_63 (by decide) ?_
              refine go_goto (tgt := 68) (pc := 64) dX8_areHandsOut_64 (by decide) ?_
              exact go_zretI (pc := 68) rfl (by first | rfl | exact nb_bI) dX8_areHandsOut_68 (Nat.le_of_ble_eq_true rfl) (Nat.le_of_ble_eq_true rfl) (by first | exact absurd (show (1 : Int32) ≤ 0 from h_60) (by decide) | exact absurd (show (2 : Int32) ≤ 0 from h_60) (by decide) | exact absurd (show (3 : Int32) ≤ 0 from h_60) (by decide) | exact absurd (show (0 : Int32) ≤ 0 from by decide) h_60 | (have ht_q : hoT K (nI j1_q).toInt (nI x1_q).toInt = 2 := (by simp only [hoT, hp_q, hq_q]; rw [if_pos ((nI_eq (by omega) (by omega)).mp h_25)]); exact ⟨by rw [ht_q]; rfl, rfl, A, (by rw [ht_q]; exact hM_q), eqx.rf, hf_q⟩) | (have ht_q : hoT K (nI j1_q).toInt (nI x1_q).toInt = 3 := (by simp only [hoT, hp_q, hq_q]; rw [if_neg (fun hc_q => h_25 ((nI_eq (by omega) (by omega)).mpr hc_q)), if_pos (Or.inl (Decidable.not_not.mp (fun hc_q => h_37 (bI_0.mpr hc_q))))]); exact ⟨by rw [ht_q]; rfl, rfl, A, (by rw [ht_q]; exact hM_q), eqx.rf, hf_q⟩) | (have ht_q : hoT K (nI j1_q).toInt (nI x1_q).toInt = 3 := (by simp only [hoT, hp_q, hq_q]; rw [if_neg (fun hc_q => h_25 ((nI_eq (by omega) (by omega)).mpr hc_q)), if_pos (Or.inr (Decidable.not_not.mp (fun hc_q => h_45 (bI_0.mpr hc_q))))]); exact ⟨by rw [ht_q]; rfl, rfl, A, (by rw [ht_q]; exact hM_q), eqx.rf, hf_q⟩) | (have ht_q : hoT K (nI j1_q).toInt (nI x1_q).toInt = 0 := (by simp only [hoT, hp_q, hq_q]; rw [if_neg (fun hc_q => h_25 ((nI_eq (by omega) (by omega)).mpr hc_q)), if_neg (fun hc_q => hc_q.elim (bI_0.mp h_37) (bI_0.mp h_45))]); exact ⟨by rw [ht_q]; rfl, rfl, A, (by rw [ht_q]; exact hM_q), eqx.rf, hf_q⟩))
      · refine go_iconst (v := 2) (pc := 28) dX8_areHandsOut_28 (by decide) ?_
        refine go_goto (tgt := 53) (pc := 29) dX8_areHandsOut_29 (by decide) ?_
        refine go_mpf4 (pc := 53) hM_q dX8_areHandsOut_53 (fun σ hM_q hf9 => ?_)
        have hf_q := hf_q.tr hf9
        refine go_aload_n (pc := 56) dX8_areHandsOut_56 rfl ?_
        refine go_getf (pc := 57) f_X8_64 dX8_areHandsOut_57 (by first | exact mo0 hM_q | exact mo1 hM_q | exact mo6 hM_q | exact mo7 hM_q | exact mo8 hM_q | exact mo2 hM_q | exact mo3 hM_q | exact mo4 hM_q | exact mo5 hM_q | exact mo9 hM_q | exact mo10 hM_q | exact mo11 hM_q | exact mo12 hM_q | exact mo13 hM_q | exact mo14 hM_q | exact mo15 hM_q | exact mo16 hM_q) (by rfl) ?_
        refine go_if_le (tgt := 67) (pc := 60) dX8_areHandsOut_60 (by decide) (fun h_60 => ?_) (fun h_60 => ?_)
        · refine go_iconst (v := 0) (pc := 67) dX8_areHandsOut_67 (by decide) ?_
          exact go_zretI (pc := 68) rfl (by first | rfl | exact nb_bI) dX8_areHandsOut_68 (Nat.le_of_ble_eq_true rfl) (Nat.le_of_ble_eq_true rfl) (by first | exact absurd (show (1 : Int32) ≤ 0 from h_60) (by decide) | exact absurd (show (2 : Int32) ≤ 0 from h_60) (by decide) | exact absurd (show (3 : Int32) ≤ 0 from h_60) (by decide) | exact absurd (show (0 : Int32) ≤ 0 from by decide) h_60 | (have ht_q : hoT K (nI j1_q).toInt (nI x1_q).toInt = 2 := (by simp only [hoT, hp_q, hq_q]; rw [if_pos ((nI_eq (by omega) (by omega)).mp h_25)]); exact ⟨by rw [ht_q]; rfl, rfl, A, (by rw [ht_q]; exact hM_q), eqx.rf, hf_q⟩) | (have ht_q : hoT K (nI j1_q).toInt (nI x1_q).toInt = 3 := (by simp only [hoT, hp_q, hq_q]; rw [if_neg (fun hc_q => h_25 ((nI_eq (by omega) (by omega)).mpr hc_q)), if_pos (Or.inl (Decidable.not_not.mp (fun hc_q => h_37 (bI_0.mpr hc_q))))]); exact ⟨by rw [ht_q]; rfl, rfl, A, (by rw [ht_q]; exact hM_q), eqx.rf, hf_q⟩) | (have ht_q : hoT K (nI j1_q).toInt (nI x1_q).toInt = 3 := (by simp only [hoT, hp_q, hq_q]; rw [if_neg (fun hc_q => h_25 ((nI_eq (by omega) (by omega)).mpr hc_q)), if_pos (Or.inr (Decidable.not_not.mp (fun hc_q => h_45 (bI_0.mpr hc_q))))]); exact ⟨by rw [ht_q]; rfl, rfl, A, (by rw [ht_q]; exact hM_q), eqx.rf, hf_q⟩) | (have ht_q : hoT K (nI j1_q).toInt (nI x1_q).toInt = 0 := (by simp only [hoT, hp_q, hq_q]; rw [if_neg (fun hc_q => h_25 ((nI_eq (by omega) (by omega)).mpr hc_q)), if_neg (fun hc_q => hc_q.elim (bI_0.mp h_37) (bI_0.mp h_45))]); exact ⟨by rw [ht_q]; rfl, rfl, A, (by rw [ht_q]; exact hM_q), eqx.rf, hf_q⟩))
        · refine go_iconst (v := 1) (pc := 63) dX8_areHandsOut_63 (by decide) ?_
          refine go_goto (tgt := 68) (pc := 64) dX8_areHandsOut_64 (by decide) ?_
          exact go_zretI (pc := 68) rfl (by first | rfl | exact nb_bI) dX8_areHandsOut_68 (Nat.le_of_ble_eq_true rfl) (Nat.le_of_ble_eq_true rfl) (by first | exact absurd (show (1 : Int32) ≤ 0 from h_60) (by decide) | exact absurd (show (2 : Int32) ≤ 0 from h_60) (by decide) | exact absurd (show (3 : Int32) ≤ 0 from h_60) (by decide) | exact absurd (show (0 : Int32) ≤ 0 from by decide) h_60 | (have ht_q : hoT K (nI j1_q).toInt (nI x1_q).toInt = 2 := (by simp only [hoT, hp_q, hq_q]; rw [if_pos ((nI_eq (by omega) (by omega)).mp h_25)]); exact ⟨by rw [ht_q]; rfl, rfl, A, (by rw [ht_q]; exact hM_q), eqx.rf, hf_q⟩) | (have ht_q : hoT K (nI j1_q).toInt (nI x1_q).toInt = 3 := (by simp only [hoT, hp_q, hq_q]; rw [if_neg (fun hc_q => h_25 ((nI_eq (by omega) (by omega)).mpr hc_q)), if_pos (Or.inl (Decidable.not_not.mp (fun hc_q => h_37 (bI_0.mpr hc_q))))]); exact ⟨by rw [ht_q]; rfl, rfl, A, (by rw [ht_q]; exact hM_q), eqx.rf, hf_q⟩) | (have ht_q : hoT K (nI j1_q).toInt (nI x1_q).toInt = 3 := (by simp only [hoT, hp_q, hq_q]; rw [if_neg (fun hc_q => h_25 ((nI_eq (by omega) (by omega)).mpr hc_q)), if_pos (Or.inr (Decidable.not_not.mp (fun hc_q => h_45 (bI_0.mpr hc_q))))]); exact ⟨by rw [ht_q]; rfl, rfl, A, (by rw [ht_q]; exact hM_q), eqx.rf, hf_q⟩) | (have ht_q : hoT K (nI j1_q).toInt (nI x1_q).toInt = 0 := (by simp only [hoT, hp_q, hq_q]; rw [if_neg (fun hc_q => h_25 ((nI_eq (by omega) (by omega)).mpr hc_q)), if_neg (fun hc_q => hc_q.elim (bI_0.mp h_37) (bI_0.mp h_45))]); exact ⟨by rw [ht_q]; rfl, rfl, A, (by rw [ht_q]; exact hM_q), eqx.rf, hf_q⟩))
theorem hoT_c {K : row} {p q : Int} : hoT K p q = 1 ∨ hoT K p q = 2 ∨ hoT K p q = 3 ∨ (hoT K p q = 0 ∧ ∃ a b, pN (kP K) p = some a ∧ pN (kP K) q = some b ∧ a ≠ b ∧ K (16 + a) ≠ -1 ∧ K (16 + b) ≠ -1) := by
  unfold hoT
  cases h1_q : pN (kP K) p with
  | none => exact Or.inl rfl
  | some a =>
    cases h2_q : pN (kP K) q with
    | none => exact Or.inl rfl
    | some b =>
      simp only
      by_cases e_q : a = b
      · rw [if_pos e_q]; exact Or.inr (Or.inl rfl)
      · by_cases e2_q : K (16 + a) = -1 ∨ K (16 + b) = -1
        · rw [if_neg e_q, if_pos e2_q]; exact Or.inr (Or.inr (Or.inl rfl))
        · rw [if_neg e_q, if_neg e2_q]
          exact Or.inr (Or.inr (Or.inr ⟨rfl, a, b, rfl, rfl, e_q, fun h_q => e2_q (Or.inl h_q), fun h_q => e2_q (Or.inr h_q)⟩))
theorem sp_hands {Γ : gam} {z0 : sto} {n k r : Nat} {F K : row} {A : Nat → row} {Nm : Nat → Int64} (hM_q : MoAt Γ z0 r F K A Nm) (hk : 14 ≤ k) (hB_q : okB K) (hv_q : vS K) (p q : Int32) : Sp Γ (rmk k 0 0) uX8_hands [.ref r, .int p, .int q] z0 n (qI fun v σ' n' => v = (aHands K p.toInt q.toInt).2 ∧ apJ Γ r F K A Nm z0 n (aHands K p.toInt q.toInt).1 σ' n') := by
  have hP8 := hB_q.1.2.1
  have hH5 := hB_q.1.2.2.2.1
  have hW4 := hB_q.1.2.2.2.2.2
  have hA_q : eqx [6, 7, 8, 9, 10, 11, 12, 13] A A := eqx.rf
  have hf_q : fr r (r + 16) z0 z0 := fr.rf
  refine sp_intro [some (.ref r), some (.int p), some (.int q)] (by decide +kernel) rfl (Nat.le_of_ble_eq_true rfl) rfl ?_
  rcases hoT_c (K := K) (p := p.toInt) (q := q.toInt) with h0_q | h0_q | h0_q | ⟨h0_q, a1_q, b1_q, g1_q, g2_q, g3_q, g4_q, g5_q⟩
  · refine go_aload_n (pc := 0) dX8_hands_0 rfl ?_
    refine go_iload_n (pc := 1) dX8_hands_1 rfl ?_
    refine go_iload_n (pc := 2) dX8_hands_2 rfl ?_
    refine go_V2I (pc := 3) v_X8_434 rfl rfl (rcv_of (ci := 8) (by first | exact mo0 hM_q | exact mo1 hM_q | exact mo6 hM_q | exact mo7 hM_q | exact mo8 hM_q | exact mo2 hM_q | exact mo3 hM_q | exact mo4 hM_q | exact mo5 hM_q | exact mo9 hM_q | exact mo10 hM_q | exact mo11 hM_q | exact mo12 hM_q | exact mo13 hM_q | exact mo14 hM_q | exact mo15 hM_q | exact mo16 hM_q) rfl) dX8_hands_3 (sp_areHandsOut (k := k - 1) hM_q (by omega) hB_q _ _) (fun v_3 σ n h_q => ?_)
    obtain ⟨rfl, rfl, A1, hM_q, hA1, hf1⟩ := h_q
    have hA_q := eqx.tr (A := A) (L := [6, 7, 8, 9, 10, 11, 12, 13]) (by repeat (first | assumption | exact eqx.rf | refine eqx.up ?_ (by decide))) (hA1.wk (by decide))
    have hf_q := hf_q.tr hf1
    rw [h0_q]
    rw [h0_q] at hM_q
    refine go_if_eq (tgt := 13) (pc := 6) dX8_hands_6 (by decide) (fun h_6 => by exfalso; exact absurd h_6 (by decide)) (fun h_6 => ?_)
    refine go_iconst (v := 0) (pc := 9) dX8_hands_9 (by decide) ?_
    refine go_goto (tgt := 22) (pc := 10) dX8_hands_10 (by decide) ?_
    exact go_iretI (pc := 22) rfl dX8_hands_22 (Nat.le_of_ble_eq_true rfl) (Nat.le_of_ble_eq_true rfl) ⟨(by rw [aHands, h0_q]; rfl), rfl, _, _, hM_q, ⟨(by rw [aHands, h0_q]; rfl), fun j h1_q h2_q h3_q => by simp [upd, h1_q, h2_q, h3_q]⟩, (by repeat (first | assumption | exact eqx.rf | refine eqx.up ?_ (by decide))), hf_q⟩
  · refine go_aload_n (pc := 0) dX8_hands_0 rfl ?_
    refine go_iload_n (pc := 1) dX8_hands_1 rfl ?_
    refine go_iload_n (pc := 2) dX8_hands_2 rfl ?_
    refine go_V2I (pc := 3) v_X8_434 rfl rfl (rcv_of (ci := 8) (by first | exact mo0 hM_q | exact mo1 hM_q | exact mo6 hM_q | exact mo7 hM_q | exact mo8 hM_q | exact mo2 hM_q | exact mo3 hM_q | exact mo4 hM_q | exact mo5 hM_q | exact mo9 hM_q | exact mo10 hM_q | exact mo11 hM_q | exact mo12 hM_q | exact mo13 hM_q | exact mo14 hM_q | exact mo15 hM_q | exact mo16 hM_q) rfl) dX8_hands_3 (sp_areHandsOut (k := k - 1) hM_q (by omega) hB_q _ _) (fun v_3 σ n h_q => ?_)
    obtain ⟨rfl, rfl, A1, hM_q, hA1, hf1⟩ := h_q
    have hA_q := eqx.tr (A := A) (L := [6, 7, 8, 9, 10, 11, 12, 13]) (by repeat (first | assumption | exact eqx.rf | refine eqx.up ?_ (by decide))) (hA1.wk (by decide))
    have hf_q := hf_q.tr hf1
    rw [h0_q]
    rw [h0_q] at hM_q
    refine go_if_eq (tgt := 13) (pc := 6) dX8_hands_6 (by decide) (fun h_6 => by exfalso; exact absurd h_6 (by decide)) (fun h_6 => ?_)
    refine go_iconst (v := 0) (pc := 9) dX8_hands_9 (by decide) ?_
    refine go_goto (tgt := 22) (pc := 10) dX8_hands_10 (by decide) ?_
    exact go_iretI (pc := 22) rfl dX8_hands_22 (Nat.le_of_ble_eq_true rfl) (Nat.le_of_ble_eq_true rfl) ⟨(by rw [aHands, h0_q]; rfl), rfl, _, _, hM_q, ⟨(by rw [aHands, h0_q]; rfl), fun j h1_q h2_q h3_q => by simp [upd, h1_q, h2_q, h3_q]⟩, (by repeat (first | assumption | exact eqx.rf | refine eqx.up ?_ (by decide))), hf_q⟩
  · refine go_aload_n (pc := 0) dX8_hands_0 rfl ?_
    refine go_iload_n (pc := 1) dX8_hands_1 rfl ?_
    refine go_iload_n (pc := 2) dX8_hands_2 rfl ?_
    refine go_V2I (pc := 3) v_X8_434 rfl rfl (rcv_of (ci := 8) (by first | exact mo0 hM_q | exact mo1 hM_q | exact mo6 hM_q | exact mo7 hM_q | exact mo8 hM_q | exact mo2 hM_q | exact mo3 hM_q | exact mo4 hM_q | exact mo5 hM_q | exact mo9 hM_q | exact mo10 hM_q | exact mo11 hM_q | exact mo12 hM_q | exact mo13 hM_q | exact mo14 hM_q | exact mo15 hM_q | exact mo16 hM_q) rfl) dX8_hands_3 (sp_areHandsOut (k := k - 1) hM_q (by omega) hB_q _ _) (fun v_3 σ n h_q => ?_)
    obtain ⟨rfl, rfl, A1, hM_q, hA1, hf1⟩ := h_q
    have hA_q := eqx.tr (A := A) (L := [6, 7, 8, 9, 10, 11, 12, 13]) (by repeat (first | assumption | exact eqx.rf | refine eqx.up ?_ (by decide))) (hA1.wk (by decide))
    have hf_q := hf_q.tr hf1
    rw [h0_q]
    rw [h0_q] at hM_q
    refine go_if_eq (tgt := 13) (pc := 6) dX8_hands_6 (by decide) (fun h_6 => by exfalso; exact absurd h_6 (by decide)) (fun h_6 => ?_)
    refine go_iconst (v := 0) (pc := 9) dX8_hands_9 (by decide) ?_
    refine go_goto (tgt := 22) (pc := 10) dX8_hands_10 (by decide) ?_
    exact go_iretI (pc := 22) rfl dX8_hands_22 (Nat.le_of_ble_eq_true rfl) (Nat.le_of_ble_eq_true rfl) ⟨(by rw [aHands, h0_q]; rfl), rfl, _, _, hM_q, ⟨(by rw [aHands, h0_q]; rfl), fun j h1_q h2_q h3_q => by simp [upd, h1_q, h2_q, h3_q]⟩, (by repeat (first | assumption | exact eqx.rf | refine eqx.up ?_ (by decide))), hf_q⟩
  · have k1 := pN_some g1_q
    have k2 := pN_some g2_q
    have e1_q := k1.1
    have e2_q := k2.1
    obtain rfl := I_nat e1_q (by omega)
    obtain rfl := I_nat e2_q (by omega)
    refine go_aload_n (pc := 0) dX8_hands_0 rfl ?_
    refine go_iload_n (pc := 1) dX8_hands_1 rfl ?_
    refine go_iload_n (pc := 2) dX8_hands_2 rfl ?_
    refine go_V2I (pc := 3) v_X8_434 rfl rfl (rcv_of (ci := 8) (by first | exact mo0 hM_q | exact mo1 hM_q | exact mo6 hM_q | exact mo7 hM_q | exact mo8 hM_q | exact mo2 hM_q | exact mo3 hM_q | exact mo4 hM_q | exact mo5 hM_q | exact mo9 hM_q | exact mo10 hM_q | exact mo11 hM_q | exact mo12 hM_q | exact mo13 hM_q | exact mo14 hM_q | exact mo15 hM_q | exact mo16 hM_q) rfl) dX8_hands_3 (sp_areHandsOut (k := k - 1) hM_q (by omega) hB_q _ _) (fun v_3 σ n h_q => ?_)
    obtain ⟨rfl, rfl, A1, hM_q, hA1, hf1⟩ := h_q
    have hA_q := eqx.tr (A := A) (L := [6, 7, 8, 9, 10, 11, 12, 13]) (by repeat (first | assumption | exact eqx.rf | refine eqx.up ?_ (by decide))) (hA1.wk (by decide))
    have hf_q := hf_q.tr hf1
    rw [h0_q]
    rw [h0_q] at hM_q
    refine go_if_eq (tgt := 13) (pc := 6) dX8_hands_6 (by decide) (fun h_6 => ?_) (fun h_6 => by exfalso; exact h_6 (by decide))
    refine go_aload_n (pc := 13) dX8_hands_13 rfl ?_
    refine go_iconst (v := 1) (pc := 14) dX8_hands_14 (by decide) ?_
    refine go_iload_n (pc := 15) dX8_hands_15 rfl ?_
    refine go_ishl (pc := 16) dX8_hands_16 ?_
    refine go_iload_n (pc := 17) dX8_hands_17 rfl ?_
    refine go_iconst (v := -1) (pc := 18) dX8_hands_18 (by decide) ?_
    refine go_V3P (pc := 19) v_X8_437 rfl rfl (rcv_of (ci := 8) (by first | exact mo0 hM_q | exact mo1 hM_q | exact mo6 hM_q | exact mo7 hM_q | exact mo8 hM_q | exact mo2 hM_q | exact mo3 hM_q | exact mo4 hM_q | exact mo5 hM_q | exact mo9 hM_q | exact mo10 hM_q | exact mo11 hM_q | exact mo12 hM_q | exact mo13 hM_q | exact mo14 hM_q | exact mo15 hM_q | exact mo16 hM_q) rfl) dX8_hands_19 (sp_handsFrom (k := k - 1) hM_q (by omega) hB_q _ _ _) ?_
    exact go_iretI (pc := 22) rfl dX8_hands_22 (Nat.le_of_ble_eq_true rfl) (Nat.le_of_ble_eq_true rfl) ⟨(by rw [aHands, h0_q, e1_q, e2_q]; rfl), rfl, _, _, hM_q, ⟨(by rw [aHands, h0_q]; rfl), fun j h1_q h2_q h3_q => by simp [upd, h1_q, h2_q, h3_q]⟩, (by repeat (first | assumption | exact eqx.rf | refine eqx.up ?_ (by decide))), hf_q⟩
theorem sp_cut {Γ : gam} {z0 : sto} {n k r : Nat} {F K : row} {A : Nat → row} {Nm : Nat → Int64} (hM_q : MoAt Γ z0 r F K A Nm) (hk : 14 ≤ k) (hB_q : okB K) (hv_q : vS K) (p q : Int32) : Sp Γ (rmk k 0 0) uX8_cut [.ref r, .int p, .int q] z0 n (qI fun v σ' n' => v = (aCut K p.toInt q.toInt).2 ∧ apJ Γ r F K A Nm z0 n (aCut K p.toInt q.toInt).1 σ' n') := by
  have hP8 := hB_q.1.2.1
  have hH5 := hB_q.1.2.2.2.1
  have hW4 := hB_q.1.2.2.2.2.2
  have hA_q : eqx [6, 7, 8, 9, 10, 11, 12, 13] A A := eqx.rf
  have hf_q : fr r (r + 16) z0 z0 := fr.rf
  refine sp_intro [some (.ref r), some (.int p), some (.int q), none, none] (by decide +kernel) rfl (Nat.le_of_ble_eq_true rfl) rfl ?_
  rcases hoT_c (K := K) (p := p.toInt) (q := q.toInt) with h0_q | h0_q | h0_q | ⟨h0_q, a1_q, b1_q, g1_q, g2_q, g3_q, g4_q, g5_q⟩
  · refine go_aload_n (pc := 0) dX8_cut_0 rfl ?_
    refine go_iload_n (pc := 1) dX8_cut_1 rfl ?_
    refine go_iload_n (pc := 2) dX8_cut_2 rfl ?_
    refine go_V2I (pc := 3) v_X8_434 rfl rfl (rcv_of (ci := 8) (by first | exact mo0 hM_q | exact mo1 hM_q | exact mo6 hM_q | exact mo7 hM_q | exact mo8 hM_q | exact mo2 hM_q | exact mo3 hM_q | exact mo4 hM_q | exact mo5 hM_q | exact mo9 hM_q | exact mo10 hM_q | exact mo11 hM_q | exact mo12 hM_q | exact mo13 hM_q | exact mo14 hM_q | exact mo15 hM_q | exact mo16 hM_q) rfl) dX8_cut_3 (sp_areHandsOut (k := k - 1) hM_q (by omega) hB_q _ _) (fun v_3 σ n h_q => ?_)
    obtain ⟨rfl, rfl, A1, hM_q, hA1, hf1⟩ := h_q
    have hA_q := eqx.tr (A := A) (L := [6, 7, 8, 9, 10, 11, 12, 13]) (by repeat (first | assumption | exact eqx.rf | refine eqx.up ?_ (by decide))) (hA1.wk (by decide))
    have hf_q := hf_q.tr hf1
    rw [h0_q]
    rw [h0_q] at hM_q
    refine go_if_ne (tgt := 22) (pc := 6) dX8_cut_6 (by decide) (fun h_6 => ?_) (fun h_6 => by exfalso; exact absurd h_6 (by decide))
    refine go_iconst (v := 0) (pc := 22) dX8_cut_22 (by decide) ?_
    exact go_iretI (pc := 23) rfl dX8_cut_23 (Nat.le_of_ble_eq_true rfl) (Nat.le_of_ble_eq_true rfl) ⟨(by rw [aCut, h0_q]; rfl), rfl, _, _, hM_q, ⟨(by rw [aCut, h0_q]; rfl), fun j h1_q h2_q h3_q => by simp [upd, h1_q, h2_q, h3_q]⟩, (by repeat (first | assumption | exact eqx.rf | refine eqx.up ?_ (by decide))), hf_q⟩
  · refine go_aload_n (pc := 0) dX8_cut_0 rfl ?_
    refine go_iload_n (pc := 1) dX8_cut_1 rfl ?_
    refine go_iload_n (pc := 2) dX8_cut_2 rfl ?_
    refine go_V2I (pc := 3) v_X8_434 rfl rfl (rcv_of (ci := 8) (by first | exact mo0 hM_q | exact mo1 hM_q | exact mo6 hM_q | exact mo7 hM_q | exact mo8 hM_q | exact mo2 hM_q | exact mo3 hM_q | exact mo4 hM_q | exact mo5 hM_q | exact mo9 hM_q | exact mo10 hM_q | exact mo11 hM_q | exact mo12 hM_q | exact mo13 hM_q | exact mo14 hM_q | exact mo15 hM_q | exact mo16 hM_q) rfl) dX8_cut_3 (sp_areHandsOut (k := k - 1) hM_q (by omega) hB_q _ _) (fun v_3 σ n h_q => ?_)
    obtain ⟨rfl, rfl, A1, hM_q, hA1, hf1⟩ := h_q
    have hA_q := eqx.tr (A := A) (L := [6, 7, 8, 9, 10, 11, 12, 13]) (by repeat (first | assumption | exact eqx.rf | refine eqx.up ?_ (by decide))) (hA1.wk (by decide))
    have hf_q := hf_q.tr hf1
    rw [h0_q]
    rw [h0_q] at hM_q
    refine go_if_ne (tgt := 22) (pc := 6) dX8_cut_6 (by decide) (fun h_6 => ?_) (fun h_6 => by exfalso; exact absurd h_6 (by decide))
    refine go_iconst (v := 0) (pc := 22) dX8_cut_22 (by decide) ?_
    exact go_iretI (pc := 23) rfl dX8_cut_23 (Nat.le_of_ble_eq_true rfl) (Nat.le_of_ble_eq_true rfl) ⟨(by rw [aCut, h0_q]; rfl), rfl, _, _, hM_q, ⟨(by rw [aCut, h0_q]; rfl), fun j h1_q h2_q h3_q => by simp [upd, h1_q, h2_q, h3_q]⟩, (by repeat (first | assumption | exact eqx.rf | refine eqx.up ?_ (by decide))), hf_q⟩
  · refine go_aload_n (pc := 0) dX8_cut_0 rfl ?_
    refine go_iload_n (pc := 1) dX8_cut_1 rfl ?_
    refine go_iload_n (pc := 2) dX8_cut_2 rfl ?_
    refine go_V2I (pc := 3) v_X8_434 rfl rfl (rcv_of (ci := 8) (by first | exact mo0 hM_q | exact mo1 hM_q | exact mo6 hM_q | exact mo7 hM_q | exact mo8 hM_q | exact mo2 hM_q | exact mo3 hM_q | exact mo4 hM_q | exact mo5 hM_q | exact mo9 hM_q | exact mo10 hM_q | exact mo11 hM_q | exact mo12 hM_q | exact mo13 hM_q | exact mo14 hM_q | exact mo15 hM_q | exact mo16 hM_q) rfl) dX8_cut_3 (sp_areHandsOut (k := k - 1) hM_q (by omega) hB_q _ _) (fun v_3 σ n h_q => ?_)
    obtain ⟨rfl, rfl, A1, hM_q, hA1, hf1⟩ := h_q
    have hA_q := eqx.tr (A := A) (L := [6, 7, 8, 9, 10, 11, 12, 13]) (by repeat (first | assumption | exact eqx.rf | refine eqx.up ?_ (by decide))) (hA1.wk (by decide))
    have hf_q := hf_q.tr hf1
    rw [h0_q]
    rw [h0_q] at hM_q
    refine go_if_ne (tgt := 22) (pc := 6) dX8_cut_6 (by decide) (fun h_6 => ?_) (fun h_6 => by exfalso; exact absurd h_6 (by decide))
    refine go_iconst (v := 0) (pc := 22) dX8_cut_22 (by decide) ?_
    exact go_iretI (pc := 23) rfl dX8_cut_23 (Nat.le_of_ble_eq_true rfl) (Nat.le_of_ble_eq_true rfl) ⟨(by rw [aCut, h0_q]; rfl), rfl, _, _, hM_q, ⟨(by rw [aCut, h0_q]; rfl), fun j h1_q h2_q h3_q => by simp [upd, h1_q, h2_q, h3_q]⟩, (by repeat (first | assumption | exact eqx.rf | refine eqx.up ?_ (by decide))), hf_q⟩
  · have k1 := pN_some g1_q
    have k2 := pN_some g2_q
    have e1_q := k1.1
    have e2_q := k2.1
    obtain rfl := I_nat e1_q (by omega)
    obtain rfl := I_nat e2_q (by omega)
    refine go_aload_n (pc := 0) dX8_cut_0 rfl ?_
    refine go_iload_n (pc := 1) dX8_cut_1 rfl ?_
    refine go_iload_n (pc := 2) dX8_cut_2 rfl ?_
    refine go_V2I (pc := 3) v_X8_434 rfl rfl (rcv_of (ci := 8) (by first | exact mo0 hM_q | exact mo1 hM_q | exact mo6 hM_q | exact mo7 hM_q | exact mo8 hM_q | exact mo2 hM_q | exact mo3 hM_q | exact mo4 hM_q | exact mo5 hM_q | exact mo9 hM_q | exact mo10 hM_q | exact mo11 hM_q | exact mo12 hM_q | exact mo13 hM_q | exact mo14 hM_q | exact mo15 hM_q | exact mo16 hM_q) rfl) dX8_cut_3 (sp_areHandsOut (k := k - 1) hM_q (by omega) hB_q _ _) (fun v_3 σ n h_q => ?_)
    obtain ⟨rfl, rfl, A1, hM_q, hA1, hf1⟩ := h_q
    have hA_q := eqx.tr (A := A) (L := [6, 7, 8, 9, 10, 11, 12, 13]) (by repeat (first | assumption | exact eqx.rf | refine eqx.up ?_ (by decide))) (hA1.wk (by decide))
    have hf_q := hf_q.tr hf1
    rw [h0_q]
    rw [h0_q] at hM_q
    refine go_if_ne (tgt := 22) (pc := 6) dX8_cut_6 (by decide) (fun h_6 => by exfalso; exact h_6 (by decide)) (fun h_6 => ?_)
    refine go_aload_n (pc := 9) dX8_cut_9 rfl ?_
    refine go_iconst (v := 1) (pc := 10) dX8_cut_10 (by decide) ?_
    refine go_iload_n (pc := 11) dX8_cut_11 rfl ?_
    refine go_ishl (pc := 12) dX8_cut_12 ?_
    refine go_iload_n (pc := 13) dX8_cut_13 rfl ?_
    refine go_iconst (v := -1) (pc := 14) dX8_cut_14 (by decide) ?_
    refine go_V3P (pc := 15) v_X8_437 rfl rfl (rcv_of (ci := 8) (by first | exact mo0 hM_q | exact mo1 hM_q | exact mo6 hM_q | exact mo7 hM_q | exact mo8 hM_q | exact mo2 hM_q | exact mo3 hM_q | exact mo4 hM_q | exact mo5 hM_q | exact mo9 hM_q | exact mo10 hM_q | exact mo11 hM_q | exact mo12 hM_q | exact mo13 hM_q | exact mo14 hM_q | exact mo15 hM_q | exact mo16 hM_q) rfl) dX8_cut_15 (sp_handsFrom (k := k - 1) hM_q (by omega) hB_q _ _ _) ?_
    refine go_iconst (v := -1) (pc := 18) dX8_cut_18 (by decide) ?_
    refine go_icmp_ne (tgt := 24) (pc := 19) dX8_cut_19 (by decide) (fun h_19 => ?_) (fun h_19 => ?_)
    · refine go_iconst (v := 0) (pc := 24) dX8_cut_24 (by decide) ?_
      refine go_istore_n (lw := [_, _, _, _, _]) (pc := 25) dX8_cut_25 (by decide) rfl ?_
      refine go_iconst (v := 0) (pc := 26) dX8_cut_26 (by decide) ?_
      refine go_istore (lw := [_, _, _, _, _]) (pc := 27) dX8_cut_27 (by decide) rfl ?_
      refine go_iter (kP K) (fun i_q lv9 s9 n9 => ∃ (x3_q : Int32), ∃ A9_q, lv9 = [some (.ref r), some (.int (nI a1_q)), some (.int (nI b1_q)), some (.int x3_q), some (.int (nI i_q))] ∧ (MoAt Γ s9 r (upd F 4 0) K A9_q Nm) ∧ (eqx [6, 7, 8, 9, 10, 11, 12, 13] A A9_q) ∧ (fr r (r + 16) z0 s9) ∧ (bits (fun w => decide (w ≠ a1_q ∧ w ≠ b1_q ∧ hfK K (bit1 a1_q) (nI b1_q) (nI w) = -1)) (kP K - i_q) i_q x3_q = bits (fun w => decide (w ≠ a1_q ∧ w ≠ b1_q ∧ hfK K (bit1 a1_q) (nI b1_q) (nI w) = -1)) (kP K) 0 0) ∧ n = n9) ⟨0, _, rfl, hM_q, hA_q, hf_q, rfl, rfl⟩ ?_ ?_
      · rintro i_q lv9 σ n9 hi_q ⟨x3_q, A9_q, rfl, hM_q, hA_q, hf_q, hR_q, rfl⟩ ih_q
        refine go_iload (pc := 29) dX8_cut_29 rfl ?_
        refine go_aload_n (pc := 31) dX8_cut_31 rfl ?_
        refine go_V0P (pc := 32) v_X8_242 rfl rfl (rcv_of (ci := 8) (by first | exact mo0 hM_q | exact mo1 hM_q | exact mo6 hM_q | exact mo7 hM_q | exact mo8 hM_q | exact mo2 hM_q | exact mo3 hM_q | exact mo4 hM_q | exact mo5 hM_q | exact mo9 hM_q | exact mo10 hM_q | exact mo11 hM_q | exact mo12 hM_q | exact mo13 hM_q | exact mo14 hM_q | exact mo15 hM_q | exact mo16 hM_q) rfl) dX8_cut_32 (sp_people (k := k - 1) hM_q) ?_
        rw [hB_q.1.1]
        refine go_icmp_ge (tgt := 81) (pc := 35) dX8_cut_35 (by decide) (fun h_35 => by exfalso; exact absurd h_35 (nI_ge (by omega) (by omega))) (fun h_35 => ?_)
        refine go_iload_n (pc := 38) dX8_cut_38 rfl ?_
        refine go_iload (pc := 39) dX8_cut_39 rfl ?_
        refine go_iload_n (pc := 41) dX8_cut_41 rfl ?_
        refine go_icmp_eq (tgt := 72) (pc := 42) dX8_cut_42 (by decide) (fun h_42 => ?_) (fun h_42 => ?_)
        · refine go_iconst (v := 0) (pc := 72) dX8_cut_72 (by decide) ?_
          refine go_ior (pc := 73) dX8_cut_73 ?_
          refine go_istore_n (lw := [_, _, _, _, _]) (pc := 74) dX8_cut_74 (by decide) rfl ?_
          refine go_iinc (v := 1) (lw := [_, _, _, _, _]) (pc := 75) dX8_cut_75 rfl (by decide) (by decide) rfl ?_
          refine go_goto (tgt := 29) (pc := 78) dX8_cut_78 (by decide) ?_
          rw [nI_1]
          exact ih_q _ _ _ ⟨_, _, rfl, hM_q, hA_q, hf_q, (by rw [← hR_q, bits_step hi_q]; congr 2; first | (rw [if_neg (by rw [decide_eq_true_eq]; exact fun hc_q => hc_q.1 ((nI_eq (by omega) (by omega)).mp h_42))]) | (rw [if_neg (by rw [decide_eq_true_eq]; exact fun hc_q => hc_q.2.1 ((nI_eq (by omega) (by omega)).mp h_48))]) | (rw [if_neg (by rw [decide_eq_true_eq]; exact fun hc_q => h_62 hc_q.2.2)]) | (rw [if_pos (by rw [decide_eq_true_eq]; exact ⟨fun hc_q => h_42 (by rw [hc_q]), fun hc_q => h_48 (by rw [hc_q]), h_62⟩)])), rfl⟩
        · refine go_iload (pc := 45) dX8_cut_45 rfl ?_
          refine go_iload_n (pc := 47) dX8_cut_47 rfl ?_
          refine go_icmp_eq (tgt := 72) (pc := 48) dX8_cut_48 (by decide) (fun h_48 => ?_) (fun h_48 => ?_)
          · refine go_iconst (v := 0) (pc := 72) dX8_cut_72 (by decide) ?_
            refine go_ior (pc := 73) dX8_cut_73 ?_
            refine go_istore_n (lw := [_, _, _, _, _]) (pc := 74) dX8_cut_74 (by decide) rfl ?_
            refine go_iinc (v := 1) (lw := [_, _, _, _, _]) (pc := 75) dX8_cut_75 rfl (by decide) (by decide) rfl ?_
            refine go_goto (tgt := 29) (pc := 78) dX8_cut_78 (by decide) ?_
            rw [nI_1]
            exact ih_q _ _ _ ⟨_, _, rfl, hM_q, hA_q, hf_q, (by rw [← hR_q, bits_step hi_q]; congr 2; first | (rw [if_neg (by rw [decide_eq_true_eq]; exact fun hc_q => hc_q.1 ((nI_eq (by omega) (by omega)).mp h_42))]) | (rw [if_neg (by rw [decide_eq_true_eq]; exact fun hc_q => hc_q.2.1 ((nI_eq (by omega) (by omega)).mp h_48))]) | (rw [if_neg (by rw [decide_eq_true_eq]; exact fun hc_q => h_62 hc_q.2.2)]) | (rw [if_pos (by rw [decide_eq_true_eq]; exact ⟨fun hc_q => h_42 (by rw [hc_q]), fun hc_q => h_48 (by rw [hc_q]), h_62⟩)])), rfl⟩
          · refine go_aload_n (pc := 51) dX8_cut_51 rfl ?_
            refine go_iconst (v := 1) (pc := 52) dX8_cut_52 (by decide) ?_
            refine go_iload_n (pc := 53) dX8_cut_53 rfl ?_
            refine go_ishl (pc := 54) dX8_cut_54 ?_
            refine go_iload_n (pc := 55) dX8_cut_55 rfl ?_
            refine go_iload (pc := 56) dX8_cut_56 rfl ?_
            refine go_V3P (pc := 58) v_X8_437 rfl rfl (rcv_of (ci := 8) (by first | exact mo0 hM_q | exact mo1 hM_q | exact mo6 hM_q | exact mo7 hM_q | exact mo8 hM_q | exact mo2 hM_q | exact mo3 hM_q | exact mo4 hM_q | exact mo5 hM_q | exact mo9 hM_q | exact mo10 hM_q | exact mo11 hM_q | exact mo12 hM_q | exact mo13 hM_q | exact mo14 hM_q | exact mo15 hM_q | exact mo16 hM_q) rfl) dX8_cut_58 (sp_handsFrom (k := k - 1) hM_q (by omega) hB_q _ _ _) ?_
            refine go_iconst (v := -1) (pc := 61) dX8_cut_61 (by decide) ?_
            refine go_icmp_ne (tgt := 72) (pc := 62) dX8_cut_62 (by decide) (fun h_62 => ?_) (fun h_62 => ?_)
            · refine go_iconst (v := 0) (pc := 72) dX8_cut_72 (by decide) ?_
              refine go_ior (pc := 73) dX8_cut_73 ?_
              refine go_istore_n (lw := [_, _, _, _, _]) (pc := 74) dX8_cut_74 (by decide) rfl ?_
              refine go_iinc (v := 1) (lw := [_, _, _, _, _]) (pc := 75) dX8_cut_75 rfl (by decide) (by decide) rfl ?_
              refine go_goto (tgt := 29) (pc := 78) dX8_cut_78 (by decide) ?_
              rw [nI_1]
              exact ih_q _ _ _ ⟨_, _, rfl, hM_q, hA_q, hf_q, (by rw [← hR_q, bits_step hi_q]; congr 2; first | (rw [if_neg (by rw [decide_eq_true_eq]; exact fun hc_q => hc_q.1 ((nI_eq (by omega) (by omega)).mp h_42))]) | (rw [if_neg (by rw [decide_eq_true_eq]; exact fun hc_q => hc_q.2.1 ((nI_eq (by omega) (by omega)).mp h_48))]) | (rw [if_neg (by rw [decide_eq_true_eq]; exact fun hc_q => h_62 hc_q.2.2)]) | (rw [if_pos (by rw [decide_eq_true_eq]; exact ⟨fun hc_q => h_42 (by rw [hc_q]), fun hc_q => h_48 (by rw [hc_q]), h_62⟩)])), rfl⟩
            · refine go_iconst (v := 1) (pc := 65) dX8_cut_65 (by decide) ?_
              refine go_iload (pc := 66) dX8_cut_66 rfl ?_
              refine go_ishl (pc := 68) dX8_cut_68 ?_
              refine go_goto (tgt := 73) (pc := 69) dX8_cut_69 (by decide) ?_
              refine go_ior (pc := 73) dX8_cut_73 ?_
              refine go_istore_n (lw := [_, _, _, _, _]) (pc := 74) dX8_cut_74 (by decide) rfl ?_
              refine go_iinc (v := 1) (lw := [_, _, _, _, _]) (pc := 75) dX8_cut_75 rfl (by decide) (by decide) rfl ?_
              refine go_goto (tgt := 29) (pc := 78) dX8_cut_78 (by decide) ?_
              rw [nI_1]
              exact ih_q _ _ _ ⟨_, _, rfl, hM_q, hA_q, hf_q, (by rw [← hR_q, bits_step hi_q]; congr 2; first | (rw [if_neg (by rw [decide_eq_true_eq]; exact fun hc_q => hc_q.1 ((nI_eq (by omega) (by omega)).mp h_42))]) | (rw [if_neg (by rw [decide_eq_true_eq]; exact fun hc_q => hc_q.2.1 ((nI_eq (by omega) (by omega)).mp h_48))]) | (rw [if_neg (by rw [decide_eq_true_eq]; exact fun hc_q => h_62 hc_q.2.2)]) | (rw [if_pos (by rw [decide_eq_true_eq]; exact ⟨fun hc_q => h_42 (by rw [hc_q]), fun hc_q => h_48 (by rw [hc_q]), h_62⟩)])), rfl⟩
      · rintro lv9 σ n9 ⟨x3_q, A9_q, rfl, hM_q, hA_q, hf_q, hR_q, rfl⟩
        refine go_iload (pc := 29) dX8_cut_29 rfl ?_
        refine go_aload_n (pc := 31) dX8_cut_31 rfl ?_
        refine go_V0P (pc := 32) v_X8_242 rfl rfl (rcv_of (ci := 8) (by first | exact mo0 hM_q | exact mo1 hM_q | exact mo6 hM_q | exact mo7 hM_q | exact mo8 hM_q | exact mo2 hM_q | exact mo3 hM_q | exact mo4 hM_q | exact mo5 hM_q | exact mo9 hM_q | exact mo10 hM_q | exact mo11 hM_q | exact mo12 hM_q | exact mo13 hM_q | exact mo14 hM_q | exact mo15 hM_q | exact mo16 hM_q) rfl) dX8_cut_32 (sp_people (k := k - 1) hM_q) ?_
        rw [hB_q.1.1]
        refine go_icmp_ge (tgt := 81) (pc := 35) dX8_cut_35 (by decide) (fun h_35 => ?_) (fun h_35 => by exfalso; exact h_35 (nI_le (by omega) (by omega)))
        refine go_iload_n (pc := 81) dX8_cut_81 rfl ?_
        exact go_iretI (pc := 82) rfl dX8_cut_82 (Nat.le_of_ble_eq_true rfl) (Nat.le_of_ble_eq_true rfl) ⟨(by rw [Nat.sub_self] at hR_q; rw [aCut, h0_q, e1_q, e2_q]; show _ = (if hfK K (bit1 a1_q) (nI b1_q) (-1) = -1 then _ else _); rw [if_neg (show ¬ hfK K (bit1 a1_q) (nI b1_q) (-1) = -1 from h_19)]; exact hR_q), rfl, _, _, hM_q, ⟨(by rw [aCut, h0_q]; rfl), fun j h1_q h2_q h3_q => by simp [upd, h1_q, h2_q, h3_q]⟩, (by repeat (first | assumption | exact eqx.rf | refine eqx.up ?_ (by decide))), hf_q⟩
    · refine go_iconst (v := 0) (pc := 22) dX8_cut_22 (by decide) ?_
      exact go_iretI (pc := 23) rfl dX8_cut_23 (Nat.le_of_ble_eq_true rfl) (Nat.le_of_ble_eq_true rfl) ⟨(by rw [aCut, h0_q, e1_q, e2_q]; show _ = (if hfK K (bit1 a1_q) (nI b1_q) (-1) = -1 then _ else _); rw [if_pos (show hfK K (bit1 a1_q) (nI b1_q) (-1) = -1 from h_19)]), rfl, _, _, hM_q, ⟨(by rw [aCut, h0_q]; rfl), fun j h1_q h2_q h3_q => by simp [upd, h1_q, h2_q, h3_q]⟩, (by repeat (first | assumption | exact eqx.rf | refine eqx.up ?_ (by decide))), hf_q⟩
theorem sp_relay {Γ : gam} {z0 : sto} {n k r : Nat} {F K : row} {A : Nat → row} {Nm : Nat → Int64} (hM_q : MoAt Γ z0 r F K A Nm) (hk : 14 ≤ k) (hB_q : okB K) (hv_q : vS K) (p : Int32) : Sp Γ (rmk k 0 0) uX8_relay [.ref r, .int p] z0 n (qI fun v σ' n' => v = (aRelay K p.toInt).2 ∧ apJ Γ r F K A Nm z0 n (aRelay K p.toInt).1 σ' n') := by
  have hP8 := hB_q.1.2.1
  have hH5 := hB_q.1.2.2.2.1
  have hW4 := hB_q.1.2.2.2.2.2
  have hA_q : eqx [6, 7, 8, 9, 10, 11, 12, 13] A A := eqx.rf
  have hf_q : fr r (r + 16) z0 z0 := fr.rf
  refine sp_intro [some (.ref r), some (.int p), none, none] (by decide +kernel) rfl (Nat.le_of_ble_eq_true rfl) rfl ?_
  cases hp_q : pN (kP K) p.toInt with
  | none =>
    refine go_aload_n (pc := 0) dX8_relay_0 rfl ?_
    refine go_aload_n (pc := 1) dX8_relay_1 rfl ?_
    refine go_iload_n (pc := 2) dX8_relay_2 rfl ?_
    refine go_i2l (pc := 3) dX8_relay_3 ?_
    refine go_V1P (pc := 4) v_X8_310 rfl rfl (rcv_of (ci := 8) (by first | exact mo0 hM_q | exact mo1 hM_q | exact mo6 hM_q | exact mo7 hM_q | exact mo8 hM_q | exact mo2 hM_q | exact mo3 hM_q | exact mo4 hM_q | exact mo5 hM_q | exact mo9 hM_q | exact mo10 hM_q | exact mo11 hM_q | exact mo12 hM_q | exact mo13 hM_q | exact mo14 hM_q | exact mo15 hM_q | exact mo16 hM_q) rfl) dX8_relay_4 (sp_isPerson (k := k - 1) hM_q (by omega) _) ?_
    refine go_if_ne (tgt := 14) (pc := 7) dX8_relay_7 (by decide) (fun h_7 => by exfalso; exact h_7 (pi_no hB_q.1.1 (by omega) hp_q)) (fun h_7 => ?_)
    refine go_iconst (v := 1) (pc := 10) dX8_relay_10 (by decide) ?_
    refine go_goto (tgt := 27) (pc := 11) dX8_relay_11 (by decide) ?_
    refine go_mpf4 (pc := 27) hM_q dX8_relay_27 (fun σ hM_q hf9 => ?_)
    have hf_q := hf_q.tr hf9
    refine go_aload_n (pc := 30) dX8_relay_30 rfl ?_
    refine go_getf (pc := 31) f_X8_64 dX8_relay_31 (by first | exact mo0 hM_q | exact mo1 hM_q | exact mo6 hM_q | exact mo7 hM_q | exact mo8 hM_q | exact mo2 hM_q | exact mo3 hM_q | exact mo4 hM_q | exact mo5 hM_q | exact mo9 hM_q | exact mo10 hM_q | exact mo11 hM_q | exact mo12 hM_q | exact mo13 hM_q | exact mo14 hM_q | exact mo15 hM_q | exact mo16 hM_q) (by rfl) ?_
    refine go_if_le (tgt := 39) (pc := 34) dX8_relay_34 (by decide) (fun h_34 => by exfalso; exact absurd (show (1 : Int32) ≤ 0 from h_34) (by decide)) (fun h_34 => ?_)
    refine go_iconst (v := 0) (pc := 37) dX8_relay_37 (by decide) ?_
    exact go_iretI (pc := 38) rfl dX8_relay_38 (Nat.le_of_ble_eq_true rfl) (Nat.le_of_ble_eq_true rfl) ⟨(by simp [aRelay, hp_q]), rfl, _, _, hM_q, ⟨(by simp [upd, aRelay, hp_q]), fun j h1_q h2_q h3_q => by simp [upd, h1_q, h2_q, h3_q]⟩, (by repeat (first | assumption | exact eqx.rf | refine eqx.up ?_ (by decide))), hf_q⟩
  | some j1_q =>
    have hp1 := pN_some hp_q
    obtain rfl := I_nat hp1.1 (by omega)
    by_cases hu : K (16 + j1_q) = -1
    · refine go_aload_n (pc := 0) dX8_relay_0 rfl ?_
      refine go_aload_n (pc := 1) dX8_relay_1 rfl ?_
      refine go_iload_n (pc := 2) dX8_relay_2 rfl ?_
      refine go_i2l (pc := 3) dX8_relay_3 ?_
      refine go_V1P (pc := 4) v_X8_310 rfl rfl (rcv_of (ci := 8) (by first | exact mo0 hM_q | exact mo1 hM_q | exact mo6 hM_q | exact mo7 hM_q | exact mo8 hM_q | exact mo2 hM_q | exact mo3 hM_q | exact mo4 hM_q | exact mo5 hM_q | exact mo9 hM_q | exact mo10 hM_q | exact mo11 hM_q | exact mo12 hM_q | exact mo13 hM_q | exact mo14 hM_q | exact mo15 hM_q | exact mo16 hM_q) rfl) dX8_relay_4 (sp_isPerson (k := k - 1) hM_q (by omega) _) ?_
      refine go_if_ne (tgt := 14) (pc := 7) dX8_relay_7 (by decide) (fun h_7 => ?_) (fun h_7 => by exfalso; rw [pi_yes hB_q.1.1 (by omega) hp_q] at h_7; exact absurd h_7 (by decide))
      refine go_aload_n (pc := 14) dX8_relay_14 rfl ?_
      refine go_iload_n (pc := 15) dX8_relay_15 rfl ?_
      refine go_V1P (pc := 16) v_X8_296 rfl rfl (rcv_of (ci := 8) (by first | exact mo0 hM_q | exact mo1 hM_q | exact mo6 hM_q | exact mo7 hM_q | exact mo8 hM_q | exact mo2 hM_q | exact mo3 hM_q | exact mo4 hM_q | exact mo5 hM_q | exact mo9 hM_q | exact mo10 hM_q | exact mo11 hM_q | exact mo12 hM_q | exact mo13 hM_q | exact mo14 hM_q | exact mo15 hM_q | exact mo16 hM_q) rfl) dX8_relay_16 (sp_isUp (k := k - 1) hM_q (by omega)) ?_
      refine go_if_eq (tgt := 26) (pc := 19) dX8_relay_19 (by decide) (fun h_19 => by exfalso; exact absurd hu (bI_0.mp h_19)) (fun h_19 => ?_)
      refine go_iconst (v := 2) (pc := 22) dX8_relay_22 (by decide) ?_
      refine go_goto (tgt := 27) (pc := 23) dX8_relay_23 (by decide) ?_
      refine go_mpf4 (pc := 27) hM_q dX8_relay_27 (fun σ hM_q hf9 => ?_)
      have hf_q := hf_q.tr hf9
      refine go_aload_n (pc := 30) dX8_relay_30 rfl ?_
      refine go_getf (pc := 31) f_X8_64 dX8_relay_31 (by first | exact mo0 hM_q | exact mo1 hM_q | exact mo6 hM_q | exact mo7 hM_q | exact mo8 hM_q | exact mo2 hM_q | exact mo3 hM_q | exact mo4 hM_q | exact mo5 hM_q | exact mo9 hM_q | exact mo10 hM_q | exact mo11 hM_q | exact mo12 hM_q | exact mo13 hM_q | exact mo14 hM_q | exact mo15 hM_q | exact mo16 hM_q) (by rfl) ?_
      refine go_if_le (tgt := 39) (pc := 34) dX8_relay_34 (by decide) (fun h_34 => by exfalso; exact absurd (show (2 : Int32) ≤ 0 from h_34) (by decide)) (fun h_34 => ?_)
      refine go_iconst (v := 0) (pc := 37) dX8_relay_37 (by decide) ?_
      exact go_iretI (pc := 38) rfl dX8_relay_38 (Nat.le_of_ble_eq_true rfl) (Nat.le_of_ble_eq_true rfl) ⟨(by simp [aRelay, hp_q, hu]), rfl, _, _, hM_q, ⟨(by simp [upd, aRelay, hp_q, hu]), fun j h1_q h2_q h3_q => by simp [upd, h1_q, h2_q, h3_q]⟩, (by repeat (first | assumption | exact eqx.rf | refine eqx.up ?_ (by decide))), hf_q⟩
    · refine go_aload_n (pc := 0) dX8_relay_0 rfl ?_
      refine go_aload_n (pc := 1) dX8_relay_1 rfl ?_
      refine go_iload_n (pc := 2) dX8_relay_2 rfl ?_
      refine go_i2l (pc := 3) dX8_relay_3 ?_
      refine go_V1P (pc := 4) v_X8_310 rfl rfl (rcv_of (ci := 8) (by first | exact mo0 hM_q | exact mo1 hM_q | exact mo6 hM_q | exact mo7 hM_q | exact mo8 hM_q | exact mo2 hM_q | exact mo3 hM_q | exact mo4 hM_q | exact mo5 hM_q | exact mo9 hM_q | exact mo10 hM_q | exact mo11 hM_q | exact mo12 hM_q | exact mo13 hM_q | exact mo14 hM_q | exact mo15 hM_q | exact mo16 hM_q) rfl) dX8_relay_4 (sp_isPerson (k := k - 1) hM_q (by omega) _) ?_
      refine go_if_ne (tgt := 14) (pc := 7) dX8_relay_7 (by decide) (fun h_7 => ?_) (fun h_7 => by exfalso; rw [pi_yes hB_q.1.1 (by omega) hp_q] at h_7; exact absurd h_7 (by decide))
      refine go_aload_n (pc := 14) dX8_relay_14 rfl ?_
      refine go_iload_n (pc := 15) dX8_relay_15 rfl ?_
      refine go_V1P (pc := 16) v_X8_296 rfl rfl (rcv_of (ci := 8) (by first | exact mo0 hM_q | exact mo1 hM_q | exact mo6 hM_q | exact mo7 hM_q | exact mo8 hM_q | exact mo2 hM_q | exact mo3 hM_q | exact mo4 hM_q | exact mo5 hM_q | exact mo9 hM_q | exact mo10 hM_q | exact mo11 hM_q | exact mo12 hM_q | exact mo13 hM_q | exact mo14 hM_q | exact mo15 hM_q | exact mo16 hM_q) rfl) dX8_relay_16 (sp_isUp (k := k - 1) hM_q (by omega)) ?_
      refine go_if_eq (tgt := 26) (pc := 19) dX8_relay_19 (by decide) (fun h_19 => ?_) (fun h_19 => by exfalso; exact h_19 (bI_0.mpr hu))
      refine go_iconst (v := 0) (pc := 26) dX8_relay_26 (by decide) ?_
      refine go_mpf4 (pc := 27) hM_q dX8_relay_27 (fun σ hM_q hf9 => ?_)
      have hf_q := hf_q.tr hf9
      refine go_aload_n (pc := 30) dX8_relay_30 rfl ?_
      refine go_getf (pc := 31) f_X8_64 dX8_relay_31 (by first | exact mo0 hM_q | exact mo1 hM_q | exact mo6 hM_q | exact mo7 hM_q | exact mo8 hM_q | exact mo2 hM_q | exact mo3 hM_q | exact mo4 hM_q | exact mo5 hM_q | exact mo9 hM_q | exact mo10 hM_q | exact mo11 hM_q | exact mo12 hM_q | exact mo13 hM_q | exact mo14 hM_q | exact mo15 hM_q | exact mo16 hM_q) (by rfl) ?_
      refine go_if_le (tgt := 39) (pc := 34) dX8_relay_34 (by decide) (fun h_34 => ?_) (fun h_34 => by exfalso; exact h_34 (show (0 : Int32) ≤ 0 from by decide))
      refine go_iconst (v := 0) (pc := 39) dX8_relay_39 (by decide) ?_
      refine go_istore_n (lw := [_, _, _, _]) (pc := 40) dX8_relay_40 (by decide) rfl ?_
      refine go_iconst (v := 0) (pc := 41) dX8_relay_41 (by decide) ?_
      refine go_istore_n (lw := [_, _, _, _]) (pc := 42) dX8_relay_42 (by decide) rfl ?_
      refine go_iter (kP K) (fun i_q lv9 s9 n9 => ∃ (x2_q : Int32), ∃ A9_q, lv9 = [some (.ref r), some (.int (nI j1_q)), some (.int x2_q), some (.int (nI i_q))] ∧ (MoAt Γ s9 r (upd F 4 0) K A9_q Nm) ∧ (eqx [6, 7, 8, 9, 10, 11, 12, 13] A A9_q) ∧ (fr r (r + 16) z0 s9) ∧ (bits (fun q => decide (K (16 + q) = K 2 - 1)) (kP K - i_q) i_q x2_q = bits (fun q => decide (K (16 + q) = K 2 - 1)) (kP K) 0 0) ∧ n = n9) ⟨0, _, rfl, hM_q, hA_q, hf_q, rfl, rfl⟩ ?_ ?_
      · rintro i_q lv9 σ n9 hi_q ⟨x2_q, A9_q, rfl, hM_q, hA_q, hf_q, hR_q, rfl⟩ ih_q
        refine go_iload_n (pc := 43) dX8_relay_43 rfl ?_
        refine go_aload_n (pc := 44) dX8_relay_44 rfl ?_
        refine go_V0P (pc := 45) v_X8_242 rfl rfl (rcv_of (ci := 8) (by first | exact mo0 hM_q | exact mo1 hM_q | exact mo6 hM_q | exact mo7 hM_q | exact mo8 hM_q | exact mo2 hM_q | exact mo3 hM_q | exact mo4 hM_q | exact mo5 hM_q | exact mo9 hM_q | exact mo10 hM_q | exact mo11 hM_q | exact mo12 hM_q | exact mo13 hM_q | exact mo14 hM_q | exact mo15 hM_q | exact mo16 hM_q) rfl) dX8_relay_45 (sp_people (k := k - 1) hM_q) ?_
        rw [hB_q.1.1]
        refine go_icmp_ge (tgt := 87) (pc := 48) dX8_relay_48 (by decide) (fun h_48 => by exfalso; exact absurd h_48 (nI_ge (by omega) (by omega))) (fun h_48 => ?_)
        refine go_iload_n (pc := 51) dX8_relay_51 rfl ?_
        refine go_aload_n (pc := 52) dX8_relay_52 rfl ?_
        refine go_getf (pc := 53) f_X8_9 dX8_relay_53 (by first | exact mo0 hM_q | exact mo1 hM_q | exact mo6 hM_q | exact mo7 hM_q | exact mo8 hM_q | exact mo2 hM_q | exact mo3 hM_q | exact mo4 hM_q | exact mo5 hM_q | exact mo9 hM_q | exact mo10 hM_q | exact mo11 hM_q | exact mo12 hM_q | exact mo13 hM_q | exact mo14 hM_q | exact mo15 hM_q | exact mo16 hM_q) (by rfl) ?_
        refine go_bipush (v := 16) (pc := 56) dX8_relay_56 (by decide) ?_
        refine go_iload_n (pc := 58) dX8_relay_58 rfl ?_
        refine go_iadd (pc := 59) dX8_relay_59 ?_
        refine go_iald (pc := 60) dX8_relay_60 (by first | exact mo0 hM_q | exact mo1 hM_q | exact mo6 hM_q | exact mo7 hM_q | exact mo8 hM_q | exact mo2 hM_q | exact mo3 hM_q | exact mo4 hM_q | exact mo5 hM_q | exact mo9 hM_q | exact mo10 hM_q | exact mo11 hM_q | exact mo12 hM_q | exact mo13 hM_q | exact mo14 hM_q | exact mo15 hM_q | exact mo16 hM_q) (by exact ⟨nI_add 16 _, by omega⟩) ?_
        refine go_aload_n (pc := 61) dX8_relay_61 rfl ?_
        refine go_getf (pc := 62) f_X8_9 dX8_relay_62 (by first | exact mo0 hM_q | exact mo1 hM_q | exact mo6 hM_q | exact mo7 hM_q | exact mo8 hM_q | exact mo2 hM_q | exact mo3 hM_q | exact mo4 hM_q | exact mo5 hM_q | exact mo9 hM_q | exact mo10 hM_q | exact mo11 hM_q | exact mo12 hM_q | exact mo13 hM_q | exact mo14 hM_q | exact mo15 hM_q | exact mo16 hM_q) (by rfl) ?_
        refine go_iconst (v := 2) (pc := 65) dX8_relay_65 (by decide) ?_
        refine go_iald (j := 2) (pc := 66) dX8_relay_66 (by first | exact mo0 hM_q | exact mo1 hM_q | exact mo6 hM_q | exact mo7 hM_q | exact mo8 hM_q | exact mo2 hM_q | exact mo3 hM_q | exact mo4 hM_q | exact mo5 hM_q | exact mo9 hM_q | exact mo10 hM_q | exact mo11 hM_q | exact mo12 hM_q | exact mo13 hM_q | exact mo14 hM_q | exact mo15 hM_q | exact mo16 hM_q) (by exact ⟨rfl, by decide⟩) ?_
        refine go_iconst (v := 1) (pc := 67) dX8_relay_67 (by decide) ?_
        refine go_isub (pc := 68) dX8_relay_68 ?_
        refine go_icmp_ne (tgt := 78) (pc := 69) dX8_relay_69 (by decide) (fun h_69 => ?_) (fun h_69 => ?_)
        · refine go_iconst (v := 0) (pc := 78) dX8_relay_78 (by decide) ?_
          refine go_ior (pc := 79) dX8_relay_79 ?_
          refine go_istore_n (lw := [_, _, _, _]) (pc := 80) dX8_relay_80 (by decide) rfl ?_
          refine go_iinc (v := 1) (lw := [_, _, _, _]) (pc := 81) dX8_relay_81 rfl (by decide) (by decide) rfl ?_
          refine go_goto (tgt := 43) (pc := 84) dX8_relay_84 (by decide) ?_
          rw [nI_1]
          exact ih_q _ _ _ ⟨_, _, rfl, hM_q, hA_q, hf_q, (by rw [← hR_q, bits_step hi_q]; congr 2; split <;> simp_all), rfl⟩
        · refine go_iconst (v := 1) (pc := 72) dX8_relay_72 (by decide) ?_
          refine go_iload_n (pc := 73) dX8_relay_73 rfl ?_
          refine go_ishl (pc := 74) dX8_relay_74 ?_
          refine go_goto (tgt := 79) (pc := 75) dX8_relay_75 (by decide) ?_
          refine go_ior (pc := 79) dX8_relay_79 ?_
          refine go_istore_n (lw := [_, _, _, _]) (pc := 80) dX8_relay_80 (by decide) rfl ?_
          refine go_iinc (v := 1) (lw := [_, _, _, _]) (pc := 81) dX8_relay_81 rfl (by decide) (by decide) rfl ?_
          refine go_goto (tgt := 43) (pc := 84) dX8_relay_84 (by decide) ?_
          rw [nI_1]
          exact ih_q _ _ _ ⟨_, _, rfl, hM_q, hA_q, hf_q, (by rw [← hR_q, bits_step hi_q]; congr 2; split <;> simp_all), rfl⟩
      · rintro lv9 σ n9 ⟨x2_q, A9_q, rfl, hM_q, hA_q, hf_q, hR_q, rfl⟩
        refine go_iload_n (pc := 43) dX8_relay_43 rfl ?_
        refine go_aload_n (pc := 44) dX8_relay_44 rfl ?_
        refine go_V0P (pc := 45) v_X8_242 rfl rfl (rcv_of (ci := 8) (by first | exact mo0 hM_q | exact mo1 hM_q | exact mo6 hM_q | exact mo7 hM_q | exact mo8 hM_q | exact mo2 hM_q | exact mo3 hM_q | exact mo4 hM_q | exact mo5 hM_q | exact mo9 hM_q | exact mo10 hM_q | exact mo11 hM_q | exact mo12 hM_q | exact mo13 hM_q | exact mo14 hM_q | exact mo15 hM_q | exact mo16 hM_q) rfl) dX8_relay_45 (sp_people (k := k - 1) hM_q) ?_
        rw [hB_q.1.1]
        refine go_icmp_ge (tgt := 87) (pc := 48) dX8_relay_48 (by decide) (fun h_48 => ?_) (fun h_48 => by exfalso; exact h_48 (nI_le (by omega) (by omega)))
        rw [Nat.sub_self] at hR_q
        have hR_q : x2_q = _ := hR_q
        subst hR_q
        refine go_iload_n (pc := 87) dX8_relay_87 rfl ?_
        refine go_iload_n (pc := 88) dX8_relay_88 rfl ?_
        refine go_S2P (pc := 89) s_X8_249 rfl rfl dX8_relay_89 (sp_has (k := k - 1) _ _) ?_
        refine go_if_eq (tgt := 99) (pc := 92) dX8_relay_92 (by decide) (fun h_92 => ?_) (fun h_92 => ?_)
        · refine go_aload_n (pc := 99) dX8_relay_99 rfl ?_
          refine go_iload_n (pc := 100) dX8_relay_100 rfl ?_
          refine go_iload_n (pc := 101) dX8_relay_101 rfl ?_
          refine go_iconst (v := -1) (pc := 102) dX8_relay_102 (by decide) ?_
          refine go_V3P (pc := 103) v_X8_437 rfl rfl (rcv_of (ci := 8) (by first | exact mo0 hM_q | exact mo1 hM_q | exact mo6 hM_q | exact mo7 hM_q | exact mo8 hM_q | exact mo2 hM_q | exact mo3 hM_q | exact mo4 hM_q | exact mo5 hM_q | exact mo9 hM_q | exact mo10 hM_q | exact mo11 hM_q | exact mo12 hM_q | exact mo13 hM_q | exact mo14 hM_q | exact mo15 hM_q | exact mo16 hM_q) rfl) dX8_relay_103 (sp_handsFrom (k := k - 1) hM_q (by omega) hB_q _ _ _) ?_
          exact go_iretI (pc := 106) rfl dX8_relay_106 (Nat.le_of_ble_eq_true rfl) (Nat.le_of_ble_eq_true rfl) ⟨(by simp only [aRelay, hp_q]; rw [if_neg hu]; simp only; first | rw [if_neg (by simpa [hasB] using bI_0.mp h_92)] | rw [if_pos (by simpa [hasB] using Decidable.not_not.mp (fun hc_q => h_92 (bI_0.mpr hc_q)))]), rfl, _, _, hM_q, ⟨(by simp [upd, aRelay, hp_q, hu]), fun j h1_q h2_q h3_q => by simp [upd, h1_q, h2_q, h3_q]⟩, (by repeat (first | assumption | exact eqx.rf | refine eqx.up ?_ (by decide))), hf_q⟩
        · refine go_iconst (v := 0) (pc := 95) dX8_relay_95 (by decide) ?_
          refine go_goto (tgt := 106) (pc := 96) dX8_relay_96 (by decide) ?_
          exact go_iretI (pc := 106) rfl dX8_relay_106 (Nat.le_of_ble_eq_true rfl) (Nat.le_of_ble_eq_true rfl) ⟨(by simp only [aRelay, hp_q]; rw [if_neg hu]; simp only; first | rw [if_neg (by simpa [hasB] using bI_0.mp h_92)] | rw [if_pos (by simpa [hasB] using Decidable.not_not.mp (fun hc_q => h_92 (bI_0.mpr hc_q)))]), rfl, _, _, hM_q, ⟨(by simp [upd, aRelay, hp_q, hu]), fun j h1_q h2_q h3_q => by simp [upd, h1_q, h2_q, h3_q]⟩, (by repeat (first | assumption | exact eqx.rf | refine eqx.up ?_ (by decide))), hf_q⟩
theorem sp_heaps {Γ : gam} {z0 : sto} {n k r : Nat} {F K : row} {A : Nat → row} {Nm : Nat → Int64} (hM_q : MoAt Γ z0 r F K A Nm) (hk : 14 ≤ k) (hB_q : okB K) (hv_q : vS K)  : Sp Γ (rmk k 0 0) uX8_heaps [.ref r] z0 n (qI fun v σ' n' => v = (aHeaps K) ∧ apJ Γ r F K A Nm z0 n 0 σ' n') := by
  have hP8 := hB_q.1.2.1
  have hH5 := hB_q.1.2.2.2.1
  have hW4 := hB_q.1.2.2.2.2.2
  have hA_q : eqx [6, 7, 8, 9, 10, 11, 12, 13] A A := eqx.rf
  have hf_q : fr r (r + 16) z0 z0 := fr.rf
  refine sp_intro [some (.ref r), none, none, none, none] (by decide +kernel) rfl (Nat.le_of_ble_eq_true rfl) rfl ?_
  refine go_aload_n (pc := 0) dX8_heaps_0 rfl ?_
  refine go_iconst (v := 0) (pc := 1) dX8_heaps_1 (by decide) ?_
  refine go_mpf4 (pc := 2) hM_q dX8_heaps_2 (fun σ hM_q hf9 => ?_)
  have hf_q := hf_q.tr hf9
  refine go_iconst (v := 0) (pc := 5) dX8_heaps_5 (by decide) ?_
  refine go_istore_n (lw := [_, _, _, _, _]) (pc := 6) dX8_heaps_6 (by decide) rfl ?_
  refine go_iconst (v := 0) (pc := 7) dX8_heaps_7 (by decide) ?_
  refine go_istore_n (lw := [_, _, _, _, _]) (pc := 8) dX8_heaps_8 (by decide) rfl ?_
  refine go_iconst (v := 0) (pc := 9) dX8_heaps_9 (by decide) ?_
  refine go_istore_n (lw := [_, _, _, _, _]) (pc := 10) dX8_heaps_10 (by decide) rfl ?_
  refine go_iter (kP K) (fun i_q lv9 s9 n9 => ∃ (x1_q : Int32), ∃ (x2_q : Int32), ∃ x4_q, ∃ A9_q, lv9 = [some (.ref r), some (.int x1_q), some (.int x2_q), some (.int (nI i_q)), x4_q] ∧ (MoAt Γ s9 r (upd F 4 0) K A9_q Nm) ∧ (eqx [6, 7, 8, 9, 10, 11, 12, 13] A A9_q) ∧ (fr r (r + 16) z0 s9) ∧ (hpF K (kP K - i_q) i_q x1_q x2_q = aHeaps K) ∧ n = n9) ⟨0, 0, none, _, rfl, hM_q, hA_q, hf_q, rfl, rfl⟩ ?_ ?_
  · rintro i_q lv9 σ n9 hi_q ⟨x1_q, x2_q, x4_q, A9_q, rfl, hM_q, hA_q, hf_q, hR_q, rfl⟩ ih_q
    refine go_iload_n (pc := 11) dX8_heaps_11 rfl ?_
    refine go_aload_n (pc := 12) dX8_heaps_12 rfl ?_
    refine go_V0P (pc := 13) v_X8_242 rfl rfl (rcv_of (ci := 8) (by first | exact mo0 hM_q | exact mo1 hM_q | exact mo6 hM_q | exact mo7 hM_q | exact mo8 hM_q | exact mo2 hM_q | exact mo3 hM_q | exact mo4 hM_q | exact mo5 hM_q | exact mo9 hM_q | exact mo10 hM_q | exact mo11 hM_q | exact mo12 hM_q | exact mo13 hM_q | exact mo14 hM_q | exact mo15 hM_q | exact mo16 hM_q) rfl) dX8_heaps_13 (sp_people (k := k - 1) hM_q) ?_
    rw [hB_q.1.1]
    refine go_icmp_ge (tgt := 79) (pc := 16) dX8_heaps_16 (by decide) (fun h_16 => by exfalso; exact absurd h_16 (nI_ge (by omega) (by omega))) (fun h_16 => ?_)
    refine go_iload_n (pc := 19) dX8_heaps_19 rfl ?_
    refine go_iload_n (pc := 20) dX8_heaps_20 rfl ?_
    refine go_S2P (pc := 21) s_X8_249 rfl rfl dX8_heaps_21 (sp_has (k := k - 1) _ _) ?_
    refine go_if_ne (tgt := 73) (pc := 24) dX8_heaps_24 (by decide) (fun h_24 => ?_) (fun h_24 => ?_)
    · refine go_iinc (v := 1) (lw := [_, _, _, _, _]) (pc := 73) dX8_heaps_73 rfl (by decide) (by decide) rfl ?_
      refine go_goto (tgt := 11) (pc := 76) dX8_heaps_76 (by decide) ?_
      rw [nI_1]
      first
        | exact ih_q _ _ _ ⟨_, _, _, _, rfl, hM_q, hA_q, hf_q, (by rw [← hR_q, hpF_step hi_q, if_pos (Or.inl (by simpa [hasB] using Decidable.not_not.mp (fun hc_q => h_24 (bI_0.mpr hc_q))))]), rfl⟩
        | exact ih_q _ _ _ ⟨_, _, _, _, rfl, hM_q, hA_q, hf_q, (by rw [← hR_q, hpF_step hi_q, if_pos (Or.inr (upK_iff.mpr (Decidable.not_not.mp (fun hc_q => h_32 (bI_0.mpr hc_q)))))]), rfl⟩
        | exact ih_q _ _ _ ⟨_, _, _, _, rfl, hM_q, hA_q, hf_q, (by rw [← hR_q, hpF_step hi_q, if_neg (fun hc_q => hc_q.elim (fun hd_q => bI_0.mp h_24 (by simpa [hasB] using hd_q)) (fun hd_q => bI_0.mp h_32 (upK_iff.mp hd_q))), hcl]), rfl⟩
    · refine go_aload_n (pc := 27) dX8_heaps_27 rfl ?_
      refine go_iload_n (pc := 28) dX8_heaps_28 rfl ?_
      refine go_V1P (pc := 29) v_X8_296 rfl rfl (rcv_of (ci := 8) (by first | exact mo0 hM_q | exact mo1 hM_q | exact mo6 hM_q | exact mo7 hM_q | exact mo8 hM_q | exact mo2 hM_q | exact mo3 hM_q | exact mo4 hM_q | exact mo5 hM_q | exact mo9 hM_q | exact mo10 hM_q | exact mo11 hM_q | exact mo12 hM_q | exact mo13 hM_q | exact mo14 hM_q | exact mo15 hM_q | exact mo16 hM_q) rfl) dX8_heaps_29 (sp_isUp (k := k - 1) hM_q (by omega)) ?_
      refine go_if_eq (tgt := 38) (pc := 32) dX8_heaps_32 (by decide) (fun h_32 => ?_) (fun h_32 => ?_)
      · refine go_iconst (v := 1) (pc := 38) dX8_heaps_38 (by decide) ?_
        refine go_iload_n (pc := 39) dX8_heaps_39 rfl ?_
        refine go_ishl (pc := 40) dX8_heaps_40 ?_
        refine go_istore (lw := [_, _, _, _, _]) (pc := 41) dX8_heaps_41 (by decide) rfl ?_
        refine go_iter (8) (fun i2_q lv9 s9 n9 => ∃ A9_q, lv9 = [some (.ref r), some (.int x1_q), some (.int x2_q), some (.int (nI i_q)), some (.int (besI K i2_q (bit1 i_q)))] ∧ (MoAt Γ s9 r (upd F 4 0) K A9_q Nm) ∧ (eqx [6, 7, 8, 9, 10, 11, 12, 13] A A9_q) ∧ (fr r (r + 16) z0 s9) ∧ (∀ q, q < i2_q → besI K (q + 1) (bit1 i_q) ≠ besI K q (bit1 i_q)) ∧ n = n9) ⟨_, rfl, hM_q, hA_q, hf_q, (fun q hq_q => absurd hq_q (by omega)), rfl⟩ ?_ ?_
        · rintro i2_q lv9 σ n9 hi2_q ⟨A9_q, rfl, hM_q, hA_q, hf_q, hN_q, rfl⟩ ih2_q
          refine go_aload_n (pc := 43) dX8_heaps_43 rfl ?_
          refine go_iload (pc := 44) dX8_heaps_44 rfl ?_
          refine go_V1P (pc := 46) v_X8_431 rfl rfl (rcv_of (ci := 8) (by first | exact mo0 hM_q | exact mo1 hM_q | exact mo6 hM_q | exact mo7 hM_q | exact mo8 hM_q | exact mo2 hM_q | exact mo3 hM_q | exact mo4 hM_q | exact mo5 hM_q | exact mo9 hM_q | exact mo10 hM_q | exact mo11 hM_q | exact mo12 hM_q | exact mo13 hM_q | exact mo14 hM_q | exact mo15 hM_q | exact mo16 hM_q) rfl) dX8_heaps_46 (sp_besides (k := k - 1) hM_q (by omega) hB_q _) ?_
          refine go_iload (pc := 49) dX8_heaps_49 rfl ?_
          refine go_icmp_eq (tgt := 65) (pc := 51) dX8_heaps_51 (by decide) (fun h_51 => ?_) (fun h_51 => ?_)
          · have hcl : besI K 8 (bit1 i_q) = besI K i2_q (bit1 i_q) := bes_stay h_51 8 (by omega)
            refine go_iload_n (pc := 65) dX8_heaps_65 rfl ?_
            refine go_iload (pc := 66) dX8_heaps_66 rfl ?_
            refine go_ior (pc := 68) dX8_heaps_68 ?_
            refine go_istore_n (lw := [_, _, _, _, _]) (pc := 69) dX8_heaps_69 (by decide) rfl ?_
            refine go_iinc (v := 1) (lw := [_, _, _, _, _]) (pc := 70) dX8_heaps_70 rfl (by decide) (by decide) rfl ?_
            refine go_iinc (v := 1) (lw := [_, _, _, _, _]) (pc := 73) dX8_heaps_73 rfl (by decide) (by decide) rfl ?_
            refine go_goto (tgt := 11) (pc := 76) dX8_heaps_76 (by decide) ?_
            rw [nI_1]
            first
              | exact ih_q _ _ _ ⟨_, _, _, _, rfl, hM_q, hA_q, hf_q, (by rw [← hR_q, hpF_step hi_q, if_pos (Or.inl (by simpa [hasB] using Decidable.not_not.mp (fun hc_q => h_24 (bI_0.mpr hc_q))))]), rfl⟩
              | exact ih_q _ _ _ ⟨_, _, _, _, rfl, hM_q, hA_q, hf_q, (by rw [← hR_q, hpF_step hi_q, if_pos (Or.inr (upK_iff.mpr (Decidable.not_not.mp (fun hc_q => h_32 (bI_0.mpr hc_q)))))]), rfl⟩
              | exact ih_q _ _ _ ⟨_, _, _, _, rfl, hM_q, hA_q, hf_q, (by rw [← hR_q, hpF_step hi_q, if_neg (fun hc_q => hc_q.elim (fun hd_q => bI_0.mp h_24 (by simpa [hasB] using hd_q)) (fun hd_q => bI_0.mp h_32 (upK_iff.mp hd_q))), hcl]), rfl⟩
          · refine go_aload_n (pc := 54) dX8_heaps_54 rfl ?_
            refine go_iload (pc := 55) dX8_heaps_55 rfl ?_
            refine go_V1P (pc := 57) v_X8_431 rfl rfl (rcv_of (ci := 8) (by first | exact mo0 hM_q | exact mo1 hM_q | exact mo6 hM_q | exact mo7 hM_q | exact mo8 hM_q | exact mo2 hM_q | exact mo3 hM_q | exact mo4 hM_q | exact mo5 hM_q | exact mo9 hM_q | exact mo10 hM_q | exact mo11 hM_q | exact mo12 hM_q | exact mo13 hM_q | exact mo14 hM_q | exact mo15 hM_q | exact mo16 hM_q) rfl) dX8_heaps_57 (sp_besides (k := k - 1) hM_q (by omega) hB_q _) ?_
            refine go_istore (lw := [_, _, _, _, _]) (pc := 60) dX8_heaps_60 (by decide) rfl ?_
            refine go_goto (tgt := 43) (pc := 62) dX8_heaps_62 (by decide) ?_
            exact ih2_q _ _ _ ⟨_, rfl, hM_q, hA_q, hf_q, (fun q hq_q => (Nat.lt_or_ge q i2_q).elim (hN_q q) (fun hq2 => by obtain rfl : i2_q = q := (by omega); exact h_51)), rfl⟩
        · rintro lv9 σ n9 ⟨A9_q, rfl, hM_q, hA_q, hf_q, hN_q, rfl⟩
          refine go_aload_n (pc := 43) dX8_heaps_43 rfl ?_
          refine go_iload (pc := 44) dX8_heaps_44 rfl ?_
          refine go_V1P (pc := 46) v_X8_431 rfl rfl (rcv_of (ci := 8) (by first | exact mo0 hM_q | exact mo1 hM_q | exact mo6 hM_q | exact mo7 hM_q | exact mo8 hM_q | exact mo2 hM_q | exact mo3 hM_q | exact mo4 hM_q | exact mo5 hM_q | exact mo9 hM_q | exact mo10 hM_q | exact mo11 hM_q | exact mo12 hM_q | exact mo13 hM_q | exact mo14 hM_q | exact mo15 hM_q | exact mo16 hM_q) rfl) dX8_heaps_46 (sp_besides (k := k - 1) hM_q (by omega) hB_q _) ?_
          refine go_iload (pc := 49) dX8_heaps_49 rfl ?_
          exact absurd (bes_fix (K := K) (p := i_q) hP8 (by omega)) (fun ⟨q9_q, hq9, e9_q⟩ => hN_q q9_q hq9 e9_q)
      · refine go_goto (tgt := 73) (pc := 35) dX8_heaps_35 (by decide) ?_
        refine go_iinc (v := 1) (lw := [_, _, _, _, _]) (pc := 73) dX8_heaps_73 rfl (by decide) (by decide) rfl ?_
        refine go_goto (tgt := 11) (pc := 76) dX8_heaps_76 (by decide) ?_
        rw [nI_1]
        first
          | exact ih_q _ _ _ ⟨_, _, _, _, rfl, hM_q, hA_q, hf_q, (by rw [← hR_q, hpF_step hi_q, if_pos (Or.inl (by simpa [hasB] using Decidable.not_not.mp (fun hc_q => h_24 (bI_0.mpr hc_q))))]), rfl⟩
          | exact ih_q _ _ _ ⟨_, _, _, _, rfl, hM_q, hA_q, hf_q, (by rw [← hR_q, hpF_step hi_q, if_pos (Or.inr (upK_iff.mpr (Decidable.not_not.mp (fun hc_q => h_32 (bI_0.mpr hc_q)))))]), rfl⟩
          | exact ih_q _ _ _ ⟨_, _, _, _, rfl, hM_q, hA_q, hf_q, (by rw [← hR_q, hpF_step hi_q, if_neg (fun hc_q => hc_q.elim (fun hd_q => bI_0.mp h_24 (by simpa [hasB] using hd_q)) (fun hd_q => bI_0.mp h_32 (upK_iff.mp hd_q))), hcl]), rfl⟩
  · rintro lv9 σ n9 ⟨x1_q, x2_q, x4_q, A9_q, rfl, hM_q, hA_q, hf_q, hR_q, rfl⟩
    refine go_iload_n (pc := 11) dX8_heaps_11 rfl ?_
    refine go_aload_n (pc := 12) dX8_heaps_12 rfl ?_
    refine go_V0P (pc := 13) v_X8_242 rfl rfl (rcv_of (ci := 8) (by first | exact mo0 hM_q | exact mo1 hM_q | exact mo6 hM_q | exact mo7 hM_q | exact mo8 hM_q | exact mo2 hM_q | exact mo3 hM_q | exact mo4 hM_q | exact mo5 hM_q | exact mo9 hM_q | exact mo10 hM_q | exact mo11 hM_q | exact mo12 hM_q | exact mo13 hM_q | exact mo14 hM_q | exact mo15 hM_q | exact mo16 hM_q) rfl) dX8_heaps_13 (sp_people (k := k - 1) hM_q) ?_
    rw [hB_q.1.1]
    refine go_icmp_ge (tgt := 79) (pc := 16) dX8_heaps_16 (by decide) (fun h_16 => ?_) (fun h_16 => by exfalso; exact h_16 (nI_le (by omega) (by omega)))
    refine go_iload_n (pc := 79) dX8_heaps_79 rfl ?_
    exact go_iretI (pc := 80) rfl dX8_heaps_80 (Nat.le_of_ble_eq_true rfl) (Nat.le_of_ble_eq_true rfl) ⟨(by rw [← hR_q, Nat.sub_self]; rfl), rfl, _, _, hM_q, ⟨rfl, fun j h1_q h2_q h3_q => by simp [upd, h1_q, h2_q, h3_q]⟩, (by repeat (first | assumption | exact eqx.rf | refine eqx.up ?_ (by decide))), hf_q⟩
