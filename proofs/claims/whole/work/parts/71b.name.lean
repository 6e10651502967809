/-! ===== the reference: names in a law ===== -/
theorem sp_lawWord {Γ : gam} {z0 : sto} {n k r_q N w : Nat} {F K : row} {A : Nat → row} {Nm : Nat → Int64} {s : ps} (hM_q : MoAt Γ z0 r_q F K A Nm) (hS_q : rfR (A 5) N F s) (e17 : F 17 = nI w) (hw_q : 4 ≤ w ∧ w ≤ 6) (hN_q : N ≤ 900) (hb_q : s.bad = 0) (hk : 7 ≤ k) : Sp Γ (rmk k 0 0) uX8_lawWord [.ref r_q] z0 n (qI fun v_q σ' n' => n' = n ∧ ∃ F' : row, MoAt Γ σ' r_q F' K A Nm ∧ ((∃ c_q, nmP w (kd s.l) = some c_q ∧ v_q = c_q ∧ rfR (A 5) N F' (nextP s)) ∨ (nmP w (kd s.l) = none ∧ v_q = -1 ∧ rfR (A 5) N F' s)) ∧ (∀ j, (j < 8 ∨ 13 < j) → F' j = F j) ∧ fr r_q (r_q + 16) z0 σ') := by
  have hG_q : ∀ j, (j < 8 ∨ 13 < j) → F j = F j := fun _ _ => rfl
  have hf_q : fr r_q (r_q + 16) z0 z0 := fr.rf
  refine sp_intro [some (.ref r_q)] (by decide +kernel) rfl (Nat.le_of_ble_eq_true rfl) rfl ?_
  refine go_aload_n (pc := 0) dX8_lawWord_0 rfl ?_
  refine go_ldcS (si := 39) (pc := 1) rfl dX8_lawWord_1 ?_
  refine go_V1I (pc := 3) v_X8_129 rfl rfl (rcv_of (ci := 8) (by first | exact mo0 hM_q | exact mo2 hM_q) rfl) dX8_lawWord_3 (sp_took (k := k - 1) hM_q hS_q (si := 39) (q := ("FrontChairsModel", 177, "minute")) (cw := 10) rfl (by decide) wk_10 (by decide) (by decide) hN_q (by omega)) (fun v_3 σ n h_q => ?_)
  obtain ⟨rfl, rfl, F3, hM_q, hS_q, hF3, hf3⟩ := h_q
  have hG_q : ∀ j, (j < 8 ∨ 13 < j) → F3 j = F j := fun j hj_q => (hF3 j hj_q).trans (hG_q j hj_q)
  have hf_q : fr r_q (r_q + 16) z0 σ := hf_q.tr hf3
  refine go_if_eq (tgt := 11) (pc := 6) dX8_lawWord_6 (by decide) (fun h_6 => ?_) (fun h_6 => ?_)
  · have n10 : ¬ kd s.l = 10 := fun e_q => bI_0.mp h_6 ⟨hb_q, e_q⟩
    rw [if_neg (bI_0.mp h_6)] at hS_q
    refine go_aload_n (pc := 11) dX8_lawWord_11 rfl ?_
    refine go_getf (pc := 12) f_X8_135 dX8_lawWord_12 (by first | exact mo0 hM_q | exact mo2 hM_q) (by rfl) ?_
    refine go_iconst (v := 5) (pc := 15) dX8_lawWord_15 (by decide) ?_
    rw [hG_q 17 (by omega), e17]
    refine go_icmp_ne (tgt := 21) (pc := 16) dX8_lawWord_16 (by decide) (fun h_16 => ?_) (fun h_16 => ?_)
    · have w5 : ¬ w = 5 := fun e_q => h_16 (by rw [e_q]; rfl)
      refine go_aload_n (pc := 21) dX8_lawWord_21 rfl ?_
      refine go_ldcS (si := 42) (pc := 22) rfl dX8_lawWord_22 ?_
      refine go_V1I (pc := 24) v_X8_129 rfl rfl (rcv_of (ci := 8) (by first | exact mo0 hM_q | exact mo2 hM_q) rfl) dX8_lawWord_24 (sp_took (k := k - 1) hM_q hS_q (si := 42) (q := ("FrontChairsModel", 179, "column")) (cw := 19) rfl (by decide) wk_19 (by decide) (by decide) hN_q (by omega)) (fun v_24 σ n h_q => ?_)
      obtain ⟨rfl, rfl, F24, hM_q, hS_q, hF24, hf24⟩ := h_q
      have hG_q : ∀ j, (j < 8 ∨ 13 < j) → F24 j = F j := fun j hj_q => (hF24 j hj_q).trans (hG_q j hj_q)
      have hf_q : fr r_q (r_q + 16) z0 σ := hf_q.tr hf24
      refine go_if_eq (tgt := 32) (pc := 27) dX8_lawWord_27 (by decide) (fun h_27 => ?_) (fun h_27 => ?_)
      · have n19 : ¬ kd s.l = 19 := fun e_q => bI_0.mp h_27 ⟨hb_q, e_q⟩
        rw [if_neg (bI_0.mp h_27)] at hS_q
        refine go_aload_n (pc := 32) dX8_lawWord_32 rfl ?_
        refine go_ldcS (si := 43) (pc := 33) rfl dX8_lawWord_33 ?_
        refine go_V1I (pc := 35) v_X8_129 rfl rfl (rcv_of (ci := 8) (by first | exact mo0 hM_q | exact mo2 hM_q) rfl) dX8_lawWord_35 (sp_took (k := k - 1) hM_q hS_q (si := 43) (q := ("FrontChairsModel", 181, "row")) (cw := 20) rfl (by decide) wk_20 (by decide) (by decide) hN_q (by omega)) (fun v_35 σ n h_q => ?_)
        obtain ⟨rfl, rfl, F35, hM_q, hS_q, hF35, hf35⟩ := h_q
        have hG_q : ∀ j, (j < 8 ∨ 13 < j) → F35 j = F j := fun j hj_q => (hF35 j hj_q).trans (hG_q j hj_q)
        have hf_q : fr r_q (r_q + 16) z0 σ := hf_q.tr hf35
        refine go_if_eq (tgt := 43) (pc := 38) dX8_lawWord_38 (by decide) (fun h_38 => ?_) (fun h_38 => ?_)
        · have n20 : ¬ kd s.l = 20 := fun e_q => bI_0.mp h_38 ⟨hb_q, e_q⟩
          rw [if_neg (bI_0.mp h_38)] at hS_q
          refine go_aload_n (pc := 43) dX8_lawWord_43 rfl ?_
          refine go_getf (pc := 44) f_X8_135 dX8_lawWord_44 (by first | exact mo0 hM_q | exact mo2 hM_q) (by rfl) ?_
          refine go_bipush (v := 6) (pc := 47) dX8_lawWord_47 (by decide) ?_
          rw [hG_q 17 (by omega), e17]
          refine go_icmp_ne (tgt := 54) (pc := 49) dX8_lawWord_49 (by decide) (fun h_49 => ?_) (fun h_49 => ?_)
          · have w6 : ¬ w = 6 := fun e_q => h_49 (by rw [e_q]; rfl)
            refine go_aload_n (pc := 54) dX8_lawWord_54 rfl ?_
            refine go_ldcS (si := 44) (pc := 55) rfl dX8_lawWord_55 ?_
            refine go_V1I (pc := 57) v_X8_129 rfl rfl (rcv_of (ci := 8) (by first | exact mo0 hM_q | exact mo2 hM_q) rfl) dX8_lawWord_57 (sp_took (k := k - 1) hM_q hS_q (si := 44) (q := ("FrontChairsModel", 183, "who")) (cw := 18) rfl (by decide) wk_18 (by decide) (by decide) hN_q (by omega)) (fun v_57 σ n h_q => ?_)
            obtain ⟨rfl, rfl, F57, hM_q, hS_q, hF57, hf57⟩ := h_q
            have hG_q : ∀ j, (j < 8 ∨ 13 < j) → F57 j = F j := fun j hj_q => (hF57 j hj_q).trans (hG_q j hj_q)
            have hf_q : fr r_q (r_q + 16) z0 σ := hf_q.tr hf57
            refine go_if_eq (tgt := 65) (pc := 60) dX8_lawWord_60 (by decide) (fun h_60 => ?_) (fun h_60 => ?_)
            · have n18 : ¬ kd s.l = 18 := fun e_q => bI_0.mp h_60 ⟨hb_q, e_q⟩
              rw [if_neg (bI_0.mp h_60)] at hS_q
              refine go_aload_n (pc := 65) dX8_lawWord_65 rfl ?_
              refine go_ldcS (si := 35) (pc := 66) rfl dX8_lawWord_66 ?_
              refine go_V1I (pc := 68) v_X8_129 rfl rfl (rcv_of (ci := 8) (by first | exact mo0 hM_q | exact mo2 hM_q) rfl) dX8_lawWord_68 (sp_took (k := k - 1) hM_q hS_q (si := 35) (q := ("FrontChairsModel", 185, "age")) (cw := 11) rfl (by decide) wk_11 (by decide) (by decide) hN_q (by omega)) (fun v_68 σ n h_q => ?_)
              obtain ⟨rfl, rfl, F68, hM_q, hS_q, hF68, hf68⟩ := h_q
              have hG_q : ∀ j, (j < 8 ∨ 13 < j) → F68 j = F j := fun j hj_q => (hF68 j hj_q).trans (hG_q j hj_q)
              have hf_q : fr r_q (r_q + 16) z0 σ := hf_q.tr hf68
              refine go_if_eq (tgt := 78) (pc := 71) dX8_lawWord_71 (by decide) (fun h_71 => ?_) (fun h_71 => ?_)
              · have n11 : ¬ kd s.l = 11 := fun e_q => bI_0.mp h_71 ⟨hb_q, e_q⟩
                rw [if_neg (bI_0.mp h_71)] at hS_q
                refine go_iconst (v := -1) (pc := 78) dX8_lawWord_78 (by decide) ?_
                exact go_iretI (pc := 79) rfl dX8_lawWord_79 (Nat.le_of_ble_eq_true rfl) (Nat.le_of_ble_eq_true rfl) (by first | (have g_q : s.bad = 0 ∧ kd s.l = 11 := g71; rw [if_pos g_q] at hS_q; exact ⟨rfl, _, hM_q, Or.inl ⟨4, (by rw [nmP, if_neg n10, if_neg w5, if_neg n19, if_neg n20, if_neg w6, if_neg n18, if_pos g_q.2]), rfl, hS_q⟩, hG_q, hf_q⟩) | exact ⟨rfl, _, hM_q, Or.inr ⟨(by rw [nmP, if_neg n10, if_neg w5, if_neg n19, if_neg n20, if_neg w6, if_neg n18, if_neg n11]), rfl, hS_q⟩, hG_q, hf_q⟩)
              · have g71 : s.bad = 0 ∧ kd s.l = 11 := Decidable.not_not.mp (fun hc_q => h_71 (bI_0.mpr hc_q))
                refine go_iconst (v := 4) (pc := 74) dX8_lawWord_74 (by decide) ?_
                refine go_goto (tgt := 79) (pc := 75) dX8_lawWord_75 (by decide) ?_
                exact go_iretI (pc := 79) rfl dX8_lawWord_79 (Nat.le_of_ble_eq_true rfl) (Nat.le_of_ble_eq_true rfl) (by first | (have g_q : s.bad = 0 ∧ kd s.l = 11 := g71; rw [if_pos g_q] at hS_q; exact ⟨rfl, _, hM_q, Or.inl ⟨4, (by rw [nmP, if_neg n10, if_neg w5, if_neg n19, if_neg n20, if_neg w6, if_neg n18, if_pos g_q.2]), rfl, hS_q⟩, hG_q, hf_q⟩) | exact ⟨rfl, _, hM_q, Or.inr ⟨(by rw [nmP, if_neg n10, if_neg w5, if_neg n19, if_neg n20, if_neg w6, if_neg n18, if_neg n11]), rfl, hS_q⟩, hG_q, hf_q⟩)
            · refine go_iconst (v := 3) (pc := 63) dX8_lawWord_63 (by decide) ?_
              exact go_iretI (pc := 64) rfl dX8_lawWord_64 (Nat.le_of_ble_eq_true rfl) (Nat.le_of_ble_eq_true rfl) (by
  have g_q : s.bad = 0 ∧ _ := Decidable.not_not.mp (fun hc_q => h_60 (bI_0.mpr hc_q))
  rw [if_pos g_q] at hS_q
  exact ⟨rfl, _, hM_q, Or.inl ⟨3, (by rw [nmP, if_neg n10, if_neg w5, if_neg n19, if_neg n20, if_neg w6, if_pos g_q.2]), rfl, hS_q⟩, hG_q, hf_q⟩)
          · have w6 : w = 6 := (nI_eq (b := 6) (by omega) (by decide)).mp h_49
            refine go_iconst (v := -1) (pc := 52) dX8_lawWord_52 (by decide) ?_
            exact go_iretI (pc := 53) rfl dX8_lawWord_53 (Nat.le_of_ble_eq_true rfl) (Nat.le_of_ble_eq_true rfl) ⟨rfl, _, hM_q, Or.inr ⟨(by rw [nmP, if_neg n10, if_neg w5, if_neg n19, if_neg n20, if_pos w6]), rfl, hS_q⟩, hG_q, hf_q⟩
        · refine go_iconst (v := 2) (pc := 41) dX8_lawWord_41 (by decide) ?_
          exact go_iretI (pc := 42) rfl dX8_lawWord_42 (Nat.le_of_ble_eq_true rfl) (Nat.le_of_ble_eq_true rfl) (by
  have g_q : s.bad = 0 ∧ _ := Decidable.not_not.mp (fun hc_q => h_38 (bI_0.mpr hc_q))
  rw [if_pos g_q] at hS_q
  exact ⟨rfl, _, hM_q, Or.inl ⟨2, (by rw [nmP, if_neg n10, if_neg w5, if_neg n19, if_pos g_q.2]), rfl, hS_q⟩, hG_q, hf_q⟩)
      · refine go_iconst (v := 1) (pc := 30) dX8_lawWord_30 (by decide) ?_
        exact go_iretI (pc := 31) rfl dX8_lawWord_31 (Nat.le_of_ble_eq_true rfl) (Nat.le_of_ble_eq_true rfl) (by
  have g_q : s.bad = 0 ∧ _ := Decidable.not_not.mp (fun hc_q => h_27 (bI_0.mpr hc_q))
  rw [if_pos g_q] at hS_q
  exact ⟨rfl, _, hM_q, Or.inl ⟨1, (by rw [nmP, if_neg n10, if_neg w5, if_pos g_q.2]), rfl, hS_q⟩, hG_q, hf_q⟩)
    · have w5 : w = 5 := (nI_eq (b := 5) (by omega) (by decide)).mp h_16
      refine go_iconst (v := -1) (pc := 19) dX8_lawWord_19 (by decide) ?_
      exact go_iretI (pc := 20) rfl dX8_lawWord_20 (Nat.le_of_ble_eq_true rfl) (Nat.le_of_ble_eq_true rfl) ⟨rfl, _, hM_q, Or.inr ⟨(by rw [nmP, if_neg n10, if_pos w5]), rfl, hS_q⟩, hG_q, hf_q⟩
  · refine go_iconst (v := 0) (pc := 9) dX8_lawWord_9 (by decide) ?_
    exact go_iretI (pc := 10) rfl dX8_lawWord_10 (Nat.le_of_ble_eq_true rfl) (Nat.le_of_ble_eq_true rfl) (by
  have g_q : s.bad = 0 ∧ _ := Decidable.not_not.mp (fun hc_q => h_6 (bI_0.mpr hc_q))
  rw [if_pos g_q] at hS_q
  exact ⟨rfl, _, hM_q, Or.inl ⟨0, (by rw [nmP, if_pos g_q.2]), rfl, hS_q⟩, hG_q, hf_q⟩)
