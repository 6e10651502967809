/-! ===== the reference: steps along the tokens ===== -/
theorem sp_blames {Γ : gam} {z0 : sto} {n k r_q N : Nat} {F K : row} {A : Nat → row} {Nm : Nat → Int64} {s : ps} (hM_q : MoAt Γ z0 r_q F K A Nm) (hS_q : rfR (A 5) N F s) {c_q : Int32} (hc_q : c_q ≠ 0) : Sp Γ (rmk k 0 0) uX8_blames [.ref r_q, .int c_q] z0 n (qV fun σ' n' => n' = n ∧ ∃ F' : row, MoAt Γ σ' r_q F' K A Nm ∧ rfR (A 5) N F' (failP N c_q s) ∧ (∀ j, (j < 8 ∨ 13 < j) → F' j = F j) ∧ fr r_q (r_q + 16) z0 σ') := by
  refine sp_intro [some (.ref r_q), some (.int c_q)] (by decide +kernel) rfl (Nat.le_of_ble_eq_true rfl) rfl ?_
  refine go_aload_n (pc := 0) dX8_blames_0 rfl ?_
  refine go_getf (pc := 1) f_X8_99 dX8_blames_1 (by first | exact mo0 hM_q | exact mo5 hM_q) (by rfl) ?_
  rw [hS_q.2.1]
  refine go_if_eq (tgt := 8) (pc := 4) dX8_blames_4 (by decide) (fun h_4 => ?_) (fun h_4 => ?_)
  · have hT_q := hS_q.2.2.1 h_4
    have hf_q : fr r_q (r_q + 16) z0 z0 := fr.rf
    refine go_aload_n (pc := 8) dX8_blames_8 rfl ?_
    refine go_aload_n (pc := 9) dX8_blames_9 rfl ?_
    refine go_getf (pc := 10) f_X8_79 dX8_blames_10 (by first | exact mo0 hM_q | exact mo5 hM_q) (by rfl) ?_
    refine go_iconst (v := 3) (pc := 13) dX8_blames_13 (by decide) ?_
    refine go_icmp_ne (tgt := 21) (pc := 14) dX8_blames_14 (by decide) (fun h_14 => ?_) (fun h_14 => ?_)
    · refine go_iload_n (pc := 21) dX8_blames_21 rfl ?_
      refine go_mpf12 (pc := 22) hM_q dX8_blames_22 (fun σ hM_q hf9 => ?_)
      have hf_q := hf_q.tr hf9
      obtain ⟨F1, hM_q, t12, tF⟩ : ∃ F1 : row, MoAt Γ σ r_q F1 K A Nm ∧ F1 12 = (if kd s.l = 1 then 1 else c_q) ∧ ∀ j, j ≠ 12 → F1 j = F j := by
        first
          | (have g14 : ¬ F 10 = 3 := h_14
             exact ⟨_, hM_q, (by rw [pk_us, if_neg (fun e_q => g14 ((tok_bad hT_q).mpr e_q))]), fun j hj_q => pk_un hj_q⟩)
          | (have g14 : F 10 = 3 := h_14
             exact ⟨_, hM_q, (by rw [pk_us, if_pos ((tok_bad hT_q).mp g14)]), fun j hj_q => pk_un hj_q⟩)
      refine go_aload_n (pc := 25) dX8_blames_25 rfl ?_
      refine go_aload_n (pc := 26) dX8_blames_26 rfl ?_
      refine go_getf (pc := 27) f_X8_76 dX8_blames_27 (by first | exact mo0 hM_q | exact mo5 hM_q) (by rfl) ?_
      refine go_mpf13 (pc := 30) hM_q dX8_blames_30 (fun σ hM_q hf9 => ?_)
      have hf_q := hf_q.tr hf9
      exact go_vretV (pc := 33) rfl dX8_blames_33 (Nat.le_of_ble_eq_true rfl) (Nat.le_of_ble_eq_true rfl) (by
  have e9_q : failP N c_q s = psm s.l (if kd s.l = 1 then 1 else c_q) (tpl N s.l) s.st := if_pos h_4
  have nz : (if kd s.l = 1 then 1 else c_q) ≠ 0 := by split; decide; exact hc_q
  refine ⟨rfl, _, hM_q, ?_, fun j hj_q => by rw [pk_un (by omega), tF j (by omega)], hf_q⟩
  rw [e9_q]
  exact ⟨by rw [pk_un (by decide), tF 7 (by decide)]; exact hS_q.1, by rw [pk_un (by decide)]; exact t12, fun e_q => absurd e_q nz, fun _ => by rw [pk_us, tF 9 (by decide)]; exact tok_pl hT_q⟩)
    · refine go_iconst (v := 1) (pc := 17) dX8_blames_17 (by decide) ?_
      refine go_goto (tgt := 22) (pc := 18) dX8_blames_18 (by decide) ?_
      refine go_mpf12 (pc := 22) hM_q dX8_blames_22 (fun σ hM_q hf9 => ?_)
      have hf_q := hf_q.tr hf9
      obtain ⟨F1, hM_q, t12, tF⟩ : ∃ F1 : row, MoAt Γ σ r_q F1 K A Nm ∧ F1 12 = (if kd s.l = 1 then 1 else c_q) ∧ ∀ j, j ≠ 12 → F1 j = F j := by
        first
          | (have g14 : ¬ F 10 = 3 := h_14
             exact ⟨_, hM_q, (by rw [pk_us, if_neg (fun e_q => g14 ((tok_bad hT_q).mpr e_q))]), fun j hj_q => pk_un hj_q⟩)
          | (have g14 : F 10 = 3 := h_14
             exact ⟨_, hM_q, (by rw [pk_us, if_pos ((tok_bad hT_q).mp g14)]), fun j hj_q => pk_un hj_q⟩)
      refine go_aload_n (pc := 25) dX8_blames_25 rfl ?_
      refine go_aload_n (pc := 26) dX8_blames_26 rfl ?_
      refine go_getf (pc := 27) f_X8_76 dX8_blames_27 (by first | exact mo0 hM_q | exact mo5 hM_q) (by rfl) ?_
      refine go_mpf13 (pc := 30) hM_q dX8_blames_30 (fun σ hM_q hf9 => ?_)
      have hf_q := hf_q.tr hf9
      exact go_vretV (pc := 33) rfl dX8_blames_33 (Nat.le_of_ble_eq_true rfl) (Nat.le_of_ble_eq_true rfl) (by
  have e9_q : failP N c_q s = psm s.l (if kd s.l = 1 then 1 else c_q) (tpl N s.l) s.st := if_pos h_4
  have nz : (if kd s.l = 1 then 1 else c_q) ≠ 0 := by split; decide; exact hc_q
  refine ⟨rfl, _, hM_q, ?_, fun j hj_q => by rw [pk_un (by omega), tF j (by omega)], hf_q⟩
  rw [e9_q]
  exact ⟨by rw [pk_un (by decide), tF 7 (by decide)]; exact hS_q.1, by rw [pk_un (by decide)]; exact t12, fun e_q => absurd e_q nz, fun _ => by rw [pk_us, tF 9 (by decide)]; exact tok_pl hT_q⟩)
  · exact go_vretV (pc := 7) rfl dX8_blames_7 (Nat.le_of_ble_eq_true rfl) (Nat.le_of_ble_eq_true rfl) ⟨rfl, F, hM_q, by rw [failP_bad h_4]; exact hS_q, fun _ _ => rfl, fr.rf⟩
theorem sp_isSign {Γ : gam} {z0 : sto} {n k r_q N : Nat} {F K : row} {A : Nat → row} {Nm : Nat → Int64} {s : ps} (hM_q : MoAt Γ z0 r_q F K A Nm) (hS_q : rfR (A 5) N F s) {c_q : Int32} (hc_q : isSg c_q = true) : Sp Γ (rmk k 0 0) uX8_isSign [.ref r_q, .int c_q] z0 n (qP (bI (s.bad = 0 ∧ kd s.l = c_q)) z0 n) := by
  refine sp_intro [some (.ref r_q), some (.int c_q)] (by decide +kernel) rfl (Nat.le_of_ble_eq_true rfl) rfl ?_
  refine go_aload_n (pc := 0) dX8_isSign_0 rfl ?_
  refine go_getf (pc := 1) f_X8_99 dX8_isSign_1 (by first | exact mo0 hM_q | exact mo5 hM_q) (by rfl) ?_
  rw [hS_q.2.1]
  refine go_if_ne (tgt := 19) (pc := 4) dX8_isSign_4 (by decide) (fun h_4 => ?_) (fun h_4 => ?_)
  · refine go_iconst (v := 0) (pc := 19) dX8_isSign_19 (by decide) ?_
    exact go_zretP (pc := 20) rfl (by first | rfl | exact nb_bI) dX8_isSign_20 (Nat.le_of_ble_eq_true rfl) (Nat.le_of_ble_eq_true rfl) (by
  first
    | (have g4_q : ¬ s.bad = 0 := h_4
       exact (bI_f (fun e_q => g4_q e_q.1)).symm)
    | (have g12 : ¬ F 10 = c_q := h_12
       exact (bI_f (fun e_q => g12 ((tok_sg (hS_q.2.2.1 e_q.1) hc_q).mpr e_q.2))).symm)
    | (have g4_q : s.bad = 0 := Decidable.not_not.mp h_4
       have g12 : F 10 = c_q := h_12
       exact (bI_t ⟨g4_q, (tok_sg (hS_q.2.2.1 g4_q) hc_q).mp g12⟩).symm)
    | (have g4_q : s.bad = 0 := h_4
       have g12 : F 10 = c_q := Decidable.not_not.mp h_12
       exact (bI_t ⟨g4_q, (tok_sg (hS_q.2.2.1 g4_q) hc_q).mp g12⟩).symm)
    | (have g4_q : s.bad = 0 := h_4
       have g12 : F 10 = c_q := h_12
       exact (bI_t ⟨g4_q, (tok_sg (hS_q.2.2.1 g4_q) hc_q).mp g12⟩).symm))
  · refine go_aload_n (pc := 7) dX8_isSign_7 rfl ?_
    refine go_getf (pc := 8) f_X8_79 dX8_isSign_8 (by first | exact mo0 hM_q | exact mo5 hM_q) (by rfl) ?_
    refine go_iload_n (pc := 11) dX8_isSign_11 rfl ?_
    refine go_icmp_ne (tgt := 19) (pc := 12) dX8_isSign_12 (by decide) (fun h_12 => ?_) (fun h_12 => ?_)
    · refine go_iconst (v := 0) (pc := 19) dX8_isSign_19 (by decide) ?_
      exact go_zretP (pc := 20) rfl (by first | rfl | exact nb_bI) dX8_isSign_20 (Nat.le_of_ble_eq_true rfl) (Nat.le_of_ble_eq_true rfl) (by
  first
    | (have g4_q : ¬ s.bad = 0 := h_4
       exact (bI_f (fun e_q => g4_q e_q.1)).symm)
    | (have g12 : ¬ F 10 = c_q := h_12
       exact (bI_f (fun e_q => g12 ((tok_sg (hS_q.2.2.1 e_q.1) hc_q).mpr e_q.2))).symm)
    | (have g4_q : s.bad = 0 := Decidable.not_not.mp h_4
       have g12 : F 10 = c_q := h_12
       exact (bI_t ⟨g4_q, (tok_sg (hS_q.2.2.1 g4_q) hc_q).mp g12⟩).symm)
    | (have g4_q : s.bad = 0 := h_4
       have g12 : F 10 = c_q := Decidable.not_not.mp h_12
       exact (bI_t ⟨g4_q, (tok_sg (hS_q.2.2.1 g4_q) hc_q).mp g12⟩).symm)
    | (have g4_q : s.bad = 0 := h_4
       have g12 : F 10 = c_q := h_12
       exact (bI_t ⟨g4_q, (tok_sg (hS_q.2.2.1 g4_q) hc_q).mp g12⟩).symm))
    · refine go_iconst (v := 1) (pc := 15) dX8_isSign_15 (by decide) ?_
      refine go_goto (tgt := 20) (pc := 16) dX8_isSign_16 (by decide) ?_
      exact go_zretP (pc := 20) rfl (by first | rfl | exact nb_bI) dX8_isSign_20 (Nat.le_of_ble_eq_true rfl) (Nat.le_of_ble_eq_true rfl) (by
  first
    | (have g4_q : ¬ s.bad = 0 := h_4
       exact (bI_f (fun e_q => g4_q e_q.1)).symm)
    | (have g12 : ¬ F 10 = c_q := h_12
       exact (bI_f (fun e_q => g12 ((tok_sg (hS_q.2.2.1 e_q.1) hc_q).mpr e_q.2))).symm)
    | (have g4_q : s.bad = 0 := Decidable.not_not.mp h_4
       have g12 : F 10 = c_q := h_12
       exact (bI_t ⟨g4_q, (tok_sg (hS_q.2.2.1 g4_q) hc_q).mp g12⟩).symm)
    | (have g4_q : s.bad = 0 := h_4
       have g12 : F 10 = c_q := Decidable.not_not.mp h_12
       exact (bI_t ⟨g4_q, (tok_sg (hS_q.2.2.1 g4_q) hc_q).mp g12⟩).symm)
    | (have g4_q : s.bad = 0 := h_4
       have g12 : F 10 = c_q := h_12
       exact (bI_t ⟨g4_q, (tok_sg (hS_q.2.2.1 g4_q) hc_q).mp g12⟩).symm))
