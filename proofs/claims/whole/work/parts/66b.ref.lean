/-! ===== the reference: steps along the tokens ===== -/
theorem sp_blames {Γ : gam} {z0 : sto} {n k r_q N : Nat} {F K : row} {A : Nat → row} {Nm : Nat → Int64} {s : ps} (hM_q : MoAt Γ z0 r_q F K A Nm) (hS_q : rfR (A 5) N F s) {c_q : Int32} (hc_q : c_q ≠ 0) : Sp Γ (rmk k 0 0) uX8_blames [.ref r_q, .int c_q] z0 n (qV fun σ' n' => n' = n ∧ ∃ F' : row, MoAt Γ σ' r_q F' K A Nm ∧ rfR (A 5) N F' (failP N c_q s) ∧ (∀ j, (j < 8 ∨ 13 < j) → F' j = F j) ∧ fr r_q (r_q + 16) z0 σ') := by
  refine sp_intro [some (.ref r_q), some (.int c_q)] (by decide +kernel) rfl (Nat.le_of_ble_eq_true rfl) rfl ?_
  refine go_aload_n (pc := 0) dX8_blames_0 rfl ?_
  refine go_getf (pc := 1) f_X8_99 dX8_blames_1 (by first | exact mo0 hM_q | exact mo5 hM_q) (by rfl) ?_
  rw [hS_q.2.1]
  refine go_if_eq (tgt := 8) (pc := 4) dX8_blames_4 (by decide) (fun h_4 => ?_) (fun h_4 => ?_)
  · have hT_q := hS_q.2.2.1 h_4
    have hf_q : fr r_q (r_q + 16) z0 z0 := fr.rf
    refine go_aload_n (pc := 8) dX8_blames_8 rfl ?_
    refine go_aload_n (pc := 9) dX8_blames_9 rfl ?_
    refine go_getf (pc := 10) f_X8_79 dX8_blames_10 (by first | exact mo0 hM_q | exact mo5 hM_q) (by rfl) ?_
    refine go_iconst (v := 3) (pc := 13) dX8_blames_13 (by decide) ?_
    refine go_icmp_ne (tgt := 21) (pc := 14) dX8_blames_14 (by decide) (fun h_14 => ?_) (fun h_14 => ?_)
    · refine go_iload_n (pc := 21) dX8_blames_21 rfl ?_
      refine go_mpf12 (pc := 22) hM_q dX8_blames_22 (fun σ hM_q hf9 => ?_)
      have hf_q := hf_q.tr hf9
      obtain ⟨F1, hM_q, t12, tF⟩ : ∃ F1 : row, MoAt Γ σ r_q F1 K A Nm ∧ F1 12 = (if kd s.l = 1 then 1 else c_q) ∧ ∀ j, j ≠ 12 → F1 j = F j := by
        first
          | (have g14 : ¬ F 10 = 3 := h_14
             exact ⟨_, hM_q, (by rw [pk_us, if_neg (fun e_q => g14 ((tok_bad hT_q).mpr e_q))]), fun j hj_q => pk_un hj_q⟩)
          | (have g14 : F 10 = 3 := h_14
             exact ⟨_, hM_q, (by rw [pk_us, if_pos ((tok_bad hT_q).mp g14)]), fun j hj_q => pk_un hj_q⟩)
      refine go_aload_n (pc := 25) dX8_blames_25 rfl ?_
      refine go_aload_n (pc := 26) dX8_blames_26 rfl ?_
      refine go_getf (pc := 27) f_X8_76 dX8_blames_27 (by first | exact mo0 hM_q | exact mo5 hM_q) (by rfl) ?_
      refine go_mpf13 (pc := 30) hM_q dX8_blames_30 (fun σ hM_q hf9 => ?_)
      have hf_q := hf_q.tr hf9
      exact go_vretV (pc := 33) rfl dX8_blames_33 (Nat.le_of_ble_eq_true rfl) (Nat.le_of_ble_eq_true rfl) (by
  have e9_q : failP N c_q s = psm s.l (if kd s.l = 1 then 1 else c_q) (tpl N s.l) s.st := if_pos h_4
  have nz : (if kd s.l = 1 then 1 else c_q) ≠ 0 := by split; decide; exact hc_q
  refine ⟨rfl, _, hM_q, ?_, fun j hj_q => by rw [pk_un (by omega), tF j (by omega)], hf_q⟩
  rw [e9_q]
  exact ⟨by rw [pk_un (by decide), tF 7 (by decide)]; exact hS_q.1, by rw [pk_un (by decide)]; exact t12, fun e_q => absurd e_q nz, fun _ => by rw [pk_us, tF 9 (by decide)]; exact tok_pl hT_q⟩)
    · refine go_iconst (v := 1) (pc := 17) dX8_blames_17 (by decide) ?_
      refine go_goto (tgt := 22) (pc := 18) dX8_blames_18 (by decide) ?_
      refine go_mpf12 (pc := 22) hM_q dX8_blames_22 (fun σ hM_q hf9 => ?_)
      have hf_q := hf_q.tr hf9
      obtain ⟨F1, hM_q, t12, tF⟩ : ∃ F1 : row, MoAt Γ σ r_q F1 K A Nm ∧ F1 12 = (if kd s.l = 1 then 1 else c_q) ∧ ∀ j, j ≠ 12 → F1 j = F j := by
        first
          | (have g14 : ¬ F 10 = 3 := h_14
             exact ⟨_, hM_q, (by rw [pk_us, if_neg (fun e_q => g14 ((tok_bad hT_q).mpr e_q))]), fun j hj_q => pk_un hj_q⟩)
          | (have g14 : F 10 = 3 := h_14
             exact ⟨_, hM_q, (by rw [pk_us, if_pos ((tok_bad hT_q).mp g14)]), fun j hj_q => pk_un hj_q⟩)
      refine go_aload_n (pc := 25) dX8_blames_25 rfl ?_
      refine go_aload_n (pc := 26) dX8_blames_26 rfl ?_
      refine go_getf (pc := 27) f_X8_76 dX8_blames_27 (by first | exact mo0 hM_q | exact mo5 hM_q) (by rfl) ?_
      refine go_mpf13 (pc := 30) hM_q dX8_blames_30 (fun σ hM_q hf9 => ?_)
      have hf_q := hf_q.tr hf9
      exact go_vretV (pc := 33) rfl dX8_blames_33 (Nat.le_of_ble_eq_true rfl) (Nat.le_of_ble_eq_true rfl) (by
  have e9_q : failP N c_q s = psm s.l (if kd s.l = 1 then 1 else c_q) (tpl N s.l) s.st := if_pos h_4
  have nz : (if kd s.l = 1 then 1 else c_q) ≠ 0 := by split; decide; exact hc_q
  refine ⟨rfl, _, hM_q, ?_, fun j hj_q => by rw [pk_un (by omega), tF j (by omega)], hf_q⟩
  rw [e9_q]
  exact ⟨by rw [pk_un (by decide), tF 7 (by decide)]; exact hS_q.1, by rw [pk_un (by decide)]; exact t12, fun e_q => absurd e_q nz, fun _ => by rw [pk_us, tF 9 (by decide)]; exact tok_pl hT_q⟩)
  · exact go_vretV (pc := 7) rfl dX8_blames_7 (Nat.le_of_ble_eq_true rfl) (Nat.le_of_ble_eq_true rfl) ⟨rfl, F, hM_q, by rw [failP_bad h_4]; exact hS_q, fun _ _ => rfl, fr.rf⟩
theorem sp_isSign {Γ : gam} {z0 : sto} {n k r_q N : Nat} {F K : row} {A : Nat → row} {Nm : Nat → Int64} {s : ps} (hM_q : MoAt Γ z0 r_q F K A Nm) (hS_q : rfR (A 5) N F s) {c_q : Int32} (hc_q : isSg c_q = true) : Sp Γ (rmk k 0 0) uX8_isSign [.ref r_q, .int c_q] z0 n (qP (bI (s.bad = 0 ∧ kd s.l = c_q)) z0 n) := by
  refine sp_intro [some (.ref r_q), some (.int c_q)] (by decide +kernel) rfl (Nat.le_of_ble_eq_true rfl) rfl ?_
  refine go_aload_n (pc := 0) dX8_isSign_0 rfl ?_
  refine go_getf (pc := 1) f_X8_99 dX8_isSign_1 (by first | exact mo0 hM_q | exact mo5 hM_q) (by rfl) ?_
  rw [hS_q.2.1]
  refine go_if_ne (tgt := 19) (pc := 4) dX8_isSign_4 (by decide) (fun h_4 => ?_) (fun h_4 => ?_)
  · refine go_iconst (v := 0) (pc := 19) dX8_isSign_19 (by decide) ?_
    exact go_zretP (pc := 20) rfl (by first | rfl | exact nb_bI) dX8_isSign_20 (Nat.le_of_ble_eq_true rfl) (Nat.le_of_ble_eq_true rfl) (by
  first
    | (have g4_q : ¬ s.bad = 0 := h_4
       exact (bI_f (fun e_q => g4_q e_q.1)).symm)
    | (have g12 : ¬ F 10 = c_q := h_12
       exact (bI_f (fun e_q => g12 ((tok_sg (hS_q.2.2.1 e_q.1) hc_q).mpr e_q.2))).symm)
    | (have g4_q : s.bad = 0 := Decidable.not_not.mp h_4
       have g12 : F 10 = c_q := h_12
       exact (bI_t ⟨g4_q, (tok_sg (hS_q.2.2.1 g4_q) hc_q).mp g12⟩).symm)
    | (have g4_q : s.bad = 0 := h_4
       have g12 : F 10 = c_q := Decidable.not_not.mp h_12
       exact (bI_t ⟨g4_q, (tok_sg (hS_q.2.2.1 g4_q) hc_q).mp g12⟩).symm)
    | (have g4_q : s.bad = 0 := h_4
       have g12 : F 10 = c_q := h_12
       exact (bI_t ⟨g4_q, (tok_sg (hS_q.2.2.1 g4_q) hc_q).mp g12⟩).symm))
  · refine go_aload_n (pc := 7) dX8_isSign_7 rfl ?_
    refine go_getf (pc := 8) f_X8_79 dX8_isSign_8 (by first | exact mo0 hM_q | exact mo5 hM_q) (by rfl) ?_
    refine go_iload_n (pc := 11) dX8_isSign_11 rfl ?_
    refine go_icmp_ne (tgt := 19) (pc := 12) dX8_isSign_12 (by decide) (fun h_12 => ?_) (fun h_12 => ?_)
    · refine go_iconst (v := 0) (pc := 19) dX8_isSign_19 (by decide) ?_
      exact go_zretP (pc := 20) rfl (by first | rfl | exact nb_bI) dX8_isSign_20 (Nat.le_of_ble_eq_true rfl) (Nat.le_of_ble_eq_true rfl) (by
  first
    | (have g4_q : ¬ s.bad = 0 := h_4
       exact (bI_f (fun e_q => g4_q e_q.1)).symm)
    | (have g12 : ¬ F 10 = c_q := h_12
       exact (bI_f (fun e_q => g12 ((tok_sg (hS_q.2.2.1 e_q.1) hc_q).mpr e_q.2))).symm)
    | (have g4_q : s.bad = 0 := Decidable.not_not.mp h_4
       have g12 : F 10 = c_q := h_12
       exact (bI_t ⟨g4_q, (tok_sg (hS_q.2.2.1 g4_q) hc_q).mp g12⟩).symm)
    | (have g4_q : s.bad = 0 := h_4
       have g12 : F 10 = c_q := Decidable.not_not.mp h_12
       exact (bI_t ⟨g4_q, (tok_sg (hS_q.2.2.1 g4_q) hc_q).mp g12⟩).symm)
    | (have g4_q : s.bad = 0 := h_4
       have g12 : F 10 = c_q := h_12
       exact (bI_t ⟨g4_q, (tok_sg (hS_q.2.2.1 g4_q) hc_q).mp g12⟩).symm))
    · refine go_iconst (v := 1) (pc := 15) dX8_isSign_15 (by decide) ?_
      refine go_goto (tgt := 20) (pc := 16) dX8_isSign_16 (by decide) ?_
      exact go_zretP (pc := 20) rfl (by first | rfl | exact nb_bI) dX8_isSign_20 (Nat.le_of_ble_eq_true rfl) (Nat.le_of_ble_eq_true rfl) (by
  first
    | (have g4_q : ¬ s.bad = 0 := h_4
       exact (bI_f (fun e_q => g4_q e_q.1)).symm)
    | (have g12 : ¬ F 10 = c_q := h_12
       exact (bI_f (fun e_q => g12 ((tok_sg (hS_q.2.2.1 e_q.1) hc_q).mpr e_q.2))).symm)
    | (have g4_q : s.bad = 0 := Decidable.not_not.mp h_4
       have g12 : F 10 = c_q := h_12
       exact (bI_t ⟨g4_q, (tok_sg (hS_q.2.2.1 g4_q) hc_q).mp g12⟩).symm)
    | (have g4_q : s.bad = 0 := h_4
       have g12 : F 10 = c_q := Decidable.not_not.mp h_12
       exact (bI_t ⟨g4_q, (tok_sg (hS_q.2.2.1 g4_q) hc_q).mp g12⟩).symm)
    | (have g4_q : s.bad = 0 := h_4
       have g12 : F 10 = c_q := h_12
       exact (bI_t ⟨g4_q, (tok_sg (hS_q.2.2.1 g4_q) hc_q).mp g12⟩).symm))
theorem tok_next {f_q F : row} {N : Nat} {L : List tok} (h_q : tokF f_q N F L) (hl : L ≠ []) : ∃ p, p ≤ N ∧ F 8 = nI p ∧ tkn f_q N p = L.tail := by
  match L, h_q with
  | [], h_q => exact absurd rfl hl
  | x_q :: L', h_q =>
    obtain ⟨-, p, g1_q, -, g3_q, g4_q, -⟩ := h_q
    exact ⟨p, g1_q, g3_q, g4_q⟩
theorem sp_rdN {Γ : gam} {z0 : sto} {n k r_q N : Nat} {F K : row} {A : Nat → row} {Nm : Nat → Int64} {s : ps} (hM_q : MoAt Γ z0 r_q F K A Nm) (hS_q : rfR (A 5) N F s) (hN_q : N ≤ 900) (hb_q : s.bad = 0) (hl : s.l ≠ []) (hk : 1 ≤ k) : Sp Γ (rmk k 0 0) uX8_readsOn [.ref r_q] z0 n (qV fun σ' n' => n' = n ∧ ∃ F' : row, MoAt Γ σ' r_q F' K A Nm ∧ rfR (A 5) N F' (nextP s) ∧ (∀ j, (j < 8 ∨ 13 < j) → F' j = F j) ∧ fr r_q (r_q + 16) z0 σ') := by
  obtain ⟨p1, np1, np2, np3⟩ := tok_next (hS_q.2.2.1 hb_q) hl
  refine sp_mono (sp_readsOn hM_q hN_q hS_q.1 np2 np1 hk) (fun o_q σ n h_q => ?_)
  obtain ⟨rfl, rfl, F1, h1_q, h2_q, h3_q, h4_q⟩ := h_q
  refine ⟨rfl, rfl, F1, h1_q, ⟨(h3_q 7 (by omega)).trans hS_q.1, (h3_q 12 (by omega)).trans hS_q.2.1, fun _ => ?_, fun e_q => absurd hb_q e_q⟩, fun j hj_q => h3_q j (by omega), h4_q⟩
  rw [np3] at h2_q
  exact h2_q
theorem failP_ne {N : Nat} {c_q : Int32} {s : ps} (hc_q : c_q ≠ 0) (h_q : s.bad = 0) : (failP N c_q s).bad ≠ 0 := by
  have e_q : failP N c_q s = psm s.l (if kd s.l = 1 then 1 else c_q) (tpl N s.l) s.st := if_pos h_q
  rw [e_q]
  show (if kd s.l = 1 then 1 else c_q) ≠ 0
  split
  · decide
  · exact hc_q
theorem kd_ne {L : List tok} {c_q : Int32} (h_q : kd L = c_q) (hc_q : c_q ≠ 0) : L ≠ [] := fun e_q => by
  subst e_q
  exact hc_q h_q.symm
theorem sp_mustSign {Γ : gam} {z0 : sto} {n k r_q N : Nat} {F K : row} {A : Nat → row} {Nm : Nat → Int64} {s : ps} (hM_q : MoAt Γ z0 r_q F K A Nm) (hS_q : rfR (A 5) N F s) (hN_q : N ≤ 900) {c_q : Int32} (hc_q : isSg c_q = true) (hk : 2 ≤ k) : Sp Γ (rmk k 0 0) uX8_mustSign [.ref r_q, .int c_q] z0 n (qV fun σ' n' => n' = n ∧ ∃ F' : row, MoAt Γ σ' r_q F' K A Nm ∧ rfR (A 5) N F' (needP N c_q s) ∧ (∀ j, (j < 8 ∨ 13 < j) → F' j = F j) ∧ fr r_q (r_q + 16) z0 σ') := by
  refine sp_intro [some (.ref r_q), some (.int c_q)] (by decide +kernel) rfl (Nat.le_of_ble_eq_true rfl) rfl ?_
  have hc0 : c_q ≠ 0 := i_lt (sg_ge hc_q) (by decide)
  by_cases hb_q : s.bad = 0
  · have hT_q := hS_q.2.2.1 hb_q
    by_cases hkd : kd s.l = c_q
    · refine go_aload_n (pc := 0) dX8_mustSign_0 rfl ?_
      refine go_getf (pc := 1) f_X8_79 dX8_mustSign_1 (by first | exact mo0 hM_q | exact mo5 hM_q) (by rfl) ?_
      refine go_iload_n (pc := 4) dX8_mustSign_4 rfl ?_
      refine go_icmp_eq (tgt := 13) (pc := 5) dX8_mustSign_5 (by decide) (fun h_5 => ?_) (fun h_5 => by exfalso; exact h_5 ((tok_sg hT_q hc_q).mpr hkd))
      refine go_aload_n (pc := 13) dX8_mustSign_13 rfl ?_
      refine go_getf (pc := 14) f_X8_99 dX8_mustSign_14 (by first | exact mo0 hM_q | exact mo5 hM_q) (by rfl) ?_
      rw [hS_q.2.1]
      refine go_if_ne (tgt := 24) (pc := 17) dX8_mustSign_17 (by decide) (fun h_17 => by exfalso; exact h_17 hb_q) (fun h_17 => ?_)
      refine go_aload_n (pc := 20) dX8_mustSign_20 rfl ?_
      refine go_V0V (pc := 21) v_X8_118 rfl rfl (rcv_of (ci := 8) (by first | exact mo0 hM_q | exact mo5 hM_q) rfl) dX8_mustSign_21 (sp_rdN (k := k - 1) hM_q hS_q hN_q hb_q (kd_ne hkd hc0) (by omega)) (fun σ n h_q => ?_)
      obtain ⟨rfl, F2, hM_q, hS_q, hF2, hf2⟩ := h_q
      exact go_vretV (pc := 24) rfl dX8_mustSign_24 (Nat.le_of_ble_eq_true rfl) (Nat.le_of_ble_eq_true rfl) (by rw [needP, if_pos ⟨hb_q, hkd⟩]; exact ⟨rfl, F2, hM_q, hS_q, hF2, hf2⟩)
    · refine go_aload_n (pc := 0) dX8_mustSign_0 rfl ?_
      refine go_getf (pc := 1) f_X8_79 dX8_mustSign_1 (by first | exact mo0 hM_q | exact mo5 hM_q) (by rfl) ?_
      refine go_iload_n (pc := 4) dX8_mustSign_4 rfl ?_
      refine go_icmp_eq (tgt := 13) (pc := 5) dX8_mustSign_5 (by decide) (fun h_5 => by exfalso; exact hkd ((tok_sg hT_q hc_q).mp h_5)) (fun h_5 => ?_)
      refine go_aload_n (pc := 8) dX8_mustSign_8 rfl ?_
      refine go_iconst (v := 2) (pc := 9) dX8_mustSign_9 (by decide) ?_
      refine go_V1V (pc := 10) v_X8_121 rfl rfl (rcv_of (ci := 8) (by first | exact mo0 hM_q | exact mo5 hM_q) rfl) dX8_mustSign_10 (sp_blames (k := k - 1) hM_q hS_q (c_q := 2) (by decide)) (fun σ n h_q => ?_)
      obtain ⟨rfl, F1, hM_q, hS_q, hF1, hf1⟩ := h_q
      refine go_aload_n (pc := 13) dX8_mustSign_13 rfl ?_
      refine go_getf (pc := 14) f_X8_99 dX8_mustSign_14 (by first | exact mo0 hM_q | exact mo5 hM_q) (by rfl) ?_
      rw [hS_q.2.1]
      refine go_if_ne (tgt := 24) (pc := 17) dX8_mustSign_17 (by decide) (fun h_17 => ?_) (fun h_17 => by exfalso; exact failP_ne (by decide) hb_q h_17)
      exact go_vretV (pc := 24) rfl dX8_mustSign_24 (Nat.le_of_ble_eq_true rfl) (Nat.le_of_ble_eq_true rfl) (by rw [needP, if_neg (fun e_q => hkd e_q.2)]; exact ⟨rfl, F1, hM_q, hS_q, hF1, hf1⟩)
  · refine go_aload_n (pc := 0) dX8_mustSign_0 rfl ?_
    refine go_getf (pc := 1) f_X8_79 dX8_mustSign_1 (by first | exact mo0 hM_q | exact mo5 hM_q) (by rfl) ?_
    refine go_iload_n (pc := 4) dX8_mustSign_4 rfl ?_
    refine go_icmp_eq (tgt := 13) (pc := 5) dX8_mustSign_5 (by decide) (fun h_5 => ?_) (fun h_5 => ?_)
    · refine go_aload_n (pc := 13) dX8_mustSign_13 rfl ?_
      refine go_getf (pc := 14) f_X8_99 dX8_mustSign_14 (by first | exact mo0 hM_q | exact mo5 hM_q) (by rfl) ?_
      rw [hS_q.2.1]
      refine go_if_ne (tgt := 24) (pc := 17) dX8_mustSign_17 (by decide) (fun h_17 => ?_) (fun h_17 => by exfalso; first | exact hb_q h_17 | (rw [failP_bad hb_q] at h_17; exact hb_q h_17))
      exact go_vretV (pc := 24) rfl dX8_mustSign_24 (Nat.le_of_ble_eq_true rfl) (Nat.le_of_ble_eq_true rfl) (by rw [needP, if_neg (fun e_q => hb_q e_q.1)]; first | exact ⟨rfl, F1, hM_q, hS_q, hF1, hf1⟩ | (rw [failP_bad hb_q]; exact ⟨rfl, F, hM_q, hS_q, fun _ _ => rfl, fr.rf⟩))
    · refine go_aload_n (pc := 8) dX8_mustSign_8 rfl ?_
      refine go_iconst (v := 2) (pc := 9) dX8_mustSign_9 (by decide) ?_
      refine go_V1V (pc := 10) v_X8_121 rfl rfl (rcv_of (ci := 8) (by first | exact mo0 hM_q | exact mo5 hM_q) rfl) dX8_mustSign_10 (sp_blames (k := k - 1) hM_q hS_q (c_q := 2) (by decide)) (fun σ n h_q => ?_)
      obtain ⟨rfl, F1, hM_q, hS_q, hF1, hf1⟩ := h_q
      refine go_aload_n (pc := 13) dX8_mustSign_13 rfl ?_
      refine go_getf (pc := 14) f_X8_99 dX8_mustSign_14 (by first | exact mo0 hM_q | exact mo5 hM_q) (by rfl) ?_
      rw [hS_q.2.1]
      refine go_if_ne (tgt := 24) (pc := 17) dX8_mustSign_17 (by decide) (fun h_17 => ?_) (fun h_17 => by exfalso; first | exact hb_q h_17 | (rw [failP_bad hb_q] at h_17; exact hb_q h_17))
      exact go_vretV (pc := 24) rfl dX8_mustSign_24 (Nat.le_of_ble_eq_true rfl) (Nat.le_of_ble_eq_true rfl) (by rw [needP, if_neg (fun e_q => hb_q e_q.1)]; first | exact ⟨rfl, F1, hM_q, hS_q, hF1, hf1⟩ | (rw [failP_bad hb_q]; exact ⟨rfl, F, hM_q, hS_q, fun _ _ => rfl, fr.rf⟩))
theorem sp_number {Γ : gam} {z0 : sto} {n k r_q N : Nat} {F K : row} {A : Nat → row} {Nm : Nat → Int64} {s : ps} (hM_q : MoAt Γ z0 r_q F K A Nm) (hS_q : rfR (A 5) N F s) (hN_q : N ≤ 900) (lo hi_q : Int32) (hk : 2 ≤ k) : Sp Γ (rmk k 0 0) uX8_number [.ref r_q, .int lo, .int hi_q] z0 n (qI fun v_q σ' n' => v_q = (numP N lo hi_q s).1 ∧ n' = n ∧ ∃ F' : row, MoAt Γ σ' r_q F' K A Nm ∧ rfR (A 5) N F' ((numP N lo hi_q s).2) ∧ (∀ j, (j < 8 ∨ 13 < j) → F' j = F j) ∧ fr r_q (r_q + 16) z0 σ') := by
  refine sp_intro [some (.ref r_q), some (.int lo), some (.int hi_q), none] (by decide +kernel) rfl (Nat.le_of_ble_eq_true rfl) rfl ?_
  by_cases hb_q : s.bad = 0
  · have hT_q := hS_q.2.2.1 hb_q
    by_cases hkd : kd s.l = 2
    · have hv_q := tok_val hT_q hkd
      by_cases hw_q : lo ≤ tvl s.l ∧ tvl s.l ≤ hi_q
      · refine go_aload_n (pc := 0) dX8_number_0 rfl ?_
        refine go_getf (pc := 1) f_X8_79 dX8_number_1 (by first | exact mo0 hM_q | exact mo5 hM_q) (by rfl) ?_
        refine go_iconst (v := 2) (pc := 4) dX8_number_4 (by decide) ?_
        refine go_icmp_eq (tgt := 16) (pc := 5) dX8_number_5 (by decide) (fun h_5 => ?_) (fun h_5 => by exfalso; exact h_5 ((tok_num hT_q).mpr hkd))
        refine go_aload_n (pc := 16) dX8_number_16 rfl ?_
        refine go_getf (pc := 17) f_X8_93 dX8_number_17 (by first | exact mo0 hM_q | exact mo5 hM_q) (by rfl) ?_
        refine go_i2l (pc := 20) dX8_number_20 ?_
        refine go_iload_n (pc := 21) dX8_number_21 rfl ?_
        refine go_i2l (pc := 22) dX8_number_22 ?_
        refine go_iload_n (pc := 23) dX8_number_23 rfl ?_
        refine go_i2l (pc := 24) dX8_number_24 ?_
        refine go_S3P (pc := 25) s_X8_125 rfl rfl dX8_number_25 (sp_within (k := k - 1) _ _ _) ?_
        refine go_if_ne (tgt := 36) (pc := 28) dX8_number_28 (by decide) (fun h_28 => ?_) (fun h_28 => by exfalso; exact (bI_0.mp h_28) (by rw [hv_q]; exact ⟨Int64.le_iff_toInt_le.mpr (by rw [Int32.toInt_toInt64, Int32.toInt_toInt64]; exact Int32.le_iff_toInt_le.mp hw_q.1), Int64.le_iff_toInt_le.mpr (by rw [Int32.toInt_toInt64, Int32.toInt_toInt64]; exact Int32.le_iff_toInt_le.mp hw_q.2)⟩))
        refine go_aload_n (pc := 36) dX8_number_36 rfl ?_
        refine go_getf (pc := 37) f_X8_93 dX8_number_37 (by first | exact mo0 hM_q | exact mo5 hM_q) (by rfl) ?_
        refine go_istore_n (lw := [_, _, _, _]) (pc := 40) dX8_number_40 (by decide) rfl ?_
        refine go_aload_n (pc := 41) dX8_number_41 rfl ?_
        refine go_getf (pc := 42) f_X8_99 dX8_number_42 (by first | exact mo0 hM_q | exact mo5 hM_q) (by rfl) ?_
        rw [hS_q.2.1]
        refine go_if_ne (tgt := 52) (pc := 45) dX8_number_45 (by decide) (fun h_45 => by exfalso; exact h_45 hb_q) (fun h_45 => ?_)
        refine go_aload_n (pc := 48) dX8_number_48 rfl ?_
        refine go_V0V (pc := 49) v_X8_118 rfl rfl (rcv_of (ci := 8) (by first | exact mo0 hM_q | exact mo5 hM_q) rfl) dX8_number_49 (sp_rdN (k := k - 1) hM_q hS_q hN_q hb_q (kd_ne hkd (by decide)) (by omega)) (fun σ n h_q => ?_)
        obtain ⟨rfl, F2, hM_q, hS_q, hF2, hf2⟩ := h_q
        refine go_aload_n (pc := 52) dX8_number_52 rfl ?_
        refine go_getf (pc := 53) f_X8_99 dX8_number_53 (by first | exact mo0 hM_q | exact mo5 hM_q) (by rfl) ?_
        rw [hS_q.2.1]
        refine go_if_ne (tgt := 63) (pc := 56) dX8_number_56 (by decide) (fun h_56 => by exfalso; exact h_56 hb_q) (fun h_56 => ?_)
        refine go_iload_n (pc := 59) dX8_number_59 rfl ?_
        refine go_goto (tgt := 64) (pc := 60) dX8_number_60 (by decide) ?_
        exact go_iretI (pc := 64) rfl dX8_number_64 (Nat.le_of_ble_eq_true rfl) (Nat.le_of_ble_eq_true rfl) (by rw [numP, if_pos ⟨hb_q, hkd⟩, if_pos hw_q]; exact ⟨hv_q, rfl, F2, hM_q, hS_q, hF2, hf2⟩)
      · refine go_aload_n (pc := 0) dX8_number_0 rfl ?_
        refine go_getf (pc := 1) f_X8_79 dX8_number_1 (by first | exact mo0 hM_q | exact mo5 hM_q) (by rfl) ?_
        refine go_iconst (v := 2) (pc := 4) dX8_number_4 (by decide) ?_
        refine go_icmp_eq (tgt := 16) (pc := 5) dX8_number_5 (by decide) (fun h_5 => ?_) (fun h_5 => by exfalso; exact h_5 ((tok_num hT_q).mpr hkd))
        refine go_aload_n (pc := 16) dX8_number_16 rfl ?_
        refine go_getf (pc := 17) f_X8_93 dX8_number_17 (by first | exact mo0 hM_q | exact mo5 hM_q) (by rfl) ?_
        refine go_i2l (pc := 20) dX8_number_20 ?_
        refine go_iload_n (pc := 21) dX8_number_21 rfl ?_
        refine go_i2l (pc := 22) dX8_number_22 ?_
        refine go_iload_n (pc := 23) dX8_number_23 rfl ?_
        refine go_i2l (pc := 24) dX8_number_24 ?_
        refine go_S3P (pc := 25) s_X8_125 rfl rfl dX8_number_25 (sp_within (k := k - 1) _ _ _) ?_
        refine go_if_ne (tgt := 36) (pc := 28) dX8_number_28 (by decide) (fun h_28 => by exfalso; exact h_28 (bI_0.mpr (fun e_q => hw_q ⟨Int32.le_iff_toInt_le.mpr (by have g_q := Int64.le_iff_toInt_le.mp e_q.1; rw [Int32.toInt_toInt64, Int32.toInt_toInt64, hv_q] at g_q; exact g_q), Int32.le_iff_toInt_le.mpr (by have g_q := Int64.le_iff_toInt_le.mp e_q.2; rw [Int32.toInt_toInt64, Int32.toInt_toInt64, hv_q] at g_q; exact g_q)⟩))) (fun h_28 => ?_)
        refine go_aload_n (pc := 31) dX8_number_31 rfl ?_
        refine go_iconst (v := 3) (pc := 32) dX8_number_32 (by decide) ?_
        refine go_V1V (pc := 33) v_X8_121 rfl rfl (rcv_of (ci := 8) (by first | exact mo0 hM_q | exact mo5 hM_q) rfl) dX8_number_33 (sp_blames (k := k - 1) hM_q hS_q (c_q := 3) (by decide)) (fun σ n h_q => ?_)
        obtain ⟨rfl, F1, hM_q, hS_q, hF1, hf1⟩ := h_q
        refine go_aload_n (pc := 36) dX8_number_36 rfl ?_
        refine go_getf (pc := 37) f_X8_93 dX8_number_37 (by first | exact mo0 hM_q | exact mo5 hM_q) (by rfl) ?_
        refine go_istore_n (lw := [_, _, _, _]) (pc := 40) dX8_number_40 (by decide) rfl ?_
        refine go_aload_n (pc := 41) dX8_number_41 rfl ?_
        refine go_getf (pc := 42) f_X8_99 dX8_number_42 (by first | exact mo0 hM_q | exact mo5 hM_q) (by rfl) ?_
        rw [hS_q.2.1]
        refine go_if_ne (tgt := 52) (pc := 45) dX8_number_45 (by decide) (fun h_45 => ?_) (fun h_45 => by exfalso; exact failP_ne (by decide) hb_q h_45)
        refine go_aload_n (pc := 52) dX8_number_52 rfl ?_
        refine go_getf (pc := 53) f_X8_99 dX8_number_53 (by first | exact mo0 hM_q | exact mo5 hM_q) (by rfl) ?_
        rw [hS_q.2.1]
        refine go_if_ne (tgt := 63) (pc := 56) dX8_number_56 (by decide) (fun h_56 => ?_) (fun h_56 => by exfalso; exact failP_ne (by decide) hb_q h_56)
        refine go_iload_n (pc := 63) dX8_number_63 rfl ?_
        exact go_iretI (pc := 64) rfl dX8_number_64 (Nat.le_of_ble_eq_true rfl) (Nat.le_of_ble_eq_true rfl) (by rw [numP, if_pos ⟨hb_q, hkd⟩, if_neg hw_q]; exact ⟨rfl, rfl, F1, hM_q, hS_q, hF1, hf1⟩)
    · refine go_aload_n (pc := 0) dX8_number_0 rfl ?_
      refine go_getf (pc := 1) f_X8_79 dX8_number_1 (by first | exact mo0 hM_q | exact mo5 hM_q) (by rfl) ?_
      refine go_iconst (v := 2) (pc := 4) dX8_number_4 (by decide) ?_
      refine go_icmp_eq (tgt := 16) (pc := 5) dX8_number_5 (by decide) (fun h_5 => by exfalso; exact hkd ((tok_num hT_q).mp h_5)) (fun h_5 => ?_)
      refine go_aload_n (pc := 8) dX8_number_8 rfl ?_
      refine go_iconst (v := 2) (pc := 9) dX8_number_9 (by decide) ?_
      refine go_V1V (pc := 10) v_X8_121 rfl rfl (rcv_of (ci := 8) (by first | exact mo0 hM_q | exact mo5 hM_q) rfl) dX8_number_10 (sp_blames (k := k - 1) hM_q hS_q (c_q := 2) (by decide)) (fun σ n h_q => ?_)
      obtain ⟨rfl, F1, hM_q, hS_q, hF1, hf1⟩ := h_q
      refine go_goto (tgt := 36) (pc := 13) dX8_number_13 (by decide) ?_
      refine go_aload_n (pc := 36) dX8_number_36 rfl ?_
      refine go_getf (pc := 37) f_X8_93 dX8_number_37 (by first | exact mo0 hM_q | exact mo5 hM_q) (by rfl) ?_
      refine go_istore_n (lw := [_, _, _, _]) (pc := 40) dX8_number_40 (by decide) rfl ?_
      refine go_aload_n (pc := 41) dX8_number_41 rfl ?_
      refine go_getf (pc := 42) f_X8_99 dX8_number_42 (by first | exact mo0 hM_q | exact mo5 hM_q) (by rfl) ?_
      rw [hS_q.2.1]
      refine go_if_ne (tgt := 52) (pc := 45) dX8_number_45 (by decide) (fun h_45 => ?_) (fun h_45 => by exfalso; exact failP_ne (by decide) hb_q h_45)
      refine go_aload_n (pc := 52) dX8_number_52 rfl ?_
      refine go_getf (pc := 53) f_X8_99 dX8_number_53 (by first | exact mo0 hM_q | exact mo5 hM_q) (by rfl) ?_
      rw [hS_q.2.1]
      refine go_if_ne (tgt := 63) (pc := 56) dX8_number_56 (by decide) (fun h_56 => ?_) (fun h_56 => by exfalso; exact failP_ne (by decide) hb_q h_56)
      refine go_iload_n (pc := 63) dX8_number_63 rfl ?_
      exact go_iretI (pc := 64) rfl dX8_number_64 (Nat.le_of_ble_eq_true rfl) (Nat.le_of_ble_eq_true rfl) (by rw [numP, if_neg (fun e_q => hkd e_q.2)]; exact ⟨rfl, rfl, F1, hM_q, hS_q, hF1, hf1⟩)
  · refine go_aload_n (pc := 0) dX8_number_0 rfl ?_
    refine go_getf (pc := 1) f_X8_79 dX8_number_1 (by first | exact mo0 hM_q | exact mo5 hM_q) (by rfl) ?_
    refine go_iconst (v := 2) (pc := 4) dX8_number_4 (by decide) ?_
    refine go_icmp_eq (tgt := 16) (pc := 5) dX8_number_5 (by decide) (fun h_5 => ?_) (fun h_5 => ?_)
    · refine go_aload_n (pc := 16) dX8_number_16 rfl ?_
      refine go_getf (pc := 17) f_X8_93 dX8_number_17 (by first | exact mo0 hM_q | exact mo5 hM_q) (by rfl) ?_
      refine go_i2l (pc := 20) dX8_number_20 ?_
      refine go_iload_n (pc := 21) dX8_number_21 rfl ?_
      refine go_i2l (pc := 22) dX8_number_22 ?_
      refine go_iload_n (pc := 23) dX8_number_23 rfl ?_
      refine go_i2l (pc := 24) dX8_number_24 ?_
      refine go_S3P (pc := 25) s_X8_125 rfl rfl dX8_number_25 (sp_within (k := k - 1) _ _ _) ?_
      refine go_if_ne (tgt := 36) (pc := 28) dX8_number_28 (by decide) (fun h_28 => ?_) (fun h_28 => ?_)
      · refine go_aload_n (pc := 36) dX8_number_36 rfl ?_
        refine go_getf (pc := 37) f_X8_93 dX8_number_37 (by first | exact mo0 hM_q | exact mo5 hM_q) (by rfl) ?_
        refine go_istore_n (lw := [_, _, _, _]) (pc := 40) dX8_number_40 (by decide) rfl ?_
        refine go_aload_n (pc := 41) dX8_number_41 rfl ?_
        refine go_getf (pc := 42) f_X8_99 dX8_number_42 (by first | exact mo0 hM_q | exact mo5 hM_q) (by rfl) ?_
        rw [hS_q.2.1]
        refine go_if_ne (tgt := 52) (pc := 45) dX8_number_45 (by decide) (fun h_45 => ?_) (fun h_45 => by exfalso; first | exact hb_q h_45 | (rw [failP_bad hb_q] at h_45; exact hb_q h_45))
        refine go_aload_n (pc := 52) dX8_number_52 rfl ?_
        refine go_getf (pc := 53) f_X8_99 dX8_number_53 (by first | exact mo0 hM_q | exact mo5 hM_q) (by rfl) ?_
        rw [hS_q.2.1]
        refine go_if_ne (tgt := 63) (pc := 56) dX8_number_56 (by decide) (fun h_56 => ?_) (fun h_56 => by exfalso; first | exact hb_q h_56 | (rw [failP_bad hb_q] at h_56; exact hb_q h_56))
        refine go_iload_n (pc := 63) dX8_number_63 rfl ?_
        exact go_iretI (pc := 64) rfl dX8_number_64 (Nat.le_of_ble_eq_true rfl) (Nat.le_of_ble_eq_true rfl) (by rw [numP, if_neg (fun e_q => hb_q e_q.1)]; first | (refine ⟨rfl, rfl, F1, hM_q, ?_, hF1, hf1⟩; rw [failP_bad hb_q] at hS_q ⊢; exact hS_q) | (refine ⟨rfl, rfl, F, hM_q, ?_, fun _ _ => rfl, fr.rf⟩; rw [failP_bad hb_q]; exact hS_q))
      · refine go_aload_n (pc := 31) dX8_number_31 rfl ?_
        refine go_iconst (v := 3) (pc := 32) dX8_number_32 (by decide) ?_
        refine go_V1V (pc := 33) v_X8_121 rfl rfl (rcv_of (ci := 8) (by first | exact mo0 hM_q | exact mo5 hM_q) rfl) dX8_number_33 (sp_blames (k := k - 1) hM_q hS_q (c_q := 3) (by decide)) (fun σ n h_q => ?_)
        obtain ⟨rfl, F1, hM_q, hS_q, hF1, hf1⟩ := h_q
        refine go_aload_n (pc := 36) dX8_number_36 rfl ?_
        refine go_getf (pc := 37) f_X8_93 dX8_number_37 (by first | exact mo0 hM_q | exact mo5 hM_q) (by rfl) ?_
        refine go_istore_n (lw := [_, _, _, _]) (pc := 40) dX8_number_40 (by decide) rfl ?_
        refine go_aload_n (pc := 41) dX8_number_41 rfl ?_
        refine go_getf (pc := 42) f_X8_99 dX8_number_42 (by first | exact mo0 hM_q | exact mo5 hM_q) (by rfl) ?_
        rw [hS_q.2.1]
        refine go_if_ne (tgt := 52) (pc := 45) dX8_number_45 (by decide) (fun h_45 => ?_) (fun h_45 => by exfalso; first | exact hb_q h_45 | (rw [failP_bad hb_q] at h_45; exact hb_q h_45))
        refine go_aload_n (pc := 52) dX8_number_52 rfl ?_
        refine go_getf (pc := 53) f_X8_99 dX8_number_53 (by first | exact mo0 hM_q | exact mo5 hM_q) (by rfl) ?_
        rw [hS_q.2.1]
        refine go_if_ne (tgt := 63) (pc := 56) dX8_number_56 (by decide) (fun h_56 => ?_) (fun h_56 => by exfalso; first | exact hb_q h_56 | (rw [failP_bad hb_q] at h_56; exact hb_q h_56))
        refine go_iload_n (pc := 63) dX8_number_63 rfl ?_
        exact go_iretI (pc := 64) rfl dX8_number_64 (Nat.le_of_ble_eq_true rfl) (Nat.le_of_ble_eq_true rfl) (by rw [numP, if_neg (fun e_q => hb_q e_q.1)]; first | (refine ⟨rfl, rfl, F1, hM_q, ?_, hF1, hf1⟩; rw [failP_bad hb_q] at hS_q ⊢; exact hS_q) | (refine ⟨rfl, rfl, F, hM_q, ?_, fun _ _ => rfl, fr.rf⟩; rw [failP_bad hb_q]; exact hS_q))
    · refine go_aload_n (pc := 8) dX8_number_8 rfl ?_
      refine go_iconst (v := 2) (pc := 9) dX8_number_9 (by decide) ?_
      refine go_V1V (pc := 10) v_X8_121 rfl rfl (rcv_of (ci := 8) (by first | exact mo0 hM_q | exact mo5 hM_q) rfl) dX8_number_10 (sp_blames (k := k - 1) hM_q hS_q (c_q := 2) (by decide)) (fun σ n h_q => ?_)
      obtain ⟨rfl, F1, hM_q, hS_q, hF1, hf1⟩ := h_q
      refine go_goto (tgt := 36) (pc := 13) dX8_number_13 (by decide) ?_
      refine go_aload_n (pc := 36) dX8_number_36 rfl ?_
      refine go_getf (pc := 37) f_X8_93 dX8_number_37 (by first | exact mo0 hM_q | exact mo5 hM_q) (by rfl) ?_
      refine go_istore_n (lw := [_, _, _, _]) (pc := 40) dX8_number_40 (by decide) rfl ?_
      refine go_aload_n (pc := 41) dX8_number_41 rfl ?_
      refine go_getf (pc := 42) f_X8_99 dX8_number_42 (by first | exact mo0 hM_q | exact mo5 hM_q) (by rfl) ?_
      rw [hS_q.2.1]
      refine go_if_ne (tgt := 52) (pc := 45) dX8_number_45 (by decide) (fun h_45 => ?_) (fun h_45 => by exfalso; first | exact hb_q h_45 | (rw [failP_bad hb_q] at h_45; exact hb_q h_45))
      refine go_aload_n (pc := 52) dX8_number_52 rfl ?_
      refine go_getf (pc := 53) f_X8_99 dX8_number_53 (by first | exact mo0 hM_q | exact mo5 hM_q) (by rfl) ?_
      rw [hS_q.2.1]
      refine go_if_ne (tgt := 63) (pc := 56) dX8_number_56 (by decide) (fun h_56 => ?_) (fun h_56 => by exfalso; first | exact hb_q h_56 | (rw [failP_bad hb_q] at h_56; exact hb_q h_56))
      refine go_iload_n (pc := 63) dX8_number_63 rfl ?_
      exact go_iretI (pc := 64) rfl dX8_number_64 (Nat.le_of_ble_eq_true rfl) (Nat.le_of_ble_eq_true rfl) (by rw [numP, if_neg (fun e_q => hb_q e_q.1)]; first | (refine ⟨rfl, rfl, F1, hM_q, ?_, hF1, hf1⟩; rw [failP_bad hb_q] at hS_q ⊢; exact hS_q) | (refine ⟨rfl, rfl, F, hM_q, ?_, fun _ _ => rfl, fr.rf⟩; rw [failP_bad hb_q]; exact hS_q))
theorem tok_wd {f_q F : row} {N : Nat} {L : List tok} (h_q : tokF f_q N F L) {c_q : Int32} (h1_q : 4 ≤ c_q) (h2_q : c_q ≤ 20) (e_q : kd L = c_q) : F 10 = 1 := by
  match L, h_q, e_q with
  | [], h_q, e_q => exact absurd (show c_q = 0 from e_q.symm) (i_lt h1_q (by decide))
  | x_q :: L', h_q, e_q =>
    have e_q : x_q.1 = c_q := e_q
    obtain ⟨-, p, -, -, -, -, h_q⟩ := h_q
    rcases h_q with ⟨a, b_q⟩ | ⟨a, b_q, -⟩ | ⟨a, b_q⟩ | ⟨a, b_q⟩
    · exact a
    · exact absurd (e_q.symm.trans b_q) (i_lt h1_q (by decide))
    · exact absurd (e_q.symm.trans b_q) (i_lt h1_q (by decide))
    · have g_q := sg_ge a
      rw [e_q] at g_q
      exact absurd g_q (Int32.not_le.mpr (Int32.lt_of_le_of_lt h2_q (by decide)))
theorem tok_wp {f_q F : row} {N : Nat} {L : List tok} (h_q : tokF f_q N F L) (h1_q : F 10 = 1) : ∃ p q, p < q ∧ q ≤ N ∧ F 9 = nI p ∧ F 8 = nI q ∧ kd L = wK (txW f_q p q) := by
  match L, h_q with
  | [], h_q => exact absurd (h_q.2.symm.trans h1_q) (by decide)
  | x_q :: L', h_q =>
    obtain ⟨h9_q, p, g1_q, g2_q, g3_q, g4_q, h_q⟩ := h_q
    refine ⟨x_q.2.2, p, g2_q, g1_q, h9_q, g3_q, ?_⟩
    rcases h_q with ⟨a, b_q⟩ | ⟨a, b_q, -⟩ | ⟨a, b_q⟩ | ⟨a, b_q⟩
    · exact b_q
    · exact absurd (a.symm.trans h1_q) (by decide)
    · exact absurd (a.symm.trans h1_q) (by decide)
    · rw [← b_q, h1_q] at a; exact absurd a (by decide)
theorem sp_isWord {Γ : gam} {z0 : sto} {n k r_q N : Nat} {F K : row} {A : Nat → row} {Nm : Nat → Int64} {s : ps} (hM_q : MoAt Γ z0 r_q F K A Nm) (hS_q : rfR (A 5) N F s) {si : Nat} {q : String × Nat × String} {cw : Int32} (hs : sTab[si]? = some q) (hq_q : q.2.2.length < 2 ^ 31) (hw_q : ∀ L, wK L = cw ↔ L = wdL q.2.2) (h4_q : 4 ≤ cw) (h20 : cw ≤ 20) (hN_q : N ≤ 900) (hk : 5 ≤ k) : Sp Γ (rmk k 0 0) uX8_isWord [.ref r_q, .ref (gK Γ si)] z0 n (qP (bI (s.bad = 0 ∧ kd s.l = cw)) z0 n) := by
  refine sp_intro [some (.ref r_q), some (.ref (gK Γ si)), none, none] (by decide +kernel) rfl (Nat.le_of_ble_eq_true rfl) rfl ?_
  by_cases hb_q : s.bad = 0
  · have hT_q := hS_q.2.2.1 hb_q
    by_cases h10 : F 10 = 1
    · obtain ⟨p, e_q, hpe, heN, e9_q, e8_q, ek⟩ := tok_wp hT_q h10
      have esub : F 8 - F 9 = nI (e_q - p) := by rw [e8_q, e9_q]; exact pk_sub (by omega)
      have hX : (s.bad = 0 ∧ kd s.l = cw) ↔ (e_q - p = q.2.2.length ∧ ∀ i_q, i_q < q.2.2.length → A 5 (p + i_q) = chV q.2.2 i_q) := by
        rw [ek]
        exact ⟨fun g_q => tx_eq.mp ((hw_q _).mp g_q.2), fun g_q => ⟨hb_q, (hw_q _).mpr (tx_eq.mpr g_q)⟩⟩
      by_cases hln : e_q - p = q.2.2.length
      · refine go_aload_n (pc := 0) dX8_isWord_0 rfl ?_
        refine go_getf (pc := 1) f_X8_99 dX8_isWord_1 (by first | exact mo0 hM_q | exact mo5 hM_q) (by rfl) ?_
        rw [hS_q.2.1]
        refine go_if_ne (tgt := 35) (pc := 4) dX8_isWord_4 (by decide) (fun h_4 => by exfalso; exact h_4 hb_q) (fun h_4 => ?_)
        refine go_aload_n (pc := 7) dX8_isWord_7 rfl ?_
        refine go_getf (pc := 8) f_X8_79 dX8_isWord_8 (by first | exact mo0 hM_q | exact mo5 hM_q) (by rfl) ?_
        refine go_iconst (v := 1) (pc := 11) dX8_isWord_11 (by decide) ?_
        refine go_icmp_ne (tgt := 35) (pc := 12) dX8_isWord_12 (by decide) (fun h_12 => by exfalso; exact h_12 h10) (fun h_12 => ?_)
        refine go_aload_n (pc := 15) dX8_isWord_15 rfl ?_
        refine go_getf (pc := 16) f_X8_73 dX8_isWord_16 (by first | exact mo0 hM_q | exact mo5 hM_q) (by rfl) ?_
        refine go_aload_n (pc := 19) dX8_isWord_19 rfl ?_
        refine go_getf (pc := 20) f_X8_76 dX8_isWord_20 (by first | exact mo0 hM_q | exact mo5 hM_q) (by rfl) ?_
        refine go_isub (pc := 23) dX8_isWord_23 ?_
        refine go_aload_n (pc := 24) dX8_isWord_24 rfl ?_
        refine go_V0P (pc := 25) v_X8_105 rfl rfl (rcv_str hs) dX8_isWord_25 (cp_slen (k := k - 1) hs (by omega)) ?_
        rw [esub]
        refine go_icmp_ne (tgt := 35) (pc := 28) dX8_isWord_28 (by decide) (fun h_28 => by exfalso; exact h_28 (by rw [hln])) (fun h_28 => ?_)
        refine go_iconst (v := 1) (pc := 31) dX8_isWord_31 (by decide) ?_
        refine go_goto (tgt := 36) (pc := 32) dX8_isWord_32 (by decide) ?_
        refine go_istore_n (lw := [_, _, _, _]) (pc := 36) dX8_isWord_36 (by decide) rfl ?_
        refine go_iconst (v := 0) (pc := 37) dX8_isWord_37 (by decide) ?_
        refine go_istore_n (lw := [_, _, _, _]) (pc := 38) dX8_isWord_38 (by decide) rfl ?_
        refine go_iter (q.2.2.length) (fun i_q lv9 s9 n9 => ∃ (v2 : Int32), lv9 = [some (.ref r_q), some (.ref (gK Γ si)), some (.int v2), some (.int (nI i_q))] ∧ ((v2 = 1 ∧ ∀ j, j < i_q → A 5 (p + j) = chV q.2.2 j) ∨ (v2 = 0 ∧ ∃ j, j < i_q ∧ A 5 (p + j) ≠ chV q.2.2 j)) ∧ (z0 = s9) ∧ n = n9) ⟨1, rfl, (Or.inl ⟨rfl, fun j hj_q => by omega⟩), rfl, rfl⟩ ?_ ?_
        · rintro i_q lv9 σ n9 hi_q ⟨v2, rfl, hv2, es, rfl⟩ ih_q
          subst es
          refine go_iload_n (pc := 39) dX8_isWord_39 rfl ?_
          refine go_if_eq (tgt := 82) (pc := 40) dX8_isWord_40 (by decide) (fun h_40 => ?_) (fun h_40 => ?_)
          · obtain rfl : v2 = bI (s.bad = 0 ∧ kd s.l = cw) := by
              rcases hv2 with ⟨e2_q, g_q⟩ | ⟨e2_q, j, hj_q, g_q⟩
              · exact absurd (e2_q.symm.trans h_40) (by decide)
              · rw [e2_q]; exact (bI_f (fun hc_q => g_q ((hX.mp hc_q).2 j (by omega)))).symm
            refine go_iload_n (pc := 82) dX8_isWord_82 rfl ?_
            exact go_zretP (pc := 83) rfl (by first | rfl | exact nb_bI) dX8_isWord_83 (Nat.le_of_ble_eq_true rfl) (Nat.le_of_ble_eq_true rfl) rfl
          · refine go_iload_n (pc := 43) dX8_isWord_43 rfl ?_
            refine go_aload_n (pc := 44) dX8_isWord_44 rfl ?_
            refine go_V0P (pc := 45) v_X8_105 rfl rfl (rcv_str hs) dX8_isWord_45 (cp_slen (k := k - 1) hs (by omega)) ?_
            refine go_icmp_ge (tgt := 82) (pc := 48) dX8_isWord_48 (by decide) (fun h_48 => by exfalso; exact absurd h_48 (nI_ge hi_q hq_q)) (fun h_48 => ?_)
            have hv1 : v2 = 1 ∧ ∀ j, j < i_q → A 5 (p + j) = chV q.2.2 j := by
              rcases hv2 with g_q | ⟨e2_q, -⟩
              · exact g_q
              · exact absurd e2_q h_40
            refine go_aload_n (pc := 51) dX8_isWord_51 rfl ?_
            refine go_getf (pc := 52) f_X8_23 dX8_isWord_52 (by first | exact mo0 hM_q | exact mo5 hM_q) (by rfl) ?_
            refine go_aload_n (pc := 55) dX8_isWord_55 rfl ?_
            refine go_getf (pc := 56) f_X8_76 dX8_isWord_56 (by first | exact mo0 hM_q | exact mo5 hM_q) (by rfl) ?_
            refine go_iload_n (pc := 59) dX8_isWord_59 rfl ?_
            refine go_iadd (pc := 60) dX8_isWord_60 ?_
            rw [e9_q, nI_add]
            refine go_iald (pc := 61) dX8_isWord_61 (by first | exact mo0 hM_q | exact mo5 hM_q) (by exact ⟨rfl, by omega⟩) ?_
            refine go_aload_n (pc := 62) dX8_isWord_62 rfl ?_
            refine go_iload_n (pc := 63) dX8_isWord_63 rfl ?_
            refine go_V1P (pc := 64) v_X8_110 rfl rfl (rcv_str hs) dX8_isWord_64 (cp_chAt (k := k - 1) hs hi_q hq_q (by omega)) ?_
            refine go_icmp_ne (tgt := 74) (pc := 67) dX8_isWord_67 (by decide) (fun h_67 => ?_) (fun h_67 => ?_)
            · refine go_iconst (v := 0) (pc := 74) dX8_isWord_74 (by decide) ?_
              refine go_istore_n (lw := [_, _, _, _]) (pc := 75) dX8_isWord_75 (by decide) rfl ?_
              refine go_iinc (v := 1) (lw := [_, _, _, _]) (pc := 76) dX8_isWord_76 rfl (by decide) (by decide) rfl ?_
              refine go_goto (tgt := 39) (pc := 79) dX8_isWord_79 (by decide) ?_
              rw [nI_1]
              first
                | (have g67 : ¬ A 5 (p + i_q) = chV q.2.2 i_q := h_67
                   exact ih_q _ _ _ ⟨_, rfl, Or.inr ⟨rfl, i_q, Nat.lt_succ_self _, g67⟩, rfl, rfl⟩)
                | (have g67 : A 5 (p + i_q) = chV q.2.2 i_q := h_67
                   exact ih_q _ _ _ ⟨_, rfl, Or.inl ⟨rfl, fun j hj_q => by
                     by_cases e9_q : j = i_q
                     · rw [e9_q]; exact g67
                     · exact hv1.2 j (by omega)⟩, rfl, rfl⟩)
            · refine go_iconst (v := 1) (pc := 70) dX8_isWord_70 (by decide) ?_
              refine go_goto (tgt := 75) (pc := 71) dX8_isWord_71 (by decide) ?_
              refine go_istore_n (lw := [_, _, _, _]) (pc := 75) dX8_isWord_75 (by decide) rfl ?_
              refine go_iinc (v := 1) (lw := [_, _, _, _]) (pc := 76) dX8_isWord_76 rfl (by decide) (by decide) rfl ?_
              refine go_goto (tgt := 39) (pc := 79) dX8_isWord_79 (by decide) ?_
              rw [nI_1]
              first
                | (have g67 : ¬ A 5 (p + i_q) = chV q.2.2 i_q := h_67
                   exact ih_q _ _ _ ⟨_, rfl, Or.inr ⟨rfl, i_q, Nat.lt_succ_self _, g67⟩, rfl, rfl⟩)
                | (have g67 : A 5 (p + i_q) = chV q.2.2 i_q := h_67
                   exact ih_q _ _ _ ⟨_, rfl, Or.inl ⟨rfl, fun j hj_q => by
                     by_cases e9_q : j = i_q
                     · rw [e9_q]; exact g67
                     · exact hv1.2 j (by omega)⟩, rfl, rfl⟩)
        · rintro lv9 σ n9 ⟨v2, rfl, hv2, es, rfl⟩
          subst es
          refine go_iload_n (pc := 39) dX8_isWord_39 rfl ?_
          refine go_if_eq (tgt := 82) (pc := 40) dX8_isWord_40 (by decide) (fun h_40 => ?_) (fun h_40 => ?_)
          · obtain rfl : v2 = bI (s.bad = 0 ∧ kd s.l = cw) := by
              rcases hv2 with ⟨e2_q, g_q⟩ | ⟨e2_q, j, hj_q, g_q⟩
              · rw [e2_q]; exact (bI_t (hX.mpr ⟨hln, g_q⟩)).symm
              · rw [e2_q]; exact (bI_f (fun hc_q => g_q ((hX.mp hc_q).2 j hj_q))).symm
            refine go_iload_n (pc := 82) dX8_isWord_82 rfl ?_
            exact go_zretP (pc := 83) rfl (by first | rfl | exact nb_bI) dX8_isWord_83 (Nat.le_of_ble_eq_true rfl) (Nat.le_of_ble_eq_true rfl) rfl
          · refine go_iload_n (pc := 43) dX8_isWord_43 rfl ?_
            refine go_aload_n (pc := 44) dX8_isWord_44 rfl ?_
            refine go_V0P (pc := 45) v_X8_105 rfl rfl (rcv_str hs) dX8_isWord_45 (cp_slen (k := k - 1) hs (by omega)) ?_
            refine go_icmp_ge (tgt := 82) (pc := 48) dX8_isWord_48 (by decide) (fun h_48 => ?_) (fun h_48 => by exfalso; exact h_48 (nI_le (Nat.le_refl _) hq_q))
            obtain rfl : v2 = bI (s.bad = 0 ∧ kd s.l = cw) := by
              rcases hv2 with ⟨e2_q, g_q⟩ | ⟨e2_q, j, hj_q, g_q⟩
              · rw [e2_q]; exact (bI_t (hX.mpr ⟨hln, g_q⟩)).symm
              · rw [e2_q]; exact (bI_f (fun hc_q => g_q ((hX.mp hc_q).2 j hj_q))).symm
            refine go_iload_n (pc := 82) dX8_isWord_82 rfl ?_
            exact go_zretP (pc := 83) rfl (by first | rfl | exact nb_bI) dX8_isWord_83 (Nat.le_of_ble_eq_true rfl) (Nat.le_of_ble_eq_true rfl) rfl
      · refine go_aload_n (pc := 0) dX8_isWord_0 rfl ?_
        refine go_getf (pc := 1) f_X8_99 dX8_isWord_1 (by first | exact mo0 hM_q | exact mo5 hM_q) (by rfl) ?_
        rw [hS_q.2.1]
        refine go_if_ne (tgt := 35) (pc := 4) dX8_isWord_4 (by decide) (fun h_4 => by exfalso; exact h_4 hb_q) (fun h_4 => ?_)
        refine go_aload_n (pc := 7) dX8_isWord_7 rfl ?_
        refine go_getf (pc := 8) f_X8_79 dX8_isWord_8 (by first | exact mo0 hM_q | exact mo5 hM_q) (by rfl) ?_
        refine go_iconst (v := 1) (pc := 11) dX8_isWord_11 (by decide) ?_
        refine go_icmp_ne (tgt := 35) (pc := 12) dX8_isWord_12 (by decide) (fun h_12 => by exfalso; exact h_12 h10) (fun h_12 => ?_)
        refine go_aload_n (pc := 15) dX8_isWord_15 rfl ?_
        refine go_getf (pc := 16) f_X8_73 dX8_isWord_16 (by first | exact mo0 hM_q | exact mo5 hM_q) (by rfl) ?_
        refine go_aload_n (pc := 19) dX8_isWord_19 rfl ?_
        refine go_getf (pc := 20) f_X8_76 dX8_isWord_20 (by first | exact mo0 hM_q | exact mo5 hM_q) (by rfl) ?_
        refine go_isub (pc := 23) dX8_isWord_23 ?_
        refine go_aload_n (pc := 24) dX8_isWord_24 rfl ?_
        refine go_V0P (pc := 25) v_X8_105 rfl rfl (rcv_str hs) dX8_isWord_25 (cp_slen (k := k - 1) hs (by omega)) ?_
        rw [esub]
        refine go_icmp_ne (tgt := 35) (pc := 28) dX8_isWord_28 (by decide) (fun h_28 => ?_) (fun h_28 => by exfalso; exact hln ((nI_eq (by omega) hq_q).mp h_28))
        refine go_iconst (v := 0) (pc := 35) dX8_isWord_35 (by decide) ?_
        refine go_istore_n (lw := [_, _, _, _]) (pc := 36) dX8_isWord_36 (by decide) rfl ?_
        refine go_iconst (v := 0) (pc := 37) dX8_isWord_37 (by decide) ?_
        refine go_istore_n (lw := [_, _, _, _]) (pc := 38) dX8_isWord_38 (by decide) rfl ?_
        refine go_iload_n (pc := 39) dX8_isWord_39 rfl ?_
        refine go_if_eq (tgt := 82) (pc := 40) dX8_isWord_40 (by decide) (fun h_40 => ?_) (fun h_40 => by exfalso; exact h_40 rfl)
        refine go_iload_n (pc := 82) dX8_isWord_82 rfl ?_
        exact go_zretP (pc := 83) rfl (by first | rfl | exact nb_bI) dX8_isWord_83 (Nat.le_of_ble_eq_true rfl) (Nat.le_of_ble_eq_true rfl) (bI_f (fun hc_q => hln (hX.mp hc_q).1)).symm
    · refine go_aload_n (pc := 0) dX8_isWord_0 rfl ?_
      refine go_getf (pc := 1) f_X8_99 dX8_isWord_1 (by first | exact mo0 hM_q | exact mo5 hM_q) (by rfl) ?_
      rw [hS_q.2.1]
      refine go_if_ne (tgt := 35) (pc := 4) dX8_isWord_4 (by decide) (fun h_4 => by exfalso; exact h_4 hb_q) (fun h_4 => ?_)
      refine go_aload_n (pc := 7) dX8_isWord_7 rfl ?_
      refine go_getf (pc := 8) f_X8_79 dX8_isWord_8 (by first | exact mo0 hM_q | exact mo5 hM_q) (by rfl) ?_
      refine go_iconst (v := 1) (pc := 11) dX8_isWord_11 (by decide) ?_
      refine go_icmp_ne (tgt := 35) (pc := 12) dX8_isWord_12 (by decide) (fun h_12 => ?_) (fun h_12 => by exfalso; exact h10 h_12)
      refine go_iconst (v := 0) (pc := 35) dX8_isWord_35 (by decide) ?_
      refine go_istore_n (lw := [_, _, _, _]) (pc := 36) dX8_isWord_36 (by decide) rfl ?_
      refine go_iconst (v := 0) (pc := 37) dX8_isWord_37 (by decide) ?_
      refine go_istore_n (lw := [_, _, _, _]) (pc := 38) dX8_isWord_38 (by decide) rfl ?_
      refine go_iload_n (pc := 39) dX8_isWord_39 rfl ?_
      refine go_if_eq (tgt := 82) (pc := 40) dX8_isWord_40 (by decide) (fun h_40 => ?_) (fun h_40 => by exfalso; exact h_40 rfl)
      refine go_iload_n (pc := 82) dX8_isWord_82 rfl ?_
      exact go_zretP (pc := 83) rfl (by first | rfl | exact nb_bI) dX8_isWord_83 (Nat.le_of_ble_eq_true rfl) (Nat.le_of_ble_eq_true rfl) (bI_f (fun hc_q => h10 (tok_wd hT_q h4_q h20 hc_q.2))).symm
  · refine go_aload_n (pc := 0) dX8_isWord_0 rfl ?_
    refine go_getf (pc := 1) f_X8_99 dX8_isWord_1 (by first | exact mo0 hM_q | exact mo5 hM_q) (by rfl) ?_
    rw [hS_q.2.1]
    refine go_if_ne (tgt := 35) (pc := 4) dX8_isWord_4 (by decide) (fun h_4 => ?_) (fun h_4 => by exfalso; exact hb_q h_4)
    refine go_iconst (v := 0) (pc := 35) dX8_isWord_35 (by decide) ?_
    refine go_istore_n (lw := [_, _, _, _]) (pc := 36) dX8_isWord_36 (by decide) rfl ?_
    refine go_iconst (v := 0) (pc := 37) dX8_isWord_37 (by decide) ?_
    refine go_istore_n (lw := [_, _, _, _]) (pc := 38) dX8_isWord_38 (by decide) rfl ?_
    refine go_iload_n (pc := 39) dX8_isWord_39 rfl ?_
    refine go_if_eq (tgt := 82) (pc := 40) dX8_isWord_40 (by decide) (fun h_40 => ?_) (fun h_40 => by exfalso; exact h_40 rfl)
    refine go_iload_n (pc := 82) dX8_isWord_82 rfl ?_
    exact go_zretP (pc := 83) rfl (by first | rfl | exact nb_bI) dX8_isWord_83 (Nat.le_of_ble_eq_true rfl) (Nat.le_of_ble_eq_true rfl) (bI_f (fun hc_q => hb_q hc_q.1)).symm
theorem sp_took {Γ : gam} {z0 : sto} {n k r_q N : Nat} {F K : row} {A : Nat → row} {Nm : Nat → Int64} {s : ps} (hM_q : MoAt Γ z0 r_q F K A Nm) (hS_q : rfR (A 5) N F s) {si : Nat} {q : String × Nat × String} {cw : Int32} (hs : sTab[si]? = some q) (hq_q : q.2.2.length < 2 ^ 31) (hw_q : ∀ L, wK L = cw ↔ L = wdL q.2.2) (h4_q : 4 ≤ cw) (h20 : cw ≤ 20) (hN_q : N ≤ 900) (hk : 6 ≤ k) : Sp Γ (rmk k 0 0) uX8_took [.ref r_q, .ref (gK Γ si)] z0 n (qI fun v_q σ' n' => v_q = bI (s.bad = 0 ∧ kd s.l = cw) ∧ n' = n ∧ ∃ F' : row, MoAt Γ σ' r_q F' K A Nm ∧ rfR (A 5) N F' (if s.bad = 0 ∧ kd s.l = cw then nextP s else s) ∧ (∀ j, (j < 8 ∨ 13 < j) → F' j = F j) ∧ fr r_q (r_q + 16) z0 σ') := by
  refine sp_intro [some (.ref r_q), some (.ref (gK Γ si)), none] (by decide +kernel) rfl (Nat.le_of_ble_eq_true rfl) rfl ?_
  refine go_aload_n (pc := 0) dX8_took_0 rfl ?_
  refine go_aload_n (pc := 1) dX8_took_1 rfl ?_
  refine go_V1P (pc := 2) v_X8_114 rfl rfl (rcv_of (ci := 8) (by first | exact mo0 hM_q | exact mo5 hM_q) rfl) dX8_took_2 (sp_isWord (k := k - 1) hM_q hS_q hs hq_q hw_q h4_q h20 hN_q (by omega)) ?_
  refine go_istore_n (lw := [_, _, _]) (pc := 5) dX8_took_5 (by decide) rfl ?_
  refine go_iload_n (pc := 6) dX8_took_6 rfl ?_
  refine go_if_eq (tgt := 14) (pc := 7) dX8_took_7 (by decide) (fun h_7 => ?_) (fun h_7 => ?_)
  · refine go_iload_n (pc := 14) dX8_took_14 rfl ?_
    exact go_zretI (pc := 15) rfl (by first | rfl | exact nb_bI) dX8_took_15 (Nat.le_of_ble_eq_true rfl) (Nat.le_of_ble_eq_true rfl) (by
  first
    | (have g_q : bI (s.bad = 0 ∧ kd s.l = cw) = 0 := h_7
       rw [if_neg (bI_0.mp g_q)]
       exact ⟨rfl, rfl, F, hM_q, hS_q, fun _ _ => rfl, fr.rf⟩)
    | (have g_q : ¬ bI (s.bad = 0 ∧ kd s.l = cw) = 0 := h_7
       rw [if_pos g7_q]
       exact ⟨rfl, rfl, F2, hM_q, hS_q, hF2, hf2⟩))
  · have g7_q : s.bad = 0 ∧ kd s.l = cw := Decidable.not_not.mp (fun hc_q => h_7 (bI_0.mpr hc_q))
    refine go_aload_n (pc := 10) dX8_took_10 rfl ?_
    refine go_V0V (pc := 11) v_X8_118 rfl rfl (rcv_of (ci := 8) (by first | exact mo0 hM_q | exact mo5 hM_q) rfl) dX8_took_11 (sp_rdN (k := k - 1) hM_q hS_q hN_q g7_q.1 (kd_ne g7_q.2 (i_lt h4_q (by decide))) (by omega)) (fun σ n h_q => ?_)
    obtain ⟨rfl, F2, hM_q, hS_q, hF2, hf2⟩ := h_q
    refine go_iload_n (pc := 14) dX8_took_14 rfl ?_
    exact go_zretI (pc := 15) rfl (by first | rfl | exact nb_bI) dX8_took_15 (Nat.le_of_ble_eq_true rfl) (Nat.le_of_ble_eq_true rfl) (by
  first
    | (have g_q : bI (s.bad = 0 ∧ kd s.l = cw) = 0 := h_7
       rw [if_neg (bI_0.mp g_q)]
       exact ⟨rfl, rfl, F, hM_q, hS_q, fun _ _ => rfl, fr.rf⟩)
    | (have g_q : ¬ bI (s.bad = 0 ∧ kd s.l = cw) = 0 := h_7
       rw [if_pos g7_q]
       exact ⟨rfl, rfl, F2, hM_q, hS_q, hF2, hf2⟩))
theorem sp_mustWord {Γ : gam} {z0 : sto} {n k r_q N : Nat} {F K : row} {A : Nat → row} {Nm : Nat → Int64} {s : ps} (hM_q : MoAt Γ z0 r_q F K A Nm) (hS_q : rfR (A 5) N F s) {si : Nat} {q : String × Nat × String} {cw : Int32} (hs : sTab[si]? = some q) (hq_q : q.2.2.length < 2 ^ 31) (hw_q : ∀ L, wK L = cw ↔ L = wdL q.2.2) (h4_q : 4 ≤ cw) (h20 : cw ≤ 20) (hN_q : N ≤ 900) (hk : 7 ≤ k) : Sp Γ (rmk k 0 0) uX8_mustWord [.ref r_q, .ref (gK Γ si)] z0 n (qV fun σ' n' => n' = n ∧ ∃ F' : row, MoAt Γ σ' r_q F' K A Nm ∧ rfR (A 5) N F' (needP N cw s) ∧ (∀ j, (j < 8 ∨ 13 < j) → F' j = F j) ∧ fr r_q (r_q + 16) z0 σ') := by
  refine sp_intro [some (.ref r_q), some (.ref (gK Γ si))] (by decide +kernel) rfl (Nat.le_of_ble_eq_true rfl) rfl ?_
  refine go_aload_n (pc := 0) dX8_mustWord_0 rfl ?_
  refine go_aload_n (pc := 1) dX8_mustWord_1 rfl ?_
  refine go_V1I (pc := 2) v_X8_129 rfl rfl (rcv_of (ci := 8) (by first | exact mo0 hM_q | exact mo5 hM_q) rfl) dX8_mustWord_2 (sp_took (k := k - 1) hM_q hS_q hs hq_q hw_q h4_q h20 hN_q (by omega)) (fun v_2 σ n h_q => ?_)
  obtain ⟨rfl, rfl, F1, hM_q, hS_q, hF1, hf1⟩ := h_q
  refine go_if_ne (tgt := 13) (pc := 5) dX8_mustWord_5 (by decide) (fun h_5 => ?_) (fun h_5 => ?_)
  · exact go_vretV (pc := 13) rfl dX8_mustWord_13 (Nat.le_of_ble_eq_true rfl) (Nat.le_of_ble_eq_true rfl) (by
  first
    | (have g_q : ¬ bI (s.bad = 0 ∧ kd s.l = cw) = 0 := h_5
       have g7_q : s.bad = 0 ∧ kd s.l = cw := Decidable.not_not.mp (fun hc_q => g_q (bI_0.mpr hc_q))
       rw [if_pos g7_q] at hS_q
       rw [needP, if_pos g7_q]
       exact ⟨rfl, F1, hM_q, hS_q, hF1, hf1⟩)
    | (have g_q : bI (s.bad = 0 ∧ kd s.l = cw) = 0 := h_5
       rw [needP, if_neg (bI_0.mp g_q)]
       exact ⟨rfl, F2, hM_q, hS_q, fun j hj_q => (hF2 j hj_q).trans (hF1 j hj_q), hf1.tr hf2⟩))
  · have g5_q := bI_0.mp h_5
    rw [if_neg g5_q] at hS_q
    refine go_aload_n (pc := 8) dX8_mustWord_8 rfl ?_
    refine go_iconst (v := 2) (pc := 9) dX8_mustWord_9 (by decide) ?_
    refine go_V1V (pc := 10) v_X8_121 rfl rfl (rcv_of (ci := 8) (by first | exact mo0 hM_q | exact mo5 hM_q) rfl) dX8_mustWord_10 (sp_blames (k := k - 1) hM_q hS_q (c_q := 2) (by decide)) (fun σ n h_q => ?_)
    obtain ⟨rfl, F2, hM_q, hS_q, hF2, hf2⟩ := h_q
    exact go_vretV (pc := 13) rfl dX8_mustWord_13 (Nat.le_of_ble_eq_true rfl) (Nat.le_of_ble_eq_true rfl) (by
  first
    | (have g_q : ¬ bI (s.bad = 0 ∧ kd s.l = cw) = 0 := h_5
       have g7_q : s.bad = 0 ∧ kd s.l = cw := Decidable.not_not.mp (fun hc_q => g_q (bI_0.mpr hc_q))
       rw [if_pos g7_q] at hS_q
       rw [needP, if_pos g7_q]
       exact ⟨rfl, F1, hM_q, hS_q, hF1, hf1⟩)
    | (have g_q : bI (s.bad = 0 ∧ kd s.l = cw) = 0 := h_5
       rw [needP, if_neg (bI_0.mp g_q)]
       exact ⟨rfl, F2, hM_q, hS_q, fun j hj_q => (hF2 j hj_q).trans (hF1 j hj_q), hf1.tr hf2⟩))
