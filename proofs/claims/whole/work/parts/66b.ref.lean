/-! ===== the reference: steps along the tokens ===== -/
theorem sp_blames {Γ : gam} {z0 : sto} {n k r_q N : Nat} {F K : row} {A : Nat → row} {Nm : Nat → Int64} {s : ps} (hM_q : MoAt Γ z0 r_q F K A Nm) (hS_q : rfR (A 5) N F s) {c_q : Int32} (hc_q : c_q ≠ 0) : Sp Γ (rmk k 0 0) uX8_blames [.ref r_q, .int c_q] z0 n (qV fun σ' n' => n' = n ∧ ∃ F' : row, MoAt Γ σ' r_q F' K A Nm ∧ rfR (A 5) N F' (failP N c_q s) ∧ (∀ j, (j < 8 ∨ 13 < j) → F' j = F j) ∧ fr r_q (r_q + 16) z0 σ') := by
  refine sp_intro [some (.ref r_q), some (.int c_q)] (by decide +kernel) rfl (Nat.le_of_ble_eq_true rfl) rfl ?_
  refine go_aload_n (pc := 0) dX8_blames_0 rfl ?_
  refine go_getf (pc := 1) f_X8_99 dX8_blames_1 (by first | exact mo0 hM_q | exact mo5 hM_q) (by rfl) ?_
  rw [hS_q.2.1]
  refine go_if_eq (tgt := 8) (pc := 4) dX8_blames_4 (by decide) (fun h_4 => ?_) (fun h_4 => ?_)
  · have hT_q := hS_q.2.2.1 h_4
    have hf_q : fr r_q (r_q + 16) z0 z0 := fr.rf
    refine go_aload_n (pc := 8) dX8_blames_8 rfl ?_
    refine go_aload_n (pc := 9) dX8_blames_9 rfl ?_
    refine go_getf (pc := 10) f_X8_79 dX8_blames_10 (by first | exact mo0 hM_q | exact mo5 hM_q) (by rfl) ?_
    refine go_iconst (v := 3) (pc := 13) dX8_blames_13 (by decide) ?_
    refine go_icmp_ne (tgt := 21) (pc := 14) dX8_blames_14 (by decide) (fun h_14 => ?_) (fun h_14 => ?_)
    · refine go_iload_n (pc := 21) dX8_blames_21 rfl ?_
      refine go_mpf12 (pc := 22) hM_q dX8_blames_22 (fun σ hM_q hf9 => ?_)
      have hf_q := hf_q.tr hf9
      obtain ⟨F1, hM_q, t12, tF⟩ : ∃ F1 : row, MoAt Γ σ r_q F1 K A Nm ∧ F1 12 = (if kd s.l = 1 then 1 else c_q) ∧ ∀ j, j ≠ 12 → F1 j = F j := by
        first
          | (have g14 : ¬ F 10 = 3 := h_14
             exact ⟨_, hM_q, (by rw [pk_us, if_neg (fun e_q => g14 ((tok_bad hT_q).mpr e_q))]), fun j hj_q => pk_un hj_q⟩)
          | (have g14 : F 10 = 3 := h_14
             exact ⟨_, hM_q, (by rw [pk_us, if_pos ((tok_bad hT_q).mp g14)]), fun j hj_q => pk_un hj_q⟩)
      refine go_aload_n (pc := 25) dX8_blames_25 rfl ?_
      refine go_aload_n (pc := 26) dX8_blames_26 rfl ?_
      refine go_getf (pc := 27) f_X8_76 dX8_blames_27 (by first | exact mo0 hM_q | exact mo5 hM_q) (by rfl) ?_
      refine go_mpf13 (pc := 30) hM_q dX8_blames_30 (fun σ hM_q hf9 => ?_)
      have hf_q := hf_q.tr hf9
      exact go_vretV (pc := 33) rfl dX8_blames_33 (Nat.le_of_ble_eq_true rfl) (Nat.le_of_ble_eq_true rfl) (by
  have e9_q : failP N c_q s = psm s.l (if kd s.l = 1 then 1 else c_q) (tpl N s.l) s.st := if_pos h_4
  have nz : (if kd s.l = 1 then 1 else c_q) ≠ 0 := by split; decide; exact hc_q
  refine ⟨rfl, _, hM_q, ?_, fun j hj_q => by rw [pk_un (by omega), tF j (by omega)], hf_q⟩
  rw [e9_q]
  exact ⟨by rw [pk_un (by decide), tF 7 (by decide)]; exact hS_q.1, by rw [pk_un (by decide)]; exact t12, fun e_q => absurd e_q nz, fun _ => by rw [pk_us, tF 9 (by decide)]; exact tok_pl hT_q⟩)
    · refine go_iconst (v := 1) (pc := 17) dX8_blames_17 (by decide) ?_
      refine go_goto (tgt := 22) (pc := 18) dX8_blames_18 (by decide) ?_
      refine go_mpf12 (pc := 22) hM_q dX8_blames_22 (fun σ hM_q hf9 => ?_)
      have hf_q := hf_q.tr hf9
      obtain ⟨F1, hM_q, t12, tF⟩ : ∃ F1 : row, MoAt Γ σ r_q F1 K A Nm ∧ F1 12 = (if kd s.l = 1 then 1 else c_q) ∧ ∀ j, j ≠ 12 → F1 j = F j := by
        first
          | (have g14 : ¬ F 10 = 3 := h_14
             exact ⟨_, hM_q, (by rw [pk_us, if_neg (fun e_q => g14 ((tok_bad hT_q).mpr e_q))]), fun j hj_q => pk_un hj_q⟩)
          | (have g14 : F 10 = 3 := h_14
             exact ⟨_, hM_q, (by rw [pk_us, if_pos ((tok_bad hT_q).mp g14)]), fun j hj_q => pk_un hj_q⟩)
      refine go_aload_n (pc := 25) dX8_blames_25 rfl ?_
      refine go_aload_n (pc := 26) dX8_blames_26 rfl ?_
      refine go_getf (pc := 27) f_X8_76 dX8_blames_27 (by first | exact mo0 hM_q | exact mo5 hM_q) (by rfl) ?_
      refine go_mpf13 (pc := 30) hM_q dX8_blames_30 (fun σ hM_q hf9 => ?_)
      have hf_q := hf_q.tr hf9
      exact go_vretV (pc := 33) rfl dX8_blames_33 (Nat.le_of_ble_eq_true rfl) (Nat.le_of_ble_eq_true rfl) (by
  have e9_q : failP N c_q s = psm s.l (if kd s.l = 1 then 1 else c_q) (tpl N s.l) s.st := if_pos h_4
  have nz : (if kd s.l = 1 then 1 else c_q) ≠ 0 := by split; decide; exact hc_q
  refine ⟨rfl, _, hM_q, ?_, fun j hj_q => by rw [pk_un (by omega), tF j (by omega)], hf_q⟩
  rw [e9_q]
  exact ⟨by rw [pk_un (by decide), tF 7 (by decide)]; exact hS_q.1, by rw [pk_un (by decide)]; exact t12, fun e_q => absurd e_q nz, fun _ => by rw [pk_us, tF 9 (by decide)]; exact tok_pl hT_q⟩)
  · exact go_vretV (pc := 7) rfl dX8_blames_7 (Nat.le_of_ble_eq_true rfl) (Nat.le_of_ble_eq_true rfl) ⟨rfl, F, hM_q, by rw [failP_bad h_4]; exact hS_q, fun _ _ => rfl, fr.rf⟩
theorem sp_isSign {Γ : gam} {z0 : sto} {n k r_q N : Nat} {F K : row} {A : Nat → row} {Nm : Nat → Int64} {s : ps} (hM_q : MoAt Γ z0 r_q F K A Nm) (hS_q : rfR (A 5) N F s) {c_q : Int32} (hc_q : isSg c_q = true) : Sp Γ (rmk k 0 0) uX8_isSign [.ref r_q, .int c_q] z0 n (qP (bI (s.bad = 0 ∧ kd s.l = c_q)) z0 n) := by
  refine sp_intro [some (.ref r_q), some (.int c_q)] (by decide +kernel) rfl (Nat.le_of_ble_eq_true rfl) rfl ?_
  refine go_aload_n (pc := 0) dX8_isSign_0 rfl ?_
  refine go_getf (pc := 1) f_X8_99 dX8_isSign_1 (by first | exact mo0 hM_q | exact mo5 hM_q) (by rfl) ?_
  rw [hS_q.2.1]
  refine go_if_ne (tgt := 19) (pc := 4) dX8_isSign_4 (by decide) (fun h_4 => ?_) (fun h_4 => ?_)
  · refine go_iconst (v := 0) (pc := 19) dX8_isSign_19 (by decide) ?_
    exact go_zretP (pc := 20) rfl (by first | rfl | exact nb_bI) dX8_isSign_20 (Nat.le_of_ble_eq_true rfl) (Nat.le_of_ble_eq_true rfl) (by
  first
    | (have g4_q : ¬ s.bad = 0 := h_4
       exact (bI_f (fun e_q => g4_q e_q.1)).symm)
    | (have g12 : ¬ F 10 = c_q := h_12
       exact (bI_f (fun e_q => g12 ((tok_sg (hS_q.2.2.1 e_q.1) hc_q).mpr e_q.2))).symm)
    | (have g4_q : s.bad = 0 := Decidable.not_not.mp h_4
       have g12 : F 10 = c_q := h_12
       exact (bI_t ⟨g4_q, (tok_sg (hS_q.2.2.1 g4_q) hc_q).mp g12⟩).symm)
    | (have g4_q : s.bad = 0 := h_4
       have g12 : F 10 = c_q := Decidable.not_not.mp h_12
       exact (bI_t ⟨g4_q, (tok_sg (hS_q.2.2.1 g4_q) hc_q).mp g12⟩).symm)
    | (have g4_q : s.bad = 0 := h_4
       have g12 : F 10 = c_q := h_12
       exact (bI_t ⟨g4_q, (tok_sg (hS_q.2.2.1 g4_q) hc_q).mp g12⟩).symm))
  · refine go_aload_n (pc := 7) dX8_isSign_7 rfl ?_
    refine go_getf (pc := 8) f_X8_79 dX8_isSign_8 (by first | exact mo0 hM_q | exact mo5 hM_q) (by rfl) ?_
    refine go_iload_n (pc := 11) dX8_isSign_11 rfl ?_
    refine go_icmp_ne (tgt := 19) (pc := 12) dX8_isSign_12 (by decide) (fun h_12 => ?_) (fun h_12 => ?_)
    · refine go_iconst (v := 0) (pc := 19) dX8_isSign_19 (by decide) ?_
      exact go_zretP (pc := 20) rfl (by first | rfl | exact nb_bI) dX8_isSign_20 (Nat.le_of_ble_eq_true rfl) (Nat.le_of_ble_eq_true rfl) (by
  first
    | (have g4_q : ¬ s.bad = 0 := h_4
       exact (bI_f (fun e_q => g4_q e_q.1)).symm)
    | (have g12 : ¬ F 10 = c_q := h_12
       exact (bI_f (fun e_q => g12 ((tok_sg (hS_q.2.2.1 e_q.1) hc_q).mpr e_q.2))).symm)
    | (have g4_q : s.bad = 0 := Decidable.not_not.mp h_4
       have g12 : F 10 = c_q := h_12
       exact (bI_t ⟨g4_q, (tok_sg (hS_q.2.2.1 g4_q) hc_q).mp g12⟩).symm)
    | (have g4_q : s.bad = 0 := h_4
       have g12 : F 10 = c_q := Decidable.not_not.mp h_12
       exact (bI_t ⟨g4_q, (tok_sg (hS_q.2.2.1 g4_q) hc_q).mp g12⟩).symm)
    | (have g4_q : s.bad = 0 := h_4
       have g12 : F 10 = c_q := h_12
       exact (bI_t ⟨g4_q, (tok_sg (hS_q.2.2.1 g4_q) hc_q).mp g12⟩).symm))
    · refine go_iconst (v := 1) (pc := 15) dX8_isSign_15 (by decide) ?_
      refine go_goto (tgt := 20) (pc := 16) dX8_isSign_16 (by decide) ?_
      exact go_zretP (pc := 20) rfl (by first | rfl | exact nb_bI) dX8_isSign_20 (Nat.le_of_ble_eq_true rfl) (Nat.le_of_ble_eq_true rfl) (by
  first
    | (have g4_q : ¬ s.bad = 0 := h_4
       exact (bI_f (fun e_q => g4_q e_q.1)).symm)
    | (have g12 : ¬ F 10 = c_q := h_12
       exact (bI_f (fun e_q => g12 ((tok_sg (hS_q.2.2.1 e_q.1) hc_q).mpr e_q.2))).symm)
    | (have g4_q : s.bad = 0 := Decidable.not_not.mp h_4
       have g12 : F 10 = c_q := h_12
       exact (bI_t ⟨g4_q, (tok_sg (hS_q.2.2.1 g4_q) hc_q).mp g12⟩).symm)
    | (have g4_q : s.bad = 0 := h_4
       have g12 : F 10 = c_q := Decidable.not_not.mp h_12
       exact (bI_t ⟨g4_q, (tok_sg (hS_q.2.2.1 g4_q) hc_q).mp g12⟩).symm)
    | (have g4_q : s.bad = 0 := h_4
       have g12 : F 10 = c_q := h_12
       exact (bI_t ⟨g4_q, (tok_sg (hS_q.2.2.1 g4_q) hc_q).mp g12⟩).symm))
theorem tok_next {f_q F : row} {N : Nat} {L : List tok} (h_q : tokF f_q N F L) (hl : L ≠ []) : ∃ p, p ≤ N ∧ F 8 = nI p ∧ tkn f_q N p = L.tail := by
  match L, h_q with
  | [], h_q => exact absurd rfl hl
  | x_q :: L', h_q =>
    obtain ⟨-, p, g1_q, -, g3_q, g4_q, -⟩ := h_q
    exact ⟨p, g1_q, g3_q, g4_q⟩
theorem sp_rdN {Γ : gam} {z0 : sto} {n k r_q N : Nat} {F K : row} {A : Nat → row} {Nm : Nat → Int64} {s : ps} (hM_q : MoAt Γ z0 r_q F K A Nm) (hS_q : rfR (A 5) N F s) (hN_q : N ≤ 900) (hb_q : s.bad = 0) (hl : s.l ≠ []) (hk : 1 ≤ k) : Sp Γ (rmk k 0 0) uX8_readsOn [.ref r_q] z0 n (qV fun σ' n' => n' = n ∧ ∃ F' : row, MoAt Γ σ' r_q F' K A Nm ∧ rfR (A 5) N F' (nextP s) ∧ (∀ j, (j < 8 ∨ 13 < j) → F' j = F j) ∧ fr r_q (r_q + 16) z0 σ') := by
  obtain ⟨p1, np1, np2, np3⟩ := tok_next (hS_q.2.2.1 hb_q) hl
  refine sp_mono (sp_readsOn hM_q hN_q hS_q.1 np2 np1 hk) (fun o_q σ n h_q => ?_)
  obtain ⟨rfl, rfl, F1, h1_q, h2_q, h3_q, h4_q⟩ := h_q
  refine ⟨rfl, rfl, F1, h1_q, ⟨(h3_q 7 (by omega)).trans hS_q.1, (h3_q 12 (by omega)).trans hS_q.2.1, fun _ => ?_, fun e_q => absurd hb_q e_q⟩, fun j hj_q => h3_q j (by omega), h4_q⟩
  rw [np3] at h2_q
  exact h2_q
theorem failP_ne {N : Nat} {c_q : Int32} {s : ps} (hc_q : c_q ≠ 0) (h_q : s.bad = 0) : (failP N c_q s).bad ≠ 0 := by
  have e_q : failP N c_q s = psm s.l (if kd s.l = 1 then 1 else c_q) (tpl N s.l) s.st := if_pos h_q
  rw [e_q]
  show (if kd s.l = 1 then 1 else c_q) ≠ 0
  split
  · decide
  · exact hc_q
theorem kd_ne {L : List tok} {c_q : Int32} (h_q : kd L = c_q) (hc_q : c_q ≠ 0) : L ≠ [] := fun e_q => by
  subst e_q
  exact hc_q h_q.symm
theorem sp_mustSign {Γ : gam} {z0 : sto} {n k r_q N : Nat} {F K : row} {A : Nat → row} {Nm : Nat → Int64} {s : ps} (hM_q : MoAt Γ z0 r_q F K A Nm) (hS_q : rfR (A 5) N F s) (hN_q : N ≤ 900) {c_q : Int32} (hc_q : isSg c_q = true) (hk : 2 ≤ k) : Sp Γ (rmk k 0 0) uX8_mustSign [.ref r_q, .int c_q] z0 n (qV fun σ' n' => n' = n ∧ ∃ F' : row, MoAt Γ σ' r_q F' K A Nm ∧ rfR (A 5) N F' (needP N c_q s) ∧ (∀ j, (j < 8 ∨ 13 < j) → F' j = F j) ∧ fr r_q (r_q + 16) z0 σ') := by
  refine sp_intro [some (.ref r_q), some (.int c_q)] (by decide +kernel) rfl (Nat.le_of_ble_eq_true rfl) rfl ?_
  have hc0 : c_q ≠ 0 := i_lt (sg_ge hc_q) (by decide)
  by_cases hb_q : s.bad = 0
  · have hT_q := hS_q.2.2.1 hb_q
    by_cases hkd : kd s.l = c_q
    · refine go_aload_n (pc := 0) dX8_mustSign_0 rfl ?_
      refine go_getf (pc := 1) f_X8_79 dX8_mustSign_1 (by first | exact mo0 hM_q | exact mo5 hM_q) (by rfl) ?_
      refine go_iload_n (pc := 4) dX8_mustSign_4 rfl ?_
      refine go_icmp_eq (tgt := 13) (pc := 5) dX8_mustSign_5 (by decide) (fun h_5 => ?_) (fun h_5 => by exfalso; exact h_5 ((tok_sg hT_q hc_q).mpr hkd))
      refine go_aload_n (pc := 13) dX8_mustSign_13 rfl ?_
      refine go_getf (pc := 14) f_X8_99 dX8_mustSign_14 (by first | exact mo0 hM_q | exact mo5 hM_q) (by rfl) ?_
      rw [hS_q.2.1]
      refine go_if_ne (tgt := 24) (pc := 17) dX8_mustSign_17 (by decide) (fun h_17 => by exfalso; exact h_17 hb_q) (fun h_17 => ?_)
      refine go_aload_n (pc := 20) dX8_mustSign_20 rfl ?_
      refine go_V0V (pc := 21) v_X8_118 rfl rfl (rcv_of (ci := 8) (by first | exact mo0 hM_q | exact mo5 hM_q) rfl) dX8_mustSign_21 (sp_rdN (k := k - 1) hM_q hS_q hN_q hb_q (kd_ne hkd hc0) (by omega)) (fun σ n h_q => ?_)
      obtain ⟨rfl, F2, hM_q, hS_q, hF2, hf2⟩ := h_q
      exact go_vretV (pc := 24) rfl dX8_mustSign_24 (Nat.le_of_ble_eq_true rfl) (Nat.le_of_ble_eq_true rfl) (by rw [needP, if_pos ⟨hb_q, hkd⟩]; exact ⟨rfl, F2, hM_q, hS_q, hF2, hf2⟩)
    · refine go_aload_n (pc := 0) dX8_mustSign_0 rfl ?_
      refine go_getf (pc := 1) f_X8_79 dX8_mustSign_1 (by first | exact mo0 hM_q | exact mo5 hM_q) (by rfl) ?_
      refine go_iload_n (pc := 4) dX8_mustSign_4 rfl ?_
      refine go_icmp_eq (tgt := 13) (pc := 5) dX8_mustSign_5 (by decide) (fun h_5 => by exfalso; exact hkd ((tok_sg hT_q hc_q).mp h_5)) (fun h_5 => ?_)
      refine go_aload_n (pc := 8) dX8_mustSign_8 rfl ?_
      refine go_iconst (v := 2) (pc := 9) dX8_mustSign_9 (by decide) ?_
      refine go_V1V (pc := 10) v_X8_121 rfl rfl (rcv_of (ci := 8) (by first | exact mo0 hM_q | exact mo5 hM_q) rfl) dX8_mustSign_10 (sp_blames (k := k - 1) hM_q hS_q (c_q := 2) (by decide)) (fun σ n h_q => ?_)
      obtain ⟨rfl, F1, hM_q, hS_q, hF1, hf1⟩ := h_q
      refine go_aload_n (pc := 13) dX8_mustSign_13 rfl ?_
      refine go_getf (pc := 14) f_X8_99 dX8_mustSign_14 (by first | exact mo0 hM_q | exact mo5 hM_q) (by rfl) ?_
      rw [hS_q.2.1]
      refine go_if_ne (tgt := 24) (pc := 17) dX8_mustSign_17 (by decide) (fun h_17 => ?_) (fun h_17 => by exfalso; exact failP_ne (by decide) hb_q h_17)
      exact go_vretV (pc := 24) rfl dX8_mustSign_24 (Nat.le_of_ble_eq_true rfl) (Nat.le_of_ble_eq_true rfl) (by rw [needP, if_neg (fun e_q => hkd e_q.2)]; exact ⟨rfl, F1, hM_q, hS_q, hF1, hf1⟩)
  · refine go_aload_n (pc := 0) dX8_mustSign_0 rfl ?_
    refine go_getf (pc := 1) f_X8_79 dX8_mustSign_1 (by first | exact mo0 hM_q | exact mo5 hM_q) (by rfl) ?_
    refine go_iload_n (pc := 4) dX8_mustSign_4 rfl ?_
    refine go_icmp_eq (tgt := 13) (pc := 5) dX8_mustSign_5 (by decide) (fun h_5 => ?_) (fun h_5 => ?_)
    · refine go_aload_n (pc := 13) dX8_mustSign_13 rfl ?_
      refine go_getf (pc := 14) f_X8_99 dX8_mustSign_14 (by first | exact mo0 hM_q | exact mo5 hM_q) (by rfl) ?_
      rw [hS_q.2.1]
      refine go_if_ne (tgt := 24) (pc := 17) dX8_mustSign_17 (by decide) (fun h_17 => ?_) (fun h_17 => by exfalso; first | exact hb_q h_17 | (rw [failP_bad hb_q] at h_17; exact hb_q h_17))
      exact go_vretV (pc := 24) rfl dX8_mustSign_24 (Nat.le_of_ble_eq_true rfl) (Nat.le_of_ble_eq_true rfl) (by rw [needP, if_neg (fun e_q => hb_q e_q.1)]; first | exact ⟨rfl, F1, hM_q, hS_q, hF1, hf1⟩ | (rw [failP_bad hb_q]; exact ⟨rfl, F, hM_q, hS_q, fun _ _ => rfl, fr.rf⟩))
    · refine go_aload_n (pc := 8) dX8_mustSign_8 rfl ?_
      refine go_iconst (v := 2) (pc := 9) dX8_mustSign_9 (by decide) ?_
      refine go_V1V (pc := 10) v_X8_121 rfl rfl (rcv_of (ci := 8) (by first | exact mo0 hM_q | exact mo5 hM_q) rfl) dX8_mustSign_10 (sp_blames (k := k - 1) hM_q hS_q (c_q := 2) (by decide)) (fun σ n h_q => ?_)
      obtain ⟨rfl, F1, hM_q, hS_q, hF1, hf1⟩ := h_q
      refine go_aload_n (pc := 13) dX8_mustSign_13 rfl ?_
      refine go_getf (pc := 14) f_X8_99 dX8_mustSign_14 (by first | exact mo0 hM_q | exact mo5 hM_q) (by rfl) ?_
      rw [hS_q.2.1]
      refine go_if_ne (tgt := 24) (pc := 17) dX8_mustSign_17 (by decide) (fun h_17 => ?_) (fun h_17 => by exfalso; first | exact hb_q h_17 | (rw [failP_bad hb_q] at h_17; exact hb_q h_17))
      exact go_vretV (pc := 24) rfl dX8_mustSign_24 (Nat.le_of_ble_eq_true rfl) (Nat.le_of_ble_eq_true rfl) (by rw [needP, if_neg (fun e_q => hb_q e_q.1)]; first | exact ⟨rfl, F1, hM_q, hS_q, hF1, hf1⟩ | (rw [failP_bad hb_q]; exact ⟨rfl, F, hM_q, hS_q, fun _ _ => rfl, fr.rf⟩))
theorem sp_number {Γ : gam} {z0 : sto} {n k r_q N : Nat} {F K : row} {A : Nat → row} {Nm : Nat → Int64} {s : ps} (hM_q : MoAt Γ z0 r_q F K A Nm) (hS_q : rfR (A 5) N F s) (hN_q : N ≤ 900) (lo hi_q : Int32) (hk : 2 ≤ k) : Sp Γ (rmk k 0 0) uX8_number [.ref r_q, .int lo, .int hi_q] z0 n (qI fun v_q σ' n' => v_q = (numP N lo hi_q s).1 ∧ n' = n ∧ ∃ F' : row, MoAt Γ σ' r_q F' K A Nm ∧ rfR (A 5) N F' ((numP N lo hi_q s).2) ∧ (∀ j, (j < 8 ∨ 13 < j) → F' j = F j) ∧ fr r_q (r_q + 16) z0 σ') := by
  refine sp_intro [some (.ref r_q), some (.int lo), some (.int hi_q), none] (by decide +kernel) rfl (Nat.le_of_ble_eq_true rfl) rfl ?_
  by_cases hb_q : s.bad = 0
  · have hT_q := hS_q.2.2.1 hb_q
    by_cases hkd : kd s.l = 2
    · have hv_q := tok_val hT_q hkd
      by_cases hw_q : lo ≤ tvl s.l ∧ tvl s.l ≤ hi_q
      · refine go_aload_n (pc := 0) dX8_number_0 rfl ?_
        refine go_getf (pc := 1) f_X8_79 dX8_number_1 (by first | exact mo0 hM_q | exact mo5 hM_q) (by rfl) ?_
        refine go_iconst (v := 2) (pc := 4) dX8_number_4 (by decide) ?_
        refine go_icmp_eq (tgt := 16) (pc := 5) dX8_number_5 (by decide) (fun h_5 => ?_) (fun h_5 => by exfalso; exact h_5 ((tok_num hT_q).mpr hkd))
        refine go_aload_n (pc := 16) dX8_number_16 rfl ?_
        refine go_getf (pc := 17) f_X8_93 dX8_number_17 (by first | exact mo0 hM_q | exact mo5 hM_q) (by rfl) ?_
        refine go_i2l (pc := 20) dX8_number_20 ?_
        refine go_iload_n (pc := 21) dX8_number_21 rfl ?_
        refine go_i2l (pc := 22) dX8_number_22 ?_
        refine go_iload_n (pc := 23) dX8_number_23 rfl ?_
        refine go_i2l (pc := 24) dX8_number_24 ?_
        refine go_S3P (pc := 25) s_X8_125 rfl rfl dX8_number_25 (sp_within (k := k - 1) _ _ _) ?_
        refine go_if_ne (tgt := 36) (pc := 28) dX8_number_28 (by decide) (fun h_28 => ?_) (fun h_28 => by exfalso; exact (bI_0.mp h_28) (by rw [hv_q]; exact ⟨Int64.le_iff_toInt_le.mpr (by rw [Int32.toInt_toInt64, Int32.toInt_toInt64]; exact Int32.le_iff_toInt_le.mp hw_q.1), Int64.le_iff_toInt_le.mpr (by rw [Int32.toInt_toInt64, Int32.toInt_toInt64]; exact Int32.le_iff_toInt_le.mp hw_q.2)⟩))
        refine go_aload_n (pc := 36) dX8_number_36 rfl ?_
        refine go_getf (pc := 37) f_X8_93 dX8_number_37 (by first | exact mo0 hM_q | exact mo5 hM_q) (by rfl) ?_
        refine go_istore_n (lw := [_, _, _, _]) (pc := 40) dX8_number_40 (by decide) rfl ?_
        refine go_aload_n (pc := 41) dX8_number_41 rfl ?_
        refine go_getf (pc := 42) f_X8_99 dX8_number_42 (by first | exact mo0 hM_q | exact mo5 hM_q) (by rfl) ?_
        rw [hS_q.2.1]
        refine go_if_ne (tgt := 52) (pc := 45) dX8_number_45 (by decide) (fun h_45 => by exfalso; exact h_45 hb_q) (fun h_45 => ?_)
        refine go_aload_n (pc := 48) dX8_number_48 rfl ?_
        refine go_V0V (pc := 49) v_X8_118 rfl rfl (rcv_of (ci := 8) (by first | exact mo0 hM_q | exact mo5 hM_q) rfl) dX8_number_49 (sp_rdN (k := k - 1) hM_q hS_q hN_q hb_q (kd_ne hkd (by decide)) (by omega)) (fun σ n h_q => ?_)
        obtain ⟨rfl, F2, hM_q, hS_q, hF2, hf2⟩ := h_q
        refine go_aload_n (pc := 52) dX8_number_52 rfl ?_
        refine go_getf (pc := 53) f_X8_99 dX8_number_53 (by first | exact mo0 hM_q | exact mo5 hM_q) (by rfl) ?_
        rw [hS_q.2.1]
        refine go_if_ne (tgt := 63) (pc := 56) dX8_number_56 (by decide) (fun h_56 => by exfalso; exact h_56 hb_q) (fun h_56 => ?_)
        refine go_iload_n (pc := 59) dX8_number_59 rfl ?_
        refine go_goto (tgt := 64) (pc := 60) dX8_number_60 (by decide) ?_
        exact go_iretI (pc := 64) rfl dX8_number_64 (Nat.le_of_ble_eq_true rfl) (Nat.le_of_ble_eq_true rfl) (by rw [numP, if_pos ⟨hb_q, hkd⟩, if_pos hw_q]; exact ⟨hv_q, rfl, F2, hM_q, hS_q, hF2, hf2⟩)
      · refine go_aload_n (pc := 0) dX8_number_0 rfl ?_
        refine go_getf (pc := 1) f_X8_79 dX8_number_1 (by first | exact mo0 hM_q | exact mo5 hM_q) (by rfl) ?_
        refine go_iconst (v := 2) (pc := 4) dX8_number_4 (by decide) ?_
        refine go_icmp_eq (tgt := 16) (pc := 5) dX8_number_5 (by decide) (fun h_5 => ?_) (fun h_5 => by exfalso; exact h_5 ((tok_num hT_q).mpr hkd))
        refine go_aload_n (pc := 16) dX8_number_16 rfl ?_
        refine go_getf (pc := 17) f_X8_93 dX8_number_17 (by first | exact mo0 hM_q | exact mo5 hM_q) (by rfl) ?_
        refine go_i2l (pc := 20) dX8_number_20 ?_
        refine go_iload_n (pc := 21) dX8_number_21 rfl ?_
        refine go_i2l (pc := 22) dX8_number_22 ?_
        refine go_iload_n (pc := 23) dX8_number_23 rfl ?_
        refine go_i2l (pc := 24) dX8_number_24 ?_
        refine go_S3P (pc := 25) s_X8_125 rfl rfl dX8_number_25 (sp_within (k := k - 1) _ _ _) ?_
        refine go_if_ne (tgt := 36) (pc := 28) dX8_number_28 (by decide) (fun h_28 => by exfalso; exact h_28 (bI_0.mpr (fun e_q => hw_q ⟨Int32.le_iff_toInt_le.mpr (by have g_q := Int64.le_iff_toInt_le.mp e_q.1; rw [Int32.toInt_toInt64, Int32.toInt_toInt64, hv_q] at g_q; exact g_q), Int32.le_iff_toInt_le.mpr (by have g_q := Int64.le_iff_toInt_le.mp e_q.2; rw [Int32.toInt_toInt64, Int32.toInt_toInt64, hv_q] at g_q; exact g_q)⟩))) (fun h_28 => ?_)
        refine go_aload_n (pc := 31) dX8_number_31 rfl ?_
        refine go_iconst (v := 3) (pc := 32) dX8_number_32 (by decide) ?_
        refine go_V1V (pc := 33) v_X8_121 rfl rfl (rcv_of (ci := 8) (by first | exact mo0 hM_q | exact mo5 hM_q) rfl) dX8_number_33 (sp_blames (k := k - 1) hM_q hS_q (c_q := 3) (by decide)) (fun σ n h_q => ?_)
        obtain ⟨rfl, F1, hM_q, hS_q, hF1, hf1⟩ := h_q
        refine go_aload_n (pc := 36) dX8_number_36 rfl ?_
        refine go_getf (pc := 37) f_X8_93 dX8_number_37 (by first | exact mo0 hM_q | exact mo5 hM_q) (by rfl) ?_
        refine go_istore_n (lw := [_, _, _, _]) (pc := 40) dX8_number_40 (by decide) rfl ?_
        refine go_aload_n (pc := 41) dX8_number_41 rfl ?_
        refine go_getf (pc := 42) f_X8_99 dX8_number_42 (by first | exact mo0 hM_q | exact mo5 hM_q) (by rfl) ?_
        rw [hS_q.2.1]
        refine go_if_ne (tgt := 52) (pc := 45) dX8_number_45 (by decide) (fun h_45 => ?_) (fun h_45 => by exfalso; exact failP_ne (by decide) hb_q h_45)
        refine go_aload_n (pc := 52) dX8_number_52 rfl ?_
        refine go_getf (pc := 53) f_X8_99 dX8_number_53 (by first | exact mo0 hM_q | exact mo5 hM_q) (by rfl) ?_
        rw [hS_q.2.1]
        refine go_if_ne (tgt := 63) (pc := 56) dX8_number_56 (by decide) (fun h_56 => ?_) (fun h_56 => by exfalso; exact failP_ne (by decide) hb_q h_56)
        refine go_iload_n (pc := 63) dX8_number_63 rfl ?_
        exact go_iretI (pc := 64) rfl dX8_number_64 (Nat.le_of_ble_eq_true rfl) (Nat.le_of_ble_eq_true rfl) (by rw [numP, if_pos ⟨hb_q, hkd⟩, if_neg hw_q]; exact ⟨rfl, rfl, F1, hM_q, hS_q, hF1, hf1⟩)
    · refine go_aload_n (pc := 0) dX8_number_0 rfl ?_
      refine go_getf (pc := 1) f_X8_79 dX8_number_1 (by first | exact mo0 hM_q | exact mo5 hM_q) (by rfl) ?_
      refine go_iconst (v := 2) (pc := 4) dX8_number_4 (by decide) ?_
      refine go_icmp_eq (tgt := 16) (pc := 5) dX8_number_5 (by decide) (fun h_5 => by exfalso; exact hkd ((tok_num hT_q).mp h_5)) (fun h_5 => ?_)
      refine go_aload_n (pc := 8) dX8_number_8 rfl ?_
      refine go_iconst (v := 2) (pc := 9) dX8_number_9 (by decide) ?_
      refine go_V1V (pc := 10) v_X8_121 rfl rfl (rcv_of (ci := 8) (by first | exact mo0 hM_q | exact mo5 hM_q) rfl) dX8_number_10 (sp_blames (k := k - 1) hM_q hS_q (c_q := 2) (by decide)) (fun σ n h_q => ?_)
      obtain ⟨rfl, F1, hM_q, hS_q, hF1, hf1⟩ := h_q
      refine go_goto (tgt := 36) (pc := 13) dX8_number_13 (by decide) ?_
      refine go_aload_n (pc := 36) dX8_number_36 rfl ?_
      refine go_getf (pc := 37) f_X8_93 dX8_number_37 (by first | exact mo0 hM_q | exact mo5 hM_q) (by rfl) ?_
      refine go_istore_n (lw := [_, _, _, _]) (pc := 40) dX8_number_40 (by decide) rfl ?_
      refine go_aload_n (pc := 41) dX8_number_41 rfl ?_
      refine go_getf (pc := 42) f_X8_99 dX8_number_42 (by first | exact mo0 hM_q | exact mo5 hM_q) (by rfl) ?_
      rw [hS_q.2.1]
      refine go_if_ne (tgt := 52) (pc := 45) dX8_number_45 (by decide) (fun h_45 => ?_) (fun h_45 => by exfalso; exact failP_ne (by decide) hb_q h_45)
      refine go_aload_n (pc := 52) dX8_number_52 rfl ?_
      refine go_getf (pc := 53) f_X8_99 dX8_number_53 (by first | exact mo0 hM_q | exact mo5 hM_q) (by rfl) ?_
      rw [hS_q.2.1]
      refine go_if_ne (tgt := 63) (pc := 56) dX8_number_56 (by decide) (fun h_56 => ?_) (fun h_56 => by exfalso; exact failP_ne (by decide) hb_q h_56)
      refine go_iload_n (pc := 63) dX8_number_63 rfl ?_
      exact go_iretI (pc := 64) rfl dX8_number_64 (Nat.le_of_ble_eq_true rfl) (Nat.le_of_ble_eq_true rfl) (by rw [numP, if_neg (fun e_q => hkd e_q.2)]; exact ⟨rfl, rfl, F1, hM_q, hS_q, hF1, hf1⟩)
  · refine go_aload_n (pc := 0) dX8_number_0 rfl ?_
    refine go_getf (pc := 1) f_X8_79 dX8_number_1 (by first | exact mo0 hM_q | exact mo5 hM_q) (by rfl) ?_
    refine go_iconst (v := 2) (pc := 4) dX8_number_4 (by decide) ?_
    refine go_icmp_eq (tgt := 16) (pc := 5) dX8_number_5 (by decide) (fun h_5 => ?_) (fun h_5 => ?_)
    · refine go_aload_n (pc := 16) dX8_number_16 rfl ?_
      refine go_getf (pc := 17) f_X8_93 dX8_number_17 (by first | exact mo0 hM_q | exact mo5 hM_q) (by rfl) ?_
      refine go_i2l (pc := 20) dX8_number_20 ?_
      refine go_iload_n (pc := 21) dX8_number_21 rfl ?_
      refine go_i2l (pc := 22) dX8_number_22 ?_
      refine go_iload_n (pc := 23) dX8_number_23 rfl ?_
      refine go_i2l (pc := 24) dX8_number_24 ?_
      refine go_S3P (pc := 25) s_X8_125 rfl rfl dX8_number_25 (sp_within (k := k - 1) _ _ _) ?_
      refine go_if_ne (tgt := 36) (pc := 28) dX8_number_28 (by decide) (fun h_28 => ?_) (fun h_28 => ?_)
      · refine go_aload_n (pc := 36) dX8_number_36 rfl ?_
        refine go_getf (pc := 37) f_X8_93 dX8_number_37 (by first | exact mo0 hM_q | exact mo5 hM_q) (by rfl) ?_
        refine go_istore_n (lw := [_, _, _, _]) (pc := 40) dX8_number_40 (by decide) rfl ?_
        refine go_aload_n (pc := 41) dX8_number_41 rfl ?_
        refine go_getf (pc := 42) f_X8_99 dX8_number_42 (by first | exact mo0 hM_q | exact mo5 hM_q) (by rfl) ?_
        rw [hS_q.2.1]
        refine go_if_ne (tgt := 52) (pc := 45) dX8_number_45 (by decide) (fun h_45 => ?_) (fun h_45 => by exfalso; first | exact hb_q h_45 | (rw [failP_bad hb_q] at h_45; exact hb_q h_45))
        refine go_aload_n (pc := 52) dX8_number_52 rfl ?_
        refine go_getf (pc := 53) f_X8_99 dX8_number_53 (by first | exact mo0 hM_q | exact mo5 hM_q) (by rfl) ?_
        rw [hS_q.2.1]
        refine go_if_ne (tgt := 63) (pc := 56) dX8_number_56 (by decide) (fun h_56 => ?_) (fun h_56 => by exfalso; first | exact hb_q h_56 | (rw [failP_bad hb_q] at h_56; exact hb_q h_56))
        refine go_iload_n (pc := 63) dX8_number_63 rfl ?_
        exact go_iretI (pc := 64) rfl dX8_number_64 (Nat.le_of_ble_eq_true rfl) (Nat.le_of_ble_eq_true rfl) (by rw [numP, if_neg (fun e_q => hb_q e_q.1)]; first | (refine ⟨rfl, rfl, F1, hM_q, ?_, hF1, hf1⟩; rw [failP_bad hb_q] at hS_q ⊢; exact hS_q) | (refine ⟨rfl, rfl, F, hM_q, ?_, fun _ _ => rfl, fr.rf⟩; rw [failP_bad hb_q]; exact hS_q))
      · refine go_aload_n (pc := 31) dX8_number_31 rfl ?_
        refine go_iconst (v := 3) (pc := 32) dX8_number_32 (by decide) ?_
        refine go_V1V (pc := 33) v_X8_121 rfl rfl (rcv_of (ci := 8) (by first | exact mo0 hM_q | exact mo5 hM_q) rfl) dX8_number_33 (sp_blames (k := k - 1) hM_q hS_q (c_q := 3) (by decide)) (fun σ n h_q => ?_)
        obtain ⟨rfl, F1, hM_q, hS_q, hF1, hf1⟩ := h_q
        refine go_aload_n (pc := 36) dX8_number_36 rfl ?_
        refine go_getf (pc := 37) f_X8_93 dX8_number_37 (by first | exact mo0 hM_q | exact mo5 hM_q) (by rfl) ?_
        refine go_istore_n (lw := [_, _, _, _]) (pc := 40) dX8_number_40 (by decide) rfl ?_
        refine go_aload_n (pc := 41) dX8_number_41 rfl ?_
        refine go_getf (pc := 42) f_X8_99 dX8_number_42 (by first | exact mo0 hM_q | exact mo5 hM_q) (by rfl) ?_
        rw [hS_q.2.1]
        refine go_if_ne (tgt := 52) (pc := 45) dX8_number_45 (by decide) (fun h_45 => ?_) (fun h_45 => by exfalso; first | exact hb_q h_45 | (rw [failP_bad hb_q] at h_45; exact hb_q h_45))
        refine go_aload_n (pc := 52) dX8_number_52 rfl ?_
        refine go_getf (pc := 53) f_X8_99 dX8_number_53 (by first | exact mo0 hM_q | exact mo5 hM_q) (by rfl) ?_
        rw [hS_q.2.1]
        refine go_if_ne (tgt := 63) (pc := 56) dX8_number_56 (by decide) (fun h_56 => ?_) (fun h_56 => by exfalso; first | exact hb_q h_56 | (rw [failP_bad hb_q] at h_56; exact hb_q h_56))
        refine go_iload_n (pc := 63) dX8_number_63 rfl ?_
        exact go_iretI (pc := 64) rfl dX8_number_64 (Nat.le_of_ble_eq_true rfl) (Nat.le_of_ble_eq_true rfl) (by rw [numP, if_neg (fun e_q => hb_q e_q.1)]; first | (refine ⟨rfl, rfl, F1, hM_q, ?_, hF1, hf1⟩; rw [failP_bad hb_q] at hS_q ⊢; exact hS_q) | (refine ⟨rfl, rfl, F, hM_q, ?_, fun _ _ => rfl, fr.rf⟩; rw [failP_bad hb_q]; exact hS_q))
    · refine go_aload_n (pc := 8) dX8_number_8 rfl ?_
      refine go_iconst (v := 2) (pc := 9) dX8_number_9 (by decide) ?_
      refine go_V1V (pc := 10) v_X8_121 rfl rfl (rcv_of (ci := 8) (by first | exact mo0 hM_q | exact mo5 hM_q) rfl) dX8_number_10 (sp_blames (k := k - 1) hM_q hS_q (c_q := 2) (by decide)) (fun σ n h_q => ?_)
      obtain ⟨rfl, F1, hM_q, hS_q, hF1, hf1⟩ := h_q
      refine go_goto (tgt := 36) (pc := 13) dX8_number_13 (by decide) ?_
      refine go_aload_n (pc := 36) dX8_number_36 rfl ?_
      refine go_getf (pc := 37) f_X8_93 dX8_number_37 (by first | exact mo0 hM_q | exact mo5 hM_q) (by rfl) ?_
      refine go_istore_n (lw := [_, _, _, _]) (pc := 40) dX8_number_40 (by decide) rfl ?_
      refine go_aload_n (pc := 41) dX8_number_41 rfl ?_
      refine go_getf (pc := 42) f_X8_99 dX8_number_42 (by first | exact mo0 hM_q | exact mo5 hM_q) (by rfl) ?_
      rw [hS_q.2.1]
      refine go_if_ne (tgt := 52) (pc := 45) dX8_number_45 (by decide) (fun h_45 => ?_) (fun h_45 => by exfalso; first | exact hb_q h_45 | (rw [failP_bad hb_q] at h_45; exact hb_q h_45))
      refine go_aload_n (pc := 52) dX8_number_52 rfl ?_
      refine go_getf (pc := 53) f_X8_99 dX8_number_53 (by first | exact mo0 hM_q | exact mo5 hM_q) (by rfl) ?_
      rw [hS_q.2.1]
      refine go_if_ne (tgt := 63) (pc := 56) dX8_number_56 (by decide) (fun h_56 => ?_) (fun h_56 => by exfalso; first | exact hb_q h_56 | (rw [failP_bad hb_q] at h_56; exact hb_q h_56))
      refine go_iload_n (pc := 63) dX8_number_63 rfl ?_
      exact go_iretI (pc := 64) rfl dX8_number_64 (Nat.le_of_ble_eq_true rfl) (Nat.le_of_ble_eq_true rfl) (by rw [numP, if_neg (fun e_q => hb_q e_q.1)]; first | (refine ⟨rfl, rfl, F1, hM_q, ?_, hF1, hf1⟩; rw [failP_bad hb_q] at hS_q ⊢; exact hS_q) | (refine ⟨rfl, rfl, F, hM_q, ?_, fun _ _ => rfl, fr.rf⟩; rw [failP_bad hb_q]; exact hS_q))
