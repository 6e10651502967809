/-! ===== the reference: a line; a beach ===== -/
theorem sp_readLine {Γ : gam} {z0 : sto} {n k r_q N : Nat} {F K : row} {A : Nat → row} {Nm : Nat → Int64} {s : ps} (hM_q : MoAt Γ z0 r_q F K A Nm) (hS_q : rfR (A 5) N F s) (hN_q : N ≤ 900) {T : row} (hT_q : telR (A 2) T) (h16 : F 16 = 0) (hb_q : s.bad = 0) (hl : s.l ≠ []) (hL : s.l.length ≤ 900) (hT3 : T 3 = nI (kP T)) (h8_q : kP T ≤ 8) (hTw : ∀ w, 4 ≤ w → w ≤ 6 → (T w).toNatClampNeg ≤ 900) (hv_q : vOK s.l) (hk : 120 ≤ k) : Sp Γ (rmk k 0 0) uX8_readLine [.ref r_q] z0 n (qV fun σ' n' => n' = n ∧ RlP Γ z0 r_q N F K A Nm (lnP N (s, T)).1 (lnP N (s, T)).2 σ') := by
  have r0 : rk 0 = 6 := rfl
  have r5 : rk 5 = 3 := rfl
  have hno : ∀ c_q : Int32, kd s.l ≠ c_q → ¬ (s.bad = 0 ∧ kd s.l = c_q) := fun c_q hc_q x_q => hc_q x_q.2
  refine sp_intro [some (.ref r_q)] (by decide +kernel) rfl (Nat.le_of_ble_eq_true rfl) rfl ?_
  by_cases k5 : kd s.l = 5
  · have hG_q : ∀ j, (j < 8 ∨ 13 < j) → F j = F j := fun _ _ => rfl
    have hf_q : fr r_q (r_q + 16) z0 z0 := fr.rf
    refine go_aload_n (pc := 0) dX8_readLine_0 rfl ?_
    refine go_ldcS (si := 33) (pc := 1) rfl dX8_readLine_1 ?_
    refine go_V1P (pc := 3) v_X8_114 rfl rfl (rcv_of (ci := 8) (by first | exact mo0 hM_q | exact mo2 hM_q) rfl) dX8_readLine_3 (sp_isWord (k := k - 1) hM_q hS_q (si := 33) (q := ("FrontChairsModel", 213, "person")) (cw := 5) rfl (by decide) wk_5 (by decide) (by decide) hN_q (by omega)) ?_
    refine go_if_eq (tgt := 16) (pc := 6) dX8_readLine_6 (by decide) (fun h_6 => by exfalso; rw [bI_t ⟨hb_q, k5⟩] at h_6; exact absurd h_6 (by decide)) (fun h_6 => ?_)
    refine go_aload_n (pc := 9) dX8_readLine_9 rfl ?_
    refine go_V0V (pc := 10) v_X8_215 rfl rfl (rcv_of (ci := 8) (by first | exact mo0 hM_q | exact mo2 hM_q) rfl) dX8_readLine_10 (sp_readPerson (k := k - 1) hM_q hS_q hN_q hT_q h16 hb_q hl hT3 h8_q hv_q (by omega)) (fun σ n h_q => ?_)
    obtain ⟨rfl, F1, A1, hM_q, hS_q, hT1, h16, hF1, oA1, hf1⟩ := h_q
    rw [← oA1 5 (by decide)] at hS_q
    refine go_goto (tgt := 121) (pc := 13) dX8_readLine_13 (by decide) ?_
    refine go_aload_n (pc := 121) dX8_readLine_121 rfl ?_
    refine go_V0V (pc := 122) v_X8_228 rfl rfl (rcv_of (ci := 8) (by first | exact mo0 hM_q | exact mo2 hM_q) rfl) dX8_readLine_122 (sp_readStop (k := k - 1) hM_q hS_q hN_q (T := (perP N s T).2) hT1 h16 (by omega)) (fun σ n h_q => ?_)
    obtain ⟨rfl, hR_q⟩ := h_q
    have hR_q := RlP.tr (F := F) (A := A) (z0 := z0) hF1 oA1 hf1 hR_q
    exact go_vretV (pc := 125) rfl dX8_readLine_125 (Nat.le_of_ble_eq_true rfl) (Nat.le_of_ble_eq_true rfl) (by have e9_q : bodP N s T = perP N s T := if_pos k5; rw [lnP]; simp only [e9_q]; exact ⟨trivial, hR_q⟩)
  · by_cases k10 : kd s.l = 10
    · have hG_q : ∀ j, (j < 8 ∨ 13 < j) → F j = F j := fun _ _ => rfl
      have hf_q : fr r_q (r_q + 16) z0 z0 := fr.rf
      refine go_aload_n (pc := 0) dX8_readLine_0 rfl ?_
      refine go_ldcS (si := 33) (pc := 1) rfl dX8_readLine_1 ?_
      refine go_V1P (pc := 3) v_X8_114 rfl rfl (rcv_of (ci := 8) (by first | exact mo0 hM_q | exact mo2 hM_q) rfl) dX8_readLine_3 (sp_isWord (k := k - 1) hM_q hS_q (si := 33) (q := ("FrontChairsModel", 213, "person")) (cw := 5) rfl (by decide) wk_5 (by decide) (by decide) hN_q (by omega)) ?_
      refine go_if_eq (tgt := 16) (pc := 6) dX8_readLine_6 (by decide) (fun h_6 => ?_) (fun h_6 => by exfalso; exact h_6 (bI_f (hno _ k5)))
      refine go_aload_n (pc := 16) dX8_readLine_16 rfl ?_
      refine go_ldcS (si := 39) (pc := 17) rfl dX8_readLine_17 ?_
      refine go_V1I (pc := 19) v_X8_129 rfl rfl (rcv_of (ci := 8) (by first | exact mo0 hM_q | exact mo2 hM_q) rfl) dX8_readLine_19 (sp_took (k := k - 1) hM_q hS_q (si := 39) (q := ("FrontChairsModel", 177, "minute")) (cw := 10) rfl (by decide) wk_10 (by decide) (by decide) hN_q (by omega)) (fun v_19 σ n h_q => ?_)
      obtain ⟨rfl, rfl, F10, hM_q, hS_q, hF10, hf10⟩ := h_q
      rw [if_pos ⟨hb_q, k10⟩] at hS_q
      have hG_q : ∀ j, (j < 8 ∨ 13 < j) → F10 j = F j := fun j hj_q => (hF10 j hj_q).trans (hG_q j hj_q)
      have hf_q : fr r_q (r_q + 16) z0 σ := hf_q.tr hf10
      refine go_if_eq (tgt := 43) (pc := 22) dX8_readLine_22 (by decide) (fun h_22 => by exfalso; rw [bI_t ⟨hb_q, k10⟩] at h_22; exact absurd h_22 (by decide)) (fun h_22 => ?_)
      refine go_aload_n (pc := 25) dX8_readLine_25 rfl ?_
      refine go_getf (pc := 26) f_X8_13 dX8_readLine_26 (by first | exact mo0 hM_q | exact mo2 hM_q) (by rfl) ?_
      refine go_bipush (v := 33) (pc := 29) dX8_readLine_29 (by decide) ?_
      refine go_aload_n (pc := 31) dX8_readLine_31 rfl ?_
      refine go_iconst (v := 0) (pc := 32) dX8_readLine_32 (by decide) ?_
      refine go_sipush (v := 999) (pc := 33) dX8_readLine_33 (by decide) ?_
      refine go_V2I (pc := 36) v_X8_190 rfl rfl (rcv_of (ci := 8) (by first | exact mo0 hM_q | exact mo2 hM_q) rfl) dX8_readLine_36 (sp_number (k := k - 1) hM_q hS_q hN_q 0 999 (by omega)) (fun v_36 σ n h_q => ?_)
      obtain ⟨rfl, rfl, F1, hM_q, hS_q, hF1, hf1⟩ := h_q
      have hf_q : fr r_q (r_q + 16) z0 σ := hf_q.tr hf1
      refine go_mst2 (j := 33) (pc := 39) hM_q dX8_readLine_39 (by exact ⟨rfl, by decide⟩) (fun σ hM_q hf9 => ?_)
      have hf_q := hf_q.tr hf9
      obtain ⟨A1, hM_q, aA1, oA1⟩ : ∃ A1 : Nat → row, MoAt Γ σ r_q F1 K A1 Nm ∧ A1 2 = upd (A 2) (33) ((numP N 0 999 (nextP s)).1) ∧ ∀ i_q, i_q ≠ 2 → A1 i_q = A i_q := ⟨_, hM_q, by simp [updA], fun i_q hi_q => by simp [updA, hi_q]⟩
      rw [← oA1 5 (by decide)] at hS_q
      refine go_goto (tgt := 121) (pc := 40) dX8_readLine_40 (by decide) ?_
      refine go_aload_n (pc := 121) dX8_readLine_121 rfl ?_
      refine go_V0V (pc := 122) v_X8_228 rfl rfl (rcv_of (ci := 8) (by first | exact mo0 hM_q | exact mo2 hM_q) rfl) dX8_readLine_122 (sp_readStop (k := k - 1) hM_q hS_q hN_q (T := upd T 33 (numP N 0 999 (nextP s)).1) (fun _ => by rw [aA1]; exact hT_q.up (by omega) (by omega)) ((hF1 16 (by omega)).trans ((hG_q 16 (by omega)).trans h16)) (by omega)) (fun σ n h_q => ?_)
      obtain ⟨rfl, hR_q⟩ := h_q
      have hR_q := RlP.tr (F := F) (A := A) (z0 := z0) (fun j a1_q _ _ _ => (hF1 j a1_q).trans (hG_q j a1_q)) oA1 hf_q hR_q
      exact go_vretV (pc := 125) rfl dX8_readLine_125 (Nat.le_of_ble_eq_true rfl) (Nat.le_of_ble_eq_true rfl) (by have e9_q : bodP N s T = ((numP N 0 999 (nextP s)).2, upd T 33 (numP N 0 999 (nextP s)).1) := by { rw [bodP, if_neg k5, if_pos k10] }; rw [lnP]; simp only [e9_q]; exact ⟨trivial, hR_q⟩)
    · by_cases k7 : kd s.l = 7
      · have hG_q : ∀ j, (j < 8 ∨ 13 < j) → F j = F j := fun _ _ => rfl
        have hf_q : fr r_q (r_q + 16) z0 z0 := fr.rf
        refine go_aload_n (pc := 0) dX8_readLine_0 rfl ?_
        refine go_ldcS (si := 33) (pc := 1) rfl dX8_readLine_1 ?_
        refine go_V1P (pc := 3) v_X8_114 rfl rfl (rcv_of (ci := 8) (by first | exact mo0 hM_q | exact mo2 hM_q) rfl) dX8_readLine_3 (sp_isWord (k := k - 1) hM_q hS_q (si := 33) (q := ("FrontChairsModel", 213, "person")) (cw := 5) rfl (by decide) wk_5 (by decide) (by decide) hN_q (by omega)) ?_
        refine go_if_eq (tgt := 16) (pc := 6) dX8_readLine_6 (by decide) (fun h_6 => ?_) (fun h_6 => by exfalso; exact h_6 (bI_f (hno _ k5)))
        refine go_aload_n (pc := 16) dX8_readLine_16 rfl ?_
        refine go_ldcS (si := 39) (pc := 17) rfl dX8_readLine_17 ?_
        refine go_V1I (pc := 19) v_X8_129 rfl rfl (rcv_of (ci := 8) (by first | exact mo0 hM_q | exact mo2 hM_q) rfl) dX8_readLine_19 (sp_took (k := k - 1) hM_q hS_q (si := 39) (q := ("FrontChairsModel", 177, "minute")) (cw := 10) rfl (by decide) wk_10 (by decide) (by decide) hN_q (by omega)) (fun v_19 σ n h_q => ?_)
        obtain ⟨rfl, rfl, F10, hM_q, hS_q, hF10, hf10⟩ := h_q
        rw [if_neg (hno _ k10)] at hS_q
        have hG_q : ∀ j, (j < 8 ∨ 13 < j) → F10 j = F j := fun j hj_q => (hF10 j hj_q).trans (hG_q j hj_q)
        have hf_q : fr r_q (r_q + 16) z0 σ := hf_q.tr hf10
        refine go_if_eq (tgt := 43) (pc := 22) dX8_readLine_22 (by decide) (fun h_22 => ?_) (fun h_22 => by exfalso; exact h_22 (bI_f (hno _ k10)))
        refine go_aload_n (pc := 43) dX8_readLine_43 rfl ?_
        refine go_ldcS (si := 40) (pc := 44) rfl dX8_readLine_44 ?_
        refine go_V1I (pc := 46) v_X8_129 rfl rfl (rcv_of (ci := 8) (by first | exact mo0 hM_q | exact mo2 hM_q) rfl) dX8_readLine_46 (sp_took (k := k - 1) hM_q hS_q (si := 40) (q := ("FrontChairsModel", 218, "moves")) (cw := 7) rfl (by decide) wk_7 (by decide) (by decide) hN_q (by omega)) (fun v_46 σ n h_q => ?_)
        obtain ⟨rfl, rfl, F7, hM_q, hS_q, hF7, hf7⟩ := h_q
        rw [if_pos ⟨hb_q, k7⟩] at hS_q
        have hG_q : ∀ j, (j < 8 ∨ 13 < j) → F7 j = F j := fun j hj_q => (hF7 j hj_q).trans (hG_q j hj_q)
        have hf_q : fr r_q (r_q + 16) z0 σ := hf_q.tr hf7
        refine go_if_eq (tgt := 67) (pc := 49) dX8_readLine_49 (by decide) (fun h_49 => by exfalso; rw [bI_t ⟨hb_q, k7⟩] at h_49; exact absurd h_49 (by decide)) (fun h_49 => ?_)
        refine go_aload_n (pc := 52) dX8_readLine_52 rfl ?_
        refine go_iconst (v := 4) (pc := 53) dX8_readLine_53 (by decide) ?_
        refine go_sipush (v := 319) (pc := 54) dX8_readLine_54 (by decide) ?_
        refine go_V2V (pc := 57) v_X8_220 rfl rfl (rcv_of (ci := 8) (by first | exact mo0 hM_q | exact mo2 hM_q) rfl) dX8_readLine_57 (sp_beginsLaw (k := k - 1) hM_q hS_q hN_q (w := 4) (by omega) (by omega)) (fun σ n h_q => ?_)
        obtain ⟨rfl, F1, A1, hM_q, hS_q, h17, h18, aA1, oA1, hF1, hf1⟩ := h_q
        have hf_q : fr r_q (r_q + 16) z0 σ := hf_q.tr hf1
        have hS_q : rfR (A1 5) N F1 (clr (needP N 58 (nextP s))) := by
          rw [oA1 5 (by decide)]
          exact hS_q
        have h16 : F1 16 = 0 := (hF1 16 (by omega) (by decide) (by decide)).trans ((hG_q 16 (by omega)).trans h16)
        have hW : rsR F1 (A1 2) 4 0 (clr (needP N 58 (nextP s))) := ⟨h17, h18, h16, fun _ => ⟨(by rw [aA1, pk_us]; rfl), fun j hj_q => absurd (show j < 0 from hj_q) (by omega)⟩⟩
        have n1 := nx_lt k7 (by decide)
        have n2 := len_need (N := N) (c := 58) (s := nextP s)
        have n3 : tot (clr (needP N 58 (nextP s))) ≤ 899 := by
          show 0 + (needP N 58 (nextP s)).l.length ≤ 899
          omega
        have n4 := pP_tot (N := N) (w := 4) (d := 0) (s := (clr (needP N 58 (nextP s)))) (t := 0) (by omega)
        have n5 := st_tot n4
        refine go_aload_n (pc := 60) dX8_readLine_60 rfl ?_
        refine go_V0V (pc := 61) v_X8_165 rfl rfl (rcv_of (ci := 8) (by first | exact mo0 hM_q | exact mo2 hM_q) rfl) dX8_readLine_61 (ref_ok (t_q := 0) (w := 4) (by omega) hN_q (by decide) _ _ (k - 1) F1 A1 hM_q hS_q hW (by omega) (by omega)) (fun σ n h_q => ?_)
        obtain ⟨rfl, F2, A2, hM_q, hS_q, hW, hF2, hA2, hB2, hf2⟩ := h_q
        have hS_q : rfR (A2 5) N F2 (lwS N 4 0 s) := by
          rw [hA2 5 (by decide)]
          exact hS_q
        have h16 : F2 16 = 0 := hW.2.2.1
        have hT2 : (lwS N 4 0 s).bad = 0 → telR (A2 2) (layT 4 (lwS N 4 0 s).st T) := fun e_q => telR.lay hT_q (by omega) (by omega) (Nat.le_trans n5 (by omega)) hTw (hW.2.2.2 e_q).1 (hW.2.2.2 e_q).2 (fun j j1_q j2_q => by rw [hB2 j j1_q j2_q, aA1, pk_un j1_q])
        refine go_goto (tgt := 121) (pc := 64) dX8_readLine_64 (by decide) ?_
        refine go_aload_n (pc := 121) dX8_readLine_121 rfl ?_
        refine go_V0V (pc := 122) v_X8_228 rfl rfl (rcv_of (ci := 8) (by first | exact mo0 hM_q | exact mo2 hM_q) rfl) dX8_readLine_122 (sp_readStop (k := k - 1) hM_q hS_q hN_q (T := layT 4 (lwS N 4 0 s).st T) hT2 h16 (by omega)) (fun σ n h_q => ?_)
        obtain ⟨rfl, hR_q⟩ := h_q
        have hR_q := RlP.tr (F := F) (A := A) (z0 := z0) (fun j a1_q a2 a3 a4 => (hF2 j a1_q a2).trans ((hF1 j a1_q a3 a4).trans (hG_q j a1_q))) (fun i_q hi_q => (hA2 i_q hi_q).trans (oA1 i_q hi_q)) (hf_q.tr hf2) hR_q
        exact go_vretV (pc := 125) rfl dX8_readLine_125 (Nat.le_of_ble_eq_true rfl) (Nat.le_of_ble_eq_true rfl) (by have e9_q : bodP N s T = (lwS N 4 0 s, layT 4 (lwS N 4 0 s).st T) := by { rw [bodP, if_neg k5, if_neg k10, if_pos k7] }; rw [lnP]; simp only [e9_q]; exact ⟨trivial, hR_q⟩)
      · by_cases k8 : kd s.l = 8
        · have hG_q : ∀ j, (j < 8 ∨ 13 < j) → F j = F j := fun _ _ => rfl
          have hf_q : fr r_q (r_q + 16) z0 z0 := fr.rf
          refine go_aload_n (pc := 0) dX8_readLine_0 rfl ?_
          refine go_ldcS (si := 33) (pc := 1) rfl dX8_readLine_1 ?_
          refine go_V1P (pc := 3) v_X8_114 rfl rfl (rcv_of (ci := 8) (by first | exact mo0 hM_q | exact mo2 hM_q) rfl) dX8_readLine_3 (sp_isWord (k := k - 1) hM_q hS_q (si := 33) (q := ("FrontChairsModel", 213, "person")) (cw := 5) rfl (by decide) wk_5 (by decide) (by decide) hN_q (by omega)) ?_
          refine go_if_eq (tgt := 16) (pc := 6) dX8_readLine_6 (by decide) (fun h_6 => ?_) (fun h_6 => by exfalso; exact h_6 (bI_f (hno _ k5)))
          refine go_aload_n (pc := 16) dX8_readLine_16 rfl ?_
          refine go_ldcS (si := 39) (pc := 17) rfl dX8_readLine_17 ?_
          refine go_V1I (pc := 19) v_X8_129 rfl rfl (rcv_of (ci := 8) (by first | exact mo0 hM_q | exact mo2 hM_q) rfl) dX8_readLine_19 (sp_took (k := k - 1) hM_q hS_q (si := 39) (q := ("FrontChairsModel", 177, "minute")) (cw := 10) rfl (by decide) wk_10 (by decide) (by decide) hN_q (by omega)) (fun v_19 σ n h_q => ?_)
          obtain ⟨rfl, rfl, F10, hM_q, hS_q, hF10, hf10⟩ := h_q
          rw [if_neg (hno _ k10)] at hS_q
          have hG_q : ∀ j, (j < 8 ∨ 13 < j) → F10 j = F j := fun j hj_q => (hF10 j hj_q).trans (hG_q j hj_q)
          have hf_q : fr r_q (r_q + 16) z0 σ := hf_q.tr hf10
          refine go_if_eq (tgt := 43) (pc := 22) dX8_readLine_22 (by decide) (fun h_22 => ?_) (fun h_22 => by exfalso; exact h_22 (bI_f (hno _ k10)))
          refine go_aload_n (pc := 43) dX8_readLine_43 rfl ?_
          refine go_ldcS (si := 40) (pc := 44) rfl dX8_readLine_44 ?_
          refine go_V1I (pc := 46) v_X8_129 rfl rfl (rcv_of (ci := 8) (by first | exact mo0 hM_q | exact mo2 hM_q) rfl) dX8_readLine_46 (sp_took (k := k - 1) hM_q hS_q (si := 40) (q := ("FrontChairsModel", 218, "moves")) (cw := 7) rfl (by decide) wk_7 (by decide) (by decide) hN_q (by omega)) (fun v_46 σ n h_q => ?_)
          obtain ⟨rfl, rfl, F7, hM_q, hS_q, hF7, hf7⟩ := h_q
          rw [if_neg (hno _ k7)] at hS_q
          have hG_q : ∀ j, (j < 8 ∨ 13 < j) → F7 j = F j := fun j hj_q => (hF7 j hj_q).trans (hG_q j hj_q)
          have hf_q : fr r_q (r_q + 16) z0 σ := hf_q.tr hf7
          refine go_if_eq (tgt := 67) (pc := 49) dX8_readLine_49 (by decide) (fun h_49 => ?_) (fun h_49 => by exfalso; exact h_49 (bI_f (hno _ k7)))
          refine go_aload_n (pc := 67) dX8_readLine_67 rfl ?_
          refine go_ldcS (si := 47) (pc := 68) rfl dX8_readLine_68 ?_
          refine go_V1I (pc := 70) v_X8_129 rfl rfl (rcv_of (ci := 8) (by first | exact mo0 hM_q | exact mo2 hM_q) rfl) dX8_readLine_70 (sp_took (k := k - 1) hM_q hS_q (si := 47) (q := ("FrontChairsModel", 224, "tide")) (cw := 8) rfl (by decide) wk_8 (by decide) (by decide) hN_q (by omega)) (fun v_70 σ n h_q => ?_)
          obtain ⟨rfl, rfl, F8, hM_q, hS_q, hF8, hf8⟩ := h_q
          rw [if_pos ⟨hb_q, k8⟩] at hS_q
          have hG_q : ∀ j, (j < 8 ∨ 13 < j) → F8 j = F j := fun j hj_q => (hF8 j hj_q).trans (hG_q j hj_q)
          have hf_q : fr r_q (r_q + 16) z0 σ := hf_q.tr hf8
          refine go_if_eq (tgt := 91) (pc := 73) dX8_readLine_73 (by decide) (fun h_73 => by exfalso; rw [bI_t ⟨hb_q, k8⟩] at h_73; exact absurd h_73 (by decide)) (fun h_73 => ?_)
          refine go_aload_n (pc := 76) dX8_readLine_76 rfl ?_
          refine go_iconst (v := 5) (pc := 77) dX8_readLine_77 (by decide) ?_
          refine go_sipush (v := 1219) (pc := 78) dX8_readLine_78 (by decide) ?_
          refine go_V2V (pc := 81) v_X8_220 rfl rfl (rcv_of (ci := 8) (by first | exact mo0 hM_q | exact mo2 hM_q) rfl) dX8_readLine_81 (sp_beginsLaw (k := k - 1) hM_q hS_q hN_q (w := 5) (by omega) (by omega)) (fun σ n h_q => ?_)
          obtain ⟨rfl, F1, A1, hM_q, hS_q, h17, h18, aA1, oA1, hF1, hf1⟩ := h_q
          have hf_q : fr r_q (r_q + 16) z0 σ := hf_q.tr hf1
          have hS_q : rfR (A1 5) N F1 (clr (needP N 58 (nextP s))) := by
            rw [oA1 5 (by decide)]
            exact hS_q
          have h16 : F1 16 = 0 := (hF1 16 (by omega) (by decide) (by decide)).trans ((hG_q 16 (by omega)).trans h16)
          have hW : rsR F1 (A1 2) 5 0 (clr (needP N 58 (nextP s))) := ⟨h17, h18, h16, fun _ => ⟨(by rw [aA1, pk_us]; rfl), fun j hj_q => absurd (show j < 0 from hj_q) (by omega)⟩⟩
          have n1 := nx_lt k8 (by decide)
          have n2 := len_need (N := N) (c := 58) (s := nextP s)
          have n3 : tot (clr (needP N 58 (nextP s))) ≤ 899 := by
            show 0 + (needP N 58 (nextP s)).l.length ≤ 899
            omega
          have n4 := pP_tot (N := N) (w := 5) (d := 0) (s := (clr (needP N 58 (nextP s)))) (t := 5) (by omega)
          have n5 := st_tot n4
          refine go_aload_n (pc := 84) dX8_readLine_84 rfl ?_
          refine go_V0V (pc := 85) v_X8_168 rfl rfl (rcv_of (ci := 8) (by first | exact mo0 hM_q | exact mo2 hM_q) rfl) dX8_readLine_85 (ref_ok (t_q := 5) (w := 5) (by omega) hN_q (by decide) _ _ (k - 1) F1 A1 hM_q hS_q hW (by omega) (by omega)) (fun σ n h_q => ?_)
          obtain ⟨rfl, F2, A2, hM_q, hS_q, hW, hF2, hA2, hB2, hf2⟩ := h_q
          have hS_q : rfR (A2 5) N F2 (lwS N 5 5 s) := by
            rw [hA2 5 (by decide)]
            exact hS_q
          have h16 : F2 16 = 0 := hW.2.2.1
          have hT2 : (lwS N 5 5 s).bad = 0 → telR (A2 2) (layT 5 (lwS N 5 5 s).st T) := fun e_q => telR.lay hT_q (by omega) (by omega) (Nat.le_trans n5 (by omega)) hTw (hW.2.2.2 e_q).1 (hW.2.2.2 e_q).2 (fun j j1_q j2_q => by rw [hB2 j j1_q j2_q, aA1, pk_un j1_q])
          refine go_goto (tgt := 121) (pc := 88) dX8_readLine_88 (by decide) ?_
          refine go_aload_n (pc := 121) dX8_readLine_121 rfl ?_
          refine go_V0V (pc := 122) v_X8_228 rfl rfl (rcv_of (ci := 8) (by first | exact mo0 hM_q | exact mo2 hM_q) rfl) dX8_readLine_122 (sp_readStop (k := k - 1) hM_q hS_q hN_q (T := layT 5 (lwS N 5 5 s).st T) hT2 h16 (by omega)) (fun σ n h_q => ?_)
          obtain ⟨rfl, hR_q⟩ := h_q
          have hR_q := RlP.tr (F := F) (A := A) (z0 := z0) (fun j a1_q a2 a3 a4 => (hF2 j a1_q a2).trans ((hF1 j a1_q a3 a4).trans (hG_q j a1_q))) (fun i_q hi_q => (hA2 i_q hi_q).trans (oA1 i_q hi_q)) (hf_q.tr hf2) hR_q
          exact go_vretV (pc := 125) rfl dX8_readLine_125 (Nat.le_of_ble_eq_true rfl) (Nat.le_of_ble_eq_true rfl) (by have e9_q : bodP N s T = (lwS N 5 5 s, layT 5 (lwS N 5 5 s).st T) := by { rw [bodP, if_neg k5, if_neg k10, if_neg k7, if_pos k8] }; rw [lnP]; simp only [e9_q]; exact ⟨trivial, hR_q⟩)
        · by_cases k9 : kd s.l = 9
          · have hG_q : ∀ j, (j < 8 ∨ 13 < j) → F j = F j := fun _ _ => rfl
            have hf_q : fr r_q (r_q + 16) z0 z0 := fr.rf
            refine go_aload_n (pc := 0) dX8_readLine_0 rfl ?_
            refine go_ldcS (si := 33) (pc := 1) rfl dX8_readLine_1 ?_
            refine go_V1P (pc := 3) v_X8_114 rfl rfl (rcv_of (ci := 8) (by first | exact mo0 hM_q | exact mo2 hM_q) rfl) dX8_readLine_3 (sp_isWord (k := k - 1) hM_q hS_q (si := 33) (q := ("FrontChairsModel", 213, "person")) (cw := 5) rfl (by decide) wk_5 (by decide) (by decide) hN_q (by omega)) ?_
            refine go_if_eq (tgt := 16) (pc := 6) dX8_readLine_6 (by decide) (fun h_6 => ?_) (fun h_6 => by exfalso; exact h_6 (bI_f (hno _ k5)))
            refine go_aload_n (pc := 16) dX8_readLine_16 rfl ?_
            refine go_ldcS (si := 39) (pc := 17) rfl dX8_readLine_17 ?_
            refine go_V1I (pc := 19) v_X8_129 rfl rfl (rcv_of (ci := 8) (by first | exact mo0 hM_q | exact mo2 hM_q) rfl) dX8_readLine_19 (sp_took (k := k - 1) hM_q hS_q (si := 39) (q := ("FrontChairsModel", 177, "minute")) (cw := 10) rfl (by decide) wk_10 (by decide) (by decide) hN_q (by omega)) (fun v_19 σ n h_q => ?_)
            obtain ⟨rfl, rfl, F10, hM_q, hS_q, hF10, hf10⟩ := h_q
            rw [if_neg (hno _ k10)] at hS_q
            have hG_q : ∀ j, (j < 8 ∨ 13 < j) → F10 j = F j := fun j hj_q => (hF10 j hj_q).trans (hG_q j hj_q)
            have hf_q : fr r_q (r_q + 16) z0 σ := hf_q.tr hf10
            refine go_if_eq (tgt := 43) (pc := 22) dX8_readLine_22 (by decide) (fun h_22 => ?_) (fun h_22 => by exfalso; exact h_22 (bI_f (hno _ k10)))
            refine go_aload_n (pc := 43) dX8_readLine_43 rfl ?_
            refine go_ldcS (si := 40) (pc := 44) rfl dX8_readLine_44 ?_
            refine go_V1I (pc := 46) v_X8_129 rfl rfl (rcv_of (ci := 8) (by first | exact mo0 hM_q | exact mo2 hM_q) rfl) dX8_readLine_46 (sp_took (k := k - 1) hM_q hS_q (si := 40) (q := ("FrontChairsModel", 218, "moves")) (cw := 7) rfl (by decide) wk_7 (by decide) (by decide) hN_q (by omega)) (fun v_46 σ n h_q => ?_)
            obtain ⟨rfl, rfl, F7, hM_q, hS_q, hF7, hf7⟩ := h_q
            rw [if_neg (hno _ k7)] at hS_q
            have hG_q : ∀ j, (j < 8 ∨ 13 < j) → F7 j = F j := fun j hj_q => (hF7 j hj_q).trans (hG_q j hj_q)
            have hf_q : fr r_q (r_q + 16) z0 σ := hf_q.tr hf7
            refine go_if_eq (tgt := 67) (pc := 49) dX8_readLine_49 (by decide) (fun h_49 => ?_) (fun h_49 => by exfalso; exact h_49 (bI_f (hno _ k7)))
            refine go_aload_n (pc := 67) dX8_readLine_67 rfl ?_
            refine go_ldcS (si := 47) (pc := 68) rfl dX8_readLine_68 ?_
            refine go_V1I (pc := 70) v_X8_129 rfl rfl (rcv_of (ci := 8) (by first | exact mo0 hM_q | exact mo2 hM_q) rfl) dX8_readLine_70 (sp_took (k := k - 1) hM_q hS_q (si := 47) (q := ("FrontChairsModel", 224, "tide")) (cw := 8) rfl (by decide) wk_8 (by decide) (by decide) hN_q (by omega)) (fun v_70 σ n h_q => ?_)
            obtain ⟨rfl, rfl, F8, hM_q, hS_q, hF8, hf8⟩ := h_q
            rw [if_neg (hno _ k8)] at hS_q
            have hG_q : ∀ j, (j < 8 ∨ 13 < j) → F8 j = F j := fun j hj_q => (hF8 j hj_q).trans (hG_q j hj_q)
            have hf_q : fr r_q (r_q + 16) z0 σ := hf_q.tr hf8
            refine go_if_eq (tgt := 91) (pc := 73) dX8_readLine_73 (by decide) (fun h_73 => ?_) (fun h_73 => by exfalso; exact h_73 (bI_f (hno _ k8)))
            refine go_aload_n (pc := 91) dX8_readLine_91 rfl ?_
            refine go_ldcS (si := 48) (pc := 92) rfl dX8_readLine_92 ?_
            refine go_V1I (pc := 94) v_X8_129 rfl rfl (rcv_of (ci := 8) (by first | exact mo0 hM_q | exact mo2 hM_q) rfl) dX8_readLine_94 (sp_took (k := k - 1) hM_q hS_q (si := 48) (q := ("FrontChairsModel", 226, "wets")) (cw := 9) rfl (by decide) wk_9 (by decide) (by decide) hN_q (by omega)) (fun v_94 σ n h_q => ?_)
            obtain ⟨rfl, rfl, F9, hM_q, hS_q, hF9, hf9⟩ := h_q
            rw [if_pos ⟨hb_q, k9⟩] at hS_q
            have hG_q : ∀ j, (j < 8 ∨ 13 < j) → F9 j = F j := fun j hj_q => (hF9 j hj_q).trans (hG_q j hj_q)
            have hf_q : fr r_q (r_q + 16) z0 σ := hf_q.tr hf9
            refine go_if_eq (tgt := 116) (pc := 97) dX8_readLine_97 (by decide) (fun h_97 => by exfalso; rw [bI_t ⟨hb_q, k9⟩] at h_97; exact absurd h_97 (by decide)) (fun h_97 => ?_)
            refine go_aload_n (pc := 100) dX8_readLine_100 rfl ?_
            refine go_bipush (v := 6) (pc := 101) dX8_readLine_101 (by decide) ?_
            refine go_sipush (v := 2119) (pc := 103) dX8_readLine_103 (by decide) ?_
            refine go_V2V (pc := 106) v_X8_220 rfl rfl (rcv_of (ci := 8) (by first | exact mo0 hM_q | exact mo2 hM_q) rfl) dX8_readLine_106 (sp_beginsLaw (k := k - 1) hM_q hS_q hN_q (w := 6) (by omega) (by omega)) (fun σ n h_q => ?_)
            obtain ⟨rfl, F1, A1, hM_q, hS_q, h17, h18, aA1, oA1, hF1, hf1⟩ := h_q
            have hf_q : fr r_q (r_q + 16) z0 σ := hf_q.tr hf1
            have hS_q : rfR (A1 5) N F1 (clr (needP N 58 (nextP s))) := by
              rw [oA1 5 (by decide)]
              exact hS_q
            have h16 : F1 16 = 0 := (hF1 16 (by omega) (by decide) (by decide)).trans ((hG_q 16 (by omega)).trans h16)
            have hW : rsR F1 (A1 2) 6 0 (clr (needP N 58 (nextP s))) := ⟨h17, h18, h16, fun _ => ⟨(by rw [aA1, pk_us]; rfl), fun j hj_q => absurd (show j < 0 from hj_q) (by omega)⟩⟩
            have n1 := nx_lt k9 (by decide)
            have n2 := len_need (N := N) (c := 58) (s := nextP s)
            have n3 : tot (clr (needP N 58 (nextP s))) ≤ 899 := by
              show 0 + (needP N 58 (nextP s)).l.length ≤ 899
              omega
            have n4 := pP_tot (N := N) (w := 6) (d := 0) (s := (clr (needP N 58 (nextP s)))) (t := 5) (by omega)
            have n5 := st_tot n4
            refine go_aload_n (pc := 109) dX8_readLine_109 rfl ?_
            refine go_V0V (pc := 110) v_X8_168 rfl rfl (rcv_of (ci := 8) (by first | exact mo0 hM_q | exact mo2 hM_q) rfl) dX8_readLine_110 (ref_ok (t_q := 5) (w := 6) (by omega) hN_q (by decide) _ _ (k - 1) F1 A1 hM_q hS_q hW (by omega) (by omega)) (fun σ n h_q => ?_)
            obtain ⟨rfl, F2, A2, hM_q, hS_q, hW, hF2, hA2, hB2, hf2⟩ := h_q
            have hS_q : rfR (A2 5) N F2 (lwS N 6 5 s) := by
              rw [hA2 5 (by decide)]
              exact hS_q
            have h16 : F2 16 = 0 := hW.2.2.1
            have hT2 : (lwS N 6 5 s).bad = 0 → telR (A2 2) (layT 6 (lwS N 6 5 s).st T) := fun e_q => telR.lay hT_q (by omega) (by omega) (Nat.le_trans n5 (by omega)) hTw (hW.2.2.2 e_q).1 (hW.2.2.2 e_q).2 (fun j j1_q j2_q => by rw [hB2 j j1_q j2_q, aA1, pk_un j1_q])
            refine go_goto (tgt := 121) (pc := 113) dX8_readLine_113 (by decide) ?_
            refine go_aload_n (pc := 121) dX8_readLine_121 rfl ?_
            refine go_V0V (pc := 122) v_X8_228 rfl rfl (rcv_of (ci := 8) (by first | exact mo0 hM_q | exact mo2 hM_q) rfl) dX8_readLine_122 (sp_readStop (k := k - 1) hM_q hS_q hN_q (T := layT 6 (lwS N 6 5 s).st T) hT2 h16 (by omega)) (fun σ n h_q => ?_)
            obtain ⟨rfl, hR_q⟩ := h_q
            have hR_q := RlP.tr (F := F) (A := A) (z0 := z0) (fun j a1_q a2 a3 a4 => (hF2 j a1_q a2).trans ((hF1 j a1_q a3 a4).trans (hG_q j a1_q))) (fun i_q hi_q => (hA2 i_q hi_q).trans (oA1 i_q hi_q)) (hf_q.tr hf2) hR_q
            exact go_vretV (pc := 125) rfl dX8_readLine_125 (Nat.le_of_ble_eq_true rfl) (Nat.le_of_ble_eq_true rfl) (by have e9_q : bodP N s T = (lwS N 6 5 s, layT 6 (lwS N 6 5 s).st T) := by { rw [bodP, if_neg k5, if_neg k10, if_neg k7, if_neg k8, if_pos k9] }; rw [lnP]; simp only [e9_q]; exact ⟨trivial, hR_q⟩)
          · have hG_q : ∀ j, (j < 8 ∨ 13 < j) → F j = F j := fun _ _ => rfl
            have hf_q : fr r_q (r_q + 16) z0 z0 := fr.rf
            refine go_aload_n (pc := 0) dX8_readLine_0 rfl ?_
            refine go_ldcS (si := 33) (pc := 1) rfl dX8_readLine_1 ?_
            refine go_V1P (pc := 3) v_X8_114 rfl rfl (rcv_of (ci := 8) (by first | exact mo0 hM_q | exact mo2 hM_q) rfl) dX8_readLine_3 (sp_isWord (k := k - 1) hM_q hS_q (si := 33) (q := ("FrontChairsModel", 213, "person")) (cw := 5) rfl (by decide) wk_5 (by decide) (by decide) hN_q (by omega)) ?_
            refine go_if_eq (tgt := 16) (pc := 6) dX8_readLine_6 (by decide) (fun h_6 => ?_) (fun h_6 => by exfalso; exact h_6 (bI_f (hno _ k5)))
            refine go_aload_n (pc := 16) dX8_readLine_16 rfl ?_
            refine go_ldcS (si := 39) (pc := 17) rfl dX8_readLine_17 ?_
            refine go_V1I (pc := 19) v_X8_129 rfl rfl (rcv_of (ci := 8) (by first | exact mo0 hM_q | exact mo2 hM_q) rfl) dX8_readLine_19 (sp_took (k := k - 1) hM_q hS_q (si := 39) (q := ("FrontChairsModel", 177, "minute")) (cw := 10) rfl (by decide) wk_10 (by decide) (by decide) hN_q (by omega)) (fun v_19 σ n h_q => ?_)
            obtain ⟨rfl, rfl, F10, hM_q, hS_q, hF10, hf10⟩ := h_q
            rw [if_neg (hno _ k10)] at hS_q
            have hG_q : ∀ j, (j < 8 ∨ 13 < j) → F10 j = F j := fun j hj_q => (hF10 j hj_q).trans (hG_q j hj_q)
            have hf_q : fr r_q (r_q + 16) z0 σ := hf_q.tr hf10
            refine go_if_eq (tgt := 43) (pc := 22) dX8_readLine_22 (by decide) (fun h_22 => ?_) (fun h_22 => by exfalso; exact h_22 (bI_f (hno _ k10)))
            refine go_aload_n (pc := 43) dX8_readLine_43 rfl ?_
            refine go_ldcS (si := 40) (pc := 44) rfl dX8_readLine_44 ?_
            refine go_V1I (pc := 46) v_X8_129 rfl rfl (rcv_of (ci := 8) (by first | exact mo0 hM_q | exact mo2 hM_q) rfl) dX8_readLine_46 (sp_took (k := k - 1) hM_q hS_q (si := 40) (q := ("FrontChairsModel", 218, "moves")) (cw := 7) rfl (by decide) wk_7 (by decide) (by decide) hN_q (by omega)) (fun v_46 σ n h_q => ?_)
            obtain ⟨rfl, rfl, F7, hM_q, hS_q, hF7, hf7⟩ := h_q
            rw [if_neg (hno _ k7)] at hS_q
            have hG_q : ∀ j, (j < 8 ∨ 13 < j) → F7 j = F j := fun j hj_q => (hF7 j hj_q).trans (hG_q j hj_q)
            have hf_q : fr r_q (r_q + 16) z0 σ := hf_q.tr hf7
            refine go_if_eq (tgt := 67) (pc := 49) dX8_readLine_49 (by decide) (fun h_49 => ?_) (fun h_49 => by exfalso; exact h_49 (bI_f (hno _ k7)))
            refine go_aload_n (pc := 67) dX8_readLine_67 rfl ?_
            refine go_ldcS (si := 47) (pc := 68) rfl dX8_readLine_68 ?_
            refine go_V1I (pc := 70) v_X8_129 rfl rfl (rcv_of (ci := 8) (by first | exact mo0 hM_q | exact mo2 hM_q) rfl) dX8_readLine_70 (sp_took (k := k - 1) hM_q hS_q (si := 47) (q := ("FrontChairsModel", 224, "tide")) (cw := 8) rfl (by decide) wk_8 (by decide) (by decide) hN_q (by omega)) (fun v_70 σ n h_q => ?_)
            obtain ⟨rfl, rfl, F8, hM_q, hS_q, hF8, hf8⟩ := h_q
            rw [if_neg (hno _ k8)] at hS_q
            have hG_q : ∀ j, (j < 8 ∨ 13 < j) → F8 j = F j := fun j hj_q => (hF8 j hj_q).trans (hG_q j hj_q)
            have hf_q : fr r_q (r_q + 16) z0 σ := hf_q.tr hf8
            refine go_if_eq (tgt := 91) (pc := 73) dX8_readLine_73 (by decide) (fun h_73 => ?_) (fun h_73 => by exfalso; exact h_73 (bI_f (hno _ k8)))
            refine go_aload_n (pc := 91) dX8_readLine_91 rfl ?_
            refine go_ldcS (si := 48) (pc := 92) rfl dX8_readLine_92 ?_
            refine go_V1I (pc := 94) v_X8_129 rfl rfl (rcv_of (ci := 8) (by first | exact mo0 hM_q | exact mo2 hM_q) rfl) dX8_readLine_94 (sp_took (k := k - 1) hM_q hS_q (si := 48) (q := ("FrontChairsModel", 226, "wets")) (cw := 9) rfl (by decide) wk_9 (by decide) (by decide) hN_q (by omega)) (fun v_94 σ n h_q => ?_)
            obtain ⟨rfl, rfl, F9, hM_q, hS_q, hF9, hf9⟩ := h_q
            rw [if_neg (hno _ k9)] at hS_q
            have hG_q : ∀ j, (j < 8 ∨ 13 < j) → F9 j = F j := fun j hj_q => (hF9 j hj_q).trans (hG_q j hj_q)
            have hf_q : fr r_q (r_q + 16) z0 σ := hf_q.tr hf9
            refine go_if_eq (tgt := 116) (pc := 97) dX8_readLine_97 (by decide) (fun h_97 => ?_) (fun h_97 => by exfalso; exact h_97 (bI_f (hno _ k9)))
            refine go_aload_n (pc := 116) dX8_readLine_116 rfl ?_
            refine go_iconst (v := 2) (pc := 117) dX8_readLine_117 (by decide) ?_
            refine go_V1V (pc := 118) v_X8_121 rfl rfl (rcv_of (ci := 8) (by first | exact mo0 hM_q | exact mo2 hM_q) rfl) dX8_readLine_118 (sp_blames (k := k - 1) hM_q hS_q (c_q := 2) (by decide)) (fun σ n h_q => ?_)
            obtain ⟨rfl, F1, hM_q, hS_q, hF1, hf1⟩ := h_q
            refine go_aload_n (pc := 121) dX8_readLine_121 rfl ?_
            refine go_V0V (pc := 122) v_X8_228 rfl rfl (rcv_of (ci := 8) (by first | exact mo0 hM_q | exact mo2 hM_q) rfl) dX8_readLine_122 (sp_readStop (k := k - 1) hM_q hS_q hN_q (T := T) (fun e_q => absurd e_q (failP_ne (by decide) hb_q)) ((hF1 16 (by omega)).trans ((hG_q 16 (by omega)).trans h16)) (by omega)) (fun σ n h_q => ?_)
            obtain ⟨rfl, hR_q⟩ := h_q
            have hR_q := RlP.tr (F := F) (A := A) (z0 := z0) (fun j a1_q _ _ _ => (hF1 j a1_q).trans (hG_q j a1_q)) (fun _ _ => rfl) (hf_q.tr hf1) hR_q
            exact go_vretV (pc := 125) rfl dX8_readLine_125 (Nat.le_of_ble_eq_true rfl) (Nat.le_of_ble_eq_true rfl) (by have e9_q : bodP N s T = (failP N 2 s, T) := by { rw [bodP, if_neg k5, if_neg k10, if_neg k7, if_neg k8, if_neg k9] }; rw [lnP]; simp only [e9_q]; exact ⟨trivial, hR_q⟩)
