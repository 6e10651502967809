/-! ===== the reference: bring ===== -/
def brJ (Γ : gam) (r : Nat) (F K : row) (A : Nat → row) (Nm : Nat → Int64) (σ : sto) (n dp m : Nat) (x : Option (List Nat)) (σ' : sto) (n' : Nat) : Prop :=
  n' = n ∧ ∃ K' A', MoAt Γ σ' r F K' A' Nm ∧ sameB K K' ∧ (x = none → K' = K) ∧ eqx [6, 7, 10, 11] A A' ∧ (∀ j, j < dp → A' 10 j = A 10 j) ∧ (∀ l, x = some l → ∀ j, j < m → A' 10 (dp + j) = nI (l.getD j 0)) ∧ (∀ j, j < 26 * dp → A' 11 j = A 11 j) ∧ fr r (r + 16) σ σ'
theorem oI_some {x : Option (List Nat)} (h_q : ¬ bI (x.isSome = true) = 0) : ∃ l, x = some l := by
  cases x with
  | none => exact absurd (bI_0.mpr (by simp)) h_q
  | some l => exact ⟨l, rfl⟩
theorem oI_no {x : Option (List Nat)} (h_q : bI (x.isSome = true) = 0) : x = none := by
  cases x with
  | none => rfl
  | some l => exact absurd (bI_0.mp h_q) (by simp)
theorem sp_brings {Γ : gam} {n r : Nat} {F : row} {Nm : Nat → Int64} {p : Nat} {to : Int32} (hp8 : p < 8) : ∀ (m k : Nat) (dp : Nat) (K : row) (A : Nat → row) (z0 : sto), MoAt Γ z0 r F K A Nm → 8 + m ≤ k → okB K → vS K → dp + m ≤ 8 →
    Sp Γ (rmk k 0 0) uX8_brings [.ref r, .int (nI p), .int to, .int (nI dp), .int (nI m)] z0 n (qI fun v σ' n' => v = bI ((brK p to m K).isSome = true) ∧ brJ Γ r F K A Nm z0 n dp m (brK p to m K) σ' n') := by
  intro m
  induction m with
  | zero =>
    intro k dp K A z0 hM_q hk hB_q hv_q hdm
    have hP8 := hB_q.1.2.1
    refine sp_intro [some (.ref r), some (.int (nI p)), some (.int to), some (.int (nI dp)), some (.int (nI 0)), none] (by decide +kernel) rfl (Nat.le_of_ble_eq_true rfl) rfl ?_
    refine go_iload (pc := 0) dX8_brings_0 rfl ?_
    refine go_if_ne (tgt := 24) (pc := 2) dX8_brings_2 (by decide) (fun h_2 => by exfalso; exact h_2 rfl) (fun h_2 => ?_)
    refine go_aload_n (pc := 5) dX8_brings_5 rfl ?_
    refine go_getf (pc := 6) f_X8_9 dX8_brings_6 (by first | exact mo0 hM_q | exact mo1 hM_q | exact mo6 hM_q | exact mo7 hM_q | exact mo8 hM_q | exact mo2 hM_q | exact mo3 hM_q | exact mo4 hM_q | exact mo5 hM_q | exact mo9 hM_q | exact mo10 hM_q | exact mo11 hM_q | exact mo12 hM_q | exact mo13 hM_q | exact mo14 hM_q | exact mo15 hM_q | exact mo16 hM_q) (by rfl) ?_
    refine go_bipush (v := 16) (pc := 9) dX8_brings_9 (by decide) ?_
    refine go_iload_n (pc := 11) dX8_brings_11 rfl ?_
    refine go_iadd (pc := 12) dX8_brings_12 ?_
    refine go_iald (pc := 13) dX8_brings_13 (by first | exact mo0 hM_q | exact mo1 hM_q | exact mo6 hM_q | exact mo7 hM_q | exact mo8 hM_q | exact mo2 hM_q | exact mo3 hM_q | exact mo4 hM_q | exact mo5 hM_q | exact mo9 hM_q | exact mo10 hM_q | exact mo11 hM_q | exact mo12 hM_q | exact mo13 hM_q | exact mo14 hM_q | exact mo15 hM_q | exact mo16 hM_q) (by exact ⟨nI_add 16 _, by omega⟩) ?_
    refine go_iload_n (pc := 14) dX8_brings_14 rfl ?_
    refine go_icmp_gt (tgt := 22) (pc := 15) dX8_brings_15 (by decide) (fun h_15 => ?_) (fun h_15 => ?_)
    · refine go_iconst (v := 0) (pc := 22) dX8_brings_22 (by decide) ?_
      exact go_zretI (pc := 23) rfl (by first | rfl | exact nb_bI) dX8_brings_23 (Nat.le_of_ble_eq_true rfl) (Nat.le_of_ble_eq_true rfl) ⟨(by first | exact (bI_f (by simp only [brK]; rw [if_neg (Int32.not_le.mpr h_15)]; simp)).symm | exact (bI_t (by simp only [brK]; rw [if_pos (Int32.not_lt.mp h_15)]; rfl)).symm), rfl, _, _, hM_q, sameB.rf, (fun _ => rfl), eqx.rf, (fun j _ => rfl), (fun l _ j hj_q => absurd hj_q (by omega)), (fun j _ => rfl), fr.rf⟩
    · refine go_iconst (v := 1) (pc := 18) dX8_brings_18 (by decide) ?_
      refine go_goto (tgt := 23) (pc := 19) dX8_brings_19 (by decide) ?_
      exact go_zretI (pc := 23) rfl (by first | rfl | exact nb_bI) dX8_brings_23 (Nat.le_of_ble_eq_true rfl) (Nat.le_of_ble_eq_true rfl) ⟨(by first | exact (bI_f (by simp only [brK]; rw [if_neg (Int32.not_le.mpr h_15)]; simp)).symm | exact (bI_t (by simp only [brK]; rw [if_pos (Int32.not_lt.mp h_15)]; rfl)).symm), rfl, _, _, hM_q, sameB.rf, (fun _ => rfl), eqx.rf, (fun j _ => rfl), (fun l _ j hj_q => absurd hj_q (by omega)), (fun j _ => rfl), fr.rf⟩
  | succ m ihm =>
    intro k dp K A z0 hM_q hk hB_q hv_q hdm
    have hP8 := hB_q.1.2.1
    have hH5 := hB_q.1.2.2.2.1
    have hf_q : fr r (r + 16) z0 z0 := fr.rf
    have hA_q : eqx [6, 7, 10, 11] A A := eqx.rf
    refine sp_intro [some (.ref r), some (.int (nI p)), some (.int to), some (.int (nI dp)), some (.int (nI (m + 1))), none] (by decide +kernel) rfl (Nat.le_of_ble_eq_true rfl) rfl ?_
    refine go_iload (pc := 0) dX8_brings_0 rfl ?_
    refine go_if_ne (tgt := 24) (pc := 2) dX8_brings_2 (by decide) (fun h_2 => ?_) (fun h_2 => by exfalso; exact absurd h_2 (nI_ne0 (by omega) (by omega)))
    refine go_aload_n (pc := 24) dX8_brings_24 rfl ?_
    refine go_iload_n (pc := 25) dX8_brings_25 rfl ?_
    refine go_V1V (pc := 26) v_X8_405 rfl rfl (rcv_of (ci := 8) (by first | exact mo0 hM_q | exact mo1 hM_q | exact mo6 hM_q | exact mo7 hM_q | exact mo8 hM_q | exact mo2 hM_q | exact mo3 hM_q | exact mo4 hM_q | exact mo5 hM_q | exact mo9 hM_q | exact mo10 hM_q | exact mo11 hM_q | exact mo12 hM_q | exact mo13 hM_q | exact mo14 hM_q | exact mo15 hM_q | exact mo16 hM_q) rfl) dX8_brings_26 (sp_keepsLevel (k := k - 1) hM_q (by omega)) (fun σ n h_q => ?_)
    obtain ⟨rfl, A1, hM_q, hA1, hf1, hLv⟩ := h_q
    have hA_q := eqx.tr (A := A) (L := [6, 7, 10, 11]) (by repeat (first | assumption | exact eqx.rf | refine eqx.up ?_ (by decide))) (hA1.wk (by decide))
    have hf_q := hf_q.tr hf1
    have h10 : ∀ j, j < dp → A1 10 j = A 10 j := fun j _ => by rw [hA1 10 (by decide)]
    have h11 : ∀ j, j < 26 * dp → A1 11 j = A 11 j := fun j hj_q => by rw [hLv j, if_neg (by omega)]
    have hLs : ∀ j, j < 26 → A1 11 (26 * dp + j) = K (8 + j) := fun j hj_q => by rw [hLv, if_pos (by omega), show 26 * dp + j - 26 * dp = j by omega]
    refine go_iconst (v := 0) (pc := 29) dX8_brings_29 (by decide) ?_
    refine go_istore (lw := [_, _, _, _, _, _]) (pc := 30) dX8_brings_30 (by decide) rfl ?_
    refine go_iter (kP K) (fun i_q lv9 s9 n9 => ∃ A9_q, lv9 = [some (.ref r), some (.int (nI p)), some (.int to), some (.int (nI dp)), some (.int (nI (m + 1))), some (.int (nI i_q))] ∧ (MoAt Γ s9 r F K A9_q Nm) ∧ (eqx [6, 7, 10, 11] A A9_q) ∧ (fr r (r + 16) z0 s9) ∧ (∀ j, j < dp → A9_q 10 j = A 10 j) ∧ (∀ j, j < 26 * dp → A9_q 11 j = A 11 j) ∧ (∀ j, j < 26 → A9_q 11 (26 * dp + j) = K (8 + j)) ∧ (fs (fun q => if q ≠ p ∧ whyR K (q : Int) = 0 then (brK p to m (riseK K q (-1)).1).map (fun l => q :: l) else none) i_q (kP K - i_q) = brK p to (m + 1) K) ∧ n = n9) ⟨_, rfl, hM_q, hA_q, hf_q, h10, h11, hLs, rfl, rfl⟩ ?_ ?_
    · rintro i_q lv9 σ n9 hi_q ⟨A9_q, rfl, hM_q, hA_q, hf_q, h10, h11, hLs, hR_q, rfl⟩ ih_q
      refine go_iload (pc := 32) dX8_brings_32 rfl ?_
      refine go_aload_n (pc := 34) dX8_brings_34 rfl ?_
      refine go_V0P (pc := 35) v_X8_242 rfl rfl (rcv_of (ci := 8) (by first | exact mo0 hM_q | exact mo1 hM_q | exact mo6 hM_q | exact mo7 hM_q | exact mo8 hM_q | exact mo2 hM_q | exact mo3 hM_q | exact mo4 hM_q | exact mo5 hM_q | exact mo9 hM_q | exact mo10 hM_q | exact mo11 hM_q | exact mo12 hM_q | exact mo13 hM_q | exact mo14 hM_q | exact mo15 hM_q | exact mo16 hM_q) rfl) dX8_brings_35 (sp_people (k := k - 1) hM_q) ?_
      rw [hB_q.1.1]
      refine go_icmp_ge (tgt := 105) (pc := 38) dX8_brings_38 (by decide) (fun h_38 => by exfalso; exact absurd h_38 (nI_ge (by omega) (by omega))) (fun h_38 => ?_)
      refine go_iload (pc := 41) dX8_brings_41 rfl ?_
      refine go_iload_n (pc := 43) dX8_brings_43 rfl ?_
      refine go_icmp_eq (tgt := 99) (pc := 44) dX8_brings_44 (by decide) (fun h_44 => ?_) (fun h_44 => ?_)
      · refine go_iinc (v := 1) (lw := [_, _, _, _, _, _]) (pc := 99) dX8_brings_99 rfl (by decide) (by decide) rfl ?_
        refine go_goto (tgt := 32) (pc := 102) dX8_brings_102 (by decide) ?_
        rw [nI_1]
        have hfi : (fun q => if q ≠ p ∧ whyR K (q : Int) = 0 then (brK p to m (riseK K q (-1)).1).map (fun l => q :: l) else none) i_q = none := by first | assumption | exact if_neg (fun hc_q => hc_q.1 ((nI_eq (by omega) (by omega)).mp h_44))
        exact ih_q _ _ _ ⟨_, rfl, hM_q, hA_q, hf_q, h10, h11, hLs, (by rw [← hR_q, fs_step hi_q hfi]), rfl⟩
      · refine go_aload_n (pc := 47) dX8_brings_47 rfl ?_
        refine go_iload (pc := 48) dX8_brings_48 rfl ?_
        refine go_i2l (pc := 50) dX8_brings_50 ?_
        refine go_V1P (pc := 51) v_X8_324 rfl rfl (rcv_of (ci := 8) (by first | exact mo0 hM_q | exact mo1 hM_q | exact mo6 hM_q | exact mo7 hM_q | exact mo8 hM_q | exact mo2 hM_q | exact mo3 hM_q | exact mo4 hM_q | exact mo5 hM_q | exact mo9 hM_q | exact mo10 hM_q | exact mo11 hM_q | exact mo12 hM_q | exact mo13 hM_q | exact mo14 hM_q | exact mo15 hM_q | exact mo16 hM_q) rfl) dX8_brings_51 (sp_whyRise (k := k - 1) hM_q (by omega) hB_q _) ?_
        rw [Int32.toInt_toInt64, nI_toInt (by omega)]
        refine go_if_eq (tgt := 60) (pc := 54) dX8_brings_54 (by decide) (fun h_54 => ?_) (fun h_54 => ?_)
        · obtain ⟨q9_q, hq9, hu, -⟩ := whyR_0 h_54
          obtain rfl : i_q = q9_q := (by have := (pN_some hq9).1; omega)
          have hnp : i_q ≠ p := fun hc_q => h_44 (by rw [hc_q])
          have hfq : (fun q => if q ≠ p ∧ whyR K (q : Int) = 0 then (brK p to m (riseK K q (-1)).1).map (fun l => q :: l) else none) i_q = (brK p to m (riseK K i_q (-1)).1).map (fun l => i_q :: l) := if_pos ⟨hnp, h_54⟩
          have hS1 : sameB K (riseK K i_q (-1)).1 := riseK_same (by omega) (by omega)
          refine go_aload_n (pc := 60) dX8_brings_60 rfl ?_
          refine go_getf (pc := 61) f_X8_42 dX8_brings_61 (by first | exact mo0 hM_q | exact mo1 hM_q | exact mo6 hM_q | exact mo7 hM_q | exact mo8 hM_q | exact mo2 hM_q | exact mo3 hM_q | exact mo4 hM_q | exact mo5 hM_q | exact mo9 hM_q | exact mo10 hM_q | exact mo11 hM_q | exact mo12 hM_q | exact mo13 hM_q | exact mo14 hM_q | exact mo15 hM_q | exact mo16 hM_q) (by rfl) ?_
          refine go_iload_n (pc := 64) dX8_brings_64 rfl ?_
          refine go_iload (pc := 65) dX8_brings_65 rfl ?_
          refine go_mst10 (pc := 67) hM_q dX8_brings_67 (by exact ⟨rfl, by omega⟩) (fun σ hM_q hf9 => ?_)
          have hf_q := hf_q.tr hf9
          refine go_aload_n (pc := 68) dX8_brings_68 rfl ?_
          refine go_iload (pc := 69) dX8_brings_69 rfl ?_
          refine go_iconst (v := -1) (pc := 71) dX8_brings_71 (by decide) ?_
          refine go_V2I (pc := 72) v_X8_302 rfl rfl (rcv_of (ci := 8) (by first | exact mo0 hM_q | exact mo1 hM_q | exact mo6 hM_q | exact mo7 hM_q | exact mo8 hM_q | exact mo2 hM_q | exact mo3 hM_q | exact mo4 hM_q | exact mo5 hM_q | exact mo9 hM_q | exact mo10 hM_q | exact mo11 hM_q | exact mo12 hM_q | exact mo13 hM_q | exact mo14 hM_q | exact mo15 hM_q | exact mo16 hM_q) rfl) dX8_brings_72 (sp_rises (k := k - 1) hM_q (by omega) hB_q hv_q (by omega) hu _) (fun v_72 σ n h_q => ?_)
          obtain ⟨rfl, rfl, A1, hM_q, hA1, hf1⟩ := h_q
          have hA_q := eqx.tr (A := A) (L := [6, 7, 10, 11]) (by repeat (first | assumption | exact eqx.rf | refine eqx.up ?_ (by decide))) (hA1.wk (by decide))
          have hf_q := hf_q.tr hf1
          have hr0 : A1 10 dp = nI i_q := by rw [hA1 10 (by decide)]; simp only [updA, if_true, pk_us]
          have h10 : ∀ j, j < dp → A1 10 j = A 10 j := fun j hj_q => by rw [hA1 10 (by decide)]; simp only [updA, if_true]; rw [pk_un (by omega)]; exact h10 j hj_q
          have h11 : ∀ j, j < 26 * dp → A1 11 j = A 11 j := fun j hj_q => by rw [hA1 11 (by decide)]; exact h11 j hj_q
          have hLs : ∀ j, j < 26 → A1 11 (26 * dp + j) = K (8 + j) := fun j hj_q => by rw [hA1 11 (by decide)]; exact hLs j hj_q
          refine go_pop (pc := 75) dX8_brings_75 rfl ?_
          refine go_aload_n (pc := 76) dX8_brings_76 rfl ?_
          refine go_iload_n (pc := 77) dX8_brings_77 rfl ?_
          refine go_iload_n (pc := 78) dX8_brings_78 rfl ?_
          refine go_iload_n (pc := 79) dX8_brings_79 rfl ?_
          refine go_iconst (v := 1) (pc := 80) dX8_brings_80 (by decide) ?_
          refine go_iadd (pc := 81) dX8_brings_81 ?_
          refine go_iload (pc := 82) dX8_brings_82 rfl ?_
          refine go_iconst (v := 1) (pc := 84) dX8_brings_84 (by decide) ?_
          refine go_isub (pc := 85) dX8_brings_85 ?_
          rw [nI_1, nI_pred]
          refine go_V4I (pc := 86) v_X8_408 rfl rfl (rcv_of (ci := 8) (by first | exact mo0 hM_q | exact mo1 hM_q | exact mo6 hM_q | exact mo7 hM_q | exact mo8 hM_q | exact mo2 hM_q | exact mo3 hM_q | exact mo4 hM_q | exact mo5 hM_q | exact mo9 hM_q | exact mo10 hM_q | exact mo11 hM_q | exact mo12 hM_q | exact mo13 hM_q | exact mo14 hM_q | exact mo15 hM_q | exact mo16 hM_q) rfl) dX8_brings_86 (ihm (k - 1) (dp + 1) _ _ _ hM_q (by omega) (hS1.okB hB_q) (vS_rise hv_q (by omega) (by omega) (by omega) hu) (by omega)) (fun v_86 σ n h_q => ?_)
          obtain ⟨rfl, rfl, K2, A2, hM_q, hS3, hK2, hA2, h10b, hrb, h11b, hf2⟩ := h_q
          have hA_q := eqx.tr (A := A) (L := [6, 7, 10, 11]) hA_q hA2
          have hf_q := hf_q.tr hf2
          have hS2 := hS1.tr hS3
          have h10 : ∀ j, j < dp → A2 10 j = A 10 j := fun j hj_q => (h10b j (by omega)).trans (h10 j hj_q)
          have h11 : ∀ j, j < 26 * dp → A2 11 j = A 11 j := fun j hj_q => (h11b j (by omega)).trans (h11 j hj_q)
          have hLs : ∀ j, j < 26 → A2 11 (26 * dp + j) = K (8 + j) := fun j hj_q => (h11b _ (by omega)).trans (hLs j hj_q)
          refine go_if_eq (tgt := 94) (pc := 89) dX8_brings_89 (by decide) (fun h_89 => ?_) (fun h_89 => ?_)
          · refine go_aload_n (pc := 94) dX8_brings_94 rfl ?_
            refine go_iload_n (pc := 95) dX8_brings_95 rfl ?_
            refine go_V1V (pc := 96) v_X8_412 rfl rfl (rcv_of (ci := 8) (by first | exact mo0 hM_q | exact mo1 hM_q | exact mo6 hM_q | exact mo7 hM_q | exact mo8 hM_q | exact mo2 hM_q | exact mo3 hM_q | exact mo4 hM_q | exact mo5 hM_q | exact mo9 hM_q | exact mo10 hM_q | exact mo11 hM_q | exact mo12 hM_q | exact mo13 hM_q | exact mo14 hM_q | exact mo15 hM_q | exact mo16 hM_q) rfl) dX8_brings_96 (sp_backToLevel (k := k - 1) hM_q (by omega)) (fun σ n h_q => ?_)
            obtain ⟨rfl, A3, hM_q, hA3, hf3⟩ := h_q
            have hA_q := eqx.tr (A := A) (L := [6, 7, 10, 11]) hA_q (hA3.wk (by decide))
            have hf_q := hf_q.tr hf3
            rw [setS_back hS2 hLs] at hM_q
            have h10 : ∀ j, j < dp → A3 10 j = A 10 j := fun j hj_q => by rw [hA3 10 (by decide)]; exact h10 j hj_q
            have h11 : ∀ j, j < 26 * dp → A3 11 j = A 11 j := fun j hj_q => by rw [hA3 11 (by decide)]; exact h11 j hj_q
            have hLs : ∀ j, j < 26 → A3 11 (26 * dp + j) = K (8 + j) := fun j hj_q => by rw [hA3 11 (by decide)]; exact hLs j hj_q
            have hfi : (fun q => if q ≠ p ∧ whyR K (q : Int) = 0 then (brK p to m (riseK K q (-1)).1).map (fun l => q :: l) else none) i_q = none := hfq.trans (by rw [oI_no h_89]; rfl)
            refine go_iinc (v := 1) (lw := [_, _, _, _, _, _]) (pc := 99) dX8_brings_99 rfl (by decide) (by decide) rfl ?_
            refine go_goto (tgt := 32) (pc := 102) dX8_brings_102 (by decide) ?_
            rw [nI_1]
            have hfi : (fun q => if q ≠ p ∧ whyR K (q : Int) = 0 then (brK p to m (riseK K q (-1)).1).map (fun l => q :: l) else none) i_q = none := by first | assumption | exact if_neg (fun hc_q => hc_q.1 ((nI_eq (by omega) (by omega)).mp h_44))
            exact ih_q _ _ _ ⟨_, rfl, hM_q, hA_q, hf_q, h10, h11, hLs, (by rw [← hR_q, fs_step hi_q hfi]), rfl⟩
          · obtain ⟨l9_q, hl9⟩ := oI_some h_89
            have hrs : ∀ j, j < m + 1 → A2 10 (dp + j) = nI ((i_q :: l9_q).getD j 0) := fun j hj_q => by
              rcases j with _ | j
              · exact (h10b dp (by omega)).trans hr0
              · rw [show dp + (j + 1) = dp + 1 + j by omega, hrb l9_q hl9 j (by omega)]
                rfl
            refine go_iconst (v := 1) (pc := 92) dX8_brings_92 (by decide) ?_
            exact go_zretI (pc := 93) rfl (by first | rfl | exact nb_bI) dX8_brings_93 (Nat.le_of_ble_eq_true rfl) (Nat.le_of_ble_eq_true rfl) ⟨(bI_t (by rw [← hR_q, fs_hit hi_q (hfq.trans (by rw [hl9]; rfl))]; rfl)).symm, rfl, _, _, hM_q, hS2, (fun hc_q => by rw [← hR_q, fs_hit hi_q (hfq.trans (by rw [hl9]; rfl))] at hc_q; cases hc_q), hA_q, h10, (fun l hl j hj_q => by rw [← hR_q, fs_hit hi_q (hfq.trans (by rw [hl9]; rfl))] at hl; cases hl; exact hrs j hj_q), h11, hf_q⟩
        · have hfi : (fun q => if q ≠ p ∧ whyR K (q : Int) = 0 then (brK p to m (riseK K q (-1)).1).map (fun l => q :: l) else none) i_q = none := if_neg (fun hc_q => h_54 hc_q.2)
          refine go_goto (tgt := 99) (pc := 57) dX8_brings_57 (by decide) ?_
          refine go_iinc (v := 1) (lw := [_, _, _, _, _, _]) (pc := 99) dX8_brings_99 rfl (by decide) (by decide) rfl ?_
          refine go_goto (tgt := 32) (pc := 102) dX8_brings_102 (by decide) ?_
          rw [nI_1]
          have hfi : (fun q => if q ≠ p ∧ whyR K (q : Int) = 0 then (brK p to m (riseK K q (-1)).1).map (fun l => q :: l) else none) i_q = none := by first | assumption | exact if_neg (fun hc_q => hc_q.1 ((nI_eq (by omega) (by omega)).mp h_44))
          exact ih_q _ _ _ ⟨_, rfl, hM_q, hA_q, hf_q, h10, h11, hLs, (by rw [← hR_q, fs_step hi_q hfi]), rfl⟩
    · rintro lv9 σ n9 ⟨A9_q, rfl, hM_q, hA_q, hf_q, h10, h11, hLs, hR_q, rfl⟩
      refine go_iload (pc := 32) dX8_brings_32 rfl ?_
      refine go_aload_n (pc := 34) dX8_brings_34 rfl ?_
      refine go_V0P (pc := 35) v_X8_242 rfl rfl (rcv_of (ci := 8) (by first | exact mo0 hM_q | exact mo1 hM_q | exact mo6 hM_q | exact mo7 hM_q | exact mo8 hM_q | exact mo2 hM_q | exact mo3 hM_q | exact mo4 hM_q | exact mo5 hM_q | exact mo9 hM_q | exact mo10 hM_q | exact mo11 hM_q | exact mo12 hM_q | exact mo13 hM_q | exact mo14 hM_q | exact mo15 hM_q | exact mo16 hM_q) rfl) dX8_brings_35 (sp_people (k := k - 1) hM_q) ?_
      rw [hB_q.1.1]
      refine go_icmp_ge (tgt := 105) (pc := 38) dX8_brings_38 (by decide) (fun h_38 => ?_) (fun h_38 => by exfalso; exact h_38 (nI_le (by omega) (by omega)))
      refine go_iconst (v := 0) (pc := 105) dX8_brings_105 (by decide) ?_
      exact go_zretI (pc := 106) rfl (by first | rfl | exact nb_bI) dX8_brings_106 (Nat.le_of_ble_eq_true rfl) (Nat.le_of_ble_eq_true rfl) ⟨(bI_f (by rw [← hR_q, Nat.sub_self]; simp [fs])).symm, rfl, _, _, hM_q, sameB.rf, (fun _ => rfl), hA_q, h10, (fun l hl => by rw [← hR_q, Nat.sub_self] at hl; cases hl), h11, hf_q⟩
theorem bgT_c {K : row} {p : Int} {w z : Int32} : (pN (kP K) p = none ∧ bgT K p w z = 1) ∨ ((∃ j, pN (kP K) p = some j) ∧ bgT K p w z = 2 ∧ (pN (kH K) w.toInt = none ∨ (¬ z = 0 ∧ rN 10 18 z.toInt = none))) ∨ ((∃ j, pN (kP K) p = some j) ∧ bgT K p w z = 0 ∧ (∃ j, pN (kH K) w.toInt = some j) ∧ (z = 0 ∨ ∃ j, rN 10 18 z.toInt = some j)) := by
  unfold bgT
  cases h1_q : pN (kP K) p with
  | none => exact Or.inl ⟨rfl, rfl⟩
  | some j =>
    refine Or.inr ?_
    cases h2_q : pN (kH K) w.toInt with
    | none => exact Or.inl ⟨⟨j, rfl⟩, rfl, Or.inl rfl⟩
    | some j2_q =>
      by_cases hz_q : z = 0
      · exact Or.inr ⟨⟨j, rfl⟩, by simp [hz_q], ⟨j2_q, rfl⟩, Or.inl hz_q⟩
      · cases h3_q : rN 10 18 z.toInt with
        | none => exact Or.inl ⟨⟨j, rfl⟩, by simp [hz_q], Or.inr ⟨hz_q, rfl⟩⟩
        | some j3_q => exact Or.inr ⟨⟨j, rfl⟩, by simp [hz_q], ⟨j2_q, rfl⟩, Or.inr ⟨j3_q, rfl⟩⟩
theorem fs_all {α : Type} {f : Nat → Option α} : ∀ {m i_q : Nat}, (∀ q, i_q ≤ q → q < i_q + m → f q = none) → fs f i_q m = none
  | 0, _, _ => rfl
  | m + 1, i_q, h_q => by
    rw [fs, h_q i_q (by omega) (by omega)]
    exact fs_all fun q h1_q h2_q => h_q q (by omega) (by omega)
theorem fs_at {α : Type} {f : Nat → Option α} {x : α} {q : Nat} (hq_q : f q = some x) : ∀ {m : Nat}, q < m → (∀ z, z < q → f z = none) → fs f 0 m = some x := by
  intro m hm_q hn
  have key : ∀ {m i_q : Nat}, i_q ≤ q → q < i_q + m → fs f i_q m = some x := by
    intro m
    induction m with
    | zero => intro i_q h1_q h2_q; omega
    | succ m ih_q =>
      intro i_q h1_q h2_q
      rw [fs]
      rcases Nat.eq_or_lt_of_le h1_q with e_q | e_q
      · subst e_q
        rw [hq_q]
      · rw [hn i_q e_q]
        exact ih_q (by omega) (by omega)
  exact key (by omega) (by omega)
theorem sp_bring {Γ : gam} {z0 : sto} {n k r : Nat} {F K : row} {A : Nat → row} {Nm : Nat → Int64} (hM_q : MoAt Γ z0 r F K A Nm) (hk : 18 ≤ k) (hB_q : okB K) (hv_q : vS K) (p w z : Int32) : Sp Γ (rmk k 0 0) uX8_bring [.ref r, .int p, .int w, .int z] z0 n (qI fun v σ' n' => v = (aBring K p.toInt w z).2 ∧ apJ Γ r F K A Nm z0 n (aBring K p.toInt w z).1 σ' n') := by
  have hP8 := hB_q.1.2.1
  have hH5 := hB_q.1.2.2.2.1
  have hW4 := hB_q.1.2.2.2.2.2
  have hA_q : eqx [6, 7, 8, 9, 10, 11, 12, 13] A A := eqx.rf
  have hf_q : fr r (r + 16) z0 z0 := fr.rf
  refine sp_intro [some (.ref r), some (.int p), some (.int w), some (.int z), none, none] (by decide +kernel) rfl (Nat.le_of_ble_eq_true rfl) rfl ?_
  rcases bgT_c (K := K) (p := p.toInt) (w := w) (z := z) with ⟨h0_q, ht_q⟩ | ⟨⟨j1_q, h0_q⟩, ht_q, hcs⟩ | ⟨⟨j1_q, h0_q⟩, ht_q, ⟨w2_q, hw2⟩, hz3⟩
  · refine go_aload_n (pc := 0) dX8_bring_0 rfl ?_
    refine go_aload_n (pc := 1) dX8_bring_1 rfl ?_
    refine go_iload_n (pc := 2) dX8_bring_2 rfl ?_
    refine go_i2l (pc := 3) dX8_bring_3 ?_
    refine go_V1P (pc := 4) v_X8_310 rfl rfl (rcv_of (ci := 8) (by first | exact mo0 hM_q | exact mo1 hM_q | exact mo6 hM_q | exact mo7 hM_q | exact mo8 hM_q | exact mo2 hM_q | exact mo3 hM_q | exact mo4 hM_q | exact mo5 hM_q | exact mo9 hM_q | exact mo10 hM_q | exact mo11 hM_q | exact mo12 hM_q | exact mo13 hM_q | exact mo14 hM_q | exact mo15 hM_q | exact mo16 hM_q) rfl) dX8_bring_4 (sp_isPerson (k := k - 1) hM_q (by omega) _) ?_
    refine go_if_ne (tgt := 14) (pc := 7) dX8_bring_7 (by decide) (fun h_7 => by exfalso; exact h_7 (pi_no hB_q.1.1 (by omega) h0_q)) (fun h_7 => ?_)
    refine go_iconst (v := 1) (pc := 10) dX8_bring_10 (by decide) ?_
    refine go_goto (tgt := 55) (pc := 11) dX8_bring_11 (by decide) ?_
    refine go_mpf4 (pc := 55) hM_q dX8_bring_55 (fun σ hM_q hf9 => ?_)
    have hf_q := hf_q.tr hf9
    refine go_aload_n (pc := 58) dX8_bring_58 rfl ?_
    refine go_getf (pc := 59) f_X8_64 dX8_bring_59 (by first | exact mo0 hM_q | exact mo1 hM_q | exact mo6 hM_q | exact mo7 hM_q | exact mo8 hM_q | exact mo2 hM_q | exact mo3 hM_q | exact mo4 hM_q | exact mo5 hM_q | exact mo9 hM_q | exact mo10 hM_q | exact mo11 hM_q | exact mo12 hM_q | exact mo13 hM_q | exact mo14 hM_q | exact mo15 hM_q | exact mo16 hM_q) (by rfl) ?_
    refine go_if_le (tgt := 67) (pc := 62) dX8_bring_62 (by decide) (fun h_62 => by exfalso; exact absurd (show (1 : Int32) ≤ 0 from h_62) (by decide)) (fun h_62 => ?_)
    refine go_iconst (v := 0) (pc := 65) dX8_bring_65 (by decide) ?_
    exact go_iretI (pc := 66) rfl dX8_bring_66 (Nat.le_of_ble_eq_true rfl) (Nat.le_of_ble_eq_true rfl) ⟨(by rw [aBring, ht_q]; rfl), rfl, _, _, hM_q, ⟨(by rw [aBring, ht_q]; rfl), fun j h1_q h2_q h3_q => by simp [upd, h1_q, h2_q, h3_q]⟩, (by repeat (first | assumption | exact eqx.rf | refine eqx.up ?_ (by decide))), hf_q⟩
  · rcases hcs with hcs | ⟨hcs1, hcs2⟩
    · refine go_aload_n (pc := 0) dX8_bring_0 rfl ?_
      refine go_aload_n (pc := 1) dX8_bring_1 rfl ?_
      refine go_iload_n (pc := 2) dX8_bring_2 rfl ?_
      refine go_i2l (pc := 3) dX8_bring_3 ?_
      refine go_V1P (pc := 4) v_X8_310 rfl rfl (rcv_of (ci := 8) (by first | exact mo0 hM_q | exact mo1 hM_q | exact mo6 hM_q | exact mo7 hM_q | exact mo8 hM_q | exact mo2 hM_q | exact mo3 hM_q | exact mo4 hM_q | exact mo5 hM_q | exact mo9 hM_q | exact mo10 hM_q | exact mo11 hM_q | exact mo12 hM_q | exact mo13 hM_q | exact mo14 hM_q | exact mo15 hM_q | exact mo16 hM_q) rfl) dX8_bring_4 (sp_isPerson (k := k - 1) hM_q (by omega) _) ?_
      refine go_if_ne (tgt := 14) (pc := 7) dX8_bring_7 (by decide) (fun h_7 => ?_) (fun h_7 => by exfalso; rw [pi_yes hB_q.1.1 (by omega) h0_q] at h_7; exact absurd h_7 (by decide))
      refine go_iload_n (pc := 14) dX8_bring_14 rfl ?_
      refine go_i2l (pc := 15) dX8_bring_15 ?_
      refine go_lconst (v := 0) (pc := 16) dX8_bring_16 rfl ?_
      refine go_aload_n (pc := 17) dX8_bring_17 rfl ?_
      refine go_getf (pc := 18) f_X8_9 dX8_bring_18 (by first | exact mo0 hM_q | exact mo1 hM_q | exact mo6 hM_q | exact mo7 hM_q | exact mo8 hM_q | exact mo2 hM_q | exact mo3 hM_q | exact mo4 hM_q | exact mo5 hM_q | exact mo9 hM_q | exact mo10 hM_q | exact mo11 hM_q | exact mo12 hM_q | exact mo13 hM_q | exact mo14 hM_q | exact mo15 hM_q | exact mo16 hM_q) (by rfl) ?_
      refine go_iconst (v := 2) (pc := 21) dX8_bring_21 (by decide) ?_
      refine go_iald (j := 2) (pc := 22) dX8_bring_22 (by first | exact mo0 hM_q | exact mo1 hM_q | exact mo6 hM_q | exact mo7 hM_q | exact mo8 hM_q | exact mo2 hM_q | exact mo3 hM_q | exact mo4 hM_q | exact mo5 hM_q | exact mo9 hM_q | exact mo10 hM_q | exact mo11 hM_q | exact mo12 hM_q | exact mo13 hM_q | exact mo14 hM_q | exact mo15 hM_q | exact mo16 hM_q) (by exact ⟨rfl, by decide⟩) ?_
      refine go_iconst (v := 1) (pc := 23) dX8_bring_23 (by decide) ?_
      refine go_isub (pc := 24) dX8_bring_24 ?_
      refine go_i2l (pc := 25) dX8_bring_25 ?_
      refine go_S3P (pc := 26) s_X8_125 rfl rfl dX8_bring_26 (sp_within (k := k - 1) _ _ _) ?_
      refine go_if_eq (tgt := 54) (pc := 29) dX8_bring_29 (by decide) (fun h_29 => ?_) (fun h_29 => by exfalso; exact h_29 (pi_no hB_q.1.2.2.1 (by omega) hcs))
      refine go_iconst (v := 2) (pc := 54) dX8_bring_54 (by decide) ?_
      refine go_mpf4 (pc := 55) hM_q dX8_bring_55 (fun σ hM_q hf9 => ?_)
      have hf_q := hf_q.tr hf9
      refine go_aload_n (pc := 58) dX8_bring_58 rfl ?_
      refine go_getf (pc := 59) f_X8_64 dX8_bring_59 (by first | exact mo0 hM_q | exact mo1 hM_q | exact mo6 hM_q | exact mo7 hM_q | exact mo8 hM_q | exact mo2 hM_q | exact mo3 hM_q | exact mo4 hM_q | exact mo5 hM_q | exact mo9 hM_q | exact mo10 hM_q | exact mo11 hM_q | exact mo12 hM_q | exact mo13 hM_q | exact mo14 hM_q | exact mo15 hM_q | exact mo16 hM_q) (by rfl) ?_
      refine go_if_le (tgt := 67) (pc := 62) dX8_bring_62 (by decide) (fun h_62 => by exfalso; exact absurd (show (2 : Int32) ≤ 0 from h_62) (by decide)) (fun h_62 => ?_)
      refine go_iconst (v := 0) (pc := 65) dX8_bring_65 (by decide) ?_
      exact go_iretI (pc := 66) rfl dX8_bring_66 (Nat.le_of_ble_eq_true rfl) (Nat.le_of_ble_eq_true rfl) ⟨(by rw [aBring, ht_q]; rfl), rfl, _, _, hM_q, ⟨(by rw [aBring, ht_q]; rfl), fun j h1_q h2_q h3_q => by simp [upd, h1_q, h2_q, h3_q]⟩, (by repeat (first | assumption | exact eqx.rf | refine eqx.up ?_ (by decide))), hf_q⟩
    · refine go_aload_n (pc := 0) dX8_bring_0 rfl ?_
      refine go_aload_n (pc := 1) dX8_bring_1 rfl ?_
      refine go_iload_n (pc := 2) dX8_bring_2 rfl ?_
      refine go_i2l (pc := 3) dX8_bring_3 ?_
      refine go_V1P (pc := 4) v_X8_310 rfl rfl (rcv_of (ci := 8) (by first | exact mo0 hM_q | exact mo1 hM_q | exact mo6 hM_q | exact mo7 hM_q | exact mo8 hM_q | exact mo2 hM_q | exact mo3 hM_q | exact mo4 hM_q | exact mo5 hM_q | exact mo9 hM_q | exact mo10 hM_q | exact mo11 hM_q | exact mo12 hM_q | exact mo13 hM_q | exact mo14 hM_q | exact mo15 hM_q | exact mo16 hM_q) rfl) dX8_bring_4 (sp_isPerson (k := k - 1) hM_q (by omega) _) ?_
      refine go_if_ne (tgt := 14) (pc := 7) dX8_bring_7 (by decide) (fun h_7 => ?_) (fun h_7 => by exfalso; rw [pi_yes hB_q.1.1 (by omega) h0_q] at h_7; exact absurd h_7 (by decide))
      refine go_iload_n (pc := 14) dX8_bring_14 rfl ?_
      refine go_i2l (pc := 15) dX8_bring_15 ?_
      refine go_lconst (v := 0) (pc := 16) dX8_bring_16 rfl ?_
      refine go_aload_n (pc := 17) dX8_bring_17 rfl ?_
      refine go_getf (pc := 18) f_X8_9 dX8_bring_18 (by first | exact mo0 hM_q | exact mo1 hM_q | exact mo6 hM_q | exact mo7 hM_q | exact mo8 hM_q | exact mo2 hM_q | exact mo3 hM_q | exact mo4 hM_q | exact mo5 hM_q | exact mo9 hM_q | exact mo10 hM_q | exact mo11 hM_q | exact mo12 hM_q | exact mo13 hM_q | exact mo14 hM_q | exact mo15 hM_q | exact mo16 hM_q) (by rfl) ?_
      refine go_iconst (v := 2) (pc := 21) dX8_bring_21 (by decide) ?_
      refine go_iald (j := 2) (pc := 22) dX8_bring_22 (by first | exact mo0 hM_q | exact mo1 hM_q | exact mo6 hM_q | exact mo7 hM_q | exact mo8 hM_q | exact mo2 hM_q | exact mo3 hM_q | exact mo4 hM_q | exact mo5 hM_q | exact mo9 hM_q | exact mo10 hM_q | exact mo11 hM_q | exact mo12 hM_q | exact mo13 hM_q | exact mo14 hM_q | exact mo15 hM_q | exact mo16 hM_q) (by exact ⟨rfl, by decide⟩) ?_
      refine go_iconst (v := 1) (pc := 23) dX8_bring_23 (by decide) ?_
      refine go_isub (pc := 24) dX8_bring_24 ?_
      refine go_i2l (pc := 25) dX8_bring_25 ?_
      refine go_S3P (pc := 26) s_X8_125 rfl rfl dX8_bring_26 (sp_within (k := k - 1) _ _ _) ?_
      refine go_if_eq (tgt := 54) (pc := 29) dX8_bring_29 (by decide) (fun h_29 => ?_) (fun h_29 => ?_)
      · refine go_iconst (v := 2) (pc := 54) dX8_bring_54 (by decide) ?_
        refine go_mpf4 (pc := 55) hM_q dX8_bring_55 (fun σ hM_q hf9 => ?_)
        have hf_q := hf_q.tr hf9
        refine go_aload_n (pc := 58) dX8_bring_58 rfl ?_
        refine go_getf (pc := 59) f_X8_64 dX8_bring_59 (by first | exact mo0 hM_q | exact mo1 hM_q | exact mo6 hM_q | exact mo7 hM_q | exact mo8 hM_q | exact mo2 hM_q | exact mo3 hM_q | exact mo4 hM_q | exact mo5 hM_q | exact mo9 hM_q | exact mo10 hM_q | exact mo11 hM_q | exact mo12 hM_q | exact mo13 hM_q | exact mo14 hM_q | exact mo15 hM_q | exact mo16 hM_q) (by rfl) ?_
        refine go_if_le (tgt := 67) (pc := 62) dX8_bring_62 (by decide) (fun h_62 => by exfalso; exact absurd (show (2 : Int32) ≤ 0 from h_62) (by decide)) (fun h_62 => ?_)
        refine go_iconst (v := 0) (pc := 65) dX8_bring_65 (by decide) ?_
        exact go_iretI (pc := 66) rfl dX8_bring_66 (Nat.le_of_ble_eq_true rfl) (Nat.le_of_ble_eq_true rfl) ⟨(by rw [aBring, ht_q]; rfl), rfl, _, _, hM_q, ⟨(by rw [aBring, ht_q]; rfl), fun j h1_q h2_q h3_q => by simp [upd, h1_q, h2_q, h3_q]⟩, (by repeat (first | assumption | exact eqx.rf | refine eqx.up ?_ (by decide))), hf_q⟩
      · refine go_iload_n (pc := 32) dX8_bring_32 rfl ?_
        refine go_if_eq (tgt := 50) (pc := 33) dX8_bring_33 (by decide) (fun h_33 => by exfalso; exact hcs1 h_33) (fun h_33 => ?_)
        refine go_iload_n (pc := 36) dX8_bring_36 rfl ?_
        refine go_i2l (pc := 37) dX8_bring_37 ?_
        refine go_ldc2 (pc := 38) kw7_211 dX8_bring_38 ?_
        refine go_ldc2 (pc := 41) kw8_68 dX8_bring_41 ?_
        refine go_S3P (pc := 44) s_X8_125 rfl rfl dX8_bring_44 (sp_within (k := k - 1) _ _ _) ?_
        refine go_if_eq (tgt := 54) (pc := 47) dX8_bring_47 (by decide) (fun h_47 => ?_) (fun h_47 => by exfalso; exact h_47 (wi_no hcs2 (by decide) (by decide)))
        refine go_iconst (v := 2) (pc := 54) dX8_bring_54 (by decide) ?_
        refine go_mpf4 (pc := 55) hM_q dX8_bring_55 (fun σ hM_q hf9 => ?_)
        have hf_q := hf_q.tr hf9
        refine go_aload_n (pc := 58) dX8_bring_58 rfl ?_
        refine go_getf (pc := 59) f_X8_64 dX8_bring_59 (by first | exact mo0 hM_q | exact mo1 hM_q | exact mo6 hM_q | exact mo7 hM_q | exact mo8 hM_q | exact mo2 hM_q | exact mo3 hM_q | exact mo4 hM_q | exact mo5 hM_q | exact mo9 hM_q | exact mo10 hM_q | exact mo11 hM_q | exact mo12 hM_q | exact mo13 hM_q | exact mo14 hM_q | exact mo15 hM_q | exact mo16 hM_q) (by rfl) ?_
        refine go_if_le (tgt := 67) (pc := 62) dX8_bring_62 (by decide) (fun h_62 => by exfalso; exact absurd (show (2 : Int32) ≤ 0 from h_62) (by decide)) (fun h_62 => ?_)
        refine go_iconst (v := 0) (pc := 65) dX8_bring_65 (by decide) ?_
        exact go_iretI (pc := 66) rfl dX8_bring_66 (Nat.le_of_ble_eq_true rfl) (Nat.le_of_ble_eq_true rfl) ⟨(by rw [aBring, ht_q]; rfl), rfl, _, _, hM_q, ⟨(by rw [aBring, ht_q]; rfl), fun j h1_q h2_q h3_q => by simp [upd, h1_q, h2_q, h3_q]⟩, (by repeat (first | assumption | exact eqx.rf | refine eqx.up ?_ (by decide))), hf_q⟩
  · have h01 := pN_some h0_q
    have e1_q := h01.1
    obtain rfl := I_nat e1_q (by omega)
    have han : aBring K (nI j1_q).toInt w z = (0, if upK K j1_q = true then -1 else bgA (bgK K j1_q w) z) := by rw [aBring, ht_q, e1_q]; rfl
    rcases hz3 with hz3 | ⟨z3, hz3⟩
    · refine go_aload_n (pc := 0) dX8_bring_0 rfl ?_
      refine go_aload_n (pc := 1) dX8_bring_1 rfl ?_
      refine go_iload_n (pc := 2) dX8_bring_2 rfl ?_
      refine go_i2l (pc := 3) dX8_bring_3 ?_
      refine go_V1P (pc := 4) v_X8_310 rfl rfl (rcv_of (ci := 8) (by first | exact mo0 hM_q | exact mo1 hM_q | exact mo6 hM_q | exact mo7 hM_q | exact mo8 hM_q | exact mo2 hM_q | exact mo3 hM_q | exact mo4 hM_q | exact mo5 hM_q | exact mo9 hM_q | exact mo10 hM_q | exact mo11 hM_q | exact mo12 hM_q | exact mo13 hM_q | exact mo14 hM_q | exact mo15 hM_q | exact mo16 hM_q) rfl) dX8_bring_4 (sp_isPerson (k := k - 1) hM_q (by omega) _) ?_
      refine go_if_ne (tgt := 14) (pc := 7) dX8_bring_7 (by decide) (fun h_7 => ?_) (fun h_7 => by exfalso; rw [pi_yes hB_q.1.1 (by omega) h0_q] at h_7; exact absurd h_7 (by decide))
      refine go_iload_n (pc := 14) dX8_bring_14 rfl ?_
      refine go_i2l (pc := 15) dX8_bring_15 ?_
      refine go_lconst (v := 0) (pc := 16) dX8_bring_16 rfl ?_
      refine go_aload_n (pc := 17) dX8_bring_17 rfl ?_
      refine go_getf (pc := 18) f_X8_9 dX8_bring_18 (by first | exact mo0 hM_q | exact mo1 hM_q | exact mo6 hM_q | exact mo7 hM_q | exact mo8 hM_q | exact mo2 hM_q | exact mo3 hM_q | exact mo4 hM_q | exact mo5 hM_q | exact mo9 hM_q | exact mo10 hM_q | exact mo11 hM_q | exact mo12 hM_q | exact mo13 hM_q | exact mo14 hM_q | exact mo15 hM_q | exact mo16 hM_q) (by rfl) ?_
      refine go_iconst (v := 2) (pc := 21) dX8_bring_21 (by decide) ?_
      refine go_iald (j := 2) (pc := 22) dX8_bring_22 (by first | exact mo0 hM_q | exact mo1 hM_q | exact mo6 hM_q | exact mo7 hM_q | exact mo8 hM_q | exact mo2 hM_q | exact mo3 hM_q | exact mo4 hM_q | exact mo5 hM_q | exact mo9 hM_q | exact mo10 hM_q | exact mo11 hM_q | exact mo12 hM_q | exact mo13 hM_q | exact mo14 hM_q | exact mo15 hM_q | exact mo16 hM_q) (by exact ⟨rfl, by decide⟩) ?_
      refine go_iconst (v := 1) (pc := 23) dX8_bring_23 (by decide) ?_
      refine go_isub (pc := 24) dX8_bring_24 ?_
      refine go_i2l (pc := 25) dX8_bring_25 ?_
      refine go_S3P (pc := 26) s_X8_125 rfl rfl dX8_bring_26 (sp_within (k := k - 1) _ _ _) ?_
      refine go_if_eq (tgt := 54) (pc := 29) dX8_bring_29 (by decide) (fun h_29 => by exfalso; rw [pi_yes hB_q.1.2.2.1 (by omega) hw2] at h_29; exact absurd h_29 (by decide)) (fun h_29 => ?_)
      refine go_iload_n (pc := 32) dX8_bring_32 rfl ?_
      refine go_if_eq (tgt := 50) (pc := 33) dX8_bring_33 (by decide) (fun h_33 => ?_) (fun h_33 => by exfalso; exact h_33 hz3)
      refine go_iconst (v := 0) (pc := 50) dX8_bring_50 (by decide) ?_
      refine go_goto (tgt := 55) (pc := 51) dX8_bring_51 (by decide) ?_
      refine go_mpf4 (pc := 55) hM_q dX8_bring_55 (fun σ hM_q hf9 => ?_)
      have hf_q := hf_q.tr hf9
      refine go_aload_n (pc := 58) dX8_bring_58 rfl ?_
      refine go_getf (pc := 59) f_X8_64 dX8_bring_59 (by first | exact mo0 hM_q | exact mo1 hM_q | exact mo6 hM_q | exact mo7 hM_q | exact mo8 hM_q | exact mo2 hM_q | exact mo3 hM_q | exact mo4 hM_q | exact mo5 hM_q | exact mo9 hM_q | exact mo10 hM_q | exact mo11 hM_q | exact mo12 hM_q | exact mo13 hM_q | exact mo14 hM_q | exact mo15 hM_q | exact mo16 hM_q) (by rfl) ?_
      refine go_if_le (tgt := 67) (pc := 62) dX8_bring_62 (by decide) (fun h_62 => ?_) (fun h_62 => by exfalso; exact h_62 (show (0 : Int32) ≤ 0 from by decide))
      refine go_aload_n (pc := 67) dX8_bring_67 rfl ?_
      refine go_iload_n (pc := 68) dX8_bring_68 rfl ?_
      refine go_V1P (pc := 69) v_X8_296 rfl rfl (rcv_of (ci := 8) (by first | exact mo0 hM_q | exact mo1 hM_q | exact mo6 hM_q | exact mo7 hM_q | exact mo8 hM_q | exact mo2 hM_q | exact mo3 hM_q | exact mo4 hM_q | exact mo5 hM_q | exact mo9 hM_q | exact mo10 hM_q | exact mo11 hM_q | exact mo12 hM_q | exact mo13 hM_q | exact mo14 hM_q | exact mo15 hM_q | exact mo16 hM_q) rfl) dX8_bring_69 (sp_isUp (k := k - 1) hM_q (by omega)) ?_
      refine go_if_eq (tgt := 77) (pc := 72) dX8_bring_72 (by decide) (fun h_72 => ?_) (fun h_72 => ?_)
      · have hup : upK K j1_q = false := upK_f.mpr (bI_0.mp h_72)
        rw [hup, if_neg (by decide)] at han
        refine go_aload_n (pc := 77) dX8_bring_77 rfl ?_
        refine go_V0V (pc := 78) v_X8_369 rfl rfl (rcv_of (ci := 8) (by first | exact mo0 hM_q | exact mo1 hM_q | exact mo6 hM_q | exact mo7 hM_q | exact mo8 hM_q | exact mo2 hM_q | exact mo3 hM_q | exact mo4 hM_q | exact mo5 hM_q | exact mo9 hM_q | exact mo10 hM_q | exact mo11 hM_q | exact mo12 hM_q | exact mo13 hM_q | exact mo14 hM_q | exact mo15 hM_q | exact mo16 hM_q) rfl) dX8_bring_78 (sp_putsAside (k := k - 1) hM_q) (fun σ n h_q => ?_)
        obtain ⟨rfl, A1, hM_q, hA1, hf1, hG_q⟩ := h_q
        have hA_q := eqx.tr (A := A) (L := [6, 7, 8, 9, 10, 11, 12, 13]) (by repeat (first | assumption | exact eqx.rf | refine eqx.up ?_ (by decide))) (hA1.wk (by decide))
        have hf_q := hf_q.tr hf1
        refine go_iconst (v := 0) (pc := 81) dX8_bring_81 (by decide) ?_
        refine go_istore (lw := [_, _, _, _, _, _]) (pc := 82) dX8_bring_82 (by decide) rfl ?_
        refine go_iconst (v := 0) (pc := 84) dX8_bring_84 (by decide) ?_
        refine go_istore (lw := [_, _, _, _, _, _]) (pc := 85) dX8_bring_85 (by decide) rfl ?_
        refine go_iter (8) (fun i_q lv9 s9 n9 => ∃ (is_q : Int32), ∃ A9_q, lv9 = [some (.ref r), some (.int (nI j1_q)), some (.int w), some (.int z), some (.int (nI i_q)), some (.int is_q)] ∧ (MoAt Γ s9 r (upd F 4 0) K A9_q Nm) ∧ (eqx [6, 7, 8, 9, 10, 11, 12, 13] A A9_q) ∧ (fr r (r + 16) z0 s9) ∧ (∀ j, j < 26 → A9_q 8 j = K (8 + j)) ∧ ((is_q = 0 ∧ ∀ q, q < i_q → brK j1_q w q K = none) ∨ (is_q = 1 ∧ ∃ m l, i_q = m + 1 ∧ brK j1_q w m K = some l ∧ (∀ q, q < m → brK j1_q w q K = none) ∧ ∀ j, j < m → A9_q 10 j = nI (l.getD j 0))) ∧ n = n9) ⟨0, _, rfl, hM_q, hA_q, hf_q, hG_q, (Or.inl ⟨rfl, fun q hq_q => absurd hq_q (by omega)⟩), rfl⟩ ?_ ?_
        · rintro i_q lv9 σ n9 hi_q ⟨is_q, A9_q, rfl, hM_q, hA_q, hf_q, hG_q, hR_q, rfl⟩ ih_q
          refine go_iload (pc := 87) dX8_bring_87 rfl ?_
          refine go_bipush (v := 8) (pc := 89) dX8_bring_89 (by decide) ?_
          refine go_icmp_ge (tgt := 120) (pc := 91) dX8_bring_91 (by decide) (fun h_91 => by exfalso; exact absurd h_91 (nI_ge (b := 8) (by omega) (by decide))) (fun h_91 => ?_)
          refine go_iload (pc := 94) dX8_bring_94 rfl ?_
          refine go_if_ne (tgt := 120) (pc := 96) dX8_bring_96 (by decide) (fun h_96 => ?_) (fun h_96 => ?_)
          · refine go_iload (pc := 120) dX8_bring_120 rfl ?_
            refine go_if_ne (tgt := 127) (pc := 122) dX8_bring_122 (by decide) (fun h_122 => ?_) (fun h_122 => by exfalso; exact h_96 h_122)
            obtain ⟨-, m9_q, l9_q, em9, hl9, hn9, hr9⟩ := hR_q.resolve_left (fun hc_q => h_122 hc_q.1)
            first
              | subst em9
              | (obtain rfl : m9_q = 7 := (by omega))
            have hlen := br_len hl9
            have hb9 : bgK K j1_q w = some l9_q := fs_at (f := fun m => brK j1_q w m K) hl9 (by omega) hn9
            refine go_iload_n (pc := 127) dX8_bring_127 rfl ?_
            refine go_if_ne (tgt := 138) (pc := 128) dX8_bring_128 (by decide) (fun h_128 => by exfalso; exact absurd hz3 h_128) (fun h_128 => ?_)
            refine go_iload (pc := 131) dX8_bring_131 rfl ?_
            refine go_iconst (v := 1) (pc := 133) dX8_bring_133 (by decide) ?_
            refine go_isub (pc := 134) dX8_bring_134 ?_
            rw [nI_pred]
            refine go_goto (tgt := 162) (pc := 135) dX8_bring_135 (by decide) ?_
            exact go_iretI (pc := 162) rfl dX8_bring_162 (Nat.le_of_ble_eq_true rfl) (Nat.le_of_ble_eq_true rfl) ⟨(by rw [han, hb9]; simp only [bgA]; rw [if_pos hz3, hlen]), rfl, _, _, hM_q, ⟨(by rw [han]; rfl), fun j h1_q h2_q h3_q => by simp [upd, h1_q, h2_q, h3_q]⟩, (by repeat (first | assumption | exact eqx.rf | refine eqx.up ?_ (by decide))), hf_q⟩
          · obtain ⟨-, hn9⟩ := hR_q.resolve_right (fun hc_q => by rw [hc_q.1] at h_96; exact absurd h_96 (by decide))
            refine go_aload_n (pc := 99) dX8_bring_99 rfl ?_
            refine go_iload_n (pc := 100) dX8_bring_100 rfl ?_
            refine go_iload_n (pc := 101) dX8_bring_101 rfl ?_
            refine go_iconst (v := 0) (pc := 102) dX8_bring_102 (by decide) ?_
            refine go_iload (pc := 103) dX8_bring_103 rfl ?_
            refine go_V4I (pc := 105) v_X8_408 rfl rfl (rcv_of (ci := 8) (by first | exact mo0 hM_q | exact mo1 hM_q | exact mo6 hM_q | exact mo7 hM_q | exact mo8 hM_q | exact mo2 hM_q | exact mo3 hM_q | exact mo4 hM_q | exact mo5 hM_q | exact mo9 hM_q | exact mo10 hM_q | exact mo11 hM_q | exact mo12 hM_q | exact mo13 hM_q | exact mo14 hM_q | exact mo15 hM_q | exact mo16 hM_q) rfl) dX8_bring_105 (sp_brings (p := j1_q) (to := w) (by omega) i_q (k - 1) 0 K _ _ hM_q (by omega) hB_q hv_q (by omega)) (fun v_105 σ n h_q => ?_)
            obtain ⟨rfl, rfl, K2, A2, hM_q, hS2, -, hA2, -, hrb, -, hf2⟩ := h_q
            have hA_q := eqx.tr (A := A) (L := [6, 7, 8, 9, 10, 11, 12, 13]) hA_q (hA2.wk (by decide))
            have hf_q := hf_q.tr hf2
            have hG_q : ∀ j, j < 26 → A2 8 j = K (8 + j) := fun j hj_q => by rw [hA2 8 (by decide)]; exact hG_q j hj_q
            refine go_istore (lw := [_, _, _, _, _, _]) (pc := 108) dX8_bring_108 (by decide) rfl ?_
            refine go_aload_n (pc := 110) dX8_bring_110 rfl ?_
            refine go_V0V (pc := 111) v_X8_381 rfl rfl (rcv_of (ci := 8) (by first | exact mo0 hM_q | exact mo1 hM_q | exact mo6 hM_q | exact mo7 hM_q | exact mo8 hM_q | exact mo2 hM_q | exact mo3 hM_q | exact mo4 hM_q | exact mo5 hM_q | exact mo9 hM_q | exact mo10 hM_q | exact mo11 hM_q | exact mo12 hM_q | exact mo13 hM_q | exact mo14 hM_q | exact mo15 hM_q | exact mo16 hM_q) rfl) dX8_bring_111 (sp_putsBack (k := k - 1) hM_q) (fun σ n h_q => ?_)
            obtain ⟨rfl, A1, hM_q, hA1, hf1⟩ := h_q
            have hA_q := eqx.tr (A := A) (L := [6, 7, 8, 9, 10, 11, 12, 13]) (by repeat (first | assumption | exact eqx.rf | refine eqx.up ?_ (by decide))) (hA1.wk (by decide))
            have hf_q := hf_q.tr hf1
            rw [setS_back hS2 hG_q] at hM_q
            have hG_q : ∀ j, j < 26 → A1 8 j = K (8 + j) := fun j hj_q => by rw [hA1 8 (by decide)]; exact hG_q j hj_q
            refine go_iinc (v := 1) (lw := [_, _, _, _, _, _]) (pc := 114) dX8_bring_114 rfl (by decide) (by decide) rfl ?_
            refine go_goto (tgt := 87) (pc := 117) dX8_bring_117 (by decide) ?_
            rw [nI_1]
            refine ih_q _ _ _ ⟨_, _, rfl, hM_q, hA_q, hf_q, hG_q, ?_, rfl⟩
            cases hbr : brK j1_q w i_q K with
            | none => exact Or.inl ⟨by simp [bI], fun q hq_q => (Nat.lt_or_ge q i_q).elim (hn9 q) (fun hq2 => by obtain rfl : i_q = q := (by omega); exact hbr)⟩
            | some l9_q => exact Or.inr ⟨by simp [bI], i_q, l9_q, rfl, hbr, hn9, fun j hj_q => by rw [hA1 10 (by decide), ← Nat.zero_add j]; rw [hrb l9_q hbr j hj_q, Nat.zero_add]⟩
        · rintro lv9 σ n9 ⟨is_q, A9_q, rfl, hM_q, hA_q, hf_q, hG_q, hR_q, rfl⟩
          refine go_iload (pc := 87) dX8_bring_87 rfl ?_
          refine go_bipush (v := 8) (pc := 89) dX8_bring_89 (by decide) ?_
          refine go_icmp_ge (tgt := 120) (pc := 91) dX8_bring_91 (by decide) (fun h_91 => ?_) (fun h_91 => by exfalso; exact h_91 (by decide))
          refine go_iload (pc := 120) dX8_bring_120 rfl ?_
          refine go_if_ne (tgt := 127) (pc := 122) dX8_bring_122 (by decide) (fun h_122 => ?_) (fun h_122 => ?_)
          · obtain ⟨-, m9_q, l9_q, em9, hl9, hn9, hr9⟩ := hR_q.resolve_left (fun hc_q => h_122 hc_q.1)
            first
              | subst em9
              | (obtain rfl : m9_q = 7 := (by omega))
            have hlen := br_len hl9
            have hb9 : bgK K j1_q w = some l9_q := fs_at (f := fun m => brK j1_q w m K) hl9 (by omega) hn9
            refine go_iload_n (pc := 127) dX8_bring_127 rfl ?_
            refine go_if_ne (tgt := 138) (pc := 128) dX8_bring_128 (by decide) (fun h_128 => by exfalso; exact absurd hz3 h_128) (fun h_128 => ?_)
            refine go_iload (pc := 131) dX8_bring_131 rfl ?_
            refine go_iconst (v := 1) (pc := 133) dX8_bring_133 (by decide) ?_
            refine go_isub (pc := 134) dX8_bring_134 ?_
            rw [nI_pred]
            refine go_goto (tgt := 162) (pc := 135) dX8_bring_135 (by decide) ?_
            exact go_iretI (pc := 162) rfl dX8_bring_162 (Nat.le_of_ble_eq_true rfl) (Nat.le_of_ble_eq_true rfl) ⟨(by rw [han, hb9]; simp only [bgA]; rw [if_pos hz3, hlen]), rfl, _, _, hM_q, ⟨(by rw [han]; rfl), fun j h1_q h2_q h3_q => by simp [upd, h1_q, h2_q, h3_q]⟩, (by repeat (first | assumption | exact eqx.rf | refine eqx.up ?_ (by decide))), hf_q⟩
          · have hR_q := (hR_q.resolve_right (fun hc_q => by rw [hc_q.1] at h_122; exact absurd h_122 (by decide))).2
            have hno : bgA (bgK K j1_q w) z = -1 := by rw [bgK, fs_all (fun q _ hq_q => hR_q q (by omega))]; rfl
            refine go_iconst (v := -1) (pc := 125) dX8_bring_125 (by decide) ?_
            exact go_iretI (pc := 126) rfl dX8_bring_126 (Nat.le_of_ble_eq_true rfl) (Nat.le_of_ble_eq_true rfl) ⟨(by rw [han, hno]), rfl, _, _, hM_q, ⟨(by rw [han]; rfl), fun j h1_q h2_q h3_q => by simp [upd, h1_q, h2_q, h3_q]⟩, (by repeat (first | assumption | exact eqx.rf | refine eqx.up ?_ (by decide))), hf_q⟩
      · refine go_iconst (v := -1) (pc := 75) dX8_bring_75 (by decide) ?_
        exact go_iretI (pc := 76) rfl dX8_bring_76 (Nat.le_of_ble_eq_true rfl) (Nat.le_of_ble_eq_true rfl) ⟨(by rw [han, if_pos (upK_iff.mpr (Decidable.not_not.mp (fun hc_q => h_72 (bI_0.mpr hc_q))))]), rfl, _, _, hM_q, ⟨(by rw [han]; rfl), fun j h1_q h2_q h3_q => by simp [upd, h1_q, h2_q, h3_q]⟩, (by repeat (first | assumption | exact eqx.rf | refine eqx.up ?_ (by decide))), hf_q⟩
    · have hz0 : ¬ z = 0 := fun hc_q => by rw [hc_q] at hz3; cases hz3
      refine go_aload_n (pc := 0) dX8_bring_0 rfl ?_
      refine go_aload_n (pc := 1) dX8_bring_1 rfl ?_
      refine go_iload_n (pc := 2) dX8_bring_2 rfl ?_
      refine go_i2l (pc := 3) dX8_bring_3 ?_
      refine go_V1P (pc := 4) v_X8_310 rfl rfl (rcv_of (ci := 8) (by first | exact mo0 hM_q | exact mo1 hM_q | exact mo6 hM_q | exact mo7 hM_q | exact mo8 hM_q | exact mo2 hM_q | exact mo3 hM_q | exact mo4 hM_q | exact mo5 hM_q | exact mo9 hM_q | exact mo10 hM_q | exact mo11 hM_q | exact mo12 hM_q | exact mo13 hM_q | exact mo14 hM_q | exact mo15 hM_q | exact mo16 hM_q) rfl) dX8_bring_4 (sp_isPerson (k := k - 1) hM_q (by omega) _) ?_
      refine go_if_ne (tgt := 14) (pc := 7) dX8_bring_7 (by decide) (fun h_7 => ?_) (fun h_7 => by exfalso; rw [pi_yes hB_q.1.1 (by omega) h0_q] at h_7; exact absurd h_7 (by decide))
      refine go_iload_n (pc := 14) dX8_bring_14 rfl ?_
      refine go_i2l (pc := 15) dX8_bring_15 ?_
      refine go_lconst (v := 0) (pc := 16) dX8_bring_16 rfl ?_
      refine go_aload_n (pc := 17) dX8_bring_17 rfl ?_
      refine go_getf (pc := 18) f_X8_9 dX8_bring_18 (by first | exact mo0 hM_q | exact mo1 hM_q | exact mo6 hM_q | exact mo7 hM_q | exact mo8 hM_q | exact mo2 hM_q | exact mo3 hM_q | exact mo4 hM_q | exact mo5 hM_q | exact mo9 hM_q | exact mo10 hM_q | exact mo11 hM_q | exact mo12 hM_q | exact mo13 hM_q | exact mo14 hM_q | exact mo15 hM_q | exact mo16 hM_q) (by rfl) ?_
      refine go_iconst (v := 2) (pc := 21) dX8_bring_21 (by decide) ?_
      refine go_iald (j := 2) (pc := 22) dX8_bring_22 (by first | exact mo0 hM_q | exact mo1 hM_q | exact mo6 hM_q | exact mo7 hM_q | exact mo8 hM_q | exact mo2 hM_q | exact mo3 hM_q | exact mo4 hM_q | exact mo5 hM_q | exact mo9 hM_q | exact mo10 hM_q | exact mo11 hM_q | exact mo12 hM_q | exact mo13 hM_q | exact mo14 hM_q | exact mo15 hM_q | exact mo16 hM_q) (by exact ⟨rfl, by decide⟩) ?_
      refine go_iconst (v := 1) (pc := 23) dX8_bring_23 (by decide) ?_
      refine go_isub (pc := 24) dX8_bring_24 ?_
      refine go_i2l (pc := 25) dX8_bring_25 ?_
      refine go_S3P (pc := 26) s_X8_125 rfl rfl dX8_bring_26 (sp_within (k := k - 1) _ _ _) ?_
      refine go_if_eq (tgt := 54) (pc := 29) dX8_bring_29 (by decide) (fun h_29 => by exfalso; rw [pi_yes hB_q.1.2.2.1 (by omega) hw2] at h_29; exact absurd h_29 (by decide)) (fun h_29 => ?_)
      refine go_iload_n (pc := 32) dX8_bring_32 rfl ?_
      refine go_if_eq (tgt := 50) (pc := 33) dX8_bring_33 (by decide) (fun h_33 => by exfalso; exact hz0 h_33) (fun h_33 => ?_)
      refine go_iload_n (pc := 36) dX8_bring_36 rfl ?_
      refine go_i2l (pc := 37) dX8_bring_37 ?_
      refine go_ldc2 (pc := 38) kw7_211 dX8_bring_38 ?_
      refine go_ldc2 (pc := 41) kw8_68 dX8_bring_41 ?_
      refine go_S3P (pc := 44) s_X8_125 rfl rfl dX8_bring_44 (sp_within (k := k - 1) _ _ _) ?_
      refine go_if_eq (tgt := 54) (pc := 47) dX8_bring_47 (by decide) (fun h_47 => by exfalso; rw [wi_yes hz3 (by decide) (by decide)] at h_47; exact absurd h_47 (by decide)) (fun h_47 => ?_)
      refine go_iconst (v := 0) (pc := 50) dX8_bring_50 (by decide) ?_
      refine go_goto (tgt := 55) (pc := 51) dX8_bring_51 (by decide) ?_
      refine go_mpf4 (pc := 55) hM_q dX8_bring_55 (fun σ hM_q hf9 => ?_)
      have hf_q := hf_q.tr hf9
      refine go_aload_n (pc := 58) dX8_bring_58 rfl ?_
      refine go_getf (pc := 59) f_X8_64 dX8_bring_59 (by first | exact mo0 hM_q | exact mo1 hM_q | exact mo6 hM_q | exact mo7 hM_q | exact mo8 hM_q | exact mo2 hM_q | exact mo3 hM_q | exact mo4 hM_q | exact mo5 hM_q | exact mo9 hM_q | exact mo10 hM_q | exact mo11 hM_q | exact mo12 hM_q | exact mo13 hM_q | exact mo14 hM_q | exact mo15 hM_q | exact mo16 hM_q) (by rfl) ?_
      refine go_if_le (tgt := 67) (pc := 62) dX8_bring_62 (by decide) (fun h_62 => ?_) (fun h_62 => by exfalso; exact h_62 (show (0 : Int32) ≤ 0 from by decide))
      refine go_aload_n (pc := 67) dX8_bring_67 rfl ?_
      refine go_iload_n (pc := 68) dX8_bring_68 rfl ?_
      refine go_V1P (pc := 69) v_X8_296 rfl rfl (rcv_of (ci := 8) (by first | exact mo0 hM_q | exact mo1 hM_q | exact mo6 hM_q | exact mo7 hM_q | exact mo8 hM_q | exact mo2 hM_q | exact mo3 hM_q | exact mo4 hM_q | exact mo5 hM_q | exact mo9 hM_q | exact mo10 hM_q | exact mo11 hM_q | exact mo12 hM_q | exact mo13 hM_q | exact mo14 hM_q | exact mo15 hM_q | exact mo16 hM_q) rfl) dX8_bring_69 (sp_isUp (k := k - 1) hM_q (by omega)) ?_
      refine go_if_eq (tgt := 77) (pc := 72) dX8_bring_72 (by decide) (fun h_72 => ?_) (fun h_72 => ?_)
      · have hup : upK K j1_q = false := upK_f.mpr (bI_0.mp h_72)
        rw [hup, if_neg (by decide)] at han
        refine go_aload_n (pc := 77) dX8_bring_77 rfl ?_
        refine go_V0V (pc := 78) v_X8_369 rfl rfl (rcv_of (ci := 8) (by first | exact mo0 hM_q | exact mo1 hM_q | exact mo6 hM_q | exact mo7 hM_q | exact mo8 hM_q | exact mo2 hM_q | exact mo3 hM_q | exact mo4 hM_q | exact mo5 hM_q | exact mo9 hM_q | exact mo10 hM_q | exact mo11 hM_q | exact mo12 hM_q | exact mo13 hM_q | exact mo14 hM_q | exact mo15 hM_q | exact mo16 hM_q) rfl) dX8_bring_78 (sp_putsAside (k := k - 1) hM_q) (fun σ n h_q => ?_)
        obtain ⟨rfl, A1, hM_q, hA1, hf1, hG_q⟩ := h_q
        have hA_q := eqx.tr (A := A) (L := [6, 7, 8, 9, 10, 11, 12, 13]) (by repeat (first | assumption | exact eqx.rf | refine eqx.up ?_ (by decide))) (hA1.wk (by decide))
        have hf_q := hf_q.tr hf1
        refine go_iconst (v := 0) (pc := 81) dX8_bring_81 (by decide) ?_
        refine go_istore (lw := [_, _, _, _, _, _]) (pc := 82) dX8_bring_82 (by decide) rfl ?_
        refine go_iconst (v := 0) (pc := 84) dX8_bring_84 (by decide) ?_
        refine go_istore (lw := [_, _, _, _, _, _]) (pc := 85) dX8_bring_85 (by decide) rfl ?_
        refine go_iter (8) (fun i_q lv9 s9 n9 => ∃ (is_q : Int32), ∃ A9_q, lv9 = [some (.ref r), some (.int (nI j1_q)), some (.int w), some (.int z), some (.int (nI i_q)), some (.int is_q)] ∧ (MoAt Γ s9 r (upd F 4 0) K A9_q Nm) ∧ (eqx [6, 7, 8, 9, 10, 11, 12, 13] A A9_q) ∧ (fr r (r + 16) z0 s9) ∧ (∀ j, j < 26 → A9_q 8 j = K (8 + j)) ∧ ((is_q = 0 ∧ ∀ q, q < i_q → brK j1_q w q K = none) ∨ (is_q = 1 ∧ ∃ m l, i_q = m + 1 ∧ brK j1_q w m K = some l ∧ (∀ q, q < m → brK j1_q w q K = none) ∧ ∀ j, j < m → A9_q 10 j = nI (l.getD j 0))) ∧ n = n9) ⟨0, _, rfl, hM_q, hA_q, hf_q, hG_q, (Or.inl ⟨rfl, fun q hq_q => absurd hq_q (by omega)⟩), rfl⟩ ?_ ?_
        · rintro i_q lv9 σ n9 hi_q ⟨is_q, A9_q, rfl, hM_q, hA_q, hf_q, hG_q, hR_q, rfl⟩ ih_q
          refine go_iload (pc := 87) dX8_bring_87 rfl ?_
          refine go_bipush (v := 8) (pc := 89) dX8_bring_89 (by decide) ?_
          refine go_icmp_ge (tgt := 120) (pc := 91) dX8_bring_91 (by decide) (fun h_91 => by exfalso; exact absurd h_91 (nI_ge (b := 8) (by omega) (by decide))) (fun h_91 => ?_)
          refine go_iload (pc := 94) dX8_bring_94 rfl ?_
          refine go_if_ne (tgt := 120) (pc := 96) dX8_bring_96 (by decide) (fun h_96 => ?_) (fun h_96 => ?_)
          · refine go_iload (pc := 120) dX8_bring_120 rfl ?_
            refine go_if_ne (tgt := 127) (pc := 122) dX8_bring_122 (by decide) (fun h_122 => ?_) (fun h_122 => by exfalso; exact h_96 h_122)
            obtain ⟨-, m9_q, l9_q, em9, hl9, hn9, hr9⟩ := hR_q.resolve_left (fun hc_q => h_122 hc_q.1)
            first
              | subst em9
              | (obtain rfl : m9_q = 7 := (by omega))
            have hlen := br_len hl9
            have hb9 : bgK K j1_q w = some l9_q := fs_at (f := fun m => brK j1_q w m K) hl9 (by omega) hn9
            have hz1 := rN_some hz3
            obtain ⟨z9_q, hz9⟩ : ∃ z9_q, z9_q = z.toInt.toNat - 10 := ⟨_, rfl⟩
            have ez : z - 10 = nI z9_q := by rw [I_nat hz1.1 (by omega)]; rw [show (10 : Int32) = nI 10 from rfl, pk_sub (by omega), hz9, hz1.1]; rfl
            refine go_iload_n (pc := 127) dX8_bring_127 rfl ?_
            refine go_if_ne (tgt := 138) (pc := 128) dX8_bring_128 (by decide) (fun h_128 => ?_) (fun h_128 => by exfalso; exact hz0 h_128)
            refine go_iload_n (pc := 138) dX8_bring_138 rfl ?_
            refine go_bipush (v := 10) (pc := 139) dX8_bring_139 (by decide) ?_
            refine go_isub (pc := 141) dX8_bring_141 ?_
            refine go_iload (pc := 142) dX8_bring_142 rfl ?_
            refine go_iconst (v := 1) (pc := 144) dX8_bring_144 (by decide) ?_
            refine go_isub (pc := 145) dX8_bring_145 ?_
            rw [nI_pred, ez]
            refine go_icmp_ge (tgt := 161) (pc := 146) dX8_bring_146 (by decide) (fun h_146 => ?_) (fun h_146 => ?_)
            · refine go_iconst (v := -1) (pc := 161) dX8_bring_161 (by decide) ?_
              exact go_iretI (pc := 162) rfl dX8_bring_162 (Nat.le_of_ble_eq_true rfl) (Nat.le_of_ble_eq_true rfl) ⟨(by rw [han, hb9]; simp only [bgA]; rw [if_neg hz0, hlen, ez]; first | (rw [if_pos (Int32.not_le.mp h_146)]; rw [nI_clamp (by omega)]; exact hr9 z9_q (by omega)) | rw [if_neg (Int32.not_lt.mpr h_146)]), rfl, _, _, hM_q, ⟨(by rw [han]; rfl), fun j h1_q h2_q h3_q => by simp [upd, h1_q, h2_q, h3_q]⟩, (by repeat (first | assumption | exact eqx.rf | refine eqx.up ?_ (by decide))), hf_q⟩
            · have hlt : z9_q < l9_q.length := by rw [hlen]; exact Nat.lt_of_not_le (fun hc_q => h_146 (nI_le hc_q (by omega)))
              refine go_aload_n (pc := 149) dX8_bring_149 rfl ?_
              refine go_getf (pc := 150) f_X8_42 dX8_bring_150 (by first | exact mo0 hM_q | exact mo1 hM_q | exact mo6 hM_q | exact mo7 hM_q | exact mo8 hM_q | exact mo2 hM_q | exact mo3 hM_q | exact mo4 hM_q | exact mo5 hM_q | exact mo9 hM_q | exact mo10 hM_q | exact mo11 hM_q | exact mo12 hM_q | exact mo13 hM_q | exact mo14 hM_q | exact mo15 hM_q | exact mo16 hM_q) (by rfl) ?_
              refine go_iload_n (pc := 153) dX8_bring_153 rfl ?_
              refine go_bipush (v := 10) (pc := 154) dX8_bring_154 (by decide) ?_
              refine go_isub (pc := 156) dX8_bring_156 ?_
              refine go_iald (pc := 157) dX8_bring_157 (by first | exact mo0 hM_q | exact mo1 hM_q | exact mo6 hM_q | exact mo7 hM_q | exact mo8 hM_q | exact mo2 hM_q | exact mo3 hM_q | exact mo4 hM_q | exact mo5 hM_q | exact mo9 hM_q | exact mo10 hM_q | exact mo11 hM_q | exact mo12 hM_q | exact mo13 hM_q | exact mo14 hM_q | exact mo15 hM_q | exact mo16 hM_q) (by exact ⟨ez, by omega⟩) ?_
              refine go_goto (tgt := 162) (pc := 158) dX8_bring_158 (by decide) ?_
              exact go_iretI (pc := 162) rfl dX8_bring_162 (Nat.le_of_ble_eq_true rfl) (Nat.le_of_ble_eq_true rfl) ⟨(by rw [han, hb9]; simp only [bgA]; rw [if_neg hz0, hlen, ez]; first | (rw [if_pos (Int32.not_le.mp h_146)]; rw [nI_clamp (by omega)]; exact hr9 z9_q (by omega)) | rw [if_neg (Int32.not_lt.mpr h_146)]), rfl, _, _, hM_q, ⟨(by rw [han]; rfl), fun j h1_q h2_q h3_q => by simp [upd, h1_q, h2_q, h3_q]⟩, (by repeat (first | assumption | exact eqx.rf | refine eqx.up ?_ (by decide))), hf_q⟩
          · obtain ⟨-, hn9⟩ := hR_q.resolve_right (fun hc_q => by rw [hc_q.1] at h_96; exact absurd h_96 (by decide))
            refine go_aload_n (pc := 99) dX8_bring_99 rfl ?_
            refine go_iload_n (pc := 100) dX8_bring_100 rfl ?_
            refine go_iload_n (pc := 101) dX8_bring_101 rfl ?_
            refine go_iconst (v := 0) (pc := 102) dX8_bring_102 (by decide) ?_
            refine go_iload (pc := 103) dX8_bring_103 rfl ?_
            refine go_V4I (pc := 105) v_X8_408 rfl rfl (rcv_of (ci := 8) (by first | exact mo0 hM_q | exact mo1 hM_q | exact mo6 hM_q | exact mo7 hM_q | exact mo8 hM_q | exact mo2 hM_q | exact mo3 hM_q | exact mo4 hM_q | exact mo5 hM_q | exact mo9 hM_q | exact mo10 hM_q | exact mo11 hM_q | exact mo12 hM_q | exact mo13 hM_q | exact mo14 hM_q | exact mo15 hM_q | exact mo16 hM_q) rfl) dX8_bring_105 (sp_brings (p := j1_q) (to := w) (by omega) i_q (k - 1) 0 K _ _ hM_q (by omega) hB_q hv_q (by omega)) (fun v_105 σ n h_q => ?_)
            obtain ⟨rfl, rfl, K2, A2, hM_q, hS2, -, hA2, -, hrb, -, hf2⟩ := h_q
            have hA_q := eqx.tr (A := A) (L := [6, 7, 8, 9, 10, 11, 12, 13]) hA_q (hA2.wk (by decide))
            have hf_q := hf_q.tr hf2
            have hG_q : ∀ j, j < 26 → A2 8 j = K (8 + j) := fun j hj_q => by rw [hA2 8 (by decide)]; exact hG_q j hj_q
            refine go_istore (lw := [_, _, _, _, _, _]) (pc := 108) dX8_bring_108 (by decide) rfl ?_
            refine go_aload_n (pc := 110) dX8_bring_110 rfl ?_
            refine go_V0V (pc := 111) v_X8_381 rfl rfl (rcv_of (ci := 8) (by first | exact mo0 hM_q | exact mo1 hM_q | exact mo6 hM_q | exact mo7 hM_q | exact mo8 hM_q | exact mo2 hM_q | exact mo3 hM_q | exact mo4 hM_q | exact mo5 hM_q | exact mo9 hM_q | exact mo10 hM_q | exact mo11 hM_q | exact mo12 hM_q | exact mo13 hM_q | exact mo14 hM_q | exact mo15 hM_q | exact mo16 hM_q) rfl) dX8_bring_111 (sp_putsBack (k := k - 1) hM_q) (fun σ n h_q => ?_)
            obtain ⟨rfl, A1, hM_q, hA1, hf1⟩ := h_q
            have hA_q := eqx.tr (A := A) (L := [6, 7, 8, 9, 10, 11, 12, 13]) (by repeat (first | assumption | exact eqx.rf | refine eqx.up ?_ (by decide))) (hA1.wk (by decide))
            have hf_q := hf_q.tr hf1
            rw [setS_back hS2 hG_q] at hM_q
            have hG_q : ∀ j, j < 26 → A1 8 j = K (8 + j) := fun j hj_q => by rw [hA1 8 (by decide)]; exact hG_q j hj_q
            refine go_iinc (v := 1) (lw := [_, _, _, _, _, _]) (pc := 114) dX8_bring_114 rfl (by decide) (by decide) rfl ?_
            refine go_goto (tgt := 87) (pc := 117) dX8_bring_117 (by decide) ?_
            rw [nI_1]
            refine ih_q _ _ _ ⟨_, _, rfl, hM_q, hA_q, hf_q, hG_q, ?_, rfl⟩
            cases hbr : brK j1_q w i_q K with
            | none => exact Or.inl ⟨by simp [bI], fun q hq_q => (Nat.lt_or_ge q i_q).elim (hn9 q) (fun hq2 => by obtain rfl : i_q = q := (by omega); exact hbr)⟩
            | some l9_q => exact Or.inr ⟨by simp [bI], i_q, l9_q, rfl, hbr, hn9, fun j hj_q => by rw [hA1 10 (by decide), ← Nat.zero_add j]; rw [hrb l9_q hbr j hj_q, Nat.zero_add]⟩
        · rintro lv9 σ n9 ⟨is_q, A9_q, rfl, hM_q, hA_q, hf_q, hG_q, hR_q, rfl⟩
          refine go_iload (pc := 87) dX8_bring_87 rfl ?_
          refine go_bipush (v := 8) (pc := 89) dX8_bring_89 (by decide) ?_
          refine go_icmp_ge (tgt := 120) (pc := 91) dX8_bring_91 (by decide) (fun h_91 => ?_) (fun h_91 => by exfalso; exact h_91 (by decide))
          refine go_iload (pc := 120) dX8_bring_120 rfl ?_
          refine go_if_ne (tgt := 127) (pc := 122) dX8_bring_122 (by decide) (fun h_122 => ?_) (fun h_122 => ?_)
          · obtain ⟨-, m9_q, l9_q, em9, hl9, hn9, hr9⟩ := hR_q.resolve_left (fun hc_q => h_122 hc_q.1)
            first
              | subst em9
              | (obtain rfl : m9_q = 7 := (by omega))
            have hlen := br_len hl9
            have hb9 : bgK K j1_q w = some l9_q := fs_at (f := fun m => brK j1_q w m K) hl9 (by omega) hn9
            have hz1 := rN_some hz3
            obtain ⟨z9_q, hz9⟩ : ∃ z9_q, z9_q = z.toInt.toNat - 10 := ⟨_, rfl⟩
            have ez : z - 10 = nI z9_q := by rw [I_nat hz1.1 (by omega)]; rw [show (10 : Int32) = nI 10 from rfl, pk_sub (by omega), hz9, hz1.1]; rfl
            refine go_iload_n (pc := 127) dX8_bring_127 rfl ?_
            refine go_if_ne (tgt := 138) (pc := 128) dX8_bring_128 (by decide) (fun h_128 => ?_) (fun h_128 => by exfalso; exact hz0 h_128)
            refine go_iload_n (pc := 138) dX8_bring_138 rfl ?_
            refine go_bipush (v := 10) (pc := 139) dX8_bring_139 (by decide) ?_
            refine go_isub (pc := 141) dX8_bring_141 ?_
            refine go_iload (pc := 142) dX8_bring_142 rfl ?_
            refine go_iconst (v := 1) (pc := 144) dX8_bring_144 (by decide) ?_
            refine go_isub (pc := 145) dX8_bring_145 ?_
            rw [nI_pred, ez]
            refine go_icmp_ge (tgt := 161) (pc := 146) dX8_bring_146 (by decide) (fun h_146 => ?_) (fun h_146 => ?_)
            · refine go_iconst (v := -1) (pc := 161) dX8_bring_161 (by decide) ?_
              exact go_iretI (pc := 162) rfl dX8_bring_162 (Nat.le_of_ble_eq_true rfl) (Nat.le_of_ble_eq_true rfl) ⟨(by rw [han, hb9]; simp only [bgA]; rw [if_neg hz0, hlen, ez]; first | (rw [if_pos (Int32.not_le.mp h_146)]; rw [nI_clamp (by omega)]; exact hr9 z9_q (by omega)) | rw [if_neg (Int32.not_lt.mpr h_146)]), rfl, _, _, hM_q, ⟨(by rw [han]; rfl), fun j h1_q h2_q h3_q => by simp [upd, h1_q, h2_q, h3_q]⟩, (by repeat (first | assumption | exact eqx.rf | refine eqx.up ?_ (by decide))), hf_q⟩
            · have hlt : z9_q < l9_q.length := by rw [hlen]; exact Nat.lt_of_not_le (fun hc_q => h_146 (nI_le hc_q (by omega)))
              refine go_aload_n (pc := 149) dX8_bring_149 rfl ?_
              refine go_getf (pc := 150) f_X8_42 dX8_bring_150 (by first | exact mo0 hM_q | exact mo1 hM_q | exact mo6 hM_q | exact mo7 hM_q | exact mo8 hM_q | exact mo2 hM_q | exact mo3 hM_q | exact mo4 hM_q | exact mo5 hM_q | exact mo9 hM_q | exact mo10 hM_q | exact mo11 hM_q | exact mo12 hM_q | exact mo13 hM_q | exact mo14 hM_q | exact mo15 hM_q | exact mo16 hM_q) (by rfl) ?_
              refine go_iload_n (pc := 153) dX8_bring_153 rfl ?_
              refine go_bipush (v := 10) (pc := 154) dX8_bring_154 (by decide) ?_
              refine go_isub (pc := 156) dX8_bring_156 ?_
              refine go_iald (pc := 157) dX8_bring_157 (by first | exact mo0 hM_q | exact mo1 hM_q | exact mo6 hM_q | exact mo7 hM_q | exact mo8 hM_q | exact mo2 hM_q | exact mo3 hM_q | exact mo4 hM_q | exact mo5 hM_q | exact mo9 hM_q | exact mo10 hM_q | exact mo11 hM_q | exact mo12 hM_q | exact mo13 hM_q | exact mo14 hM_q | exact mo15 hM_q | exact mo16 hM_q) (by exact ⟨ez, by omega⟩) ?_
              refine go_goto (tgt := 162) (pc := 158) dX8_bring_158 (by decide) ?_
              exact go_iretI (pc := 162) rfl dX8_bring_162 (Nat.le_of_ble_eq_true rfl) (Nat.le_of_ble_eq_true rfl) ⟨(by rw [han, hb9]; simp only [bgA]; rw [if_neg hz0, hlen, ez]; first | (rw [if_pos (Int32.not_le.mp h_146)]; rw [nI_clamp (by omega)]; exact hr9 z9_q (by omega)) | rw [if_neg (Int32.not_lt.mpr h_146)]), rfl, _, _, hM_q, ⟨(by rw [han]; rfl), fun j h1_q h2_q h3_q => by simp [upd, h1_q, h2_q, h3_q]⟩, (by repeat (first | assumption | exact eqx.rf | refine eqx.up ?_ (by decide))), hf_q⟩
          · have hR_q := (hR_q.resolve_right (fun hc_q => by rw [hc_q.1] at h_122; exact absurd h_122 (by decide))).2
            have hno : bgA (bgK K j1_q w) z = -1 := by rw [bgK, fs_all (fun q _ hq_q => hR_q q (by omega))]; rfl
            refine go_iconst (v := -1) (pc := 125) dX8_bring_125 (by decide) ?_
            exact go_iretI (pc := 126) rfl dX8_bring_126 (Nat.le_of_ble_eq_true rfl) (Nat.le_of_ble_eq_true rfl) ⟨(by rw [han, hno]), rfl, _, _, hM_q, ⟨(by rw [han]; rfl), fun j h1_q h2_q h3_q => by simp [upd, h1_q, h2_q, h3_q]⟩, (by repeat (first | assumption | exact eqx.rf | refine eqx.up ?_ (by decide))), hf_q⟩
      · refine go_iconst (v := -1) (pc := 75) dX8_bring_75 (by decide) ?_
        exact go_iretI (pc := 76) rfl dX8_bring_76 (Nat.le_of_ble_eq_true rfl) (Nat.le_of_ble_eq_true rfl) ⟨(by rw [han, if_pos (upK_iff.mpr (Decidable.not_not.mp (fun hc_q => h_72 (bI_0.mpr hc_q))))]), rfl, _, _, hM_q, ⟨(by rw [han]; rfl), fun j h1_q h2_q h3_q => by simp [upd, h1_q, h2_q, h3_q]⟩, (by repeat (first | assumption | exact eqx.rf | refine eqx.up ?_ (by decide))), hf_q⟩
