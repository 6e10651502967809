/-! ===== the reference: judge, perform, afternoon ===== -/
theorem tyF_c {g : row} {t : Int} : tyF g t = 1 ∨ tyF g t = 2 ∨ (tyF g t = 0 ∧ ∃ j : Nat, j < 4 ∧ t = (j : Int) ∧ g j ≠ -1) := by
  unfold tyF
  cases hz_q : pN 4 t with
  | none => exact Or.inl rfl
  | some j =>
    have h_q := pN_some hz_q
    by_cases hg : g j = -1
    · exact Or.inr (Or.inl (by simp [hg]))
    · exact Or.inr (Or.inr ⟨by simp [hg], j, h_q.2, h_q.1, hg⟩)
theorem num_ix {t i_q : Nat} : 30 * nI t + nI i_q = nI (30 * t + i_q) := by
  rw [show (30 : Int32) = nI 30 from rfl, pk_mul, nI_add]
theorem told_i {K : row} {v : Int64} (h_q : whyT K v.toInt = 0) : v.toInt32.toInt = v.toInt := by
  have : -1 ≤ v.toInt ∧ v.toInt < 300 := by
    rcases told_c h_q with e_q | ⟨j, h1_q, h2_q, e_q, -⟩ | ⟨j, d, h1_q, h2_q, h3_q, h4_q, e_q, -⟩ | ⟨j, d, h1_q, h2_q, h3_q, h4_q, e_q, -⟩ <;> omega
  have h2_q : ((2 ^ 32 : Nat) : Int) = 4294967296 := by decide
  rw [Int64.toInt_toInt32, Int.bmod_def, h2_q]
  split <;> omega
theorem sp_judge {Γ : gam} {z0 : sto} {n k r : Nat} {F K : row} {A : Nat → row} {Nm : Nat → Int64} (hM_q : MoAt Γ z0 r F K A Nm) (hk : 12 ≤ k) (hG0 : GD K) (hT0 : okT (A 14) (A 15)) (t z : Int32) : Sp Γ (rmk k 0 0) uX8_judge [.ref r, .int t, .int z] z0 n (qI fun v σ' n' => v = (aJudge K (A 14) (A 15) Nm t.toInt z).2 ∧ apJ Γ r F K A Nm z0 n (aJudge K (A 14) (A 15) Nm t.toInt z).1 σ' n') := by
  obtain ⟨hB_q, hv_q, d, hd1_q, hd_q⟩ := id hG0
  have hP8 := hB_q.1.2.1
  have hH5 := hB_q.1.2.2.2.1
  have hW4 := hB_q.1.2.2.2.2.2
  have hA_q : eqx [6, 7, 8, 9, 10, 11, 12, 13] A A := eqx.rf
  have hf_q : fr r (r + 16) z0 z0 := fr.rf
  refine sp_intro [some (.ref r), some (.int t), some (.int z), none, none, none, none] (by decide +kernel) rfl (Nat.le_of_ble_eq_true rfl) rfl ?_
  rcases tyF_c (g := A 14) (t := t.toInt) with h0_q | h0_q | ⟨h0_q, t1_q, ht1, et, hg1⟩
  · refine go_aload_n (pc := 0) dX8_judge_0 rfl ?_
    refine go_aload_n (pc := 1) dX8_judge_1 rfl ?_
    refine go_iload_n (pc := 2) dX8_judge_2 rfl ?_
    refine go_V1P (pc := 3) v_X8_364 rfl rfl (rcv_of (ci := 8) (by first | exact mo0 hM_q | exact mo1 hM_q | exact mo6 hM_q | exact mo7 hM_q | exact mo8 hM_q | exact mo2 hM_q | exact mo3 hM_q | exact mo4 hM_q | exact mo5 hM_q | exact mo9 hM_q | exact mo10 hM_q | exact mo11 hM_q | exact mo12 hM_q | exact mo13 hM_q | exact mo14 hM_q | exact mo15 hM_q | exact mo16 hM_q) rfl) dX8_judge_3 (sp_trayFault (k := k - 1) hM_q (by omega) _) ?_
    rw [h0_q]
    refine go_mpf4 (pc := 6) hM_q dX8_judge_6 (fun σ hM_q hf9 => ?_)
    have hf_q := hf_q.tr hf9
    refine go_aload_n (pc := 9) dX8_judge_9 rfl ?_
    refine go_getf (pc := 10) f_X8_64 dX8_judge_10 (by first | exact mo0 hM_q | exact mo1 hM_q | exact mo6 hM_q | exact mo7 hM_q | exact mo8 hM_q | exact mo2 hM_q | exact mo3 hM_q | exact mo4 hM_q | exact mo5 hM_q | exact mo9 hM_q | exact mo10 hM_q | exact mo11 hM_q | exact mo12 hM_q | exact mo13 hM_q | exact mo14 hM_q | exact mo15 hM_q | exact mo16 hM_q) (by rfl) ?_
    refine go_if_ne (tgt := 33) (pc := 13) dX8_judge_13 (by decide) (fun h_13 => ?_) (fun h_13 => by exfalso; exact absurd (show (1 : Int32) = 0 from h_13) (by decide))
    refine go_aload_n (pc := 33) dX8_judge_33 rfl ?_
    refine go_getf (pc := 34) f_X8_64 dX8_judge_34 (by first | exact mo0 hM_q | exact mo1 hM_q | exact mo6 hM_q | exact mo7 hM_q | exact mo8 hM_q | exact mo2 hM_q | exact mo3 hM_q | exact mo4 hM_q | exact mo5 hM_q | exact mo9 hM_q | exact mo10 hM_q | exact mo11 hM_q | exact mo12 hM_q | exact mo13 hM_q | exact mo14 hM_q | exact mo15 hM_q | exact mo16 hM_q) (by rfl) ?_
    refine go_if_le (tgt := 42) (pc := 37) dX8_judge_37 (by decide) (fun h_37 => by exfalso; exact absurd (show (1 : Int32) ≤ 0 from h_37) (by decide)) (fun h_37 => ?_)
    refine go_iconst (v := 0) (pc := 40) dX8_judge_40 (by decide) ?_
    exact go_iretI (pc := 41) rfl dX8_judge_41 (Nat.le_of_ble_eq_true rfl) (Nat.le_of_ble_eq_true rfl) ⟨(by rw [aJudge, h0_q]; rfl), rfl, _, _, hM_q, ⟨(by rw [aJudge, h0_q]; rfl), fun j h1_q h2_q h3_q => by simp [upd, h1_q, h2_q, h3_q]⟩, (by repeat (first | assumption | exact eqx.rf | refine eqx.up ?_ (by decide))), hf_q⟩
  · refine go_aload_n (pc := 0) dX8_judge_0 rfl ?_
    refine go_aload_n (pc := 1) dX8_judge_1 rfl ?_
    refine go_iload_n (pc := 2) dX8_judge_2 rfl ?_
    refine go_V1P (pc := 3) v_X8_364 rfl rfl (rcv_of (ci := 8) (by first | exact mo0 hM_q | exact mo1 hM_q | exact mo6 hM_q | exact mo7 hM_q | exact mo8 hM_q | exact mo2 hM_q | exact mo3 hM_q | exact mo4 hM_q | exact mo5 hM_q | exact mo9 hM_q | exact mo10 hM_q | exact mo11 hM_q | exact mo12 hM_q | exact mo13 hM_q | exact mo14 hM_q | exact mo15 hM_q | exact mo16 hM_q) rfl) dX8_judge_3 (sp_trayFault (k := k - 1) hM_q (by omega) _) ?_
    rw [h0_q]
    refine go_mpf4 (pc := 6) hM_q dX8_judge_6 (fun σ hM_q hf9 => ?_)
    have hf_q := hf_q.tr hf9
    refine go_aload_n (pc := 9) dX8_judge_9 rfl ?_
    refine go_getf (pc := 10) f_X8_64 dX8_judge_10 (by first | exact mo0 hM_q | exact mo1 hM_q | exact mo6 hM_q | exact mo7 hM_q | exact mo8 hM_q | exact mo2 hM_q | exact mo3 hM_q | exact mo4 hM_q | exact mo5 hM_q | exact mo9 hM_q | exact mo10 hM_q | exact mo11 hM_q | exact mo12 hM_q | exact mo13 hM_q | exact mo14 hM_q | exact mo15 hM_q | exact mo16 hM_q) (by rfl) ?_
    refine go_if_ne (tgt := 33) (pc := 13) dX8_judge_13 (by decide) (fun h_13 => ?_) (fun h_13 => by exfalso; exact absurd (show (2 : Int32) = 0 from h_13) (by decide))
    refine go_aload_n (pc := 33) dX8_judge_33 rfl ?_
    refine go_getf (pc := 34) f_X8_64 dX8_judge_34 (by first | exact mo0 hM_q | exact mo1 hM_q | exact mo6 hM_q | exact mo7 hM_q | exact mo8 hM_q | exact mo2 hM_q | exact mo3 hM_q | exact mo4 hM_q | exact mo5 hM_q | exact mo9 hM_q | exact mo10 hM_q | exact mo11 hM_q | exact mo12 hM_q | exact mo13 hM_q | exact mo14 hM_q | exact mo15 hM_q | exact mo16 hM_q) (by rfl) ?_
    refine go_if_le (tgt := 42) (pc := 37) dX8_judge_37 (by decide) (fun h_37 => by exfalso; exact absurd (show (2 : Int32) ≤ 0 from h_37) (by decide)) (fun h_37 => ?_)
    refine go_iconst (v := 0) (pc := 40) dX8_judge_40 (by decide) ?_
    exact go_iretI (pc := 41) rfl dX8_judge_41 (Nat.le_of_ble_eq_true rfl) (Nat.le_of_ble_eq_true rfl) ⟨(by rw [aJudge, h0_q]; rfl), rfl, _, _, hM_q, ⟨(by rw [aJudge, h0_q]; rfl), fun j h1_q h2_q h3_q => by simp [upd, h1_q, h2_q, h3_q]⟩, (by repeat (first | assumption | exact eqx.rf | refine eqx.up ?_ (by decide))), hf_q⟩
  · obtain rfl := I_nat et (by omega)
    obtain ⟨M9, hM9, eM⟩ := (hT0 t1_q ht1).1
    cases hz_q : rN 0 4 z.toInt with
    | none =>
      refine go_aload_n (pc := 0) dX8_judge_0 rfl ?_
      refine go_aload_n (pc := 1) dX8_judge_1 rfl ?_
      refine go_iload_n (pc := 2) dX8_judge_2 rfl ?_
      refine go_V1P (pc := 3) v_X8_364 rfl rfl (rcv_of (ci := 8) (by first | exact mo0 hM_q | exact mo1 hM_q | exact mo6 hM_q | exact mo7 hM_q | exact mo8 hM_q | exact mo2 hM_q | exact mo3 hM_q | exact mo4 hM_q | exact mo5 hM_q | exact mo9 hM_q | exact mo10 hM_q | exact mo11 hM_q | exact mo12 hM_q | exact mo13 hM_q | exact mo14 hM_q | exact mo15 hM_q | exact mo16 hM_q) rfl) dX8_judge_3 (sp_trayFault (k := k - 1) hM_q (by omega) _) ?_
      rw [h0_q]
      refine go_mpf4 (pc := 6) hM_q dX8_judge_6 (fun σ hM_q hf9 => ?_)
      have hf_q := hf_q.tr hf9
      refine go_aload_n (pc := 9) dX8_judge_9 rfl ?_
      refine go_getf (pc := 10) f_X8_64 dX8_judge_10 (by first | exact mo0 hM_q | exact mo1 hM_q | exact mo6 hM_q | exact mo7 hM_q | exact mo8 hM_q | exact mo2 hM_q | exact mo3 hM_q | exact mo4 hM_q | exact mo5 hM_q | exact mo9 hM_q | exact mo10 hM_q | exact mo11 hM_q | exact mo12 hM_q | exact mo13 hM_q | exact mo14 hM_q | exact mo15 hM_q | exact mo16 hM_q) (by rfl) ?_
      refine go_if_ne (tgt := 33) (pc := 13) dX8_judge_13 (by decide) (fun h_13 => by exfalso; exact h_13 rfl) (fun h_13 => ?_)
      refine go_iload_n (pc := 16) dX8_judge_16 rfl ?_
      refine go_i2l (pc := 17) dX8_judge_17 ?_
      refine go_lconst (v := 0) (pc := 18) dX8_judge_18 rfl ?_
      refine go_ldc2 (pc := 19) kw7_223 dX8_judge_19 ?_
      refine go_S3P (pc := 22) s_X8_125 rfl rfl dX8_judge_22 (sp_within (k := k - 1) _ _ _) ?_
      refine go_if_ne (tgt := 33) (pc := 25) dX8_judge_25 (by decide) (fun h_25 => by exfalso; exact h_25 (wi_no hz_q (by decide) (by decide))) (fun h_25 => ?_)
      refine go_aload_n (pc := 28) dX8_judge_28 rfl ?_
      refine go_iconst (v := 3) (pc := 29) dX8_judge_29 (by decide) ?_
      refine go_mpf4 (pc := 30) hM_q dX8_judge_30 (fun σ hM_q hf9 => ?_)
      have hf_q := hf_q.tr hf9
      refine go_aload_n (pc := 33) dX8_judge_33 rfl ?_
      refine go_getf (pc := 34) f_X8_64 dX8_judge_34 (by first | exact mo0 hM_q | exact mo1 hM_q | exact mo6 hM_q | exact mo7 hM_q | exact mo8 hM_q | exact mo2 hM_q | exact mo3 hM_q | exact mo4 hM_q | exact mo5 hM_q | exact mo9 hM_q | exact mo10 hM_q | exact mo11 hM_q | exact mo12 hM_q | exact mo13 hM_q | exact mo14 hM_q | exact mo15 hM_q | exact mo16 hM_q) (by rfl) ?_
      refine go_if_le (tgt := 42) (pc := 37) dX8_judge_37 (by decide) (fun h_37 => by exfalso; exact absurd (show (3 : Int32) ≤ 0 from h_37) (by decide)) (fun h_37 => ?_)
      refine go_iconst (v := 0) (pc := 40) dX8_judge_40 (by decide) ?_
      exact go_iretI (pc := 41) rfl dX8_judge_41 (Nat.le_of_ble_eq_true rfl) (Nat.le_of_ble_eq_true rfl) ⟨(by rw [aJudge, h0_q, hz_q]; rfl), rfl, _, _, hM_q, ⟨(by rw [aJudge, h0_q, hz_q]; rfl), fun j h1_q h2_q h3_q => by simp [upd, h1_q, h2_q, h3_q]⟩, (by repeat (first | assumption | exact eqx.rf | refine eqx.up ?_ (by decide))), hf_q⟩
    | some x1_q =>
      obtain ⟨R9, hR9⟩ : ∃ x, x = jdK (fun k => Nm (30 * t1_q + k)) M9 0 K := ⟨_, rfl⟩
      have han : aJudge K (A 14) (A 15) Nm (nI t1_q).toInt z = (0, if z = 0 then R9.1 else if z = 1 then R9.2.1 else if z = 2 then frontK R9.2.2 else R9.2.2 33) := by rw [aJudge, h0_q, hz_q, et, hR9]; simp only [Int.toNat_natCast, eM, nI_clamp (show M9 < 2 ^ 31 by omega)]; rfl
      refine go_aload_n (pc := 0) dX8_judge_0 rfl ?_
      refine go_aload_n (pc := 1) dX8_judge_1 rfl ?_
      refine go_iload_n (pc := 2) dX8_judge_2 rfl ?_
      refine go_V1P (pc := 3) v_X8_364 rfl rfl (rcv_of (ci := 8) (by first | exact mo0 hM_q | exact mo1 hM_q | exact mo6 hM_q | exact mo7 hM_q | exact mo8 hM_q | exact mo2 hM_q | exact mo3 hM_q | exact mo4 hM_q | exact mo5 hM_q | exact mo9 hM_q | exact mo10 hM_q | exact mo11 hM_q | exact mo12 hM_q | exact mo13 hM_q | exact mo14 hM_q | exact mo15 hM_q | exact mo16 hM_q) rfl) dX8_judge_3 (sp_trayFault (k := k - 1) hM_q (by omega) _) ?_
      rw [h0_q]
      refine go_mpf4 (pc := 6) hM_q dX8_judge_6 (fun σ hM_q hf9 => ?_)
      have hf_q := hf_q.tr hf9
      refine go_aload_n (pc := 9) dX8_judge_9 rfl ?_
      refine go_getf (pc := 10) f_X8_64 dX8_judge_10 (by first | exact mo0 hM_q | exact mo1 hM_q | exact mo6 hM_q | exact mo7 hM_q | exact mo8 hM_q | exact mo2 hM_q | exact mo3 hM_q | exact mo4 hM_q | exact mo5 hM_q | exact mo9 hM_q | exact mo10 hM_q | exact mo11 hM_q | exact mo12 hM_q | exact mo13 hM_q | exact mo14 hM_q | exact mo15 hM_q | exact mo16 hM_q) (by rfl) ?_
      refine go_if_ne (tgt := 33) (pc := 13) dX8_judge_13 (by decide) (fun h_13 => by exfalso; exact h_13 rfl) (fun h_13 => ?_)
      refine go_iload_n (pc := 16) dX8_judge_16 rfl ?_
      refine go_i2l (pc := 17) dX8_judge_17 ?_
      refine go_lconst (v := 0) (pc := 18) dX8_judge_18 rfl ?_
      refine go_ldc2 (pc := 19) kw7_223 dX8_judge_19 ?_
      refine go_S3P (pc := 22) s_X8_125 rfl rfl dX8_judge_22 (sp_within (k := k - 1) _ _ _) ?_
      refine go_if_ne (tgt := 33) (pc := 25) dX8_judge_25 (by decide) (fun h_25 => ?_) (fun h_25 => by exfalso; rw [wi_yes hz_q (by decide) (by decide)] at h_25; exact absurd h_25 (by decide))
      refine go_aload_n (pc := 33) dX8_judge_33 rfl ?_
      refine go_getf (pc := 34) f_X8_64 dX8_judge_34 (by first | exact mo0 hM_q | exact mo1 hM_q | exact mo6 hM_q | exact mo7 hM_q | exact mo8 hM_q | exact mo2 hM_q | exact mo3 hM_q | exact mo4 hM_q | exact mo5 hM_q | exact mo9 hM_q | exact mo10 hM_q | exact mo11 hM_q | exact mo12 hM_q | exact mo13 hM_q | exact mo14 hM_q | exact mo15 hM_q | exact mo16 hM_q) (by rfl) ?_
      refine go_if_le (tgt := 42) (pc := 37) dX8_judge_37 (by decide) (fun h_37 => ?_) (fun h_37 => by exfalso; exact h_37 (show (0 : Int32) ≤ 0 from by decide))
      refine go_aload_n (pc := 42) dX8_judge_42 rfl ?_
      refine go_V0V (pc := 43) v_X8_369 rfl rfl (rcv_of (ci := 8) (by first | exact mo0 hM_q | exact mo1 hM_q | exact mo6 hM_q | exact mo7 hM_q | exact mo8 hM_q | exact mo2 hM_q | exact mo3 hM_q | exact mo4 hM_q | exact mo5 hM_q | exact mo9 hM_q | exact mo10 hM_q | exact mo11 hM_q | exact mo12 hM_q | exact mo13 hM_q | exact mo14 hM_q | exact mo15 hM_q | exact mo16 hM_q) rfl) dX8_judge_43 (sp_putsAside (k := k - 1) hM_q) (fun σ n h_q => ?_)
      obtain ⟨rfl, A1, hM_q, hA1, hf1, hG_q⟩ := h_q
      have hA_q := eqx.tr (L := [6, 7, 8, 9, 10, 11, 12, 13]) (by repeat (first | assumption | exact eqx.rf | refine eqx.up ?_ (by decide))) (hA1.wk (by decide))
      have hf_q := hf_q.tr hf1
      refine go_iconst (v := -1) (pc := 46) dX8_judge_46 (by decide) ?_
      refine go_istore_n (lw := [_, _, _, _, _, _, _]) (pc := 47) dX8_judge_47 (by decide) rfl ?_
      refine go_iconst (v := 0) (pc := 48) dX8_judge_48 (by decide) ?_
      refine go_istore (lw := [_, _, _, _, _, _, _]) (pc := 49) dX8_judge_49 (by decide) rfl ?_
      refine go_iconst (v := 0) (pc := 51) dX8_judge_51 (by decide) ?_
      refine go_istore (lw := [_, _, _, _, _, _, _]) (pc := 52) dX8_judge_52 (by decide) rfl ?_
      refine go_iter (M9) (fun i_q lv9 s9 n9 => ∃ (K9_q : row), ∃ (pl : Int32), ∃ (wh : Int32), ∃ A9_q, lv9 = [some (.ref r), some (.int (nI t1_q)), some (.int z), some (.int pl), some (.int wh), some (.int (nI i_q)), none] ∧ (MoAt Γ s9 r (upd F 4 0) K9_q A9_q Nm) ∧ (eqx [6, 7, 8, 9, 10, 11, 12, 13] A A9_q) ∧ (fr r (r + 16) z0 s9) ∧ (∀ j, j < 26 → A9_q 8 j = K (8 + j)) ∧ (sameB K K9_q) ∧ (okB K9_q) ∧ (vS K9_q) ∧ ((pl = -1 ∧ wh = 0 ∧ jdK (fun k => Nm (30 * t1_q + k)) (M9 - i_q) i_q K9_q = R9) ∨ (pl ≠ -1 ∧ R9 = (pl, wh, K9_q))) ∧ n = n9) ⟨_, (-1), 0, _, rfl, hM_q, hA_q, hf_q, hG_q, sameB.rf, hB_q, hv_q, (Or.inl ⟨rfl, rfl, hR9.symm⟩), rfl⟩ ?_ ?_
      · rintro i_q lv9 σ n9 hi_q ⟨K9_q, pl, wh, A9_q, rfl, hM_q, hA_q, hf_q, hG_q, hS_q, hB9_q, hv9_q, hR_q, rfl⟩ ih_q
        refine go_iload (pc := 54) dX8_judge_54 rfl ?_
        refine go_aload_n (pc := 56) dX8_judge_56 rfl ?_
        refine go_getf (pc := 57) f_X8_57 dX8_judge_57 (by first | exact mo0 hM_q | exact mo1 hM_q | exact mo6 hM_q | exact mo7 hM_q | exact mo8 hM_q | exact mo2 hM_q | exact mo3 hM_q | exact mo4 hM_q | exact mo5 hM_q | exact mo9 hM_q | exact mo10 hM_q | exact mo11 hM_q | exact mo12 hM_q | exact mo13 hM_q | exact mo14 hM_q | exact mo15 hM_q | exact mo16 hM_q) (by rfl) ?_
        refine go_iload_n (pc := 60) dX8_judge_60 rfl ?_
        refine go_iald (pc := 61) dX8_judge_61 (by first | exact mo0 hM_q | exact mo1 hM_q | exact mo6 hM_q | exact mo7 hM_q | exact mo8 hM_q | exact mo2 hM_q | exact mo3 hM_q | exact mo4 hM_q | exact mo5 hM_q | exact mo9 hM_q | exact mo10 hM_q | exact mo11 hM_q | exact mo12 hM_q | exact mo13 hM_q | exact mo14 hM_q | exact mo15 hM_q | exact mo16 hM_q) (by exact ⟨rfl, by omega⟩) ?_
        rw [hA_q 15 (by decide), eM]
        refine go_icmp_ge (tgt := 122) (pc := 62) dX8_judge_62 (by decide) (fun h_62 => by exfalso; exact absurd h_62 (nI_ge (by omega) (by omega))) (fun h_62 => ?_)
        refine go_iload_n (pc := 65) dX8_judge_65 rfl ?_
        refine go_iconst (v := -1) (pc := 66) dX8_judge_66 (by decide) ?_
        refine go_icmp_ne (tgt := 122) (pc := 67) dX8_judge_67 (by decide) (fun h_67 => ?_) (fun h_67 => ?_)
        · have hFin : R9 = (pl, wh, K9_q) := (hR_q.resolve_left (fun hc_q => h_67 hc_q.1)).2
          refine go_aload_n (pc := 122) dX8_judge_122 rfl ?_
          refine go_V0P (pc := 123) v_X8_378 rfl rfl (rcv_of (ci := 8) (by first | exact mo0 hM_q | exact mo1 hM_q | exact mo6 hM_q | exact mo7 hM_q | exact mo8 hM_q | exact mo2 hM_q | exact mo3 hM_q | exact mo4 hM_q | exact mo5 hM_q | exact mo9 hM_q | exact mo10 hM_q | exact mo11 hM_q | exact mo12 hM_q | exact mo13 hM_q | exact mo14 hM_q | exact mo15 hM_q | exact mo16 hM_q) rfl) dX8_judge_123 (sp_inFront (k := k - 1) hM_q (by omega) hB9_q) ?_
          refine go_istore (lw := [_, _, _, _, _, _, _]) (pc := 126) dX8_judge_126 (by decide) rfl ?_
          refine go_aload_n (pc := 128) dX8_judge_128 rfl ?_
          refine go_getf (pc := 129) f_X8_9 dX8_judge_129 (by first | exact mo0 hM_q | exact mo1 hM_q | exact mo6 hM_q | exact mo7 hM_q | exact mo8 hM_q | exact mo2 hM_q | exact mo3 hM_q | exact mo4 hM_q | exact mo5 hM_q | exact mo9 hM_q | exact mo10 hM_q | exact mo11 hM_q | exact mo12 hM_q | exact mo13 hM_q | exact mo14 hM_q | exact mo15 hM_q | exact mo16 hM_q) (by rfl) ?_
          refine go_bipush (v := 33) (pc := 132) dX8_judge_132 (by decide) ?_
          refine go_iald (j := 33) (pc := 134) dX8_judge_134 (by first | exact mo0 hM_q | exact mo1 hM_q | exact mo6 hM_q | exact mo7 hM_q | exact mo8 hM_q | exact mo2 hM_q | exact mo3 hM_q | exact mo4 hM_q | exact mo5 hM_q | exact mo9 hM_q | exact mo10 hM_q | exact mo11 hM_q | exact mo12 hM_q | exact mo13 hM_q | exact mo14 hM_q | exact mo15 hM_q | exact mo16 hM_q) (by exact ⟨rfl, by decide⟩) ?_
          refine go_istore (lw := [_, _, _, _, _, _, _]) (pc := 135) dX8_judge_135 (by decide) rfl ?_
          refine go_aload_n (pc := 137) dX8_judge_137 rfl ?_
          refine go_V0V (pc := 138) v_X8_381 rfl rfl (rcv_of (ci := 8) (by first | exact mo0 hM_q | exact mo1 hM_q | exact mo6 hM_q | exact mo7 hM_q | exact mo8 hM_q | exact mo2 hM_q | exact mo3 hM_q | exact mo4 hM_q | exact mo5 hM_q | exact mo9 hM_q | exact mo10 hM_q | exact mo11 hM_q | exact mo12 hM_q | exact mo13 hM_q | exact mo14 hM_q | exact mo15 hM_q | exact mo16 hM_q) rfl) dX8_judge_138 (sp_putsBack (k := k - 1) hM_q) (fun σ n h_q => ?_)
          obtain ⟨rfl, A1, hM_q, hA1, hf1⟩ := h_q
          have hA_q := eqx.tr (L := [6, 7, 8, 9, 10, 11, 12, 13]) (by repeat (first | assumption | exact eqx.rf | refine eqx.up ?_ (by decide))) (hA1.wk (by decide))
          have hf_q := hf_q.tr hf1
          rw [setS_back hS_q hG_q] at hM_q
          refine go_iload_n (pc := 141) dX8_judge_141 rfl ?_
          refine go_if_ne (tgt := 149) (pc := 142) dX8_judge_142 (by decide) (fun h_142 => ?_) (fun h_142 => ?_)
          · refine go_iload_n (pc := 149) dX8_judge_149 rfl ?_
            refine go_iconst (v := 1) (pc := 150) dX8_judge_150 (by decide) ?_
            refine go_icmp_ne (tgt := 159) (pc := 151) dX8_judge_151 (by decide) (fun h_151 => ?_) (fun h_151 => ?_)
            · refine go_iload_n (pc := 159) dX8_judge_159 rfl ?_
              refine go_iconst (v := 2) (pc := 160) dX8_judge_160 (by decide) ?_
              refine go_icmp_ne (tgt := 169) (pc := 161) dX8_judge_161 (by decide) (fun h_161 => ?_) (fun h_161 => ?_)
              · refine go_iload (pc := 169) dX8_judge_169 rfl ?_
                exact go_iretI (pc := 171) rfl dX8_judge_171 (Nat.le_of_ble_eq_true rfl) (Nat.le_of_ble_eq_true rfl) ⟨(by rw [han, hFin]; show _ = (if z = 0 then pl else if z = 1 then wh else if z = 2 then frontK K9_q else K9_q 33); first | rw [if_pos h_142] | rw [if_neg h_142, if_pos h_151] | rw [if_neg h_142, if_neg h_151, if_pos h_161] | rw [if_neg h_142, if_neg h_151, if_neg h_161]), rfl, _, _, hM_q, ⟨(by rw [han]; rfl), fun j h1_q h2_q h3_q => by simp [upd, h1_q, h2_q, h3_q]⟩, (by repeat (first | assumption | exact eqx.rf | refine eqx.up ?_ (by decide))), hf_q⟩
              · refine go_iload (pc := 164) dX8_judge_164 rfl ?_
                refine go_goto (tgt := 171) (pc := 166) dX8_judge_166 (by decide) ?_
                exact go_iretI (pc := 171) rfl dX8_judge_171 (Nat.le_of_ble_eq_true rfl) (Nat.le_of_ble_eq_true rfl) ⟨(by rw [han, hFin]; show _ = (if z = 0 then pl else if z = 1 then wh else if z = 2 then frontK K9_q else K9_q 33); first | rw [if_pos h_142] | rw [if_neg h_142, if_pos h_151] | rw [if_neg h_142, if_neg h_151, if_pos h_161] | rw [if_neg h_142, if_neg h_151, if_neg h_161]), rfl, _, _, hM_q, ⟨(by rw [han]; rfl), fun j h1_q h2_q h3_q => by simp [upd, h1_q, h2_q, h3_q]⟩, (by repeat (first | assumption | exact eqx.rf | refine eqx.up ?_ (by decide))), hf_q⟩
            · refine go_iload (pc := 154) dX8_judge_154 rfl ?_
              refine go_goto (tgt := 171) (pc := 156) dX8_judge_156 (by decide) ?_
              exact go_iretI (pc := 171) rfl dX8_judge_171 (Nat.le_of_ble_eq_true rfl) (Nat.le_of_ble_eq_true rfl) ⟨(by rw [han, hFin]; show _ = (if z = 0 then pl else if z = 1 then wh else if z = 2 then frontK K9_q else K9_q 33); first | rw [if_pos h_142] | rw [if_neg h_142, if_pos h_151] | rw [if_neg h_142, if_neg h_151, if_pos h_161] | rw [if_neg h_142, if_neg h_151, if_neg h_161]), rfl, _, _, hM_q, ⟨(by rw [han]; rfl), fun j h1_q h2_q h3_q => by simp [upd, h1_q, h2_q, h3_q]⟩, (by repeat (first | assumption | exact eqx.rf | refine eqx.up ?_ (by decide))), hf_q⟩
          · refine go_iload_n (pc := 145) dX8_judge_145 rfl ?_
            refine go_goto (tgt := 171) (pc := 146) dX8_judge_146 (by decide) ?_
            exact go_iretI (pc := 171) rfl dX8_judge_171 (Nat.le_of_ble_eq_true rfl) (Nat.le_of_ble_eq_true rfl) ⟨(by rw [han, hFin]; show _ = (if z = 0 then pl else if z = 1 then wh else if z = 2 then frontK K9_q else K9_q 33); first | rw [if_pos h_142] | rw [if_neg h_142, if_pos h_151] | rw [if_neg h_142, if_neg h_151, if_pos h_161] | rw [if_neg h_142, if_neg h_151, if_neg h_161]), rfl, _, _, hM_q, ⟨(by rw [han]; rfl), fun j h1_q h2_q h3_q => by simp [upd, h1_q, h2_q, h3_q]⟩, (by repeat (first | assumption | exact eqx.rf | refine eqx.up ?_ (by decide))), hf_q⟩
        · obtain ⟨hpl, rfl, hR2⟩ := hR_q.resolve_right (fun hc_q => hc_q.1 h_67)
          refine go_aload_n (pc := 70) dX8_judge_70 rfl ?_
          refine go_aload_n (pc := 71) dX8_judge_71 rfl ?_
          refine go_getf (pc := 72) f_X8_60 dX8_judge_72 (by first | exact mo0 hM_q | exact mo1 hM_q | exact mo6 hM_q | exact mo7 hM_q | exact mo8 hM_q | exact mo2 hM_q | exact mo3 hM_q | exact mo4 hM_q | exact mo5 hM_q | exact mo9 hM_q | exact mo10 hM_q | exact mo11 hM_q | exact mo12 hM_q | exact mo13 hM_q | exact mo14 hM_q | exact mo15 hM_q | exact mo16 hM_q) (by rfl) ?_
          refine go_bipush (v := 30) (pc := 75) dX8_judge_75 (by decide) ?_
          refine go_iload_n (pc := 77) dX8_judge_77 rfl ?_
          refine go_imul (pc := 78) dX8_judge_78 ?_
          refine go_iload (pc := 79) dX8_judge_79 rfl ?_
          refine go_iadd (pc := 81) dX8_judge_81 ?_
          refine go_lald (pc := 82) dX8_judge_82 (by first | exact mo0 hM_q | exact mo1 hM_q | exact mo6 hM_q | exact mo7 hM_q | exact mo8 hM_q | exact mo2 hM_q | exact mo3 hM_q | exact mo4 hM_q | exact mo5 hM_q | exact mo9 hM_q | exact mo10 hM_q | exact mo11 hM_q | exact mo12 hM_q | exact mo13 hM_q | exact mo14 hM_q | exact mo15 hM_q | exact mo16 hM_q) (by exact ⟨num_ix, by omega⟩) ?_
          refine go_V1P (pc := 83) v_X8_372 rfl rfl (rcv_of (ci := 8) (by first | exact mo0 hM_q | exact mo1 hM_q | exact mo6 hM_q | exact mo7 hM_q | exact mo8 hM_q | exact mo2 hM_q | exact mo3 hM_q | exact mo4 hM_q | exact mo5 hM_q | exact mo9 hM_q | exact mo10 hM_q | exact mo11 hM_q | exact mo12 hM_q | exact mo13 hM_q | exact mo14 hM_q | exact mo15 hM_q | exact mo16 hM_q) rfl) dX8_judge_83 (sp_whyTold (k := k - 1) hM_q (by omega) hB9_q _) ?_
          refine go_istore (lw := [_, _, _, _, _, _, _]) (pc := 86) dX8_judge_86 (by decide) rfl ?_
          refine go_iload (pc := 88) dX8_judge_88 rfl ?_
          refine go_if_ne (tgt := 113) (pc := 90) dX8_judge_90 (by decide) (fun h_90 => ?_) (fun h_90 => ?_)
          · refine go_iload (pc := 113) dX8_judge_113 rfl ?_
            refine go_istore_n (lw := [_, _, _, _, _, _, _]) (pc := 115) dX8_judge_115 (by decide) rfl ?_
            refine go_iinc (v := 1) (lw := [_, _, _, _, _, _, _]) (pc := 116) dX8_judge_116 rfl (by decide) (by decide) rfl ?_
            refine go_goto (tgt := 54) (pc := 119) dX8_judge_119 (by decide) ?_
            rw [nI_1]
            first
              | exact ih_q _ _ _ ⟨_, _, _, _, rfl, hM_q, hA_q, hf_q, hG_q, hS_q.tr (do_same hB9_q.1.2.1 h_90), (do_same hB9_q.1.2.1 h_90).okB hB9_q, vS_do hv9_q hB9_q.1.2.1 hB9_q.1.2.2.2.1 h_90, Or.inl ⟨h_67, h_90, by rw [← hR2, jd_step hi_q, if_pos h_90]⟩, rfl⟩
              | exact ih_q _ _ _ ⟨_, _, _, _, rfl, hM_q, hA_q, hf_q, hG_q, hS_q, hB9_q, hv9_q, Or.inr ⟨nI_ne1 (by omega), by rw [← hR2, jd_step hi_q, if_neg h_90]⟩, rfl⟩
          · refine go_aload_n (pc := 93) dX8_judge_93 rfl ?_
            refine go_aload_n (pc := 94) dX8_judge_94 rfl ?_
            refine go_getf (pc := 95) f_X8_60 dX8_judge_95 (by first | exact mo0 hM_q | exact mo1 hM_q | exact mo6 hM_q | exact mo7 hM_q | exact mo8 hM_q | exact mo2 hM_q | exact mo3 hM_q | exact mo4 hM_q | exact mo5 hM_q | exact mo9 hM_q | exact mo10 hM_q | exact mo11 hM_q | exact mo12 hM_q | exact mo13 hM_q | exact mo14 hM_q | exact mo15 hM_q | exact mo16 hM_q) (by rfl) ?_
            refine go_bipush (v := 30) (pc := 98) dX8_judge_98 (by decide) ?_
            refine go_iload_n (pc := 100) dX8_judge_100 rfl ?_
            refine go_imul (pc := 101) dX8_judge_101 ?_
            refine go_iload (pc := 102) dX8_judge_102 rfl ?_
            refine go_iadd (pc := 104) dX8_judge_104 ?_
            refine go_lald (pc := 105) dX8_judge_105 (by first | exact mo0 hM_q | exact mo1 hM_q | exact mo6 hM_q | exact mo7 hM_q | exact mo8 hM_q | exact mo2 hM_q | exact mo3 hM_q | exact mo4 hM_q | exact mo5 hM_q | exact mo9 hM_q | exact mo10 hM_q | exact mo11 hM_q | exact mo12 hM_q | exact mo13 hM_q | exact mo14 hM_q | exact mo15 hM_q | exact mo16 hM_q) (by exact ⟨num_ix, by omega⟩) ?_
            refine go_l2i (pc := 106) dX8_judge_106 ?_
            refine go_V1V (pc := 107) v_X8_375 rfl rfl (rcv_of (ci := 8) (by first | exact mo0 hM_q | exact mo1 hM_q | exact mo6 hM_q | exact mo7 hM_q | exact mo8 hM_q | exact mo2 hM_q | exact mo3 hM_q | exact mo4 hM_q | exact mo5 hM_q | exact mo9 hM_q | exact mo10 hM_q | exact mo11 hM_q | exact mo12 hM_q | exact mo13 hM_q | exact mo14 hM_q | exact mo15 hM_q | exact mo16 hM_q) rfl) dX8_judge_107 (sp_does (k := k - 1) hM_q (by omega) hB9_q hv9_q (by rw [told_i h_90]; exact h_90)) (fun σ n h_q => ?_)
            obtain ⟨rfl, A1, hM_q, hA1, hf1⟩ := h_q
            have hA_q := eqx.tr (L := [6, 7, 8, 9, 10, 11, 12, 13]) (by repeat (first | assumption | exact eqx.rf | refine eqx.up ?_ (by decide))) (hA1.wk (by decide))
            have hf_q := hf_q.tr hf1
            rw [told_i h_90] at hM_q
            have hG_q : ∀ j, j < 26 → A1 8 j = K (8 + j) := fun j hj_q => by rw [hA1 8 (by decide)]; exact hG_q j hj_q
            refine go_goto (tgt := 116) (pc := 110) dX8_judge_110 (by decide) ?_
            refine go_iinc (v := 1) (lw := [_, _, _, _, _, _, _]) (pc := 116) dX8_judge_116 rfl (by decide) (by decide) rfl ?_
            refine go_goto (tgt := 54) (pc := 119) dX8_judge_119 (by decide) ?_
            rw [nI_1]
            first
              | exact ih_q _ _ _ ⟨_, _, _, _, rfl, hM_q, hA_q, hf_q, hG_q, hS_q.tr (do_same hB9_q.1.2.1 h_90), (do_same hB9_q.1.2.1 h_90).okB hB9_q, vS_do hv9_q hB9_q.1.2.1 hB9_q.1.2.2.2.1 h_90, Or.inl ⟨h_67, h_90, by rw [← hR2, jd_step hi_q, if_pos h_90]⟩, rfl⟩
              | exact ih_q _ _ _ ⟨_, _, _, _, rfl, hM_q, hA_q, hf_q, hG_q, hS_q, hB9_q, hv9_q, Or.inr ⟨nI_ne1 (by omega), by rw [← hR2, jd_step hi_q, if_neg h_90]⟩, rfl⟩
      · rintro lv9 σ n9 ⟨K9_q, pl, wh, A9_q, rfl, hM_q, hA_q, hf_q, hG_q, hS_q, hB9_q, hv9_q, hR_q, rfl⟩
        refine go_iload (pc := 54) dX8_judge_54 rfl ?_
        refine go_aload_n (pc := 56) dX8_judge_56 rfl ?_
        refine go_getf (pc := 57) f_X8_57 dX8_judge_57 (by first | exact mo0 hM_q | exact mo1 hM_q | exact mo6 hM_q | exact mo7 hM_q | exact mo8 hM_q | exact mo2 hM_q | exact mo3 hM_q | exact mo4 hM_q | exact mo5 hM_q | exact mo9 hM_q | exact mo10 hM_q | exact mo11 hM_q | exact mo12 hM_q | exact mo13 hM_q | exact mo14 hM_q | exact mo15 hM_q | exact mo16 hM_q) (by rfl) ?_
        refine go_iload_n (pc := 60) dX8_judge_60 rfl ?_
        refine go_iald (pc := 61) dX8_judge_61 (by first | exact mo0 hM_q | exact mo1 hM_q | exact mo6 hM_q | exact mo7 hM_q | exact mo8 hM_q | exact mo2 hM_q | exact mo3 hM_q | exact mo4 hM_q | exact mo5 hM_q | exact mo9 hM_q | exact mo10 hM_q | exact mo11 hM_q | exact mo12 hM_q | exact mo13 hM_q | exact mo14 hM_q | exact mo15 hM_q | exact mo16 hM_q) (by exact ⟨rfl, by omega⟩) ?_
        rw [hA_q 15 (by decide), eM]
        refine go_icmp_ge (tgt := 122) (pc := 62) dX8_judge_62 (by decide) (fun h_62 => ?_) (fun h_62 => by exfalso; exact h_62 (nI_le (by omega) (by omega)))
        have hFin : R9 = (pl, wh, K9_q) := by
          rcases hR_q with ⟨e1_q, e2_q, e3_q⟩ | ⟨_, e_q⟩
          · rw [Nat.sub_self] at e3_q; rw [e1_q, e2_q, ← e3_q]; rfl
          · exact e_q
        refine go_aload_n (pc := 122) dX8_judge_122 rfl ?_
        refine go_V0P (pc := 123) v_X8_378 rfl rfl (rcv_of (ci := 8) (by first | exact mo0 hM_q | exact mo1 hM_q | exact mo6 hM_q | exact mo7 hM_q | exact mo8 hM_q | exact mo2 hM_q | exact mo3 hM_q | exact mo4 hM_q | exact mo5 hM_q | exact mo9 hM_q | exact mo10 hM_q | exact mo11 hM_q | exact mo12 hM_q | exact mo13 hM_q | exact mo14 hM_q | exact mo15 hM_q | exact mo16 hM_q) rfl) dX8_judge_123 (sp_inFront (k := k - 1) hM_q (by omega) hB9_q) ?_
        refine go_istore (lw := [_, _, _, _, _, _, _]) (pc := 126) dX8_judge_126 (by decide) rfl ?_
        refine go_aload_n (pc := 128) dX8_judge_128 rfl ?_
        refine go_getf (pc := 129) f_X8_9 dX8_judge_129 (by first | exact mo0 hM_q | exact mo1 hM_q | exact mo6 hM_q | exact mo7 hM_q | exact mo8 hM_q | exact mo2 hM_q | exact mo3 hM_q | exact mo4 hM_q | exact mo5 hM_q | exact mo9 hM_q | exact mo10 hM_q | exact mo11 hM_q | exact mo12 hM_q | exact mo13 hM_q | exact mo14 hM_q | exact mo15 hM_q | exact mo16 hM_q) (by rfl) ?_
        refine go_bipush (v := 33) (pc := 132) dX8_judge_132 (by decide) ?_
        refine go_iald (j := 33) (pc := 134) dX8_judge_134 (by first | exact mo0 hM_q | exact mo1 hM_q | exact mo6 hM_q | exact mo7 hM_q | exact mo8 hM_q | exact mo2 hM_q | exact mo3 hM_q | exact mo4 hM_q | exact mo5 hM_q | exact mo9 hM_q | exact mo10 hM_q | exact mo11 hM_q | exact mo12 hM_q | exact mo13 hM_q | exact mo14 hM_q | exact mo15 hM_q | exact mo16 hM_q) (by exact ⟨rfl, by decide⟩) ?_
        refine go_istore (lw := [_, _, _, _, _, _, _]) (pc := 135) dX8_judge_135 (by decide) rfl ?_
        refine go_aload_n (pc := 137) dX8_judge_137 rfl ?_
        refine go_V0V (pc := 138) v_X8_381 rfl rfl (rcv_of (ci := 8) (by first | exact mo0 hM_q | exact mo1 hM_q | exact mo6 hM_q | exact mo7 hM_q | exact mo8 hM_q | exact mo2 hM_q | exact mo3 hM_q | exact mo4 hM_q | exact mo5 hM_q | exact mo9 hM_q | exact mo10 hM_q | exact mo11 hM_q | exact mo12 hM_q | exact mo13 hM_q | exact mo14 hM_q | exact mo15 hM_q | exact mo16 hM_q) rfl) dX8_judge_138 (sp_putsBack (k := k - 1) hM_q) (fun σ n h_q => ?_)
        obtain ⟨rfl, A1, hM_q, hA1, hf1⟩ := h_q
        have hA_q := eqx.tr (L := [6, 7, 8, 9, 10, 11, 12, 13]) (by repeat (first | assumption | exact eqx.rf | refine eqx.up ?_ (by decide))) (hA1.wk (by decide))
        have hf_q := hf_q.tr hf1
        rw [setS_back hS_q hG_q] at hM_q
        refine go_iload_n (pc := 141) dX8_judge_141 rfl ?_
        refine go_if_ne (tgt := 149) (pc := 142) dX8_judge_142 (by decide) (fun h_142 => ?_) (fun h_142 => ?_)
        · refine go_iload_n (pc := 149) dX8_judge_149 rfl ?_
          refine go_iconst (v := 1) (pc := 150) dX8_judge_150 (by decide) ?_
          refine go_icmp_ne (tgt := 159) (pc := 151) dX8_judge_151 (by decide) (fun h_151 => ?_) (fun h_151 => ?_)
          · refine go_iload_n (pc := 159) dX8_judge_159 rfl ?_
            refine go_iconst (v := 2) (pc := 160) dX8_judge_160 (by decide) ?_
            refine go_icmp_ne (tgt := 169) (pc := 161) dX8_judge_161 (by decide) (fun h_161 => ?_) (fun h_161 => ?_)
            · refine go_iload (pc := 169) dX8_judge_169 rfl ?_
              exact go_iretI (pc := 171) rfl dX8_judge_171 (Nat.le_of_ble_eq_true rfl) (Nat.le_of_ble_eq_true rfl) ⟨(by rw [han, hFin]; show _ = (if z = 0 then pl else if z = 1 then wh else if z = 2 then frontK K9_q else K9_q 33); first | rw [if_pos h_142] | rw [if_neg h_142, if_pos h_151] | rw [if_neg h_142, if_neg h_151, if_pos h_161] | rw [if_neg h_142, if_neg h_151, if_neg h_161]), rfl, _, _, hM_q, ⟨(by rw [han]; rfl), fun j h1_q h2_q h3_q => by simp [upd, h1_q, h2_q, h3_q]⟩, (by repeat (first | assumption | exact eqx.rf | refine eqx.up ?_ (by decide))), hf_q⟩
            · refine go_iload (pc := 164) dX8_judge_164 rfl ?_
              refine go_goto (tgt := 171) (pc := 166) dX8_judge_166 (by decide) ?_
              exact go_iretI (pc := 171) rfl dX8_judge_171 (Nat.le_of_ble_eq_true rfl) (Nat.le_of_ble_eq_true rfl) ⟨(by rw [han, hFin]; show _ = (if z = 0 then pl else if z = 1 then wh else if z = 2 then frontK K9_q else K9_q 33); first | rw [if_pos h_142] | rw [if_neg h_142, if_pos h_151] | rw [if_neg h_142, if_neg h_151, if_pos h_161] | rw [if_neg h_142, if_neg h_151, if_neg h_161]), rfl, _, _, hM_q, ⟨(by rw [han]; rfl), fun j h1_q h2_q h3_q => by simp [upd, h1_q, h2_q, h3_q]⟩, (by repeat (first | assumption | exact eqx.rf | refine eqx.up ?_ (by decide))), hf_q⟩
          · refine go_iload (pc := 154) dX8_judge_154 rfl ?_
            refine go_goto (tgt := 171) (pc := 156) dX8_judge_156 (by decide) ?_
            exact go_iretI (pc := 171) rfl dX8_judge_171 (Nat.le_of_ble_eq_true rfl) (Nat.le_of_ble_eq_true rfl) ⟨(by rw [han, hFin]; show _ = (if z = 0 then pl else if z = 1 then wh else if z = 2 then frontK K9_q else K9_q 33); first | rw [if_pos h_142] | rw [if_neg h_142, if_pos h_151] | rw [if_neg h_142, if_neg h_151, if_pos h_161] | rw [if_neg h_142, if_neg h_151, if_neg h_161]), rfl, _, _, hM_q, ⟨(by rw [han]; rfl), fun j h1_q h2_q h3_q => by simp [upd, h1_q, h2_q, h3_q]⟩, (by repeat (first | assumption | exact eqx.rf | refine eqx.up ?_ (by decide))), hf_q⟩
        · refine go_iload_n (pc := 145) dX8_judge_145 rfl ?_
          refine go_goto (tgt := 171) (pc := 146) dX8_judge_146 (by decide) ?_
          exact go_iretI (pc := 171) rfl dX8_judge_171 (Nat.le_of_ble_eq_true rfl) (Nat.le_of_ble_eq_true rfl) ⟨(by rw [han, hFin]; show _ = (if z = 0 then pl else if z = 1 then wh else if z = 2 then frontK K9_q else K9_q 33); first | rw [if_pos h_142] | rw [if_neg h_142, if_pos h_151] | rw [if_neg h_142, if_neg h_151, if_pos h_161] | rw [if_neg h_142, if_neg h_151, if_neg h_161]), rfl, _, _, hM_q, ⟨(by rw [han]; rfl), fun j h1_q h2_q h3_q => by simp [upd, h1_q, h2_q, h3_q]⟩, (by repeat (first | assumption | exact eqx.rf | refine eqx.up ?_ (by decide))), hf_q⟩
theorem sp_perform {Γ : gam} {z0 : sto} {n k r : Nat} {F K : row} {A : Nat → row} {Nm : Nat → Int64} (hM_q : MoAt Γ z0 r F K A Nm) (hk : 12 ≤ k) (hG0 : GD K) (hT0 : okT (A 14) (A 15)) (t : Int32) : Sp Γ (rmk k 0 0) uX8_perform [.ref r, .int t] z0 n (qI fun v σ' n' => v = (aPerform K (A 14) (A 15) Nm t.toInt).2.1 ∧ apJ Γ r F (aPerform K (A 14) (A 15) Nm t.toInt).2.2 A Nm z0 n (aPerform K (A 14) (A 15) Nm t.toInt).1 σ' n') := by
  obtain ⟨hB_q, hv_q, d, hd1_q, hd_q⟩ := id hG0
  have hP8 := hB_q.1.2.1
  have hH5 := hB_q.1.2.2.2.1
  have hW4 := hB_q.1.2.2.2.2.2
  have hA_q : eqx [6, 7, 8, 9, 10, 11, 12, 13] A A := eqx.rf
  have hf_q : fr r (r + 16) z0 z0 := fr.rf
  refine sp_intro [some (.ref r), some (.int t), none] (by decide +kernel) rfl (Nat.le_of_ble_eq_true rfl) rfl ?_
  rcases tyF_c (g := A 14) (t := t.toInt) with h0_q | h0_q | ⟨h0_q, t1_q, ht1, et, hg1⟩
  · refine go_aload_n (pc := 0) dX8_perform_0 rfl ?_
    refine go_aload_n (pc := 1) dX8_perform_1 rfl ?_
    refine go_iload_n (pc := 2) dX8_perform_2 rfl ?_
    refine go_V1P (pc := 3) v_X8_364 rfl rfl (rcv_of (ci := 8) (by first | exact mo0 hM_q | exact mo1 hM_q | exact mo6 hM_q | exact mo7 hM_q | exact mo8 hM_q | exact mo2 hM_q | exact mo3 hM_q | exact mo4 hM_q | exact mo5 hM_q | exact mo9 hM_q | exact mo10 hM_q | exact mo11 hM_q | exact mo12 hM_q | exact mo13 hM_q | exact mo14 hM_q | exact mo15 hM_q | exact mo16 hM_q) rfl) dX8_perform_3 (sp_trayFault (k := k - 1) hM_q (by omega) _) ?_
    rw [h0_q]
    refine go_mpf4 (pc := 6) hM_q dX8_perform_6 (fun σ hM_q hf9 => ?_)
    have hf_q := hf_q.tr hf9
    refine go_aload_n (pc := 9) dX8_perform_9 rfl ?_
    refine go_getf (pc := 10) f_X8_64 dX8_perform_10 (by first | exact mo0 hM_q | exact mo1 hM_q | exact mo6 hM_q | exact mo7 hM_q | exact mo8 hM_q | exact mo2 hM_q | exact mo3 hM_q | exact mo4 hM_q | exact mo5 hM_q | exact mo9 hM_q | exact mo10 hM_q | exact mo11 hM_q | exact mo12 hM_q | exact mo13 hM_q | exact mo14 hM_q | exact mo15 hM_q | exact mo16 hM_q) (by rfl) ?_
    refine go_if_le (tgt := 18) (pc := 13) dX8_perform_13 (by decide) (fun h_13 => by exfalso; exact absurd (show (1 : Int32) ≤ 0 from h_13) (by decide)) (fun h_13 => ?_)
    refine go_iconst (v := 0) (pc := 16) dX8_perform_16 (by decide) ?_
    exact go_iretI (pc := 17) rfl dX8_perform_17 (Nat.le_of_ble_eq_true rfl) (Nat.le_of_ble_eq_true rfl) ⟨(by rw [aPerform, h0_q]; rfl), rfl, _, _, (by rw [aPerform, h0_q]; exact hM_q), ⟨(by rw [aPerform, h0_q]; rfl), fun j h1_q h2_q h3_q => by simp [upd, h1_q, h2_q, h3_q]⟩, (by repeat (first | assumption | exact eqx.rf | refine eqx.up ?_ (by decide))), hf_q⟩
  · refine go_aload_n (pc := 0) dX8_perform_0 rfl ?_
    refine go_aload_n (pc := 1) dX8_perform_1 rfl ?_
    refine go_iload_n (pc := 2) dX8_perform_2 rfl ?_
    refine go_V1P (pc := 3) v_X8_364 rfl rfl (rcv_of (ci := 8) (by first | exact mo0 hM_q | exact mo1 hM_q | exact mo6 hM_q | exact mo7 hM_q | exact mo8 hM_q | exact mo2 hM_q | exact mo3 hM_q | exact mo4 hM_q | exact mo5 hM_q | exact mo9 hM_q | exact mo10 hM_q | exact mo11 hM_q | exact mo12 hM_q | exact mo13 hM_q | exact mo14 hM_q | exact mo15 hM_q | exact mo16 hM_q) rfl) dX8_perform_3 (sp_trayFault (k := k - 1) hM_q (by omega) _) ?_
    rw [h0_q]
    refine go_mpf4 (pc := 6) hM_q dX8_perform_6 (fun σ hM_q hf9 => ?_)
    have hf_q := hf_q.tr hf9
    refine go_aload_n (pc := 9) dX8_perform_9 rfl ?_
    refine go_getf (pc := 10) f_X8_64 dX8_perform_10 (by first | exact mo0 hM_q | exact mo1 hM_q | exact mo6 hM_q | exact mo7 hM_q | exact mo8 hM_q | exact mo2 hM_q | exact mo3 hM_q | exact mo4 hM_q | exact mo5 hM_q | exact mo9 hM_q | exact mo10 hM_q | exact mo11 hM_q | exact mo12 hM_q | exact mo13 hM_q | exact mo14 hM_q | exact mo15 hM_q | exact mo16 hM_q) (by rfl) ?_
    refine go_if_le (tgt := 18) (pc := 13) dX8_perform_13 (by decide) (fun h_13 => by exfalso; exact absurd (show (2 : Int32) ≤ 0 from h_13) (by decide)) (fun h_13 => ?_)
    refine go_iconst (v := 0) (pc := 16) dX8_perform_16 (by decide) ?_
    exact go_iretI (pc := 17) rfl dX8_perform_17 (Nat.le_of_ble_eq_true rfl) (Nat.le_of_ble_eq_true rfl) ⟨(by rw [aPerform, h0_q]; rfl), rfl, _, _, (by rw [aPerform, h0_q]; exact hM_q), ⟨(by rw [aPerform, h0_q]; rfl), fun j h1_q h2_q h3_q => by simp [upd, h1_q, h2_q, h3_q]⟩, (by repeat (first | assumption | exact eqx.rf | refine eqx.up ?_ (by decide))), hf_q⟩
  · obtain rfl := I_nat et (by omega)
    obtain ⟨M9, hM9, eM⟩ := (hT0 t1_q ht1).1
    obtain ⟨R9, hR9⟩ : ∃ x, x = pfK (fun k => Nm (30 * t1_q + k)) M9 0 K := ⟨_, rfl⟩
    have han : aPerform K (A 14) (A 15) Nm (nI t1_q).toInt = (0, nI R9.1, R9.2) := by rw [aPerform, h0_q, et, hR9]; simp only [Int.toNat_natCast, eM, nI_clamp (show M9 < 2 ^ 31 by omega)]; rfl
    refine go_aload_n (pc := 0) dX8_perform_0 rfl ?_
    refine go_aload_n (pc := 1) dX8_perform_1 rfl ?_
    refine go_iload_n (pc := 2) dX8_perform_2 rfl ?_
    refine go_V1P (pc := 3) v_X8_364 rfl rfl (rcv_of (ci := 8) (by first | exact mo0 hM_q | exact mo1 hM_q | exact mo6 hM_q | exact mo7 hM_q | exact mo8 hM_q | exact mo2 hM_q | exact mo3 hM_q | exact mo4 hM_q | exact mo5 hM_q | exact mo9 hM_q | exact mo10 hM_q | exact mo11 hM_q | exact mo12 hM_q | exact mo13 hM_q | exact mo14 hM_q | exact mo15 hM_q | exact mo16 hM_q) rfl) dX8_perform_3 (sp_trayFault (k := k - 1) hM_q (by omega) _) ?_
    rw [h0_q]
    refine go_mpf4 (pc := 6) hM_q dX8_perform_6 (fun σ hM_q hf9 => ?_)
    have hf_q := hf_q.tr hf9
    refine go_aload_n (pc := 9) dX8_perform_9 rfl ?_
    refine go_getf (pc := 10) f_X8_64 dX8_perform_10 (by first | exact mo0 hM_q | exact mo1 hM_q | exact mo6 hM_q | exact mo7 hM_q | exact mo8 hM_q | exact mo2 hM_q | exact mo3 hM_q | exact mo4 hM_q | exact mo5 hM_q | exact mo9 hM_q | exact mo10 hM_q | exact mo11 hM_q | exact mo12 hM_q | exact mo13 hM_q | exact mo14 hM_q | exact mo15 hM_q | exact mo16 hM_q) (by rfl) ?_
    refine go_if_le (tgt := 18) (pc := 13) dX8_perform_13 (by decide) (fun h_13 => ?_) (fun h_13 => by exfalso; exact h_13 (show (0 : Int32) ≤ 0 from by decide))
    refine go_iconst (v := 0) (pc := 18) dX8_perform_18 (by decide) ?_
    refine go_istore_n (lw := [_, _, _]) (pc := 19) dX8_perform_19 (by decide) rfl ?_
    refine go_iter (M9) (fun i_q lv9 s9 n9 => ∃ (K9_q : row), ∃ A9_q, lv9 = [some (.ref r), some (.int (nI t1_q)), some (.int (nI i_q))] ∧ (MoAt Γ s9 r (upd F 4 0) K9_q A9_q Nm) ∧ (eqx [6, 7, 8, 9, 10, 11, 12, 13] A A9_q) ∧ (fr r (r + 16) z0 s9) ∧ (GD K9_q) ∧ (pfK (fun k => Nm (30 * t1_q + k)) (M9 - i_q) i_q K9_q = R9) ∧ n = n9) ⟨_, _, rfl, hM_q, hA_q, hf_q, hG0, hR9.symm, rfl⟩ ?_ ?_
    · rintro i_q lv9 σ n9 hi_q ⟨K9_q, A9_q, rfl, hM_q, hA_q, hf_q, hG9, hR_q, rfl⟩ ih_q
      obtain ⟨hB9_q, hv9_q, d9_q, hd9, hd8⟩ := id hG9
      have h98 := hB9_q.1.2.1
      refine go_iload_n (pc := 20) dX8_perform_20 rfl ?_
      refine go_aload_n (pc := 21) dX8_perform_21 rfl ?_
      refine go_getf (pc := 22) f_X8_57 dX8_perform_22 (by first | exact mo0 hM_q | exact mo1 hM_q | exact mo6 hM_q | exact mo7 hM_q | exact mo8 hM_q | exact mo2 hM_q | exact mo3 hM_q | exact mo4 hM_q | exact mo5 hM_q | exact mo9 hM_q | exact mo10 hM_q | exact mo11 hM_q | exact mo12 hM_q | exact mo13 hM_q | exact mo14 hM_q | exact mo15 hM_q | exact mo16 hM_q) (by rfl) ?_
      refine go_iload_n (pc := 25) dX8_perform_25 rfl ?_
      refine go_iald (pc := 26) dX8_perform_26 (by first | exact mo0 hM_q | exact mo1 hM_q | exact mo6 hM_q | exact mo7 hM_q | exact mo8 hM_q | exact mo2 hM_q | exact mo3 hM_q | exact mo4 hM_q | exact mo5 hM_q | exact mo9 hM_q | exact mo10 hM_q | exact mo11 hM_q | exact mo12 hM_q | exact mo13 hM_q | exact mo14 hM_q | exact mo15 hM_q | exact mo16 hM_q) (by exact ⟨rfl, by omega⟩) ?_
      rw [hA_q 15 (by decide), eM]
      refine go_icmp_ge (tgt := 74) (pc := 27) dX8_perform_27 (by decide) (fun h_27 => by exfalso; exact absurd h_27 (nI_ge (by omega) (by omega))) (fun h_27 => ?_)
      refine go_aload_n (pc := 30) dX8_perform_30 rfl ?_
      refine go_aload_n (pc := 31) dX8_perform_31 rfl ?_
      refine go_getf (pc := 32) f_X8_60 dX8_perform_32 (by first | exact mo0 hM_q | exact mo1 hM_q | exact mo6 hM_q | exact mo7 hM_q | exact mo8 hM_q | exact mo2 hM_q | exact mo3 hM_q | exact mo4 hM_q | exact mo5 hM_q | exact mo9 hM_q | exact mo10 hM_q | exact mo11 hM_q | exact mo12 hM_q | exact mo13 hM_q | exact mo14 hM_q | exact mo15 hM_q | exact mo16 hM_q) (by rfl) ?_
      refine go_bipush (v := 30) (pc := 35) dX8_perform_35 (by decide) ?_
      refine go_iload_n (pc := 37) dX8_perform_37 rfl ?_
      refine go_imul (pc := 38) dX8_perform_38 ?_
      refine go_iload_n (pc := 39) dX8_perform_39 rfl ?_
      refine go_iadd (pc := 40) dX8_perform_40 ?_
      refine go_lald (pc := 41) dX8_perform_41 (by first | exact mo0 hM_q | exact mo1 hM_q | exact mo6 hM_q | exact mo7 hM_q | exact mo8 hM_q | exact mo2 hM_q | exact mo3 hM_q | exact mo4 hM_q | exact mo5 hM_q | exact mo9 hM_q | exact mo10 hM_q | exact mo11 hM_q | exact mo12 hM_q | exact mo13 hM_q | exact mo14 hM_q | exact mo15 hM_q | exact mo16 hM_q) (by exact ⟨num_ix, by omega⟩) ?_
      refine go_V1P (pc := 42) v_X8_372 rfl rfl (rcv_of (ci := 8) (by first | exact mo0 hM_q | exact mo1 hM_q | exact mo6 hM_q | exact mo7 hM_q | exact mo8 hM_q | exact mo2 hM_q | exact mo3 hM_q | exact mo4 hM_q | exact mo5 hM_q | exact mo9 hM_q | exact mo10 hM_q | exact mo11 hM_q | exact mo12 hM_q | exact mo13 hM_q | exact mo14 hM_q | exact mo15 hM_q | exact mo16 hM_q) rfl) dX8_perform_42 (sp_whyTold (k := k - 1) hM_q (by omega) hB9_q _) ?_
      refine go_if_ne (tgt := 74) (pc := 45) dX8_perform_45 (by decide) (fun h_45 => ?_) (fun h_45 => ?_)
      · refine go_iload_n (pc := 74) dX8_perform_74 rfl ?_
        exact go_iretI (pc := 75) rfl dX8_perform_75 (Nat.le_of_ble_eq_true rfl) (Nat.le_of_ble_eq_true rfl) ⟨(by rw [han, ← hR_q, pf_step hi_q, if_neg h_45]), rfl, _, _, (by rw [han, ← hR_q, pf_step hi_q, if_neg h_45]; exact hM_q), ⟨(by rw [han]; rfl), fun j h1_q h2_q h3_q => by simp [upd, h1_q, h2_q, h3_q]⟩, (by repeat (first | assumption | exact eqx.rf | refine eqx.up ?_ (by decide))), hf_q⟩
      · refine go_aload_n (pc := 48) dX8_perform_48 rfl ?_
        refine go_V0V (pc := 49) v_X8_321 rfl rfl (rcv_of (ci := 8) (by first | exact mo0 hM_q | exact mo1 hM_q | exact mo6 hM_q | exact mo7 hM_q | exact mo8 hM_q | exact mo2 hM_q | exact mo3 hM_q | exact mo4 hM_q | exact mo5 hM_q | exact mo9 hM_q | exact mo10 hM_q | exact mo11 hM_q | exact mo12 hM_q | exact mo13 hM_q | exact mo14 hM_q | exact mo15 hM_q | exact mo16 hM_q) rfl) dX8_perform_49 (sp_keeps (k := k - 1) hM_q hd8 hd9) (fun σ n h_q => ?_)
        obtain ⟨rfl, A1, hM_q, hA1, hf1⟩ := h_q
        have hA_q := eqx.tr (L := [6, 7, 8, 9, 10, 11, 12, 13]) (by repeat (first | assumption | exact eqx.rf | refine eqx.up ?_ (by decide))) (hA1.wk (by decide))
        have hf_q := hf_q.tr hf1
        refine go_aload_n (pc := 52) dX8_perform_52 rfl ?_
        refine go_aload_n (pc := 53) dX8_perform_53 rfl ?_
        refine go_getf (pc := 54) f_X8_60 dX8_perform_54 (by first | exact mo0 hM_q | exact mo1 hM_q | exact mo6 hM_q | exact mo7 hM_q | exact mo8 hM_q | exact mo2 hM_q | exact mo3 hM_q | exact mo4 hM_q | exact mo5 hM_q | exact mo9 hM_q | exact mo10 hM_q | exact mo11 hM_q | exact mo12 hM_q | exact mo13 hM_q | exact mo14 hM_q | exact mo15 hM_q | exact mo16 hM_q) (by rfl) ?_
        refine go_bipush (v := 30) (pc := 57) dX8_perform_57 (by decide) ?_
        refine go_iload_n (pc := 59) dX8_perform_59 rfl ?_
        refine go_imul (pc := 60) dX8_perform_60 ?_
        refine go_iload_n (pc := 61) dX8_perform_61 rfl ?_
        refine go_iadd (pc := 62) dX8_perform_62 ?_
        refine go_lald (pc := 63) dX8_perform_63 (by first | exact mo0 hM_q | exact mo1 hM_q | exact mo6 hM_q | exact mo7 hM_q | exact mo8 hM_q | exact mo2 hM_q | exact mo3 hM_q | exact mo4 hM_q | exact mo5 hM_q | exact mo9 hM_q | exact mo10 hM_q | exact mo11 hM_q | exact mo12 hM_q | exact mo13 hM_q | exact mo14 hM_q | exact mo15 hM_q | exact mo16 hM_q) (by exact ⟨num_ix, by omega⟩) ?_
        refine go_l2i (pc := 64) dX8_perform_64 ?_
        refine go_V1V (pc := 65) v_X8_375 rfl rfl (rcv_of (ci := 8) (by first | exact mo0 hM_q | exact mo1 hM_q | exact mo6 hM_q | exact mo7 hM_q | exact mo8 hM_q | exact mo2 hM_q | exact mo3 hM_q | exact mo4 hM_q | exact mo5 hM_q | exact mo9 hM_q | exact mo10 hM_q | exact mo11 hM_q | exact mo12 hM_q | exact mo13 hM_q | exact mo14 hM_q | exact mo15 hM_q | exact mo16 hM_q) rfl) dX8_perform_65 (sp_does (k := k - 1) hM_q (by omega) hG9.keep.1 hG9.keep.2.1 (by rw [told_i h_45]; exact (whyT_U hG9.U (by omega) _).trans h_45)) (fun σ n h_q => ?_)
        obtain ⟨rfl, A1, hM_q, hA1, hf1⟩ := h_q
        have hA_q := eqx.tr (L := [6, 7, 8, 9, 10, 11, 12, 13]) (by repeat (first | assumption | exact eqx.rf | refine eqx.up ?_ (by decide))) (hA1.wk (by decide))
        have hf_q := hf_q.tr hf1
        rw [told_i h_45] at hM_q
        refine go_iinc (v := 1) (lw := [_, _, _]) (pc := 68) dX8_perform_68 rfl (by decide) (by decide) rfl ?_
        refine go_goto (tgt := 20) (pc := 71) dX8_perform_71 (by decide) ?_
        rw [nI_1]
        exact ih_q _ _ _ ⟨_, _, rfl, hM_q, hA_q, hf_q, (hG9.keep.deed ((whyT_U hG9.U (by omega) _).trans h_45)), (by rw [← hR_q, pf_step hi_q, if_pos h_45]), rfl⟩
    · rintro lv9 σ n9 ⟨K9_q, A9_q, rfl, hM_q, hA_q, hf_q, hG9, hR_q, rfl⟩
      obtain ⟨hB9_q, hv9_q, d9_q, hd9, hd8⟩ := id hG9
      have h98 := hB9_q.1.2.1
      refine go_iload_n (pc := 20) dX8_perform_20 rfl ?_
      refine go_aload_n (pc := 21) dX8_perform_21 rfl ?_
      refine go_getf (pc := 22) f_X8_57 dX8_perform_22 (by first | exact mo0 hM_q | exact mo1 hM_q | exact mo6 hM_q | exact mo7 hM_q | exact mo8 hM_q | exact mo2 hM_q | exact mo3 hM_q | exact mo4 hM_q | exact mo5 hM_q | exact mo9 hM_q | exact mo10 hM_q | exact mo11 hM_q | exact mo12 hM_q | exact mo13 hM_q | exact mo14 hM_q | exact mo15 hM_q | exact mo16 hM_q) (by rfl) ?_
      refine go_iload_n (pc := 25) dX8_perform_25 rfl ?_
      refine go_iald (pc := 26) dX8_perform_26 (by first | exact mo0 hM_q | exact mo1 hM_q | exact mo6 hM_q | exact mo7 hM_q | exact mo8 hM_q | exact mo2 hM_q | exact mo3 hM_q | exact mo4 hM_q | exact mo5 hM_q | exact mo9 hM_q | exact mo10 hM_q | exact mo11 hM_q | exact mo12 hM_q | exact mo13 hM_q | exact mo14 hM_q | exact mo15 hM_q | exact mo16 hM_q) (by exact ⟨rfl, by omega⟩) ?_
      rw [hA_q 15 (by decide), eM]
      refine go_icmp_ge (tgt := 74) (pc := 27) dX8_perform_27 (by decide) (fun h_27 => ?_) (fun h_27 => by exfalso; exact h_27 (nI_le (by omega) (by omega)))
      refine go_iload_n (pc := 74) dX8_perform_74 rfl ?_
      exact go_iretI (pc := 75) rfl dX8_perform_75 (Nat.le_of_ble_eq_true rfl) (Nat.le_of_ble_eq_true rfl) ⟨(by rw [han, ← hR_q, Nat.sub_self, pfK]), rfl, _, _, (by rw [han, ← hR_q, Nat.sub_self, pfK]; exact hM_q), ⟨(by rw [han]; rfl), fun j h1_q h2_q h3_q => by simp [upd, h1_q, h2_q, h3_q]⟩, (by repeat (first | assumption | exact eqx.rf | refine eqx.up ?_ (by decide))), hf_q⟩
theorem dr_ush (s : Int32) : (s.toUInt32 >>> (Int32.toUInt32 16 &&& Int32.toUInt32 31)).toInt32 = nI (drV s) := by
  apply Int32.toBitVec_inj.mp
  apply BitVec.eq_of_toNat_eq
  rw [pk_ushr s 16 16 (by decide), pk_tn (by have := s.toBitVec.isLt; unfold drV; omega)]
  rfl
theorem drV_lt (s : Int32) : drV s < 65536 := by have := s.toBitVec.isLt; unfold drV; omega
theorem sp_draw {Γ : gam} {z0 : sto} {n k r : Nat} {F K : row} {A : Nat → row} {Nm : Nat → Int64} (hM_q : MoAt Γ z0 r F K A Nm) {m1 : Nat} (h0_q : 0 < m1) (h9_q : m1 < 10) : Sp Γ (rmk k 0 0) uX8_draw [.ref r, .int (nI m1)] z0 n (qI fun v σ' n' => v = nI (drV (drS (F 22)) % m1) ∧ moJ Γ r (upd F 22 (drS (F 22))) K A Nm z0 n [] σ' n') := by
  have hf_q : fr r (r + 16) z0 z0 := fr.rf
  refine sp_intro [some (.ref r), some (.int (nI m1))] (by decide +kernel) rfl (Nat.le_of_ble_eq_true rfl) rfl ?_
  refine go_aload_n (pc := 0) dX8_draw_0 rfl ?_
  refine go_ldcw (pc := 1) kw8_23 dX8_draw_1 ?_
  refine go_aload_n (pc := 4) dX8_draw_4 rfl ?_
  refine go_getf (pc := 5) f_X8_385 dX8_draw_5 (by first | exact mo0 hM_q | exact mo1 hM_q | exact mo6 hM_q | exact mo7 hM_q | exact mo8 hM_q | exact mo2 hM_q | exact mo3 hM_q | exact mo4 hM_q | exact mo5 hM_q | exact mo9 hM_q | exact mo10 hM_q | exact mo11 hM_q | exact mo12 hM_q | exact mo13 hM_q | exact mo14 hM_q | exact mo15 hM_q | exact mo16 hM_q) (by rfl) ?_
  refine go_imul (pc := 8) dX8_draw_8 ?_
  refine go_sipush (v := 12345) (pc := 9) dX8_draw_9 (by decide) ?_
  refine go_iadd (pc := 12) dX8_draw_12 ?_
  refine go_mpf22 (pc := 13) hM_q dX8_draw_13 (fun σ hM_q hf9 => ?_)
  have hf_q := hf_q.tr hf9
  refine go_aload_n (pc := 16) dX8_draw_16 rfl ?_
  refine go_getf (pc := 17) f_X8_385 dX8_draw_17 (by first | exact mo0 hM_q | exact mo1 hM_q | exact mo6 hM_q | exact mo7 hM_q | exact mo8 hM_q | exact mo2 hM_q | exact mo3 hM_q | exact mo4 hM_q | exact mo5 hM_q | exact mo9 hM_q | exact mo10 hM_q | exact mo11 hM_q | exact mo12 hM_q | exact mo13 hM_q | exact mo14 hM_q | exact mo15 hM_q | exact mo16 hM_q) (by rfl) ?_
  refine go_bipush (v := 16) (pc := 20) dX8_draw_20 (by decide) ?_
  refine go_iushr (pc := 22) dX8_draw_22 ?_
  refine go_iload_n (pc := 23) dX8_draw_23 rfl ?_
  rw [show upd F 22 (1103515245 * F 22 + 12345) 22 = drS (F 22) from rfl, dr_ush]
  refine go_irem (pc := 24) dX8_draw_24 (nI_ne0 (by omega) (by omega)) ?_
  exact go_iretI (pc := 25) rfl dX8_draw_25 (Nat.le_of_ble_eq_true rfl) (Nat.le_of_ble_eq_true rfl) ⟨(by exact pk_rem (by have := drV_lt (drS (F 22)); omega) (by omega) (by omega)), rfl, A, hM_q, eqx.rf, hf_q⟩
theorem drn_i {q w m : Nat} {a : Int32} (ha : a = nI m) : a + 10 * nI q + nI w = nI (m + 10 * q + w) := by
  rw [ha, show (10 : Int32) = nI 10 from rfl, pk_mul, nI_add, nI_add]
theorem sp_drawn {Γ : gam} {z0 : sto} {n k r : Nat} {F K : row} {A : Nat → row} {Nm : Nat → Int64} (hM_q : MoAt Γ z0 r F K A Nm) (hk : 1 ≤ k) {w1_q q1_q : Nat} (hw1 : 2 ≤ w1_q ∧ w1_q < 5) (hq1 : q1_q < 8) : Sp Γ (rmk k 0 0) uX8_drawn [.ref r, .int (nI w1_q), .int (nI q1_q)] z0 n (qI fun v σ' n' => ∃ F', n' = n ∧ v = (if w1_q = 2 then nI q1_q else if w1_q = 3 then nI (100 + 10 * q1_q + drV (drS (F 22)) % 4) else nI (200 + 10 * q1_q + drV (drS (F 22)) % 8)) ∧ F' 22 = (if w1_q = 2 then F 22 else drS (F 22)) ∧ (∀ j, j ≠ 22 → F' j = F j) ∧ ∃ A', MoAt Γ σ' r F' K A' Nm ∧ eqx [] A A' ∧ fr r (r + 16) z0 σ') := by
  have hA_q : eqx [] A A := eqx.rf
  have hf_q : fr r (r + 16) z0 z0 := fr.rf
  refine sp_intro [some (.ref r), some (.int (nI w1_q)), some (.int (nI q1_q))] (by decide +kernel) rfl (Nat.le_of_ble_eq_true rfl) rfl ?_
  rcases (show w1_q = 2 ∨ w1_q = 3 ∨ w1_q = 4 by omega) with rfl | rfl | rfl
  · refine go_iload_n (pc := 0) dX8_drawn_0 rfl ?_
    refine go_iconst (v := 2) (pc := 1) dX8_drawn_1 (by decide) ?_
    refine go_icmp_ne (tgt := 9) (pc := 2) dX8_drawn_2 (by decide) (fun h_2 => by exfalso; exact h_2 rfl) (fun h_2 => ?_)
    refine go_iload_n (pc := 5) dX8_drawn_5 rfl ?_
    refine go_goto (tgt := 45) (pc := 6) dX8_drawn_6 (by decide) ?_
    exact go_iretI (pc := 45) rfl dX8_drawn_45 (Nat.le_of_ble_eq_true rfl) (Nat.le_of_ble_eq_true rfl) ⟨_, rfl, (by first | rfl | exact drn_i rfl), rfl, (fun j hj_q => by simp [upd, hj_q]), _, hM_q, hA_q, hf_q⟩
  · refine go_iload_n (pc := 0) dX8_drawn_0 rfl ?_
    refine go_iconst (v := 2) (pc := 1) dX8_drawn_1 (by decide) ?_
    refine go_icmp_ne (tgt := 9) (pc := 2) dX8_drawn_2 (by decide) (fun h_2 => ?_) (fun h_2 => by exfalso; exact absurd h_2 (by decide))
    refine go_iload_n (pc := 9) dX8_drawn_9 rfl ?_
    refine go_iconst (v := 3) (pc := 10) dX8_drawn_10 (by decide) ?_
    refine go_icmp_ne (tgt := 30) (pc := 11) dX8_drawn_11 (by decide) (fun h_11 => by exfalso; exact h_11 rfl) (fun h_11 => ?_)
    refine go_bipush (v := 100) (pc := 14) dX8_drawn_14 (by decide) ?_
    refine go_bipush (v := 10) (pc := 16) dX8_drawn_16 (by decide) ?_
    refine go_iload_n (pc := 18) dX8_drawn_18 rfl ?_
    refine go_imul (pc := 19) dX8_drawn_19 ?_
    refine go_iadd (pc := 20) dX8_drawn_20 ?_
    refine go_aload_n (pc := 21) dX8_drawn_21 rfl ?_
    refine go_iconst (v := 4) (pc := 22) dX8_drawn_22 (by decide) ?_
    refine go_V1I (pc := 23) v_X8_390 rfl rfl (rcv_of (ci := 8) (by first | exact mo0 hM_q | exact mo1 hM_q | exact mo6 hM_q | exact mo7 hM_q | exact mo8 hM_q | exact mo2 hM_q | exact mo3 hM_q | exact mo4 hM_q | exact mo5 hM_q | exact mo9 hM_q | exact mo10 hM_q | exact mo11 hM_q | exact mo12 hM_q | exact mo13 hM_q | exact mo14 hM_q | exact mo15 hM_q | exact mo16 hM_q) rfl) dX8_drawn_23 (sp_draw (k := k - 1) (m1 := 4) hM_q (by omega) (by omega)) (fun v_23 σ n h_q => ?_)
    obtain ⟨rfl, rfl, A1, hM_q, hA1, hf1⟩ := h_q
    have hA_q := eqx.tr (L := []) (by repeat (first | assumption | exact eqx.rf | refine eqx.up ?_ (by decide))) (hA1.wk (by decide))
    have hf_q := hf_q.tr hf1
    refine go_iadd (pc := 26) dX8_drawn_26 ?_
    refine go_goto (tgt := 45) (pc := 27) dX8_drawn_27 (by decide) ?_
    exact go_iretI (pc := 45) rfl dX8_drawn_45 (Nat.le_of_ble_eq_true rfl) (Nat.le_of_ble_eq_true rfl) ⟨_, rfl, (by first | rfl | exact drn_i rfl), rfl, (fun j hj_q => by simp [upd, hj_q]), _, hM_q, hA_q, hf_q⟩
  · refine go_iload_n (pc := 0) dX8_drawn_0 rfl ?_
    refine go_iconst (v := 2) (pc := 1) dX8_drawn_1 (by decide) ?_
    refine go_icmp_ne (tgt := 9) (pc := 2) dX8_drawn_2 (by decide) (fun h_2 => ?_) (fun h_2 => by exfalso; exact absurd h_2 (by decide))
    refine go_iload_n (pc := 9) dX8_drawn_9 rfl ?_
    refine go_iconst (v := 3) (pc := 10) dX8_drawn_10 (by decide) ?_
    refine go_icmp_ne (tgt := 30) (pc := 11) dX8_drawn_11 (by decide) (fun h_11 => ?_) (fun h_11 => by exfalso; exact absurd h_11 (by decide))
    refine go_sipush (v := 200) (pc := 30) dX8_drawn_30 (by decide) ?_
    refine go_bipush (v := 10) (pc := 33) dX8_drawn_33 (by decide) ?_
    refine go_iload_n (pc := 35) dX8_drawn_35 rfl ?_
    refine go_imul (pc := 36) dX8_drawn_36 ?_
    refine go_iadd (pc := 37) dX8_drawn_37 ?_
    refine go_aload_n (pc := 38) dX8_drawn_38 rfl ?_
    refine go_bipush (v := 8) (pc := 39) dX8_drawn_39 (by decide) ?_
    refine go_V1I (pc := 41) v_X8_390 rfl rfl (rcv_of (ci := 8) (by first | exact mo0 hM_q | exact mo1 hM_q | exact mo6 hM_q | exact mo7 hM_q | exact mo8 hM_q | exact mo2 hM_q | exact mo3 hM_q | exact mo4 hM_q | exact mo5 hM_q | exact mo9 hM_q | exact mo10 hM_q | exact mo11 hM_q | exact mo12 hM_q | exact mo13 hM_q | exact mo14 hM_q | exact mo15 hM_q | exact mo16 hM_q) rfl) dX8_drawn_41 (sp_draw (k := k - 1) (m1 := 8) hM_q (by omega) (by omega)) (fun v_41 σ n h_q => ?_)
    obtain ⟨rfl, rfl, A1, hM_q, hA1, hf1⟩ := h_q
    have hA_q := eqx.tr (L := []) (by repeat (first | assumption | exact eqx.rf | refine eqx.up ?_ (by decide))) (hA1.wk (by decide))
    have hf_q := hf_q.tr hf1
    refine go_iadd (pc := 44) dX8_drawn_44 ?_
    exact go_iretI (pc := 45) rfl dX8_drawn_45 (Nat.le_of_ble_eq_true rfl) (Nat.le_of_ble_eq_true rfl) ⟨_, rfl, (by first | rfl | exact drn_i rfl), rfl, (fun j hj_q => by simp [upd, hj_q]), _, hM_q, hA_q, hf_q⟩
theorem drD_a {s : Int32} (h_q : drV (drS s) % 5 < 2) : drD s = (-1, drS s) := by simp [drD, h_q]
theorem drD_b {s : Int32} {w1_q q1_q : Nat} {v : Int32} {t : Int32} (hw_q : drV (drS s) % 5 = w1_q) (h2_q : 2 ≤ w1_q) (hq_q : drV (drS (drS s)) % 8 = q1_q) (hv_q : v = (if w1_q = 2 then nI q1_q else if w1_q = 3 then nI (100 + 10 * q1_q + drV (drS (drS (drS s))) % 4) else nI (200 + 10 * q1_q + drV (drS (drS (drS s))) % 8))) (ht_q : t = (if w1_q = 2 then drS (drS s) else drS (drS (drS s)))) : v.toInt = (drD s).1 ∧ t = (drD s).2 := by
  subst hw_q hq_q
  simp only [drD]
  rw [if_neg (by omega)]
  by_cases h_q : drV (drS s) % 5 = 2
  · rw [if_pos h_q] at hv_q ht_q ⊢
    exact ⟨by rw [hv_q, nI_toInt (by omega)], ht_q⟩
  · rw [if_neg h_q] at hv_q ht_q ⊢
    by_cases h3_q : drV (drS s) % 5 = 3
    · rw [if_pos h3_q] at hv_q ⊢
      exact ⟨by rw [hv_q, nI_toInt (by omega)]; simp only; omega, ht_q⟩
    · rw [if_neg h3_q] at hv_q ⊢
      exact ⟨by rw [hv_q, nI_toInt (by omega)]; simp only; omega, ht_q⟩
theorem sp_afternoon {Γ : gam} {z0 : sto} {n k r : Nat} {F K : row} {A : Nat → row} {Nm : Nat → Int64} (hM_q : MoAt Γ z0 r F K A Nm) (hk : 12 ≤ k) (hG0 : GD K) (s0 z : Int32) : Sp Γ (rmk k 0 0) uX8_afternoon [.ref r, .int s0, .int z] z0 n (qI fun v σ' n' => v = (aAfter K s0 z.toInt).2.1 ∧ apJ Γ r F (aAfter K s0 z.toInt).2.2 A Nm z0 n (aAfter K s0 z.toInt).1 σ' n') := by
  obtain ⟨hB_q, hv_q, d, hd1_q, hd_q⟩ := id hG0
  have hP8 := hB_q.1.2.1
  have hH5 := hB_q.1.2.2.2.1
  have hW4 := hB_q.1.2.2.2.2.2
  have hA_q : eqx [6, 7, 8, 9, 10, 11, 12, 13] A A := eqx.rf
  have hf_q : fr r (r + 16) z0 z0 := fr.rf
  refine sp_intro [some (.ref r), some (.int s0), some (.int z), none, none, none, none] (by decide +kernel) rfl (Nat.le_of_ble_eq_true rfl) rfl ?_
  cases hz_q : rN 1 31 z.toInt with
  | none =>
    refine go_aload_n (pc := 0) dX8_afternoon_0 rfl ?_
    refine go_iconst (v := 0) (pc := 1) dX8_afternoon_1 (by decide) ?_
    refine go_mpf4 (pc := 2) hM_q dX8_afternoon_2 (fun σ hM_q hf9 => ?_)
    have hf_q := hf_q.tr hf9
    refine go_iload_n (pc := 5) dX8_afternoon_5 rfl ?_
    refine go_i2l (pc := 6) dX8_afternoon_6 ?_
    refine go_lconst (v := 1) (pc := 7) dX8_afternoon_7 rfl ?_
    refine go_ldc2 (pc := 8) kw8_18 dX8_afternoon_8 ?_
    refine go_S3P (pc := 11) s_X8_125 rfl rfl dX8_afternoon_11 (sp_within (k := k - 1) _ _ _) ?_
    refine go_if_ne (tgt := 23) (pc := 14) dX8_afternoon_14 (by decide) (fun h_14 => by exfalso; exact h_14 (wi_no hz_q (by decide) (by decide))) (fun h_14 => ?_)
    refine go_aload_n (pc := 17) dX8_afternoon_17 rfl ?_
    refine go_iconst (v := 1) (pc := 18) dX8_afternoon_18 (by decide) ?_
    refine go_V1I (pc := 19) v_X8_231 rfl rfl (rcv_of (ci := 8) (by first | exact mo0 hM_q | exact mo1 hM_q | exact mo6 hM_q | exact mo7 hM_q | exact mo8 hM_q | exact mo2 hM_q | exact mo3 hM_q | exact mo4 hM_q | exact mo5 hM_q | exact mo9 hM_q | exact mo10 hM_q | exact mo11 hM_q | exact mo12 hM_q | exact mo13 hM_q | exact mo14 hM_q | exact mo15 hM_q | exact mo16 hM_q) rfl) dX8_afternoon_19 (sp_fails (k := k - 1) hM_q _) (fun v_19 σ n h_q => ?_)
    obtain ⟨rfl, rfl, A1, hM_q, hA1, hf1⟩ := h_q
    have hA_q := eqx.tr (L := [6, 7, 8, 9, 10, 11, 12, 13]) (by repeat (first | assumption | exact eqx.rf | refine eqx.up ?_ (by decide))) (hA1.wk (by decide))
    have hf_q := hf_q.tr hf1
    exact go_iretI (pc := 22) rfl dX8_afternoon_22 (Nat.le_of_ble_eq_true rfl) (Nat.le_of_ble_eq_true rfl) ⟨(by simp [aAfter, hz_q]), rfl, _, _, (by simp only [aAfter, hz_q]; exact hM_q), ⟨(by simp [upd, aAfter, hz_q]), fun j h1_q h2_q h3_q => by simp [upd, h1_q, h2_q, h3_q]⟩, (by repeat (first | assumption | exact eqx.rf | refine eqx.up ?_ (by decide))), hf_q⟩
  | some j1_q =>
    have hz1 := rN_some hz_q
    obtain rfl := I_nat hz1.1 (by omega)
    refine go_aload_n (pc := 0) dX8_afternoon_0 rfl ?_
    refine go_iconst (v := 0) (pc := 1) dX8_afternoon_1 (by decide) ?_
    refine go_mpf4 (pc := 2) hM_q dX8_afternoon_2 (fun σ hM_q hf9 => ?_)
    have hf_q := hf_q.tr hf9
    refine go_iload_n (pc := 5) dX8_afternoon_5 rfl ?_
    refine go_i2l (pc := 6) dX8_afternoon_6 ?_
    refine go_lconst (v := 1) (pc := 7) dX8_afternoon_7 rfl ?_
    refine go_ldc2 (pc := 8) kw8_18 dX8_afternoon_8 ?_
    refine go_S3P (pc := 11) s_X8_125 rfl rfl dX8_afternoon_11 (sp_within (k := k - 1) _ _ _) ?_
    refine go_if_ne (tgt := 23) (pc := 14) dX8_afternoon_14 (by decide) (fun h_14 => ?_) (fun h_14 => by exfalso; rw [wi_yes hz_q (by decide) (by decide)] at h_14; exact absurd h_14 (by decide))
    refine go_aload_n (pc := 23) dX8_afternoon_23 rfl ?_
    refine go_iload_n (pc := 24) dX8_afternoon_24 rfl ?_
    refine go_mpf22 (pc := 25) hM_q dX8_afternoon_25 (fun σ hM_q hf9 => ?_)
    have hf_q := hf_q.tr hf9
    refine go_iconst (v := 0) (pc := 28) dX8_afternoon_28 (by decide) ?_
    refine go_istore_n (lw := [_, _, _, _, _, _, _]) (pc := 29) dX8_afternoon_29 (by decide) rfl ?_
    refine go_iconst (v := 0) (pc := 30) dX8_afternoon_30 (by decide) ?_
    refine go_istore (lw := [_, _, _, _, _, _, _]) (pc := 31) dX8_afternoon_31 (by decide) rfl ?_
    refine go_iter (j1_q) (fun i_q lv9 s9 n9 => ∃ (K9_q : row), ∃ (F9 : row), ∃ (cn : Nat), ∃ x5_q, ∃ x6_q, ∃ A9_q, lv9 = [some (.ref r), some (.int s0), some (.int (nI j1_q)), some (.int (nI cn)), some (.int (nI i_q)), x5_q, x6_q] ∧ (MoAt Γ s9 r F9 K9_q A9_q Nm) ∧ (eqx [6, 7, 8, 9, 10, 11, 12, 13] A A9_q) ∧ (fr r (r + 16) z0 s9) ∧ (GD K9_q) ∧ (apF F F9 0) ∧ (afK (j1_q - i_q) (F9 22) K9_q cn = afK j1_q s0 K 0) ∧ n = n9) ⟨_, _, 0, none, none, _, rfl, hM_q, hA_q, hf_q, hG0, (⟨rfl, fun j h1_q h2_q h3_q => by simp [upd, h1_q, h2_q, h3_q]⟩), rfl, rfl⟩ ?_ ?_
    · rintro i_q lv9 σ n9 hi_q ⟨K9_q, F9, cn, x5_q, x6_q, A9_q, rfl, hM_q, hA_q, hf_q, hG9, hF4, hR_q, rfl⟩ ih_q
      obtain ⟨hB9_q, hv9_q, d9_q, hd9, hd8⟩ := id hG9
      have h98 := hB9_q.1.2.1
      have key70 : ∀ (v6 : Int32) (Fc : row) (Ac : Nat → row) (x5_q : Option Value) (σ : sto), MoAt Γ σ r Fc K9_q Ac Nm → eqx [6, 7, 8, 9, 10, 11, 12, 13] A Ac → fr r (r + 16) z0 σ → v6.toInt = (drD (F9 22)).1 → Fc 22 = (drD (F9 22)).2 → (∀ j, j ≠ 22 → Fc j = F9 j) → Go Γ (rmk k 0 0) uX8_afternoon (qI fun v σ' n' => v = (aAfter K s0 (nI j1_q).toInt).2.1 ∧ apJ Γ r F (aAfter K s0 (nI j1_q).toInt).2.2 A Nm z0 n (aAfter K s0 (nI j1_q).toInt).1 σ' n') 0 0 70 [some (.ref r), some (.int s0), some (.int (nI j1_q)), some (.int (nI cn)), some (.int (nI i_q)), x5_q, some (.int v6)] [] σ n := by
        intro v6 Fc Ac x5_q σ hM_q hA_q hf_q hv6 hF2 hFo
        refine go_aload_n (pc := 70) dX8_afternoon_70 rfl ?_
        refine go_iload (pc := 71) dX8_afternoon_71 rfl ?_
        refine go_i2l (pc := 73) dX8_afternoon_73 ?_
        refine go_V1P (pc := 74) v_X8_372 rfl rfl (rcv_of (ci := 8) (by first | exact mo0 hM_q | exact mo1 hM_q | exact mo6 hM_q | exact mo7 hM_q | exact mo8 hM_q | exact mo2 hM_q | exact mo3 hM_q | exact mo4 hM_q | exact mo5 hM_q | exact mo9 hM_q | exact mo10 hM_q | exact mo11 hM_q | exact mo12 hM_q | exact mo13 hM_q | exact mo14 hM_q | exact mo15 hM_q | exact mo16 hM_q) rfl) dX8_afternoon_74 (sp_whyTold (k := k - 1) hM_q (by omega) hB9_q _) ?_
        rw [Int32.toInt_toInt64, hv6]
        refine go_if_eq (tgt := 83) (pc := 77) dX8_afternoon_77 (by decide) (fun h_77 => ?_) (fun h_77 => ?_)
        · refine go_aload_n (pc := 83) dX8_afternoon_83 rfl ?_
          refine go_V0V (pc := 84) v_X8_321 rfl rfl (rcv_of (ci := 8) (by first | exact mo0 hM_q | exact mo1 hM_q | exact mo6 hM_q | exact mo7 hM_q | exact mo8 hM_q | exact mo2 hM_q | exact mo3 hM_q | exact mo4 hM_q | exact mo5 hM_q | exact mo9 hM_q | exact mo10 hM_q | exact mo11 hM_q | exact mo12 hM_q | exact mo13 hM_q | exact mo14 hM_q | exact mo15 hM_q | exact mo16 hM_q) rfl) dX8_afternoon_84 (sp_keeps (k := k - 1) hM_q hd8 hd9) (fun σ n h_q => ?_)
          obtain ⟨rfl, A1, hM_q, hA1, hf1⟩ := h_q
          have hA_q := eqx.tr (L := [6, 7, 8, 9, 10, 11, 12, 13]) (by repeat (first | assumption | exact eqx.rf | refine eqx.up ?_ (by decide))) (hA1.wk (by decide))
          have hf_q := hf_q.tr hf1
          refine go_aload_n (pc := 87) dX8_afternoon_87 rfl ?_
          refine go_iload (pc := 88) dX8_afternoon_88 rfl ?_
          refine go_V1V (pc := 90) v_X8_375 rfl rfl (rcv_of (ci := 8) (by first | exact mo0 hM_q | exact mo1 hM_q | exact mo6 hM_q | exact mo7 hM_q | exact mo8 hM_q | exact mo2 hM_q | exact mo3 hM_q | exact mo4 hM_q | exact mo5 hM_q | exact mo9 hM_q | exact mo10 hM_q | exact mo11 hM_q | exact mo12 hM_q | exact mo13 hM_q | exact mo14 hM_q | exact mo15 hM_q | exact mo16 hM_q) rfl) dX8_afternoon_90 (sp_does (k := k - 1) hM_q (by omega) hG9.keep.1 hG9.keep.2.1 (by rw [hv6]; exact (whyT_U hG9.U (by omega) _).trans h_77)) (fun σ n h_q => ?_)
          obtain ⟨rfl, A1, hM_q, hA1, hf1⟩ := h_q
          have hA_q := eqx.tr (L := [6, 7, 8, 9, 10, 11, 12, 13]) (by repeat (first | assumption | exact eqx.rf | refine eqx.up ?_ (by decide))) (hA1.wk (by decide))
          have hf_q := hf_q.tr hf1
          rw [hv6] at hM_q
          refine go_iinc (v := 1) (lw := [_, _, _, _, _, _, _]) (pc := 93) dX8_afternoon_93 rfl (by decide) (by decide) rfl ?_
          refine go_iinc (v := 1) (lw := [_, _, _, _, _, _, _]) (pc := 96) dX8_afternoon_96 rfl (by decide) (by decide) rfl ?_
          refine go_goto (tgt := 33) (pc := 99) dX8_afternoon_99 (by decide) ?_
          (try rw [nI_1])
          (try rw [nI_1])
          first
            | exact ih_q _ _ _ ⟨_, _, _, _, _, _, rfl, hM_q, hA_q, hf_q, hG9.keep.deed ((whyT_U hG9.U (by omega) _).trans h_77), ⟨(hFo 4 (by decide)).trans hF4.1, fun j h1_q h2_q h3_q => (hFo j h2_q).trans (hF4.2 j h1_q h2_q h3_q)⟩, (by rw [← hR_q, af_step hi_q, if_pos h_77, hF2]), rfl⟩
            | exact ih_q _ _ _ ⟨_, _, _, _, _, _, rfl, hM_q, hA_q, hf_q, hG9, ⟨(hFo 4 (by decide)).trans hF4.1, fun j h1_q h2_q h3_q => (hFo j h2_q).trans (hF4.2 j h1_q h2_q h3_q)⟩, (by rw [← hR_q, af_step hi_q, if_neg h_77, hF2]), rfl⟩
        · refine go_goto (tgt := 96) (pc := 80) dX8_afternoon_80 (by decide) ?_
          refine go_iinc (v := 1) (lw := [_, _, _, _, _, _, _]) (pc := 96) dX8_afternoon_96 rfl (by decide) (by decide) rfl ?_
          refine go_goto (tgt := 33) (pc := 99) dX8_afternoon_99 (by decide) ?_
          (try rw [nI_1])
          (try rw [nI_1])
          first
            | exact ih_q _ _ _ ⟨_, _, _, _, _, _, rfl, hM_q, hA_q, hf_q, hG9.keep.deed ((whyT_U hG9.U (by omega) _).trans h_77), ⟨(hFo 4 (by decide)).trans hF4.1, fun j h1_q h2_q h3_q => (hFo j h2_q).trans (hF4.2 j h1_q h2_q h3_q)⟩, (by rw [← hR_q, af_step hi_q, if_pos h_77, hF2]), rfl⟩
            | exact ih_q _ _ _ ⟨_, _, _, _, _, _, rfl, hM_q, hA_q, hf_q, hG9, ⟨(hFo 4 (by decide)).trans hF4.1, fun j h1_q h2_q h3_q => (hFo j h2_q).trans (hF4.2 j h1_q h2_q h3_q)⟩, (by rw [← hR_q, af_step hi_q, if_neg h_77, hF2]), rfl⟩
      refine go_iload (pc := 33) dX8_afternoon_33 rfl ?_
      refine go_iload_n (pc := 35) dX8_afternoon_35 rfl ?_
      refine go_icmp_ge (tgt := 102) (pc := 36) dX8_afternoon_36 (by decide) (fun h_36 => by exfalso; exact absurd h_36 (nI_ge (by omega) (by omega))) (fun h_36 => ?_)
      refine go_aload_n (pc := 39) dX8_afternoon_39 rfl ?_
      refine go_iconst (v := 5) (pc := 40) dX8_afternoon_40 (by decide) ?_
      refine go_V1I (pc := 41) v_X8_390 rfl rfl (rcv_of (ci := 8) (by first | exact mo0 hM_q | exact mo1 hM_q | exact mo6 hM_q | exact mo7 hM_q | exact mo8 hM_q | exact mo2 hM_q | exact mo3 hM_q | exact mo4 hM_q | exact mo5 hM_q | exact mo9 hM_q | exact mo10 hM_q | exact mo11 hM_q | exact mo12 hM_q | exact mo13 hM_q | exact mo14 hM_q | exact mo15 hM_q | exact mo16 hM_q) rfl) dX8_afternoon_41 (sp_draw (k := k - 1) (m1 := 5) hM_q (by omega) (by omega)) (fun v_41 σ n h_q => ?_)
      obtain ⟨rfl, rfl, A1, hM_q, hA1, hf1⟩ := h_q
      have hA_q := eqx.tr (L := [6, 7, 8, 9, 10, 11, 12, 13]) (by repeat (first | assumption | exact eqx.rf | refine eqx.up ?_ (by decide))) (hA1.wk (by decide))
      have hf_q := hf_q.tr hf1
      refine go_istore (lw := [_, _, _, _, _, _, _]) (pc := 44) dX8_afternoon_44 (by decide) rfl ?_
      refine go_iload (pc := 46) dX8_afternoon_46 rfl ?_
      refine go_iconst (v := 2) (pc := 48) dX8_afternoon_48 (by decide) ?_
      refine go_icmp_ge (tgt := 56) (pc := 49) dX8_afternoon_49 (by decide) (fun h_49 => ?_) (fun h_49 => ?_)
      · refine go_aload_n (pc := 56) dX8_afternoon_56 rfl ?_
        refine go_iload (pc := 57) dX8_afternoon_57 rfl ?_
        refine go_aload_n (pc := 59) dX8_afternoon_59 rfl ?_
        refine go_bipush (v := 8) (pc := 60) dX8_afternoon_60 (by decide) ?_
        refine go_V1I (pc := 62) v_X8_390 rfl rfl (rcv_of (ci := 8) (by first | exact mo0 hM_q | exact mo1 hM_q | exact mo6 hM_q | exact mo7 hM_q | exact mo8 hM_q | exact mo2 hM_q | exact mo3 hM_q | exact mo4 hM_q | exact mo5 hM_q | exact mo9 hM_q | exact mo10 hM_q | exact mo11 hM_q | exact mo12 hM_q | exact mo13 hM_q | exact mo14 hM_q | exact mo15 hM_q | exact mo16 hM_q) rfl) dX8_afternoon_62 (sp_draw (k := k - 1) (m1 := 8) hM_q (by omega) (by omega)) (fun v_62 σ n h_q => ?_)
        obtain ⟨rfl, rfl, A1, hM_q, hA1, hf1⟩ := h_q
        have hA_q := eqx.tr (L := [6, 7, 8, 9, 10, 11, 12, 13]) (by repeat (first | assumption | exact eqx.rf | refine eqx.up ?_ (by decide))) (hA1.wk (by decide))
        have hf_q := hf_q.tr hf1
        refine go_V2I (pc := 65) v_X8_393 rfl rfl (rcv_of (ci := 8) (by first | exact mo0 hM_q | exact mo1 hM_q | exact mo6 hM_q | exact mo7 hM_q | exact mo8 hM_q | exact mo2 hM_q | exact mo3 hM_q | exact mo4 hM_q | exact mo5 hM_q | exact mo9 hM_q | exact mo10 hM_q | exact mo11 hM_q | exact mo12 hM_q | exact mo13 hM_q | exact mo14 hM_q | exact mo15 hM_q | exact mo16 hM_q) rfl) dX8_afternoon_65 (sp_drawn (k := k - 1) hM_q (by omega) ⟨Nat.le_of_not_lt (fun hc_q => absurd h_49 (nI_ge (b := 2) hc_q (by decide))), Nat.mod_lt _ (by omega)⟩ (Nat.mod_lt _ (by omega))) (fun v_65 σ n h_q => ?_)
        refine go_istore (lw := [_, _, _, _, _, _, _]) (pc := 68) dX8_afternoon_68 (by decide) rfl ?_
        first
          | exact key70 _ _ _ _ _ hM_q hA_q hf_q (by rw [drD_a (Nat.lt_of_not_le (fun hc_q => h_49 (nI_le (a := 2) hc_q (by omega))))]; rfl) (by rw [drD_a (Nat.lt_of_not_le (fun hc_q => h_49 (nI_le (a := 2) hc_q (by omega))))]; rfl) (fun j hj_q => by simp [upd, hj_q])
          | (obtain ⟨F7, rfl, e1_q, e2_q, e3_q, A1, hM_q, hA1, hf1⟩ := h_q; exact key70 _ _ _ _ _ hM_q (hA_q.tr (hA1.wk (by decide))) (hf_q.tr hf1) (drD_b rfl (Nat.le_of_not_lt (fun hc_q => absurd h_49 (nI_ge (b := 2) hc_q (by decide)))) rfl e1_q rfl).1 (e2_q.trans (drD_b rfl (Nat.le_of_not_lt (fun hc_q => absurd h_49 (nI_ge (b := 2) hc_q (by decide)))) rfl e1_q rfl).2) (fun j hj_q => by rw [e3_q j hj_q]; simp [upd, hj_q]))
      · refine go_iconst (v := -1) (pc := 52) dX8_afternoon_52 (by decide) ?_
        refine go_goto (tgt := 68) (pc := 53) dX8_afternoon_53 (by decide) ?_
        refine go_istore (lw := [_, _, _, _, _, _, _]) (pc := 68) dX8_afternoon_68 (by decide) rfl ?_
        first
          | exact key70 _ _ _ _ _ hM_q hA_q hf_q (by rw [drD_a (Nat.lt_of_not_le (fun hc_q => h_49 (nI_le (a := 2) hc_q (by omega))))]; rfl) (by rw [drD_a (Nat.lt_of_not_le (fun hc_q => h_49 (nI_le (a := 2) hc_q (by omega))))]; rfl) (fun j hj_q => by simp [upd, hj_q])
          | (obtain ⟨F7, rfl, e1_q, e2_q, e3_q, A1, hM_q, hA1, hf1⟩ := h_q; exact key70 _ _ _ _ _ hM_q (hA_q.tr (hA1.wk (by decide))) (hf_q.tr hf1) (drD_b rfl (Nat.le_of_not_lt (fun hc_q => absurd h_49 (nI_ge (b := 2) hc_q (by decide)))) rfl e1_q rfl).1 (e2_q.trans (drD_b rfl (Nat.le_of_not_lt (fun hc_q => absurd h_49 (nI_ge (b := 2) hc_q (by decide)))) rfl e1_q rfl).2) (fun j hj_q => by rw [e3_q j hj_q]; simp [upd, hj_q]))
    · rintro lv9 σ n9 ⟨K9_q, F9, cn, x5_q, x6_q, A9_q, rfl, hM_q, hA_q, hf_q, hG9, hF4, hR_q, rfl⟩
      obtain ⟨hB9_q, hv9_q, d9_q, hd9, hd8⟩ := id hG9
      have h98 := hB9_q.1.2.1
      refine go_iload (pc := 33) dX8_afternoon_33 rfl ?_
      refine go_iload_n (pc := 35) dX8_afternoon_35 rfl ?_
      refine go_icmp_ge (tgt := 102) (pc := 36) dX8_afternoon_36 (by decide) (fun h_36 => ?_) (fun h_36 => by exfalso; exact h_36 (nI_le (by omega) (by omega)))
      refine go_iload_n (pc := 102) dX8_afternoon_102 rfl ?_
      exact go_iretI (pc := 103) rfl dX8_afternoon_103 (Nat.le_of_ble_eq_true rfl) (Nat.le_of_ble_eq_true rfl) ⟨(by simp only [aAfter, hz_q]; rw [← hR_q, Nat.sub_self, afK]), rfl, _, _, (by simp only [aAfter, hz_q]; rw [← hR_q, Nat.sub_self, afK]; exact hM_q), ⟨(by simp only [aAfter, hz_q]; exact hF4.1), hF4.2⟩, hA_q, hf_q⟩
