/-! ===== the reference: two who had changed chairs ===== -/
theorem sp_isChangedOut {Γ : gam} {z0 : sto} {n k r : Nat} {F K : row} {A : Nat → row} {Nm : Nat → Int64} (hM_q : MoAt Γ z0 r F K A Nm) (hk : 2 ≤ k) (hB_q : okB K) (s z : Int32) : Sp Γ (rmk k 0 0) uX8_isChangedOut [.ref r, .int s, .int z] z0 n (qI fun v σ' n' => v = bI (0 < chT K s z.toInt) ∧ moJ Γ r (upd F 4 (chT K s z.toInt)) K A Nm z0 n [] σ' n') := by
  have hP8 := hB_q.1.2.1
  have hA_q : eqx [] A A := eqx.rf
  have hf_q : fr r (r + 16) z0 z0 := fr.rf
  refine sp_intro [some (.ref r), some (.int s), some (.int z)] (by decide +kernel) rfl (Nat.le_of_ble_eq_true rfl) rfl ?_
  by_cases hs : s &&& (((1 : Int32) <<< (K 3 &&& 31) - 1) ^^^ (-1)) = 0
  · cases hz_q : rN 1 61 z.toInt with
    | none =>
      have ht_q : chT K s z.toInt = 1 := (if_pos hs).trans (by rw [hz_q])
      refine go_aload_n (pc := 0) dX8_isChangedOut_0 rfl ?_
      refine go_iload_n (pc := 1) dX8_isChangedOut_1 rfl ?_
      refine go_iconst (v := 1) (pc := 2) dX8_isChangedOut_2 (by decide) ?_
      refine go_aload_n (pc := 3) dX8_isChangedOut_3 rfl ?_
      refine go_V0P (pc := 4) v_X8_242 rfl rfl (rcv_of (ci := 8) (by first | exact mo0 hM_q | exact mo1 hM_q | exact mo6 hM_q | exact mo7 hM_q | exact mo8 hM_q | exact mo2 hM_q | exact mo3 hM_q | exact mo4 hM_q | exact mo5 hM_q | exact mo9 hM_q | exact mo10 hM_q | exact mo11 hM_q | exact mo12 hM_q | exact mo13 hM_q | exact mo14 hM_q | exact mo15 hM_q | exact mo16 hM_q) rfl) dX8_isChangedOut_4 (sp_people (k := k - 1) hM_q) ?_
      refine go_ishl (pc := 7) dX8_isChangedOut_7 ?_
      refine go_iconst (v := 1) (pc := 8) dX8_isChangedOut_8 (by decide) ?_
      refine go_isub (pc := 9) dX8_isChangedOut_9 ?_
      refine go_iconst (v := -1) (pc := 10) dX8_isChangedOut_10 (by decide) ?_
      refine go_ixor (pc := 11) dX8_isChangedOut_11 ?_
      refine go_iand (pc := 12) dX8_isChangedOut_12 ?_
      refine go_if_ne (tgt := 32) (pc := 13) dX8_isChangedOut_13 (by decide) (fun h_13 => by exfalso; exact h_13 hs) (fun h_13 => ?_)
      refine go_iload_n (pc := 16) dX8_isChangedOut_16 rfl ?_
      refine go_i2l (pc := 17) dX8_isChangedOut_17 ?_
      refine go_lconst (v := 1) (pc := 18) dX8_isChangedOut_18 rfl ?_
      refine go_ldc2 (pc := 19) kw8_85 dX8_isChangedOut_19 ?_
      refine go_S3P (pc := 22) s_X8_125 rfl rfl dX8_isChangedOut_22 (sp_within (k := k - 1) _ _ _) ?_
      refine go_if_eq (tgt := 32) (pc := 25) dX8_isChangedOut_25 (by decide) (fun h_25 => ?_) (fun h_25 => by exfalso; exact h_25 (wi_no hz_q (by decide) (by decide)))
      refine go_iconst (v := 1) (pc := 32) dX8_isChangedOut_32 (by decide) ?_
      refine go_mpf4 (pc := 33) hM_q dX8_isChangedOut_33 (fun σ hM_q hf9 => ?_)
      have hf_q := hf_q.tr hf9
      refine go_aload_n (pc := 36) dX8_isChangedOut_36 rfl ?_
      refine go_getf (pc := 37) f_X8_64 dX8_isChangedOut_37 (by first | exact mo0 hM_q | exact mo1 hM_q | exact mo6 hM_q | exact mo7 hM_q | exact mo8 hM_q | exact mo2 hM_q | exact mo3 hM_q | exact mo4 hM_q | exact mo5 hM_q | exact mo9 hM_q | exact mo10 hM_q | exact mo11 hM_q | exact mo12 hM_q | exact mo13 hM_q | exact mo14 hM_q | exact mo15 hM_q | exact mo16 hM_q) (by rfl) ?_
      refine go_if_le (tgt := 47) (pc := 40) dX8_isChangedOut_40 (by decide) (fun h_40 => by exfalso; exact absurd (show (1 : Int32) ≤ 0 from h_40) (by decide)) (fun h_40 => ?_)
      refine go_iconst (v := 1) (pc := 43) dX8_isChangedOut_43 (by decide) ?_
      refine go_goto (tgt := 48) (pc := 44) dX8_isChangedOut_44 (by decide) ?_
      exact go_zretI (pc := 48) rfl (by first | rfl | exact nb_bI) dX8_isChangedOut_48 (Nat.le_of_ble_eq_true rfl) (Nat.le_of_ble_eq_true rfl) ⟨(by rw [ht_q]; rfl), rfl, A, (by rw [ht_q]; exact hM_q), eqx.rf, hf_q⟩
    | some j1_q =>
      have ht_q : chT K s z.toInt = 0 := (if_pos hs).trans (by rw [hz_q])
      refine go_aload_n (pc := 0) dX8_isChangedOut_0 rfl ?_
      refine go_iload_n (pc := 1) dX8_isChangedOut_1 rfl ?_
      refine go_iconst (v := 1) (pc := 2) dX8_isChangedOut_2 (by decide) ?_
      refine go_aload_n (pc := 3) dX8_isChangedOut_3 rfl ?_
      refine go_V0P (pc := 4) v_X8_242 rfl rfl (rcv_of (ci := 8) (by first | exact mo0 hM_q | exact mo1 hM_q | exact mo6 hM_q | exact mo7 hM_q | exact mo8 hM_q | exact mo2 hM_q | exact mo3 hM_q | exact mo4 hM_q | exact mo5 hM_q | exact mo9 hM_q | exact mo10 hM_q | exact mo11 hM_q | exact mo12 hM_q | exact mo13 hM_q | exact mo14 hM_q | exact mo15 hM_q | exact mo16 hM_q) rfl) dX8_isChangedOut_4 (sp_people (k := k - 1) hM_q) ?_
      refine go_ishl (pc := 7) dX8_isChangedOut_7 ?_
      refine go_iconst (v := 1) (pc := 8) dX8_isChangedOut_8 (by decide) ?_
      refine go_isub (pc := 9) dX8_isChangedOut_9 ?_
      refine go_iconst (v := -1) (pc := 10) dX8_isChangedOut_10 (by decide) ?_
      refine go_ixor (pc := 11) dX8_isChangedOut_11 ?_
      refine go_iand (pc := 12) dX8_isChangedOut_12 ?_
      refine go_if_ne (tgt := 32) (pc := 13) dX8_isChangedOut_13 (by decide) (fun h_13 => by exfalso; exact h_13 hs) (fun h_13 => ?_)
      refine go_iload_n (pc := 16) dX8_isChangedOut_16 rfl ?_
      refine go_i2l (pc := 17) dX8_isChangedOut_17 ?_
      refine go_lconst (v := 1) (pc := 18) dX8_isChangedOut_18 rfl ?_
      refine go_ldc2 (pc := 19) kw8_85 dX8_isChangedOut_19 ?_
      refine go_S3P (pc := 22) s_X8_125 rfl rfl dX8_isChangedOut_22 (sp_within (k := k - 1) _ _ _) ?_
      refine go_if_eq (tgt := 32) (pc := 25) dX8_isChangedOut_25 (by decide) (fun h_25 => by exfalso; rw [wi_yes hz_q (by decide) (by decide)] at h_25; exact absurd h_25 (by decide)) (fun h_25 => ?_)
      refine go_iconst (v := 0) (pc := 28) dX8_isChangedOut_28 (by decide) ?_
      refine go_goto (tgt := 33) (pc := 29) dX8_isChangedOut_29 (by decide) ?_
      refine go_mpf4 (pc := 33) hM_q dX8_isChangedOut_33 (fun σ hM_q hf9 => ?_)
      have hf_q := hf_q.tr hf9
      refine go_aload_n (pc := 36) dX8_isChangedOut_36 rfl ?_
      refine go_getf (pc := 37) f_X8_64 dX8_isChangedOut_37 (by first | exact mo0 hM_q | exact mo1 hM_q | exact mo6 hM_q | exact mo7 hM_q | exact mo8 hM_q | exact mo2 hM_q | exact mo3 hM_q | exact mo4 hM_q | exact mo5 hM_q | exact mo9 hM_q | exact mo10 hM_q | exact mo11 hM_q | exact mo12 hM_q | exact mo13 hM_q | exact mo14 hM_q | exact mo15 hM_q | exact mo16 hM_q) (by rfl) ?_
      refine go_if_le (tgt := 47) (pc := 40) dX8_isChangedOut_40 (by decide) (fun h_40 => ?_) (fun h_40 => by exfalso; exact h_40 (show (0 : Int32) ≤ 0 from by decide))
      refine go_iconst (v := 0) (pc := 47) dX8_isChangedOut_47 (by decide) ?_
      exact go_zretI (pc := 48) rfl (by first | rfl | exact nb_bI) dX8_isChangedOut_48 (Nat.le_of_ble_eq_true rfl) (Nat.le_of_ble_eq_true rfl) ⟨(by rw [ht_q]; rfl), rfl, A, (by rw [ht_q]; exact hM_q), eqx.rf, hf_q⟩
  · have ht_q : chT K s z.toInt = 1 := (if_neg hs)
    refine go_aload_n (pc := 0) dX8_isChangedOut_0 rfl ?_
    refine go_iload_n (pc := 1) dX8_isChangedOut_1 rfl ?_
    refine go_iconst (v := 1) (pc := 2) dX8_isChangedOut_2 (by decide) ?_
    refine go_aload_n (pc := 3) dX8_isChangedOut_3 rfl ?_
    refine go_V0P (pc := 4) v_X8_242 rfl rfl (rcv_of (ci := 8) (by first | exact mo0 hM_q | exact mo1 hM_q | exact mo6 hM_q | exact mo7 hM_q | exact mo8 hM_q | exact mo2 hM_q | exact mo3 hM_q | exact mo4 hM_q | exact mo5 hM_q | exact mo9 hM_q | exact mo10 hM_q | exact mo11 hM_q | exact mo12 hM_q | exact mo13 hM_q | exact mo14 hM_q | exact mo15 hM_q | exact mo16 hM_q) rfl) dX8_isChangedOut_4 (sp_people (k := k - 1) hM_q) ?_
    refine go_ishl (pc := 7) dX8_isChangedOut_7 ?_
    refine go_iconst (v := 1) (pc := 8) dX8_isChangedOut_8 (by decide) ?_
    refine go_isub (pc := 9) dX8_isChangedOut_9 ?_
    refine go_iconst (v := -1) (pc := 10) dX8_isChangedOut_10 (by decide) ?_
    refine go_ixor (pc := 11) dX8_isChangedOut_11 ?_
    refine go_iand (pc := 12) dX8_isChangedOut_12 ?_
    refine go_if_ne (tgt := 32) (pc := 13) dX8_isChangedOut_13 (by decide) (fun h_13 => ?_) (fun h_13 => by exfalso; exact hs h_13)
    refine go_iconst (v := 1) (pc := 32) dX8_isChangedOut_32 (by decide) ?_
    refine go_mpf4 (pc := 33) hM_q dX8_isChangedOut_33 (fun σ hM_q hf9 => ?_)
    have hf_q := hf_q.tr hf9
    refine go_aload_n (pc := 36) dX8_isChangedOut_36 rfl ?_
    refine go_getf (pc := 37) f_X8_64 dX8_isChangedOut_37 (by first | exact mo0 hM_q | exact mo1 hM_q | exact mo6 hM_q | exact mo7 hM_q | exact mo8 hM_q | exact mo2 hM_q | exact mo3 hM_q | exact mo4 hM_q | exact mo5 hM_q | exact mo9 hM_q | exact mo10 hM_q | exact mo11 hM_q | exact mo12 hM_q | exact mo13 hM_q | exact mo14 hM_q | exact mo15 hM_q | exact mo16 hM_q) (by rfl) ?_
    refine go_if_le (tgt := 47) (pc := 40) dX8_isChangedOut_40 (by decide) (fun h_40 => by exfalso; exact absurd (show (1 : Int32) ≤ 0 from h_40) (by decide)) (fun h_40 => ?_)
    refine go_iconst (v := 1) (pc := 43) dX8_isChangedOut_43 (by decide) ?_
    refine go_goto (tgt := 48) (pc := 44) dX8_isChangedOut_44 (by decide) ?_
    exact go_zretI (pc := 48) rfl (by first | rfl | exact nb_bI) dX8_isChangedOut_48 (Nat.le_of_ble_eq_true rfl) (Nat.le_of_ble_eq_true rfl) ⟨(by rw [ht_q]; rfl), rfl, A, (by rw [ht_q]; exact hM_q), eqx.rf, hf_q⟩
theorem sp_addsTwo {Γ : gam} {z0 : sto} {n k r : Nat} {F K : row} {A : Nat → row} {Nm : Nat → Int64} (hM_q : MoAt Γ z0 r F K A Nm) (hk : 2 ≤ k) (hB_q : okB K) (v : Int32) {t : Nat} (ht_q : F 26 = nI t) (ht2 : t < 28) : Sp Γ (rmk k 0 0) uX8_addsTwo [.ref r, .int v] z0 n (qV fun σ' n' => n' = n ∧ ∃ A', MoAt Γ σ' r (upd F 26 (nI (t + 1))) K A' Nm ∧ eqx [12, 13] A A' ∧ fr r (r + 16) z0 σ' ∧ A' 12 = upd (A 12) t v ∧ (∀ p, p < kP K → A' 13 (8 * t + p) = placeK K p) ∧ ∀ j, j < 8 * t → A' 13 j = A 13 j) := by
  have hP8 := hB_q.1.2.1
  have hA_q : eqx [12, 13] A A := eqx.rf
  have hf_q : fr r (r + 16) z0 z0 := fr.rf
  refine sp_intro [some (.ref r), some (.int v), none] (by decide +kernel) rfl (Nat.le_of_ble_eq_true rfl) rfl ?_
  refine go_aload_n (pc := 0) dX8_addsTwo_0 rfl ?_
  refine go_getf (pc := 1) f_X8_48 dX8_addsTwo_1 (by first | exact mo0 hM_q | exact mo1 hM_q | exact mo6 hM_q | exact mo7 hM_q | exact mo8 hM_q | exact mo2 hM_q | exact mo3 hM_q | exact mo4 hM_q | exact mo5 hM_q | exact mo9 hM_q | exact mo10 hM_q | exact mo11 hM_q | exact mo12 hM_q | exact mo13 hM_q | exact mo14 hM_q | exact mo15 hM_q | exact mo16 hM_q) (by rfl) ?_
  refine go_aload_n (pc := 4) dX8_addsTwo_4 rfl ?_
  refine go_getf (pc := 5) f_X8_455 dX8_addsTwo_5 (by first | exact mo0 hM_q | exact mo1 hM_q | exact mo6 hM_q | exact mo7 hM_q | exact mo8 hM_q | exact mo2 hM_q | exact mo3 hM_q | exact mo4 hM_q | exact mo5 hM_q | exact mo9 hM_q | exact mo10 hM_q | exact mo11 hM_q | exact mo12 hM_q | exact mo13 hM_q | exact mo14 hM_q | exact mo15 hM_q | exact mo16 hM_q) (by rfl) ?_
  refine go_iload_n (pc := 8) dX8_addsTwo_8 rfl ?_
  rw [ht_q]
  refine go_mst12 (pc := 9) hM_q dX8_addsTwo_9 (by exact ⟨rfl, by omega⟩) (fun σ hM_q hf9 => ?_)
  have hf_q := hf_q.tr hf9
  refine go_iconst (v := 0) (pc := 10) dX8_addsTwo_10 (by decide) ?_
  refine go_istore_n (lw := [_, _, _]) (pc := 11) dX8_addsTwo_11 (by decide) rfl ?_
  refine go_iter (kP K) (fun i_q lv9 s9 n9 => ∃ A9_q, lv9 = [some (.ref r), some (.int v), some (.int (nI i_q))] ∧ (MoAt Γ s9 r F K A9_q Nm) ∧ (eqx [12, 13] A A9_q) ∧ (fr r (r + 16) z0 s9) ∧ (A9_q 12 = upd (A 12) t (v)) ∧ (∀ p, p < i_q → A9_q 13 (8 * t + p) = placeK K p) ∧ (∀ j, j < 8 * t → A9_q 13 j = A 13 j) ∧ n = n9) ⟨_, rfl, hM_q, (by repeat (first | assumption | exact eqx.rf | refine eqx.up ?_ (by decide))), hf_q, (by simp only [updA, if_true]), (fun p hp_q => absurd hp_q (by omega)), (fun j hj_q => rfl), rfl⟩ ?_ ?_
  · rintro i_q lv9 σ n9 hi_q ⟨A9_q, rfl, hM_q, hA_q, hf_q, h12, h13, h14, rfl⟩ ih_q
    refine go_iload_n (pc := 12) dX8_addsTwo_12 rfl ?_
    refine go_aload_n (pc := 13) dX8_addsTwo_13 rfl ?_
    refine go_V0P (pc := 14) v_X8_242 rfl rfl (rcv_of (ci := 8) (by first | exact mo0 hM_q | exact mo1 hM_q | exact mo6 hM_q | exact mo7 hM_q | exact mo8 hM_q | exact mo2 hM_q | exact mo3 hM_q | exact mo4 hM_q | exact mo5 hM_q | exact mo9 hM_q | exact mo10 hM_q | exact mo11 hM_q | exact mo12 hM_q | exact mo13 hM_q | exact mo14 hM_q | exact mo15 hM_q | exact mo16 hM_q) rfl) dX8_addsTwo_14 (sp_people (k := k - 1) hM_q) ?_
    rw [hB_q.1.1]
    refine go_icmp_ge (tgt := 45) (pc := 17) dX8_addsTwo_17 (by decide) (fun h_17 => by exfalso; exact absurd h_17 (nI_ge (by omega) (by omega))) (fun h_17 => ?_)
    refine go_aload_n (pc := 20) dX8_addsTwo_20 rfl ?_
    refine go_getf (pc := 21) f_X8_51 dX8_addsTwo_21 (by first | exact mo0 hM_q | exact mo1 hM_q | exact mo6 hM_q | exact mo7 hM_q | exact mo8 hM_q | exact mo2 hM_q | exact mo3 hM_q | exact mo4 hM_q | exact mo5 hM_q | exact mo9 hM_q | exact mo10 hM_q | exact mo11 hM_q | exact mo12 hM_q | exact mo13 hM_q | exact mo14 hM_q | exact mo15 hM_q | exact mo16 hM_q) (by rfl) ?_
    refine go_bipush (v := 8) (pc := 24) dX8_addsTwo_24 (by decide) ?_
    refine go_aload_n (pc := 26) dX8_addsTwo_26 rfl ?_
    refine go_getf (pc := 27) f_X8_455 dX8_addsTwo_27 (by first | exact mo0 hM_q | exact mo1 hM_q | exact mo6 hM_q | exact mo7 hM_q | exact mo8 hM_q | exact mo2 hM_q | exact mo3 hM_q | exact mo4 hM_q | exact mo5 hM_q | exact mo9 hM_q | exact mo10 hM_q | exact mo11 hM_q | exact mo12 hM_q | exact mo13 hM_q | exact mo14 hM_q | exact mo15 hM_q | exact mo16 hM_q) (by rfl) ?_
    refine go_imul (pc := 30) dX8_addsTwo_30 ?_
    refine go_iload_n (pc := 31) dX8_addsTwo_31 rfl ?_
    refine go_iadd (pc := 32) dX8_addsTwo_32 ?_
    refine go_aload_n (pc := 33) dX8_addsTwo_33 rfl ?_
    refine go_iload_n (pc := 34) dX8_addsTwo_34 rfl ?_
    refine go_V1P (pc := 35) v_X8_402 rfl rfl (rcv_of (ci := 8) (by first | exact mo0 hM_q | exact mo1 hM_q | exact mo6 hM_q | exact mo7 hM_q | exact mo8 hM_q | exact mo2 hM_q | exact mo3 hM_q | exact mo4 hM_q | exact mo5 hM_q | exact mo9 hM_q | exact mo10 hM_q | exact mo11 hM_q | exact mo12 hM_q | exact mo13 hM_q | exact mo14 hM_q | exact mo15 hM_q | exact mo16 hM_q) rfl) dX8_addsTwo_35 (sp_placeOf (k := k - 1) hM_q (by omega) (by omega)) ?_
    rw [ht_q, show (8 : Int32) * nI t + nI i_q = nI (8 * t + i_q) from by rw [show (8 : Int32) = nI 8 from rfl, pk_mul, nI_add]]
    refine go_mst13 (pc := 38) hM_q dX8_addsTwo_38 (by exact ⟨rfl, by omega⟩) (fun σ hM_q hf9 => ?_)
    have hf_q := hf_q.tr hf9
    refine go_iinc (v := 1) (lw := [_, _, _]) (pc := 39) dX8_addsTwo_39 rfl (by decide) (by decide) rfl ?_
    refine go_goto (tgt := 12) (pc := 42) dX8_addsTwo_42 (by decide) ?_
    rw [nI_1]
    exact ih_q _ _ _ ⟨_, rfl, hM_q, (by repeat (first | assumption | exact eqx.rf | refine eqx.up ?_ (by decide))), hf_q, h12, (fun p hp_q => by simp only [updA, if_true]; by_cases e_q : p = i_q <;> first | rw [e_q, pk_us] | (rw [pk_un (by omega)]; exact h13 p (by omega))), (fun j hj_q => by simp only [updA, if_true]; rw [pk_un (by omega)]; exact h14 j hj_q), rfl⟩
  · rintro lv9 σ n9 ⟨A9_q, rfl, hM_q, hA_q, hf_q, h12, h13, h14, rfl⟩
    refine go_iload_n (pc := 12) dX8_addsTwo_12 rfl ?_
    refine go_aload_n (pc := 13) dX8_addsTwo_13 rfl ?_
    refine go_V0P (pc := 14) v_X8_242 rfl rfl (rcv_of (ci := 8) (by first | exact mo0 hM_q | exact mo1 hM_q | exact mo6 hM_q | exact mo7 hM_q | exact mo8 hM_q | exact mo2 hM_q | exact mo3 hM_q | exact mo4 hM_q | exact mo5 hM_q | exact mo9 hM_q | exact mo10 hM_q | exact mo11 hM_q | exact mo12 hM_q | exact mo13 hM_q | exact mo14 hM_q | exact mo15 hM_q | exact mo16 hM_q) rfl) dX8_addsTwo_14 (sp_people (k := k - 1) hM_q) ?_
    rw [hB_q.1.1]
    refine go_icmp_ge (tgt := 45) (pc := 17) dX8_addsTwo_17 (by decide) (fun h_17 => ?_) (fun h_17 => by exfalso; exact h_17 (nI_le (by omega) (by omega)))
    refine go_aload_n (pc := 45) dX8_addsTwo_45 rfl ?_
    refine go_dup (pc := 46) dX8_addsTwo_46 rfl ?_
    refine go_getf (pc := 47) f_X8_455 dX8_addsTwo_47 (by first | exact mo0 hM_q | exact mo1 hM_q | exact mo6 hM_q | exact mo7 hM_q | exact mo8 hM_q | exact mo2 hM_q | exact mo3 hM_q | exact mo4 hM_q | exact mo5 hM_q | exact mo9 hM_q | exact mo10 hM_q | exact mo11 hM_q | exact mo12 hM_q | exact mo13 hM_q | exact mo14 hM_q | exact mo15 hM_q | exact mo16 hM_q) (by rfl) ?_
    refine go_iconst (v := 1) (pc := 50) dX8_addsTwo_50 (by decide) ?_
    refine go_iadd (pc := 51) dX8_addsTwo_51 ?_
    rw [ht_q, nI_1]
    refine go_mpf26 (pc := 52) hM_q dX8_addsTwo_52 (fun σ hM_q hf9 => ?_)
    have hf_q := hf_q.tr hf9
    exact go_vretV (pc := 55) rfl dX8_addsTwo_55 (Nat.le_of_ble_eq_true rfl) (Nat.le_of_ble_eq_true rfl) ⟨rfl, A9_q, hM_q, hA_q, hf_q, h12, h13, h14⟩
theorem sp_laysTwos {Γ : gam} {z0 : sto} {n k r : Nat} {F K : row} {A : Nat → row} {Nm : Nat → Int64} (hM_q : MoAt Γ z0 r F K A Nm) (hk : 10 ≤ k) (hB_q : okB K) (hv_q : vS K) (s : Int32) {j : Nat} (hj_q : j ≤ 60) : Sp Γ (rmk k 0 0) uX8_laysTwos [.ref r, .int s, .int (nI j)] z0 n (qV fun σ' n' => laJ Γ r F K A Nm z0 n j (twK K s j) σ' n') := by
  have hP8 := hB_q.1.2.1
  have hH5 := hB_q.1.2.2.2.1
  have hA_q : eqx [6, 7, 8, 9, 10, 11, 12, 13] A A := eqx.rf
  have hf_q : fr r (r + 16) z0 z0 := fr.rf
  refine sp_intro [some (.ref r), some (.int s), some (.int (nI j)), none, none] (by decide +kernel) rfl (Nat.le_of_ble_eq_true rfl) rfl ?_
  refine go_aload_n (pc := 0) dX8_laysTwos_0 rfl ?_
  refine go_iconst (v := 0) (pc := 1) dX8_laysTwos_1 (by decide) ?_
  refine go_mpf26 (pc := 2) hM_q dX8_laysTwos_2 (fun σ hM_q hf9 => ?_)
  have hf_q := hf_q.tr hf9
  refine go_aload_n (pc := 5) dX8_laysTwos_5 rfl ?_
  refine go_getf (pc := 6) f_X8_9 dX8_laysTwos_6 (by first | exact mo0 hM_q | exact mo1 hM_q | exact mo6 hM_q | exact mo7 hM_q | exact mo8 hM_q | exact mo2 hM_q | exact mo3 hM_q | exact mo4 hM_q | exact mo5 hM_q | exact mo9 hM_q | exact mo10 hM_q | exact mo11 hM_q | exact mo12 hM_q | exact mo13 hM_q | exact mo14 hM_q | exact mo15 hM_q | exact mo16 hM_q) (by rfl) ?_
  refine go_bipush (v := 32) (pc := 9) dX8_laysTwos_9 (by decide) ?_
  refine go_iald (j := 32) (pc := 11) dX8_laysTwos_11 (by first | exact mo0 hM_q | exact mo1 hM_q | exact mo6 hM_q | exact mo7 hM_q | exact mo8 hM_q | exact mo2 hM_q | exact mo3 hM_q | exact mo4 hM_q | exact mo5 hM_q | exact mo9 hM_q | exact mo10 hM_q | exact mo11 hM_q | exact mo12 hM_q | exact mo13 hM_q | exact mo14 hM_q | exact mo15 hM_q | exact mo16 hM_q) (by exact ⟨rfl, by decide⟩) ?_
  refine go_iconst (v := -1) (pc := 12) dX8_laysTwos_12 (by decide) ?_
  refine go_ixor (pc := 13) dX8_laysTwos_13 ?_
  refine go_istore_n (lw := [_, _, _, _, _]) (pc := 14) dX8_laysTwos_14 (by decide) rfl ?_
  refine go_aload_n (pc := 15) dX8_laysTwos_15 rfl ?_
  refine go_V0V (pc := 16) v_X8_369 rfl rfl (rcv_of (ci := 8) (by first | exact mo0 hM_q | exact mo1 hM_q | exact mo6 hM_q | exact mo7 hM_q | exact mo8 hM_q | exact mo2 hM_q | exact mo3 hM_q | exact mo4 hM_q | exact mo5 hM_q | exact mo9 hM_q | exact mo10 hM_q | exact mo11 hM_q | exact mo12 hM_q | exact mo13 hM_q | exact mo14 hM_q | exact mo15 hM_q | exact mo16 hM_q) rfl) dX8_laysTwos_16 (sp_putsAside (k := k - 1) hM_q) (fun σ n h_q => ?_)
  obtain ⟨rfl, A1, hM_q, hA1, hf1, hG_q⟩ := h_q
  have hA_q := eqx.tr (A := A) (L := [6, 7, 8, 9, 10, 11, 12, 13]) (by repeat (first | assumption | exact eqx.rf | refine eqx.up ?_ (by decide))) (hA1.wk (by decide))
  have hf_q := hf_q.tr hf1
  refine go_iconst (v := 0) (pc := 19) dX8_laysTwos_19 (by decide) ?_
  refine go_istore (lw := [_, _, _, _, _]) (pc := 20) dX8_laysTwos_20 (by decide) rfl ?_
  refine go_iter (100) (fun i_q lv9 s9 n9 => ∃ (F9 : row), ∃ (l9_q : List Nat), ∃ A9_q, lv9 = [some (.ref r), some (.int s), some (.int (nI j)), some (.int (K 32 ^^^ (-1))), some (.int (nI i_q))] ∧ (MoAt Γ s9 r F9 K A9_q Nm) ∧ (eqx [6, 7, 8, 9, 10, 11, 12, 13] A A9_q) ∧ (fr r (r + 16) z0 s9) ∧ (∀ j, j < 26 → A9_q 8 j = K (8 + j)) ∧ (F9 26 = nI l9_q.length) ∧ (∀ q, q ≠ 26 → F9 q = F q) ∧ (twJ K j l9_q (A9_q 12) (A9_q 13)) ∧ (l9_q ++ twL (twS K s j) (100 - i_q) i_q = twK K s j) ∧ n = n9) ⟨_, [], _, rfl, hM_q, hA_q, hf_q, hG_q, rfl, (fun q hq_q => pk_un hq_q), (fun i_q hi_q => absurd hi_q (by simp)), rfl, rfl⟩ ?_ ?_
  · rintro i_q lv9 σ n9 hi_q ⟨F9, l9_q, A9_q, rfl, hM_q, hA_q, hf_q, hG_q, hF, hF2, hT_q, hR_q, rfl⟩ ih_q
    refine go_iload (pc := 22) dX8_laysTwos_22 rfl ?_
    refine go_bipush (v := 100) (pc := 24) dX8_laysTwos_24 (by decide) ?_
    refine go_icmp_ge (tgt := 112) (pc := 26) dX8_laysTwos_26 (by decide) (fun h_26 => by exfalso; exact absurd h_26 (nI_ge (b := 100) (by omega) (by decide))) (fun h_26 => ?_)
    refine go_iload (pc := 29) dX8_laysTwos_29 rfl ?_
    refine go_bipush (v := 10) (pc := 31) dX8_laysTwos_31 (by decide) ?_
    refine go_idiv (pc := 33) dX8_laysTwos_33 (by decide) ?_
    refine go_iload (pc := 34) dX8_laysTwos_34 rfl ?_
    refine go_bipush (v := 10) (pc := 36) dX8_laysTwos_36 (by decide) ?_
    refine go_irem (pc := 38) dX8_laysTwos_38 (by decide) ?_
    rw [tw_rem hi_q, tw_div hi_q]
    refine go_icmp_ge (tgt := 106) (pc := 39) dX8_laysTwos_39 (by decide) (fun h_39 => ?_) (fun h_39 => ?_)
    · refine go_iinc (v := 1) (lw := [_, _, _, _, _]) (pc := 106) dX8_laysTwos_106 rfl (by decide) (by decide) rfl ?_
      refine go_goto (tgt := 22) (pc := 109) dX8_laysTwos_109 (by decide) ?_
      rw [nI_1]
      first
        | exact ih_q _ _ _ ⟨_, _, _, rfl, hM_q, hA_q, hf_q, hG_q, hF, hF2, hT_q, (by rw [← hR_q, twL_n hi_q (fun hc_q => by simp only [twS, decide_eq_true_eq] at hc_q; exact absurd h_39 (nI_ge hc_q.1 (by omega)))]), rfl⟩
        | exact ih_q _ _ _ ⟨_, _, _, rfl, hM_q, hA_q, hf_q, hG_q, hF, hF2, hT_q, (by rw [← hR_q, twL_n hi_q (fun hc_q => by simp only [twS, decide_eq_true_eq] at hc_q; exact h_58 hc_q.2.1)]), rfl⟩
        | exact ih_q _ _ _ ⟨_, _, _, rfl, hM_q, hA_q, hf_q, hG_q, hF, hF2, (by rw [hA1 12 (by decide), hA1 13 (by decide)]; exact hT_q), (by rw [← hR_q, twL_n hi_q (fun hc_q => by simp only [twS, decide_eq_true_eq] at hc_q; exact h_93 hc_q.2.2)]), rfl⟩
        | exact ih_q _ _ _ ⟨_, _, _, rfl, hM_q, hA_q, hf_q, hG_q, hF, hF2, (by rw [hA1 12 (by decide), hA1 13 (by decide)]; exact hT_q), hR_q, rfl⟩
    · refine go_aload_n (pc := 42) dX8_laysTwos_42 rfl ?_
      refine go_iload (pc := 43) dX8_laysTwos_43 rfl ?_
      refine go_bipush (v := 10) (pc := 45) dX8_laysTwos_45 (by decide) ?_
      refine go_idiv (pc := 47) dX8_laysTwos_47 (by decide) ?_
      refine go_i2l (pc := 48) dX8_laysTwos_48 ?_
      refine go_iload (pc := 49) dX8_laysTwos_49 rfl ?_
      refine go_bipush (v := 10) (pc := 51) dX8_laysTwos_51 (by decide) ?_
      refine go_irem (pc := 53) dX8_laysTwos_53 (by decide) ?_
      refine go_i2l (pc := 54) dX8_laysTwos_54 ?_
      rw [tw_rem hi_q, tw_div hi_q]
      refine go_V2P (pc := 55) v_X8_334 rfl rfl (rcv_of (ci := 8) (by first | exact mo0 hM_q | exact mo1 hM_q | exact mo6 hM_q | exact mo7 hM_q | exact mo8 hM_q | exact mo2 hM_q | exact mo3 hM_q | exact mo4 hM_q | exact mo5 hM_q | exact mo9 hM_q | exact mo10 hM_q | exact mo11 hM_q | exact mo12 hM_q | exact mo13 hM_q | exact mo14 hM_q | exact mo15 hM_q | exact mo16 hM_q) rfl) dX8_laysTwos_55 (sp_whySwap (k := k - 1) hM_q (by omega) hB_q _ _) ?_
      rw [Int32.toInt_toInt64, Int32.toInt_toInt64, nI_toInt (n := i_q / 10) (by omega), nI_toInt (n := i_q % 10) (by omega)]
      refine go_if_eq (tgt := 64) (pc := 58) dX8_laysTwos_58 (by decide) (fun h_58 => ?_) (fun h_58 => ?_)
      · obtain ⟨a9_q, b9_q, g1_q, g2_q, g3_q, g4_q, g5_q⟩ := whyX_0 h_58
        have k1 := pN_some g1_q
        have k2 := pN_some g2_q
        have hSw : sameB K (swapK K (i_q / 10) (i_q % 10)) := swapK_same (by omega) (by omega)
        have hBw := hSw.okB hB_q
        have hvw : vS (swapK K (i_q / 10) (i_q % 10)) := vS_swap hv_q (by omega) (by omega) hP8
        have hSg := hSw.tr (goK_same (m := j) (by rw [hSw.P]; exact hP8))
        have hlen := twK_28 (K := K) (s := s) (j := j) hP8
        rw [← hR_q, List.length_append] at hlen
        have hlt : i_q / 10 < i_q % 10 := Nat.lt_of_not_le (fun hc_q => h_39 (nI_le hc_q (by omega)))
        refine go_aload_n (pc := 64) dX8_laysTwos_64 rfl ?_
        refine go_iload (pc := 65) dX8_laysTwos_65 rfl ?_
        refine go_bipush (v := 10) (pc := 67) dX8_laysTwos_67 (by decide) ?_
        refine go_idiv (pc := 69) dX8_laysTwos_69 (by decide) ?_
        refine go_iload (pc := 70) dX8_laysTwos_70 rfl ?_
        refine go_bipush (v := 10) (pc := 72) dX8_laysTwos_72 (by decide) ?_
        refine go_irem (pc := 74) dX8_laysTwos_74 (by decide) ?_
        rw [tw_rem hi_q, tw_div hi_q]
        refine go_V2V (pc := 75) v_X8_337 rfl rfl (rcv_of (ci := 8) (by first | exact mo0 hM_q | exact mo1 hM_q | exact mo6 hM_q | exact mo7 hM_q | exact mo8 hM_q | exact mo2 hM_q | exact mo3 hM_q | exact mo4 hM_q | exact mo5 hM_q | exact mo9 hM_q | exact mo10 hM_q | exact mo11 hM_q | exact mo12 hM_q | exact mo13 hM_q | exact mo14 hM_q | exact mo15 hM_q | exact mo16 hM_q) rfl) dX8_laysTwos_75 (sp_swaps (k := k - 1) hM_q (by omega) (by omega)) (fun σ n h_q => ?_)
        obtain ⟨rfl, A1, hM_q, hA1, hf1⟩ := h_q
        have hA_q := eqx.tr (A := A) (L := [6, 7, 8, 9, 10, 11, 12, 13]) (by repeat (first | assumption | exact eqx.rf | refine eqx.up ?_ (by decide))) (hA1.wk (by decide))
        have hf_q := hf_q.tr hf1
        have hG_q : ∀ j, j < 26 → A1 8 j = K (8 + j) := fun j hj_q => by rw [hA1 8 (by decide)]; exact hG_q j hj_q
        have hT_q : twJ K j l9_q (A1 12) (A1 13) := by rw [hA1 12 (by decide), hA1 13 (by decide)]; exact hT_q
        refine go_aload_n (pc := 78) dX8_laysTwos_78 rfl ?_
        refine go_iload_n (pc := 79) dX8_laysTwos_79 rfl ?_
        refine go_V1V (pc := 80) v_X8_399 rfl rfl (rcv_of (ci := 8) (by first | exact mo0 hM_q | exact mo1 hM_q | exact mo6 hM_q | exact mo7 hM_q | exact mo8 hM_q | exact mo2 hM_q | exact mo3 hM_q | exact mo4 hM_q | exact mo5 hM_q | exact mo9 hM_q | exact mo10 hM_q | exact mo11 hM_q | exact mo12 hM_q | exact mo13 hM_q | exact mo14 hM_q | exact mo15 hM_q | exact mo16 hM_q) rfl) dX8_laysTwos_80 (sp_goesOn (k := k - 1) hM_q (by omega) hBw hvw (by omega)) (fun σ n h_q => ?_)
        obtain ⟨rfl, A1, hM_q, hA1, hf1⟩ := h_q
        have hA_q := eqx.tr (A := A) (L := [6, 7, 8, 9, 10, 11, 12, 13]) (by repeat (first | assumption | exact eqx.rf | refine eqx.up ?_ (by decide))) (hA1.wk (by decide))
        have hf_q := hf_q.tr hf1
        have hG_q : ∀ j, j < 26 → A1 8 j = K (8 + j) := fun j hj_q => by rw [hA1 8 (by decide)]; exact hG_q j hj_q
        have hT_q : twJ K j l9_q (A1 12) (A1 13) := by rw [hA1 12 (by decide), hA1 13 (by decide)]; exact hT_q
        refine go_aload_n (pc := 83) dX8_laysTwos_83 rfl ?_
        refine go_getf (pc := 84) f_X8_9 dX8_laysTwos_84 (by first | exact mo0 hM_q | exact mo1 hM_q | exact mo6 hM_q | exact mo7 hM_q | exact mo8 hM_q | exact mo2 hM_q | exact mo3 hM_q | exact mo4 hM_q | exact mo5 hM_q | exact mo9 hM_q | exact mo10 hM_q | exact mo11 hM_q | exact mo12 hM_q | exact mo13 hM_q | exact mo14 hM_q | exact mo15 hM_q | exact mo16 hM_q) (by rfl) ?_
        refine go_bipush (v := 32) (pc := 87) dX8_laysTwos_87 (by decide) ?_
        refine go_iald (j := 32) (pc := 89) dX8_laysTwos_89 (by first | exact mo0 hM_q | exact mo1 hM_q | exact mo6 hM_q | exact mo7 hM_q | exact mo8 hM_q | exact mo2 hM_q | exact mo3 hM_q | exact mo4 hM_q | exact mo5 hM_q | exact mo9 hM_q | exact mo10 hM_q | exact mo11 hM_q | exact mo12 hM_q | exact mo13 hM_q | exact mo14 hM_q | exact mo15 hM_q | exact mo16 hM_q) (by exact ⟨rfl, by decide⟩) ?_
        refine go_iload_n (pc := 90) dX8_laysTwos_90 rfl ?_
        refine go_iand (pc := 91) dX8_laysTwos_91 ?_
        refine go_iload_n (pc := 92) dX8_laysTwos_92 rfl ?_
        refine go_icmp_ne (tgt := 102) (pc := 93) dX8_laysTwos_93 (by decide) (fun h_93 => ?_) (fun h_93 => ?_)
        · refine go_aload_n (pc := 102) dX8_laysTwos_102 rfl ?_
          refine go_V0V (pc := 103) v_X8_381 rfl rfl (rcv_of (ci := 8) (by first | exact mo0 hM_q | exact mo1 hM_q | exact mo6 hM_q | exact mo7 hM_q | exact mo8 hM_q | exact mo2 hM_q | exact mo3 hM_q | exact mo4 hM_q | exact mo5 hM_q | exact mo9 hM_q | exact mo10 hM_q | exact mo11 hM_q | exact mo12 hM_q | exact mo13 hM_q | exact mo14 hM_q | exact mo15 hM_q | exact mo16 hM_q) rfl) dX8_laysTwos_103 (sp_putsBack (k := k - 1) hM_q) (fun σ n h_q => ?_)
          obtain ⟨rfl, A1, hM_q, hA1, hf1⟩ := h_q
          have hA_q := eqx.tr (A := A) (L := [6, 7, 8, 9, 10, 11, 12, 13]) (by repeat (first | assumption | exact eqx.rf | refine eqx.up ?_ (by decide))) (hA1.wk (by decide))
          have hf_q := hf_q.tr hf1
          rw [setS_back hSg hG_q] at hM_q
          have hG_q : ∀ j, j < 26 → A1 8 j = K (8 + j) := fun j hj_q => by rw [hA1 8 (by decide)]; exact hG_q j hj_q
          refine go_iinc (v := 1) (lw := [_, _, _, _, _]) (pc := 106) dX8_laysTwos_106 rfl (by decide) (by decide) rfl ?_
          refine go_goto (tgt := 22) (pc := 109) dX8_laysTwos_109 (by decide) ?_
          rw [nI_1]
          first
            | exact ih_q _ _ _ ⟨_, _, _, rfl, hM_q, hA_q, hf_q, hG_q, hF, hF2, hT_q, (by rw [← hR_q, twL_n hi_q (fun hc_q => by simp only [twS, decide_eq_true_eq] at hc_q; exact absurd h_39 (nI_ge hc_q.1 (by omega)))]), rfl⟩
            | exact ih_q _ _ _ ⟨_, _, _, rfl, hM_q, hA_q, hf_q, hG_q, hF, hF2, hT_q, (by rw [← hR_q, twL_n hi_q (fun hc_q => by simp only [twS, decide_eq_true_eq] at hc_q; exact h_58 hc_q.2.1)]), rfl⟩
            | exact ih_q _ _ _ ⟨_, _, _, rfl, hM_q, hA_q, hf_q, hG_q, hF, hF2, (by rw [hA1 12 (by decide), hA1 13 (by decide)]; exact hT_q), (by rw [← hR_q, twL_n hi_q (fun hc_q => by simp only [twS, decide_eq_true_eq] at hc_q; exact h_93 hc_q.2.2)]), rfl⟩
            | exact ih_q _ _ _ ⟨_, _, _, rfl, hM_q, hA_q, hf_q, hG_q, hF, hF2, (by rw [hA1 12 (by decide), hA1 13 (by decide)]; exact hT_q), hR_q, rfl⟩
        · have hti : twS K s j i_q = true := by simp only [twS, decide_eq_true_eq]; exact ⟨hlt, h_58, h_93⟩
          rw [twL_y hi_q hti, List.length_cons] at hlen
          refine go_aload_n (pc := 96) dX8_laysTwos_96 rfl ?_
          refine go_iload (pc := 97) dX8_laysTwos_97 rfl ?_
          refine go_V1V (pc := 99) v_X8_458 rfl rfl (rcv_of (ci := 8) (by first | exact mo0 hM_q | exact mo1 hM_q | exact mo6 hM_q | exact mo7 hM_q | exact mo8 hM_q | exact mo2 hM_q | exact mo3 hM_q | exact mo4 hM_q | exact mo5 hM_q | exact mo9 hM_q | exact mo10 hM_q | exact mo11 hM_q | exact mo12 hM_q | exact mo13 hM_q | exact mo14 hM_q | exact mo15 hM_q | exact mo16 hM_q) rfl) dX8_laysTwos_99 (sp_addsTwo (k := k - 1) hM_q (by omega) (hSg.okB hB_q) _ hF (by omega)) (fun σ n h_q => ?_)
          obtain ⟨rfl, A1, hM_q, hA1, hf1, t1_q, t2, t3⟩ := h_q
          have hA_q := eqx.tr (A := A) (L := [6, 7, 8, 9, 10, 11, 12, 13]) (by repeat (first | assumption | exact eqx.rf | refine eqx.up ?_ (by decide))) (hA1.wk (by decide))
          have hf_q := hf_q.tr hf1
          have hG_q : ∀ j, j < 26 → A1 8 j = K (8 + j) := fun j hj_q => by rw [hA1 8 (by decide)]; exact hG_q j hj_q
          have hT_q : twJ K j (l9_q ++ [i_q]) (A1 12) (A1 13) := twJ_add hT_q t1_q (fun p hp_q => t2 p (by rw [hSg.P]; exact hp_q)) t3 hP8
          have hF : (upd F9 26 (nI (l9_q.length + 1))) 26 = nI (l9_q ++ [i_q]).length := by rw [pk_us, List.length_append, List.length_singleton]
          have hF2 : ∀ q, q ≠ 26 → (upd F9 26 (nI (l9_q.length + 1))) q = F q := fun q hq_q => by rw [pk_un hq_q]; exact hF2 q hq_q
          have hR_q : (l9_q ++ [i_q]) ++ twL (twS K s j) (100 - (i_q + 1)) (i_q + 1) = twK K s j := by rw [← hR_q, twL_y hi_q hti, List.append_assoc, List.singleton_append]
          refine go_aload_n (pc := 102) dX8_laysTwos_102 rfl ?_
          refine go_V0V (pc := 103) v_X8_381 rfl rfl (rcv_of (ci := 8) (by first | exact mo0 hM_q | exact mo1 hM_q | exact mo6 hM_q | exact mo7 hM_q | exact mo8 hM_q | exact mo2 hM_q | exact mo3 hM_q | exact mo4 hM_q | exact mo5 hM_q | exact mo9 hM_q | exact mo10 hM_q | exact mo11 hM_q | exact mo12 hM_q | exact mo13 hM_q | exact mo14 hM_q | exact mo15 hM_q | exact mo16 hM_q) rfl) dX8_laysTwos_103 (sp_putsBack (k := k - 1) hM_q) (fun σ n h_q => ?_)
          obtain ⟨rfl, A1, hM_q, hA1, hf1⟩ := h_q
          have hA_q := eqx.tr (A := A) (L := [6, 7, 8, 9, 10, 11, 12, 13]) (by repeat (first | assumption | exact eqx.rf | refine eqx.up ?_ (by decide))) (hA1.wk (by decide))
          have hf_q := hf_q.tr hf1
          rw [setS_back hSg hG_q] at hM_q
          have hG_q : ∀ j, j < 26 → A1 8 j = K (8 + j) := fun j hj_q => by rw [hA1 8 (by decide)]; exact hG_q j hj_q
          refine go_iinc (v := 1) (lw := [_, _, _, _, _]) (pc := 106) dX8_laysTwos_106 rfl (by decide) (by decide) rfl ?_
          refine go_goto (tgt := 22) (pc := 109) dX8_laysTwos_109 (by decide) ?_
          rw [nI_1]
          first
            | exact ih_q _ _ _ ⟨_, _, _, rfl, hM_q, hA_q, hf_q, hG_q, hF, hF2, hT_q, (by rw [← hR_q, twL_n hi_q (fun hc_q => by simp only [twS, decide_eq_true_eq] at hc_q; exact absurd h_39 (nI_ge hc_q.1 (by omega)))]), rfl⟩
            | exact ih_q _ _ _ ⟨_, _, _, rfl, hM_q, hA_q, hf_q, hG_q, hF, hF2, hT_q, (by rw [← hR_q, twL_n hi_q (fun hc_q => by simp only [twS, decide_eq_true_eq] at hc_q; exact h_58 hc_q.2.1)]), rfl⟩
            | exact ih_q _ _ _ ⟨_, _, _, rfl, hM_q, hA_q, hf_q, hG_q, hF, hF2, (by rw [hA1 12 (by decide), hA1 13 (by decide)]; exact hT_q), (by rw [← hR_q, twL_n hi_q (fun hc_q => by simp only [twS, decide_eq_true_eq] at hc_q; exact h_93 hc_q.2.2)]), rfl⟩
            | exact ih_q _ _ _ ⟨_, _, _, rfl, hM_q, hA_q, hf_q, hG_q, hF, hF2, (by rw [hA1 12 (by decide), hA1 13 (by decide)]; exact hT_q), hR_q, rfl⟩
      · refine go_goto (tgt := 106) (pc := 61) dX8_laysTwos_61 (by decide) ?_
        refine go_iinc (v := 1) (lw := [_, _, _, _, _]) (pc := 106) dX8_laysTwos_106 rfl (by decide) (by decide) rfl ?_
        refine go_goto (tgt := 22) (pc := 109) dX8_laysTwos_109 (by decide) ?_
        rw [nI_1]
        first
          | exact ih_q _ _ _ ⟨_, _, _, rfl, hM_q, hA_q, hf_q, hG_q, hF, hF2, hT_q, (by rw [← hR_q, twL_n hi_q (fun hc_q => by simp only [twS, decide_eq_true_eq] at hc_q; exact absurd h_39 (nI_ge hc_q.1 (by omega)))]), rfl⟩
          | exact ih_q _ _ _ ⟨_, _, _, rfl, hM_q, hA_q, hf_q, hG_q, hF, hF2, hT_q, (by rw [← hR_q, twL_n hi_q (fun hc_q => by simp only [twS, decide_eq_true_eq] at hc_q; exact h_58 hc_q.2.1)]), rfl⟩
          | exact ih_q _ _ _ ⟨_, _, _, rfl, hM_q, hA_q, hf_q, hG_q, hF, hF2, (by rw [hA1 12 (by decide), hA1 13 (by decide)]; exact hT_q), (by rw [← hR_q, twL_n hi_q (fun hc_q => by simp only [twS, decide_eq_true_eq] at hc_q; exact h_93 hc_q.2.2)]), rfl⟩
          | exact ih_q _ _ _ ⟨_, _, _, rfl, hM_q, hA_q, hf_q, hG_q, hF, hF2, (by rw [hA1 12 (by decide), hA1 13 (by decide)]; exact hT_q), hR_q, rfl⟩
  · rintro lv9 σ n9 ⟨F9, l9_q, A9_q, rfl, hM_q, hA_q, hf_q, hG_q, hF, hF2, hT_q, hR_q, rfl⟩
    refine go_iload (pc := 22) dX8_laysTwos_22 rfl ?_
    refine go_bipush (v := 100) (pc := 24) dX8_laysTwos_24 (by decide) ?_
    refine go_icmp_ge (tgt := 112) (pc := 26) dX8_laysTwos_26 (by decide) (fun h_26 => ?_) (fun h_26 => by exfalso; exact h_26 (by decide))
    exact go_vretV (pc := 112) rfl dX8_laysTwos_112 (Nat.le_of_ble_eq_true rfl) (Nat.le_of_ble_eq_true rfl) ⟨rfl, F9, _, hM_q, (by rw [Nat.sub_self, twL, List.append_nil] at hR_q; rw [← hR_q]; exact hF), hF2, hA_q, hf_q, (by rw [Nat.sub_self, twL, List.append_nil] at hR_q; rw [← hR_q]; exact hT_q)⟩
theorem sp_mostAlike {Γ : gam} {z0 : sto} {n k r : Nat} {F K : row} {A : Nat → row} {Nm : Nat → Int64} (hM_q : MoAt Γ z0 r F K A Nm) (hk : 1 ≤ k) (hP8 : kP K ≤ 8) {j p : Nat} {l : List Nat} (hp_q : p < kP K) (hF : F 26 = nI l.length) (hl : l.length ≤ 28) (hT_q : twJ K j l (A 12) (A 13)) : Sp Γ (rmk k 0 0) uX8_mostAlike [.ref r, .int (nI p)] z0 n (qP (mosK K j l p) z0 n) := by
  refine sp_intro [some (.ref r), some (.int (nI p)), none, none, none, none] (by decide +kernel) rfl (Nat.le_of_ble_eq_true rfl) rfl ?_
  refine go_iconst (v := 0) (pc := 0) dX8_mostAlike_0 (by decide) ?_
  refine go_istore_n (lw := [_, _, _, _, _, _]) (pc := 1) dX8_mostAlike_1 (by decide) rfl ?_
  refine go_iconst (v := 0) (pc := 2) dX8_mostAlike_2 (by decide) ?_
  refine go_istore_n (lw := [_, _, _, _, _, _]) (pc := 3) dX8_mostAlike_3 (by decide) rfl ?_
  refine go_iter (l.length) (fun i_q lv9 s9 n9 => ∃ (x2_q : Int32), ∃ x4_q, ∃ x5_q, lv9 = [some (.ref r), some (.int (nI p)), some (.int x2_q), some (.int (nI i_q)), x4_q, x5_q] ∧ (mosI (fun i_q => twP K j (l.getD i_q 0) p) l.length (l.length - i_q) i_q x2_q = mosK K j l p) ∧ (z0 = s9) ∧ n = n9) ⟨0, none, none, rfl, rfl, rfl, rfl⟩ ?_ ?_
  · rintro i_q lv9 σ n9 hi_q ⟨x2_q, x4_q, x5_q, rfl, hR_q, rfl, rfl⟩ ih_q
    refine go_iload_n (pc := 4) dX8_mostAlike_4 rfl ?_
    refine go_aload_n (pc := 5) dX8_mostAlike_5 rfl ?_
    refine go_getf (pc := 6) f_X8_455 dX8_mostAlike_6 (by first | exact mo0 hM_q | exact mo1 hM_q | exact mo6 hM_q | exact mo7 hM_q | exact mo8 hM_q | exact mo2 hM_q | exact mo3 hM_q | exact mo4 hM_q | exact mo5 hM_q | exact mo9 hM_q | exact mo10 hM_q | exact mo11 hM_q | exact mo12 hM_q | exact mo13 hM_q | exact mo14 hM_q | exact mo15 hM_q | exact mo16 hM_q) (by rfl) ?_
    rw [hF]
    refine go_icmp_ge (tgt := 82) (pc := 9) dX8_mostAlike_9 (by decide) (fun h_9 => by exfalso; exact absurd h_9 (nI_ge (by omega) (by omega))) (fun h_9 => ?_)
    refine go_iconst (v := 0) (pc := 12) dX8_mostAlike_12 (by decide) ?_
    refine go_istore (lw := [_, _, _, _, _, _]) (pc := 13) dX8_mostAlike_13 (by decide) rfl ?_
    refine go_iconst (v := 0) (pc := 15) dX8_mostAlike_15 (by decide) ?_
    refine go_istore (lw := [_, _, _, _, _, _]) (pc := 16) dX8_mostAlike_16 (by decide) rfl ?_
    refine go_iter (l.length) (fun i2_q lv9 s9 n9 => ∃ (y4 : Int32), lv9 = [some (.ref r), some (.int (nI p)), some (.int x2_q), some (.int (nI i_q)), some (.int y4), some (.int (nI i2_q))] ∧ (alkI (fun i_q => twP K j (l.getD i_q 0) p) ((fun i_q => twP K j (l.getD i_q 0) p) i_q) (l.length - i2_q) i2_q y4 = alkI (fun i_q => twP K j (l.getD i_q 0) p) ((fun i_q => twP K j (l.getD i_q 0) p) i_q) l.length 0 0) ∧ (z0 = s9) ∧ n = n9) ⟨0, rfl, rfl, rfl, rfl⟩ ?_ ?_
    · rintro i2_q lv9 σ n9 hi2_q ⟨y4, rfl, hR2, rfl, rfl⟩ ih2_q
      refine go_iload (pc := 18) dX8_mostAlike_18 rfl ?_
      refine go_aload_n (pc := 20) dX8_mostAlike_20 rfl ?_
      refine go_getf (pc := 21) f_X8_455 dX8_mostAlike_21 (by first | exact mo0 hM_q | exact mo1 hM_q | exact mo6 hM_q | exact mo7 hM_q | exact mo8 hM_q | exact mo2 hM_q | exact mo3 hM_q | exact mo4 hM_q | exact mo5 hM_q | exact mo9 hM_q | exact mo10 hM_q | exact mo11 hM_q | exact mo12 hM_q | exact mo13 hM_q | exact mo14 hM_q | exact mo15 hM_q | exact mo16 hM_q) (by rfl) ?_
      rw [hF]
      refine go_icmp_ge (tgt := 69) (pc := 24) dX8_mostAlike_24 (by decide) (fun h_24 => by exfalso; exact absurd h_24 (nI_ge (by omega) (by omega))) (fun h_24 => ?_)
      have emi : (8 : Int32) * nI i_q + nI p = nI (8 * i_q + p) := by rw [show (8 : Int32) = nI 8 from rfl, pk_mul, nI_add]
      have emi2 : (8 : Int32) * nI i2_q + nI p = nI (8 * i2_q + p) := by rw [show (8 : Int32) = nI 8 from rfl, pk_mul, nI_add]
      refine go_iload (pc := 27) dX8_mostAlike_27 rfl ?_
      refine go_aload_n (pc := 29) dX8_mostAlike_29 rfl ?_
      refine go_getf (pc := 30) f_X8_51 dX8_mostAlike_30 (by first | exact mo0 hM_q | exact mo1 hM_q | exact mo6 hM_q | exact mo7 hM_q | exact mo8 hM_q | exact mo2 hM_q | exact mo3 hM_q | exact mo4 hM_q | exact mo5 hM_q | exact mo9 hM_q | exact mo10 hM_q | exact mo11 hM_q | exact mo12 hM_q | exact mo13 hM_q | exact mo14 hM_q | exact mo15 hM_q | exact mo16 hM_q) (by rfl) ?_
      refine go_bipush (v := 8) (pc := 33) dX8_mostAlike_33 (by decide) ?_
      refine go_iload (pc := 35) dX8_mostAlike_35 rfl ?_
      refine go_imul (pc := 37) dX8_mostAlike_37 ?_
      refine go_iload_n (pc := 38) dX8_mostAlike_38 rfl ?_
      refine go_iadd (pc := 39) dX8_mostAlike_39 ?_
      refine go_iald (pc := 40) dX8_mostAlike_40 (by first | exact mo0 hM_q | exact mo1 hM_q | exact mo6 hM_q | exact mo7 hM_q | exact mo8 hM_q | exact mo2 hM_q | exact mo3 hM_q | exact mo4 hM_q | exact mo5 hM_q | exact mo9 hM_q | exact mo10 hM_q | exact mo11 hM_q | exact mo12 hM_q | exact mo13 hM_q | exact mo14 hM_q | exact mo15 hM_q | exact mo16 hM_q) (by exact ⟨emi2, by omega⟩) ?_
      refine go_aload_n (pc := 41) dX8_mostAlike_41 rfl ?_
      refine go_getf (pc := 42) f_X8_51 dX8_mostAlike_42 (by first | exact mo0 hM_q | exact mo1 hM_q | exact mo6 hM_q | exact mo7 hM_q | exact mo8 hM_q | exact mo2 hM_q | exact mo3 hM_q | exact mo4 hM_q | exact mo5 hM_q | exact mo9 hM_q | exact mo10 hM_q | exact mo11 hM_q | exact mo12 hM_q | exact mo13 hM_q | exact mo14 hM_q | exact mo15 hM_q | exact mo16 hM_q) (by rfl) ?_
      refine go_bipush (v := 8) (pc := 45) dX8_mostAlike_45 (by decide) ?_
      refine go_iload_n (pc := 47) dX8_mostAlike_47 rfl ?_
      refine go_imul (pc := 48) dX8_mostAlike_48 ?_
      refine go_iload_n (pc := 49) dX8_mostAlike_49 rfl ?_
      refine go_iadd (pc := 50) dX8_mostAlike_50 ?_
      refine go_iald (pc := 51) dX8_mostAlike_51 (by first | exact mo0 hM_q | exact mo1 hM_q | exact mo6 hM_q | exact mo7 hM_q | exact mo8 hM_q | exact mo2 hM_q | exact mo3 hM_q | exact mo4 hM_q | exact mo5 hM_q | exact mo9 hM_q | exact mo10 hM_q | exact mo11 hM_q | exact mo12 hM_q | exact mo13 hM_q | exact mo14 hM_q | exact mo15 hM_q | exact mo16 hM_q) (by exact ⟨emi, by omega⟩) ?_
      rw [(hT_q i2_q hi2_q).2 p hp_q, (hT_q i_q hi_q).2 p hp_q]
      refine go_icmp_ne (tgt := 59) (pc := 52) dX8_mostAlike_52 (by decide) (fun h_52 => ?_) (fun h_52 => ?_)
      · refine go_iconst (v := 0) (pc := 59) dX8_mostAlike_59 (by decide) ?_
        refine go_iadd (pc := 60) dX8_mostAlike_60 ?_
        refine go_istore (lw := [_, _, _, _, _, _]) (pc := 61) dX8_mostAlike_61 (by decide) rfl ?_
        refine go_iinc (v := 1) (lw := [_, _, _, _, _, _]) (pc := 63) dX8_mostAlike_63 rfl (by decide) (by decide) rfl ?_
        refine go_goto (tgt := 18) (pc := 66) dX8_mostAlike_66 (by decide) ?_
        rw [nI_1]
        exact ih2_q _ _ _ ⟨_, rfl, (by rw [← hR2, alkI_step hi2_q]; first | rw [if_neg h_52] | rw [if_pos h_52]), rfl, rfl⟩
      · refine go_iconst (v := 1) (pc := 55) dX8_mostAlike_55 (by decide) ?_
        refine go_goto (tgt := 60) (pc := 56) dX8_mostAlike_56 (by decide) ?_
        refine go_iadd (pc := 60) dX8_mostAlike_60 ?_
        refine go_istore (lw := [_, _, _, _, _, _]) (pc := 61) dX8_mostAlike_61 (by decide) rfl ?_
        refine go_iinc (v := 1) (lw := [_, _, _, _, _, _]) (pc := 63) dX8_mostAlike_63 rfl (by decide) (by decide) rfl ?_
        refine go_goto (tgt := 18) (pc := 66) dX8_mostAlike_66 (by decide) ?_
        rw [nI_1]
        exact ih2_q _ _ _ ⟨_, rfl, (by rw [← hR2, alkI_step hi2_q]; first | rw [if_neg h_52] | rw [if_pos h_52]), rfl, rfl⟩
    · rintro lv9 σ n9 ⟨y4, rfl, hR2, rfl, rfl⟩
      refine go_iload (pc := 18) dX8_mostAlike_18 rfl ?_
      refine go_aload_n (pc := 20) dX8_mostAlike_20 rfl ?_
      refine go_getf (pc := 21) f_X8_455 dX8_mostAlike_21 (by first | exact mo0 hM_q | exact mo1 hM_q | exact mo6 hM_q | exact mo7 hM_q | exact mo8 hM_q | exact mo2 hM_q | exact mo3 hM_q | exact mo4 hM_q | exact mo5 hM_q | exact mo9 hM_q | exact mo10 hM_q | exact mo11 hM_q | exact mo12 hM_q | exact mo13 hM_q | exact mo14 hM_q | exact mo15 hM_q | exact mo16 hM_q) (by rfl) ?_
      rw [hF]
      refine go_icmp_ge (tgt := 69) (pc := 24) dX8_mostAlike_24 (by decide) (fun h_24 => ?_) (fun h_24 => by exfalso; exact h_24 (nI_le (by omega) (by omega)))
      refine go_iload_n (pc := 69) dX8_mostAlike_69 rfl ?_
      refine go_iload (pc := 70) dX8_mostAlike_70 rfl ?_
      refine go_mmax (pc := 72) s_X8_278 dX8_mostAlike_72 ?_
      refine go_istore_n (lw := [_, _, _, _, _, _]) (pc := 75) dX8_mostAlike_75 (by decide) rfl ?_
      refine go_iinc (v := 1) (lw := [_, _, _, _, _, _]) (pc := 76) dX8_mostAlike_76 rfl (by decide) (by decide) rfl ?_
      refine go_goto (tgt := 4) (pc := 79) dX8_mostAlike_79 (by decide) ?_
      rw [nI_1]
      exact ih_q _ _ _ ⟨_, _, _, rfl, (by rw [← hR_q, mosI_step hi_q, ← hR2, Nat.sub_self]; rfl), rfl, rfl⟩
  · rintro lv9 σ n9 ⟨x2_q, x4_q, x5_q, rfl, hR_q, rfl, rfl⟩
    refine go_iload_n (pc := 4) dX8_mostAlike_4 rfl ?_
    refine go_aload_n (pc := 5) dX8_mostAlike_5 rfl ?_
    refine go_getf (pc := 6) f_X8_455 dX8_mostAlike_6 (by first | exact mo0 hM_q | exact mo1 hM_q | exact mo6 hM_q | exact mo7 hM_q | exact mo8 hM_q | exact mo2 hM_q | exact mo3 hM_q | exact mo4 hM_q | exact mo5 hM_q | exact mo9 hM_q | exact mo10 hM_q | exact mo11 hM_q | exact mo12 hM_q | exact mo13 hM_q | exact mo14 hM_q | exact mo15 hM_q | exact mo16 hM_q) (by rfl) ?_
    rw [hF]
    refine go_icmp_ge (tgt := 82) (pc := 9) dX8_mostAlike_9 (by decide) (fun h_9 => ?_) (fun h_9 => by exfalso; exact h_9 (nI_le (by omega) (by omega)))
    refine go_iload_n (pc := 82) dX8_mostAlike_82 rfl ?_
    exact go_iretP (pc := 83) rfl dX8_mostAlike_83 (Nat.le_of_ble_eq_true rfl) (Nat.le_of_ble_eq_true rfl) (by rw [← hR_q, Nat.sub_self]; rfl)
theorem sp_changed {Γ : gam} {z0 : sto} {n k r : Nat} {F K : row} {A : Nat → row} {Nm : Nat → Int64} (hM_q : MoAt Γ z0 r F K A Nm) (hk : 14 ≤ k) (hB_q : okB K) (hv_q : vS K) (s z : Int32) : Sp Γ (rmk k 0 0) uX8_changed [.ref r, .int s, .int z] z0 n (qI fun v σ' n' => v = (aChanged K s z.toInt).2 ∧ apJ Γ r F K A Nm z0 n (aChanged K s z.toInt).1 σ' n') := by
  have hP8 := hB_q.1.2.1
  have hH5 := hB_q.1.2.2.2.1
  have hW4 := hB_q.1.2.2.2.2.2
  have hA_q : eqx [6, 7, 8, 9, 10, 11, 12, 13] A A := eqx.rf
  have hf_q : fr r (r + 16) z0 z0 := fr.rf
  refine sp_intro [some (.ref r), some (.int s), some (.int z)] (by decide +kernel) rfl (Nat.le_of_ble_eq_true rfl) rfl ?_
  rcases chT_c (K := K) (s := s) (z := z.toInt) with h0_q | ⟨h0_q, hs, j1_q, hz_q⟩
  · refine go_aload_n (pc := 0) dX8_changed_0 rfl ?_
    refine go_iload_n (pc := 1) dX8_changed_1 rfl ?_
    refine go_iload_n (pc := 2) dX8_changed_2 rfl ?_
    refine go_V2I (pc := 3) v_X8_461 rfl rfl (rcv_of (ci := 8) (by first | exact mo0 hM_q | exact mo1 hM_q | exact mo6 hM_q | exact mo7 hM_q | exact mo8 hM_q | exact mo2 hM_q | exact mo3 hM_q | exact mo4 hM_q | exact mo5 hM_q | exact mo9 hM_q | exact mo10 hM_q | exact mo11 hM_q | exact mo12 hM_q | exact mo13 hM_q | exact mo14 hM_q | exact mo15 hM_q | exact mo16 hM_q) rfl) dX8_changed_3 (sp_isChangedOut (k := k - 1) hM_q (by omega) hB_q _ _) (fun v_3 σ n h_q => ?_)
    obtain ⟨rfl, rfl, A1, hM_q, hA1, hf1⟩ := h_q
    have hA_q := eqx.tr (A := A) (L := [6, 7, 8, 9, 10, 11, 12, 13]) (by repeat (first | assumption | exact eqx.rf | refine eqx.up ?_ (by decide))) (hA1.wk (by decide))
    have hf_q := hf_q.tr hf1
    rw [h0_q]
    rw [h0_q] at hM_q
    refine go_if_eq (tgt := 11) (pc := 6) dX8_changed_6 (by decide) (fun h_6 => by exfalso; exact absurd h_6 (by decide)) (fun h_6 => ?_)
    refine go_iconst (v := 0) (pc := 9) dX8_changed_9 (by decide) ?_
    exact go_iretI (pc := 10) rfl dX8_changed_10 (Nat.le_of_ble_eq_true rfl) (Nat.le_of_ble_eq_true rfl) ⟨(by rw [aChanged, h0_q]; rfl), rfl, _, _, hM_q, ⟨(by rw [aChanged, h0_q]; rfl), fun j h1_q h2_q h3_q => by simp [upd, h1_q, h2_q, h3_q]⟩, (by repeat (first | assumption | exact eqx.rf | refine eqx.up ?_ (by decide))), hf_q⟩
  · have hz1 := rN_some hz_q
    have e1_q := hz1.1
    obtain rfl := I_nat e1_q (by omega)
    have e2_q : (nI j1_q).toInt.toNat = j1_q := by rw [e1_q]; rfl
    refine go_aload_n (pc := 0) dX8_changed_0 rfl ?_
    refine go_iload_n (pc := 1) dX8_changed_1 rfl ?_
    refine go_iload_n (pc := 2) dX8_changed_2 rfl ?_
    refine go_V2I (pc := 3) v_X8_461 rfl rfl (rcv_of (ci := 8) (by first | exact mo0 hM_q | exact mo1 hM_q | exact mo6 hM_q | exact mo7 hM_q | exact mo8 hM_q | exact mo2 hM_q | exact mo3 hM_q | exact mo4 hM_q | exact mo5 hM_q | exact mo9 hM_q | exact mo10 hM_q | exact mo11 hM_q | exact mo12 hM_q | exact mo13 hM_q | exact mo14 hM_q | exact mo15 hM_q | exact mo16 hM_q) rfl) dX8_changed_3 (sp_isChangedOut (k := k - 1) hM_q (by omega) hB_q _ _) (fun v_3 σ n h_q => ?_)
    obtain ⟨rfl, rfl, A1, hM_q, hA1, hf1⟩ := h_q
    have hA_q := eqx.tr (A := A) (L := [6, 7, 8, 9, 10, 11, 12, 13]) (by repeat (first | assumption | exact eqx.rf | refine eqx.up ?_ (by decide))) (hA1.wk (by decide))
    have hf_q := hf_q.tr hf1
    rw [h0_q]
    rw [h0_q] at hM_q
    refine go_if_eq (tgt := 11) (pc := 6) dX8_changed_6 (by decide) (fun h_6 => ?_) (fun h_6 => by exfalso; exact h_6 (by decide))
    refine go_aload_n (pc := 11) dX8_changed_11 rfl ?_
    refine go_iload_n (pc := 12) dX8_changed_12 rfl ?_
    refine go_iload_n (pc := 13) dX8_changed_13 rfl ?_
    refine go_V2V (pc := 14) v_X8_464 rfl rfl (rcv_of (ci := 8) (by first | exact mo0 hM_q | exact mo1 hM_q | exact mo6 hM_q | exact mo7 hM_q | exact mo8 hM_q | exact mo2 hM_q | exact mo3 hM_q | exact mo4 hM_q | exact mo5 hM_q | exact mo9 hM_q | exact mo10 hM_q | exact mo11 hM_q | exact mo12 hM_q | exact mo13 hM_q | exact mo14 hM_q | exact mo15 hM_q | exact mo16 hM_q) rfl) dX8_changed_14 (sp_laysTwos (k := k - 1) hM_q (by omega) hB_q hv_q _ (by omega)) (fun σ n h_q => ?_)
    obtain ⟨rfl, F1, A1, hM_q, hF1, hF2, hA1, hf1, hT_q⟩ := h_q
    have hA_q := eqx.tr (A := A) (L := [6, 7, 8, 9, 10, 11, 12, 13]) (by repeat (first | assumption | exact eqx.rf | refine eqx.up ?_ (by decide))) (hA1.wk (by decide))
    have hf_q := hf_q.tr hf1
    have hlen := twK_28 (K := K) (s := s) (j := j1_q) hP8
    refine go_aload_n (pc := 17) dX8_changed_17 rfl ?_
    refine go_getf (pc := 18) f_X8_455 dX8_changed_18 (by first | exact mo0 hM_q | exact mo1 hM_q | exact mo6 hM_q | exact mo7 hM_q | exact mo8 hM_q | exact mo2 hM_q | exact mo3 hM_q | exact mo4 hM_q | exact mo5 hM_q | exact mo9 hM_q | exact mo10 hM_q | exact mo11 hM_q | exact mo12 hM_q | exact mo13 hM_q | exact mo14 hM_q | exact mo15 hM_q | exact mo16 hM_q) (by rfl) ?_
    exact go_iretI (pc := 21) rfl dX8_changed_21 (Nat.le_of_ble_eq_true rfl) (Nat.le_of_ble_eq_true rfl) ⟨(by rw [hF1, aChanged, h0_q, e2_q]; rfl), rfl, _, _, hM_q, ⟨(by rw [hF2 4 (by decide), pk_us]; rw [aChanged, h0_q]; rfl), fun j h1_q h2_q h3_q => by rw [hF2 j h3_q, pk_un h1_q]⟩, hA_q, hf_q⟩
theorem sp_changedAt {Γ : gam} {z0 : sto} {n k r : Nat} {F K : row} {A : Nat → row} {Nm : Nat → Int64} (hM_q : MoAt Γ z0 r F K A Nm) (hk : 14 ≤ k) (hB_q : okB K) (hv_q : vS K) (s z k1 : Int32) : Sp Γ (rmk k 0 0) uX8_changedAt [.ref r, .int s, .int z, .int k1] z0 n (qI fun v σ' n' => v = (aChangedAt K s z.toInt k1).2 ∧ apJ Γ r F K A Nm z0 n (aChangedAt K s z.toInt k1).1 σ' n') := by
  have hP8 := hB_q.1.2.1
  have hH5 := hB_q.1.2.2.2.1
  have hW4 := hB_q.1.2.2.2.2.2
  have hA_q : eqx [6, 7, 8, 9, 10, 11, 12, 13] A A := eqx.rf
  have hf_q : fr r (r + 16) z0 z0 := fr.rf
  refine sp_intro [some (.ref r), some (.int s), some (.int z), some (.int k1)] (by decide +kernel) rfl (Nat.le_of_ble_eq_true rfl) rfl ?_
  rcases chT_c (K := K) (s := s) (z := z.toInt) with h0_q | ⟨h0_q, hs, j1_q, hz_q⟩
  · refine go_aload_n (pc := 0) dX8_changedAt_0 rfl ?_
    refine go_iload_n (pc := 1) dX8_changedAt_1 rfl ?_
    refine go_iload_n (pc := 2) dX8_changedAt_2 rfl ?_
    refine go_V2I (pc := 3) v_X8_461 rfl rfl (rcv_of (ci := 8) (by first | exact mo0 hM_q | exact mo1 hM_q | exact mo6 hM_q | exact mo7 hM_q | exact mo8 hM_q | exact mo2 hM_q | exact mo3 hM_q | exact mo4 hM_q | exact mo5 hM_q | exact mo9 hM_q | exact mo10 hM_q | exact mo11 hM_q | exact mo12 hM_q | exact mo13 hM_q | exact mo14 hM_q | exact mo15 hM_q | exact mo16 hM_q) rfl) dX8_changedAt_3 (sp_isChangedOut (k := k - 1) hM_q (by omega) hB_q _ _) (fun v_3 σ n h_q => ?_)
    obtain ⟨rfl, rfl, A1, hM_q, hA1, hf1⟩ := h_q
    have hA_q := eqx.tr (A := A) (L := [6, 7, 8, 9, 10, 11, 12, 13]) (by repeat (first | assumption | exact eqx.rf | refine eqx.up ?_ (by decide))) (hA1.wk (by decide))
    have hf_q := hf_q.tr hf1
    rw [h0_q]
    rw [h0_q] at hM_q
    refine go_if_eq (tgt := 11) (pc := 6) dX8_changedAt_6 (by decide) (fun h_6 => by exfalso; exact absurd h_6 (by decide)) (fun h_6 => ?_)
    refine go_iconst (v := 0) (pc := 9) dX8_changedAt_9 (by decide) ?_
    exact go_iretI (pc := 10) rfl dX8_changedAt_10 (Nat.le_of_ble_eq_true rfl) (Nat.le_of_ble_eq_true rfl) ⟨(by rw [aChangedAt, h0_q]; rfl), rfl, _, _, hM_q, ⟨(by rw [aChangedAt, h0_q]; rfl), fun j h1_q h2_q h3_q => by simp [upd, h1_q, h2_q, h3_q]⟩, (by repeat (first | assumption | exact eqx.rf | refine eqx.up ?_ (by decide))), hf_q⟩
  · have hz1 := rN_some hz_q
    have e1_q := hz1.1
    obtain rfl := I_nat e1_q (by omega)
    have e2_q : (nI j1_q).toInt.toNat = j1_q := by rw [e1_q]; rfl
    refine go_aload_n (pc := 0) dX8_changedAt_0 rfl ?_
    refine go_iload_n (pc := 1) dX8_changedAt_1 rfl ?_
    refine go_iload_n (pc := 2) dX8_changedAt_2 rfl ?_
    refine go_V2I (pc := 3) v_X8_461 rfl rfl (rcv_of (ci := 8) (by first | exact mo0 hM_q | exact mo1 hM_q | exact mo6 hM_q | exact mo7 hM_q | exact mo8 hM_q | exact mo2 hM_q | exact mo3 hM_q | exact mo4 hM_q | exact mo5 hM_q | exact mo9 hM_q | exact mo10 hM_q | exact mo11 hM_q | exact mo12 hM_q | exact mo13 hM_q | exact mo14 hM_q | exact mo15 hM_q | exact mo16 hM_q) rfl) dX8_changedAt_3 (sp_isChangedOut (k := k - 1) hM_q (by omega) hB_q _ _) (fun v_3 σ n h_q => ?_)
    obtain ⟨rfl, rfl, A1, hM_q, hA1, hf1⟩ := h_q
    have hA_q := eqx.tr (A := A) (L := [6, 7, 8, 9, 10, 11, 12, 13]) (by repeat (first | assumption | exact eqx.rf | refine eqx.up ?_ (by decide))) (hA1.wk (by decide))
    have hf_q := hf_q.tr hf1
    rw [h0_q]
    rw [h0_q] at hM_q
    refine go_if_eq (tgt := 11) (pc := 6) dX8_changedAt_6 (by decide) (fun h_6 => ?_) (fun h_6 => by exfalso; exact h_6 (by decide))
    refine go_iload_n (pc := 11) dX8_changedAt_11 rfl ?_
    refine go_if_ge (tgt := 21) (pc := 12) dX8_changedAt_12 (by decide) (fun h_12 => ?_) (fun h_12 => ?_)
    · have han : aChangedAt K s (nI j1_q).toInt k1 = (0, if k1 < nI (twK K s j1_q).length then nI ((twK K s j1_q).getD k1.toNatClampNeg 0) else -1) := by rw [aChangedAt, h0_q, e2_q]; exact if_neg (Int32.not_lt.mpr h_12)
      refine go_aload_n (pc := 21) dX8_changedAt_21 rfl ?_
      refine go_iload_n (pc := 22) dX8_changedAt_22 rfl ?_
      refine go_iload_n (pc := 23) dX8_changedAt_23 rfl ?_
      refine go_V2V (pc := 24) v_X8_464 rfl rfl (rcv_of (ci := 8) (by first | exact mo0 hM_q | exact mo1 hM_q | exact mo6 hM_q | exact mo7 hM_q | exact mo8 hM_q | exact mo2 hM_q | exact mo3 hM_q | exact mo4 hM_q | exact mo5 hM_q | exact mo9 hM_q | exact mo10 hM_q | exact mo11 hM_q | exact mo12 hM_q | exact mo13 hM_q | exact mo14 hM_q | exact mo15 hM_q | exact mo16 hM_q) rfl) dX8_changedAt_24 (sp_laysTwos (k := k - 1) hM_q (by omega) hB_q hv_q _ (by omega)) (fun σ n h_q => ?_)
      obtain ⟨rfl, F1, A1, hM_q, hF1, hF2, hA1, hf1, hT_q⟩ := h_q
      have hA_q := eqx.tr (A := A) (L := [6, 7, 8, 9, 10, 11, 12, 13]) (by repeat (first | assumption | exact eqx.rf | refine eqx.up ?_ (by decide))) (hA1.wk (by decide))
      have hf_q := hf_q.tr hf1
      have hlen := twK_28 (K := K) (s := s) (j := j1_q) hP8
      refine go_iload_n (pc := 27) dX8_changedAt_27 rfl ?_
      refine go_aload_n (pc := 28) dX8_changedAt_28 rfl ?_
      refine go_getf (pc := 29) f_X8_455 dX8_changedAt_29 (by first | exact mo0 hM_q | exact mo1 hM_q | exact mo6 hM_q | exact mo7 hM_q | exact mo8 hM_q | exact mo2 hM_q | exact mo3 hM_q | exact mo4 hM_q | exact mo5 hM_q | exact mo9 hM_q | exact mo10 hM_q | exact mo11 hM_q | exact mo12 hM_q | exact mo13 hM_q | exact mo14 hM_q | exact mo15 hM_q | exact mo16 hM_q) (by rfl) ?_
      rw [hF1]
      refine go_icmp_ge (tgt := 44) (pc := 32) dX8_changedAt_32 (by decide) (fun h_32 => ?_) (fun h_32 => ?_)
      · refine go_iconst (v := -1) (pc := 44) dX8_changedAt_44 (by decide) ?_
        exact go_iretI (pc := 45) rfl dX8_changedAt_45 (Nat.le_of_ble_eq_true rfl) (Nat.le_of_ble_eq_true rfl) ⟨(by rw [han]; first | (rw [(hT_q q9_q hlt).1]; exact ((if_pos (Int32.not_le.mp h_32)).trans (by rw [nI_clamp (by omega)])).symm) | exact (if_neg (Int32.not_lt.mpr h_32)).symm), rfl, _, _, hM_q, ⟨(by rw [hF2 4 (by decide), pk_us]; rw [han]), fun j h1_q h2_q h3_q => by rw [hF2 j h3_q, pk_un h1_q]⟩, hA_q, hf_q⟩
      · obtain ⟨q9_q, hq9, rfl⟩ := nI_of (x := k1) (fun hc_q => Int32.not_lt.mpr h_12 hc_q)
        have hlt : q9_q < (twK K s j1_q).length := Nat.lt_of_not_le (fun hc_q => h_32 (nI_le hc_q (by omega)))
        refine go_aload_n (pc := 35) dX8_changedAt_35 rfl ?_
        refine go_getf (pc := 36) f_X8_48 dX8_changedAt_36 (by first | exact mo0 hM_q | exact mo1 hM_q | exact mo6 hM_q | exact mo7 hM_q | exact mo8 hM_q | exact mo2 hM_q | exact mo3 hM_q | exact mo4 hM_q | exact mo5 hM_q | exact mo9 hM_q | exact mo10 hM_q | exact mo11 hM_q | exact mo12 hM_q | exact mo13 hM_q | exact mo14 hM_q | exact mo15 hM_q | exact mo16 hM_q) (by rfl) ?_
        refine go_iload_n (pc := 39) dX8_changedAt_39 rfl ?_
        refine go_iald (pc := 40) dX8_changedAt_40 (by first | exact mo0 hM_q | exact mo1 hM_q | exact mo6 hM_q | exact mo7 hM_q | exact mo8 hM_q | exact mo2 hM_q | exact mo3 hM_q | exact mo4 hM_q | exact mo5 hM_q | exact mo9 hM_q | exact mo10 hM_q | exact mo11 hM_q | exact mo12 hM_q | exact mo13 hM_q | exact mo14 hM_q | exact mo15 hM_q | exact mo16 hM_q) (by exact ⟨rfl, by omega⟩) ?_
        refine go_goto (tgt := 45) (pc := 41) dX8_changedAt_41 (by decide) ?_
        exact go_iretI (pc := 45) rfl dX8_changedAt_45 (Nat.le_of_ble_eq_true rfl) (Nat.le_of_ble_eq_true rfl) ⟨(by rw [han]; first | (rw [(hT_q q9_q hlt).1]; exact ((if_pos (Int32.not_le.mp h_32)).trans (by rw [nI_clamp (by omega)])).symm) | exact (if_neg (Int32.not_lt.mpr h_32)).symm), rfl, _, _, hM_q, ⟨(by rw [hF2 4 (by decide), pk_us]; rw [han]), fun j h1_q h2_q h3_q => by rw [hF2 j h3_q, pk_un h1_q]⟩, hA_q, hf_q⟩
    · refine go_aload_n (pc := 15) dX8_changedAt_15 rfl ?_
      refine go_iconst (v := 1) (pc := 16) dX8_changedAt_16 (by decide) ?_
      refine go_V1I (pc := 17) v_X8_231 rfl rfl (rcv_of (ci := 8) (by first | exact mo0 hM_q | exact mo1 hM_q | exact mo6 hM_q | exact mo7 hM_q | exact mo8 hM_q | exact mo2 hM_q | exact mo3 hM_q | exact mo4 hM_q | exact mo5 hM_q | exact mo9 hM_q | exact mo10 hM_q | exact mo11 hM_q | exact mo12 hM_q | exact mo13 hM_q | exact mo14 hM_q | exact mo15 hM_q | exact mo16 hM_q) rfl) dX8_changedAt_17 (sp_fails (k := k - 1) hM_q _) (fun v_17 σ n h_q => ?_)
      obtain ⟨rfl, rfl, A1, hM_q, hA1, hf1⟩ := h_q
      have hA_q := eqx.tr (A := A) (L := [6, 7, 8, 9, 10, 11, 12, 13]) (by repeat (first | assumption | exact eqx.rf | refine eqx.up ?_ (by decide))) (hA1.wk (by decide))
      have hf_q := hf_q.tr hf1
      exact go_iretI (pc := 20) rfl dX8_changedAt_20 (Nat.le_of_ble_eq_true rfl) (Nat.le_of_ble_eq_true rfl) ⟨(by rw [aChangedAt, h0_q, if_neg (by decide), if_pos (Int32.not_le.mp h_12)]), rfl, _, _, hM_q, ⟨(by rw [pk_us, aChangedAt, h0_q, if_neg (by decide), if_pos (Int32.not_le.mp h_12)]), fun j h1_q h2_q h3_q => by simp [upd, h1_q, h2_q, h3_q]⟩, (by repeat (first | assumption | exact eqx.rf | refine eqx.up ?_ (by decide))), hf_q⟩
theorem sp_sure {Γ : gam} {z0 : sto} {n k r : Nat} {F K : row} {A : Nat → row} {Nm : Nat → Int64} (hM_q : MoAt Γ z0 r F K A Nm) (hk : 14 ≤ k) (hB_q : okB K) (hv_q : vS K) (s z : Int32) : Sp Γ (rmk k 0 0) uX8_sure [.ref r, .int s, .int z] z0 n (qI fun v σ' n' => v = (aSure K s z.toInt).2 ∧ apJ Γ r F K A Nm z0 n (aSure K s z.toInt).1 σ' n') := by
  have hP8 := hB_q.1.2.1
  have hH5 := hB_q.1.2.2.2.1
  have hW4 := hB_q.1.2.2.2.2.2
  have hA_q : eqx [6, 7, 8, 9, 10, 11, 12, 13] A A := eqx.rf
  have hf_q : fr r (r + 16) z0 z0 := fr.rf
  refine sp_intro [some (.ref r), some (.int s), some (.int z), none, none] (by decide +kernel) rfl (Nat.le_of_ble_eq_true rfl) rfl ?_
  rcases chT_c (K := K) (s := s) (z := z.toInt) with h0_q | ⟨h0_q, hs, j1_q, hz_q⟩
  · refine go_aload_n (pc := 0) dX8_sure_0 rfl ?_
    refine go_iload_n (pc := 1) dX8_sure_1 rfl ?_
    refine go_iload_n (pc := 2) dX8_sure_2 rfl ?_
    refine go_V2I (pc := 3) v_X8_461 rfl rfl (rcv_of (ci := 8) (by first | exact mo0 hM_q | exact mo1 hM_q | exact mo6 hM_q | exact mo7 hM_q | exact mo8 hM_q | exact mo2 hM_q | exact mo3 hM_q | exact mo4 hM_q | exact mo5 hM_q | exact mo9 hM_q | exact mo10 hM_q | exact mo11 hM_q | exact mo12 hM_q | exact mo13 hM_q | exact mo14 hM_q | exact mo15 hM_q | exact mo16 hM_q) rfl) dX8_sure_3 (sp_isChangedOut (k := k - 1) hM_q (by omega) hB_q _ _) (fun v_3 σ n h_q => ?_)
    obtain ⟨rfl, rfl, A1, hM_q, hA1, hf1⟩ := h_q
    have hA_q := eqx.tr (A := A) (L := [6, 7, 8, 9, 10, 11, 12, 13]) (by repeat (first | assumption | exact eqx.rf | refine eqx.up ?_ (by decide))) (hA1.wk (by decide))
    have hf_q := hf_q.tr hf1
    rw [h0_q]
    rw [h0_q] at hM_q
    refine go_if_eq (tgt := 11) (pc := 6) dX8_sure_6 (by decide) (fun h_6 => by exfalso; exact absurd h_6 (by decide)) (fun h_6 => ?_)
    refine go_iconst (v := 0) (pc := 9) dX8_sure_9 (by decide) ?_
    exact go_iretI (pc := 10) rfl dX8_sure_10 (Nat.le_of_ble_eq_true rfl) (Nat.le_of_ble_eq_true rfl) ⟨(by rw [aSure, h0_q]; rfl), rfl, _, _, hM_q, ⟨(by rw [aSure, h0_q]; rfl), fun j h1_q h2_q h3_q => by simp [upd, h1_q, h2_q, h3_q]⟩, (by repeat (first | assumption | exact eqx.rf | refine eqx.up ?_ (by decide))), hf_q⟩
  · have hz1 := rN_some hz_q
    have e1_q := hz1.1
    obtain rfl := I_nat e1_q (by omega)
    have e2_q : (nI j1_q).toInt.toNat = j1_q := by rw [e1_q]; rfl
    refine go_aload_n (pc := 0) dX8_sure_0 rfl ?_
    refine go_iload_n (pc := 1) dX8_sure_1 rfl ?_
    refine go_iload_n (pc := 2) dX8_sure_2 rfl ?_
    refine go_V2I (pc := 3) v_X8_461 rfl rfl (rcv_of (ci := 8) (by first | exact mo0 hM_q | exact mo1 hM_q | exact mo6 hM_q | exact mo7 hM_q | exact mo8 hM_q | exact mo2 hM_q | exact mo3 hM_q | exact mo4 hM_q | exact mo5 hM_q | exact mo9 hM_q | exact mo10 hM_q | exact mo11 hM_q | exact mo12 hM_q | exact mo13 hM_q | exact mo14 hM_q | exact mo15 hM_q | exact mo16 hM_q) rfl) dX8_sure_3 (sp_isChangedOut (k := k - 1) hM_q (by omega) hB_q _ _) (fun v_3 σ n h_q => ?_)
    obtain ⟨rfl, rfl, A1, hM_q, hA1, hf1⟩ := h_q
    have hA_q := eqx.tr (A := A) (L := [6, 7, 8, 9, 10, 11, 12, 13]) (by repeat (first | assumption | exact eqx.rf | refine eqx.up ?_ (by decide))) (hA1.wk (by decide))
    have hf_q := hf_q.tr hf1
    rw [h0_q]
    rw [h0_q] at hM_q
    refine go_if_eq (tgt := 11) (pc := 6) dX8_sure_6 (by decide) (fun h_6 => ?_) (fun h_6 => by exfalso; exact h_6 (by decide))
    refine go_aload_n (pc := 11) dX8_sure_11 rfl ?_
    refine go_iload_n (pc := 12) dX8_sure_12 rfl ?_
    refine go_iload_n (pc := 13) dX8_sure_13 rfl ?_
    refine go_V2V (pc := 14) v_X8_464 rfl rfl (rcv_of (ci := 8) (by first | exact mo0 hM_q | exact mo1 hM_q | exact mo6 hM_q | exact mo7 hM_q | exact mo8 hM_q | exact mo2 hM_q | exact mo3 hM_q | exact mo4 hM_q | exact mo5 hM_q | exact mo9 hM_q | exact mo10 hM_q | exact mo11 hM_q | exact mo12 hM_q | exact mo13 hM_q | exact mo14 hM_q | exact mo15 hM_q | exact mo16 hM_q) rfl) dX8_sure_14 (sp_laysTwos (k := k - 1) hM_q (by omega) hB_q hv_q _ (by omega)) (fun σ n h_q => ?_)
    obtain ⟨rfl, F1, A1, hM_q, hF1, hF2, hA1, hf1, hT_q⟩ := h_q
    have hA_q := eqx.tr (A := A) (L := [6, 7, 8, 9, 10, 11, 12, 13]) (by repeat (first | assumption | exact eqx.rf | refine eqx.up ?_ (by decide))) (hA1.wk (by decide))
    have hf_q := hf_q.tr hf1
    have hlen := twK_28 (K := K) (s := s) (j := j1_q) hP8
    refine go_aload_n (pc := 17) dX8_sure_17 rfl ?_
    refine go_getf (pc := 18) f_X8_455 dX8_sure_18 (by first | exact mo0 hM_q | exact mo1 hM_q | exact mo6 hM_q | exact mo7 hM_q | exact mo8 hM_q | exact mo2 hM_q | exact mo3 hM_q | exact mo4 hM_q | exact mo5 hM_q | exact mo9 hM_q | exact mo10 hM_q | exact mo11 hM_q | exact mo12 hM_q | exact mo13 hM_q | exact mo14 hM_q | exact mo15 hM_q | exact mo16 hM_q) (by rfl) ?_
    rw [hF1]
    refine go_if_ne (tgt := 28) (pc := 21) dX8_sure_21 (by decide) (fun h_21 => ?_) (fun h_21 => ?_)
    · refine go_iconst (v := 1) (pc := 28) dX8_sure_28 (by decide) ?_
      refine go_aload_n (pc := 29) dX8_sure_29 rfl ?_
      refine go_V0P (pc := 30) v_X8_242 rfl rfl (rcv_of (ci := 8) (by first | exact mo0 hM_q | exact mo1 hM_q | exact mo6 hM_q | exact mo7 hM_q | exact mo8 hM_q | exact mo2 hM_q | exact mo3 hM_q | exact mo4 hM_q | exact mo5 hM_q | exact mo9 hM_q | exact mo10 hM_q | exact mo11 hM_q | exact mo12 hM_q | exact mo13 hM_q | exact mo14 hM_q | exact mo15 hM_q | exact mo16 hM_q) rfl) dX8_sure_30 (sp_people (k := k - 1) hM_q) ?_
      refine go_ishl (pc := 33) dX8_sure_33 ?_
      refine go_iconst (v := 1) (pc := 34) dX8_sure_34 (by decide) ?_
      refine go_isub (pc := 35) dX8_sure_35 ?_
      refine go_istore_n (lw := [_, _, _, _, _]) (pc := 36) dX8_sure_36 (by decide) rfl ?_
      refine go_iconst (v := 0) (pc := 37) dX8_sure_37 (by decide) ?_
      refine go_istore (lw := [_, _, _, _, _]) (pc := 38) dX8_sure_38 (by decide) rfl ?_
      refine go_iter ((twK K s j1_q).length) (fun i_q lv9 s9 n9 => ∃ (x3_q : Int32), ∃ A9_q, lv9 = [some (.ref r), some (.int s), some (.int (nI j1_q)), some (.int x3_q), some (.int (nI i_q))] ∧ (MoAt Γ s9 r F1 K A9_q Nm) ∧ (eqx [6, 7, 8, 9, 10, 11, 12, 13] A A9_q) ∧ (fr r (r + 16) z0 s9) ∧ (twJ K j1_q (twK K s j1_q) (A9_q 12) (A9_q 13)) ∧ (surI (twK K s j1_q) ((twK K s j1_q).length - i_q) i_q x3_q = surK K (twK K s j1_q)) ∧ n = n9) ⟨_, _, rfl, hM_q, hA_q, hf_q, hT_q, (by rw [surK]; congr 1; first | exact (if_pos ((nI_eq (b := 0) (by omega) (by decide)).mp h_21)).symm | exact (if_neg (fun hc_q => h_21 (by rw [hc_q]; rfl))).symm), rfl⟩ ?_ ?_
      · rintro i_q lv9 σ n9 hi_q ⟨x3_q, A9_q, rfl, hM_q, hA_q, hf_q, hT_q, hR_q, rfl⟩ ih_q
        refine go_iload (pc := 40) dX8_sure_40 rfl ?_
        refine go_aload_n (pc := 42) dX8_sure_42 rfl ?_
        refine go_getf (pc := 43) f_X8_455 dX8_sure_43 (by first | exact mo0 hM_q | exact mo1 hM_q | exact mo6 hM_q | exact mo7 hM_q | exact mo8 hM_q | exact mo2 hM_q | exact mo3 hM_q | exact mo4 hM_q | exact mo5 hM_q | exact mo9 hM_q | exact mo10 hM_q | exact mo11 hM_q | exact mo12 hM_q | exact mo13 hM_q | exact mo14 hM_q | exact mo15 hM_q | exact mo16 hM_q) (by rfl) ?_
        rw [hF1]
        refine go_icmp_ge (tgt := 83) (pc := 46) dX8_sure_46 (by decide) (fun h_46 => by exfalso; exact absurd h_46 (nI_ge (by omega) (by omega))) (fun h_46 => ?_)
        refine go_iload_n (pc := 49) dX8_sure_49 rfl ?_
        refine go_iconst (v := 1) (pc := 50) dX8_sure_50 (by decide) ?_
        refine go_aload_n (pc := 51) dX8_sure_51 rfl ?_
        refine go_getf (pc := 52) f_X8_48 dX8_sure_52 (by first | exact mo0 hM_q | exact mo1 hM_q | exact mo6 hM_q | exact mo7 hM_q | exact mo8 hM_q | exact mo2 hM_q | exact mo3 hM_q | exact mo4 hM_q | exact mo5 hM_q | exact mo9 hM_q | exact mo10 hM_q | exact mo11 hM_q | exact mo12 hM_q | exact mo13 hM_q | exact mo14 hM_q | exact mo15 hM_q | exact mo16 hM_q) (by rfl) ?_
        refine go_iload (pc := 55) dX8_sure_55 rfl ?_
        refine go_iald (pc := 57) dX8_sure_57 (by first | exact mo0 hM_q | exact mo1 hM_q | exact mo6 hM_q | exact mo7 hM_q | exact mo8 hM_q | exact mo2 hM_q | exact mo3 hM_q | exact mo4 hM_q | exact mo5 hM_q | exact mo9 hM_q | exact mo10 hM_q | exact mo11 hM_q | exact mo12 hM_q | exact mo13 hM_q | exact mo14 hM_q | exact mo15 hM_q | exact mo16 hM_q) (by exact ⟨rfl, by omega⟩) ?_
        have hat := twK_at hP8 hi_q
        rw [(hT_q i_q hi_q).1]
        refine go_bipush (v := 10) (pc := 58) dX8_sure_58 (by decide) ?_
        refine go_idiv (pc := 60) dX8_sure_60 (by decide) ?_
        rw [tw_div hat.1]
        refine go_ishl (pc := 61) dX8_sure_61 ?_
        refine go_iconst (v := 1) (pc := 62) dX8_sure_62 (by decide) ?_
        refine go_aload_n (pc := 63) dX8_sure_63 rfl ?_
        refine go_getf (pc := 64) f_X8_48 dX8_sure_64 (by first | exact mo0 hM_q | exact mo1 hM_q | exact mo6 hM_q | exact mo7 hM_q | exact mo8 hM_q | exact mo2 hM_q | exact mo3 hM_q | exact mo4 hM_q | exact mo5 hM_q | exact mo9 hM_q | exact mo10 hM_q | exact mo11 hM_q | exact mo12 hM_q | exact mo13 hM_q | exact mo14 hM_q | exact mo15 hM_q | exact mo16 hM_q) (by rfl) ?_
        refine go_iload (pc := 67) dX8_sure_67 rfl ?_
        refine go_iald (pc := 69) dX8_sure_69 (by first | exact mo0 hM_q | exact mo1 hM_q | exact mo6 hM_q | exact mo7 hM_q | exact mo8 hM_q | exact mo2 hM_q | exact mo3 hM_q | exact mo4 hM_q | exact mo5 hM_q | exact mo9 hM_q | exact mo10 hM_q | exact mo11 hM_q | exact mo12 hM_q | exact mo13 hM_q | exact mo14 hM_q | exact mo15 hM_q | exact mo16 hM_q) (by exact ⟨rfl, by omega⟩) ?_
        rw [(hT_q i_q hi_q).1]
        refine go_bipush (v := 10) (pc := 70) dX8_sure_70 (by decide) ?_
        refine go_irem (pc := 72) dX8_sure_72 (by decide) ?_
        rw [tw_rem hat.1]
        refine go_ishl (pc := 73) dX8_sure_73 ?_
        refine go_ior (pc := 74) dX8_sure_74 ?_
        refine go_iand (pc := 75) dX8_sure_75 ?_
        refine go_istore_n (lw := [_, _, _, _, _]) (pc := 76) dX8_sure_76 (by decide) rfl ?_
        refine go_iinc (v := 1) (lw := [_, _, _, _, _]) (pc := 77) dX8_sure_77 rfl (by decide) (by decide) rfl ?_
        refine go_goto (tgt := 40) (pc := 80) dX8_sure_80 (by decide) ?_
        rw [nI_1]
        exact ih_q _ _ _ ⟨_, _, rfl, hM_q, hA_q, hf_q, hT_q, (by rw [← hR_q, surI_step hi_q]; rfl), rfl⟩
      · rintro lv9 σ n9 ⟨x3_q, A9_q, rfl, hM_q, hA_q, hf_q, hT_q, hR_q, rfl⟩
        refine go_iload (pc := 40) dX8_sure_40 rfl ?_
        refine go_aload_n (pc := 42) dX8_sure_42 rfl ?_
        refine go_getf (pc := 43) f_X8_455 dX8_sure_43 (by first | exact mo0 hM_q | exact mo1 hM_q | exact mo6 hM_q | exact mo7 hM_q | exact mo8 hM_q | exact mo2 hM_q | exact mo3 hM_q | exact mo4 hM_q | exact mo5 hM_q | exact mo9 hM_q | exact mo10 hM_q | exact mo11 hM_q | exact mo12 hM_q | exact mo13 hM_q | exact mo14 hM_q | exact mo15 hM_q | exact mo16 hM_q) (by rfl) ?_
        rw [hF1]
        refine go_icmp_ge (tgt := 83) (pc := 46) dX8_sure_46 (by decide) (fun h_46 => ?_) (fun h_46 => by exfalso; exact h_46 (nI_le (by omega) (by omega)))
        refine go_iload_n (pc := 83) dX8_sure_83 rfl ?_
        exact go_iretI (pc := 84) rfl dX8_sure_84 (Nat.le_of_ble_eq_true rfl) (Nat.le_of_ble_eq_true rfl) ⟨(by rw [aSure, h0_q, e2_q, ← hR_q, Nat.sub_self]; rfl), rfl, _, _, hM_q, ⟨(by rw [hF2 4 (by decide), pk_us]; rw [aSure, h0_q]; rfl), fun j h1_q h2_q h3_q => by rw [hF2 j h3_q, pk_un h1_q]⟩, hA_q, hf_q⟩
    · refine go_iconst (v := 0) (pc := 24) dX8_sure_24 (by decide) ?_
      refine go_goto (tgt := 36) (pc := 25) dX8_sure_25 (by decide) ?_
      refine go_istore_n (lw := [_, _, _, _, _]) (pc := 36) dX8_sure_36 (by decide) rfl ?_
      refine go_iconst (v := 0) (pc := 37) dX8_sure_37 (by decide) ?_
      refine go_istore (lw := [_, _, _, _, _]) (pc := 38) dX8_sure_38 (by decide) rfl ?_
      refine go_iter ((twK K s j1_q).length) (fun i_q lv9 s9 n9 => ∃ (x3_q : Int32), ∃ A9_q, lv9 = [some (.ref r), some (.int s), some (.int (nI j1_q)), some (.int x3_q), some (.int (nI i_q))] ∧ (MoAt Γ s9 r F1 K A9_q Nm) ∧ (eqx [6, 7, 8, 9, 10, 11, 12, 13] A A9_q) ∧ (fr r (r + 16) z0 s9) ∧ (twJ K j1_q (twK K s j1_q) (A9_q 12) (A9_q 13)) ∧ (surI (twK K s j1_q) ((twK K s j1_q).length - i_q) i_q x3_q = surK K (twK K s j1_q)) ∧ n = n9) ⟨_, _, rfl, hM_q, hA_q, hf_q, hT_q, (by rw [surK]; congr 1; first | exact (if_pos ((nI_eq (b := 0) (by omega) (by decide)).mp h_21)).symm | exact (if_neg (fun hc_q => h_21 (by rw [hc_q]; rfl))).symm), rfl⟩ ?_ ?_
      · rintro i_q lv9 σ n9 hi_q ⟨x3_q, A9_q, rfl, hM_q, hA_q, hf_q, hT_q, hR_q, rfl⟩ ih_q
        refine go_iload (pc := 40) dX8_sure_40 rfl ?_
        refine go_aload_n (pc := 42) dX8_sure_42 rfl ?_
        refine go_getf (pc := 43) f_X8_455 dX8_sure_43 (by first | exact mo0 hM_q | exact mo1 hM_q | exact mo6 hM_q | exact mo7 hM_q | exact mo8 hM_q | exact mo2 hM_q | exact mo3 hM_q | exact mo4 hM_q | exact mo5 hM_q | exact mo9 hM_q | exact mo10 hM_q | exact mo11 hM_q | exact mo12 hM_q | exact mo13 hM_q | exact mo14 hM_q | exact mo15 hM_q | exact mo16 hM_q) (by rfl) ?_
        rw [hF1]
        refine go_icmp_ge (tgt := 83) (pc := 46) dX8_sure_46 (by decide) (fun h_46 => by exfalso; exact absurd h_46 (nI_ge (by omega) (by omega))) (fun h_46 => ?_)
        refine go_iload_n (pc := 49) dX8_sure_49 rfl ?_
        refine go_iconst (v := 1) (pc := 50) dX8_sure_50 (by decide) ?_
        refine go_aload_n (pc := 51) dX8_sure_51 rfl ?_
        refine go_getf (pc := 52) f_X8_48 dX8_sure_52 (by first | exact mo0 hM_q | exact mo1 hM_q | exact mo6 hM_q | exact mo7 hM_q | exact mo8 hM_q | exact mo2 hM_q | exact mo3 hM_q | exact mo4 hM_q | exact mo5 hM_q | exact mo9 hM_q | exact mo10 hM_q | exact mo11 hM_q | exact mo12 hM_q | exact mo13 hM_q | exact mo14 hM_q | exact mo15 hM_q | exact mo16 hM_q) (by rfl) ?_
        refine go_iload (pc := 55) dX8_sure_55 rfl ?_
        refine go_iald (pc := 57) dX8_sure_57 (by first | exact mo0 hM_q | exact mo1 hM_q | exact mo6 hM_q | exact mo7 hM_q | exact mo8 hM_q | exact mo2 hM_q | exact mo3 hM_q | exact mo4 hM_q | exact mo5 hM_q | exact mo9 hM_q | exact mo10 hM_q | exact mo11 hM_q | exact mo12 hM_q | exact mo13 hM_q | exact mo14 hM_q | exact mo15 hM_q | exact mo16 hM_q) (by exact ⟨rfl, by omega⟩) ?_
        have hat := twK_at hP8 hi_q
        rw [(hT_q i_q hi_q).1]
        refine go_bipush (v := 10) (pc := 58) dX8_sure_58 (by decide) ?_
        refine go_idiv (pc := 60) dX8_sure_60 (by decide) ?_
        rw [tw_div hat.1]
        refine go_ishl (pc := 61) dX8_sure_61 ?_
        refine go_iconst (v := 1) (pc := 62) dX8_sure_62 (by decide) ?_
        refine go_aload_n (pc := 63) dX8_sure_63 rfl ?_
        refine go_getf (pc := 64) f_X8_48 dX8_sure_64 (by first | exact mo0 hM_q | exact mo1 hM_q | exact mo6 hM_q | exact mo7 hM_q | exact mo8 hM_q | exact mo2 hM_q | exact mo3 hM_q | exact mo4 hM_q | exact mo5 hM_q | exact mo9 hM_q | exact mo10 hM_q | exact mo11 hM_q | exact mo12 hM_q | exact mo13 hM_q | exact mo14 hM_q | exact mo15 hM_q | exact mo16 hM_q) (by rfl) ?_
        refine go_iload (pc := 67) dX8_sure_67 rfl ?_
        refine go_iald (pc := 69) dX8_sure_69 (by first | exact mo0 hM_q | exact mo1 hM_q | exact mo6 hM_q | exact mo7 hM_q | exact mo8 hM_q | exact mo2 hM_q | exact mo3 hM_q | exact mo4 hM_q | exact mo5 hM_q | exact mo9 hM_q | exact mo10 hM_q | exact mo11 hM_q | exact mo12 hM_q | exact mo13 hM_q | exact mo14 hM_q | exact mo15 hM_q | exact mo16 hM_q) (by exact ⟨rfl, by omega⟩) ?_
        rw [(hT_q i_q hi_q).1]
        refine go_bipush (v := 10) (pc := 70) dX8_sure_70 (by decide) ?_
        refine go_irem (pc := 72) dX8_sure_72 (by decide) ?_
        rw [tw_rem hat.1]
        refine go_ishl (pc := 73) dX8_sure_73 ?_
        refine go_ior (pc := 74) dX8_sure_74 ?_
        refine go_iand (pc := 75) dX8_sure_75 ?_
        refine go_istore_n (lw := [_, _, _, _, _]) (pc := 76) dX8_sure_76 (by decide) rfl ?_
        refine go_iinc (v := 1) (lw := [_, _, _, _, _]) (pc := 77) dX8_sure_77 rfl (by decide) (by decide) rfl ?_
        refine go_goto (tgt := 40) (pc := 80) dX8_sure_80 (by decide) ?_
        rw [nI_1]
        exact ih_q _ _ _ ⟨_, _, rfl, hM_q, hA_q, hf_q, hT_q, (by rw [← hR_q, surI_step hi_q]; rfl), rfl⟩
      · rintro lv9 σ n9 ⟨x3_q, A9_q, rfl, hM_q, hA_q, hf_q, hT_q, hR_q, rfl⟩
        refine go_iload (pc := 40) dX8_sure_40 rfl ?_
        refine go_aload_n (pc := 42) dX8_sure_42 rfl ?_
        refine go_getf (pc := 43) f_X8_455 dX8_sure_43 (by first | exact mo0 hM_q | exact mo1 hM_q | exact mo6 hM_q | exact mo7 hM_q | exact mo8 hM_q | exact mo2 hM_q | exact mo3 hM_q | exact mo4 hM_q | exact mo5 hM_q | exact mo9 hM_q | exact mo10 hM_q | exact mo11 hM_q | exact mo12 hM_q | exact mo13 hM_q | exact mo14 hM_q | exact mo15 hM_q | exact mo16 hM_q) (by rfl) ?_
        rw [hF1]
        refine go_icmp_ge (tgt := 83) (pc := 46) dX8_sure_46 (by decide) (fun h_46 => ?_) (fun h_46 => by exfalso; exact h_46 (nI_le (by omega) (by omega)))
        refine go_iload_n (pc := 83) dX8_sure_83 rfl ?_
        exact go_iretI (pc := 84) rfl dX8_sure_84 (Nat.le_of_ble_eq_true rfl) (Nat.le_of_ble_eq_true rfl) ⟨(by rw [aSure, h0_q, e2_q, ← hR_q, Nat.sub_self]; rfl), rfl, _, _, hM_q, ⟨(by rw [hF2 4 (by decide), pk_us]; rw [aSure, h0_q]; rfl), fun j h1_q h2_q h3_q => by rw [hF2 j h3_q, pk_un h1_q]⟩, hA_q, hf_q⟩
theorem sp_look {Γ : gam} {z0 : sto} {n k r : Nat} {F K : row} {A : Nat → row} {Nm : Nat → Int64} (hM_q : MoAt Γ z0 r F K A Nm) (hk : 14 ≤ k) (hB_q : okB K) (hv_q : vS K) (s z : Int32) : Sp Γ (rmk k 0 0) uX8_look [.ref r, .int s, .int z] z0 n (qI fun v σ' n' => v = (aLook K s z.toInt).2 ∧ apJ Γ r F K A Nm z0 n (aLook K s z.toInt).1 σ' n') := by
  have hP8 := hB_q.1.2.1
  have hH5 := hB_q.1.2.2.2.1
  have hW4 := hB_q.1.2.2.2.2.2
  have hA_q : eqx [6, 7, 8, 9, 10, 11, 12, 13] A A := eqx.rf
  have hf_q : fr r (r + 16) z0 z0 := fr.rf
  refine sp_intro [some (.ref r), some (.int s), some (.int z), none, none, none] (by decide +kernel) rfl (Nat.le_of_ble_eq_true rfl) rfl ?_
  rcases chT_c (K := K) (s := s) (z := z.toInt) with h0_q | ⟨h0_q, hs, j1_q, hz_q⟩
  · refine go_aload_n (pc := 0) dX8_look_0 rfl ?_
    refine go_iload_n (pc := 1) dX8_look_1 rfl ?_
    refine go_iload_n (pc := 2) dX8_look_2 rfl ?_
    refine go_V2I (pc := 3) v_X8_461 rfl rfl (rcv_of (ci := 8) (by first | exact mo0 hM_q | exact mo1 hM_q | exact mo6 hM_q | exact mo7 hM_q | exact mo8 hM_q | exact mo2 hM_q | exact mo3 hM_q | exact mo4 hM_q | exact mo5 hM_q | exact mo9 hM_q | exact mo10 hM_q | exact mo11 hM_q | exact mo12 hM_q | exact mo13 hM_q | exact mo14 hM_q | exact mo15 hM_q | exact mo16 hM_q) rfl) dX8_look_3 (sp_isChangedOut (k := k - 1) hM_q (by omega) hB_q _ _) (fun v_3 σ n h_q => ?_)
    obtain ⟨rfl, rfl, A1, hM_q, hA1, hf1⟩ := h_q
    have hA_q := eqx.tr (A := A) (L := [6, 7, 8, 9, 10, 11, 12, 13]) (by repeat (first | assumption | exact eqx.rf | refine eqx.up ?_ (by decide))) (hA1.wk (by decide))
    have hf_q := hf_q.tr hf1
    rw [h0_q]
    rw [h0_q] at hM_q
    refine go_if_eq (tgt := 11) (pc := 6) dX8_look_6 (by decide) (fun h_6 => by exfalso; exact absurd h_6 (by decide)) (fun h_6 => ?_)
    refine go_iconst (v := 0) (pc := 9) dX8_look_9 (by decide) ?_
    exact go_iretI (pc := 10) rfl dX8_look_10 (Nat.le_of_ble_eq_true rfl) (Nat.le_of_ble_eq_true rfl) ⟨(by rw [aLook, h0_q]; rfl), rfl, _, _, hM_q, ⟨(by rw [aLook, h0_q]; rfl), fun j h1_q h2_q h3_q => by simp [upd, h1_q, h2_q, h3_q]⟩, (by repeat (first | assumption | exact eqx.rf | refine eqx.up ?_ (by decide))), hf_q⟩
  · have hz1 := rN_some hz_q
    have e1_q := hz1.1
    obtain rfl := I_nat e1_q (by omega)
    have e2_q : (nI j1_q).toInt.toNat = j1_q := by rw [e1_q]; rfl
    by_cases hl0 : (twK K s j1_q).length = 0
    · refine go_aload_n (pc := 0) dX8_look_0 rfl ?_
      refine go_iload_n (pc := 1) dX8_look_1 rfl ?_
      refine go_iload_n (pc := 2) dX8_look_2 rfl ?_
      refine go_V2I (pc := 3) v_X8_461 rfl rfl (rcv_of (ci := 8) (by first | exact mo0 hM_q | exact mo1 hM_q | exact mo6 hM_q | exact mo7 hM_q | exact mo8 hM_q | exact mo2 hM_q | exact mo3 hM_q | exact mo4 hM_q | exact mo5 hM_q | exact mo9 hM_q | exact mo10 hM_q | exact mo11 hM_q | exact mo12 hM_q | exact mo13 hM_q | exact mo14 hM_q | exact mo15 hM_q | exact mo16 hM_q) rfl) dX8_look_3 (sp_isChangedOut (k := k - 1) hM_q (by omega) hB_q _ _) (fun v_3 σ n h_q => ?_)
      obtain ⟨rfl, rfl, A1, hM_q, hA1, hf1⟩ := h_q
      have hA_q := eqx.tr (A := A) (L := [6, 7, 8, 9, 10, 11, 12, 13]) (by repeat (first | assumption | exact eqx.rf | refine eqx.up ?_ (by decide))) (hA1.wk (by decide))
      have hf_q := hf_q.tr hf1
      rw [h0_q]
      rw [h0_q] at hM_q
      refine go_if_eq (tgt := 11) (pc := 6) dX8_look_6 (by decide) (fun h_6 => ?_) (fun h_6 => by exfalso; exact h_6 (by decide))
      refine go_aload_n (pc := 11) dX8_look_11 rfl ?_
      refine go_iload_n (pc := 12) dX8_look_12 rfl ?_
      refine go_iload_n (pc := 13) dX8_look_13 rfl ?_
      refine go_V2V (pc := 14) v_X8_464 rfl rfl (rcv_of (ci := 8) (by first | exact mo0 hM_q | exact mo1 hM_q | exact mo6 hM_q | exact mo7 hM_q | exact mo8 hM_q | exact mo2 hM_q | exact mo3 hM_q | exact mo4 hM_q | exact mo5 hM_q | exact mo9 hM_q | exact mo10 hM_q | exact mo11 hM_q | exact mo12 hM_q | exact mo13 hM_q | exact mo14 hM_q | exact mo15 hM_q | exact mo16 hM_q) rfl) dX8_look_14 (sp_laysTwos (k := k - 1) hM_q (by omega) hB_q hv_q _ (by omega)) (fun σ n h_q => ?_)
      obtain ⟨rfl, F1, A1, hM_q, hF1, hF2, hA1, hf1, hT_q⟩ := h_q
      have hA_q := eqx.tr (A := A) (L := [6, 7, 8, 9, 10, 11, 12, 13]) (by repeat (first | assumption | exact eqx.rf | refine eqx.up ?_ (by decide))) (hA1.wk (by decide))
      have hf_q := hf_q.tr hf1
      have hlen := twK_28 (K := K) (s := s) (j := j1_q) hP8
      refine go_iconst (v := -1) (pc := 17) dX8_look_17 (by decide) ?_
      refine go_istore_n (lw := [_, _, _, _, _, _]) (pc := 18) dX8_look_18 (by decide) rfl ?_
      refine go_ldcw (pc := 19) kw8_192 dX8_look_19 ?_
      refine go_istore (lw := [_, _, _, _, _, _]) (pc := 22) dX8_look_22 (by decide) rfl ?_
      refine go_iconst (v := 0) (pc := 24) dX8_look_24 (by decide) ?_
      refine go_istore (lw := [_, _, _, _, _, _]) (pc := 25) dX8_look_25 (by decide) rfl ?_
      refine go_iload (pc := 27) dX8_look_27 rfl ?_
      refine go_aload_n (pc := 29) dX8_look_29 rfl ?_
      refine go_V0P (pc := 30) v_X8_242 rfl rfl (rcv_of (ci := 8) (by first | exact mo0 hM_q | exact mo1 hM_q | exact mo6 hM_q | exact mo7 hM_q | exact mo8 hM_q | exact mo2 hM_q | exact mo3 hM_q | exact mo4 hM_q | exact mo5 hM_q | exact mo9 hM_q | exact mo10 hM_q | exact mo11 hM_q | exact mo12 hM_q | exact mo13 hM_q | exact mo14 hM_q | exact mo15 hM_q | exact mo16 hM_q) rfl) dX8_look_30 (sp_people (k := k - 1) hM_q) ?_
      refine go_icmp_ge (tgt := 74) (pc := 33) dX8_look_33 (by decide) (fun h_33 => ?_) (fun h_33 => ?_)
      · refine go_iload_n (pc := 74) dX8_look_74 rfl ?_
        exact go_iretI (pc := 75) rfl dX8_look_75 (Nat.le_of_ble_eq_true rfl) (Nat.le_of_ble_eq_true rfl) ⟨(by rw [aLook, h0_q, e2_q]; exact (if_pos hl0).symm), rfl, _, _, hM_q, ⟨(by rw [hF2 4 (by decide), pk_us]; rw [aLook, h0_q]; rfl), fun j h1_q h2_q h3_q => by rw [hF2 j h3_q, pk_un h1_q]⟩, hA_q, hf_q⟩
      · refine go_aload_n (pc := 36) dX8_look_36 rfl ?_
        refine go_getf (pc := 37) f_X8_455 dX8_look_37 (by first | exact mo0 hM_q | exact mo1 hM_q | exact mo6 hM_q | exact mo7 hM_q | exact mo8 hM_q | exact mo2 hM_q | exact mo3 hM_q | exact mo4 hM_q | exact mo5 hM_q | exact mo9 hM_q | exact mo10 hM_q | exact mo11 hM_q | exact mo12 hM_q | exact mo13 hM_q | exact mo14 hM_q | exact mo15 hM_q | exact mo16 hM_q) (by rfl) ?_
        rw [hF1, hl0]
        refine go_if_le (tgt := 74) (pc := 40) dX8_look_40 (by decide) (fun h_40 => ?_) (fun h_40 => by exfalso; exact h_40 (by decide))
        refine go_iload_n (pc := 74) dX8_look_74 rfl ?_
        exact go_iretI (pc := 75) rfl dX8_look_75 (Nat.le_of_ble_eq_true rfl) (Nat.le_of_ble_eq_true rfl) ⟨(by rw [aLook, h0_q, e2_q]; exact (if_pos hl0).symm), rfl, _, _, hM_q, ⟨(by rw [hF2 4 (by decide), pk_us]; rw [aLook, h0_q]; rfl), fun j h1_q h2_q h3_q => by rw [hF2 j h3_q, pk_un h1_q]⟩, hA_q, hf_q⟩
    · refine go_aload_n (pc := 0) dX8_look_0 rfl ?_
      refine go_iload_n (pc := 1) dX8_look_1 rfl ?_
      refine go_iload_n (pc := 2) dX8_look_2 rfl ?_
      refine go_V2I (pc := 3) v_X8_461 rfl rfl (rcv_of (ci := 8) (by first | exact mo0 hM_q | exact mo1 hM_q | exact mo6 hM_q | exact mo7 hM_q | exact mo8 hM_q | exact mo2 hM_q | exact mo3 hM_q | exact mo4 hM_q | exact mo5 hM_q | exact mo9 hM_q | exact mo10 hM_q | exact mo11 hM_q | exact mo12 hM_q | exact mo13 hM_q | exact mo14 hM_q | exact mo15 hM_q | exact mo16 hM_q) rfl) dX8_look_3 (sp_isChangedOut (k := k - 1) hM_q (by omega) hB_q _ _) (fun v_3 σ n h_q => ?_)
      obtain ⟨rfl, rfl, A1, hM_q, hA1, hf1⟩ := h_q
      have hA_q := eqx.tr (A := A) (L := [6, 7, 8, 9, 10, 11, 12, 13]) (by repeat (first | assumption | exact eqx.rf | refine eqx.up ?_ (by decide))) (hA1.wk (by decide))
      have hf_q := hf_q.tr hf1
      rw [h0_q]
      rw [h0_q] at hM_q
      refine go_if_eq (tgt := 11) (pc := 6) dX8_look_6 (by decide) (fun h_6 => ?_) (fun h_6 => by exfalso; exact h_6 (by decide))
      refine go_aload_n (pc := 11) dX8_look_11 rfl ?_
      refine go_iload_n (pc := 12) dX8_look_12 rfl ?_
      refine go_iload_n (pc := 13) dX8_look_13 rfl ?_
      refine go_V2V (pc := 14) v_X8_464 rfl rfl (rcv_of (ci := 8) (by first | exact mo0 hM_q | exact mo1 hM_q | exact mo6 hM_q | exact mo7 hM_q | exact mo8 hM_q | exact mo2 hM_q | exact mo3 hM_q | exact mo4 hM_q | exact mo5 hM_q | exact mo9 hM_q | exact mo10 hM_q | exact mo11 hM_q | exact mo12 hM_q | exact mo13 hM_q | exact mo14 hM_q | exact mo15 hM_q | exact mo16 hM_q) rfl) dX8_look_14 (sp_laysTwos (k := k - 1) hM_q (by omega) hB_q hv_q _ (by omega)) (fun σ n h_q => ?_)
      obtain ⟨rfl, F1, A1, hM_q, hF1, hF2, hA1, hf1, hT_q⟩ := h_q
      have hA_q := eqx.tr (A := A) (L := [6, 7, 8, 9, 10, 11, 12, 13]) (by repeat (first | assumption | exact eqx.rf | refine eqx.up ?_ (by decide))) (hA1.wk (by decide))
      have hf_q := hf_q.tr hf1
      have hlen := twK_28 (K := K) (s := s) (j := j1_q) hP8
      refine go_iconst (v := -1) (pc := 17) dX8_look_17 (by decide) ?_
      refine go_istore_n (lw := [_, _, _, _, _, _]) (pc := 18) dX8_look_18 (by decide) rfl ?_
      refine go_ldcw (pc := 19) kw8_192 dX8_look_19 ?_
      refine go_istore (lw := [_, _, _, _, _, _]) (pc := 22) dX8_look_22 (by decide) rfl ?_
      refine go_iconst (v := 0) (pc := 24) dX8_look_24 (by decide) ?_
      refine go_istore (lw := [_, _, _, _, _, _]) (pc := 25) dX8_look_25 (by decide) rfl ?_
      refine go_iter (kP K) (fun i_q lv9 s9 n9 => ∃ (b9_q : Int32), ∃ (x9_q : Int32), ∃ A9_q, lv9 = [some (.ref r), some (.int s), some (.int (nI j1_q)), some (.int b9_q), some (.int x9_q), some (.int (nI i_q))] ∧ (MoAt Γ s9 r F1 K A9_q Nm) ∧ (eqx [6, 7, 8, 9, 10, 11, 12, 13] A A9_q) ∧ (fr r (r + 16) z0 s9) ∧ (twJ K j1_q (twK K s j1_q) (A9_q 12) (A9_q 13)) ∧ (argn (mosK K j1_q (twK K s j1_q)) (kP K - i_q) i_q b9_q x9_q = lokK K j1_q (twK K s j1_q)) ∧ n = n9) ⟨(-1), 536870912, _, rfl, hM_q, hA_q, hf_q, hT_q, (if_neg hl0).symm, rfl⟩ ?_ ?_
      · rintro i_q lv9 σ n9 hi_q ⟨b9_q, x9_q, A9_q, rfl, hM_q, hA_q, hf_q, hT_q, hR_q, rfl⟩ ih_q
        refine go_iload (pc := 27) dX8_look_27 rfl ?_
        refine go_aload_n (pc := 29) dX8_look_29 rfl ?_
        refine go_V0P (pc := 30) v_X8_242 rfl rfl (rcv_of (ci := 8) (by first | exact mo0 hM_q | exact mo1 hM_q | exact mo6 hM_q | exact mo7 hM_q | exact mo8 hM_q | exact mo2 hM_q | exact mo3 hM_q | exact mo4 hM_q | exact mo5 hM_q | exact mo9 hM_q | exact mo10 hM_q | exact mo11 hM_q | exact mo12 hM_q | exact mo13 hM_q | exact mo14 hM_q | exact mo15 hM_q | exact mo16 hM_q) rfl) dX8_look_30 (sp_people (k := k - 1) hM_q) ?_
        rw [hB_q.1.1]
        refine go_icmp_ge (tgt := 74) (pc := 33) dX8_look_33 (by decide) (fun h_33 => by exfalso; exact absurd h_33 (nI_ge (by omega) (by omega))) (fun h_33 => ?_)
        refine go_aload_n (pc := 36) dX8_look_36 rfl ?_
        refine go_getf (pc := 37) f_X8_455 dX8_look_37 (by first | exact mo0 hM_q | exact mo1 hM_q | exact mo6 hM_q | exact mo7 hM_q | exact mo8 hM_q | exact mo2 hM_q | exact mo3 hM_q | exact mo4 hM_q | exact mo5 hM_q | exact mo9 hM_q | exact mo10 hM_q | exact mo11 hM_q | exact mo12 hM_q | exact mo13 hM_q | exact mo14 hM_q | exact mo15 hM_q | exact mo16 hM_q) (by rfl) ?_
        rw [hF1]
        refine go_if_le (tgt := 74) (pc := 40) dX8_look_40 (by decide) (fun h_40 => by exfalso; exact absurd h_40 (nI_nle (by omega) (by omega))) (fun h_40 => ?_)
        refine go_aload_n (pc := 43) dX8_look_43 rfl ?_
        refine go_iload (pc := 44) dX8_look_44 rfl ?_
        refine go_V1P (pc := 46) v_X8_468 rfl rfl (rcv_of (ci := 8) (by first | exact mo0 hM_q | exact mo1 hM_q | exact mo6 hM_q | exact mo7 hM_q | exact mo8 hM_q | exact mo2 hM_q | exact mo3 hM_q | exact mo4 hM_q | exact mo5 hM_q | exact mo9 hM_q | exact mo10 hM_q | exact mo11 hM_q | exact mo12 hM_q | exact mo13 hM_q | exact mo14 hM_q | exact mo15 hM_q | exact mo16 hM_q) rfl) dX8_look_46 (sp_mostAlike (k := k - 1) hM_q (by omega) hP8 hi_q hF1 hlen hT_q) ?_
        refine go_iload (pc := 49) dX8_look_49 rfl ?_
        refine go_icmp_lt (tgt := 57) (pc := 51) dX8_look_51 (by decide) (fun h_51 => ?_) (fun h_51 => ?_)
        · refine go_iload (pc := 57) dX8_look_57 rfl ?_
          refine go_istore_n (lw := [_, _, _, _, _, _]) (pc := 59) dX8_look_59 (by decide) rfl ?_
          refine go_aload_n (pc := 60) dX8_look_60 rfl ?_
          refine go_iload (pc := 61) dX8_look_61 rfl ?_
          refine go_V1P (pc := 63) v_X8_468 rfl rfl (rcv_of (ci := 8) (by first | exact mo0 hM_q | exact mo1 hM_q | exact mo6 hM_q | exact mo7 hM_q | exact mo8 hM_q | exact mo2 hM_q | exact mo3 hM_q | exact mo4 hM_q | exact mo5 hM_q | exact mo9 hM_q | exact mo10 hM_q | exact mo11 hM_q | exact mo12 hM_q | exact mo13 hM_q | exact mo14 hM_q | exact mo15 hM_q | exact mo16 hM_q) rfl) dX8_look_63 (sp_mostAlike (k := k - 1) hM_q (by omega) hP8 hi_q hF1 hlen hT_q) ?_
          refine go_istore (lw := [_, _, _, _, _, _]) (pc := 66) dX8_look_66 (by decide) rfl ?_
          refine go_iinc (v := 1) (lw := [_, _, _, _, _, _]) (pc := 68) dX8_look_68 rfl (by decide) (by decide) rfl ?_
          refine go_goto (tgt := 27) (pc := 71) dX8_look_71 (by decide) ?_
          rw [nI_1]
          first
            | exact ih_q _ _ _ ⟨_, _, _, rfl, hM_q, hA_q, hf_q, hT_q, (by rw [← hR_q, argn_step hi_q, if_neg h_51]), rfl⟩
            | exact ih_q _ _ _ ⟨_, _, _, rfl, hM_q, hA_q, hf_q, hT_q, (by rw [← hR_q, argn_step hi_q, if_pos h_51]), rfl⟩
        · refine go_goto (tgt := 68) (pc := 54) dX8_look_54 (by decide) ?_
          refine go_iinc (v := 1) (lw := [_, _, _, _, _, _]) (pc := 68) dX8_look_68 rfl (by decide) (by decide) rfl ?_
          refine go_goto (tgt := 27) (pc := 71) dX8_look_71 (by decide) ?_
          rw [nI_1]
          first
            | exact ih_q _ _ _ ⟨_, _, _, rfl, hM_q, hA_q, hf_q, hT_q, (by rw [← hR_q, argn_step hi_q, if_neg h_51]), rfl⟩
            | exact ih_q _ _ _ ⟨_, _, _, rfl, hM_q, hA_q, hf_q, hT_q, (by rw [← hR_q, argn_step hi_q, if_pos h_51]), rfl⟩
      · rintro lv9 σ n9 ⟨b9_q, x9_q, A9_q, rfl, hM_q, hA_q, hf_q, hT_q, hR_q, rfl⟩
        refine go_iload (pc := 27) dX8_look_27 rfl ?_
        refine go_aload_n (pc := 29) dX8_look_29 rfl ?_
        refine go_V0P (pc := 30) v_X8_242 rfl rfl (rcv_of (ci := 8) (by first | exact mo0 hM_q | exact mo1 hM_q | exact mo6 hM_q | exact mo7 hM_q | exact mo8 hM_q | exact mo2 hM_q | exact mo3 hM_q | exact mo4 hM_q | exact mo5 hM_q | exact mo9 hM_q | exact mo10 hM_q | exact mo11 hM_q | exact mo12 hM_q | exact mo13 hM_q | exact mo14 hM_q | exact mo15 hM_q | exact mo16 hM_q) rfl) dX8_look_30 (sp_people (k := k - 1) hM_q) ?_
        rw [hB_q.1.1]
        refine go_icmp_ge (tgt := 74) (pc := 33) dX8_look_33 (by decide) (fun h_33 => ?_) (fun h_33 => by exfalso; exact h_33 (nI_le (by omega) (by omega)))
        refine go_iload_n (pc := 74) dX8_look_74 rfl ?_
        exact go_iretI (pc := 75) rfl dX8_look_75 (Nat.le_of_ble_eq_true rfl) (Nat.le_of_ble_eq_true rfl) ⟨(by rw [aLook, h0_q, e2_q, ← hR_q, Nat.sub_self]; rfl), rfl, _, _, hM_q, ⟨(by rw [hF2 4 (by decide), pk_us]; rw [aLook, h0_q]; rfl), fun j h1_q h2_q h3_q => by rw [hF2 j h3_q, pk_un h1_q]⟩, hA_q, hf_q⟩
