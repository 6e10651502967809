/-! ===== the reference: deeds ===== -/
theorem sp_fails {Γ : gam} {z0 : sto} {n k r : Nat} {F K : row} {A : Nat → row} {Nm : Nat → Int64} (hM : MoAt Γ z0 r F K A Nm) (x : Int32) : Sp Γ (rmk k 0 0) uX8_fails [.ref r, .int x] z0 n (qI fun v σ' n' => v = 0 ∧ moJ Γ r (upd F 4 x) K A Nm z0 n [] σ' n') := by
  have hf : fr r (r + 16) z0 z0 := fr.rf
  refine sp_intro [some (.ref r), some (.int x)] (by decide +kernel) rfl (Nat.le_of_ble_eq_true rfl) rfl ?_
  refine go_aload_n (pc := 0) dX8_fails_0 rfl ?_
  refine go_iload_n (pc := 1) dX8_fails_1 rfl ?_
  refine go_mpf4 (pc := 2) hM dX8_fails_2 (fun σ hM hf9 => ?_)
  have hf := hf.tr hf9
  refine go_iconst (v := 0) (pc := 5) dX8_fails_5 (by decide) ?_
  exact go_iretI (pc := 6) rfl dX8_fails_6 (Nat.le_of_ble_eq_true rfl) (Nat.le_of_ble_eq_true rfl) ⟨rfl, rfl, A, hM, eqx.rf, hf⟩
theorem sp_thrown {Γ : gam} {z0 : sto} {n k r : Nat} {F K : row} {A : Nat → row} {Nm : Nat → Int64} (hM : MoAt Γ z0 r F K A Nm)  : Sp Γ (rmk k 0 0) uX8_thrown [.ref r] z0 n (qP (F 4) z0 n) := by
  refine sp_intro [some (.ref r)] (by decide +kernel) rfl (Nat.le_of_ble_eq_true rfl) rfl ?_
  refine go_aload_n (pc := 0) dX8_thrown_0 rfl ?_
  refine go_getf (pc := 1) f_X8_64 dX8_thrown_1 (by first | exact mo0 hM | exact mo1 hM | exact mo6 hM | exact mo7 hM | exact mo8 hM | exact mo2 hM | exact mo3 hM | exact mo4 hM | exact mo5 hM | exact mo9 hM | exact mo10 hM | exact mo11 hM | exact mo12 hM | exact mo13 hM | exact mo14 hM | exact mo15 hM | exact mo16 hM) (by rfl) ?_
  exact go_iretP (pc := 4) rfl dX8_thrown_4 (Nat.le_of_ble_eq_true rfl) (Nat.le_of_ble_eq_true rfl) rfl
theorem sp_whyRise {Γ : gam} {z0 : sto} {n k r : Nat} {F K : row} {A : Nat → row} {Nm : Nat → Int64} (hM : MoAt Γ z0 r F K A Nm) (hk : 2 ≤ k) (hB : okB K) (z : Int64) : Sp Γ (rmk k 0 0) uX8_whyRise [.ref r, .long z] z0 n (qP (whyR K z.toInt) z0 n) := by
  have hP8 := hB.1.2.1
  have hH5 := hB.1.2.2.2.1
  have hW4 := hB.1.2.2.2.2.2
  refine sp_intro [some (.ref r), some (.long z), none] (by decide +kernel) rfl (Nat.le_of_ble_eq_true rfl) rfl ?_
  cases hz : pN (kP K) z.toInt with
  | none =>
    refine go_aload_n (pc := 0) dX8_whyRise_0 rfl ?_
    refine go_lload_n (pc := 1) dX8_whyRise_1 rfl ?_
    refine go_V1P (pc := 2) v_X8_310 rfl rfl (rcv_of (ci := 8) (by first | exact mo0 hM | exact mo1 hM | exact mo6 hM | exact mo7 hM | exact mo8 hM | exact mo2 hM | exact mo3 hM | exact mo4 hM | exact mo5 hM | exact mo9 hM | exact mo10 hM | exact mo11 hM | exact mo12 hM | exact mo13 hM | exact mo14 hM | exact mo15 hM | exact mo16 hM) rfl) dX8_whyRise_2 (sp_isPerson (k := k - 1) hM (by omega) _) ?_
    refine go_if_ne (tgt := 12) (pc := 5) dX8_whyRise_5 (by decide) (fun h_5 => by exfalso; exact h_5 (pers_no hB.1.1 (by omega) hz)) (fun h_5 => ?_)
    refine go_iconst (v := 1) (pc := 8) dX8_whyRise_8 (by decide) ?_
    refine go_goto (tgt := 39) (pc := 9) dX8_whyRise_9 (by decide) ?_
    exact go_iretP (pc := 39) rfl dX8_whyRise_39 (Nat.le_of_ble_eq_true rfl) (Nat.le_of_ble_eq_true rfl) (by simp [whyR, hz])
  | some j =>
    obtain ⟨e1, e2⟩ := pN_some hz
    obtain rfl := L_nat e1 (by omega)
    refine go_aload_n (pc := 0) dX8_whyRise_0 rfl ?_
    refine go_lload_n (pc := 1) dX8_whyRise_1 rfl ?_
    refine go_V1P (pc := 2) v_X8_310 rfl rfl (rcv_of (ci := 8) (by first | exact mo0 hM | exact mo1 hM | exact mo6 hM | exact mo7 hM | exact mo8 hM | exact mo2 hM | exact mo3 hM | exact mo4 hM | exact mo5 hM | exact mo9 hM | exact mo10 hM | exact mo11 hM | exact mo12 hM | exact mo13 hM | exact mo14 hM | exact mo15 hM | exact mo16 hM) rfl) dX8_whyRise_2 (sp_isPerson (k := k - 1) hM (by omega) _) ?_
    refine go_if_ne (tgt := 12) (pc := 5) dX8_whyRise_5 (by decide) (fun h_5 => ?_) (fun h_5 => by exfalso; rw [pers_yes hB.1.1 (by omega) hz] at h_5; exact absurd h_5 (by decide))
    refine go_aload_n (pc := 12) dX8_whyRise_12 rfl ?_
    refine go_lload_n (pc := 13) dX8_whyRise_13 rfl ?_
    refine go_l2i (pc := 14) dX8_whyRise_14 ?_
    rw [nI_LI (by omega)]
    refine go_V1P (pc := 15) v_X8_296 rfl rfl (rcv_of (ci := 8) (by first | exact mo0 hM | exact mo1 hM | exact mo6 hM | exact mo7 hM | exact mo8 hM | exact mo2 hM | exact mo3 hM | exact mo4 hM | exact mo5 hM | exact mo9 hM | exact mo10 hM | exact mo11 hM | exact mo12 hM | exact mo13 hM | exact mo14 hM | exact mo15 hM | exact mo16 hM) rfl) dX8_whyRise_15 (sp_isUp (k := k - 1) hM (by omega)) ?_
    refine go_if_eq (tgt := 25) (pc := 18) dX8_whyRise_18 (by decide) (fun h_18 => ?_) (fun h_18 => ?_)
    · refine go_aload_n (pc := 25) dX8_whyRise_25 rfl ?_
      refine go_lload_n (pc := 26) dX8_whyRise_26 rfl ?_
      refine go_l2i (pc := 27) dX8_whyRise_27 ?_
      rw [nI_LI (by omega)]
      refine go_V1P (pc := 28) v_X8_283 rfl rfl (rcv_of (ci := 8) (by first | exact mo0 hM | exact mo1 hM | exact mo6 hM | exact mo7 hM | exact mo8 hM | exact mo2 hM | exact mo3 hM | exact mo4 hM | exact mo5 hM | exact mo9 hM | exact mo10 hM | exact mo11 hM | exact mo12 hM | exact mo13 hM | exact mo14 hM | exact mo15 hM | exact mo16 hM) rfl) dX8_whyRise_28 (sp_isAsleep (k := k - 1) hM (by omega)) ?_
      refine go_if_eq (tgt := 38) (pc := 31) dX8_whyRise_31 (by decide) (fun h_31 => ?_) (fun h_31 => ?_)
      · refine go_iconst (v := 0) (pc := 38) dX8_whyRise_38 (by decide) ?_
        exact go_iretP (pc := 39) rfl dX8_whyRise_39 (Nat.le_of_ble_eq_true rfl) (Nat.le_of_ble_eq_true rfl) (by simp only [whyR, hz]; (repeat split) <;> simp_all [bI_0])
      · refine go_iconst (v := 3) (pc := 34) dX8_whyRise_34 (by decide) ?_
        refine go_goto (tgt := 39) (pc := 35) dX8_whyRise_35 (by decide) ?_
        exact go_iretP (pc := 39) rfl dX8_whyRise_39 (Nat.le_of_ble_eq_true rfl) (Nat.le_of_ble_eq_true rfl) (by simp only [whyR, hz]; (repeat split) <;> simp_all [bI_0])
    · refine go_iconst (v := 2) (pc := 21) dX8_whyRise_21 (by decide) ?_
      refine go_goto (tgt := 39) (pc := 22) dX8_whyRise_22 (by decide) ?_
      exact go_iretP (pc := 39) rfl dX8_whyRise_39 (Nat.le_of_ble_eq_true rfl) (Nat.le_of_ble_eq_true rfl) (by simp only [whyR, hz]; (repeat split) <;> simp_all [bI_0])
theorem sp_whySit {Γ : gam} {z0 : sto} {n k r : Nat} {F K : row} {A : Nat → row} {Nm : Nat → Int64} (hM : MoAt Γ z0 r F K A Nm) (hk : 3 ≤ k) (hB : okB K) (z c : Int64) : Sp Γ (rmk k 0 0) uX8_whySit [.ref r, .long z, .long c] z0 n (qP (whyS K z.toInt c.toInt) z0 n) := by
  have hP8 := hB.1.2.1
  have hH5 := hB.1.2.2.2.1
  have hW4 := hB.1.2.2.2.2.2
  refine sp_intro [some (.ref r), some (.long z), none, some (.long c), none] (by decide +kernel) rfl (Nat.le_of_ble_eq_true rfl) rfl ?_
  cases hz : pN (kP K) z.toInt with
  | none =>
    refine go_aload_n (pc := 0) dX8_whySit_0 rfl ?_
    refine go_lload_n (pc := 1) dX8_whySit_1 rfl ?_
    refine go_V1P (pc := 2) v_X8_310 rfl rfl (rcv_of (ci := 8) (by first | exact mo0 hM | exact mo1 hM | exact mo6 hM | exact mo7 hM | exact mo8 hM | exact mo2 hM | exact mo3 hM | exact mo4 hM | exact mo5 hM | exact mo9 hM | exact mo10 hM | exact mo11 hM | exact mo12 hM | exact mo13 hM | exact mo14 hM | exact mo15 hM | exact mo16 hM) rfl) dX8_whySit_2 (sp_isPerson (k := k - 1) hM (by omega) _) ?_
    refine go_if_eq (tgt := 16) (pc := 5) dX8_whySit_5 (by decide) (fun h_5 => ?_) (fun h_5 => by exfalso; exact h_5 (pers_no hB.1.1 (by omega) hz))
    refine go_iconst (v := 1) (pc := 16) dX8_whySit_16 (by decide) ?_
    refine go_goto (tgt := 48) (pc := 17) dX8_whySit_17 (by decide) ?_
    exact go_iretP (pc := 48) rfl dX8_whySit_48 (Nat.le_of_ble_eq_true rfl) (Nat.le_of_ble_eq_true rfl) (by simp [whyS, hz])
  | some j =>
    obtain ⟨e1, e2⟩ := pN_some hz
    obtain rfl := L_nat e1 (by omega)
    cases hc : pN (kW K) c.toInt with
    | none =>
      refine go_aload_n (pc := 0) dX8_whySit_0 rfl ?_
      refine go_lload_n (pc := 1) dX8_whySit_1 rfl ?_
      refine go_V1P (pc := 2) v_X8_310 rfl rfl (rcv_of (ci := 8) (by first | exact mo0 hM | exact mo1 hM | exact mo6 hM | exact mo7 hM | exact mo8 hM | exact mo2 hM | exact mo3 hM | exact mo4 hM | exact mo5 hM | exact mo9 hM | exact mo10 hM | exact mo11 hM | exact mo12 hM | exact mo13 hM | exact mo14 hM | exact mo15 hM | exact mo16 hM) rfl) dX8_whySit_2 (sp_isPerson (k := k - 1) hM (by omega) _) ?_
      refine go_if_eq (tgt := 16) (pc := 5) dX8_whySit_5 (by decide) (fun h_5 => by exfalso; rw [pers_yes hB.1.1 (by omega) hz] at h_5; exact absurd h_5 (by decide)) (fun h_5 => ?_)
      refine go_aload_n (pc := 8) dX8_whySit_8 rfl ?_
      refine go_lload_n (pc := 9) dX8_whySit_9 rfl ?_
      refine go_V1P (pc := 10) v_X8_245 rfl rfl (rcv_of (ci := 8) (by first | exact mo0 hM | exact mo1 hM | exact mo6 hM | exact mo7 hM | exact mo8 hM | exact mo2 hM | exact mo3 hM | exact mo4 hM | exact mo5 hM | exact mo9 hM | exact mo10 hM | exact mo11 hM | exact mo12 hM | exact mo13 hM | exact mo14 hM | exact mo15 hM | exact mo16 hM) rfl) dX8_whySit_10 (sp_isColumn (k := k - 1) hM (by omega) _) ?_
      refine go_if_ne (tgt := 20) (pc := 13) dX8_whySit_13 (by decide) (fun h_13 => by exfalso; exact h_13 (pers_no hB.1.2.2.2.2.1 (by omega) hc)) (fun h_13 => ?_)
      refine go_iconst (v := 1) (pc := 16) dX8_whySit_16 (by decide) ?_
      refine go_goto (tgt := 48) (pc := 17) dX8_whySit_17 (by decide) ?_
      exact go_iretP (pc := 48) rfl dX8_whySit_48 (Nat.le_of_ble_eq_true rfl) (Nat.le_of_ble_eq_true rfl) (by simp [whyS, hz, hc])
    | some d =>
      obtain ⟨e3, e4⟩ := pN_some hc
      obtain rfl := L_nat e3 (by omega)
      refine go_aload_n (pc := 0) dX8_whySit_0 rfl ?_
      refine go_lload_n (pc := 1) dX8_whySit_1 rfl ?_
      refine go_V1P (pc := 2) v_X8_310 rfl rfl (rcv_of (ci := 8) (by first | exact mo0 hM | exact mo1 hM | exact mo6 hM | exact mo7 hM | exact mo8 hM | exact mo2 hM | exact mo3 hM | exact mo4 hM | exact mo5 hM | exact mo9 hM | exact mo10 hM | exact mo11 hM | exact mo12 hM | exact mo13 hM | exact mo14 hM | exact mo15 hM | exact mo16 hM) rfl) dX8_whySit_2 (sp_isPerson (k := k - 1) hM (by omega) _) ?_
      refine go_if_eq (tgt := 16) (pc := 5) dX8_whySit_5 (by decide) (fun h_5 => by exfalso; rw [pers_yes hB.1.1 (by omega) hz] at h_5; exact absurd h_5 (by decide)) (fun h_5 => ?_)
      refine go_aload_n (pc := 8) dX8_whySit_8 rfl ?_
      refine go_lload_n (pc := 9) dX8_whySit_9 rfl ?_
      refine go_V1P (pc := 10) v_X8_245 rfl rfl (rcv_of (ci := 8) (by first | exact mo0 hM | exact mo1 hM | exact mo6 hM | exact mo7 hM | exact mo8 hM | exact mo2 hM | exact mo3 hM | exact mo4 hM | exact mo5 hM | exact mo9 hM | exact mo10 hM | exact mo11 hM | exact mo12 hM | exact mo13 hM | exact mo14 hM | exact mo15 hM | exact mo16 hM) rfl) dX8_whySit_10 (sp_isColumn (k := k - 1) hM (by omega) _) ?_
      refine go_if_ne (tgt := 20) (pc := 13) dX8_whySit_13 (by decide) (fun h_13 => ?_) (fun h_13 => by exfalso; rw [pers_yes hB.1.2.2.2.2.1 (by omega) hc] at h_13; exact absurd h_13 (by decide))
      refine go_aload_n (pc := 20) dX8_whySit_20 rfl ?_
      refine go_lload_n (pc := 21) dX8_whySit_21 rfl ?_
      refine go_l2i (pc := 22) dX8_whySit_22 ?_
      rw [nI_LI (by omega)]
      refine go_V1P (pc := 23) v_X8_296 rfl rfl (rcv_of (ci := 8) (by first | exact mo0 hM | exact mo1 hM | exact mo6 hM | exact mo7 hM | exact mo8 hM | exact mo2 hM | exact mo3 hM | exact mo4 hM | exact mo5 hM | exact mo9 hM | exact mo10 hM | exact mo11 hM | exact mo12 hM | exact mo13 hM | exact mo14 hM | exact mo15 hM | exact mo16 hM) rfl) dX8_whySit_23 (sp_isUp (k := k - 1) hM (by omega)) ?_
      refine go_if_ne (tgt := 33) (pc := 26) dX8_whySit_26 (by decide) (fun h_26 => ?_) (fun h_26 => ?_)
      · refine go_aload_n (pc := 33) dX8_whySit_33 rfl ?_
        refine go_lload_n (pc := 34) dX8_whySit_34 rfl ?_
        refine go_l2i (pc := 35) dX8_whySit_35 ?_
        rw [nI_LI (by omega)]
        refine go_V1P (pc := 36) v_X8_293 rfl rfl (rcv_of (ci := 8) (by first | exact mo0 hM | exact mo1 hM | exact mo6 hM | exact mo7 hM | exact mo8 hM | exact mo2 hM | exact mo3 hM | exact mo4 hM | exact mo5 hM | exact mo9 hM | exact mo10 hM | exact mo11 hM | exact mo12 hM | exact mo13 hM | exact mo14 hM | exact mo15 hM | exact mo16 hM) rfl) dX8_whySit_36 (sp_lastFree (k := k - 1) hM (by omega) hB _) ?_
        refine go_iconst (v := -1) (pc := 39) dX8_whySit_39 (by decide) ?_
        refine go_icmp_ne (tgt := 47) (pc := 40) dX8_whySit_40 (by decide) (fun h_40 => ?_) (fun h_40 => ?_)
        · refine go_iconst (v := 0) (pc := 47) dX8_whySit_47 (by decide) ?_
          exact go_iretP (pc := 48) rfl dX8_whySit_48 (Nat.le_of_ble_eq_true rfl) (Nat.le_of_ble_eq_true rfl) (by simp only [whyS, hz, hc]; have hfn := freeK_none (K := K) (c := nI d) hH5; (repeat split) <;> simp_all [bI_0])
        · refine go_iconst (v := 3) (pc := 43) dX8_whySit_43 (by decide) ?_
          refine go_goto (tgt := 48) (pc := 44) dX8_whySit_44 (by decide) ?_
          exact go_iretP (pc := 48) rfl dX8_whySit_48 (Nat.le_of_ble_eq_true rfl) (Nat.le_of_ble_eq_true rfl) (by simp only [whyS, hz, hc]; have hfn := freeK_none (K := K) (c := nI d) hH5; (repeat split) <;> simp_all [bI_0])
      · refine go_iconst (v := 2) (pc := 29) dX8_whySit_29 (by decide) ?_
        refine go_goto (tgt := 48) (pc := 30) dX8_whySit_30 (by decide) ?_
        exact go_iretP (pc := 48) rfl dX8_whySit_48 (Nat.le_of_ble_eq_true rfl) (Nat.le_of_ble_eq_true rfl) (by simp only [whyS, hz, hc]; have hfn := freeK_none (K := K) (c := nI d) hH5; (repeat split) <;> simp_all [bI_0])
theorem sp_whySwap {Γ : gam} {z0 : sto} {n k r : Nat} {F K : row} {A : Nat → row} {Nm : Nat → Int64} (hM : MoAt Γ z0 r F K A Nm) (hk : 3 ≤ k) (hB : okB K) (z c : Int64) : Sp Γ (rmk k 0 0) uX8_whySwap [.ref r, .long z, .long c] z0 n (qP (whyX K z.toInt c.toInt) z0 n) := by
  have hP8 := hB.1.2.1
  have hH5 := hB.1.2.2.2.1
  have hW4 := hB.1.2.2.2.2.2
  refine sp_intro [some (.ref r), some (.long z), none, some (.long c), none] (by decide +kernel) rfl (Nat.le_of_ble_eq_true rfl) rfl ?_
  cases hz : pN (kP K) z.toInt with
  | none =>
    refine go_aload_n (pc := 0) dX8_whySwap_0 rfl ?_
    refine go_lload_n (pc := 1) dX8_whySwap_1 rfl ?_
    refine go_V1P (pc := 2) v_X8_310 rfl rfl (rcv_of (ci := 8) (by first | exact mo0 hM | exact mo1 hM | exact mo6 hM | exact mo7 hM | exact mo8 hM | exact mo2 hM | exact mo3 hM | exact mo4 hM | exact mo5 hM | exact mo9 hM | exact mo10 hM | exact mo11 hM | exact mo12 hM | exact mo13 hM | exact mo14 hM | exact mo15 hM | exact mo16 hM) rfl) dX8_whySwap_2 (sp_isPerson (k := k - 1) hM (by omega) _) ?_
    refine go_if_eq (tgt := 22) (pc := 5) dX8_whySwap_5 (by decide) (fun h_5 => ?_) (fun h_5 => by exfalso; exact h_5 (pers_no hB.1.1 (by omega) hz))
    refine go_iconst (v := 1) (pc := 22) dX8_whySwap_22 (by decide) ?_
    refine go_goto (tgt := 49) (pc := 23) dX8_whySwap_23 (by decide) ?_
    exact go_iretP (pc := 49) rfl dX8_whySwap_49 (Nat.le_of_ble_eq_true rfl) (Nat.le_of_ble_eq_true rfl) (by simp [whyX, hz])
  | some j =>
    obtain ⟨e1, e2⟩ := pN_some hz
    obtain rfl := L_nat e1 (by omega)
    cases hc : pN (kP K) c.toInt with
    | none =>
      refine go_aload_n (pc := 0) dX8_whySwap_0 rfl ?_
      refine go_lload_n (pc := 1) dX8_whySwap_1 rfl ?_
      refine go_V1P (pc := 2) v_X8_310 rfl rfl (rcv_of (ci := 8) (by first | exact mo0 hM | exact mo1 hM | exact mo6 hM | exact mo7 hM | exact mo8 hM | exact mo2 hM | exact mo3 hM | exact mo4 hM | exact mo5 hM | exact mo9 hM | exact mo10 hM | exact mo11 hM | exact mo12 hM | exact mo13 hM | exact mo14 hM | exact mo15 hM | exact mo16 hM) rfl) dX8_whySwap_2 (sp_isPerson (k := k - 1) hM (by omega) _) ?_
      refine go_if_eq (tgt := 22) (pc := 5) dX8_whySwap_5 (by decide) (fun h_5 => by exfalso; rw [pers_yes hB.1.1 (by omega) hz] at h_5; exact absurd h_5 (by decide)) (fun h_5 => ?_)
      refine go_aload_n (pc := 8) dX8_whySwap_8 rfl ?_
      refine go_lload_n (pc := 9) dX8_whySwap_9 rfl ?_
      refine go_V1P (pc := 10) v_X8_310 rfl rfl (rcv_of (ci := 8) (by first | exact mo0 hM | exact mo1 hM | exact mo6 hM | exact mo7 hM | exact mo8 hM | exact mo2 hM | exact mo3 hM | exact mo4 hM | exact mo5 hM | exact mo9 hM | exact mo10 hM | exact mo11 hM | exact mo12 hM | exact mo13 hM | exact mo14 hM | exact mo15 hM | exact mo16 hM) rfl) dX8_whySwap_10 (sp_isPerson (k := k - 1) hM (by omega) _) ?_
      refine go_if_eq (tgt := 22) (pc := 13) dX8_whySwap_13 (by decide) (fun h_13 => ?_) (fun h_13 => by exfalso; exact h_13 (pers_no hB.1.1 (by omega) hc))
      refine go_iconst (v := 1) (pc := 22) dX8_whySwap_22 (by decide) ?_
      refine go_goto (tgt := 49) (pc := 23) dX8_whySwap_23 (by decide) ?_
      exact go_iretP (pc := 49) rfl dX8_whySwap_49 (Nat.le_of_ble_eq_true rfl) (Nat.le_of_ble_eq_true rfl) (by simp [whyX, hz, hc])
    | some d =>
      obtain ⟨e3, e4⟩ := pN_some hc
      obtain rfl := L_nat e3 (by omega)
      have ee : (nI j).toInt64 = (nI d).toInt64 ↔ j = d := ⟨fun h => by have := congrArg Int64.toInt h; rw [e1, e3] at this; omega, fun h => by rw [h]⟩
      refine go_aload_n (pc := 0) dX8_whySwap_0 rfl ?_
      refine go_lload_n (pc := 1) dX8_whySwap_1 rfl ?_
      refine go_V1P (pc := 2) v_X8_310 rfl rfl (rcv_of (ci := 8) (by first | exact mo0 hM | exact mo1 hM | exact mo6 hM | exact mo7 hM | exact mo8 hM | exact mo2 hM | exact mo3 hM | exact mo4 hM | exact mo5 hM | exact mo9 hM | exact mo10 hM | exact mo11 hM | exact mo12 hM | exact mo13 hM | exact mo14 hM | exact mo15 hM | exact mo16 hM) rfl) dX8_whySwap_2 (sp_isPerson (k := k - 1) hM (by omega) _) ?_
      refine go_if_eq (tgt := 22) (pc := 5) dX8_whySwap_5 (by decide) (fun h_5 => by exfalso; rw [pers_yes hB.1.1 (by omega) hz] at h_5; exact absurd h_5 (by decide)) (fun h_5 => ?_)
      refine go_aload_n (pc := 8) dX8_whySwap_8 rfl ?_
      refine go_lload_n (pc := 9) dX8_whySwap_9 rfl ?_
      refine go_V1P (pc := 10) v_X8_310 rfl rfl (rcv_of (ci := 8) (by first | exact mo0 hM | exact mo1 hM | exact mo6 hM | exact mo7 hM | exact mo8 hM | exact mo2 hM | exact mo3 hM | exact mo4 hM | exact mo5 hM | exact mo9 hM | exact mo10 hM | exact mo11 hM | exact mo12 hM | exact mo13 hM | exact mo14 hM | exact mo15 hM | exact mo16 hM) rfl) dX8_whySwap_10 (sp_isPerson (k := k - 1) hM (by omega) _) ?_
      refine go_if_eq (tgt := 22) (pc := 13) dX8_whySwap_13 (by decide) (fun h_13 => by exfalso; rw [pers_yes hB.1.1 (by omega) hc] at h_13; exact absurd h_13 (by decide)) (fun h_13 => ?_)
      refine go_lload_n (pc := 16) dX8_whySwap_16 rfl ?_
      refine go_lload_n (pc := 17) dX8_whySwap_17 rfl ?_
      refine go_lcmp (pc := 18) dX8_whySwap_18 ?_
      refine go_if_ne (tgt := 26) (pc := 19) dX8_whySwap_19 (by decide) (fun h_19 => ?_) (fun h_19 => ?_)
      · refine go_aload_n (pc := 26) dX8_whySwap_26 rfl ?_
        refine go_lload_n (pc := 27) dX8_whySwap_27 rfl ?_
        refine go_l2i (pc := 28) dX8_whySwap_28 ?_
        rw [nI_LI (by omega)]
        refine go_V1P (pc := 29) v_X8_296 rfl rfl (rcv_of (ci := 8) (by first | exact mo0 hM | exact mo1 hM | exact mo6 hM | exact mo7 hM | exact mo8 hM | exact mo2 hM | exact mo3 hM | exact mo4 hM | exact mo5 hM | exact mo9 hM | exact mo10 hM | exact mo11 hM | exact mo12 hM | exact mo13 hM | exact mo14 hM | exact mo15 hM | exact mo16 hM) rfl) dX8_whySwap_29 (sp_isUp (k := k - 1) hM (by omega)) ?_
        refine go_if_ne (tgt := 44) (pc := 32) dX8_whySwap_32 (by decide) (fun h_32 => ?_) (fun h_32 => ?_)
        · refine go_iconst (v := 2) (pc := 44) dX8_whySwap_44 (by decide) ?_
          refine go_goto (tgt := 49) (pc := 45) dX8_whySwap_45 (by decide) ?_
          exact go_iretP (pc := 49) rfl dX8_whySwap_49 (Nat.le_of_ble_eq_true rfl) (Nat.le_of_ble_eq_true rfl) (by simp only [whyX, hz, hc]; (try rw [lg_cmp_eq] at *); (repeat split) <;> simp_all [bI_0])
        · refine go_aload_n (pc := 35) dX8_whySwap_35 rfl ?_
          refine go_lload_n (pc := 36) dX8_whySwap_36 rfl ?_
          refine go_l2i (pc := 37) dX8_whySwap_37 ?_
          rw [nI_LI (by omega)]
          refine go_V1P (pc := 38) v_X8_296 rfl rfl (rcv_of (ci := 8) (by first | exact mo0 hM | exact mo1 hM | exact mo6 hM | exact mo7 hM | exact mo8 hM | exact mo2 hM | exact mo3 hM | exact mo4 hM | exact mo5 hM | exact mo9 hM | exact mo10 hM | exact mo11 hM | exact mo12 hM | exact mo13 hM | exact mo14 hM | exact mo15 hM | exact mo16 hM) rfl) dX8_whySwap_38 (sp_isUp (k := k - 1) hM (by omega)) ?_
          refine go_if_eq (tgt := 48) (pc := 41) dX8_whySwap_41 (by decide) (fun h_41 => ?_) (fun h_41 => ?_)
          · refine go_iconst (v := 0) (pc := 48) dX8_whySwap_48 (by decide) ?_
            exact go_iretP (pc := 49) rfl dX8_whySwap_49 (Nat.le_of_ble_eq_true rfl) (Nat.le_of_ble_eq_true rfl) (by simp only [whyX, hz, hc]; (try rw [lg_cmp_eq] at *); (repeat split) <;> simp_all [bI_0])
          · refine go_iconst (v := 2) (pc := 44) dX8_whySwap_44 (by decide) ?_
            refine go_goto (tgt := 49) (pc := 45) dX8_whySwap_45 (by decide) ?_
            exact go_iretP (pc := 49) rfl dX8_whySwap_49 (Nat.le_of_ble_eq_true rfl) (Nat.le_of_ble_eq_true rfl) (by simp only [whyX, hz, hc]; (try rw [lg_cmp_eq] at *); (repeat split) <;> simp_all [bI_0])
      · refine go_iconst (v := 1) (pc := 22) dX8_whySwap_22 (by decide) ?_
        refine go_goto (tgt := 49) (pc := 23) dX8_whySwap_23 (by decide) ?_
        exact go_iretP (pc := 49) rfl dX8_whySwap_49 (Nat.le_of_ble_eq_true rfl) (Nat.le_of_ble_eq_true rfl) (by simp only [whyX, hz, hc]; (try rw [lg_cmp_eq] at *); (repeat split) <;> simp_all [bI_0])
theorem sp_putsAside {Γ : gam} {z0 : sto} {n k r : Nat} {F K : row} {A : Nat → row} {Nm : Nat → Int64} (hM : MoAt Γ z0 r F K A Nm)  : Sp Γ (rmk k 0 0) uX8_putsAside [.ref r] z0 n (qV fun σ' n' => n' = n ∧ ∃ A', MoAt Γ σ' r F K A' Nm ∧ eqx [8] A A' ∧ fr r (r + 16) z0 σ' ∧ ∀ j, j < 26 → A' 8 j = K (8 + j)) := by
  have hA : eqx [8] A A := eqx.rf
  have hf : fr r (r + 16) z0 z0 := fr.rf
  refine sp_intro [some (.ref r), none] (by decide +kernel) rfl (Nat.le_of_ble_eq_true rfl) rfl ?_
  refine go_iconst (v := 0) (pc := 0) dX8_putsAside_0 (by decide) ?_
  refine go_istore_n (lw := [_, _]) (pc := 1) dX8_putsAside_1 (by decide) rfl ?_
  refine go_iter (26) (fun i lv9 s9 n9 => ∃ A9, lv9 = [some (.ref r), some (.int (nI i))] ∧ (MoAt Γ s9 r F K A9 Nm) ∧ (eqx [8] A A9) ∧ (fr r (r + 16) z0 s9) ∧ (∀ j, j < i → A9 8 j = K (8 + j)) ∧ n = n9) ⟨_, rfl, hM, hA, hf, (fun j hj => absurd hj (by omega)), rfl⟩ ?_ ?_
  · rintro i lv9 σ n9 hi ⟨A9, rfl, hM, hA, hf, hG, rfl⟩ ih
    refine go_iload_n (pc := 2) dX8_putsAside_2 rfl ?_
    refine go_bipush (v := 26) (pc := 3) dX8_putsAside_3 (by decide) ?_
    refine go_icmp_ge (tgt := 29) (pc := 5) dX8_putsAside_5 (by decide) (fun h_5 => by exfalso; exact absurd h_5 (nI_ge (b := 26) (by omega) (by decide))) (fun h_5 => ?_)
    refine go_aload_n (pc := 8) dX8_putsAside_8 rfl ?_
    refine go_getf (pc := 9) f_X8_36 dX8_putsAside_9 (by first | exact mo0 hM | exact mo1 hM | exact mo6 hM | exact mo7 hM | exact mo8 hM | exact mo2 hM | exact mo3 hM | exact mo4 hM | exact mo5 hM | exact mo9 hM | exact mo10 hM | exact mo11 hM | exact mo12 hM | exact mo13 hM | exact mo14 hM | exact mo15 hM | exact mo16 hM) (by rfl) ?_
    refine go_iload_n (pc := 12) dX8_putsAside_12 rfl ?_
    refine go_aload_n (pc := 13) dX8_putsAside_13 rfl ?_
    refine go_getf (pc := 14) f_X8_9 dX8_putsAside_14 (by first | exact mo0 hM | exact mo1 hM | exact mo6 hM | exact mo7 hM | exact mo8 hM | exact mo2 hM | exact mo3 hM | exact mo4 hM | exact mo5 hM | exact mo9 hM | exact mo10 hM | exact mo11 hM | exact mo12 hM | exact mo13 hM | exact mo14 hM | exact mo15 hM | exact mo16 hM) (by rfl) ?_
    refine go_bipush (v := 8) (pc := 17) dX8_putsAside_17 (by decide) ?_
    refine go_iload_n (pc := 19) dX8_putsAside_19 rfl ?_
    refine go_iadd (pc := 20) dX8_putsAside_20 ?_
    refine go_iald (pc := 21) dX8_putsAside_21 (by first | exact mo0 hM | exact mo1 hM | exact mo6 hM | exact mo7 hM | exact mo8 hM | exact mo2 hM | exact mo3 hM | exact mo4 hM | exact mo5 hM | exact mo9 hM | exact mo10 hM | exact mo11 hM | exact mo12 hM | exact mo13 hM | exact mo14 hM | exact mo15 hM | exact mo16 hM) (by exact ⟨nI_add 8 _, by omega⟩) ?_
    refine go_mst8 (pc := 22) hM dX8_putsAside_22 (by exact ⟨rfl, by omega⟩) (fun σ hM hf9 => ?_)
    have hf := hf.tr hf9
    refine go_iinc (v := 1) (lw := [_, _]) (pc := 23) dX8_putsAside_23 rfl (by decide) (by decide) rfl ?_
    refine go_goto (tgt := 2) (pc := 26) dX8_putsAside_26 (by decide) ?_
    rw [nI_1]
    exact ih _ _ _ ⟨_, rfl, hM, (by repeat (first | assumption | exact eqx.rf | refine eqx.up ?_ (by decide))), hf, (fun j hj => by simp only [updA, if_true, upd]; by_cases e : j = i <;> simp [e]; exact hG j (by omega)), rfl⟩
  · rintro lv9 σ n9 ⟨A9, rfl, hM, hA, hf, hG, rfl⟩
    refine go_iload_n (pc := 2) dX8_putsAside_2 rfl ?_
    refine go_bipush (v := 26) (pc := 3) dX8_putsAside_3 (by decide) ?_
    refine go_icmp_ge (tgt := 29) (pc := 5) dX8_putsAside_5 (by decide) (fun h_5 => ?_) (fun h_5 => by exfalso; exact h_5 (by decide))
    exact go_vretV (pc := 29) rfl dX8_putsAside_29 (Nat.le_of_ble_eq_true rfl) (Nat.le_of_ble_eq_true rfl) ⟨rfl, A9, hM, hA, hf, hG⟩
theorem sp_putsBack {Γ : gam} {z0 : sto} {n k r : Nat} {F K : row} {A : Nat → row} {Nm : Nat → Int64} (hM : MoAt Γ z0 r F K A Nm)  : Sp Γ (rmk k 0 0) uX8_putsBack [.ref r] z0 n (qV fun σ' n' => moJ Γ r F (setS K (A 8)) A Nm z0 n [] σ' n') := by
  have hA : eqx [] A A := eqx.rf
  have hf : fr r (r + 16) z0 z0 := fr.rf
  refine sp_intro [some (.ref r), none] (by decide +kernel) rfl (Nat.le_of_ble_eq_true rfl) rfl ?_
  refine go_iconst (v := 0) (pc := 0) dX8_putsBack_0 (by decide) ?_
  refine go_istore_n (lw := [_, _]) (pc := 1) dX8_putsBack_1 (by decide) rfl ?_
  refine go_iter (26) (fun i lv9 s9 n9 => ∃ A9, lv9 = [some (.ref r), some (.int (nI i))] ∧ (MoAt Γ s9 r F (setN K (A 8) i) A9 Nm) ∧ (eqx [] A A9) ∧ (fr r (r + 16) z0 s9) ∧ n = n9) ⟨_, rfl, (by rw [setN_0]; exact hM), hA, hf, rfl⟩ ?_ ?_
  · rintro i lv9 σ n9 hi ⟨A9, rfl, hM, hA, hf, rfl⟩ ih
    refine go_iload_n (pc := 2) dX8_putsBack_2 rfl ?_
    refine go_bipush (v := 26) (pc := 3) dX8_putsBack_3 (by decide) ?_
    refine go_icmp_ge (tgt := 29) (pc := 5) dX8_putsBack_5 (by decide) (fun h_5 => by exfalso; exact absurd h_5 (nI_ge (b := 26) (by omega) (by decide))) (fun h_5 => ?_)
    refine go_aload_n (pc := 8) dX8_putsBack_8 rfl ?_
    refine go_getf (pc := 9) f_X8_9 dX8_putsBack_9 (by first | exact mo0 hM | exact mo1 hM | exact mo6 hM | exact mo7 hM | exact mo8 hM | exact mo2 hM | exact mo3 hM | exact mo4 hM | exact mo5 hM | exact mo9 hM | exact mo10 hM | exact mo11 hM | exact mo12 hM | exact mo13 hM | exact mo14 hM | exact mo15 hM | exact mo16 hM) (by rfl) ?_
    refine go_bipush (v := 8) (pc := 12) dX8_putsBack_12 (by decide) ?_
    refine go_iload_n (pc := 14) dX8_putsBack_14 rfl ?_
    refine go_iadd (pc := 15) dX8_putsBack_15 ?_
    refine go_aload_n (pc := 16) dX8_putsBack_16 rfl ?_
    refine go_getf (pc := 17) f_X8_36 dX8_putsBack_17 (by first | exact mo0 hM | exact mo1 hM | exact mo6 hM | exact mo7 hM | exact mo8 hM | exact mo2 hM | exact mo3 hM | exact mo4 hM | exact mo5 hM | exact mo9 hM | exact mo10 hM | exact mo11 hM | exact mo12 hM | exact mo13 hM | exact mo14 hM | exact mo15 hM | exact mo16 hM) (by rfl) ?_
    refine go_iload_n (pc := 20) dX8_putsBack_20 rfl ?_
    refine go_iald (pc := 21) dX8_putsBack_21 (by first | exact mo0 hM | exact mo1 hM | exact mo6 hM | exact mo7 hM | exact mo8 hM | exact mo2 hM | exact mo3 hM | exact mo4 hM | exact mo5 hM | exact mo9 hM | exact mo10 hM | exact mo11 hM | exact mo12 hM | exact mo13 hM | exact mo14 hM | exact mo15 hM | exact mo16 hM) (by exact ⟨rfl, by omega⟩) ?_
    refine go_mstK (pc := 22) hM dX8_putsBack_22 (by exact ⟨nI_add 8 _, by omega⟩) (fun σ hM hf9 => ?_)
    have hf := hf.tr hf9
    refine go_iinc (v := 1) (lw := [_, _]) (pc := 23) dX8_putsBack_23 rfl (by decide) (by decide) rfl ?_
    refine go_goto (tgt := 2) (pc := 26) dX8_putsBack_26 (by decide) ?_
    rw [nI_1]
    exact ih _ _ _ ⟨_, rfl, (by rw [← setN_s]; rw [hA 8 (by decide)] at hM; exact hM), hA, hf, rfl⟩
  · rintro lv9 σ n9 ⟨A9, rfl, hM, hA, hf, rfl⟩
    refine go_iload_n (pc := 2) dX8_putsBack_2 rfl ?_
    refine go_bipush (v := 26) (pc := 3) dX8_putsBack_3 (by decide) ?_
    refine go_icmp_ge (tgt := 29) (pc := 5) dX8_putsBack_5 (by decide) (fun h_5 => ?_) (fun h_5 => by exfalso; exact h_5 (by decide))
    exact go_vretV (pc := 29) rfl dX8_putsBack_29 (Nat.le_of_ble_eq_true rfl) (Nat.le_of_ble_eq_true rfl) ⟨rfl, A9, (by rw [← setN_26]; exact hM), hA, hf⟩
theorem kp_ix {d i : Nat} : 59 + 26 * nI d + nI i = nI (59 + 26 * d + i) := by
  rw [show (26 : Int32) = nI 26 from rfl, pk_mul, show (59 : Int32) = nI 59 from rfl, nI_add, nI_add]
theorem sp_keeps {Γ : gam} {z0 : sto} {n k r : Nat} {F K : row} {A : Nat → row} {Nm : Nat → Int64} (hM : MoAt Γ z0 r F K A Nm) {d : Nat} (hd : K 7 = nI d) (hd1 : d ≤ 10) : Sp Γ (rmk k 0 0) uX8_keeps [.ref r] z0 n (qV fun σ' n' => moJ Γ r F (keepK K) A Nm z0 n [] σ' n') := by
  obtain ⟨d2, g1, g2, g3⟩ := keepA_d hd hd1
  have hA : eqx [] A A := eqx.rf
  have hf : fr r (r + 16) z0 z0 := fr.rf
  refine sp_intro [some (.ref r), none] (by decide +kernel) rfl (Nat.le_of_ble_eq_true rfl) rfl ?_
  by_cases hten : K 7 = 10
  · refine go_aload_n (pc := 0) dX8_keeps_0 rfl ?_
    refine go_getf (pc := 1) f_X8_9 dX8_keeps_1 (by first | exact mo0 hM | exact mo1 hM | exact mo6 hM | exact mo7 hM | exact mo8 hM | exact mo2 hM | exact mo3 hM | exact mo4 hM | exact mo5 hM | exact mo9 hM | exact mo10 hM | exact mo11 hM | exact mo12 hM | exact mo13 hM | exact mo14 hM | exact mo15 hM | exact mo16 hM) (by rfl) ?_
    refine go_bipush (v := 7) (pc := 4) dX8_keeps_4 (by decide) ?_
    refine go_iald (j := 7) (pc := 6) dX8_keeps_6 (by first | exact mo0 hM | exact mo1 hM | exact mo6 hM | exact mo7 hM | exact mo8 hM | exact mo2 hM | exact mo3 hM | exact mo4 hM | exact mo5 hM | exact mo9 hM | exact mo10 hM | exact mo11 hM | exact mo12 hM | exact mo13 hM | exact mo14 hM | exact mo15 hM | exact mo16 hM) (by exact ⟨rfl, by decide⟩) ?_
    refine go_bipush (v := 10) (pc := 7) dX8_keeps_7 (by decide) ?_
    refine go_icmp_ne (tgt := 54) (pc := 9) dX8_keeps_9 (by decide) (fun h_9 => by exfalso; exact h_9 hten) (fun h_9 => ?_)
    refine go_bipush (v := 59) (pc := 12) dX8_keeps_12 (by decide) ?_
    refine go_istore_n (lw := [_, _]) (pc := 14) dX8_keeps_14 (by decide) rfl ?_
    refine go_iter (234) (fun i lv9 s9 n9 => ∃ A9, lv9 = [some (.ref r), some (.int (nI (59 + i)))] ∧ (MoAt Γ s9 r F (shK i K) A9 Nm) ∧ (eqx [] A A9) ∧ (fr r (r + 16) z0 s9) ∧ n = n9) ⟨_, rfl, (by rw [shK_0]; exact hM), hA, hf, rfl⟩ ?_ ?_
    · rintro i lv9 σ n9 hi ⟨A9, rfl, hM, hA, hf, rfl⟩ ih
      refine go_iload_n (pc := 15) dX8_keeps_15 rfl ?_
      refine go_sipush (v := 293) (pc := 16) dX8_keeps_16 (by decide) ?_
      refine go_icmp_ge (tgt := 43) (pc := 19) dX8_keeps_19 (by decide) (fun h_19 => by exfalso; exact absurd h_19 (nI_ge (b := 293) (by omega) (by decide))) (fun h_19 => ?_)
      refine go_aload_n (pc := 22) dX8_keeps_22 rfl ?_
      refine go_getf (pc := 23) f_X8_9 dX8_keeps_23 (by first | exact mo0 hM | exact mo1 hM | exact mo6 hM | exact mo7 hM | exact mo8 hM | exact mo2 hM | exact mo3 hM | exact mo4 hM | exact mo5 hM | exact mo9 hM | exact mo10 hM | exact mo11 hM | exact mo12 hM | exact mo13 hM | exact mo14 hM | exact mo15 hM | exact mo16 hM) (by rfl) ?_
      refine go_iload_n (pc := 26) dX8_keeps_26 rfl ?_
      refine go_aload_n (pc := 27) dX8_keeps_27 rfl ?_
      refine go_getf (pc := 28) f_X8_9 dX8_keeps_28 (by first | exact mo0 hM | exact mo1 hM | exact mo6 hM | exact mo7 hM | exact mo8 hM | exact mo2 hM | exact mo3 hM | exact mo4 hM | exact mo5 hM | exact mo9 hM | exact mo10 hM | exact mo11 hM | exact mo12 hM | exact mo13 hM | exact mo14 hM | exact mo15 hM | exact mo16 hM) (by rfl) ?_
      refine go_iload_n (pc := 31) dX8_keeps_31 rfl ?_
      refine go_bipush (v := 26) (pc := 32) dX8_keeps_32 (by decide) ?_
      refine go_iadd (pc := 34) dX8_keeps_34 ?_
      refine go_iald (pc := 35) dX8_keeps_35 (by first | exact mo0 hM | exact mo1 hM | exact mo6 hM | exact mo7 hM | exact mo8 hM | exact mo2 hM | exact mo3 hM | exact mo4 hM | exact mo5 hM | exact mo9 hM | exact mo10 hM | exact mo11 hM | exact mo12 hM | exact mo13 hM | exact mo14 hM | exact mo15 hM | exact mo16 hM) (by exact ⟨nI_add _ 26, by omega⟩) ?_
      refine go_mstK (pc := 36) hM dX8_keeps_36 (by exact ⟨rfl, by omega⟩) (fun σ hM hf9 => ?_)
      have hf := hf.tr hf9
      refine go_iinc (v := 1) (lw := [_, _]) (pc := 37) dX8_keeps_37 rfl (by decide) (by decide) rfl ?_
      refine go_goto (tgt := 15) (pc := 40) dX8_keeps_40 (by decide) ?_
      rw [nI_1]
      exact ih _ _ _ ⟨_, rfl, (by rw [← shK_s]; exact hM), hA, hf, rfl⟩
    · rintro lv9 σ n9 ⟨A9, rfl, hM, hA, hf, rfl⟩
      refine go_iload_n (pc := 15) dX8_keeps_15 rfl ?_
      refine go_sipush (v := 293) (pc := 16) dX8_keeps_16 (by decide) ?_
      refine go_icmp_ge (tgt := 43) (pc := 19) dX8_keeps_19 (by decide) (fun h_19 => ?_) (fun h_19 => by exfalso; exact h_19 (by decide))
      refine go_aload_n (pc := 43) dX8_keeps_43 rfl ?_
      refine go_getf (pc := 44) f_X8_9 dX8_keeps_44 (by first | exact mo0 hM | exact mo1 hM | exact mo6 hM | exact mo7 hM | exact mo8 hM | exact mo2 hM | exact mo3 hM | exact mo4 hM | exact mo5 hM | exact mo9 hM | exact mo10 hM | exact mo11 hM | exact mo12 hM | exact mo13 hM | exact mo14 hM | exact mo15 hM | exact mo16 hM) (by rfl) ?_
      refine go_bipush (v := 7) (pc := 47) dX8_keeps_47 (by decide) ?_
      refine go_dup2 (pc := 49) dX8_keeps_49 rfl rfl ?_
      refine go_iald (pc := 50) dX8_keeps_50 (by first | exact mo0 hM | exact mo1 hM | exact mo6 hM | exact mo7 hM | exact mo8 hM | exact mo2 hM | exact mo3 hM | exact mo4 hM | exact mo5 hM | exact mo9 hM | exact mo10 hM | exact mo11 hM | exact mo12 hM | exact mo13 hM | exact mo14 hM | exact mo15 hM | exact mo16 hM) (by first | exact ⟨nI_add _ _, by omega⟩ | exact ⟨rfl, by decide⟩ | exact ⟨rfl, by omega⟩) ?_
      refine go_iconst (v := 1) (pc := 51) dX8_keeps_51 (by decide) ?_
      refine go_isub (pc := 52) dX8_keeps_52 ?_
      refine go_mstK (j := 7) (pc := 53) hM dX8_keeps_53 (by exact ⟨rfl, by decide⟩) (fun σ hM hf9 => ?_)
      have hf := hf.tr hf9
      have ea : keepA K = upd (shK 234 K) 7 9 := by rw [keepA, if_pos hten]
      have ea9 : shK 234 K 7 - 1 = 9 := by simp only [shK]; rw [if_neg (by omega), hten]; decide
      rw [ea9] at hM
      refine go_iconst (v := 0) (pc := 54) dX8_keeps_54 (by decide) ?_
      refine go_istore_n (lw := [_, _]) (pc := 55) dX8_keeps_55 (by decide) rfl ?_
      refine go_iter (26) (fun i lv9 s9 n9 => ∃ A9, lv9 = [some (.ref r), some (.int (nI i))] ∧ (MoAt Γ s9 r F (cpK d2 i (keepA K)) A9 Nm) ∧ (eqx [] A A9) ∧ (fr r (r + 16) z0 s9) ∧ n = n9) ⟨_, rfl, (by rw [cpK_0]; first | exact ea ▸ hM | (rw [ea]; exact hM)), hA, hf, rfl⟩ ?_ ?_
      · rintro i lv9 σ n9 hi ⟨A9, rfl, hM, hA, hf, rfl⟩ ih
        refine go_iload_n (pc := 56) dX8_keeps_56 rfl ?_
        refine go_bipush (v := 26) (pc := 57) dX8_keeps_57 (by decide) ?_
        refine go_icmp_ge (tgt := 97) (pc := 59) dX8_keeps_59 (by decide) (fun h_59 => by exfalso; exact absurd h_59 (nI_ge (b := 26) (by omega) (by decide))) (fun h_59 => ?_)
        refine go_aload_n (pc := 62) dX8_keeps_62 rfl ?_
        refine go_getf (pc := 63) f_X8_9 dX8_keeps_63 (by first | exact mo0 hM | exact mo1 hM | exact mo6 hM | exact mo7 hM | exact mo8 hM | exact mo2 hM | exact mo3 hM | exact mo4 hM | exact mo5 hM | exact mo9 hM | exact mo10 hM | exact mo11 hM | exact mo12 hM | exact mo13 hM | exact mo14 hM | exact mo15 hM | exact mo16 hM) (by rfl) ?_
        refine go_bipush (v := 59) (pc := 66) dX8_keeps_66 (by decide) ?_
        refine go_bipush (v := 26) (pc := 68) dX8_keeps_68 (by decide) ?_
        refine go_aload_n (pc := 70) dX8_keeps_70 rfl ?_
        refine go_getf (pc := 71) f_X8_9 dX8_keeps_71 (by first | exact mo0 hM | exact mo1 hM | exact mo6 hM | exact mo7 hM | exact mo8 hM | exact mo2 hM | exact mo3 hM | exact mo4 hM | exact mo5 hM | exact mo9 hM | exact mo10 hM | exact mo11 hM | exact mo12 hM | exact mo13 hM | exact mo14 hM | exact mo15 hM | exact mo16 hM) (by rfl) ?_
        refine go_bipush (v := 7) (pc := 74) dX8_keeps_74 (by decide) ?_
        refine go_iald (j := 7) (pc := 76) dX8_keeps_76 (by first | exact mo0 hM | exact mo1 hM | exact mo6 hM | exact mo7 hM | exact mo8 hM | exact mo2 hM | exact mo3 hM | exact mo4 hM | exact mo5 hM | exact mo9 hM | exact mo10 hM | exact mo11 hM | exact mo12 hM | exact mo13 hM | exact mo14 hM | exact mo15 hM | exact mo16 hM) (by exact ⟨rfl, by decide⟩) ?_
        refine go_imul (pc := 77) dX8_keeps_77 ?_
        refine go_iadd (pc := 78) dX8_keeps_78 ?_
        refine go_iload_n (pc := 79) dX8_keeps_79 rfl ?_
        refine go_iadd (pc := 80) dX8_keeps_80 ?_
        refine go_aload_n (pc := 81) dX8_keeps_81 rfl ?_
        refine go_getf (pc := 82) f_X8_9 dX8_keeps_82 (by first | exact mo0 hM | exact mo1 hM | exact mo6 hM | exact mo7 hM | exact mo8 hM | exact mo2 hM | exact mo3 hM | exact mo4 hM | exact mo5 hM | exact mo9 hM | exact mo10 hM | exact mo11 hM | exact mo12 hM | exact mo13 hM | exact mo14 hM | exact mo15 hM | exact mo16 hM) (by rfl) ?_
        refine go_bipush (v := 8) (pc := 85) dX8_keeps_85 (by decide) ?_
        refine go_iload_n (pc := 87) dX8_keeps_87 rfl ?_
        refine go_iadd (pc := 88) dX8_keeps_88 ?_
        refine go_iald (pc := 89) dX8_keeps_89 (by first | exact mo0 hM | exact mo1 hM | exact mo6 hM | exact mo7 hM | exact mo8 hM | exact mo2 hM | exact mo3 hM | exact mo4 hM | exact mo5 hM | exact mo9 hM | exact mo10 hM | exact mo11 hM | exact mo12 hM | exact mo13 hM | exact mo14 hM | exact mo15 hM | exact mo16 hM) (by exact ⟨nI_add 8 _, by omega⟩) ?_
        refine go_mstK (pc := 90) hM dX8_keeps_90 (by exact ⟨by rw [cpK_7, g2]; exact kp_ix, by omega⟩) (fun σ hM hf9 => ?_)
        have hf := hf.tr hf9
        refine go_iinc (v := 1) (lw := [_, _]) (pc := 91) dX8_keeps_91 rfl (by decide) (by decide) rfl ?_
        refine go_goto (tgt := 56) (pc := 94) dX8_keeps_94 (by decide) ?_
        rw [nI_1]
        exact ih _ _ _ ⟨_, rfl, (by rw [← cpK_s hi]; exact hM), hA, hf, rfl⟩
      · rintro lv9 σ n9 ⟨A9, rfl, hM, hA, hf, rfl⟩
        refine go_iload_n (pc := 56) dX8_keeps_56 rfl ?_
        refine go_bipush (v := 26) (pc := 57) dX8_keeps_57 (by decide) ?_
        refine go_icmp_ge (tgt := 97) (pc := 59) dX8_keeps_59 (by decide) (fun h_59 => ?_) (fun h_59 => by exfalso; exact h_59 (by decide))
        refine go_aload_n (pc := 97) dX8_keeps_97 rfl ?_
        refine go_getf (pc := 98) f_X8_9 dX8_keeps_98 (by first | exact mo0 hM | exact mo1 hM | exact mo6 hM | exact mo7 hM | exact mo8 hM | exact mo2 hM | exact mo3 hM | exact mo4 hM | exact mo5 hM | exact mo9 hM | exact mo10 hM | exact mo11 hM | exact mo12 hM | exact mo13 hM | exact mo14 hM | exact mo15 hM | exact mo16 hM) (by rfl) ?_
        refine go_bipush (v := 7) (pc := 101) dX8_keeps_101 (by decide) ?_
        refine go_dup2 (pc := 103) dX8_keeps_103 rfl rfl ?_
        refine go_iald (pc := 104) dX8_keeps_104 (by first | exact mo0 hM | exact mo1 hM | exact mo6 hM | exact mo7 hM | exact mo8 hM | exact mo2 hM | exact mo3 hM | exact mo4 hM | exact mo5 hM | exact mo9 hM | exact mo10 hM | exact mo11 hM | exact mo12 hM | exact mo13 hM | exact mo14 hM | exact mo15 hM | exact mo16 hM) (by first | exact ⟨nI_add _ _, by omega⟩ | exact ⟨rfl, by decide⟩ | exact ⟨rfl, by omega⟩) ?_
        refine go_iconst (v := 1) (pc := 105) dX8_keeps_105 (by decide) ?_
        refine go_iadd (pc := 106) dX8_keeps_106 ?_
        refine go_mstK (j := 7) (pc := 107) hM dX8_keeps_107 (by exact ⟨rfl, by decide⟩) (fun σ hM hf9 => ?_)
        have hf := hf.tr hf9
        exact go_vretV (pc := 108) rfl dX8_keeps_108 (Nat.le_of_ble_eq_true rfl) (Nat.le_of_ble_eq_true rfl) ⟨rfl, A9, (by rw [cpK_7] at hM; rw [keepK, g3]; exact hM), hA, hf⟩
  · refine go_aload_n (pc := 0) dX8_keeps_0 rfl ?_
    refine go_getf (pc := 1) f_X8_9 dX8_keeps_1 (by first | exact mo0 hM | exact mo1 hM | exact mo6 hM | exact mo7 hM | exact mo8 hM | exact mo2 hM | exact mo3 hM | exact mo4 hM | exact mo5 hM | exact mo9 hM | exact mo10 hM | exact mo11 hM | exact mo12 hM | exact mo13 hM | exact mo14 hM | exact mo15 hM | exact mo16 hM) (by rfl) ?_
    refine go_bipush (v := 7) (pc := 4) dX8_keeps_4 (by decide) ?_
    refine go_iald (j := 7) (pc := 6) dX8_keeps_6 (by first | exact mo0 hM | exact mo1 hM | exact mo6 hM | exact mo7 hM | exact mo8 hM | exact mo2 hM | exact mo3 hM | exact mo4 hM | exact mo5 hM | exact mo9 hM | exact mo10 hM | exact mo11 hM | exact mo12 hM | exact mo13 hM | exact mo14 hM | exact mo15 hM | exact mo16 hM) (by exact ⟨rfl, by decide⟩) ?_
    refine go_bipush (v := 10) (pc := 7) dX8_keeps_7 (by decide) ?_
    refine go_icmp_ne (tgt := 54) (pc := 9) dX8_keeps_9 (by decide) (fun h_9 => ?_) (fun h_9 => by exfalso; exact hten h_9)
    have ea : keepA K = K := by rw [keepA, if_neg hten]
    refine go_iconst (v := 0) (pc := 54) dX8_keeps_54 (by decide) ?_
    refine go_istore_n (lw := [_, _]) (pc := 55) dX8_keeps_55 (by decide) rfl ?_
    refine go_iter (26) (fun i lv9 s9 n9 => ∃ A9, lv9 = [some (.ref r), some (.int (nI i))] ∧ (MoAt Γ s9 r F (cpK d2 i (keepA K)) A9 Nm) ∧ (eqx [] A A9) ∧ (fr r (r + 16) z0 s9) ∧ n = n9) ⟨_, rfl, (by rw [cpK_0]; first | exact ea ▸ hM | (rw [ea]; exact hM)), hA, hf, rfl⟩ ?_ ?_
    · rintro i lv9 σ n9 hi ⟨A9, rfl, hM, hA, hf, rfl⟩ ih
      refine go_iload_n (pc := 56) dX8_keeps_56 rfl ?_
      refine go_bipush (v := 26) (pc := 57) dX8_keeps_57 (by decide) ?_
      refine go_icmp_ge (tgt := 97) (pc := 59) dX8_keeps_59 (by decide) (fun h_59 => by exfalso; exact absurd h_59 (nI_ge (b := 26) (by omega) (by decide))) (fun h_59 => ?_)
      refine go_aload_n (pc := 62) dX8_keeps_62 rfl ?_
      refine go_getf (pc := 63) f_X8_9 dX8_keeps_63 (by first | exact mo0 hM | exact mo1 hM | exact mo6 hM | exact mo7 hM | exact mo8 hM | exact mo2 hM | exact mo3 hM | exact mo4 hM | exact mo5 hM | exact mo9 hM | exact mo10 hM | exact mo11 hM | exact mo12 hM | exact mo13 hM | exact mo14 hM | exact mo15 hM | exact mo16 hM) (by rfl) ?_
      refine go_bipush (v := 59) (pc := 66) dX8_keeps_66 (by decide) ?_
      refine go_bipush (v := 26) (pc := 68) dX8_keeps_68 (by decide) ?_
      refine go_aload_n (pc := 70) dX8_keeps_70 rfl ?_
      refine go_getf (pc := 71) f_X8_9 dX8_keeps_71 (by first | exact mo0 hM | exact mo1 hM | exact mo6 hM | exact mo7 hM | exact mo8 hM | exact mo2 hM | exact mo3 hM | exact mo4 hM | exact mo5 hM | exact mo9 hM | exact mo10 hM | exact mo11 hM | exact mo12 hM | exact mo13 hM | exact mo14 hM | exact mo15 hM | exact mo16 hM) (by rfl) ?_
      refine go_bipush (v := 7) (pc := 74) dX8_keeps_74 (by decide) ?_
      refine go_iald (j := 7) (pc := 76) dX8_keeps_76 (by first | exact mo0 hM | exact mo1 hM | exact mo6 hM | exact mo7 hM | exact mo8 hM | exact mo2 hM | exact mo3 hM | exact mo4 hM | exact mo5 hM | exact mo9 hM | exact mo10 hM | exact mo11 hM | exact mo12 hM | exact mo13 hM | exact mo14 hM | exact mo15 hM | exact mo16 hM) (by exact ⟨rfl, by decide⟩) ?_
      refine go_imul (pc := 77) dX8_keeps_77 ?_
      refine go_iadd (pc := 78) dX8_keeps_78 ?_
      refine go_iload_n (pc := 79) dX8_keeps_79 rfl ?_
      refine go_iadd (pc := 80) dX8_keeps_80 ?_
      refine go_aload_n (pc := 81) dX8_keeps_81 rfl ?_
      refine go_getf (pc := 82) f_X8_9 dX8_keeps_82 (by first | exact mo0 hM | exact mo1 hM | exact mo6 hM | exact mo7 hM | exact mo8 hM | exact mo2 hM | exact mo3 hM | exact mo4 hM | exact mo5 hM | exact mo9 hM | exact mo10 hM | exact mo11 hM | exact mo12 hM | exact mo13 hM | exact mo14 hM | exact mo15 hM | exact mo16 hM) (by rfl) ?_
      refine go_bipush (v := 8) (pc := 85) dX8_keeps_85 (by decide) ?_
      refine go_iload_n (pc := 87) dX8_keeps_87 rfl ?_
      refine go_iadd (pc := 88) dX8_keeps_88 ?_
      refine go_iald (pc := 89) dX8_keeps_89 (by first | exact mo0 hM | exact mo1 hM | exact mo6 hM | exact mo7 hM | exact mo8 hM | exact mo2 hM | exact mo3 hM | exact mo4 hM | exact mo5 hM | exact mo9 hM | exact mo10 hM | exact mo11 hM | exact mo12 hM | exact mo13 hM | exact mo14 hM | exact mo15 hM | exact mo16 hM) (by exact ⟨nI_add 8 _, by omega⟩) ?_
      refine go_mstK (pc := 90) hM dX8_keeps_90 (by exact ⟨by rw [cpK_7, g2]; exact kp_ix, by omega⟩) (fun σ hM hf9 => ?_)
      have hf := hf.tr hf9
      refine go_iinc (v := 1) (lw := [_, _]) (pc := 91) dX8_keeps_91 rfl (by decide) (by decide) rfl ?_
      refine go_goto (tgt := 56) (pc := 94) dX8_keeps_94 (by decide) ?_
      rw [nI_1]
      exact ih _ _ _ ⟨_, rfl, (by rw [← cpK_s hi]; exact hM), hA, hf, rfl⟩
    · rintro lv9 σ n9 ⟨A9, rfl, hM, hA, hf, rfl⟩
      refine go_iload_n (pc := 56) dX8_keeps_56 rfl ?_
      refine go_bipush (v := 26) (pc := 57) dX8_keeps_57 (by decide) ?_
      refine go_icmp_ge (tgt := 97) (pc := 59) dX8_keeps_59 (by decide) (fun h_59 => ?_) (fun h_59 => by exfalso; exact h_59 (by decide))
      refine go_aload_n (pc := 97) dX8_keeps_97 rfl ?_
      refine go_getf (pc := 98) f_X8_9 dX8_keeps_98 (by first | exact mo0 hM | exact mo1 hM | exact mo6 hM | exact mo7 hM | exact mo8 hM | exact mo2 hM | exact mo3 hM | exact mo4 hM | exact mo5 hM | exact mo9 hM | exact mo10 hM | exact mo11 hM | exact mo12 hM | exact mo13 hM | exact mo14 hM | exact mo15 hM | exact mo16 hM) (by rfl) ?_
      refine go_bipush (v := 7) (pc := 101) dX8_keeps_101 (by decide) ?_
      refine go_dup2 (pc := 103) dX8_keeps_103 rfl rfl ?_
      refine go_iald (pc := 104) dX8_keeps_104 (by first | exact mo0 hM | exact mo1 hM | exact mo6 hM | exact mo7 hM | exact mo8 hM | exact mo2 hM | exact mo3 hM | exact mo4 hM | exact mo5 hM | exact mo9 hM | exact mo10 hM | exact mo11 hM | exact mo12 hM | exact mo13 hM | exact mo14 hM | exact mo15 hM | exact mo16 hM) (by first | exact ⟨nI_add _ _, by omega⟩ | exact ⟨rfl, by decide⟩ | exact ⟨rfl, by omega⟩) ?_
      refine go_iconst (v := 1) (pc := 105) dX8_keeps_105 (by decide) ?_
      refine go_iadd (pc := 106) dX8_keeps_106 ?_
      refine go_mstK (j := 7) (pc := 107) hM dX8_keeps_107 (by exact ⟨rfl, by decide⟩) (fun σ hM hf9 => ?_)
      have hf := hf.tr hf9
      exact go_vretV (pc := 108) rfl dX8_keeps_108 (Nat.le_of_ble_eq_true rfl) (Nat.le_of_ble_eq_true rfl) ⟨rfl, A9, (by rw [cpK_7] at hM; rw [keepK, g3]; exact hM), hA, hf⟩
theorem sp_goesOn {Γ : gam} {z0 : sto} {n k r : Nat} {F K : row} {A : Nat → row} {Nm : Nat → Int64} (hM : MoAt Γ z0 r F K A Nm) (hk : 8 ≤ k) (hB : okB K) (hv : vS K) {N9 : Nat} (hN : N9 < 1000) : Sp Γ (rmk k 0 0) uX8_goesOn [.ref r, .int (nI N9)] z0 n (qV fun σ' n' => moJ Γ r F (goK N9 K) A Nm z0 n [6, 7] σ' n') := by
  have hA : eqx [6, 7] A A := eqx.rf
  have hf : fr r (r + 16) z0 z0 := fr.rf
  refine sp_intro [some (.ref r), some (.int (nI N9)), none] (by decide +kernel) rfl (Nat.le_of_ble_eq_true rfl) rfl ?_
  refine go_iconst (v := 0) (pc := 0) dX8_goesOn_0 (by decide) ?_
  refine go_istore_n (lw := [_, _, _]) (pc := 1) dX8_goesOn_1 (by decide) rfl ?_
  refine go_iter (N9) (fun i lv9 s9 n9 => ∃ K9 A9, lv9 = [some (.ref r), some (.int (nI N9)), some (.int (nI i))] ∧ (MoAt Γ s9 r F K9 A9 Nm) ∧ (eqx [6, 7] A A9) ∧ (fr r (r + 16) z0 s9) ∧ (okB K9) ∧ (vS K9) ∧ (goK (N9 - i) K9 = goK N9 K) ∧ n = n9) ⟨K, _, rfl, hM, hA, hf, hB, hv, rfl, rfl⟩ ?_ ?_
  · rintro i lv9 σ n9 hi ⟨K9, A9, rfl, hM, hA, hf, hB, hv, hR, rfl⟩ ih
    refine go_iload_n (pc := 2) dX8_goesOn_2 rfl ?_
    refine go_iload_n (pc := 3) dX8_goesOn_3 rfl ?_
    refine go_icmp_ge (tgt := 17) (pc := 4) dX8_goesOn_4 (by decide) (fun h_4 => by exfalso; exact absurd h_4 (nI_ge (by omega) (by omega))) (fun h_4 => ?_)
    refine go_aload_n (pc := 7) dX8_goesOn_7 rfl ?_
    refine go_V0V (pc := 8) v_X8_345 rfl rfl (rcv_of (ci := 8) (by first | exact mo0 hM | exact mo1 hM | exact mo6 hM | exact mo7 hM | exact mo8 hM | exact mo2 hM | exact mo3 hM | exact mo4 hM | exact mo5 hM | exact mo9 hM | exact mo10 hM | exact mo11 hM | exact mo12 hM | exact mo13 hM | exact mo14 hM | exact mo15 hM | exact mo16 hM) rfl) dX8_goesOn_8 (sp_minute (k := k - 1) hM (by omega) hB hv) (fun σ n h => ?_)
    obtain ⟨rfl, A1, hM, hA1, hf1⟩ := h
    have hA := eqx.tr (L := [6, 7]) (by repeat (first | assumption | exact eqx.rf | refine eqx.up ?_ (by decide))) (hA1.wk (by decide))
    have hf := hf.tr hf1
    refine go_iinc (v := 1) (lw := [_, _, _]) (pc := 11) dX8_goesOn_11 rfl (by decide) (by decide) rfl ?_
    refine go_goto (tgt := 2) (pc := 14) dX8_goesOn_14 (by decide) ?_
    rw [nI_1]
    exact ih _ _ _ ⟨_, _, rfl, hM, hA, hf, ((minK_same hB.1.2.1).okB hB), (vS_min hv hB.1.2.1 hB.1.2.2.2.1), (by rw [← hR, goK_step hi]), rfl⟩
  · rintro lv9 σ n9 ⟨K9, A9, rfl, hM, hA, hf, hB, hv, hR, rfl⟩
    refine go_iload_n (pc := 2) dX8_goesOn_2 rfl ?_
    refine go_iload_n (pc := 3) dX8_goesOn_3 rfl ?_
    refine go_icmp_ge (tgt := 17) (pc := 4) dX8_goesOn_4 (by decide) (fun h_4 => ?_) (fun h_4 => by exfalso; exact h_4 (nI_le (by omega) (by omega)))
    exact go_vretV (pc := 17) rfl dX8_goesOn_17 (Nat.le_of_ble_eq_true rfl) (Nat.le_of_ble_eq_true rfl) ⟨rfl, A9, (by rw [Nat.sub_self] at hR; rw [← hR]; exact hM), hA, hf⟩
theorem sp_inFront {Γ : gam} {z0 : sto} {n k r : Nat} {F K : row} {A : Nat → row} {Nm : Nat → Int64} (hM : MoAt Γ z0 r F K A Nm) (hk : 1 ≤ k) (hB : okB K) : Sp Γ (rmk k 0 0) uX8_inFront [.ref r] z0 n (qP (frontK K) z0 n) := by
  have hP8 := hB.1.2.1
  refine sp_intro [some (.ref r), none, none] (by decide +kernel) rfl (Nat.le_of_ble_eq_true rfl) rfl ?_
  refine go_iconst (v := 0) (pc := 0) dX8_inFront_0 (by decide) ?_
  refine go_istore_n (lw := [_, _, _]) (pc := 1) dX8_inFront_1 (by decide) rfl ?_
  refine go_iconst (v := 0) (pc := 2) dX8_inFront_2 (by decide) ?_
  refine go_istore_n (lw := [_, _, _]) (pc := 3) dX8_inFront_3 (by decide) rfl ?_
  refine go_iter (kP K) (fun i lv9 s9 n9 => ∃ x1, lv9 = [some (.ref r), some (.int x1), some (.int (nI i))] ∧ (bits (fun p => decide (K (16 + p) = 0)) (kP K - i) i x1 = frontK K) ∧ (z0 = s9) ∧ n = n9) ⟨0, rfl, rfl, rfl, rfl⟩ ?_ ?_
  · rintro i lv9 σ n9 hi ⟨x1, rfl, hR, rfl, rfl⟩ ih
    refine go_iload_n (pc := 4) dX8_inFront_4 rfl ?_
    refine go_aload_n (pc := 5) dX8_inFront_5 rfl ?_
    refine go_V0P (pc := 6) v_X8_242 rfl rfl (rcv_of (ci := 8) (by first | exact mo0 hM | exact mo1 hM | exact mo6 hM | exact mo7 hM | exact mo8 hM | exact mo2 hM | exact mo3 hM | exact mo4 hM | exact mo5 hM | exact mo9 hM | exact mo10 hM | exact mo11 hM | exact mo12 hM | exact mo13 hM | exact mo14 hM | exact mo15 hM | exact mo16 hM) rfl) dX8_inFront_6 (sp_people (k := k - 1) hM) ?_
    rw [hB.1.1]
    refine go_icmp_ge (tgt := 40) (pc := 9) dX8_inFront_9 (by decide) (fun h_9 => by exfalso; exact absurd h_9 (nI_ge (by omega) (by omega))) (fun h_9 => ?_)
    refine go_iload_n (pc := 12) dX8_inFront_12 rfl ?_
    refine go_aload_n (pc := 13) dX8_inFront_13 rfl ?_
    refine go_getf (pc := 14) f_X8_9 dX8_inFront_14 (by first | exact mo0 hM | exact mo1 hM | exact mo6 hM | exact mo7 hM | exact mo8 hM | exact mo2 hM | exact mo3 hM | exact mo4 hM | exact mo5 hM | exact mo9 hM | exact mo10 hM | exact mo11 hM | exact mo12 hM | exact mo13 hM | exact mo14 hM | exact mo15 hM | exact mo16 hM) (by rfl) ?_
    refine go_bipush (v := 16) (pc := 17) dX8_inFront_17 (by decide) ?_
    refine go_iload_n (pc := 19) dX8_inFront_19 rfl ?_
    refine go_iadd (pc := 20) dX8_inFront_20 ?_
    refine go_iald (pc := 21) dX8_inFront_21 (by first | exact mo0 hM | exact mo1 hM | exact mo6 hM | exact mo7 hM | exact mo8 hM | exact mo2 hM | exact mo3 hM | exact mo4 hM | exact mo5 hM | exact mo9 hM | exact mo10 hM | exact mo11 hM | exact mo12 hM | exact mo13 hM | exact mo14 hM | exact mo15 hM | exact mo16 hM) (by exact ⟨nI_add 16 _, by omega⟩) ?_
    refine go_if_ne (tgt := 31) (pc := 22) dX8_inFront_22 (by decide) (fun h_22 => ?_) (fun h_22 => ?_)
    · refine go_iconst (v := 0) (pc := 31) dX8_inFront_31 (by decide) ?_
      refine go_ior (pc := 32) dX8_inFront_32 ?_
      refine go_istore_n (lw := [_, _, _]) (pc := 33) dX8_inFront_33 (by decide) rfl ?_
      refine go_iinc (v := 1) (lw := [_, _, _]) (pc := 34) dX8_inFront_34 rfl (by decide) (by decide) rfl ?_
      refine go_goto (tgt := 4) (pc := 37) dX8_inFront_37 (by decide) ?_
      rw [nI_1]
      exact ih _ _ _ ⟨_, rfl, (by rw [← hR, bits_step hi]; congr 2; split <;> simp_all), rfl, rfl⟩
    · refine go_iconst (v := 1) (pc := 25) dX8_inFront_25 (by decide) ?_
      refine go_iload_n (pc := 26) dX8_inFront_26 rfl ?_
      refine go_ishl (pc := 27) dX8_inFront_27 ?_
      refine go_goto (tgt := 32) (pc := 28) dX8_inFront_28 (by decide) ?_
      refine go_ior (pc := 32) dX8_inFront_32 ?_
      refine go_istore_n (lw := [_, _, _]) (pc := 33) dX8_inFront_33 (by decide) rfl ?_
      refine go_iinc (v := 1) (lw := [_, _, _]) (pc := 34) dX8_inFront_34 rfl (by decide) (by decide) rfl ?_
      refine go_goto (tgt := 4) (pc := 37) dX8_inFront_37 (by decide) ?_
      rw [nI_1]
      exact ih _ _ _ ⟨_, rfl, (by rw [← hR, bits_step hi]; congr 2; split <;> simp_all), rfl, rfl⟩
  · rintro lv9 σ n9 ⟨x1, rfl, hR, rfl, rfl⟩
    refine go_iload_n (pc := 4) dX8_inFront_4 rfl ?_
    refine go_aload_n (pc := 5) dX8_inFront_5 rfl ?_
    refine go_V0P (pc := 6) v_X8_242 rfl rfl (rcv_of (ci := 8) (by first | exact mo0 hM | exact mo1 hM | exact mo6 hM | exact mo7 hM | exact mo8 hM | exact mo2 hM | exact mo3 hM | exact mo4 hM | exact mo5 hM | exact mo9 hM | exact mo10 hM | exact mo11 hM | exact mo12 hM | exact mo13 hM | exact mo14 hM | exact mo15 hM | exact mo16 hM) rfl) dX8_inFront_6 (sp_people (k := k - 1) hM) ?_
    rw [hB.1.1]
    refine go_icmp_ge (tgt := 40) (pc := 9) dX8_inFront_9 (by decide) (fun h_9 => ?_) (fun h_9 => by exfalso; exact h_9 (nI_le (by omega) (by omega)))
    refine go_iload_n (pc := 40) dX8_inFront_40 rfl ?_
    exact go_iretP (pc := 41) rfl dX8_inFront_41 (Nat.le_of_ble_eq_true rfl) (Nat.le_of_ble_eq_true rfl) (by rw [Nat.sub_self] at hR; exact hR)
theorem sp_placeOf {Γ : gam} {z0 : sto} {n k r : Nat} {F K : row} {A : Nat → row} {Nm : Nat → Int64} (hM : MoAt Γ z0 r F K A Nm) (hk : 1 ≤ k) {p : Nat} (hp : p < 8) : Sp Γ (rmk k 0 0) uX8_placeOf [.ref r, .int (nI p)] z0 n (qP (placeK K p) z0 n) := by
  refine sp_intro [some (.ref r), some (.int (nI p))] (by decide +kernel) rfl (Nat.le_of_ble_eq_true rfl) rfl ?_
  refine go_aload_n (pc := 0) dX8_placeOf_0 rfl ?_
  refine go_iload_n (pc := 1) dX8_placeOf_1 rfl ?_
  refine go_V1P (pc := 2) v_X8_296 rfl rfl (rcv_of (ci := 8) (by first | exact mo0 hM | exact mo1 hM | exact mo6 hM | exact mo7 hM | exact mo8 hM | exact mo2 hM | exact mo3 hM | exact mo4 hM | exact mo5 hM | exact mo9 hM | exact mo10 hM | exact mo11 hM | exact mo12 hM | exact mo13 hM | exact mo14 hM | exact mo15 hM | exact mo16 hM) rfl) dX8_placeOf_2 (sp_isUp (k := k - 1) hM (by omega)) ?_
  refine go_if_eq (tgt := 12) (pc := 5) dX8_placeOf_5 (by decide) (fun h_5 => ?_) (fun h_5 => ?_)
  · refine go_bipush (v := 10) (pc := 12) dX8_placeOf_12 (by decide) ?_
    refine go_aload_n (pc := 14) dX8_placeOf_14 rfl ?_
    refine go_getf (pc := 15) f_X8_9 dX8_placeOf_15 (by first | exact mo0 hM | exact mo1 hM | exact mo6 hM | exact mo7 hM | exact mo8 hM | exact mo2 hM | exact mo3 hM | exact mo4 hM | exact mo5 hM | exact mo9 hM | exact mo10 hM | exact mo11 hM | exact mo12 hM | exact mo13 hM | exact mo14 hM | exact mo15 hM | exact mo16 hM) (by rfl) ?_
    refine go_bipush (v := 8) (pc := 18) dX8_placeOf_18 (by decide) ?_
    refine go_iload_n (pc := 20) dX8_placeOf_20 rfl ?_
    refine go_iadd (pc := 21) dX8_placeOf_21 ?_
    refine go_iald (pc := 22) dX8_placeOf_22 (by first | exact mo0 hM | exact mo1 hM | exact mo6 hM | exact mo7 hM | exact mo8 hM | exact mo2 hM | exact mo3 hM | exact mo4 hM | exact mo5 hM | exact mo9 hM | exact mo10 hM | exact mo11 hM | exact mo12 hM | exact mo13 hM | exact mo14 hM | exact mo15 hM | exact mo16 hM) (by exact ⟨nI_add 8 _, by omega⟩) ?_
    refine go_imul (pc := 23) dX8_placeOf_23 ?_
    refine go_aload_n (pc := 24) dX8_placeOf_24 rfl ?_
    refine go_getf (pc := 25) f_X8_9 dX8_placeOf_25 (by first | exact mo0 hM | exact mo1 hM | exact mo6 hM | exact mo7 hM | exact mo8 hM | exact mo2 hM | exact mo3 hM | exact mo4 hM | exact mo5 hM | exact mo9 hM | exact mo10 hM | exact mo11 hM | exact mo12 hM | exact mo13 hM | exact mo14 hM | exact mo15 hM | exact mo16 hM) (by rfl) ?_
    refine go_bipush (v := 16) (pc := 28) dX8_placeOf_28 (by decide) ?_
    refine go_iload_n (pc := 30) dX8_placeOf_30 rfl ?_
    refine go_iadd (pc := 31) dX8_placeOf_31 ?_
    refine go_iald (pc := 32) dX8_placeOf_32 (by first | exact mo0 hM | exact mo1 hM | exact mo6 hM | exact mo7 hM | exact mo8 hM | exact mo2 hM | exact mo3 hM | exact mo4 hM | exact mo5 hM | exact mo9 hM | exact mo10 hM | exact mo11 hM | exact mo12 hM | exact mo13 hM | exact mo14 hM | exact mo15 hM | exact mo16 hM) (by exact ⟨nI_add 16 _, by omega⟩) ?_
    refine go_iadd (pc := 33) dX8_placeOf_33 ?_
    exact go_iretP (pc := 34) rfl dX8_placeOf_34 (Nat.le_of_ble_eq_true rfl) (Nat.le_of_ble_eq_true rfl) (by unfold placeK upK; split <;> simp_all [bI_0])
  · refine go_iconst (v := -1) (pc := 8) dX8_placeOf_8 (by decide) ?_
    refine go_goto (tgt := 34) (pc := 9) dX8_placeOf_9 (by decide) ?_
    exact go_iretP (pc := 34) rfl dX8_placeOf_34 (Nat.le_of_ble_eq_true rfl) (Nat.le_of_ble_eq_true rfl) (by unfold placeK upK; split <;> simp_all [bI_0])
