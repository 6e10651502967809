/-! ===== the class: history ===== -/
theorem cp_keep {Γ : gam} {ro : Nat → Nat} {z0 : sto} {n k h_q b_q f_q d_q s : Nat} {w : Int32} {K ch co rw bk : row} (hH : HiAt Γ ro z0 h_q b_q f_q d_q K) (hR_q : SrAt Γ ro z0 s b_q w (K 33) ch co rw bk) (hr_q : rS K ch co rw bk) (hw_q : w = K 32) (hB_q : okB K) (hsh : s + 4 < h_q ∨ h_q + 51 < s) (hk : 2 ≤ k) : Sp Γ (rmk k 0 0) uX1_keep [.ref h_q, .ref s] z0 n (qV fun σ' n' => n' = n ∧ (∃ f' d', HiAt Γ ro σ' h_q b_q f' d' (keepK K)) ∧ frS Γ ro (fun q => h_q ≤ q ∧ q ≤ h_q + 51) z0 σ') := by
  have hP8 := hB_q.1.2.1
  have hf10 := hH.2.1.1
  have hd10 := hH.2.1.2.1
  refine sp_intro [some (.ref h_q), some (.ref s)] (by decide +kernel) rfl (Nat.le_of_ble_eq_true rfl) rfl ?_
  by_cases hd_q : d_q < 10
  · refine go_aload_n (pc := 0) dX1_keep_0 rfl ?_
    refine go_getf (pc := 1) f_X1_11 dX1_keep_1 (by first | exact hi0 hH | exact hi1 hH | exact hh0 | exact sr0 hT1 | exact sr0 hR_q) (by rfl) ?_
    refine go_aload_n (pc := 4) dX1_keep_4 rfl ?_
    refine go_getf (pc := 5) f_X1_17 dX1_keep_5 (by first | exact hi0 hH | exact hi1 hH | exact hh0 | exact sr0 hT1 | exact sr0 hR_q) (by rfl) ?_
    refine go_aload_n (pc := 8) dX1_keep_8 rfl ?_
    refine go_getf (pc := 9) f_X1_21 dX1_keep_9 (by first | exact hi0 hH | exact hi1 hH | exact hh0 | exact sr0 hT1 | exact sr0 hR_q) (by rfl) ?_
    refine go_iadd (pc := 12) dX1_keep_12 ?_
    rw [nI_add]
    refine go_bipush (v := 10) (pc := 13) dX1_keep_13 (by decide) ?_
    refine go_irem (pc := 15) dX1_keep_15 (by decide) ?_
    rw [show nI (f_q + d_q) - nI (f_q + d_q) / 10 * 10 = nI ((f_q + d_q) % 10) from pk_rem (d := 10) (by omega) (by omega) (by omega)]
    refine go_aaload (pc := 16) dX1_keep_16 (by first | exact hi0 hH | exact hi1 hH | exact hh0 | exact sr0 hT1 | exact sr0 hR_q) rfl (vp_in_nI (n := (f_q + d_q) % 10) (N := 10) (by omega) (by decide)) (show some (h_q + 2 + 5 * (nI ((f_q + d_q) % 10)).toNatClampNeg) = some (h_q + 2 + 5 * ((f_q + d_q) % 10)) from by rw [nI_clamp (by omega)]) ?_
    obtain ⟨b8, w8, m8, c8, o8, r8, k8, hT1⟩ := hH.2.2.2.2.1 ((f_q + d_q) % 10) (by omega)
    have hm9 : (f_q + d_q) % 10 < 10 := Nat.mod_lt _ (by omega)
    refine go_aload_n (pc := 17) dX1_keep_17 rfl ?_
    refine go_V1V (pc := 18) v_X1_27 rfl rfl (rcv_of (ci := 5) (by first | exact hi0 hH | exact hi1 hH | exact hh0 | exact sr0 hT1 | exact sr0 hR_q) rfl) dX1_keep_18 (cp_copyFrom (k := k - 1) hT1 hR_q (by omega) (by omega)) (fun σ n h_q => ?_)
    obtain ⟨rfl, ⟨ch1, co1, rw1, bk1, hT1, q1_q, q2, q3, q4⟩, hf1⟩ := h_q
    have hr1 : rS K ch1 co1 rw1 bk1 := rS_cong hB_q hr_q q1_q q2 q3 q4
    have hu : frS Γ ro (fun q => h_q + 2 + 5 * ((f_q + d_q) % 10) ≤ q ∧ q ≤ h_q + 2 + 5 * ((f_q + d_q) % 10) + 4) z0 σ := hf1.toS (fun q x_q y_q => ⟨x_q, y_q⟩)
    have hh0 := hu.at (by omega) hH.1.1 (hi0 hH)
    refine go_aload_n (pc := 21) dX1_keep_21 rfl ?_
    refine go_getf (pc := 22) f_X1_21 dX1_keep_22 (by first | exact hi0 hH | exact hi1 hH | exact hh0 | exact sr0 hT1 | exact sr0 hR_q) (by rfl) ?_
    refine go_bipush (v := 10) (pc := 25) dX1_keep_25 (by decide) ?_
    refine go_icmp_ge (tgt := 43) (pc := 27) dX1_keep_27 (by decide) (fun h_27 => by exfalso; exact absurd h_27 (nI_ge (b := 10) (by omega) (by decide))) (fun h_27 => ?_)
    refine go_aload_n (pc := 30) dX1_keep_30 rfl ?_
    refine go_dup (pc := 31) dX1_keep_31 rfl ?_
    refine go_getf (pc := 32) f_X1_21 dX1_keep_32 (by first | exact hi0 hH | exact hi1 hH | exact hh0 | exact sr0 hT1 | exact sr0 hR_q) (by rfl) ?_
    refine go_iconst (v := 1) (pc := 35) dX1_keep_35 (by decide) ?_
    refine go_iadd (pc := 36) dX1_keep_36 ?_
    rw [nI_1]
    refine go_putf (fs' := [_, _, _]) (pc := 37) f_X1_21 dX1_keep_37 hh0 (Nat.le_of_ble_eq_true rfl) (by rfl) rfl rfl ?_
    refine go_goto (tgt := 56) (pc := 40) dX1_keep_40 (by decide) ?_
    exact go_vretV (pc := 56) rfl dX1_keep_56 (Nat.le_of_ble_eq_true rfl) (Nat.le_of_ble_eq_true rfl) (by
  have hu2 : frS Γ ro (fun q => h_q ≤ q ∧ q ≤ h_q + 51) z0 (sup σ h_q (cO 1 [.ref (h_q + 1), .int (nI (f_q)), .int (nI (d_q + 1))])) := frS.up (hu.wk (fun q x_q => by omega)) ⟨Nat.le_refl _, by omega⟩
  have hv_q : frS Γ ro (fun q => q = h_q ∨ (h_q + 2 + 5 * ((f_q + d_q) % 10) ≤ q ∧ q ≤ h_q + 2 + 5 * ((f_q + d_q) % 10) + 4)) z0 (sup σ h_q (cO 1 [.ref (h_q + 1), .int (nI (f_q)), .int (nI (d_q + 1))])) := frS.up (hu.wk (fun q x_q => Or.inr x_q)) (Or.inl rfl)
  have hT2 : SrAt Γ ro (sup σ h_q (cO 1 [.ref (h_q + 1), .int (nI (f_q)), .int (nI (d_q + 1))])) (h_q + 2 + 5 * ((f_q + d_q) % 10)) b_q w (K 33) ch1 co1 rw1 bk1 := hT1.fs (frS.one (x := h_q) (fun q hq_q => sup_ne hq_q rfl)) (fun q x_q y_q z_q => by omega)
  refine ⟨rfl, ⟨f_q, d_q + 1, hH.1, ⟨by omega, by omega, ?_⟩, sup_eq, hv_q.at (by omega) hH.1.2 (hi1 hH), fun i_q hi_q => ?_, fun i_q hi_q => ?_⟩, hu2⟩
  · rw [keep_7 hH.2.1.2.2 hH.2.1.2.1]; rw [if_pos hd_q]
  · by_cases e9_q : i_q = (f_q + d_q) % 10
    · rw [e9_q]; exact hT2.T
    · exact (hH.2.2.2.2.1 i_q hi_q).fs hv_q (fun q x_q y_q z_q => by omega)
  · have sU := keepK_same hH.2.1.2.2 hH.2.1.2.1
    by_cases e9_q : i_q = d_q
    · rw [e9_q]
      exact cp_ob hT2 hr1 hw_q hP8 (fun j h1_q h2_q => sU j (by omega)) (fun j hj_q => sU j (by omega)) (fun j hj_q => keep_new hH.2.1.2.2 hd_q hj_q)
    · have hid : i_q < d_q := by omega
      have hne : (f_q + i_q) % 10 ≠ (f_q + d_q) % 10 := by omega
      refine ((hH.2.2.2.2.2 i_q hid).fs hv_q (fun q x_q y_q z_q => by omega)).eq (by rw [setS_P]; exact hP8) (fun j hj_q => ?_) (keep_und hH.2.1.2.2 hd_q hid (by omega))
      by_cases hj2 : 8 ≤ j ∧ j < 34
      · rw [setS_at hj2, setS_at hj2]; exact keep_und hH.2.1.2.2 hd_q hid (by omega)
      · rw [setS_ne hj2, setS_ne hj2]; exact sU j (by omega))
  · obtain rfl : d_q = 10 := by omega
    refine go_aload_n (pc := 0) dX1_keep_0 rfl ?_
    refine go_getf (pc := 1) f_X1_11 dX1_keep_1 (by first | exact hi0 hH | exact hi1 hH | exact hh0 | exact sr0 hT1 | exact sr0 hR_q) (by rfl) ?_
    refine go_aload_n (pc := 4) dX1_keep_4 rfl ?_
    refine go_getf (pc := 5) f_X1_17 dX1_keep_5 (by first | exact hi0 hH | exact hi1 hH | exact hh0 | exact sr0 hT1 | exact sr0 hR_q) (by rfl) ?_
    refine go_aload_n (pc := 8) dX1_keep_8 rfl ?_
    refine go_getf (pc := 9) f_X1_21 dX1_keep_9 (by first | exact hi0 hH | exact hi1 hH | exact hh0 | exact sr0 hT1 | exact sr0 hR_q) (by rfl) ?_
    refine go_iadd (pc := 12) dX1_keep_12 ?_
    rw [nI_add]
    refine go_bipush (v := 10) (pc := 13) dX1_keep_13 (by decide) ?_
    refine go_irem (pc := 15) dX1_keep_15 (by decide) ?_
    rw [show nI (f_q + 10) - nI (f_q + 10) / 10 * 10 = nI ((f_q + 10) % 10) from pk_rem (d := 10) (by omega) (by omega) (by omega)]
    refine go_aaload (pc := 16) dX1_keep_16 (by first | exact hi0 hH | exact hi1 hH | exact hh0 | exact sr0 hT1 | exact sr0 hR_q) rfl (vp_in_nI (n := (f_q + 10) % 10) (N := 10) (by omega) (by decide)) (show some (h_q + 2 + 5 * (nI ((f_q + 10) % 10)).toNatClampNeg) = some (h_q + 2 + 5 * ((f_q + 10) % 10)) from by rw [nI_clamp (by omega)]) ?_
    obtain ⟨b8, w8, m8, c8, o8, r8, k8, hT1⟩ := hH.2.2.2.2.1 ((f_q + 10) % 10) (by omega)
    have hm9 : (f_q + 10) % 10 < 10 := Nat.mod_lt _ (by omega)
    refine go_aload_n (pc := 17) dX1_keep_17 rfl ?_
    refine go_V1V (pc := 18) v_X1_27 rfl rfl (rcv_of (ci := 5) (by first | exact hi0 hH | exact hi1 hH | exact hh0 | exact sr0 hT1 | exact sr0 hR_q) rfl) dX1_keep_18 (cp_copyFrom (k := k - 1) hT1 hR_q (by omega) (by omega)) (fun σ n h_q => ?_)
    obtain ⟨rfl, ⟨ch1, co1, rw1, bk1, hT1, q1_q, q2, q3, q4⟩, hf1⟩ := h_q
    have hr1 : rS K ch1 co1 rw1 bk1 := rS_cong hB_q hr_q q1_q q2 q3 q4
    have hu : frS Γ ro (fun q => h_q + 2 + 5 * ((f_q + 10) % 10) ≤ q ∧ q ≤ h_q + 2 + 5 * ((f_q + 10) % 10) + 4) z0 σ := hf1.toS (fun q x_q y_q => ⟨x_q, y_q⟩)
    have hh0 := hu.at (by omega) hH.1.1 (hi0 hH)
    refine go_aload_n (pc := 21) dX1_keep_21 rfl ?_
    refine go_getf (pc := 22) f_X1_21 dX1_keep_22 (by first | exact hi0 hH | exact hi1 hH | exact hh0 | exact sr0 hT1 | exact sr0 hR_q) (by rfl) ?_
    refine go_bipush (v := 10) (pc := 25) dX1_keep_25 (by decide) ?_
    refine go_icmp_ge (tgt := 43) (pc := 27) dX1_keep_27 (by decide) (fun h_27 => ?_) (fun h_27 => by exfalso; exact h_27 (by decide))
    refine go_aload_n (pc := 43) dX1_keep_43 rfl ?_
    refine go_aload_n (pc := 44) dX1_keep_44 rfl ?_
    refine go_getf (pc := 45) f_X1_17 dX1_keep_45 (by first | exact hi0 hH | exact hi1 hH | exact hh0 | exact sr0 hT1 | exact sr0 hR_q) (by rfl) ?_
    refine go_iconst (v := 1) (pc := 48) dX1_keep_48 (by decide) ?_
    refine go_iadd (pc := 49) dX1_keep_49 ?_
    rw [nI_1]
    refine go_bipush (v := 10) (pc := 50) dX1_keep_50 (by decide) ?_
    refine go_irem (pc := 52) dX1_keep_52 (by decide) ?_
    rw [show nI (f_q + 1) - nI (f_q + 1) / 10 * 10 = nI ((f_q + 1) % 10) from pk_rem (d := 10) (by omega) (by omega) (by omega)]
    refine go_putf (fs' := [_, _, _]) (pc := 53) f_X1_17 dX1_keep_53 hh0 (Nat.le_of_ble_eq_true rfl) (by rfl) rfl rfl ?_
    exact go_vretV (pc := 56) rfl dX1_keep_56 (Nat.le_of_ble_eq_true rfl) (Nat.le_of_ble_eq_true rfl) (by
  have hu2 : frS Γ ro (fun q => h_q ≤ q ∧ q ≤ h_q + 51) z0 (sup σ h_q (cO 1 [.ref (h_q + 1), .int (nI ((f_q + 1) % 10)), .int (nI (10))])) := frS.up (hu.wk (fun q x_q => by omega)) ⟨Nat.le_refl _, by omega⟩
  have hv_q : frS Γ ro (fun q => q = h_q ∨ (h_q + 2 + 5 * ((f_q + 10) % 10) ≤ q ∧ q ≤ h_q + 2 + 5 * ((f_q + 10) % 10) + 4)) z0 (sup σ h_q (cO 1 [.ref (h_q + 1), .int (nI ((f_q + 1) % 10)), .int (nI (10))])) := frS.up (hu.wk (fun q x_q => Or.inr x_q)) (Or.inl rfl)
  have hT2 : SrAt Γ ro (sup σ h_q (cO 1 [.ref (h_q + 1), .int (nI ((f_q + 1) % 10)), .int (nI (10))])) (h_q + 2 + 5 * ((f_q + 10) % 10)) b_q w (K 33) ch1 co1 rw1 bk1 := hT1.fs (frS.one (x := h_q) (fun q hq_q => sup_ne hq_q rfl)) (fun q x_q y_q z_q => by omega)
  refine ⟨rfl, ⟨(f_q + 1) % 10, 10, hH.1, ⟨by omega, by omega, ?_⟩, sup_eq, hv_q.at (by omega) hH.1.2 (hi1 hH), fun i_q hi_q => ?_, fun i_q hi_q => ?_⟩, hu2⟩
  · rw [keep_7 hH.2.1.2.2 hH.2.1.2.1]; rw [if_neg (by omega)]
  · by_cases e9_q : i_q = (f_q + 10) % 10
    · rw [e9_q]; exact hT2.T
    · exact (hH.2.2.2.2.1 i_q hi_q).fs hv_q (fun q x_q y_q z_q => by omega)
  · have sU := keepK_same hH.2.1.2.2 hH.2.1.2.1
    have h7_q := hH.2.1.2.2
    by_cases e9_q : i_q = 9
    · rw [e9_q, show ((f_q + 1) % 10 + 9) % 10 = (f_q + 10) % 10 by omega]
      exact cp_ob hT2 hr1 hw_q hP8 (fun j h1_q h2_q => sU j (by omega)) (fun j hj_q => sU j (by omega)) (fun j hj_q => keep_new10 h7_q hj_q)
    · have hid : i_q < 9 := by omega
      rw [show ((f_q + 1) % 10 + i_q) % 10 = (f_q + (i_q + 1)) % 10 by omega]
      refine ((hH.2.2.2.2.2 (i_q + 1) (by omega)).fs hv_q (fun q x_q y_q z_q => by omega)).eq (by rw [setS_P]; exact hP8) (fun j hj_q => ?_) (keep_und10 h7_q hid (by omega))
      by_cases hj2 : 8 ≤ j ∧ j < 34
      · rw [setS_at hj2, setS_at hj2]; exact keep_und10 h7_q hid (by omega)
      · rw [setS_ne hj2, setS_ne hj2]; exact sU j (by omega))
theorem cp_goBack {Γ : gam} {ro : Nat → Nat} {z0 : sto} {n k h_q b_q b1_q f_q d_q s m : Nat} {w m1 : Int32} {K ch co rw bk : row} (hH : HiAt Γ ro z0 h_q b_q f_q d_q K) (hR_q : SrAt Γ ro z0 s b1_q w m1 ch co rw bk) (hB_q : okB K) (hsh : s + 4 < h_q ∨ h_q + 51 < s) (hm_q : m ≤ d_q) (hm0 : 0 < m) (hk : 2 ≤ k) : Sp Γ (rmk k 0 0) uX1_goBack [.ref h_q, .int (nI m), .ref s] z0 n (qV fun σ' n' => n' = n ∧ SeAt Γ ro σ' s b_q ((setS (upd K 7 (nI (d_q - m))) (undK K (d_q - m))) 32) (setS (upd K 7 (nI (d_q - m))) (undK K (d_q - m))) ∧ HiAt Γ ro σ' h_q b_q f_q (d_q - m) (setS (upd K 7 (nI (d_q - m))) (undK K (d_q - m))) ∧ frS Γ ro (fun q => q = h_q ∨ (s ≤ q ∧ q ≤ s + 4)) z0 σ') := by
  have hP8 := hB_q.1.2.1
  have hf10 := hH.2.1.1
  have hd10 := hH.2.1.2.1
  refine sp_intro [some (.ref h_q), some (.int (nI m)), some (.ref s)] (by decide +kernel) rfl (Nat.le_of_ble_eq_true rfl) rfl ?_
  refine go_iload_n (pc := 0) dX1_goBack_0 rfl ?_
  refine go_if_lt (tgt := 43) (pc := 1) dX1_goBack_1 (by decide) (fun h_1 => by exfalso; exact absurd h_1 (nI_pos (by omega))) (fun h_1 => ?_)
  refine go_iload_n (pc := 4) dX1_goBack_4 rfl ?_
  refine go_aload_n (pc := 5) dX1_goBack_5 rfl ?_
  refine go_getf (pc := 6) f_X1_21 dX1_goBack_6 (by first | exact hh0 | exact hh1 | exact hi0 hH | exact hi1 hH | exact sr0 hR_q) (by rfl) ?_
  refine go_icmp_gt (tgt := 43) (pc := 9) dX1_goBack_9 (by decide) (fun h_9 => by exfalso; exact absurd h_9 (Int32.not_lt.mpr (nI_le (by omega) (by omega)))) (fun h_9 => ?_)
  refine go_aload_n (pc := 12) dX1_goBack_12 rfl ?_
  refine go_dup (pc := 13) dX1_goBack_13 rfl ?_
  refine go_getf (pc := 14) f_X1_21 dX1_goBack_14 (by first | exact hh0 | exact hh1 | exact hi0 hH | exact hi1 hH | exact sr0 hR_q) (by rfl) ?_
  refine go_iload_n (pc := 17) dX1_goBack_17 rfl ?_
  refine go_isub (pc := 18) dX1_goBack_18 ?_
  rw [pk_sub (by omega)]
  refine go_putf (fs' := [_, _, _]) (pc := 19) f_X1_21 dX1_goBack_19 (by first | exact hh0 | exact hh1 | exact hi0 hH | exact hi1 hH | exact sr0 hR_q) (Nat.le_of_ble_eq_true rfl) (by rfl) rfl rfl ?_
  have hh0 : sup z0 h_q (cO 1 [.ref (h_q + 1), .int (nI f_q), .int (nI (d_q - m))]) h_q = _ := sup_eq
  have hh1 := sup_ne (a := h_q) (e := cO 1 [.ref (h_q + 1), .int (nI f_q), .int (nI (d_q - m))]) (by omega) (hi1 hH)
  have hu := frS.one (Γ := Γ) (ro := ro) (x := h_q) (σ := z0) (σ1 := sup z0 h_q (cO 1 [.ref (h_q + 1), .int (nI f_q), .int (nI (d_q - m))])) (fun q hq_q => sup_ne hq_q rfl)
  have hR_q := hR_q.fs hu (fun q x_q y_q z_q => by omega)
  refine go_aload_n (pc := 22) dX1_goBack_22 rfl ?_
  refine go_aload_n (pc := 23) dX1_goBack_23 rfl ?_
  refine go_getf (pc := 24) f_X1_11 dX1_goBack_24 (by first | exact hh0 | exact hh1 | exact hi0 hH | exact hi1 hH | exact sr0 hR_q) (by rfl) ?_
  refine go_aload_n (pc := 27) dX1_goBack_27 rfl ?_
  refine go_getf (pc := 28) f_X1_17 dX1_goBack_28 (by first | exact hh0 | exact hh1 | exact hi0 hH | exact hi1 hH | exact sr0 hR_q) (by rfl) ?_
  refine go_aload_n (pc := 31) dX1_goBack_31 rfl ?_
  refine go_getf (pc := 32) f_X1_21 dX1_goBack_32 (by first | exact hh0 | exact hh1 | exact hi0 hH | exact hi1 hH | exact sr0 hR_q) (by rfl) ?_
  refine go_iadd (pc := 35) dX1_goBack_35 ?_
  rw [nI_add]
  refine go_bipush (v := 10) (pc := 36) dX1_goBack_36 (by decide) ?_
  refine go_irem (pc := 38) dX1_goBack_38 (by decide) ?_
  rw [show nI (f_q + (d_q - m)) - nI (f_q + (d_q - m)) / 10 * 10 = nI ((f_q + (d_q - m)) % 10) from pk_rem (d := 10) (by omega) (by omega) (by omega)]
  refine go_aaload (pc := 39) dX1_goBack_39 (by first | exact hh0 | exact hh1 | exact hi0 hH | exact hi1 hH | exact sr0 hR_q) rfl (vp_in_nI (n := (f_q + (d_q - m)) % 10) (N := 10) (by omega) (by decide)) (show some (h_q + 2 + 5 * (nI ((f_q + (d_q - m)) % 10)).toNatClampNeg) = some (h_q + 2 + 5 * ((f_q + (d_q - m)) % 10)) from by rw [nI_clamp (by omega)]) ?_
  have hm9 : (f_q + (d_q - m)) % 10 < 10 := Nat.mod_lt _ (by omega)
  obtain ⟨ch8, co8, rw8, bk8, hT8, hr8⟩ := (hH.2.2.2.2.2 (d_q - m) (by omega)).fs hu (fun q x_q y_q z_q => by omega)
  refine go_V1V (pc := 40) v_X1_27 rfl rfl (rcv_of (ci := 5) (by first | exact hh0 | exact hh1 | exact hi0 hH | exact hi1 hH | exact sr0 hR_q) rfl) dX1_goBack_40 (cp_copyFrom (k := k - 1) hR_q hT8 (by omega) (by omega)) (fun σ n h_q => ?_)
  obtain ⟨rfl, ⟨ch1, co1, rw1, bk1, hT1, q1_q, q2, q3, q4⟩, hf1⟩ := h_q
  exact go_vretV (pc := 43) rfl dX1_goBack_43 (Nat.le_of_ble_eq_true rfl) (Nat.le_of_ble_eq_true rfl) (by
  have hb_q : frS Γ ro (fun q => q = h_q ∨ (s ≤ q ∧ q ≤ s + 4)) z0 σ := (hu.wk (fun q x_q => Or.inl x_q)).tr (hf1.toS (fun q x_q y_q => Or.inr ⟨x_q, y_q⟩))
  have hs1_q : frS Γ ro (fun q => s ≤ q ∧ q ≤ s + 4) (sup z0 h_q (cO 1 [.ref (h_q + 1), .int (nI f_q), .int (nI (d_q - m))])) σ := hf1.toS (fun q x_q y_q => ⟨x_q, y_q⟩)
  have hBs : okB (setS K (undK K (d_q - m))) := by
    have sB : sameB K (setS K (undK K (d_q - m))) := fun j hj_q => setS_ne (by omega)
    exact sB.okB hB_q
  have eU : ∀ j, 8 ≤ j → j < 34 → (setS (upd K 7 (nI (d_q - m))) (undK K (d_q - m))) j = undK K (d_q - m) (j - 8) := fun j h1_q h2_q => setS_at ⟨h1_q, h2_q⟩
  refine ⟨rfl, ⟨ch1, co1, rw1, bk1, ?_, rS_eq (rS_cong hBs hr8 q1_q q2 q3 q4) hBs.1.2.1 (fun j hj_q => ?_)⟩, ⟨hH.1, ⟨hf10, by omega, ?_⟩, hs1_q.at (by omega) hH.1.1 hh0, hs1_q.at (by omega) hH.1.2 hh1, fun i_q hi_q => ?_, fun i_q hi_q => ?_⟩, hb_q⟩
  · rw [eU 32 (by omega) (by omega), eU 33 (by omega) (by omega)]
    have e33 : setS K (undK K (d_q - m)) 33 = undK K (d_q - m) 25 := setS_at ⟨by omega, by omega⟩
    rw [e33] at hT1
    exact hT1
  · by_cases hj2 : 8 ≤ j
    · rw [eU j hj2 (by omega), setS_at ⟨hj2, by omega⟩]
    · rw [setS_ne (by omega), setS_ne (by omega), pk_un (by omega)]
  · rw [setS_ne (by omega), pk_us]
  · exact (hH.2.2.2.2.1 i_q hi_q).fs hb_q (fun q x_q y_q z_q => by omega)
  · refine ((hH.2.2.2.2.2 i_q (by omega)).fs hb_q (fun q x_q y_q z_q => by omega)).eq (by rw [setS_P]; exact hP8) (fun j hj_q => ?_) ?_
    · by_cases hj2 : 8 ≤ j ∧ j < 34
      · rw [setS_at hj2, setS_at hj2, undK, undK, setS_ne (by omega), pk_un (by omega)]
      · rw [setS_ne hj2, setS_ne hj2, setS_ne hj2, pk_un (by omega)]
    · rw [undK, undK, setS_ne (by omega), pk_un (by omega)])
