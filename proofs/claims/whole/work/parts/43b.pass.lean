/-! ===== the class: minutes, copies, told deeds ===== -/
theorem cp_level {Γ : gam} {D : Nat} {ro : Nat → Nat} {z0 : sto} {n k a b : Nat} {w : Int32} {K ag pa pf ch co rw bk : row} {lm lt lw : Value} (hR_q : SrAt Γ ro z0 a b w (K 33) ch co rw bk) (hr_q : rS K ch co rw bk) (hQ_q : BrAt Γ D ro z0 b K ag pa pf lm lt lw) (hk : 3 ≤ k) (hB_q : okB K) : Sp Γ (rmk k 0 0) uX5_level [.ref a] z0 n (qI fun v σ' n' => v = tideK K (K 33) ∧ n' = n ∧ frC Γ ro 1 0 z0 σ') := by
  have hP8 := hB_q.1.2.1
  have hH5 := hB_q.1.2.2.2.1
  have hW4 := hB_q.1.2.2.2.2.2
  refine sp_intro [some (.ref a)] (by decide +kernel) rfl (Nat.le_of_ble_eq_true rfl) rfl ?_
  refine go_aload_n (pc := 0) dX5_level_0 rfl ?_
  refine go_getf (pc := 1) f_X5_31 dX5_level_1 (by first | exact sr0 hR_q | exact be0 hQ_q | exact sr1 hR_q | exact sr2 hR_q | exact sr3 hR_q | exact sr4 hR_q | exact be1 hQ_q | exact be2 hQ_q | exact be3 hQ_q) (by rfl) ?_
  refine go_aload_n (pc := 4) dX5_level_4 rfl ?_
  refine go_getf (pc := 5) f_X5_28 dX5_level_5 (by first | exact sr0 hR_q | exact be0 hQ_q | exact sr1 hR_q | exact sr2 hR_q | exact sr3 hR_q | exact sr4 hR_q | exact be1 hQ_q | exact be2 hQ_q | exact be3 hQ_q) (by rfl) ?_
  refine go_V1I (pc := 8) v_X5_114 rfl rfl (rcv_of (ci := 0) (by first | exact sr0 hR_q | exact be0 hQ_q | exact sr1 hR_q | exact sr2 hR_q | exact sr3 hR_q | exact sr4 hR_q | exact be1 hQ_q | exact be2 hQ_q | exact be3 hQ_q) rfl) dX5_level_8 (cp_tideIn (k := k - 1) hQ_q (by omega) hB_q _) (fun v_8 σ n h_q => ?_)
  obtain ⟨rfl, rfl, hf1⟩ := h_q
  exact go_iretI (pc := 11) rfl dX5_level_11 (Nat.le_of_ble_eq_true rfl) (Nat.le_of_ble_eq_true rfl) ⟨rfl, rfl, hf1⟩
theorem cp_pass {Γ : gam} {D : Nat} {ro : Nat → Nat} {z0 : sto} {n k a b : Nat} {w : Int32} {K ag pa pf ch co rw bk : row} {lm lt lw : Value} (hR_q : SrAt Γ ro z0 a b w (K 33) ch co rw bk) (hr_q : rS K ch co rw bk) (hQ_q : BrAt Γ D ro z0 b K ag pa pf lm lt lw) (hB_q : okB K) (hg_q : gS K) (hD : a + 4 < D) (hsb : b + 3 < a ∨ a + 4 < b) (hk : 6 ≤ k) (t : Int32) : Sp Γ (rmk k 0 0) uX5_pass [.ref a, .int t] z0 n (qV fun σ' n' => n' = n ∧ SeAt Γ ro σ' a b (pasW K t w) (minK K) ∧ frC Γ ro a (a + 4) z0 σ') := by
  have hP8 := hB_q.1.2.1
  have hH5 := hB_q.1.2.2.2.1
  have hW4 := hB_q.1.2.2.2.2.2
  have hf_q : frC Γ ro a (a + 4) z0 z0 := frC.rf
  refine sp_intro [some (.ref a), some (.int t), none, none] (by decide +kernel) rfl (Nat.le_of_ble_eq_true rfl) rfl ?_
  by_cases ht_q : 0 < t
  · refine go_aload_n (pc := 0) dX5_pass_0 rfl ?_
    refine go_getf (pc := 1) f_X5_31 dX5_pass_1 (by first | exact sr0 hR_q | exact be0 hQ_q | exact sr1 hR_q | exact sr2 hR_q | exact sr3 hR_q | exact sr4 hR_q | exact be1 hQ_q | exact be2 hQ_q | exact be3 hQ_q) (by rfl) ?_
    refine go_getf (pc := 4) f_X5_117 dX5_pass_4 (by first | exact sr0 hR_q | exact be0 hQ_q | exact sr1 hR_q | exact sr2 hR_q | exact sr3 hR_q | exact sr4 hR_q | exact be1 hQ_q | exact be2 hQ_q | exact be3 hQ_q) (by rfl) ?_
    refine go_istore_n (lw := [_, _, _, _]) (pc := 7) dX5_pass_7 (by decide) rfl ?_
    refine go_iconst (v := 0) (pc := 8) dX5_pass_8 (by decide) ?_
    refine go_istore_n (lw := [_, _, _, _]) (pc := 9) dX5_pass_9 (by decide) rfl ?_
    refine go_iter (kP K) (fun i_q lv9 s9 n9 => ∃ (K9_q : row), ∃ (ch9 : row), ∃ (co9 : row), ∃ (rw9 : row), ∃ (bk9 : row), lv9 = [some (.ref a), some (.int t), some (.int (K 3)), some (.int (nI i_q))] ∧ (SrAt Γ ro s9 a b w (K 33) ch9 co9 rw9 bk9) ∧ (BrAt Γ D ro s9 b K ag pa pf lm lt lw) ∧ (frC Γ ro a (a + 4) z0 s9) ∧ (rS K9_q ch9 co9 rw9 bk9) ∧ (gS K9_q) ∧ (sameB K K9_q) ∧ (K9_q 33 = K 33) ∧ (downK (K 33) (kP K - i_q) i_q K9_q = downK (K 33) (kP K) 0 K) ∧ n = n9) ⟨K, _, _, _, _, rfl, hR_q, hQ_q, hf_q, hr_q, hg_q, sameB.rf, rfl, rfl, rfl⟩ ?_ ?_
    · rintro i_q lv9 σ n9 hi_q ⟨K9_q, ch9, co9, rw9, bk9, rfl, hR_q, hQ_q, hf_q, hr9_q, hg9_q, hs9, h33, hR9, rfl⟩ ih_q
      have eP_q := hs9.P
      have eH_q := hs9.H
      have eW := hs9.W
      refine go_iload_n (pc := 10) dX5_pass_10 rfl ?_
      refine go_iload_n (pc := 11) dX5_pass_11 rfl ?_
      refine go_icmp_ge (tgt := 56) (pc := 12) dX5_pass_12 (by decide) (fun h_12 => by exfalso; rw [hB_q.1.1] at h_12; exact absurd h_12 (nI_ge (by omega) (by omega))) (fun h_12 => ?_)
      refine go_aload_n (pc := 15) dX5_pass_15 rfl ?_
      refine go_getf (pc := 16) f_X5_21 dX5_pass_16 (by first | exact sr0 hR_q | exact be0 hQ_q | exact sr1 hR_q | exact sr2 hR_q | exact sr3 hR_q | exact sr4 hR_q | exact be1 hQ_q | exact be2 hQ_q | exact be3 hQ_q) (by rfl) ?_
      refine go_iload_n (pc := 19) dX5_pass_19 rfl ?_
      refine go_iald (pc := 20) dX5_pass_20 (by first | exact sr0 hR_q | exact be0 hQ_q | exact sr1 hR_q | exact sr2 hR_q | exact sr3 hR_q | exact sr4 hR_q | exact be1 hQ_q | exact be2 hQ_q | exact be3 hQ_q) (by exact ⟨rfl, by omega⟩) ?_
      rw [(hr9_q.1 i_q (by omega)).2.2]
      refine go_iconst (v := -1) (pc := 21) dX5_pass_21 (by decide) ?_
      refine go_icmp_eq (tgt := 50) (pc := 22) dX5_pass_22 (by decide) (fun h_22 => ?_) (fun h_22 => ?_)
      · refine go_iinc (v := 1) (lw := [_, _, _, _]) (pc := 50) dX5_pass_50 rfl (by decide) (by decide) rfl ?_
        refine go_goto (tgt := 10) (pc := 53) dX5_pass_53 (by decide) ?_
        rw [nI_1]
        first
          | (have g9_q : K9_q (24 + i_q) = -1 := h_22
             refine ih_q _ _ _ ⟨_, _, _, _, _, rfl, hR_q, hQ_q, hf_q, hr9_q, hg9_q, hs9, h33, ?_, rfl⟩
             rw [← hR9, downK_step hi_q, if_neg (fun hc_q => hc_q.2.1 g9_q)])
          | (have g9_q := Int32.not_le.mpr h_35
             refine ih_q _ _ _ ⟨_, _, _, _, _, rfl, hR_q, hQ_q, hf_q, hr9_q, hg9_q, hs9, h33, ?_, rfl⟩
             rw [← hR9, downK_step hi_q, if_neg (fun hc_q => absurd hc_q.2.2.1 g9_q)])
          | exact ih_q _ _ _ ⟨_, _, _, _, _, rfl, (by rw [takK_33 (by omega), h33] at hR_q; exact hR_q), hQ_q, hf_q, hr9_q, gS_tak (by omega) (by omega) (by omega) hg9_q (by omega), hs9.tr (takK_same (by omega)), (by rw [takK_33 (by omega)]; exact h33), (by rw [← hR9, downK_step hi_q, dn_tak (upK_iff.mpr hu9) h_22 (Int32.not_lt.mp h_35), ec9]), rfl⟩
      · refine go_aload_n (pc := 25) dX5_pass_25 rfl ?_
        refine go_getf (pc := 26) f_X5_21 dX5_pass_26 (by first | exact sr0 hR_q | exact be0 hQ_q | exact sr1 hR_q | exact sr2 hR_q | exact sr3 hR_q | exact sr4 hR_q | exact be1 hQ_q | exact be2 hQ_q | exact be3 hQ_q) (by rfl) ?_
        refine go_iload_n (pc := 29) dX5_pass_29 rfl ?_
        refine go_iald (pc := 30) dX5_pass_30 (by first | exact sr0 hR_q | exact be0 hQ_q | exact sr1 hR_q | exact sr2 hR_q | exact sr3 hR_q | exact sr4 hR_q | exact be1 hQ_q | exact be2 hQ_q | exact be3 hQ_q) (by exact ⟨rfl, by omega⟩) ?_
        rw [(hr9_q.1 i_q (by omega)).2.2]
        refine go_aload_n (pc := 31) dX5_pass_31 rfl ?_
        refine go_getf (pc := 32) f_X5_28 dX5_pass_32 (by first | exact sr0 hR_q | exact be0 hQ_q | exact sr1 hR_q | exact sr2 hR_q | exact sr3 hR_q | exact sr4 hR_q | exact be1 hQ_q | exact be2 hQ_q | exact be3 hQ_q) (by rfl) ?_
        refine go_icmp_gt (tgt := 50) (pc := 35) dX5_pass_35 (by decide) (fun h_35 => ?_) (fun h_35 => ?_)
        · refine go_iinc (v := 1) (lw := [_, _, _, _]) (pc := 50) dX5_pass_50 rfl (by decide) (by decide) rfl ?_
          refine go_goto (tgt := 10) (pc := 53) dX5_pass_53 (by decide) ?_
          rw [nI_1]
          first
            | (have g9_q : K9_q (24 + i_q) = -1 := h_22
               refine ih_q _ _ _ ⟨_, _, _, _, _, rfl, hR_q, hQ_q, hf_q, hr9_q, hg9_q, hs9, h33, ?_, rfl⟩
               rw [← hR9, downK_step hi_q, if_neg (fun hc_q => hc_q.2.1 g9_q)])
            | (have g9_q := Int32.not_le.mpr h_35
               refine ih_q _ _ _ ⟨_, _, _, _, _, rfl, hR_q, hQ_q, hf_q, hr9_q, hg9_q, hs9, h33, ?_, rfl⟩
               rw [← hR9, downK_step hi_q, if_neg (fun hc_q => absurd hc_q.2.2.1 g9_q)])
            | exact ih_q _ _ _ ⟨_, _, _, _, _, rfl, (by rw [takK_33 (by omega), h33] at hR_q; exact hR_q), hQ_q, hf_q, hr9_q, gS_tak (by omega) (by omega) (by omega) hg9_q (by omega), hs9.tr (takK_same (by omega)), (by rw [takK_33 (by omega)]; exact h33), (by rw [← hR9, downK_step hi_q, dn_tak (upK_iff.mpr hu9) h_22 (Int32.not_lt.mp h_35), ec9]), rfl⟩
        · refine go_aload_n (pc := 38) dX5_pass_38 rfl ?_
          refine go_iload_n (pc := 39) dX5_pass_39 rfl ?_
          refine go_aload_n (pc := 40) dX5_pass_40 rfl ?_
          refine go_getf (pc := 41) f_X5_15 dX5_pass_41 (by first | exact sr0 hR_q | exact be0 hQ_q | exact sr1 hR_q | exact sr2 hR_q | exact sr3 hR_q | exact sr4 hR_q | exact be1 hQ_q | exact be2 hQ_q | exact be3 hQ_q) (by rfl) ?_
          refine go_iload_n (pc := 44) dX5_pass_44 rfl ?_
          refine go_iald (pc := 45) dX5_pass_45 (by first | exact sr0 hR_q | exact be0 hQ_q | exact sr1 hR_q | exact sr2 hR_q | exact sr3 hR_q | exact sr4 hR_q | exact be1 hQ_q | exact be2 hQ_q | exact be3 hQ_q) (by exact ⟨rfl, by omega⟩) ?_
          obtain ⟨c9_q, hc9, ec9⟩ := (hg9_q.1 i_q (by omega)).1
          have hu9 := bak_up hg9_q (by omega) h_22
          rw [(hr9_q.1 i_q (by omega)).1, ec9]
          refine go_V2I (pc := 46) v_X5_96 rfl rfl (rcv_of (ci := 5) (by first | exact sr0 hR_q | exact be0 hQ_q | exact sr1 hR_q | exact sr2 hR_q | exact sr3 hR_q | exact sr4 hR_q | exact be1 hQ_q | exact be2 hQ_q | exact be3 hQ_q) rfl) dX5_pass_46 (cp_take (k := k - 1) (by rw [h33]; exact hR_q) hr9_q (hQ_q.sm hs9) (hs9.okB hB_q) hg9_q hD hsb (by omega) (by omega) hu9 (by omega)) (fun v_46 σ n h_q => ?_)
          obtain ⟨rfl, rfl, ⟨ch9, co9, rw9, bk9, hR_q, hr9_q⟩, hf1⟩ := h_q
          have hf_q := hf_q.tr hf1
          have hQ_q := hQ_q.fr hf1 (by omega) (by omega)
          refine go_pop (pc := 49) dX5_pass_49 rfl ?_
          refine go_iinc (v := 1) (lw := [_, _, _, _]) (pc := 50) dX5_pass_50 rfl (by decide) (by decide) rfl ?_
          refine go_goto (tgt := 10) (pc := 53) dX5_pass_53 (by decide) ?_
          rw [nI_1]
          first
            | (have g9_q : K9_q (24 + i_q) = -1 := h_22
               refine ih_q _ _ _ ⟨_, _, _, _, _, rfl, hR_q, hQ_q, hf_q, hr9_q, hg9_q, hs9, h33, ?_, rfl⟩
               rw [← hR9, downK_step hi_q, if_neg (fun hc_q => hc_q.2.1 g9_q)])
            | (have g9_q := Int32.not_le.mpr h_35
               refine ih_q _ _ _ ⟨_, _, _, _, _, rfl, hR_q, hQ_q, hf_q, hr9_q, hg9_q, hs9, h33, ?_, rfl⟩
               rw [← hR9, downK_step hi_q, if_neg (fun hc_q => absurd hc_q.2.2.1 g9_q)])
            | exact ih_q _ _ _ ⟨_, _, _, _, _, rfl, (by rw [takK_33 (by omega), h33] at hR_q; exact hR_q), hQ_q, hf_q, hr9_q, gS_tak (by omega) (by omega) (by omega) hg9_q (by omega), hs9.tr (takK_same (by omega)), (by rw [takK_33 (by omega)]; exact h33), (by rw [← hR9, downK_step hi_q, dn_tak (upK_iff.mpr hu9) h_22 (Int32.not_lt.mp h_35), ec9]), rfl⟩
    · rintro lv9 σ n9 ⟨K9_q, ch9, co9, rw9, bk9, rfl, hR_q, hQ_q, hf_q, hr9_q, hg9_q, hs9, h33, hR9, rfl⟩
      have eP_q := hs9.P
      have eH_q := hs9.H
      have eW := hs9.W
      refine go_iload_n (pc := 10) dX5_pass_10 rfl ?_
      refine go_iload_n (pc := 11) dX5_pass_11 rfl ?_
      refine go_icmp_ge (tgt := 56) (pc := 12) dX5_pass_12 (by decide) (fun h_12 => ?_) (fun h_12 => by exfalso; rw [hB_q.1.1] at h_12; exact h_12 (nI_le (by omega) (by omega)))
      rw [Nat.sub_self, downK] at hR9
      subst hR9
      refine go_iconst (v := 0) (pc := 56) dX5_pass_56 (by decide) ?_
      refine go_istore_n (lw := [_, _, _, _]) (pc := 57) dX5_pass_57 (by decide) rfl ?_
      refine go_iter (kP K) (fun i_q lv9 s9 n9 => ∃ (K9_q : row), ∃ (ch9 : row), ∃ (co9 : row), ∃ (rw9 : row), ∃ (bk9 : row), lv9 = [some (.ref a), some (.int t), some (.int (K 3)), some (.int (nI i_q))] ∧ (SrAt Γ ro s9 a b w (K 33) ch9 co9 rw9 bk9) ∧ (BrAt Γ D ro s9 b K ag pa pf lm lt lw) ∧ (frC Γ ro a (a + 4) z0 s9) ∧ (rS K9_q ch9 co9 rw9 bk9) ∧ (gS K9_q) ∧ (sameB K K9_q) ∧ (K9_q 33 = K 33) ∧ (planK (K 33) (kP K - i_q) i_q K9_q = dryK K) ∧ n = n9) ⟨_, _, _, _, _, rfl, hR_q, hQ_q, hf_q, hr9_q, hg9_q, hs9, h33, rfl, rfl⟩ ?_ ?_
      · rintro i_q lv9 σ n9 hi_q ⟨K9_q, ch9, co9, rw9, bk9, rfl, hR_q, hQ_q, hf_q, hr9_q, hg9_q, hs9, h33, hR9, rfl⟩ ih_q
        have eP_q := hs9.P
        have eH_q := hs9.H
        have eW := hs9.W
        refine go_iload_n (pc := 58) dX5_pass_58 rfl ?_
        refine go_iload_n (pc := 59) dX5_pass_59 rfl ?_
        refine go_icmp_ge (tgt := 132) (pc := 60) dX5_pass_60 (by decide) (fun h_60 => by exfalso; rw [hB_q.1.1] at h_60; exact absurd h_60 (nI_ge (by omega) (by omega))) (fun h_60 => ?_)
        refine go_aload_n (pc := 63) dX5_pass_63 rfl ?_
        refine go_getf (pc := 64) f_X5_31 dX5_pass_64 (by first | exact sr0 hR_q | exact be0 hQ_q | exact sr1 hR_q | exact sr2 hR_q | exact sr3 hR_q | exact sr4 hR_q | exact be1 hQ_q | exact be2 hQ_q | exact be3 hQ_q) (by rfl) ?_
        refine go_getf (pc := 67) f_X5_120 dX5_pass_67 (by first | exact sr0 hR_q | exact be0 hQ_q | exact sr1 hR_q | exact sr2 hR_q | exact sr3 hR_q | exact sr4 hR_q | exact be1 hQ_q | exact be2 hQ_q | exact be3 hQ_q) (by rfl) ?_
        refine go_iload_n (pc := 70) dX5_pass_70 rfl ?_
        refine go_iald (pc := 71) dX5_pass_71 (by first | exact sr0 hR_q | exact be0 hQ_q | exact sr1 hR_q | exact sr2 hR_q | exact sr3 hR_q | exact sr4 hR_q | exact be1 hQ_q | exact be2 hQ_q | exact be3 hQ_q) (by exact ⟨rfl, by omega⟩) ?_
        rw [(hQ_q.2.2.2.2.2.2.2.2 i_q hi_q).2.1]
        refine go_aload_n (pc := 72) dX5_pass_72 rfl ?_
        refine go_getf (pc := 73) f_X5_28 dX5_pass_73 (by first | exact sr0 hR_q | exact be0 hQ_q | exact sr1 hR_q | exact sr2 hR_q | exact sr3 hR_q | exact sr4 hR_q | exact be1 hQ_q | exact be2 hQ_q | exact be3 hQ_q) (by rfl) ?_
        refine go_icmp_ne (tgt := 126) (pc := 76) dX5_pass_76 (by decide) (fun h_76 => ?_) (fun h_76 => ?_)
        · refine go_iinc (v := 1) (lw := [_, _, _, _]) (pc := 126) dX5_pass_126 rfl (by decide) (by decide) rfl ?_
          refine go_goto (tgt := 58) (pc := 129) dX5_pass_129 (by decide) ?_
          rw [nI_1]
          first
            | (refine ih_q _ _ _ ⟨_, _, _, _, _, rfl, hR_q, hQ_q, hf_q, hr9_q, hg9_q, hs9, h33, ?_, rfl⟩
               rw [← hR9, planK_step hi_q, if_neg (fun hc_q => h_76 (by rw [← hs9 (43 + i_q) (by omega)]; exact hc_q.1))])
            | (refine ih_q _ _ _ ⟨_, _, _, _, _, rfl, hR_q, hQ_q, hf_q, hr9_q, hg9_q, hs9, h33, ?_, rfl⟩
               rw [← hR9, planK_step hi_q, if_neg (fun hc_q => upK_f.mp hc_q.2.1 h_86)])
            | (refine ih_q _ _ _ ⟨_, _, _, _, _, rfl, hR_q, hQ_q, hf_q, hr9_q, hg9_q, hs9, h33, ?_, rfl⟩
               rw [← hR9, planK_step hi_q, if_neg (fun hc_q => h_97 (bI_0.mpr (by have := hc_q.2.2; rw [hs9.asl] at this; rw [show hasB (K 42) (nI i_q) = false from this]; decide)))])
            | exact ih_q _ _ _ ⟨(riseK K9_q i_q (K 33 + K (51 + i_q))).1, _, _, _, _, rfl, hR_q, hQ_q, hf_q, (by rw [rise_s (by omega) (by omega)]; exact rS_24 (by rw [(riseK_same (K := K9_q) (p := i_q) (s := -1) (by omega) (by omega)).P]; omega) (by omega) hr9_q), gS_rise (by omega) (by omega) (by omega) hg9_q h_86, hs9.tr (riseK_same (by omega) (by omega)), (by rw [rise_hi (by omega) (by omega) (by omega)]; exact h33), (by rw [← hR9, planK_step hi_q, if_pos hcnd, hs9 (51 + i_q) (by omega)]), rfl⟩
        · refine go_aload_n (pc := 79) dX5_pass_79 rfl ?_
          refine go_getf (pc := 80) f_X5_18 dX5_pass_80 (by first | exact sr0 hR_q | exact be0 hQ_q | exact sr1 hR_q | exact sr2 hR_q | exact sr3 hR_q | exact sr4 hR_q | exact be1 hQ_q | exact be2 hQ_q | exact be3 hQ_q) (by rfl) ?_
          refine go_iload_n (pc := 83) dX5_pass_83 rfl ?_
          refine go_iald (pc := 84) dX5_pass_84 (by first | exact sr0 hR_q | exact be0 hQ_q | exact sr1 hR_q | exact sr2 hR_q | exact sr3 hR_q | exact sr4 hR_q | exact be1 hQ_q | exact be2 hQ_q | exact be3 hQ_q) (by exact ⟨rfl, by omega⟩) ?_
          rw [(hr9_q.1 i_q (by omega)).2.1]
          refine go_iconst (v := -1) (pc := 85) dX5_pass_85 (by decide) ?_
          refine go_icmp_eq (tgt := 126) (pc := 86) dX5_pass_86 (by decide) (fun h_86 => ?_) (fun h_86 => ?_)
          · refine go_iinc (v := 1) (lw := [_, _, _, _]) (pc := 126) dX5_pass_126 rfl (by decide) (by decide) rfl ?_
            refine go_goto (tgt := 58) (pc := 129) dX5_pass_129 (by decide) ?_
            rw [nI_1]
            first
              | (refine ih_q _ _ _ ⟨_, _, _, _, _, rfl, hR_q, hQ_q, hf_q, hr9_q, hg9_q, hs9, h33, ?_, rfl⟩
                 rw [← hR9, planK_step hi_q, if_neg (fun hc_q => h_76 (by rw [← hs9 (43 + i_q) (by omega)]; exact hc_q.1))])
              | (refine ih_q _ _ _ ⟨_, _, _, _, _, rfl, hR_q, hQ_q, hf_q, hr9_q, hg9_q, hs9, h33, ?_, rfl⟩
                 rw [← hR9, planK_step hi_q, if_neg (fun hc_q => upK_f.mp hc_q.2.1 h_86)])
              | (refine ih_q _ _ _ ⟨_, _, _, _, _, rfl, hR_q, hQ_q, hf_q, hr9_q, hg9_q, hs9, h33, ?_, rfl⟩
                 rw [← hR9, planK_step hi_q, if_neg (fun hc_q => h_97 (bI_0.mpr (by have := hc_q.2.2; rw [hs9.asl] at this; rw [show hasB (K 42) (nI i_q) = false from this]; decide)))])
              | exact ih_q _ _ _ ⟨(riseK K9_q i_q (K 33 + K (51 + i_q))).1, _, _, _, _, rfl, hR_q, hQ_q, hf_q, (by rw [rise_s (by omega) (by omega)]; exact rS_24 (by rw [(riseK_same (K := K9_q) (p := i_q) (s := -1) (by omega) (by omega)).P]; omega) (by omega) hr9_q), gS_rise (by omega) (by omega) (by omega) hg9_q h_86, hs9.tr (riseK_same (by omega) (by omega)), (by rw [rise_hi (by omega) (by omega) (by omega)]; exact h33), (by rw [← hR9, planK_step hi_q, if_pos hcnd, hs9 (51 + i_q) (by omega)]), rfl⟩
          · refine go_aload_n (pc := 89) dX5_pass_89 rfl ?_
            refine go_getf (pc := 90) f_X5_31 dX5_pass_90 (by first | exact sr0 hR_q | exact be0 hQ_q | exact sr1 hR_q | exact sr2 hR_q | exact sr3 hR_q | exact sr4 hR_q | exact be1 hQ_q | exact be2 hQ_q | exact be3 hQ_q) (by rfl) ?_
            refine go_iload_n (pc := 93) dX5_pass_93 rfl ?_
            refine go_V1P (pc := 94) v_X5_57 rfl rfl (rcv_of (ci := 0) (by first | exact sr0 hR_q | exact be0 hQ_q | exact sr1 hR_q | exact sr2 hR_q | exact sr3 hR_q | exact sr4 hR_q | exact be1 hQ_q | exact be2 hQ_q | exact be3 hQ_q) rfl) dX5_pass_94 (cp_isAsleep (k := k - 1) hQ_q _) ?_
            refine go_if_ne (tgt := 126) (pc := 97) dX5_pass_97 (by decide) (fun h_97 => ?_) (fun h_97 => ?_)
            · refine go_iinc (v := 1) (lw := [_, _, _, _]) (pc := 126) dX5_pass_126 rfl (by decide) (by decide) rfl ?_
              refine go_goto (tgt := 58) (pc := 129) dX5_pass_129 (by decide) ?_
              rw [nI_1]
              first
                | (refine ih_q _ _ _ ⟨_, _, _, _, _, rfl, hR_q, hQ_q, hf_q, hr9_q, hg9_q, hs9, h33, ?_, rfl⟩
                   rw [← hR9, planK_step hi_q, if_neg (fun hc_q => h_76 (by rw [← hs9 (43 + i_q) (by omega)]; exact hc_q.1))])
                | (refine ih_q _ _ _ ⟨_, _, _, _, _, rfl, hR_q, hQ_q, hf_q, hr9_q, hg9_q, hs9, h33, ?_, rfl⟩
                   rw [← hR9, planK_step hi_q, if_neg (fun hc_q => upK_f.mp hc_q.2.1 h_86)])
                | (refine ih_q _ _ _ ⟨_, _, _, _, _, rfl, hR_q, hQ_q, hf_q, hr9_q, hg9_q, hs9, h33, ?_, rfl⟩
                   rw [← hR9, planK_step hi_q, if_neg (fun hc_q => h_97 (bI_0.mpr (by have := hc_q.2.2; rw [hs9.asl] at this; rw [show hasB (K 42) (nI i_q) = false from this]; decide)))])
                | exact ih_q _ _ _ ⟨(riseK K9_q i_q (K 33 + K (51 + i_q))).1, _, _, _, _, rfl, hR_q, hQ_q, hf_q, (by rw [rise_s (by omega) (by omega)]; exact rS_24 (by rw [(riseK_same (K := K9_q) (p := i_q) (s := -1) (by omega) (by omega)).P]; omega) (by omega) hr9_q), gS_rise (by omega) (by omega) (by omega) hg9_q h_86, hs9.tr (riseK_same (by omega) (by omega)), (by rw [rise_hi (by omega) (by omega) (by omega)]; exact h33), (by rw [← hR9, planK_step hi_q, if_pos hcnd, hs9 (51 + i_q) (by omega)]), rfl⟩
            · have hcnd : K9_q (43 + i_q) = K 33 ∧ upK K9_q i_q = false ∧ aslK K9_q i_q = false := ⟨by rw [hs9 (43 + i_q) (by omega)]; exact h_76, upK_f.mpr h_86, by rw [hs9.asl]; have := bI_0.mp h_97; simpa [aslK] using this⟩
              refine go_aload_n (pc := 100) dX5_pass_100 rfl ?_
              refine go_iload_n (pc := 101) dX5_pass_101 rfl ?_
              refine go_V1I (pc := 102) v_X5_93 rfl rfl (rcv_of (ci := 5) (by first | exact sr0 hR_q | exact be0 hQ_q | exact sr1 hR_q | exact sr2 hR_q | exact sr3 hR_q | exact sr4 hR_q | exact be1 hQ_q | exact be2 hQ_q | exact be3 hQ_q) rfl) dX5_pass_102 (cp_leave (k := k - 1) (by rw [h33]; exact hR_q) hr9_q (hQ_q.sm hs9) (hs9.okB hB_q) hg9_q hD hsb (by omega) (by omega) h_86) (fun v_102 σ n h_q => ?_)
              obtain ⟨rfl, rfl, ⟨ch9, co9, rw9, bk9, hR_q, hr9_q⟩, hf1⟩ := h_q
              have hf_q := hf_q.tr hf1
              have hQ_q := hQ_q.fr hf1 (by omega) (by omega)
              refine go_pop (pc := 105) dX5_pass_105 rfl ?_
              have e33 : (riseK K9_q i_q (-1)).1 33 = K 33 := by rw [rise_hi (by omega) (by omega) (by omega)]; exact h33
              rw [e33] at hR_q
              refine go_aload_n (pc := 106) dX5_pass_106 rfl ?_
              refine go_getf (pc := 107) f_X5_21 dX5_pass_107 (by first | exact sr0 hR_q | exact be0 hQ_q | exact sr1 hR_q | exact sr2 hR_q | exact sr3 hR_q | exact sr4 hR_q | exact be1 hQ_q | exact be2 hQ_q | exact be3 hQ_q) (by rfl) ?_
              refine go_iload_n (pc := 110) dX5_pass_110 rfl ?_
              refine go_aload_n (pc := 111) dX5_pass_111 rfl ?_
              refine go_getf (pc := 112) f_X5_28 dX5_pass_112 (by first | exact sr0 hR_q | exact be0 hQ_q | exact sr1 hR_q | exact sr2 hR_q | exact sr3 hR_q | exact sr4 hR_q | exact be1 hQ_q | exact be2 hQ_q | exact be3 hQ_q) (by rfl) ?_
              refine go_aload_n (pc := 115) dX5_pass_115 rfl ?_
              refine go_getf (pc := 116) f_X5_31 dX5_pass_116 (by first | exact sr0 hR_q | exact be0 hQ_q | exact sr1 hR_q | exact sr2 hR_q | exact sr3 hR_q | exact sr4 hR_q | exact be1 hQ_q | exact be2 hQ_q | exact be3 hQ_q) (by rfl) ?_
              refine go_getf (pc := 119) f_X5_123 dX5_pass_119 (by first | exact sr0 hR_q | exact be0 hQ_q | exact sr1 hR_q | exact sr2 hR_q | exact sr3 hR_q | exact sr4 hR_q | exact be1 hQ_q | exact be2 hQ_q | exact be3 hQ_q) (by rfl) ?_
              refine go_iload_n (pc := 122) dX5_pass_122 rfl ?_
              refine go_iald (pc := 123) dX5_pass_123 (by first | exact sr0 hR_q | exact be0 hQ_q | exact sr1 hR_q | exact sr2 hR_q | exact sr3 hR_q | exact sr4 hR_q | exact be1 hQ_q | exact be2 hQ_q | exact be3 hQ_q) (by exact ⟨rfl, by omega⟩) ?_
              rw [(hQ_q.2.2.2.2.2.2.2.2 i_q hi_q).2.2]
              refine go_iadd (pc := 124) dX5_pass_124 ?_
              refine go_ss4 (pc := 125) hR_q dX5_pass_125 (by exact ⟨rfl, by omega⟩) (fun σ hR_q hf9 => ?_)
              have hf_q := hf_q.tr hf9
              have hQ_q := hQ_q.fr hf9 (by omega) (by omega)
              refine go_iinc (v := 1) (lw := [_, _, _, _]) (pc := 126) dX5_pass_126 rfl (by decide) (by decide) rfl ?_
              refine go_goto (tgt := 58) (pc := 129) dX5_pass_129 (by decide) ?_
              rw [nI_1]
              first
                | (refine ih_q _ _ _ ⟨_, _, _, _, _, rfl, hR_q, hQ_q, hf_q, hr9_q, hg9_q, hs9, h33, ?_, rfl⟩
                   rw [← hR9, planK_step hi_q, if_neg (fun hc_q => h_76 (by rw [← hs9 (43 + i_q) (by omega)]; exact hc_q.1))])
                | (refine ih_q _ _ _ ⟨_, _, _, _, _, rfl, hR_q, hQ_q, hf_q, hr9_q, hg9_q, hs9, h33, ?_, rfl⟩
                   rw [← hR9, planK_step hi_q, if_neg (fun hc_q => upK_f.mp hc_q.2.1 h_86)])
                | (refine ih_q _ _ _ ⟨_, _, _, _, _, rfl, hR_q, hQ_q, hf_q, hr9_q, hg9_q, hs9, h33, ?_, rfl⟩
                   rw [← hR9, planK_step hi_q, if_neg (fun hc_q => h_97 (bI_0.mpr (by have := hc_q.2.2; rw [hs9.asl] at this; rw [show hasB (K 42) (nI i_q) = false from this]; decide)))])
                | exact ih_q _ _ _ ⟨(riseK K9_q i_q (K 33 + K (51 + i_q))).1, _, _, _, _, rfl, hR_q, hQ_q, hf_q, (by rw [rise_s (by omega) (by omega)]; exact rS_24 (by rw [(riseK_same (K := K9_q) (p := i_q) (s := -1) (by omega) (by omega)).P]; omega) (by omega) hr9_q), gS_rise (by omega) (by omega) (by omega) hg9_q h_86, hs9.tr (riseK_same (by omega) (by omega)), (by rw [rise_hi (by omega) (by omega) (by omega)]; exact h33), (by rw [← hR9, planK_step hi_q, if_pos hcnd, hs9 (51 + i_q) (by omega)]), rfl⟩
      · rintro lv9 σ n9 ⟨K9_q, ch9, co9, rw9, bk9, rfl, hR_q, hQ_q, hf_q, hr9_q, hg9_q, hs9, h33, hR9, rfl⟩
        have eP_q := hs9.P
        have eH_q := hs9.H
        have eW := hs9.W
        refine go_iload_n (pc := 58) dX5_pass_58 rfl ?_
        refine go_iload_n (pc := 59) dX5_pass_59 rfl ?_
        refine go_icmp_ge (tgt := 132) (pc := 60) dX5_pass_60 (by decide) (fun h_60 => ?_) (fun h_60 => by exfalso; rw [hB_q.1.1] at h_60; exact h_60 (nI_le (by omega) (by omega)))
        rw [Nat.sub_self, planK] at hR9
        subst hR9
        refine go_iconst (v := 0) (pc := 132) dX5_pass_132 (by decide) ?_
        refine go_istore_n (lw := [_, _, _, _]) (pc := 133) dX5_pass_133 (by decide) rfl ?_
        refine go_iter (kP K) (fun i_q lv9 s9 n9 => ∃ (w9_q : Int32), lv9 = [some (.ref a), some (.int t), some (.int (K 3)), some (.int (nI i_q))] ∧ (SrAt Γ ro s9 a b w9_q (K 33) ch9 co9 rw9 bk9) ∧ (BrAt Γ D ro s9 b K ag pa pf lm lt lw) ∧ (frC Γ ro a (a + 4) z0 s9) ∧ (wetV (dryK K) t (kP K - i_q) i_q w9_q = pasW K t w) ∧ n = n9) ⟨w, rfl, hR_q, hQ_q, hf_q, rfl, rfl⟩ ?_ ?_
        · rintro i_q lv9 σ n9 hi_q ⟨w9_q, rfl, hR_q, hQ_q, hf_q, hR9, rfl⟩ ih_q
          refine go_iload_n (pc := 134) dX5_pass_134 rfl ?_
          refine go_if_le (tgt := 181) (pc := 135) dX5_pass_135 (by decide) (fun h_135 => by exfalso; exact absurd h_135 (Int32.not_le.mpr ht_q)) (fun h_135 => ?_)
          refine go_iload_n (pc := 138) dX5_pass_138 rfl ?_
          refine go_iload_n (pc := 139) dX5_pass_139 rfl ?_
          refine go_icmp_ge (tgt := 181) (pc := 140) dX5_pass_140 (by decide) (fun h_140 => by exfalso; rw [hB_q.1.1] at h_140; exact absurd h_140 (nI_ge (by omega) (by omega))) (fun h_140 => ?_)
          refine go_aload_n (pc := 143) dX5_pass_143 rfl ?_
          refine go_getf (pc := 144) f_X5_18 dX5_pass_144 (by first | exact sr0 hR_q | exact be0 hQ_q | exact sr1 hR_q | exact sr2 hR_q | exact sr3 hR_q | exact sr4 hR_q | exact be1 hQ_q | exact be2 hQ_q | exact be3 hQ_q) (by rfl) ?_
          refine go_iload_n (pc := 147) dX5_pass_147 rfl ?_
          refine go_iald (pc := 148) dX5_pass_148 (by first | exact sr0 hR_q | exact be0 hQ_q | exact sr1 hR_q | exact sr2 hR_q | exact sr3 hR_q | exact sr4 hR_q | exact be1 hQ_q | exact be2 hQ_q | exact be3 hQ_q) (by exact ⟨rfl, by omega⟩) ?_
          rw [(hr9_q.1 i_q (by rw [hs9.P]; omega)).2.1]
          refine go_iconst (v := -1) (pc := 149) dX5_pass_149 (by decide) ?_
          refine go_icmp_eq (tgt := 175) (pc := 150) dX5_pass_150 (by decide) (fun h_150 => ?_) (fun h_150 => ?_)
          · refine go_iinc (v := 1) (lw := [_, _, _, _]) (pc := 175) dX5_pass_175 rfl (by decide) (by decide) rfl ?_
            refine go_goto (tgt := 134) (pc := 178) dX5_pass_178 (by decide) ?_
            rw [nI_1]
            first
              | (refine ih_q _ _ _ ⟨_, rfl, hR_q, hQ_q, hf_q, ?_, rfl⟩
                 rw [← hR9, wetV_step hi_q, if_neg (fun hc_q => upK_f.mp hc_q.1 h_150)]; simp)
              | (refine ih_q _ _ _ ⟨_, rfl, hR_q, hQ_q, hf_q, ?_, rfl⟩
                 rw [← hR9, wetV_step hi_q, if_neg (fun hc_q => absurd hc_q.2 (Int32.not_lt.mpr h_160))]; simp)
              | exact ih_q _ _ _ ⟨_, rfl, hR_q, hQ_q, hf_q, (by rw [← hR9, wetV_step hi_q, if_pos ⟨upK_f.mpr h_150, Int32.not_le.mp h_160⟩]), rfl⟩
          · refine go_aload_n (pc := 153) dX5_pass_153 rfl ?_
            refine go_getf (pc := 154) f_X5_18 dX5_pass_154 (by first | exact sr0 hR_q | exact be0 hQ_q | exact sr1 hR_q | exact sr2 hR_q | exact sr3 hR_q | exact sr4 hR_q | exact be1 hQ_q | exact be2 hQ_q | exact be3 hQ_q) (by rfl) ?_
            refine go_iload_n (pc := 157) dX5_pass_157 rfl ?_
            refine go_iald (pc := 158) dX5_pass_158 (by first | exact sr0 hR_q | exact be0 hQ_q | exact sr1 hR_q | exact sr2 hR_q | exact sr3 hR_q | exact sr4 hR_q | exact be1 hQ_q | exact be2 hQ_q | exact be3 hQ_q) (by exact ⟨rfl, by omega⟩) ?_
            rw [(hr9_q.1 i_q (by rw [hs9.P]; omega)).2.1]
            refine go_iload_n (pc := 159) dX5_pass_159 rfl ?_
            refine go_icmp_ge (tgt := 175) (pc := 160) dX5_pass_160 (by decide) (fun h_160 => ?_) (fun h_160 => ?_)
            · refine go_iinc (v := 1) (lw := [_, _, _, _]) (pc := 175) dX5_pass_175 rfl (by decide) (by decide) rfl ?_
              refine go_goto (tgt := 134) (pc := 178) dX5_pass_178 (by decide) ?_
              rw [nI_1]
              first
                | (refine ih_q _ _ _ ⟨_, rfl, hR_q, hQ_q, hf_q, ?_, rfl⟩
                   rw [← hR9, wetV_step hi_q, if_neg (fun hc_q => upK_f.mp hc_q.1 h_150)]; simp)
                | (refine ih_q _ _ _ ⟨_, rfl, hR_q, hQ_q, hf_q, ?_, rfl⟩
                   rw [← hR9, wetV_step hi_q, if_neg (fun hc_q => absurd hc_q.2 (Int32.not_lt.mpr h_160))]; simp)
                | exact ih_q _ _ _ ⟨_, rfl, hR_q, hQ_q, hf_q, (by rw [← hR9, wetV_step hi_q, if_pos ⟨upK_f.mpr h_150, Int32.not_le.mp h_160⟩]), rfl⟩
            · refine go_aload_n (pc := 163) dX5_pass_163 rfl ?_
              refine go_dup (pc := 164) dX5_pass_164 rfl ?_
              refine go_getf (pc := 165) f_X5_24 dX5_pass_165 (by first | exact sr0 hR_q | exact be0 hQ_q | exact sr1 hR_q | exact sr2 hR_q | exact sr3 hR_q | exact sr4 hR_q | exact be1 hQ_q | exact be2 hQ_q | exact be3 hQ_q) (by rfl) ?_
              refine go_iconst (v := 1) (pc := 168) dX5_pass_168 (by decide) ?_
              refine go_iload_n (pc := 169) dX5_pass_169 rfl ?_
              refine go_ishl (pc := 170) dX5_pass_170 ?_
              refine go_ior (pc := 171) dX5_pass_171 ?_
              refine go_spw (pc := 172) f_X5_24 hR_q dX5_pass_172 (fun σ hR_q hf9 => ?_)
              have hf_q := hf_q.tr hf9
              have hQ_q := hQ_q.fr hf9 (by omega) (by omega)
              refine go_iinc (v := 1) (lw := [_, _, _, _]) (pc := 175) dX5_pass_175 rfl (by decide) (by decide) rfl ?_
              refine go_goto (tgt := 134) (pc := 178) dX5_pass_178 (by decide) ?_
              rw [nI_1]
              first
                | (refine ih_q _ _ _ ⟨_, rfl, hR_q, hQ_q, hf_q, ?_, rfl⟩
                   rw [← hR9, wetV_step hi_q, if_neg (fun hc_q => upK_f.mp hc_q.1 h_150)]; simp)
                | (refine ih_q _ _ _ ⟨_, rfl, hR_q, hQ_q, hf_q, ?_, rfl⟩
                   rw [← hR9, wetV_step hi_q, if_neg (fun hc_q => absurd hc_q.2 (Int32.not_lt.mpr h_160))]; simp)
                | exact ih_q _ _ _ ⟨_, rfl, hR_q, hQ_q, hf_q, (by rw [← hR9, wetV_step hi_q, if_pos ⟨upK_f.mpr h_150, Int32.not_le.mp h_160⟩]), rfl⟩
        · rintro lv9 σ n9 ⟨w9_q, rfl, hR_q, hQ_q, hf_q, hR9, rfl⟩
          refine go_iload_n (pc := 134) dX5_pass_134 rfl ?_
          refine go_if_le (tgt := 181) (pc := 135) dX5_pass_135 (by decide) (fun h_135 => by exfalso; exact absurd h_135 (Int32.not_le.mpr ht_q)) (fun h_135 => ?_)
          refine go_iload_n (pc := 138) dX5_pass_138 rfl ?_
          refine go_iload_n (pc := 139) dX5_pass_139 rfl ?_
          refine go_icmp_ge (tgt := 181) (pc := 140) dX5_pass_140 (by decide) (fun h_140 => ?_) (fun h_140 => by exfalso; rw [hB_q.1.1] at h_140; exact h_140 (nI_le (by omega) (by omega)))
          rw [Nat.sub_self] at hR9
          have hR9 : w9_q = pasW K t w := hR9
          subst hR9
          refine go_aload_n (pc := 181) dX5_pass_181 rfl ?_
          refine go_dup (pc := 182) dX5_pass_182 rfl ?_
          refine go_getf (pc := 183) f_X5_28 dX5_pass_183 (by first | exact sr0 hR_q | exact be0 hQ_q | exact sr1 hR_q | exact sr2 hR_q | exact sr3 hR_q | exact sr4 hR_q | exact be1 hQ_q | exact be2 hQ_q | exact be3 hQ_q) (by rfl) ?_
          refine go_iconst (v := 1) (pc := 186) dX5_pass_186 (by decide) ?_
          refine go_iadd (pc := 187) dX5_pass_187 ?_
          refine go_spm (pc := 188) f_X5_28 hR_q dX5_pass_188 (fun σ hR_q hf9 => ?_)
          have hf_q := hf_q.tr hf9
          have hQ_q := hQ_q.fr hf9 (by omega) (by omega)
          exact go_vretV (pc := 191) rfl dX5_pass_191 (Nat.le_of_ble_eq_true rfl) (Nat.le_of_ble_eq_true rfl) ⟨rfl, ⟨_, _, _, _, (by rw [show minK K 33 = K 33 + 1 from minT_33 hP8]; exact hR_q), rS_same (K := dryK K) (wetL_same.up (by omega)) hr9_q (fun j h1_q h2_q => minT_e (by omega)) (by rw [hs9.P]; exact hP8)⟩, hf_q⟩
  · refine go_aload_n (pc := 0) dX5_pass_0 rfl ?_
    refine go_getf (pc := 1) f_X5_31 dX5_pass_1 (by first | exact sr0 hR_q | exact be0 hQ_q | exact sr1 hR_q | exact sr2 hR_q | exact sr3 hR_q | exact sr4 hR_q | exact be1 hQ_q | exact be2 hQ_q | exact be3 hQ_q) (by rfl) ?_
    refine go_getf (pc := 4) f_X5_117 dX5_pass_4 (by first | exact sr0 hR_q | exact be0 hQ_q | exact sr1 hR_q | exact sr2 hR_q | exact sr3 hR_q | exact sr4 hR_q | exact be1 hQ_q | exact be2 hQ_q | exact be3 hQ_q) (by rfl) ?_
    refine go_istore_n (lw := [_, _, _, _]) (pc := 7) dX5_pass_7 (by decide) rfl ?_
    refine go_iconst (v := 0) (pc := 8) dX5_pass_8 (by decide) ?_
    refine go_istore_n (lw := [_, _, _, _]) (pc := 9) dX5_pass_9 (by decide) rfl ?_
    refine go_iter (kP K) (fun i_q lv9 s9 n9 => ∃ (K9_q : row), ∃ (ch9 : row), ∃ (co9 : row), ∃ (rw9 : row), ∃ (bk9 : row), lv9 = [some (.ref a), some (.int t), some (.int (K 3)), some (.int (nI i_q))] ∧ (SrAt Γ ro s9 a b w (K 33) ch9 co9 rw9 bk9) ∧ (BrAt Γ D ro s9 b K ag pa pf lm lt lw) ∧ (frC Γ ro a (a + 4) z0 s9) ∧ (rS K9_q ch9 co9 rw9 bk9) ∧ (gS K9_q) ∧ (sameB K K9_q) ∧ (K9_q 33 = K 33) ∧ (downK (K 33) (kP K - i_q) i_q K9_q = downK (K 33) (kP K) 0 K) ∧ n = n9) ⟨K, _, _, _, _, rfl, hR_q, hQ_q, hf_q, hr_q, hg_q, sameB.rf, rfl, rfl, rfl⟩ ?_ ?_
    · rintro i_q lv9 σ n9 hi_q ⟨K9_q, ch9, co9, rw9, bk9, rfl, hR_q, hQ_q, hf_q, hr9_q, hg9_q, hs9, h33, hR9, rfl⟩ ih_q
      have eP_q := hs9.P
      have eH_q := hs9.H
      have eW := hs9.W
      refine go_iload_n (pc := 10) dX5_pass_10 rfl ?_
      refine go_iload_n (pc := 11) dX5_pass_11 rfl ?_
      refine go_icmp_ge (tgt := 56) (pc := 12) dX5_pass_12 (by decide) (fun h_12 => by exfalso; rw [hB_q.1.1] at h_12; exact absurd h_12 (nI_ge (by omega) (by omega))) (fun h_12 => ?_)
      refine go_aload_n (pc := 15) dX5_pass_15 rfl ?_
      refine go_getf (pc := 16) f_X5_21 dX5_pass_16 (by first | exact sr0 hR_q | exact be0 hQ_q | exact sr1 hR_q | exact sr2 hR_q | exact sr3 hR_q | exact sr4 hR_q | exact be1 hQ_q | exact be2 hQ_q | exact be3 hQ_q) (by rfl) ?_
      refine go_iload_n (pc := 19) dX5_pass_19 rfl ?_
      refine go_iald (pc := 20) dX5_pass_20 (by first | exact sr0 hR_q | exact be0 hQ_q | exact sr1 hR_q | exact sr2 hR_q | exact sr3 hR_q | exact sr4 hR_q | exact be1 hQ_q | exact be2 hQ_q | exact be3 hQ_q) (by exact ⟨rfl, by omega⟩) ?_
      rw [(hr9_q.1 i_q (by omega)).2.2]
      refine go_iconst (v := -1) (pc := 21) dX5_pass_21 (by decide) ?_
      refine go_icmp_eq (tgt := 50) (pc := 22) dX5_pass_22 (by decide) (fun h_22 => ?_) (fun h_22 => ?_)
      · refine go_iinc (v := 1) (lw := [_, _, _, _]) (pc := 50) dX5_pass_50 rfl (by decide) (by decide) rfl ?_
        refine go_goto (tgt := 10) (pc := 53) dX5_pass_53 (by decide) ?_
        rw [nI_1]
        first
          | (have g9_q : K9_q (24 + i_q) = -1 := h_22
             refine ih_q _ _ _ ⟨_, _, _, _, _, rfl, hR_q, hQ_q, hf_q, hr9_q, hg9_q, hs9, h33, ?_, rfl⟩
             rw [← hR9, downK_step hi_q, if_neg (fun hc_q => hc_q.2.1 g9_q)])
          | (have g9_q := Int32.not_le.mpr h_35
             refine ih_q _ _ _ ⟨_, _, _, _, _, rfl, hR_q, hQ_q, hf_q, hr9_q, hg9_q, hs9, h33, ?_, rfl⟩
             rw [← hR9, downK_step hi_q, if_neg (fun hc_q => absurd hc_q.2.2.1 g9_q)])
          | exact ih_q _ _ _ ⟨_, _, _, _, _, rfl, (by rw [takK_33 (by omega), h33] at hR_q; exact hR_q), hQ_q, hf_q, hr9_q, gS_tak (by omega) (by omega) (by omega) hg9_q (by omega), hs9.tr (takK_same (by omega)), (by rw [takK_33 (by omega)]; exact h33), (by rw [← hR9, downK_step hi_q, dn_tak (upK_iff.mpr hu9) h_22 (Int32.not_lt.mp h_35), ec9]), rfl⟩
      · refine go_aload_n (pc := 25) dX5_pass_25 rfl ?_
        refine go_getf (pc := 26) f_X5_21 dX5_pass_26 (by first | exact sr0 hR_q | exact be0 hQ_q | exact sr1 hR_q | exact sr2 hR_q | exact sr3 hR_q | exact sr4 hR_q | exact be1 hQ_q | exact be2 hQ_q | exact be3 hQ_q) (by rfl) ?_
        refine go_iload_n (pc := 29) dX5_pass_29 rfl ?_
        refine go_iald (pc := 30) dX5_pass_30 (by first | exact sr0 hR_q | exact be0 hQ_q | exact sr1 hR_q | exact sr2 hR_q | exact sr3 hR_q | exact sr4 hR_q | exact be1 hQ_q | exact be2 hQ_q | exact be3 hQ_q) (by exact ⟨rfl, by omega⟩) ?_
        rw [(hr9_q.1 i_q (by omega)).2.2]
        refine go_aload_n (pc := 31) dX5_pass_31 rfl ?_
        refine go_getf (pc := 32) f_X5_28 dX5_pass_32 (by first | exact sr0 hR_q | exact be0 hQ_q | exact sr1 hR_q | exact sr2 hR_q | exact sr3 hR_q | exact sr4 hR_q | exact be1 hQ_q | exact be2 hQ_q | exact be3 hQ_q) (by rfl) ?_
        refine go_icmp_gt (tgt := 50) (pc := 35) dX5_pass_35 (by decide) (fun h_35 => ?_) (fun h_35 => ?_)
        · refine go_iinc (v := 1) (lw := [_, _, _, _]) (pc := 50) dX5_pass_50 rfl (by decide) (by decide) rfl ?_
          refine go_goto (tgt := 10) (pc := 53) dX5_pass_53 (by decide) ?_
          rw [nI_1]
          first
            | (have g9_q : K9_q (24 + i_q) = -1 := h_22
               refine ih_q _ _ _ ⟨_, _, _, _, _, rfl, hR_q, hQ_q, hf_q, hr9_q, hg9_q, hs9, h33, ?_, rfl⟩
               rw [← hR9, downK_step hi_q, if_neg (fun hc_q => hc_q.2.1 g9_q)])
            | (have g9_q := Int32.not_le.mpr h_35
               refine ih_q _ _ _ ⟨_, _, _, _, _, rfl, hR_q, hQ_q, hf_q, hr9_q, hg9_q, hs9, h33, ?_, rfl⟩
               rw [← hR9, downK_step hi_q, if_neg (fun hc_q => absurd hc_q.2.2.1 g9_q)])
            | exact ih_q _ _ _ ⟨_, _, _, _, _, rfl, (by rw [takK_33 (by omega), h33] at hR_q; exact hR_q), hQ_q, hf_q, hr9_q, gS_tak (by omega) (by omega) (by omega) hg9_q (by omega), hs9.tr (takK_same (by omega)), (by rw [takK_33 (by omega)]; exact h33), (by rw [← hR9, downK_step hi_q, dn_tak (upK_iff.mpr hu9) h_22 (Int32.not_lt.mp h_35), ec9]), rfl⟩
        · refine go_aload_n (pc := 38) dX5_pass_38 rfl ?_
          refine go_iload_n (pc := 39) dX5_pass_39 rfl ?_
          refine go_aload_n (pc := 40) dX5_pass_40 rfl ?_
          refine go_getf (pc := 41) f_X5_15 dX5_pass_41 (by first | exact sr0 hR_q | exact be0 hQ_q | exact sr1 hR_q | exact sr2 hR_q | exact sr3 hR_q | exact sr4 hR_q | exact be1 hQ_q | exact be2 hQ_q | exact be3 hQ_q) (by rfl) ?_
          refine go_iload_n (pc := 44) dX5_pass_44 rfl ?_
          refine go_iald (pc := 45) dX5_pass_45 (by first | exact sr0 hR_q | exact be0 hQ_q | exact sr1 hR_q | exact sr2 hR_q | exact sr3 hR_q | exact sr4 hR_q | exact be1 hQ_q | exact be2 hQ_q | exact be3 hQ_q) (by exact ⟨rfl, by omega⟩) ?_
          obtain ⟨c9_q, hc9, ec9⟩ := (hg9_q.1 i_q (by omega)).1
          have hu9 := bak_up hg9_q (by omega) h_22
          rw [(hr9_q.1 i_q (by omega)).1, ec9]
          refine go_V2I (pc := 46) v_X5_96 rfl rfl (rcv_of (ci := 5) (by first | exact sr0 hR_q | exact be0 hQ_q | exact sr1 hR_q | exact sr2 hR_q | exact sr3 hR_q | exact sr4 hR_q | exact be1 hQ_q | exact be2 hQ_q | exact be3 hQ_q) rfl) dX5_pass_46 (cp_take (k := k - 1) (by rw [h33]; exact hR_q) hr9_q (hQ_q.sm hs9) (hs9.okB hB_q) hg9_q hD hsb (by omega) (by omega) hu9 (by omega)) (fun v_46 σ n h_q => ?_)
          obtain ⟨rfl, rfl, ⟨ch9, co9, rw9, bk9, hR_q, hr9_q⟩, hf1⟩ := h_q
          have hf_q := hf_q.tr hf1
          have hQ_q := hQ_q.fr hf1 (by omega) (by omega)
          refine go_pop (pc := 49) dX5_pass_49 rfl ?_
          refine go_iinc (v := 1) (lw := [_, _, _, _]) (pc := 50) dX5_pass_50 rfl (by decide) (by decide) rfl ?_
          refine go_goto (tgt := 10) (pc := 53) dX5_pass_53 (by decide) ?_
          rw [nI_1]
          first
            | (have g9_q : K9_q (24 + i_q) = -1 := h_22
               refine ih_q _ _ _ ⟨_, _, _, _, _, rfl, hR_q, hQ_q, hf_q, hr9_q, hg9_q, hs9, h33, ?_, rfl⟩
               rw [← hR9, downK_step hi_q, if_neg (fun hc_q => hc_q.2.1 g9_q)])
            | (have g9_q := Int32.not_le.mpr h_35
               refine ih_q _ _ _ ⟨_, _, _, _, _, rfl, hR_q, hQ_q, hf_q, hr9_q, hg9_q, hs9, h33, ?_, rfl⟩
               rw [← hR9, downK_step hi_q, if_neg (fun hc_q => absurd hc_q.2.2.1 g9_q)])
            | exact ih_q _ _ _ ⟨_, _, _, _, _, rfl, (by rw [takK_33 (by omega), h33] at hR_q; exact hR_q), hQ_q, hf_q, hr9_q, gS_tak (by omega) (by omega) (by omega) hg9_q (by omega), hs9.tr (takK_same (by omega)), (by rw [takK_33 (by omega)]; exact h33), (by rw [← hR9, downK_step hi_q, dn_tak (upK_iff.mpr hu9) h_22 (Int32.not_lt.mp h_35), ec9]), rfl⟩
    · rintro lv9 σ n9 ⟨K9_q, ch9, co9, rw9, bk9, rfl, hR_q, hQ_q, hf_q, hr9_q, hg9_q, hs9, h33, hR9, rfl⟩
      have eP_q := hs9.P
      have eH_q := hs9.H
      have eW := hs9.W
      refine go_iload_n (pc := 10) dX5_pass_10 rfl ?_
      refine go_iload_n (pc := 11) dX5_pass_11 rfl ?_
      refine go_icmp_ge (tgt := 56) (pc := 12) dX5_pass_12 (by decide) (fun h_12 => ?_) (fun h_12 => by exfalso; rw [hB_q.1.1] at h_12; exact h_12 (nI_le (by omega) (by omega)))
      rw [Nat.sub_self, downK] at hR9
      subst hR9
      refine go_iconst (v := 0) (pc := 56) dX5_pass_56 (by decide) ?_
      refine go_istore_n (lw := [_, _, _, _]) (pc := 57) dX5_pass_57 (by decide) rfl ?_
      refine go_iter (kP K) (fun i_q lv9 s9 n9 => ∃ (K9_q : row), ∃ (ch9 : row), ∃ (co9 : row), ∃ (rw9 : row), ∃ (bk9 : row), lv9 = [some (.ref a), some (.int t), some (.int (K 3)), some (.int (nI i_q))] ∧ (SrAt Γ ro s9 a b w (K 33) ch9 co9 rw9 bk9) ∧ (BrAt Γ D ro s9 b K ag pa pf lm lt lw) ∧ (frC Γ ro a (a + 4) z0 s9) ∧ (rS K9_q ch9 co9 rw9 bk9) ∧ (gS K9_q) ∧ (sameB K K9_q) ∧ (K9_q 33 = K 33) ∧ (planK (K 33) (kP K - i_q) i_q K9_q = dryK K) ∧ n = n9) ⟨_, _, _, _, _, rfl, hR_q, hQ_q, hf_q, hr9_q, hg9_q, hs9, h33, rfl, rfl⟩ ?_ ?_
      · rintro i_q lv9 σ n9 hi_q ⟨K9_q, ch9, co9, rw9, bk9, rfl, hR_q, hQ_q, hf_q, hr9_q, hg9_q, hs9, h33, hR9, rfl⟩ ih_q
        have eP_q := hs9.P
        have eH_q := hs9.H
        have eW := hs9.W
        refine go_iload_n (pc := 58) dX5_pass_58 rfl ?_
        refine go_iload_n (pc := 59) dX5_pass_59 rfl ?_
        refine go_icmp_ge (tgt := 132) (pc := 60) dX5_pass_60 (by decide) (fun h_60 => by exfalso; rw [hB_q.1.1] at h_60; exact absurd h_60 (nI_ge (by omega) (by omega))) (fun h_60 => ?_)
        refine go_aload_n (pc := 63) dX5_pass_63 rfl ?_
        refine go_getf (pc := 64) f_X5_31 dX5_pass_64 (by first | exact sr0 hR_q | exact be0 hQ_q | exact sr1 hR_q | exact sr2 hR_q | exact sr3 hR_q | exact sr4 hR_q | exact be1 hQ_q | exact be2 hQ_q | exact be3 hQ_q) (by rfl) ?_
        refine go_getf (pc := 67) f_X5_120 dX5_pass_67 (by first | exact sr0 hR_q | exact be0 hQ_q | exact sr1 hR_q | exact sr2 hR_q | exact sr3 hR_q | exact sr4 hR_q | exact be1 hQ_q | exact be2 hQ_q | exact be3 hQ_q) (by rfl) ?_
        refine go_iload_n (pc := 70) dX5_pass_70 rfl ?_
        refine go_iald (pc := 71) dX5_pass_71 (by first | exact sr0 hR_q | exact be0 hQ_q | exact sr1 hR_q | exact sr2 hR_q | exact sr3 hR_q | exact sr4 hR_q | exact be1 hQ_q | exact be2 hQ_q | exact be3 hQ_q) (by exact ⟨rfl, by omega⟩) ?_
        rw [(hQ_q.2.2.2.2.2.2.2.2 i_q hi_q).2.1]
        refine go_aload_n (pc := 72) dX5_pass_72 rfl ?_
        refine go_getf (pc := 73) f_X5_28 dX5_pass_73 (by first | exact sr0 hR_q | exact be0 hQ_q | exact sr1 hR_q | exact sr2 hR_q | exact sr3 hR_q | exact sr4 hR_q | exact be1 hQ_q | exact be2 hQ_q | exact be3 hQ_q) (by rfl) ?_
        refine go_icmp_ne (tgt := 126) (pc := 76) dX5_pass_76 (by decide) (fun h_76 => ?_) (fun h_76 => ?_)
        · refine go_iinc (v := 1) (lw := [_, _, _, _]) (pc := 126) dX5_pass_126 rfl (by decide) (by decide) rfl ?_
          refine go_goto (tgt := 58) (pc := 129) dX5_pass_129 (by decide) ?_
          rw [nI_1]
          first
            | (refine ih_q _ _ _ ⟨_, _, _, _, _, rfl, hR_q, hQ_q, hf_q, hr9_q, hg9_q, hs9, h33, ?_, rfl⟩
               rw [← hR9, planK_step hi_q, if_neg (fun hc_q => h_76 (by rw [← hs9 (43 + i_q) (by omega)]; exact hc_q.1))])
            | (refine ih_q _ _ _ ⟨_, _, _, _, _, rfl, hR_q, hQ_q, hf_q, hr9_q, hg9_q, hs9, h33, ?_, rfl⟩
               rw [← hR9, planK_step hi_q, if_neg (fun hc_q => upK_f.mp hc_q.2.1 h_86)])
            | (refine ih_q _ _ _ ⟨_, _, _, _, _, rfl, hR_q, hQ_q, hf_q, hr9_q, hg9_q, hs9, h33, ?_, rfl⟩
               rw [← hR9, planK_step hi_q, if_neg (fun hc_q => h_97 (bI_0.mpr (by have := hc_q.2.2; rw [hs9.asl] at this; rw [show hasB (K 42) (nI i_q) = false from this]; decide)))])
            | exact ih_q _ _ _ ⟨(riseK K9_q i_q (K 33 + K (51 + i_q))).1, _, _, _, _, rfl, hR_q, hQ_q, hf_q, (by rw [rise_s (by omega) (by omega)]; exact rS_24 (by rw [(riseK_same (K := K9_q) (p := i_q) (s := -1) (by omega) (by omega)).P]; omega) (by omega) hr9_q), gS_rise (by omega) (by omega) (by omega) hg9_q h_86, hs9.tr (riseK_same (by omega) (by omega)), (by rw [rise_hi (by omega) (by omega) (by omega)]; exact h33), (by rw [← hR9, planK_step hi_q, if_pos hcnd, hs9 (51 + i_q) (by omega)]), rfl⟩
        · refine go_aload_n (pc := 79) dX5_pass_79 rfl ?_
          refine go_getf (pc := 80) f_X5_18 dX5_pass_80 (by first | exact sr0 hR_q | exact be0 hQ_q | exact sr1 hR_q | exact sr2 hR_q | exact sr3 hR_q | exact sr4 hR_q | exact be1 hQ_q | exact be2 hQ_q | exact be3 hQ_q) (by rfl) ?_
          refine go_iload_n (pc := 83) dX5_pass_83 rfl ?_
          refine go_iald (pc := 84) dX5_pass_84 (by first | exact sr0 hR_q | exact be0 hQ_q | exact sr1 hR_q | exact sr2 hR_q | exact sr3 hR_q | exact sr4 hR_q | exact be1 hQ_q | exact be2 hQ_q | exact be3 hQ_q) (by exact ⟨rfl, by omega⟩) ?_
          rw [(hr9_q.1 i_q (by omega)).2.1]
          refine go_iconst (v := -1) (pc := 85) dX5_pass_85 (by decide) ?_
          refine go_icmp_eq (tgt := 126) (pc := 86) dX5_pass_86 (by decide) (fun h_86 => ?_) (fun h_86 => ?_)
          · refine go_iinc (v := 1) (lw := [_, _, _, _]) (pc := 126) dX5_pass_126 rfl (by decide) (by decide) rfl ?_
            refine go_goto (tgt := 58) (pc := 129) dX5_pass_129 (by decide) ?_
            rw [nI_1]
            first
              | (refine ih_q _ _ _ ⟨_, _, _, _, _, rfl, hR_q, hQ_q, hf_q, hr9_q, hg9_q, hs9, h33, ?_, rfl⟩
                 rw [← hR9, planK_step hi_q, if_neg (fun hc_q => h_76 (by rw [← hs9 (43 + i_q) (by omega)]; exact hc_q.1))])
              | (refine ih_q _ _ _ ⟨_, _, _, _, _, rfl, hR_q, hQ_q, hf_q, hr9_q, hg9_q, hs9, h33, ?_, rfl⟩
                 rw [← hR9, planK_step hi_q, if_neg (fun hc_q => upK_f.mp hc_q.2.1 h_86)])
              | (refine ih_q _ _ _ ⟨_, _, _, _, _, rfl, hR_q, hQ_q, hf_q, hr9_q, hg9_q, hs9, h33, ?_, rfl⟩
                 rw [← hR9, planK_step hi_q, if_neg (fun hc_q => h_97 (bI_0.mpr (by have := hc_q.2.2; rw [hs9.asl] at this; rw [show hasB (K 42) (nI i_q) = false from this]; decide)))])
              | exact ih_q _ _ _ ⟨(riseK K9_q i_q (K 33 + K (51 + i_q))).1, _, _, _, _, rfl, hR_q, hQ_q, hf_q, (by rw [rise_s (by omega) (by omega)]; exact rS_24 (by rw [(riseK_same (K := K9_q) (p := i_q) (s := -1) (by omega) (by omega)).P]; omega) (by omega) hr9_q), gS_rise (by omega) (by omega) (by omega) hg9_q h_86, hs9.tr (riseK_same (by omega) (by omega)), (by rw [rise_hi (by omega) (by omega) (by omega)]; exact h33), (by rw [← hR9, planK_step hi_q, if_pos hcnd, hs9 (51 + i_q) (by omega)]), rfl⟩
          · refine go_aload_n (pc := 89) dX5_pass_89 rfl ?_
            refine go_getf (pc := 90) f_X5_31 dX5_pass_90 (by first | exact sr0 hR_q | exact be0 hQ_q | exact sr1 hR_q | exact sr2 hR_q | exact sr3 hR_q | exact sr4 hR_q | exact be1 hQ_q | exact be2 hQ_q | exact be3 hQ_q) (by rfl) ?_
            refine go_iload_n (pc := 93) dX5_pass_93 rfl ?_
            refine go_V1P (pc := 94) v_X5_57 rfl rfl (rcv_of (ci := 0) (by first | exact sr0 hR_q | exact be0 hQ_q | exact sr1 hR_q | exact sr2 hR_q | exact sr3 hR_q | exact sr4 hR_q | exact be1 hQ_q | exact be2 hQ_q | exact be3 hQ_q) rfl) dX5_pass_94 (cp_isAsleep (k := k - 1) hQ_q _) ?_
            refine go_if_ne (tgt := 126) (pc := 97) dX5_pass_97 (by decide) (fun h_97 => ?_) (fun h_97 => ?_)
            · refine go_iinc (v := 1) (lw := [_, _, _, _]) (pc := 126) dX5_pass_126 rfl (by decide) (by decide) rfl ?_
              refine go_goto (tgt := 58) (pc := 129) dX5_pass_129 (by decide) ?_
              rw [nI_1]
              first
                | (refine ih_q _ _ _ ⟨_, _, _, _, _, rfl, hR_q, hQ_q, hf_q, hr9_q, hg9_q, hs9, h33, ?_, rfl⟩
                   rw [← hR9, planK_step hi_q, if_neg (fun hc_q => h_76 (by rw [← hs9 (43 + i_q) (by omega)]; exact hc_q.1))])
                | (refine ih_q _ _ _ ⟨_, _, _, _, _, rfl, hR_q, hQ_q, hf_q, hr9_q, hg9_q, hs9, h33, ?_, rfl⟩
                   rw [← hR9, planK_step hi_q, if_neg (fun hc_q => upK_f.mp hc_q.2.1 h_86)])
                | (refine ih_q _ _ _ ⟨_, _, _, _, _, rfl, hR_q, hQ_q, hf_q, hr9_q, hg9_q, hs9, h33, ?_, rfl⟩
                   rw [← hR9, planK_step hi_q, if_neg (fun hc_q => h_97 (bI_0.mpr (by have := hc_q.2.2; rw [hs9.asl] at this; rw [show hasB (K 42) (nI i_q) = false from this]; decide)))])
                | exact ih_q _ _ _ ⟨(riseK K9_q i_q (K 33 + K (51 + i_q))).1, _, _, _, _, rfl, hR_q, hQ_q, hf_q, (by rw [rise_s (by omega) (by omega)]; exact rS_24 (by rw [(riseK_same (K := K9_q) (p := i_q) (s := -1) (by omega) (by omega)).P]; omega) (by omega) hr9_q), gS_rise (by omega) (by omega) (by omega) hg9_q h_86, hs9.tr (riseK_same (by omega) (by omega)), (by rw [rise_hi (by omega) (by omega) (by omega)]; exact h33), (by rw [← hR9, planK_step hi_q, if_pos hcnd, hs9 (51 + i_q) (by omega)]), rfl⟩
            · have hcnd : K9_q (43 + i_q) = K 33 ∧ upK K9_q i_q = false ∧ aslK K9_q i_q = false := ⟨by rw [hs9 (43 + i_q) (by omega)]; exact h_76, upK_f.mpr h_86, by rw [hs9.asl]; have := bI_0.mp h_97; simpa [aslK] using this⟩
              refine go_aload_n (pc := 100) dX5_pass_100 rfl ?_
              refine go_iload_n (pc := 101) dX5_pass_101 rfl ?_
              refine go_V1I (pc := 102) v_X5_93 rfl rfl (rcv_of (ci := 5) (by first | exact sr0 hR_q | exact be0 hQ_q | exact sr1 hR_q | exact sr2 hR_q | exact sr3 hR_q | exact sr4 hR_q | exact be1 hQ_q | exact be2 hQ_q | exact be3 hQ_q) rfl) dX5_pass_102 (cp_leave (k := k - 1) (by rw [h33]; exact hR_q) hr9_q (hQ_q.sm hs9) (hs9.okB hB_q) hg9_q hD hsb (by omega) (by omega) h_86) (fun v_102 σ n h_q => ?_)
              obtain ⟨rfl, rfl, ⟨ch9, co9, rw9, bk9, hR_q, hr9_q⟩, hf1⟩ := h_q
              have hf_q := hf_q.tr hf1
              have hQ_q := hQ_q.fr hf1 (by omega) (by omega)
              refine go_pop (pc := 105) dX5_pass_105 rfl ?_
              have e33 : (riseK K9_q i_q (-1)).1 33 = K 33 := by rw [rise_hi (by omega) (by omega) (by omega)]; exact h33
              rw [e33] at hR_q
              refine go_aload_n (pc := 106) dX5_pass_106 rfl ?_
              refine go_getf (pc := 107) f_X5_21 dX5_pass_107 (by first | exact sr0 hR_q | exact be0 hQ_q | exact sr1 hR_q | exact sr2 hR_q | exact sr3 hR_q | exact sr4 hR_q | exact be1 hQ_q | exact be2 hQ_q | exact be3 hQ_q) (by rfl) ?_
              refine go_iload_n (pc := 110) dX5_pass_110 rfl ?_
              refine go_aload_n (pc := 111) dX5_pass_111 rfl ?_
              refine go_getf (pc := 112) f_X5_28 dX5_pass_112 (by first | exact sr0 hR_q | exact be0 hQ_q | exact sr1 hR_q | exact sr2 hR_q | exact sr3 hR_q | exact sr4 hR_q | exact be1 hQ_q | exact be2 hQ_q | exact be3 hQ_q) (by rfl) ?_
              refine go_aload_n (pc := 115) dX5_pass_115 rfl ?_
              refine go_getf (pc := 116) f_X5_31 dX5_pass_116 (by first | exact sr0 hR_q | exact be0 hQ_q | exact sr1 hR_q | exact sr2 hR_q | exact sr3 hR_q | exact sr4 hR_q | exact be1 hQ_q | exact be2 hQ_q | exact be3 hQ_q) (by rfl) ?_
              refine go_getf (pc := 119) f_X5_123 dX5_pass_119 (by first | exact sr0 hR_q | exact be0 hQ_q | exact sr1 hR_q | exact sr2 hR_q | exact sr3 hR_q | exact sr4 hR_q | exact be1 hQ_q | exact be2 hQ_q | exact be3 hQ_q) (by rfl) ?_
              refine go_iload_n (pc := 122) dX5_pass_122 rfl ?_
              refine go_iald (pc := 123) dX5_pass_123 (by first | exact sr0 hR_q | exact be0 hQ_q | exact sr1 hR_q | exact sr2 hR_q | exact sr3 hR_q | exact sr4 hR_q | exact be1 hQ_q | exact be2 hQ_q | exact be3 hQ_q) (by exact ⟨rfl, by omega⟩) ?_
              rw [(hQ_q.2.2.2.2.2.2.2.2 i_q hi_q).2.2]
              refine go_iadd (pc := 124) dX5_pass_124 ?_
              refine go_ss4 (pc := 125) hR_q dX5_pass_125 (by exact ⟨rfl, by omega⟩) (fun σ hR_q hf9 => ?_)
              have hf_q := hf_q.tr hf9
              have hQ_q := hQ_q.fr hf9 (by omega) (by omega)
              refine go_iinc (v := 1) (lw := [_, _, _, _]) (pc := 126) dX5_pass_126 rfl (by decide) (by decide) rfl ?_
              refine go_goto (tgt := 58) (pc := 129) dX5_pass_129 (by decide) ?_
              rw [nI_1]
              first
                | (refine ih_q _ _ _ ⟨_, _, _, _, _, rfl, hR_q, hQ_q, hf_q, hr9_q, hg9_q, hs9, h33, ?_, rfl⟩
                   rw [← hR9, planK_step hi_q, if_neg (fun hc_q => h_76 (by rw [← hs9 (43 + i_q) (by omega)]; exact hc_q.1))])
                | (refine ih_q _ _ _ ⟨_, _, _, _, _, rfl, hR_q, hQ_q, hf_q, hr9_q, hg9_q, hs9, h33, ?_, rfl⟩
                   rw [← hR9, planK_step hi_q, if_neg (fun hc_q => upK_f.mp hc_q.2.1 h_86)])
                | (refine ih_q _ _ _ ⟨_, _, _, _, _, rfl, hR_q, hQ_q, hf_q, hr9_q, hg9_q, hs9, h33, ?_, rfl⟩
                   rw [← hR9, planK_step hi_q, if_neg (fun hc_q => h_97 (bI_0.mpr (by have := hc_q.2.2; rw [hs9.asl] at this; rw [show hasB (K 42) (nI i_q) = false from this]; decide)))])
                | exact ih_q _ _ _ ⟨(riseK K9_q i_q (K 33 + K (51 + i_q))).1, _, _, _, _, rfl, hR_q, hQ_q, hf_q, (by rw [rise_s (by omega) (by omega)]; exact rS_24 (by rw [(riseK_same (K := K9_q) (p := i_q) (s := -1) (by omega) (by omega)).P]; omega) (by omega) hr9_q), gS_rise (by omega) (by omega) (by omega) hg9_q h_86, hs9.tr (riseK_same (by omega) (by omega)), (by rw [rise_hi (by omega) (by omega) (by omega)]; exact h33), (by rw [← hR9, planK_step hi_q, if_pos hcnd, hs9 (51 + i_q) (by omega)]), rfl⟩
      · rintro lv9 σ n9 ⟨K9_q, ch9, co9, rw9, bk9, rfl, hR_q, hQ_q, hf_q, hr9_q, hg9_q, hs9, h33, hR9, rfl⟩
        have eP_q := hs9.P
        have eH_q := hs9.H
        have eW := hs9.W
        refine go_iload_n (pc := 58) dX5_pass_58 rfl ?_
        refine go_iload_n (pc := 59) dX5_pass_59 rfl ?_
        refine go_icmp_ge (tgt := 132) (pc := 60) dX5_pass_60 (by decide) (fun h_60 => ?_) (fun h_60 => by exfalso; rw [hB_q.1.1] at h_60; exact h_60 (nI_le (by omega) (by omega)))
        rw [Nat.sub_self, planK] at hR9
        subst hR9
        refine go_iconst (v := 0) (pc := 132) dX5_pass_132 (by decide) ?_
        refine go_istore_n (lw := [_, _, _, _]) (pc := 133) dX5_pass_133 (by decide) rfl ?_
        refine go_iload_n (pc := 134) dX5_pass_134 rfl ?_
        refine go_if_le (tgt := 181) (pc := 135) dX5_pass_135 (by decide) (fun h_135 => ?_) (fun h_135 => by exfalso; exact h_135 (Int32.not_lt.mp ht_q))
        refine go_aload_n (pc := 181) dX5_pass_181 rfl ?_
        refine go_dup (pc := 182) dX5_pass_182 rfl ?_
        refine go_getf (pc := 183) f_X5_28 dX5_pass_183 (by first | exact sr0 hR_q | exact be0 hQ_q | exact sr1 hR_q | exact sr2 hR_q | exact sr3 hR_q | exact sr4 hR_q | exact be1 hQ_q | exact be2 hQ_q | exact be3 hQ_q) (by rfl) ?_
        refine go_iconst (v := 1) (pc := 186) dX5_pass_186 (by decide) ?_
        refine go_iadd (pc := 187) dX5_pass_187 ?_
        refine go_spm (pc := 188) f_X5_28 hR_q dX5_pass_188 (fun σ hR_q hf9 => ?_)
        have hf_q := hf_q.tr hf9
        have hQ_q := hQ_q.fr hf9 (by omega) (by omega)
        exact go_vretV (pc := 191) rfl dX5_pass_191 (Nat.le_of_ble_eq_true rfl) (Nat.le_of_ble_eq_true rfl) (by rw [pasW_0 ht_q hg_q hP8 hH5]; exact ⟨rfl, ⟨_, _, _, _, (by rw [show minK K 33 = K 33 + 1 from minT_33 hP8]; exact hR_q), rS_same (K := dryK K) (wetL_same.up (by omega)) hr9_q (fun j h1_q h2_q => minT_e (by omega)) (by rw [hs9.P]; exact hP8)⟩, hf_q⟩)
theorem cp_copyFrom {Γ : gam} {ro : Nat → Nat} {z0 : sto} {n k a b a2 b2 : Nat} {w m w2_q m2 : Int32} {ch co rw bk ch2 co2 rw2 bk2 : row} (hR_q : SrAt Γ ro z0 a b w m ch co rw bk) (hR2 : SrAt Γ ro z0 a2 b2 w2_q m2 ch2 co2 rw2 bk2) (hne : a + 4 < a2 ∨ a2 + 4 < a) (hk : 1 ≤ k) : Sp Γ (rmk k 0 0) uX5_copyFrom [.ref a, .ref a2] z0 n (qV fun σ' n' => n' = n ∧ (∃ ch' co' rw' bk', SrAt Γ ro σ' a b2 w2_q m2 ch' co' rw' bk' ∧ (∀ j, j < 20 → ch' j = ch2 j) ∧ (∀ j, j < 8 → co' j = co2 j) ∧ (∀ j, j < 8 → rw' j = rw2 j) ∧ ∀ j, j < 8 → bk' j = bk2 j) ∧ frC Γ ro a (a + 4) z0 σ') := by
  have hf_q : frC Γ ro a (a + 4) z0 z0 := frC.rf
  refine sp_intro [some (.ref a), some (.ref a2)] (by decide +kernel) rfl (Nat.le_of_ble_eq_true rfl) rfl ?_
  refine go_aload_n (pc := 0) dX5_copyFrom_0 rfl ?_
  refine go_getf (pc := 1) f_X5_9 dX5_copyFrom_1 (by first | exact sr0 hR_q | exact sr0 hR2 | exact sr1 hR_q | exact sr1 hR2 | exact sr2 hR_q | exact sr2 hR2 | exact sr3 hR_q | exact sr3 hR2 | exact sr4 hR_q | exact sr4 hR2) (by rfl) ?_
  refine go_iconst (v := 0) (pc := 4) dX5_copyFrom_4 (by decide) ?_
  refine go_aload_n (pc := 5) dX5_copyFrom_5 rfl ?_
  refine go_getf (pc := 6) f_X5_9 dX5_copyFrom_6 (by first | exact sr0 hR_q | exact sr0 hR2 | exact sr1 hR_q | exact sr1 hR2 | exact sr2 hR_q | exact sr2 hR2 | exact sr3 hR_q | exact sr3 hR2 | exact sr4 hR_q | exact sr4 hR2) (by rfl) ?_
  refine go_iconst (v := 0) (pc := 9) dX5_copyFrom_9 (by decide) ?_
  refine go_aload_n (pc := 10) dX5_copyFrom_10 rfl ?_
  refine go_getf (pc := 11) f_X5_9 dX5_copyFrom_11 (by first | exact sr0 hR_q | exact sr0 hR2 | exact sr1 hR_q | exact sr1 hR2 | exact sr2 hR_q | exact sr2 hR2 | exact sr3 hR_q | exact sr3 hR2 | exact sr4 hR_q | exact sr4 hR2) (by rfl) ?_
  refine go_alen (pc := 14) dX5_copyFrom_14 (by first | exact sr0 hR_q | exact sr0 hR2 | exact sr1 hR_q | exact sr1 hR2 | exact sr2 hR_q | exact sr2 hR2 | exact sr3 hR_q | exact sr3 hR2 | exact sr4 hR_q | exact sr4 hR2) (t0 := 0) rfl rfl ?_
  refine go_cp1 (pc := 15) kw2_71 hR_q hR2 hne dX5_copyFrom_15 (by simp only [rmk]; omega) (by simp only [rmk, List.map_nil, List.sum_nil]; simp [nativeFrameWords]; omega) (fun σ hR_q hR2 hf9 => ?_)
  have hf_q := hf_q.tr hf9
  refine go_aload_n (pc := 18) dX5_copyFrom_18 rfl ?_
  refine go_getf (pc := 19) f_X5_15 dX5_copyFrom_19 (by first | exact sr0 hR_q | exact sr0 hR2 | exact sr1 hR_q | exact sr1 hR2 | exact sr2 hR_q | exact sr2 hR2 | exact sr3 hR_q | exact sr3 hR2 | exact sr4 hR_q | exact sr4 hR2) (by rfl) ?_
  refine go_iconst (v := 0) (pc := 22) dX5_copyFrom_22 (by decide) ?_
  refine go_aload_n (pc := 23) dX5_copyFrom_23 rfl ?_
  refine go_getf (pc := 24) f_X5_15 dX5_copyFrom_24 (by first | exact sr0 hR_q | exact sr0 hR2 | exact sr1 hR_q | exact sr1 hR2 | exact sr2 hR_q | exact sr2 hR2 | exact sr3 hR_q | exact sr3 hR2 | exact sr4 hR_q | exact sr4 hR2) (by rfl) ?_
  refine go_iconst (v := 0) (pc := 27) dX5_copyFrom_27 (by decide) ?_
  refine go_bipush (v := 8) (pc := 28) dX5_copyFrom_28 (by decide) ?_
  refine go_cp2 (pc := 30) kw2_71 hR_q hR2 hne dX5_copyFrom_30 (by simp only [rmk]; omega) (by simp only [rmk, List.map_nil, List.sum_nil]; simp [nativeFrameWords]; omega) (fun σ hR_q hR2 hf9 => ?_)
  have hf_q := hf_q.tr hf9
  refine go_aload_n (pc := 33) dX5_copyFrom_33 rfl ?_
  refine go_getf (pc := 34) f_X5_18 dX5_copyFrom_34 (by first | exact sr0 hR_q | exact sr0 hR2 | exact sr1 hR_q | exact sr1 hR2 | exact sr2 hR_q | exact sr2 hR2 | exact sr3 hR_q | exact sr3 hR2 | exact sr4 hR_q | exact sr4 hR2) (by rfl) ?_
  refine go_iconst (v := 0) (pc := 37) dX5_copyFrom_37 (by decide) ?_
  refine go_aload_n (pc := 38) dX5_copyFrom_38 rfl ?_
  refine go_getf (pc := 39) f_X5_18 dX5_copyFrom_39 (by first | exact sr0 hR_q | exact sr0 hR2 | exact sr1 hR_q | exact sr1 hR2 | exact sr2 hR_q | exact sr2 hR2 | exact sr3 hR_q | exact sr3 hR2 | exact sr4 hR_q | exact sr4 hR2) (by rfl) ?_
  refine go_iconst (v := 0) (pc := 42) dX5_copyFrom_42 (by decide) ?_
  refine go_bipush (v := 8) (pc := 43) dX5_copyFrom_43 (by decide) ?_
  refine go_cp3 (pc := 45) kw2_71 hR_q hR2 hne dX5_copyFrom_45 (by simp only [rmk]; omega) (by simp only [rmk, List.map_nil, List.sum_nil]; simp [nativeFrameWords]; omega) (fun σ hR_q hR2 hf9 => ?_)
  have hf_q := hf_q.tr hf9
  refine go_aload_n (pc := 48) dX5_copyFrom_48 rfl ?_
  refine go_getf (pc := 49) f_X5_21 dX5_copyFrom_49 (by first | exact sr0 hR_q | exact sr0 hR2 | exact sr1 hR_q | exact sr1 hR2 | exact sr2 hR_q | exact sr2 hR2 | exact sr3 hR_q | exact sr3 hR2 | exact sr4 hR_q | exact sr4 hR2) (by rfl) ?_
  refine go_iconst (v := 0) (pc := 52) dX5_copyFrom_52 (by decide) ?_
  refine go_aload_n (pc := 53) dX5_copyFrom_53 rfl ?_
  refine go_getf (pc := 54) f_X5_21 dX5_copyFrom_54 (by first | exact sr0 hR_q | exact sr0 hR2 | exact sr1 hR_q | exact sr1 hR2 | exact sr2 hR_q | exact sr2 hR2 | exact sr3 hR_q | exact sr3 hR2 | exact sr4 hR_q | exact sr4 hR2) (by rfl) ?_
  refine go_iconst (v := 0) (pc := 57) dX5_copyFrom_57 (by decide) ?_
  refine go_bipush (v := 8) (pc := 58) dX5_copyFrom_58 (by decide) ?_
  refine go_cp4 (pc := 60) kw2_71 hR_q hR2 hne dX5_copyFrom_60 (by simp only [rmk]; omega) (by simp only [rmk, List.map_nil, List.sum_nil]; simp [nativeFrameWords]; omega) (fun σ hR_q hR2 hf9 => ?_)
  have hf_q := hf_q.tr hf9
  refine go_aload_n (pc := 63) dX5_copyFrom_63 rfl ?_
  refine go_aload_n (pc := 64) dX5_copyFrom_64 rfl ?_
  refine go_getf (pc := 65) f_X5_31 dX5_copyFrom_65 (by first | exact sr0 hR_q | exact sr0 hR2 | exact sr1 hR_q | exact sr1 hR2 | exact sr2 hR_q | exact sr2 hR2 | exact sr3 hR_q | exact sr3 hR2 | exact sr4 hR_q | exact sr4 hR2) (by rfl) ?_
  refine go_spb (pc := 68) f_X5_31 hR_q dX5_copyFrom_68 (fun σ hR_q hf9 => ?_)
  have hf_q := hf_q.tr hf9
  have hR2 := hR2.fr hf9 (by omega)
  refine go_aload_n (pc := 71) dX5_copyFrom_71 rfl ?_
  refine go_aload_n (pc := 72) dX5_copyFrom_72 rfl ?_
  refine go_getf (pc := 73) f_X5_24 dX5_copyFrom_73 (by first | exact sr0 hR_q | exact sr0 hR2 | exact sr1 hR_q | exact sr1 hR2 | exact sr2 hR_q | exact sr2 hR2 | exact sr3 hR_q | exact sr3 hR2 | exact sr4 hR_q | exact sr4 hR2) (by rfl) ?_
  refine go_spw (pc := 76) f_X5_24 hR_q dX5_copyFrom_76 (fun σ hR_q hf9 => ?_)
  have hf_q := hf_q.tr hf9
  have hR2 := hR2.fr hf9 (by omega)
  refine go_aload_n (pc := 79) dX5_copyFrom_79 rfl ?_
  refine go_aload_n (pc := 80) dX5_copyFrom_80 rfl ?_
  refine go_getf (pc := 81) f_X5_28 dX5_copyFrom_81 (by first | exact sr0 hR_q | exact sr0 hR2 | exact sr1 hR_q | exact sr1 hR2 | exact sr2 hR_q | exact sr2 hR2 | exact sr3 hR_q | exact sr3 hR2 | exact sr4 hR_q | exact sr4 hR2) (by rfl) ?_
  refine go_spm (pc := 84) f_X5_28 hR_q dX5_copyFrom_84 (fun σ hR_q hf9 => ?_)
  have hf_q := hf_q.tr hf9
  have hR2 := hR2.fr hf9 (by omega)
  exact go_vretV (pc := 87) rfl dX5_copyFrom_87 (Nat.le_of_ble_eq_true rfl) (Nat.le_of_ble_eq_true rfl) ⟨rfl, ⟨_, _, _, _, hR_q, fun j hj_q => cpy_at hj_q, fun j hj_q => cpy_at hj_q, fun j hj_q => cpy_at hj_q, fun j hj_q => cpy_at hj_q⟩, hf_q⟩
theorem cp_dryChances {Γ : gam} {D : Nat} {ro : Nat → Nat} {z0 : sto} {n k a b : Nat} {w : Int32} {K ag pa pf ch co rw bk : row} {lm lt lw : Value} (hR_q : SrAt Γ ro z0 a b w (K 33) ch co rw bk) (hr_q : rS K ch co rw bk) (hQ_q : BrAt Γ D ro z0 b K ag pa pf lm lt lw) (hB_q : okB K) (hg_q : gS K) (hD : a + 4 < D) (hsb : b + 3 < a ∨ a + 4 < b) (hk : 8 ≤ k) {p m1 : Nat} (hp_q : p < kP K) (hm1 : m1 ≤ 15) : Sp Γ (rmk k 0 0) uX5_dryChances [.ref a, .int (nI p), .int (nI m1)] z0 n (qL fun v σ' n' => v = dryF p m1 K 1 ∧ n' = n ∧ SeAt Γ ro σ' a b w (goK m1 K) ∧ frC Γ ro a (a + 4) z0 σ') := by
  have hP8 := hB_q.1.2.1
  have hH5 := hB_q.1.2.2.2.1
  have hW4 := hB_q.1.2.2.2.2.2
  have hf_q : frC Γ ro a (a + 4) z0 z0 := frC.rf
  refine sp_intro [some (.ref a), some (.int (nI p)), some (.int (nI m1)), none, none, none, none] (by decide +kernel) rfl (Nat.le_of_ble_eq_true rfl) rfl ?_
  refine go_lconst (v := 1) (pc := 0) dX5_dryChances_0 rfl ?_
  refine go_lstore_n (lw := [_, _, _, _, _, _, _]) (pc := 1) dX5_dryChances_1 (by decide) rfl ?_
  refine go_iconst (v := 0) (pc := 2) dX5_dryChances_2 (by decide) ?_
  refine go_istore (lw := [_, _, _, _, _, _, _]) (pc := 3) dX5_dryChances_3 (by decide) rfl ?_
  refine go_iter (m1) (fun i_q lv9 s9 n9 => ∃ (v9 : Int64), ∃ (ch9 : row), ∃ (co9 : row), ∃ (rw9 : row), ∃ (bk9 : row), ∃ x6_q, lv9 = [some (.ref a), some (.int (nI p)), some (.int (nI m1)), some (.long v9), none, some (.int (nI i_q)), x6_q] ∧ (SrAt Γ ro s9 a b w (goK i_q K 33) ch9 co9 rw9 bk9) ∧ (BrAt Γ D ro s9 b K ag pa pf lm lt lw) ∧ (frC Γ ro a (a + 4) z0 s9) ∧ (rS (goK i_q K) ch9 co9 rw9 bk9) ∧ (dryF p (m1 - i_q) (goK i_q K) v9 = dryF p m1 K 1) ∧ n = n9) ⟨1, _, _, _, _, none, rfl, hR_q, hQ_q, hf_q, hr_q, rfl, rfl⟩ ?_ ?_
  · rintro i_q lv9 σ n9 hi_q ⟨v9, ch9, co9, rw9, bk9, x6_q, rfl, hR_q, hQ_q, hf_q, hr9_q, hR9, rfl⟩ ih_q
    have hs9 : sameB K (goK i_q K) := goK_same (by omega)
    have hB9_q := hs9.okB hB_q
    have hg9_q : gS (goK i_q K) := gS_go hg_q hP8 hH5
    have hs8 : sameB (goK i_q K) (minK (goK i_q K)) := minK_same (by rw [hs9.P]; exact hP8)
    have hp9 : p < kP (minK (goK i_q K)) := by rw [hs8.P, hs9.P]; exact hp_q
    refine go_iload (pc := 5) dX5_dryChances_5 rfl ?_
    refine go_iload_n (pc := 7) dX5_dryChances_7 rfl ?_
    refine go_icmp_ge (tgt := 72) (pc := 8) dX5_dryChances_8 (by decide) (fun h_8 => by exfalso; exact absurd h_8 (nI_ge (by omega) (by omega))) (fun h_8 => ?_)
    refine go_aload_n (pc := 11) dX5_dryChances_11 rfl ?_
    refine go_getf (pc := 12) f_X5_28 dX5_dryChances_12 (by first | exact sr0 hR_q | exact be0 hQ_q | exact sr1 hR_q | exact sr2 hR_q | exact sr3 hR_q | exact sr4 hR_q | exact be1 hQ_q | exact be2 hQ_q | exact be3 hQ_q) (by rfl) ?_
    refine go_istore (lw := [_, _, _, _, _, _, _]) (pc := 15) dX5_dryChances_15 (by decide) rfl ?_
    refine go_aload_n (pc := 17) dX5_dryChances_17 rfl ?_
    refine go_iconst (v := 0) (pc := 18) dX5_dryChances_18 (by decide) ?_
    refine go_V1V (pc := 19) v_X5_89 rfl rfl (rcv_of (ci := 5) (by first | exact sr0 hR_q | exact be0 hQ_q | exact sr1 hR_q | exact sr2 hR_q | exact sr3 hR_q | exact sr4 hR_q | exact be1 hQ_q | exact be2 hQ_q | exact be3 hQ_q) rfl) dX5_dryChances_19 (cp_pass (k := k - 1) hR_q hr9_q (hQ_q.sm hs9) hB9_q hg9_q hD hsb (by omega) _) (fun σ n h_q => ?_)
    obtain ⟨rfl, ⟨ch9, co9, rw9, bk9, hR_q, hr9_q⟩, hf1⟩ := h_q
    have hf_q := hf_q.tr hf1
    have hQ_q := hQ_q.fr hf1 (by omega) (by omega)
    rw [pasW_0 (by decide) hg9_q (by rw [hs9.P]; exact hP8) (by rw [hs9.H]; exact hH5)] at hR_q
    refine go_lload_n (pc := 22) dX5_dryChances_22 rfl ?_
    refine go_aload_n (pc := 23) dX5_dryChances_23 rfl ?_
    refine go_getf (pc := 24) f_X5_18 dX5_dryChances_24 (by first | exact sr0 hR_q | exact be0 hQ_q | exact sr1 hR_q | exact sr2 hR_q | exact sr3 hR_q | exact sr4 hR_q | exact be1 hQ_q | exact be2 hQ_q | exact be3 hQ_q) (by rfl) ?_
    refine go_iload_n (pc := 27) dX5_dryChances_27 rfl ?_
    refine go_iald (pc := 28) dX5_dryChances_28 (by first | exact sr0 hR_q | exact be0 hQ_q | exact sr1 hR_q | exact sr2 hR_q | exact sr3 hR_q | exact sr4 hR_q | exact be1 hQ_q | exact be2 hQ_q | exact be3 hQ_q) (by exact ⟨rfl, by omega⟩) ?_
    rw [(hr9_q.1 p hp9).2.1]
    refine go_iconst (v := -1) (pc := 29) dX5_dryChances_29 (by decide) ?_
    refine go_icmp_ne (tgt := 39) (pc := 30) dX5_dryChances_30 (by decide) (fun h_30 => ?_) (fun h_30 => ?_)
    · refine go_bipush (v := 10) (pc := 39) dX5_dryChances_39 (by decide) ?_
      refine go_aload_n (pc := 41) dX5_dryChances_41 rfl ?_
      refine go_getf (pc := 42) f_X5_31 dX5_dryChances_42 (by first | exact sr0 hR_q | exact be0 hQ_q | exact sr1 hR_q | exact sr2 hR_q | exact sr3 hR_q | exact sr4 hR_q | exact be1 hQ_q | exact be2 hQ_q | exact be3 hQ_q) (by rfl) ?_
      refine go_aload_n (pc := 45) dX5_dryChances_45 rfl ?_
      refine go_getf (pc := 46) f_X5_15 dX5_dryChances_46 (by first | exact sr0 hR_q | exact be0 hQ_q | exact sr1 hR_q | exact sr2 hR_q | exact sr3 hR_q | exact sr4 hR_q | exact be1 hQ_q | exact be2 hQ_q | exact be3 hQ_q) (by rfl) ?_
      refine go_iload_n (pc := 49) dX5_dryChances_49 rfl ?_
      refine go_iald (pc := 50) dX5_dryChances_50 (by first | exact sr0 hR_q | exact be0 hQ_q | exact sr1 hR_q | exact sr2 hR_q | exact sr3 hR_q | exact sr4 hR_q | exact be1 hQ_q | exact be2 hQ_q | exact be3 hQ_q) (by exact ⟨rfl, by omega⟩) ?_
      rw [(hr9_q.1 p hp9).1]
      refine go_aload_n (pc := 51) dX5_dryChances_51 rfl ?_
      refine go_getf (pc := 52) f_X5_18 dX5_dryChances_52 (by first | exact sr0 hR_q | exact be0 hQ_q | exact sr1 hR_q | exact sr2 hR_q | exact sr3 hR_q | exact sr4 hR_q | exact be1 hQ_q | exact be2 hQ_q | exact be3 hQ_q) (by rfl) ?_
      refine go_iload_n (pc := 55) dX5_dryChances_55 rfl ?_
      refine go_iald (pc := 56) dX5_dryChances_56 (by first | exact sr0 hR_q | exact be0 hQ_q | exact sr1 hR_q | exact sr2 hR_q | exact sr3 hR_q | exact sr4 hR_q | exact be1 hQ_q | exact be2 hQ_q | exact be3 hQ_q) (by exact ⟨rfl, by omega⟩) ?_
      rw [(hr9_q.1 p hp9).2.1]
      refine go_iload (pc := 57) dX5_dryChances_57 rfl ?_
      refine go_V3I (pc := 59) v_X5_126 rfl rfl (rcv_of (ci := 0) (by first | exact sr0 hR_q | exact be0 hQ_q | exact sr1 hR_q | exact sr2 hR_q | exact sr3 hR_q | exact sr4 hR_q | exact be1 hQ_q | exact be2 hQ_q | exact be3 hQ_q) rfl) dX5_dryChances_59 (cp_waveOn (k := k - 1) (hQ_q.sm (hs9.tr hs8)) (by omega) (hs8.okB hB9_q) _ _ _) (fun v_59 σ n h_q => ?_)
      obtain ⟨rfl, rfl, hf1⟩ := h_q
      have hR_q := hR_q.fe hf1
      have hQ_q := hQ_q.fe hf1
      have hf_q := hf_q.tr (hf1.wk (by omega))
      refine go_isub (pc := 62) dX5_dryChances_62 ?_
      refine go_i2l (pc := 63) dX5_dryChances_63 ?_
      refine go_lmul (pc := 64) dX5_dryChances_64 ?_
      refine go_lstore_n (lw := [_, _, _, _, _, _, _]) (pc := 65) dX5_dryChances_65 (by decide) rfl ?_
      refine go_iinc (v := 1) (lw := [_, _, _, _, _, _, _]) (pc := 66) dX5_dryChances_66 rfl (by decide) (by decide) rfl ?_
      refine go_goto (tgt := 5) (pc := 69) dX5_dryChances_69 (by decide) ?_
      rw [nI_1]
      refine ih_q _ _ _ ⟨_, _, _, _, _, _, rfl, (by rw [goK_s]; exact hR_q), hQ_q, hf_q, (by rw [goK_s]; exact hr9_q), ?_, rfl⟩
      rw [← hR9, dryF_step hi_q, goK_s]
      first
        | rw [if_neg (fun hc_q => h_30 (upK_iff.mp hc_q))]
        | rw [if_pos (upK_iff.mpr h_30)]
    · refine go_ldc2 (pc := 33) kw4_181 dX5_dryChances_33 ?_
      refine go_goto (tgt := 64) (pc := 36) dX5_dryChances_36 (by decide) ?_
      refine go_lmul (pc := 64) dX5_dryChances_64 ?_
      refine go_lstore_n (lw := [_, _, _, _, _, _, _]) (pc := 65) dX5_dryChances_65 (by decide) rfl ?_
      refine go_iinc (v := 1) (lw := [_, _, _, _, _, _, _]) (pc := 66) dX5_dryChances_66 rfl (by decide) (by decide) rfl ?_
      refine go_goto (tgt := 5) (pc := 69) dX5_dryChances_69 (by decide) ?_
      rw [nI_1]
      refine ih_q _ _ _ ⟨_, _, _, _, _, _, rfl, (by rw [goK_s]; exact hR_q), hQ_q, hf_q, (by rw [goK_s]; exact hr9_q), ?_, rfl⟩
      rw [← hR9, dryF_step hi_q, goK_s]
      first
        | rw [if_neg (fun hc_q => h_30 (upK_iff.mp hc_q))]
        | rw [if_pos (upK_iff.mpr h_30)]
  · rintro lv9 σ n9 ⟨v9, ch9, co9, rw9, bk9, x6_q, rfl, hR_q, hQ_q, hf_q, hr9_q, hR9, rfl⟩
    refine go_iload (pc := 5) dX5_dryChances_5 rfl ?_
    refine go_iload_n (pc := 7) dX5_dryChances_7 rfl ?_
    refine go_icmp_ge (tgt := 72) (pc := 8) dX5_dryChances_8 (by decide) (fun h_8 => ?_) (fun h_8 => by exfalso; exact h_8 (nI_le (by omega) (by omega)))
    refine go_lload_n (pc := 72) dX5_dryChances_72 rfl ?_
    exact go_lretI (pc := 73) rfl dX5_dryChances_73 (Nat.le_of_ble_eq_true rfl) (Nat.le_of_ble_eq_true rfl) ⟨(by rw [← hR9, Nat.sub_self]; rfl), rfl, ⟨_, _, _, _, hR_q, hr9_q⟩, hf_q⟩
theorem cp_carryOut {Γ : gam} {D : Nat} {ro : Nat → Nat} {z0 : sto} {n k a b : Nat} {w : Int32} {K ag pa pf ch co rw bk : row} {lm lt lw : Value} (hR_q : SrAt Γ ro z0 a b w (K 33) ch co rw bk) (hr_q : rS K ch co rw bk) (hQ_q : BrAt Γ D ro z0 b K ag pa pf lm lt lw) (hB_q : okB K) (hg_q : gS K) (hD : a + 4 < D) (hsb : b + 3 < a ∨ a + 4 < b) (hk : 8 ≤ k) (v : Int64) (hv_q : whyT K v.toInt = 0) : Sp Γ (rmk k 0 0) uX5_carryOut [.ref a, .long v] z0 n (qV fun σ' n' => n' = n ∧ SeAt Γ ro σ' a b (doW K v.toInt w) (doK K v.toInt) ∧ frC Γ ro a (a + 4) z0 σ') := by
  have hP8 := hB_q.1.2.1
  have hH5 := hB_q.1.2.2.2.1
  have hW4 := hB_q.1.2.2.2.2.2
  have hf_q : frC Γ ro a (a + 4) z0 z0 := frC.rf
  refine sp_intro [some (.ref a), some (.long v), none, none, none] (by decide +kernel) rfl (Nat.le_of_ble_eq_true rfl) rfl ?_
  rcases told_c hv_q with e_q | ⟨j, h1_q, h2_q, e_q, h3_q, -⟩ | ⟨j, d, h1_q, h2_q, h3_q, h4_q, e_q, h6_q, h7_q⟩ | ⟨j, d, h1_q, h2_q, h3_q, h4_q, e_q, h6_q, h7_q, h9_q⟩
  · have ev : v = -1 := Int64.toInt_inj.mp (by rw [e_q]; decide)
    subst ev
    have eW : doW K (-1 : Int64).toInt w = pasW K (tideK K (K 33)) w := if_pos e_q
    have eK : doK K (-1 : Int64).toInt = minK K := by rw [e_q]; rfl
    rw [eW, eK]
    refine go_lload_n (pc := 0) dX5_carryOut_0 rfl ?_
    refine go_l2i (pc := 1) dX5_carryOut_1 ?_
    refine go_istore_n (lw := [_, _, _, _, _]) (pc := 2) dX5_carryOut_2 (by decide) rfl ?_
    refine go_iload_n (pc := 3) dX5_carryOut_3 rfl ?_
    refine go_bipush (v := 10) (pc := 4) dX5_carryOut_4 (by decide) ?_
    refine go_idiv (pc := 6) dX5_carryOut_6 (by decide) ?_
    refine go_bipush (v := 10) (pc := 7) dX5_carryOut_7 (by decide) ?_
    refine go_irem (pc := 9) dX5_carryOut_9 (by decide) ?_
    refine go_istore (lw := [_, _, _, _, _]) (pc := 10) dX5_carryOut_10 (by decide) rfl ?_
    refine go_iload_n (pc := 12) dX5_carryOut_12 rfl ?_
    refine go_iconst (v := -1) (pc := 13) dX5_carryOut_13 (by decide) ?_
    refine go_icmp_ne (tgt := 28) (pc := 14) dX5_carryOut_14 (by decide) (fun h_14 => by exfalso; exact h_14 (by decide)) (fun h_14 => ?_)
    refine go_aload_n (pc := 17) dX5_carryOut_17 rfl ?_
    refine go_aload_n (pc := 18) dX5_carryOut_18 rfl ?_
    refine go_V0I (pc := 19) v_X5_85 rfl rfl (rcv_of (ci := 5) (by first | exact sr0 hR_q | exact be0 hQ_q | exact sr1 hR_q | exact sr2 hR_q | exact sr3 hR_q | exact sr4 hR_q | exact be1 hQ_q | exact be2 hQ_q | exact be3 hQ_q) rfl) dX5_carryOut_19 (cp_level (k := k - 1) hR_q hr_q hQ_q (by omega) hB_q) (fun v_19 σ n h_q => ?_)
    obtain ⟨rfl, rfl, hf1⟩ := h_q
    have hR_q := hR_q.fe hf1
    have hQ_q := hQ_q.fe hf1
    have hf_q := hf_q.tr (hf1.wk (by omega))
    refine go_V1V (pc := 22) v_X5_89 rfl rfl (rcv_of (ci := 5) (by first | exact sr0 hR_q | exact be0 hQ_q | exact sr1 hR_q | exact sr2 hR_q | exact sr3 hR_q | exact sr4 hR_q | exact be1 hQ_q | exact be2 hQ_q | exact be3 hQ_q) rfl) dX5_carryOut_22 (cp_pass (k := k - 1) hR_q hr_q hQ_q hB_q hg_q hD hsb (by omega) _) (fun σ n h_q => ?_)
    obtain ⟨rfl, ⟨ch9, co9, rw9, bk9, hR_q, hr9_q⟩, hf1⟩ := h_q
    have hf_q := hf_q.tr hf1
    have hQ_q := hQ_q.fr hf1 (by omega) (by omega)
    refine go_goto (tgt := 74) (pc := 25) dX5_carryOut_25 (by decide) ?_
    exact go_vretV (pc := 74) rfl dX5_carryOut_74 (Nat.le_of_ble_eq_true rfl) (Nat.le_of_ble_eq_true rfl) ⟨rfl, ⟨_, _, _, _, hR_q, hr9_q⟩, hf_q⟩
  · have ev : v.toInt32 = nI (j) := by
      have h_q : v = (nI (j)).toInt64 := L_nat (by omega) (by omega)
      conv => lhs; rw [h_q]
      exact nI_LI (by omega)
    have eW : doW K v.toInt w = w := if_neg (by omega)
    rw [eW]
    rw [e_q, do_r h2_q]
    refine go_lload_n (pc := 0) dX5_carryOut_0 rfl ?_
    refine go_l2i (pc := 1) dX5_carryOut_1 ?_
    rw [ev]
    refine go_istore_n (lw := [_, _, _, _, _]) (pc := 2) dX5_carryOut_2 (by decide) rfl ?_
    refine go_iload_n (pc := 3) dX5_carryOut_3 rfl ?_
    refine go_bipush (v := 10) (pc := 4) dX5_carryOut_4 (by decide) ?_
    refine go_idiv (pc := 6) dX5_carryOut_6 (by decide) ?_
    refine go_bipush (v := 10) (pc := 7) dX5_carryOut_7 (by decide) ?_
    refine go_irem (pc := 9) dX5_carryOut_9 (by decide) ?_
    refine go_istore (lw := [_, _, _, _, _]) (pc := 10) dX5_carryOut_10 (by decide) rfl ?_
    refine go_iload_n (pc := 12) dX5_carryOut_12 rfl ?_
    refine go_iconst (v := -1) (pc := 13) dX5_carryOut_13 (by decide) ?_
    refine go_icmp_ne (tgt := 28) (pc := 14) dX5_carryOut_14 (by decide) (fun h_14 => ?_) (fun h_14 => by exfalso; exact nI_ne1 (by omega) h_14)
    refine go_iload_n (pc := 28) dX5_carryOut_28 rfl ?_
    refine go_bipush (v := 100) (pc := 29) dX5_carryOut_29 (by decide) ?_
    refine go_icmp_ge (tgt := 43) (pc := 31) dX5_carryOut_31 (by decide) (fun h_31 => by exfalso; exact absurd h_31 (nI_ge (b := 100) (by omega) (by decide))) (fun h_31 => ?_)
    refine go_aload_n (pc := 34) dX5_carryOut_34 rfl ?_
    refine go_iload_n (pc := 35) dX5_carryOut_35 rfl ?_
    refine go_V1I (pc := 36) v_X5_93 rfl rfl (rcv_of (ci := 5) (by first | exact sr0 hR_q | exact be0 hQ_q | exact sr1 hR_q | exact sr2 hR_q | exact sr3 hR_q | exact sr4 hR_q | exact be1 hQ_q | exact be2 hQ_q | exact be3 hQ_q) rfl) dX5_carryOut_36 (cp_leave (k := k - 1) hR_q hr_q hQ_q hB_q hg_q hD hsb (by omega) (by omega) h3_q) (fun v_36 σ n h_q => ?_)
    obtain ⟨rfl, rfl, ⟨ch9, co9, rw9, bk9, hR_q, hr9_q⟩, hf1⟩ := h_q
    have hf_q := hf_q.tr hf1
    have hQ_q := hQ_q.fr hf1 (by omega) (by omega)
    refine go_pop (pc := 39) dX5_carryOut_39 rfl ?_
    refine go_goto (tgt := 74) (pc := 40) dX5_carryOut_40 (by decide) ?_
    exact go_vretV (pc := 74) rfl dX5_carryOut_74 (Nat.le_of_ble_eq_true rfl) (Nat.le_of_ble_eq_true rfl) ⟨rfl, ⟨_, _, _, _, hR_q, hr9_q⟩, hf_q⟩
  · have ev : v.toInt32 = nI (100 + 10 * j + d) := by
      have h_q : v = (nI (100 + 10 * j + d)).toInt64 := L_nat (by omega) (by omega)
      conv => lhs; rw [h_q]
      exact nI_LI (by omega)
    have eW : doW K v.toInt w = w := if_neg (by omega)
    rw [eW]
    rw [e_q, do_s h3_q h4_q]
    have td := t_d ⟨100 + 10 * j + d, by omega⟩
    simp only at td
    rw [show (100 + 10 * j + d) / 10 % 10 = j by omega, show (100 + 10 * j + d) % 10 = d by omega] at td
    have etk : takK K j (nI d) = sitdK K j (nI d) := if_neg h7_q
    rw [← etk]
    refine go_lload_n (pc := 0) dX5_carryOut_0 rfl ?_
    refine go_l2i (pc := 1) dX5_carryOut_1 ?_
    rw [ev]
    refine go_istore_n (lw := [_, _, _, _, _]) (pc := 2) dX5_carryOut_2 (by decide) rfl ?_
    refine go_iload_n (pc := 3) dX5_carryOut_3 rfl ?_
    refine go_bipush (v := 10) (pc := 4) dX5_carryOut_4 (by decide) ?_
    refine go_idiv (pc := 6) dX5_carryOut_6 (by decide) ?_
    refine go_bipush (v := 10) (pc := 7) dX5_carryOut_7 (by decide) ?_
    refine go_irem (pc := 9) dX5_carryOut_9 (by decide) ?_
    rw [td.1]
    refine go_istore (lw := [_, _, _, _, _]) (pc := 10) dX5_carryOut_10 (by decide) rfl ?_
    refine go_iload_n (pc := 12) dX5_carryOut_12 rfl ?_
    refine go_iconst (v := -1) (pc := 13) dX5_carryOut_13 (by decide) ?_
    refine go_icmp_ne (tgt := 28) (pc := 14) dX5_carryOut_14 (by decide) (fun h_14 => ?_) (fun h_14 => by exfalso; exact nI_ne1 (by omega) h_14)
    refine go_iload_n (pc := 28) dX5_carryOut_28 rfl ?_
    refine go_bipush (v := 100) (pc := 29) dX5_carryOut_29 (by decide) ?_
    refine go_icmp_ge (tgt := 43) (pc := 31) dX5_carryOut_31 (by decide) (fun h_31 => ?_) (fun h_31 => by exfalso; exact h_31 (nI_le (a := 100) (by omega) (by omega)))
    refine go_iload_n (pc := 43) dX5_carryOut_43 rfl ?_
    refine go_sipush (v := 200) (pc := 44) dX5_carryOut_44 (by decide) ?_
    refine go_icmp_ge (tgt := 64) (pc := 47) dX5_carryOut_47 (by decide) (fun h_47 => by exfalso; exact absurd h_47 (nI_ge (b := 200) (by omega) (by decide))) (fun h_47 => ?_)
    refine go_aload_n (pc := 50) dX5_carryOut_50 rfl ?_
    refine go_iload (pc := 51) dX5_carryOut_51 rfl ?_
    refine go_iload_n (pc := 53) dX5_carryOut_53 rfl ?_
    refine go_bipush (v := 10) (pc := 54) dX5_carryOut_54 (by decide) ?_
    refine go_irem (pc := 56) dX5_carryOut_56 (by decide) ?_
    rw [td.2]
    refine go_V2I (pc := 57) v_X5_96 rfl rfl (rcv_of (ci := 5) (by first | exact sr0 hR_q | exact be0 hQ_q | exact sr1 hR_q | exact sr2 hR_q | exact sr3 hR_q | exact sr4 hR_q | exact be1 hQ_q | exact be2 hQ_q | exact be3 hQ_q) rfl) dX5_carryOut_57 (cp_take (k := k - 1) hR_q hr_q hQ_q hB_q hg_q hD hsb (by omega) (by omega) h6_q (by omega)) (fun v_57 σ n h_q => ?_)
    obtain ⟨rfl, rfl, ⟨ch9, co9, rw9, bk9, hR_q, hr9_q⟩, hf1⟩ := h_q
    have hf_q := hf_q.tr hf1
    have hQ_q := hQ_q.fr hf1 (by omega) (by omega)
    refine go_pop (pc := 60) dX5_carryOut_60 rfl ?_
    refine go_goto (tgt := 74) (pc := 61) dX5_carryOut_61 (by decide) ?_
    exact go_vretV (pc := 74) rfl dX5_carryOut_74 (Nat.le_of_ble_eq_true rfl) (Nat.le_of_ble_eq_true rfl) ⟨rfl, ⟨_, _, _, _, hR_q, hr9_q⟩, hf_q⟩
  · have ev : v.toInt32 = nI (200 + 10 * j + d) := by
      have h_q : v = (nI (200 + 10 * j + d)).toInt64 := L_nat (by omega) (by omega)
      conv => lhs; rw [h_q]
      exact nI_LI (by omega)
    have eW : doW K v.toInt w = w := if_neg (by omega)
    rw [eW]
    rw [e_q, do_x h3_q h4_q]
    have td := t_d ⟨200 + 10 * j + d, by omega⟩
    simp only at td
    rw [show (200 + 10 * j + d) / 10 % 10 = j by omega, show (200 + 10 * j + d) % 10 = d by omega] at td
    refine go_lload_n (pc := 0) dX5_carryOut_0 rfl ?_
    refine go_l2i (pc := 1) dX5_carryOut_1 ?_
    rw [ev]
    refine go_istore_n (lw := [_, _, _, _, _]) (pc := 2) dX5_carryOut_2 (by decide) rfl ?_
    refine go_iload_n (pc := 3) dX5_carryOut_3 rfl ?_
    refine go_bipush (v := 10) (pc := 4) dX5_carryOut_4 (by decide) ?_
    refine go_idiv (pc := 6) dX5_carryOut_6 (by decide) ?_
    refine go_bipush (v := 10) (pc := 7) dX5_carryOut_7 (by decide) ?_
    refine go_irem (pc := 9) dX5_carryOut_9 (by decide) ?_
    rw [td.1]
    refine go_istore (lw := [_, _, _, _, _]) (pc := 10) dX5_carryOut_10 (by decide) rfl ?_
    refine go_iload_n (pc := 12) dX5_carryOut_12 rfl ?_
    refine go_iconst (v := -1) (pc := 13) dX5_carryOut_13 (by decide) ?_
    refine go_icmp_ne (tgt := 28) (pc := 14) dX5_carryOut_14 (by decide) (fun h_14 => ?_) (fun h_14 => by exfalso; exact nI_ne1 (by omega) h_14)
    refine go_iload_n (pc := 28) dX5_carryOut_28 rfl ?_
    refine go_bipush (v := 100) (pc := 29) dX5_carryOut_29 (by decide) ?_
    refine go_icmp_ge (tgt := 43) (pc := 31) dX5_carryOut_31 (by decide) (fun h_31 => ?_) (fun h_31 => by exfalso; exact h_31 (nI_le (a := 100) (by omega) (by omega)))
    refine go_iload_n (pc := 43) dX5_carryOut_43 rfl ?_
    refine go_sipush (v := 200) (pc := 44) dX5_carryOut_44 (by decide) ?_
    refine go_icmp_ge (tgt := 64) (pc := 47) dX5_carryOut_47 (by decide) (fun h_47 => ?_) (fun h_47 => by exfalso; exact h_47 (nI_le (a := 200) (by omega) (by omega)))
    refine go_aload_n (pc := 64) dX5_carryOut_64 rfl ?_
    refine go_iload (pc := 65) dX5_carryOut_65 rfl ?_
    refine go_iload_n (pc := 67) dX5_carryOut_67 rfl ?_
    refine go_bipush (v := 10) (pc := 68) dX5_carryOut_68 (by decide) ?_
    refine go_irem (pc := 70) dX5_carryOut_70 (by decide) ?_
    rw [td.2]
    refine go_V2V (pc := 71) v_X5_99 rfl rfl (rcv_of (ci := 5) (by first | exact sr0 hR_q | exact be0 hQ_q | exact sr1 hR_q | exact sr2 hR_q | exact sr3 hR_q | exact sr4 hR_q | exact be1 hQ_q | exact be2 hQ_q | exact be3 hQ_q) rfl) dX5_carryOut_71 (cp_exchange (k := k - 1) hR_q hr_q hQ_q hB_q hg_q hD hsb (by omega) (by omega) (by omega) h6_q h7_q h9_q) (fun σ n h_q => ?_)
    obtain ⟨rfl, ⟨ch9, co9, rw9, bk9, hR_q, hr9_q⟩, hf1⟩ := h_q
    have hf_q := hf_q.tr hf1
    have hQ_q := hQ_q.fr hf1 (by omega) (by omega)
    exact go_vretV (pc := 74) rfl dX5_carryOut_74 (Nat.le_of_ble_eq_true rfl) (Nat.le_of_ble_eq_true rfl) ⟨rfl, ⟨_, _, _, _, hR_q, hr9_q⟩, hf_q⟩
