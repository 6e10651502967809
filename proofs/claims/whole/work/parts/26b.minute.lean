/-! ===== the reference: a minute ===== -/
theorem vS_sitd9 {K : row} {p : Nat} (h : vS K) (hp : p < kP K) (h8 : kP K ≤ 8) : vS (sitdK K p (K (8 + p))) := by
  obtain ⟨⟨c, hc, e⟩, -⟩ := h p hp
  rw [e]
  exact vS_sitd h hp h8 hc
theorem sp_minute {Γ : gam} {z0 : sto} {n k r : Nat} {F K : row} {A : Nat → row} {Nm : Nat → Int64} (hM : MoAt Γ z0 r F K A Nm) (hk : 7 ≤ k) (hB0 : okB K) (hv : vS K) : Sp Γ (rmk k 0 0) uX8_minute [.ref r] z0 n (qV fun σ' n' => moJ Γ r F (minK K) A Nm z0 n [6, 7] σ' n') := by
  have hB := hB0
  have hH5 := hB.1.2.2.2.1
  have hP8 := hB.1.2.1
  obtain ⟨D9, hD⟩ : ∃ x, downK (K 33) (kP K) 0 K = x := ⟨_, rfl⟩
  have hA : eqx [6, 7] A A := eqx.rf
  have hf : fr r (r + 16) z0 z0 := fr.rf
  refine sp_intro [some (.ref r), none, none, none] (by decide +kernel) rfl (Nat.le_of_ble_eq_true rfl) rfl ?_
  refine go_aload_n (pc := 0) dX8_minute_0 rfl ?_
  refine go_getf (pc := 1) f_X8_9 dX8_minute_1 (by first | exact mo0 hM | exact mo1 hM | exact mo6 hM | exact mo7 hM | exact mo8 hM | exact mo2 hM | exact mo3 hM | exact mo4 hM | exact mo5 hM | exact mo9 hM | exact mo10 hM | exact mo11 hM | exact mo12 hM | exact mo13 hM | exact mo14 hM | exact mo15 hM | exact mo16 hM) (by rfl) ?_
  refine go_bipush (v := 33) (pc := 4) dX8_minute_4 (by decide) ?_
  refine go_iald (j := 33) (pc := 6) dX8_minute_6 (by first | exact mo0 hM | exact mo1 hM | exact mo6 hM | exact mo7 hM | exact mo8 hM | exact mo2 hM | exact mo3 hM | exact mo4 hM | exact mo5 hM | exact mo9 hM | exact mo10 hM | exact mo11 hM | exact mo12 hM | exact mo13 hM | exact mo14 hM | exact mo15 hM | exact mo16 hM) (by exact ⟨rfl, by decide⟩) ?_
  refine go_istore_n (lw := [_, _, _, _]) (pc := 7) dX8_minute_7 (by decide) rfl ?_
  refine go_iconst (v := 0) (pc := 8) dX8_minute_8 (by decide) ?_
  refine go_istore_n (lw := [_, _, _, _]) (pc := 9) dX8_minute_9 (by decide) rfl ?_
  refine go_iter (kP K) (fun i lv9 s9 n9 => ∃ K9 A9, lv9 = [some (.ref r), some (.int (K 33)), some (.int (nI i)), none] ∧ (MoAt Γ s9 r F K9 A9 Nm) ∧ (eqx [6, 7] A A9) ∧ (fr r (r + 16) z0 s9) ∧ (sameB K K9) ∧ (vS K9) ∧ (downK (K 33) (kP K - i) i K9 = D9) ∧ n = n9) ⟨K, A, rfl, hM, hA, hf, sameB.rf, hv, hD, rfl⟩ ?_ ?_
  · rintro i lv9 σ n9 hi ⟨K9, A9, rfl, hM, hA, hf, hB9, hv, hR, rfl⟩ ih
    have eP := hB9.P
    have eH := hB9.H
    have hB := hB9.okB hB0
    have hfn : ∀ c, oI (freeK K9 c) = -1 ↔ freeK K9 c = none := fun c => freeK_none (by omega)
    refine go_iload_n (pc := 10) dX8_minute_10 rfl ?_
    refine go_aload_n (pc := 11) dX8_minute_11 rfl ?_
    refine go_V0P (pc := 12) v_X8_242 rfl rfl (rcv_of (ci := 8) (by first | exact mo0 hM | exact mo1 hM | exact mo6 hM | exact mo7 hM | exact mo8 hM | exact mo2 hM | exact mo3 hM | exact mo4 hM | exact mo5 hM | exact mo9 hM | exact mo10 hM | exact mo11 hM | exact mo12 hM | exact mo13 hM | exact mo14 hM | exact mo15 hM | exact mo16 hM) rfl) dX8_minute_12 (sp_people (k := k - 1) hM) ?_
    rw [hB.1.1, eP]
    refine go_icmp_ge (tgt := 90) (pc := 15) dX8_minute_15 (by decide) (fun h_15 => by exfalso; exact absurd h_15 (nI_ge (by omega) (by omega))) (fun h_15 => ?_)
    refine go_aload_n (pc := 18) dX8_minute_18 rfl ?_
    refine go_iload_n (pc := 19) dX8_minute_19 rfl ?_
    refine go_V1P (pc := 20) v_X8_296 rfl rfl (rcv_of (ci := 8) (by first | exact mo0 hM | exact mo1 hM | exact mo6 hM | exact mo7 hM | exact mo8 hM | exact mo2 hM | exact mo3 hM | exact mo4 hM | exact mo5 hM | exact mo9 hM | exact mo10 hM | exact mo11 hM | exact mo12 hM | exact mo13 hM | exact mo14 hM | exact mo15 hM | exact mo16 hM) rfl) dX8_minute_20 (sp_isUp (k := k - 1) hM (by omega)) ?_
    refine go_if_eq (tgt := 84) (pc := 23) dX8_minute_23 (by decide) (fun h_23 => ?_) (fun h_23 => ?_)
    · refine go_iinc (v := 1) (lw := [_, _, _, _]) (pc := 84) dX8_minute_84 rfl (by decide) (by decide) rfl ?_
      refine go_goto (tgt := 10) (pc := 87) dX8_minute_87 (by decide) ?_
      rw [nI_1]
      exact ih _ _ _ ⟨_, _, rfl, hM, hA, hf, (by first | exact hB9 | exact hB9.tr (sitdK_same (by omega))), (by first | exact hv | exact vS_sitd9 hv (by omega) (by omega)), (by rw [← hR, downK_step hi]; (split <;> first | rfl | (exfalso; simp only [upK_iff, upK_f, bI_0, ne_eq, Decidable.not_not, Int32.not_lt, Int32.not_le, hfn] at *; grind))), rfl⟩
    · refine go_aload_n (pc := 26) dX8_minute_26 rfl ?_
      refine go_getf (pc := 27) f_X8_9 dX8_minute_27 (by first | exact mo0 hM | exact mo1 hM | exact mo6 hM | exact mo7 hM | exact mo8 hM | exact mo2 hM | exact mo3 hM | exact mo4 hM | exact mo5 hM | exact mo9 hM | exact mo10 hM | exact mo11 hM | exact mo12 hM | exact mo13 hM | exact mo14 hM | exact mo15 hM | exact mo16 hM) (by rfl) ?_
      refine go_bipush (v := 24) (pc := 30) dX8_minute_30 (by decide) ?_
      refine go_iload_n (pc := 32) dX8_minute_32 rfl ?_
      refine go_iadd (pc := 33) dX8_minute_33 ?_
      refine go_iald (pc := 34) dX8_minute_34 (by first | exact mo0 hM | exact mo1 hM | exact mo6 hM | exact mo7 hM | exact mo8 hM | exact mo2 hM | exact mo3 hM | exact mo4 hM | exact mo5 hM | exact mo9 hM | exact mo10 hM | exact mo11 hM | exact mo12 hM | exact mo13 hM | exact mo14 hM | exact mo15 hM | exact mo16 hM) (by exact ⟨nI_add 24 _, by omega⟩) ?_
      refine go_iconst (v := -1) (pc := 35) dX8_minute_35 (by decide) ?_
      refine go_icmp_eq (tgt := 84) (pc := 36) dX8_minute_36 (by decide) (fun h_36 => ?_) (fun h_36 => ?_)
      · refine go_iinc (v := 1) (lw := [_, _, _, _]) (pc := 84) dX8_minute_84 rfl (by decide) (by decide) rfl ?_
        refine go_goto (tgt := 10) (pc := 87) dX8_minute_87 (by decide) ?_
        rw [nI_1]
        exact ih _ _ _ ⟨_, _, rfl, hM, hA, hf, (by first | exact hB9 | exact hB9.tr (sitdK_same (by omega))), (by first | exact hv | exact vS_sitd9 hv (by omega) (by omega)), (by rw [← hR, downK_step hi]; (split <;> first | rfl | (exfalso; simp only [upK_iff, upK_f, bI_0, ne_eq, Decidable.not_not, Int32.not_lt, Int32.not_le, hfn] at *; grind))), rfl⟩
      · refine go_aload_n (pc := 39) dX8_minute_39 rfl ?_
        refine go_getf (pc := 40) f_X8_9 dX8_minute_40 (by first | exact mo0 hM | exact mo1 hM | exact mo6 hM | exact mo7 hM | exact mo8 hM | exact mo2 hM | exact mo3 hM | exact mo4 hM | exact mo5 hM | exact mo9 hM | exact mo10 hM | exact mo11 hM | exact mo12 hM | exact mo13 hM | exact mo14 hM | exact mo15 hM | exact mo16 hM) (by rfl) ?_
        refine go_bipush (v := 24) (pc := 43) dX8_minute_43 (by decide) ?_
        refine go_iload_n (pc := 45) dX8_minute_45 rfl ?_
        refine go_iadd (pc := 46) dX8_minute_46 ?_
        refine go_iald (pc := 47) dX8_minute_47 (by first | exact mo0 hM | exact mo1 hM | exact mo6 hM | exact mo7 hM | exact mo8 hM | exact mo2 hM | exact mo3 hM | exact mo4 hM | exact mo5 hM | exact mo9 hM | exact mo10 hM | exact mo11 hM | exact mo12 hM | exact mo13 hM | exact mo14 hM | exact mo15 hM | exact mo16 hM) (by exact ⟨nI_add 24 _, by omega⟩) ?_
        refine go_iload_n (pc := 48) dX8_minute_48 rfl ?_
        refine go_icmp_gt (tgt := 84) (pc := 49) dX8_minute_49 (by decide) (fun h_49 => ?_) (fun h_49 => ?_)
        · refine go_iinc (v := 1) (lw := [_, _, _, _]) (pc := 84) dX8_minute_84 rfl (by decide) (by decide) rfl ?_
          refine go_goto (tgt := 10) (pc := 87) dX8_minute_87 (by decide) ?_
          rw [nI_1]
          exact ih _ _ _ ⟨_, _, rfl, hM, hA, hf, (by first | exact hB9 | exact hB9.tr (sitdK_same (by omega))), (by first | exact hv | exact vS_sitd9 hv (by omega) (by omega)), (by rw [← hR, downK_step hi]; (split <;> first | rfl | (exfalso; simp only [upK_iff, upK_f, bI_0, ne_eq, Decidable.not_not, Int32.not_lt, Int32.not_le, hfn] at *; grind))), rfl⟩
        · refine go_aload_n (pc := 52) dX8_minute_52 rfl ?_
          refine go_aload_n (pc := 53) dX8_minute_53 rfl ?_
          refine go_getf (pc := 54) f_X8_9 dX8_minute_54 (by first | exact mo0 hM | exact mo1 hM | exact mo6 hM | exact mo7 hM | exact mo8 hM | exact mo2 hM | exact mo3 hM | exact mo4 hM | exact mo5 hM | exact mo9 hM | exact mo10 hM | exact mo11 hM | exact mo12 hM | exact mo13 hM | exact mo14 hM | exact mo15 hM | exact mo16 hM) (by rfl) ?_
          refine go_bipush (v := 8) (pc := 57) dX8_minute_57 (by decide) ?_
          refine go_iload_n (pc := 59) dX8_minute_59 rfl ?_
          refine go_iadd (pc := 60) dX8_minute_60 ?_
          refine go_iald (pc := 61) dX8_minute_61 (by first | exact mo0 hM | exact mo1 hM | exact mo6 hM | exact mo7 hM | exact mo8 hM | exact mo2 hM | exact mo3 hM | exact mo4 hM | exact mo5 hM | exact mo9 hM | exact mo10 hM | exact mo11 hM | exact mo12 hM | exact mo13 hM | exact mo14 hM | exact mo15 hM | exact mo16 hM) (by exact ⟨nI_add 8 _, by omega⟩) ?_
          refine go_V1P (pc := 62) v_X8_293 rfl rfl (rcv_of (ci := 8) (by first | exact mo0 hM | exact mo1 hM | exact mo6 hM | exact mo7 hM | exact mo8 hM | exact mo2 hM | exact mo3 hM | exact mo4 hM | exact mo5 hM | exact mo9 hM | exact mo10 hM | exact mo11 hM | exact mo12 hM | exact mo13 hM | exact mo14 hM | exact mo15 hM | exact mo16 hM) rfl) dX8_minute_62 (sp_lastFree (k := k - 1) hM (by omega) hB _) ?_
          refine go_iconst (v := -1) (pc := 65) dX8_minute_65 (by decide) ?_
          refine go_icmp_eq (tgt := 84) (pc := 66) dX8_minute_66 (by decide) (fun h_66 => ?_) (fun h_66 => ?_)
          · refine go_iinc (v := 1) (lw := [_, _, _, _]) (pc := 84) dX8_minute_84 rfl (by decide) (by decide) rfl ?_
            refine go_goto (tgt := 10) (pc := 87) dX8_minute_87 (by decide) ?_
            rw [nI_1]
            exact ih _ _ _ ⟨_, _, rfl, hM, hA, hf, (by first | exact hB9 | exact hB9.tr (sitdK_same (by omega))), (by first | exact hv | exact vS_sitd9 hv (by omega) (by omega)), (by rw [← hR, downK_step hi]; (split <;> first | rfl | (exfalso; simp only [upK_iff, upK_f, bI_0, ne_eq, Decidable.not_not, Int32.not_lt, Int32.not_le, hfn] at *; grind))), rfl⟩
          · refine go_aload_n (pc := 69) dX8_minute_69 rfl ?_
            refine go_iload_n (pc := 70) dX8_minute_70 rfl ?_
            refine go_aload_n (pc := 71) dX8_minute_71 rfl ?_
            refine go_getf (pc := 72) f_X8_9 dX8_minute_72 (by first | exact mo0 hM | exact mo1 hM | exact mo6 hM | exact mo7 hM | exact mo8 hM | exact mo2 hM | exact mo3 hM | exact mo4 hM | exact mo5 hM | exact mo9 hM | exact mo10 hM | exact mo11 hM | exact mo12 hM | exact mo13 hM | exact mo14 hM | exact mo15 hM | exact mo16 hM) (by rfl) ?_
            refine go_bipush (v := 8) (pc := 75) dX8_minute_75 (by decide) ?_
            refine go_iload_n (pc := 77) dX8_minute_77 rfl ?_
            refine go_iadd (pc := 78) dX8_minute_78 ?_
            refine go_iald (pc := 79) dX8_minute_79 (by first | exact mo0 hM | exact mo1 hM | exact mo6 hM | exact mo7 hM | exact mo8 hM | exact mo2 hM | exact mo3 hM | exact mo4 hM | exact mo5 hM | exact mo9 hM | exact mo10 hM | exact mo11 hM | exact mo12 hM | exact mo13 hM | exact mo14 hM | exact mo15 hM | exact mo16 hM) (by exact ⟨nI_add 8 _, by omega⟩) ?_
            refine go_V2I (pc := 80) v_X8_299 rfl rfl (rcv_of (ci := 8) (by first | exact mo0 hM | exact mo1 hM | exact mo6 hM | exact mo7 hM | exact mo8 hM | exact mo2 hM | exact mo3 hM | exact mo4 hM | exact mo5 hM | exact mo9 hM | exact mo10 hM | exact mo11 hM | exact mo12 hM | exact mo13 hM | exact mo14 hM | exact mo15 hM | exact mo16 hM) rfl) dX8_minute_80 (sp_sitsDown (k := k - 1) hM (by omega) hB _ (by omega)) (fun v_80 σ n h => ?_)
            obtain ⟨rfl, rfl, A1, hM, hA1, hf1⟩ := h
            have hA := eqx.tr (L := [6, 7]) (by repeat (first | assumption | exact eqx.rf | refine eqx.up ?_ (by decide))) (hA1.wk (by decide))
            have hf := hf.tr hf1
            refine go_pop (pc := 83) dX8_minute_83 rfl ?_
            refine go_iinc (v := 1) (lw := [_, _, _, _]) (pc := 84) dX8_minute_84 rfl (by decide) (by decide) rfl ?_
            refine go_goto (tgt := 10) (pc := 87) dX8_minute_87 (by decide) ?_
            rw [nI_1]
            exact ih _ _ _ ⟨_, _, rfl, hM, hA, hf, (by first | exact hB9 | exact hB9.tr (sitdK_same (by omega))), (by first | exact hv | exact vS_sitd9 hv (by omega) (by omega)), (by rw [← hR, downK_step hi]; (split <;> first | rfl | (exfalso; simp only [upK_iff, upK_f, bI_0, ne_eq, Decidable.not_not, Int32.not_lt, Int32.not_le, hfn] at *; grind))), rfl⟩
  · rintro lv9 σ n9 ⟨K9, A9, rfl, hM, hA, hf, hB9, hv, hR, rfl⟩
    have eP := hB9.P
    have eH := hB9.H
    have hB := hB9.okB hB0
    rw [Nat.sub_self] at hR
    have hR1 : K9 = D9 := hR
    refine go_iload_n (pc := 10) dX8_minute_10 rfl ?_
    refine go_aload_n (pc := 11) dX8_minute_11 rfl ?_
    refine go_V0P (pc := 12) v_X8_242 rfl rfl (rcv_of (ci := 8) (by first | exact mo0 hM | exact mo1 hM | exact mo6 hM | exact mo7 hM | exact mo8 hM | exact mo2 hM | exact mo3 hM | exact mo4 hM | exact mo5 hM | exact mo9 hM | exact mo10 hM | exact mo11 hM | exact mo12 hM | exact mo13 hM | exact mo14 hM | exact mo15 hM | exact mo16 hM) rfl) dX8_minute_12 (sp_people (k := k - 1) hM) ?_
    rw [hB.1.1, eP]
    refine go_icmp_ge (tgt := 90) (pc := 15) dX8_minute_15 (by decide) (fun h_15 => ?_) (fun h_15 => by exfalso; exact h_15 (nI_le (by omega) (by omega)))
    refine go_iconst (v := 0) (pc := 90) dX8_minute_90 (by decide) ?_
    refine go_istore_n (lw := [_, _, _, _]) (pc := 91) dX8_minute_91 (by decide) rfl ?_
    refine go_iter (kP K) (fun i lv9 s9 n9 => ∃ K9 A9, lv9 = [some (.ref r), some (.int (K 33)), some (.int (nI i)), none] ∧ (MoAt Γ s9 r F K9 A9 Nm) ∧ (eqx [6, 7] A A9) ∧ (fr r (r + 16) z0 s9) ∧ (sameB K K9) ∧ (vS K9) ∧ (planK (K 33) (kP K - i) i K9 = planK (K 33) (kP K) 0 D9) ∧ n = n9) ⟨_, _, rfl, hM, hA, hf, hB9, hv, (by rw [Nat.sub_zero, hR1]), rfl⟩ ?_ ?_
    · rintro i lv9 σ n9 hi ⟨K9, A9, rfl, hM, hA, hf, hB9, hv, hR, rfl⟩ ih
      have eP := hB9.P
      have eH := hB9.H
      have hB := hB9.okB hB0
      refine go_iload_n (pc := 92) dX8_minute_92 rfl ?_
      refine go_aload_n (pc := 93) dX8_minute_93 rfl ?_
      refine go_V0P (pc := 94) v_X8_242 rfl rfl (rcv_of (ci := 8) (by first | exact mo0 hM | exact mo1 hM | exact mo6 hM | exact mo7 hM | exact mo8 hM | exact mo2 hM | exact mo3 hM | exact mo4 hM | exact mo5 hM | exact mo9 hM | exact mo10 hM | exact mo11 hM | exact mo12 hM | exact mo13 hM | exact mo14 hM | exact mo15 hM | exact mo16 hM) rfl) dX8_minute_94 (sp_people (k := k - 1) hM) ?_
      rw [hB.1.1, eP]
      refine go_icmp_ge (tgt := 152) (pc := 97) dX8_minute_97 (by decide) (fun h_97 => by exfalso; exact absurd h_97 (nI_ge (by omega) (by omega))) (fun h_97 => ?_)
      refine go_aload_n (pc := 100) dX8_minute_100 rfl ?_
      refine go_getf (pc := 101) f_X8_9 dX8_minute_101 (by first | exact mo0 hM | exact mo1 hM | exact mo6 hM | exact mo7 hM | exact mo8 hM | exact mo2 hM | exact mo3 hM | exact mo4 hM | exact mo5 hM | exact mo9 hM | exact mo10 hM | exact mo11 hM | exact mo12 hM | exact mo13 hM | exact mo14 hM | exact mo15 hM | exact mo16 hM) (by rfl) ?_
      refine go_bipush (v := 43) (pc := 104) dX8_minute_104 (by decide) ?_
      refine go_iload_n (pc := 106) dX8_minute_106 rfl ?_
      refine go_iadd (pc := 107) dX8_minute_107 ?_
      refine go_iald (pc := 108) dX8_minute_108 (by first | exact mo0 hM | exact mo1 hM | exact mo6 hM | exact mo7 hM | exact mo8 hM | exact mo2 hM | exact mo3 hM | exact mo4 hM | exact mo5 hM | exact mo9 hM | exact mo10 hM | exact mo11 hM | exact mo12 hM | exact mo13 hM | exact mo14 hM | exact mo15 hM | exact mo16 hM) (by exact ⟨nI_add 43 _, by omega⟩) ?_
      refine go_iload_n (pc := 109) dX8_minute_109 rfl ?_
      refine go_icmp_ne (tgt := 146) (pc := 110) dX8_minute_110 (by decide) (fun h_110 => ?_) (fun h_110 => ?_)
      · refine go_iinc (v := 1) (lw := [_, _, _, _]) (pc := 146) dX8_minute_146 rfl (by decide) (by decide) rfl ?_
        refine go_goto (tgt := 92) (pc := 149) dX8_minute_149 (by decide) ?_
        rw [nI_1]
        exact ih _ _ _ ⟨_, _, rfl, hM, hA, hf, (by first | exact hB9 | exact hB9.tr (riseK_same (by omega) (by omega))), (by first | exact hv | exact vS_rise hv (by omega) (by omega) (by omega) (by assumption)), (by rw [← hR, planK_step hi]; (split <;> first | rfl | (exfalso; simp only [upK_iff, upK_f, bI_0, ne_eq, Decidable.not_not, Int32.not_lt, Int32.not_le, Bool.not_eq_true] at *; grind))), rfl⟩
      · refine go_aload_n (pc := 113) dX8_minute_113 rfl ?_
        refine go_iload_n (pc := 114) dX8_minute_114 rfl ?_
        refine go_V1P (pc := 115) v_X8_296 rfl rfl (rcv_of (ci := 8) (by first | exact mo0 hM | exact mo1 hM | exact mo6 hM | exact mo7 hM | exact mo8 hM | exact mo2 hM | exact mo3 hM | exact mo4 hM | exact mo5 hM | exact mo9 hM | exact mo10 hM | exact mo11 hM | exact mo12 hM | exact mo13 hM | exact mo14 hM | exact mo15 hM | exact mo16 hM) rfl) dX8_minute_115 (sp_isUp (k := k - 1) hM (by omega)) ?_
        refine go_if_ne (tgt := 146) (pc := 118) dX8_minute_118 (by decide) (fun h_118 => ?_) (fun h_118 => ?_)
        · refine go_iinc (v := 1) (lw := [_, _, _, _]) (pc := 146) dX8_minute_146 rfl (by decide) (by decide) rfl ?_
          refine go_goto (tgt := 92) (pc := 149) dX8_minute_149 (by decide) ?_
          rw [nI_1]
          exact ih _ _ _ ⟨_, _, rfl, hM, hA, hf, (by first | exact hB9 | exact hB9.tr (riseK_same (by omega) (by omega))), (by first | exact hv | exact vS_rise hv (by omega) (by omega) (by omega) (by assumption)), (by rw [← hR, planK_step hi]; (split <;> first | rfl | (exfalso; simp only [upK_iff, upK_f, bI_0, ne_eq, Decidable.not_not, Int32.not_lt, Int32.not_le, Bool.not_eq_true] at *; grind))), rfl⟩
        · refine go_aload_n (pc := 121) dX8_minute_121 rfl ?_
          refine go_iload_n (pc := 122) dX8_minute_122 rfl ?_
          refine go_V1P (pc := 123) v_X8_283 rfl rfl (rcv_of (ci := 8) (by first | exact mo0 hM | exact mo1 hM | exact mo6 hM | exact mo7 hM | exact mo8 hM | exact mo2 hM | exact mo3 hM | exact mo4 hM | exact mo5 hM | exact mo9 hM | exact mo10 hM | exact mo11 hM | exact mo12 hM | exact mo13 hM | exact mo14 hM | exact mo15 hM | exact mo16 hM) rfl) dX8_minute_123 (sp_isAsleep (k := k - 1) hM (by omega)) ?_
          refine go_if_ne (tgt := 146) (pc := 126) dX8_minute_126 (by decide) (fun h_126 => ?_) (fun h_126 => ?_)
          · refine go_iinc (v := 1) (lw := [_, _, _, _]) (pc := 146) dX8_minute_146 rfl (by decide) (by decide) rfl ?_
            refine go_goto (tgt := 92) (pc := 149) dX8_minute_149 (by decide) ?_
            rw [nI_1]
            exact ih _ _ _ ⟨_, _, rfl, hM, hA, hf, (by first | exact hB9 | exact hB9.tr (riseK_same (by omega) (by omega))), (by first | exact hv | exact vS_rise hv (by omega) (by omega) (by omega) (by assumption)), (by rw [← hR, planK_step hi]; (split <;> first | rfl | (exfalso; simp only [upK_iff, upK_f, bI_0, ne_eq, Decidable.not_not, Int32.not_lt, Int32.not_le, Bool.not_eq_true] at *; grind))), rfl⟩
          · have hu := bI_0.mp h_118
            refine go_aload_n (pc := 129) dX8_minute_129 rfl ?_
            refine go_iload_n (pc := 130) dX8_minute_130 rfl ?_
            refine go_iload_n (pc := 131) dX8_minute_131 rfl ?_
            refine go_aload_n (pc := 132) dX8_minute_132 rfl ?_
            refine go_getf (pc := 133) f_X8_9 dX8_minute_133 (by first | exact mo0 hM | exact mo1 hM | exact mo6 hM | exact mo7 hM | exact mo8 hM | exact mo2 hM | exact mo3 hM | exact mo4 hM | exact mo5 hM | exact mo9 hM | exact mo10 hM | exact mo11 hM | exact mo12 hM | exact mo13 hM | exact mo14 hM | exact mo15 hM | exact mo16 hM) (by rfl) ?_
            refine go_bipush (v := 51) (pc := 136) dX8_minute_136 (by decide) ?_
            refine go_iload_n (pc := 138) dX8_minute_138 rfl ?_
            refine go_iadd (pc := 139) dX8_minute_139 ?_
            refine go_iald (pc := 140) dX8_minute_140 (by first | exact mo0 hM | exact mo1 hM | exact mo6 hM | exact mo7 hM | exact mo8 hM | exact mo2 hM | exact mo3 hM | exact mo4 hM | exact mo5 hM | exact mo9 hM | exact mo10 hM | exact mo11 hM | exact mo12 hM | exact mo13 hM | exact mo14 hM | exact mo15 hM | exact mo16 hM) (by exact ⟨nI_add 51 _, by omega⟩) ?_
            refine go_iadd (pc := 141) dX8_minute_141 ?_
            refine go_V2I (pc := 142) v_X8_302 rfl rfl (rcv_of (ci := 8) (by first | exact mo0 hM | exact mo1 hM | exact mo6 hM | exact mo7 hM | exact mo8 hM | exact mo2 hM | exact mo3 hM | exact mo4 hM | exact mo5 hM | exact mo9 hM | exact mo10 hM | exact mo11 hM | exact mo12 hM | exact mo13 hM | exact mo14 hM | exact mo15 hM | exact mo16 hM) rfl) dX8_minute_142 (sp_rises (k := k - 1) hM (by omega) hB hv (by omega) (by assumption) _) (fun v_142 σ n h => ?_)
            obtain ⟨rfl, rfl, A1, hM, hA1, hf1⟩ := h
            have hA := eqx.tr (L := [6, 7]) (by repeat (first | assumption | exact eqx.rf | refine eqx.up ?_ (by decide))) (hA1.wk (by decide))
            have hf := hf.tr hf1
            refine go_pop (pc := 145) dX8_minute_145 rfl ?_
            refine go_iinc (v := 1) (lw := [_, _, _, _]) (pc := 146) dX8_minute_146 rfl (by decide) (by decide) rfl ?_
            refine go_goto (tgt := 92) (pc := 149) dX8_minute_149 (by decide) ?_
            rw [nI_1]
            exact ih _ _ _ ⟨_, _, rfl, hM, hA, hf, (by first | exact hB9 | exact hB9.tr (riseK_same (by omega) (by omega))), (by first | exact hv | exact vS_rise hv (by omega) (by omega) (by omega) (by assumption)), (by rw [← hR, planK_step hi]; (split <;> first | rfl | (exfalso; simp only [upK_iff, upK_f, bI_0, ne_eq, Decidable.not_not, Int32.not_lt, Int32.not_le, Bool.not_eq_true] at *; grind))), rfl⟩
    · rintro lv9 σ n9 ⟨K9, A9, rfl, hM, hA, hf, hB9, hv, hR, rfl⟩
      have eP := hB9.P
      have eH := hB9.H
      have hB := hB9.okB hB0
      rw [Nat.sub_self] at hR
      have hR : K9 = planK (K 33) (kP K) 0 D9 := hR
      refine go_iload_n (pc := 92) dX8_minute_92 rfl ?_
      refine go_aload_n (pc := 93) dX8_minute_93 rfl ?_
      refine go_V0P (pc := 94) v_X8_242 rfl rfl (rcv_of (ci := 8) (by first | exact mo0 hM | exact mo1 hM | exact mo6 hM | exact mo7 hM | exact mo8 hM | exact mo2 hM | exact mo3 hM | exact mo4 hM | exact mo5 hM | exact mo9 hM | exact mo10 hM | exact mo11 hM | exact mo12 hM | exact mo13 hM | exact mo14 hM | exact mo15 hM | exact mo16 hM) rfl) dX8_minute_94 (sp_people (k := k - 1) hM) ?_
      rw [hB.1.1, eP]
      refine go_icmp_ge (tgt := 152) (pc := 97) dX8_minute_97 (by decide) (fun h_97 => ?_) (fun h_97 => by exfalso; exact h_97 (nI_le (by omega) (by omega)))
      refine go_aload_n (pc := 152) dX8_minute_152 rfl ?_
      refine go_iload_n (pc := 153) dX8_minute_153 rfl ?_
      refine go_V1I (pc := 154) v_X8_304 rfl rfl (rcv_of (ci := 8) (by first | exact mo0 hM | exact mo1 hM | exact mo6 hM | exact mo7 hM | exact mo8 hM | exact mo2 hM | exact mo3 hM | exact mo4 hM | exact mo5 hM | exact mo9 hM | exact mo10 hM | exact mo11 hM | exact mo12 hM | exact mo13 hM | exact mo14 hM | exact mo15 hM | exact mo16 hM) rfl) dX8_minute_154 (sp_tideIn (k := k - 1) hM (by omega) _ hB.2.2.1) (fun v_154 σ n h => ?_)
      obtain ⟨rfl, rfl, A1, hM, hA1, hf1⟩ := h
      have hA := eqx.tr (L := [6, 7]) (by repeat (first | assumption | exact eqx.rf | refine eqx.up ?_ (by decide))) (hA1.wk (by decide))
      have hf := hf.tr hf1
      refine go_istore_n (lw := [_, _, _, _]) (pc := 157) dX8_minute_157 (by decide) rfl ?_
      obtain ⟨T9, hT⟩ : ∃ x, x = tideK K9 (K 33) := ⟨_, rfl⟩
      rw [← hT]
      obtain ⟨W9, hW⟩ : ∃ x, wetL T9 (kP K) 0 K9 = x := ⟨_, rfl⟩
      have hFIN : minK K = upd W9 33 (W9 33 + 1) := by rw [← hW, hT, hR, ← hD]; rfl
      refine go_iconst (v := 0) (pc := 158) dX8_minute_158 (by decide) ?_
      refine go_istore_n (lw := [_, _, _, _]) (pc := 159) dX8_minute_159 (by decide) rfl ?_
      refine go_iter (kP K) (fun i lv9 s9 n9 => ∃ K9 A9, lv9 = [some (.ref r), some (.int (K 33)), some (.int T9), some (.int (nI i))] ∧ (MoAt Γ s9 r F K9 A9 Nm) ∧ (eqx [6, 7] A A9) ∧ (fr r (r + 16) z0 s9) ∧ (sameB K K9) ∧ (wetL T9 (kP K - i) i K9 = W9) ∧ n = n9) ⟨_, _, rfl, hM, hA, hf, hB9, hW, rfl⟩ ?_ ?_
      · rintro i lv9 σ n9 hi ⟨K9, A9, rfl, hM, hA, hf, hB9, hR, rfl⟩ ih
        have eP := hB9.P
        have eH := hB9.H
        have hB := hB9.okB hB0
        refine go_iload_n (pc := 160) dX8_minute_160 rfl ?_
        refine go_aload_n (pc := 161) dX8_minute_161 rfl ?_
        refine go_V0P (pc := 162) v_X8_242 rfl rfl (rcv_of (ci := 8) (by first | exact mo0 hM | exact mo1 hM | exact mo6 hM | exact mo7 hM | exact mo8 hM | exact mo2 hM | exact mo3 hM | exact mo4 hM | exact mo5 hM | exact mo9 hM | exact mo10 hM | exact mo11 hM | exact mo12 hM | exact mo13 hM | exact mo14 hM | exact mo15 hM | exact mo16 hM) rfl) dX8_minute_162 (sp_people (k := k - 1) hM) ?_
        rw [hB.1.1, eP]
        refine go_icmp_ge (tgt := 212) (pc := 165) dX8_minute_165 (by decide) (fun h_165 => by exfalso; exact absurd h_165 (nI_ge (by omega) (by omega))) (fun h_165 => ?_)
        refine go_aload_n (pc := 168) dX8_minute_168 rfl ?_
        refine go_getf (pc := 169) f_X8_9 dX8_minute_169 (by first | exact mo0 hM | exact mo1 hM | exact mo6 hM | exact mo7 hM | exact mo8 hM | exact mo2 hM | exact mo3 hM | exact mo4 hM | exact mo5 hM | exact mo9 hM | exact mo10 hM | exact mo11 hM | exact mo12 hM | exact mo13 hM | exact mo14 hM | exact mo15 hM | exact mo16 hM) (by rfl) ?_
        refine go_bipush (v := 32) (pc := 172) dX8_minute_172 (by decide) ?_
        refine go_dup2 (pc := 174) dX8_minute_174 rfl rfl ?_
        refine go_iald (pc := 175) dX8_minute_175 (by first | exact mo0 hM | exact mo1 hM | exact mo6 hM | exact mo7 hM | exact mo8 hM | exact mo2 hM | exact mo3 hM | exact mo4 hM | exact mo5 hM | exact mo9 hM | exact mo10 hM | exact mo11 hM | exact mo12 hM | exact mo13 hM | exact mo14 hM | exact mo15 hM | exact mo16 hM) (by first | exact ⟨nI_add _ _, by omega⟩ | exact ⟨rfl, by decide⟩ | exact ⟨rfl, by omega⟩) ?_
        refine go_aload_n (pc := 176) dX8_minute_176 rfl ?_
        refine go_iload_n (pc := 177) dX8_minute_177 rfl ?_
        refine go_V1P (pc := 178) v_X8_296 rfl rfl (rcv_of (ci := 8) (by first | exact mo0 hM | exact mo1 hM | exact mo6 hM | exact mo7 hM | exact mo8 hM | exact mo2 hM | exact mo3 hM | exact mo4 hM | exact mo5 hM | exact mo9 hM | exact mo10 hM | exact mo11 hM | exact mo12 hM | exact mo13 hM | exact mo14 hM | exact mo15 hM | exact mo16 hM) rfl) dX8_minute_178 (sp_isUp (k := k - 1) hM (by omega)) ?_
        refine go_if_ne (tgt := 203) (pc := 181) dX8_minute_181 (by decide) (fun h_181 => ?_) (fun h_181 => ?_)
        · refine go_iconst (v := 0) (pc := 203) dX8_minute_203 (by decide) ?_
          refine go_ior (pc := 204) dX8_minute_204 ?_
          refine go_mstK (j := 32) (pc := 205) hM dX8_minute_205 (by exact ⟨rfl, by decide⟩) (fun σ hM hf9 => ?_)
          have hf := hf.tr hf9
          refine go_iinc (v := 1) (lw := [_, _, _, _]) (pc := 206) dX8_minute_206 rfl (by decide) (by decide) rfl ?_
          refine go_goto (tgt := 160) (pc := 209) dX8_minute_209 (by decide) ?_
          rw [nI_1]
          exact ih _ _ _ ⟨_, _, rfl, hM, hA, hf, (hB9.tr (sameB.rf.up (by omega))), (by rw [← hR, wetL_step hi]; congr 2; (split <;> first | rfl | (exfalso; simp only [upK_iff, upK_f, bI_0, ne_eq, Decidable.not_not, Int32.not_lt, Int32.not_le] at *; grind))), rfl⟩
        · refine go_aload_n (pc := 184) dX8_minute_184 rfl ?_
          refine go_getf (pc := 185) f_X8_9 dX8_minute_185 (by first | exact mo0 hM | exact mo1 hM | exact mo6 hM | exact mo7 hM | exact mo8 hM | exact mo2 hM | exact mo3 hM | exact mo4 hM | exact mo5 hM | exact mo9 hM | exact mo10 hM | exact mo11 hM | exact mo12 hM | exact mo13 hM | exact mo14 hM | exact mo15 hM | exact mo16 hM) (by rfl) ?_
          refine go_bipush (v := 16) (pc := 188) dX8_minute_188 (by decide) ?_
          refine go_iload_n (pc := 190) dX8_minute_190 rfl ?_
          refine go_iadd (pc := 191) dX8_minute_191 ?_
          refine go_iald (pc := 192) dX8_minute_192 (by first | exact mo0 hM | exact mo1 hM | exact mo6 hM | exact mo7 hM | exact mo8 hM | exact mo2 hM | exact mo3 hM | exact mo4 hM | exact mo5 hM | exact mo9 hM | exact mo10 hM | exact mo11 hM | exact mo12 hM | exact mo13 hM | exact mo14 hM | exact mo15 hM | exact mo16 hM) (by exact ⟨nI_add 16 _, by omega⟩) ?_
          refine go_iload_n (pc := 193) dX8_minute_193 rfl ?_
          refine go_icmp_ge (tgt := 203) (pc := 194) dX8_minute_194 (by decide) (fun h_194 => ?_) (fun h_194 => ?_)
          · refine go_iconst (v := 0) (pc := 203) dX8_minute_203 (by decide) ?_
            refine go_ior (pc := 204) dX8_minute_204 ?_
            refine go_mstK (j := 32) (pc := 205) hM dX8_minute_205 (by exact ⟨rfl, by decide⟩) (fun σ hM hf9 => ?_)
            have hf := hf.tr hf9
            refine go_iinc (v := 1) (lw := [_, _, _, _]) (pc := 206) dX8_minute_206 rfl (by decide) (by decide) rfl ?_
            refine go_goto (tgt := 160) (pc := 209) dX8_minute_209 (by decide) ?_
            rw [nI_1]
            exact ih _ _ _ ⟨_, _, rfl, hM, hA, hf, (hB9.tr (sameB.rf.up (by omega))), (by rw [← hR, wetL_step hi]; congr 2; (split <;> first | rfl | (exfalso; simp only [upK_iff, upK_f, bI_0, ne_eq, Decidable.not_not, Int32.not_lt, Int32.not_le] at *; grind))), rfl⟩
          · refine go_iconst (v := 1) (pc := 197) dX8_minute_197 (by decide) ?_
            refine go_iload_n (pc := 198) dX8_minute_198 rfl ?_
            refine go_ishl (pc := 199) dX8_minute_199 ?_
            refine go_goto (tgt := 204) (pc := 200) dX8_minute_200 (by decide) ?_
            refine go_ior (pc := 204) dX8_minute_204 ?_
            refine go_mstK (j := 32) (pc := 205) hM dX8_minute_205 (by exact ⟨rfl, by decide⟩) (fun σ hM hf9 => ?_)
            have hf := hf.tr hf9
            refine go_iinc (v := 1) (lw := [_, _, _, _]) (pc := 206) dX8_minute_206 rfl (by decide) (by decide) rfl ?_
            refine go_goto (tgt := 160) (pc := 209) dX8_minute_209 (by decide) ?_
            rw [nI_1]
            exact ih _ _ _ ⟨_, _, rfl, hM, hA, hf, (hB9.tr (sameB.rf.up (by omega))), (by rw [← hR, wetL_step hi]; congr 2; (split <;> first | rfl | (exfalso; simp only [upK_iff, upK_f, bI_0, ne_eq, Decidable.not_not, Int32.not_lt, Int32.not_le] at *; grind))), rfl⟩
      · rintro lv9 σ n9 ⟨K9, A9, rfl, hM, hA, hf, hB9, hR, rfl⟩
        have eP := hB9.P
        have eH := hB9.H
        have hB := hB9.okB hB0
        rw [Nat.sub_self] at hR
        have hR : K9 = W9 := hR
        refine go_iload_n (pc := 160) dX8_minute_160 rfl ?_
        refine go_aload_n (pc := 161) dX8_minute_161 rfl ?_
        refine go_V0P (pc := 162) v_X8_242 rfl rfl (rcv_of (ci := 8) (by first | exact mo0 hM | exact mo1 hM | exact mo6 hM | exact mo7 hM | exact mo8 hM | exact mo2 hM | exact mo3 hM | exact mo4 hM | exact mo5 hM | exact mo9 hM | exact mo10 hM | exact mo11 hM | exact mo12 hM | exact mo13 hM | exact mo14 hM | exact mo15 hM | exact mo16 hM) rfl) dX8_minute_162 (sp_people (k := k - 1) hM) ?_
        rw [hB.1.1, eP]
        refine go_icmp_ge (tgt := 212) (pc := 165) dX8_minute_165 (by decide) (fun h_165 => ?_) (fun h_165 => by exfalso; exact h_165 (nI_le (by omega) (by omega)))
        refine go_aload_n (pc := 212) dX8_minute_212 rfl ?_
        refine go_getf (pc := 213) f_X8_9 dX8_minute_213 (by first | exact mo0 hM | exact mo1 hM | exact mo6 hM | exact mo7 hM | exact mo8 hM | exact mo2 hM | exact mo3 hM | exact mo4 hM | exact mo5 hM | exact mo9 hM | exact mo10 hM | exact mo11 hM | exact mo12 hM | exact mo13 hM | exact mo14 hM | exact mo15 hM | exact mo16 hM) (by rfl) ?_
        refine go_bipush (v := 33) (pc := 216) dX8_minute_216 (by decide) ?_
        refine go_dup2 (pc := 218) dX8_minute_218 rfl rfl ?_
        refine go_iald (pc := 219) dX8_minute_219 (by first | exact mo0 hM | exact mo1 hM | exact mo6 hM | exact mo7 hM | exact mo8 hM | exact mo2 hM | exact mo3 hM | exact mo4 hM | exact mo5 hM | exact mo9 hM | exact mo10 hM | exact mo11 hM | exact mo12 hM | exact mo13 hM | exact mo14 hM | exact mo15 hM | exact mo16 hM) (by first | exact ⟨nI_add _ _, by omega⟩ | exact ⟨rfl, by decide⟩ | exact ⟨rfl, by omega⟩) ?_
        refine go_iconst (v := 1) (pc := 220) dX8_minute_220 (by decide) ?_
        refine go_iadd (pc := 221) dX8_minute_221 ?_
        refine go_mstK (j := 33) (pc := 222) hM dX8_minute_222 (by exact ⟨rfl, by decide⟩) (fun σ hM hf9 => ?_)
        have hf := hf.tr hf9
        exact go_vretV (pc := 223) rfl dX8_minute_223 (Nat.le_of_ble_eq_true rfl) (Nat.le_of_ble_eq_true rfl) ⟨rfl, _, (by rw [hFIN, ← hR]; exact hM), hA, hf⟩
