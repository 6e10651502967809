/-! ===== the class: rounds ===== -/
theorem cp_round {Γ : gam} {D : Nat} {ro : Nat → Nat} {z0 : sto} {n k a b : Nat} {w : Int32} {K ag pa pf ch co rw bk G : row} {im : Nat → Option Nat} {lm lt lw : Value} (hC : CoAt Γ ro z0 a G im) (hR_q : SrAt Γ ro z0 (a + 14) b w (K 33) ch co rw bk) (hr_q : rS K ch co rw bk) (hQ_q : BrAt Γ D ro z0 b K ag pa pf lm lt lw) (hB_q : okB K) (hg_q : gS K) (hS_q : ScAt Γ ro z0 a) (hD : a + 113 < D) (hsb : b = a + 10 ∨ a + 113 < b) (hH1 : 0 < kH K) (hk : 12 ≤ k) (c : Int32) : Sp Γ (rmk k 4 24) uX7_round [.ref a, .int c] z0 n (qT (qI fun v σ' n' => (aRound K c.toInt).1 = 0 ∧ v = (aRound K c.toInt).2 ∧ n' = n ∧ ScAt Γ ro σ' a ∧ frS Γ ro (scr a) z0 σ') (fun x σ' n' => exL [eNS] (aRound K c.toInt).1 x ∧ σ' = z0 ∧ n ≤ n')) := by
  have hP8 := hB_q.1.2.1
  have hH5 := hB_q.1.2.2.2.1
  have hW4 := hB_q.1.2.2.2.2.2
  refine sp_intro [some (.ref a), some (.int c), none, none, none, none] (by decide +kernel) rfl (Nat.le_of_ble_eq_true rfl) rfl ?_
  refine go_aload_n (pc := 0) dX7_round_0 rfl ?_
  refine go_iload_n (pc := 1) dX7_round_1 rfl ?_
  refine go_iconst (v := 0) (pc := 2) dX7_round_2 (by decide) ?_
  refine go_V2Vx (pc := 3) v_X7_127 rfl rfl (rcv_of (ci := 7) (by first | exact co0 hC | exact sr0 hR_q | exact be0 hQ_q | exact sr0 hT_q | exact be0 hQ9 | exact sr1 hR_q | exact sr2 hR_q | exact sr3 hR_q | exact sr4 hR_q | exact be1 hQ_q | exact be2 hQ_q | exact be3 hQ_q | exact sr3 hT_q | exact sr2 hT_q | exact sr1 hT_q | exact sr4 hT_q | exact co4 hC | exact co2 hC | exact co3 hC | exact co0 hC9 | exact sr0 hR9 | exact co4 hC9 | exact sr3 hR9 | exact sr2 hR9) rfl) dX7_round_3 (cp_needChair (k := k - 1) hC hR_q hr_q hQ_q hB_q (by omega) _ _) (fun x σx nx hx_q => by obtain ⟨h9_q, rfl, rfl, h8_q⟩ := hx_q; have e9_q : pN (kW K) c.toInt = none := (by cases e8_q : pN (kW K) c.toInt with | none => rfl | some d9_q => exact absurd h9_q (by rw [chK, e8_q, show (0 : Int32).toInt = ((0 : Nat) : Int) from rfl, pN_nat hH1]; simp)); exact Or.inr ⟨_, rfl, ⟨0, (by rw [show aRound K c.toInt = (1, 0) from by simp only [aRound, e9_q]]; rfl), rfl⟩, rfl, h8_q⟩) (fun σ n h_q => ?_)
  obtain ⟨⟨x1_q, x2_q, hz_q, rfl, hx2, hza, hzb⟩, rfl, rfl⟩ := h_q
  have hpc : pN (kW K) (nI x1_q).toInt = some x1_q := (chK_some hz_q).1
  refine go_aload_n (pc := 6) dX7_round_6 rfl ?_
  refine go_getf (pc := 7) f_X7_65 dX7_round_7 (by first | exact co0 hC | exact sr0 hR_q | exact be0 hQ_q | exact sr0 hT_q | exact be0 hQ9 | exact sr1 hR_q | exact sr2 hR_q | exact sr3 hR_q | exact sr4 hR_q | exact be1 hQ_q | exact be2 hQ_q | exact be3 hQ_q | exact sr3 hT_q | exact sr2 hT_q | exact sr1 hT_q | exact sr4 hT_q | exact co4 hC | exact co2 hC | exact co3 hC | exact co0 hC9 | exact sr0 hR9 | exact co4 hC9 | exact sr3 hR9 | exact sr2 hR9) (by rfl) ?_
  refine go_iload_n (pc := 10) dX7_round_10 rfl ?_
  refine go_V1P (pc := 11) v_X7_279 rfl rfl (rcv_of (ci := 5) (by first | exact co0 hC | exact sr0 hR_q | exact be0 hQ_q | exact sr0 hT_q | exact be0 hQ9 | exact sr1 hR_q | exact sr2 hR_q | exact sr3 hR_q | exact sr4 hR_q | exact be1 hQ_q | exact be2 hQ_q | exact be3 hQ_q | exact sr3 hT_q | exact sr2 hT_q | exact sr1 hT_q | exact sr4 hT_q | exact co4 hC | exact co2 hC | exact co3 hC | exact co0 hC9 | exact sr0 hR9 | exact co4 hC9 | exact sr3 hR9 | exact sr2 hR9) rfl) dX7_round_11 (cp_sittersIn (k := k - 1) hR_q hr_q hQ_q hB_q _) ?_
  refine go_istore_n (lw := [_, _, _, _, _, _]) (pc := 14) dX7_round_14 (by decide) rfl ?_
  refine go_aload_n (pc := 15) dX7_round_15 rfl ?_
  refine go_V0A (pc := 16) v_X7_223 rfl rfl (rcv_of (ci := 7) (by first | exact co0 hC | exact sr0 hR_q | exact be0 hQ_q | exact sr0 hT_q | exact be0 hQ9 | exact sr1 hR_q | exact sr2 hR_q | exact sr3 hR_q | exact sr4 hR_q | exact be1 hQ_q | exact be2 hQ_q | exact be3 hQ_q | exact sr3 hT_q | exact sr2 hT_q | exact sr1 hT_q | exact sr4 hT_q | exact co4 hC | exact co2 hC | exact co3 hC | exact co0 hC9 | exact sr0 hR9 | exact co4 hC9 | exact sr3 hR9 | exact sr2 hR9) rfl) dX7_round_16 (cp_trial (k := k - 1) hC hR_q hr_q hQ_q hB_q hg_q hS_q hD hsb (by omega)) (fun v_16 σ n h_q => ?_)
  obtain ⟨rfl, rfl, ⟨ch9, co9, rw9, bk9, hT_q, hr9_q⟩, hf_q⟩ := h_q
  have hQ9 := hQ_q.fr hf_q (by omega) (by omega)
  refine go_astore_n (lw := [_, _, _, _, _, _]) (pc := 19) dX7_round_19 (by decide) rfl ?_
  refine go_iconst (v := 0) (pc := 20) dX7_round_20 (by decide) ?_
  refine go_istore (lw := [_, _, _, _, _, _]) (pc := 21) dX7_round_21 (by decide) rfl ?_
  refine go_iter (100) (fun i_q lv9 s9 n9 => ∃ (ch9 : row), ∃ (co9 : row), ∃ (rw9 : row), ∃ (bk9 : row), ∃ (x9_q : Int32), ∃ x5_q, lv9 = [some (.ref a), some (.int (nI x1_q)), some (.int x9_q), some (.ref (a + 89)), some (.int (nI i_q)), x5_q] ∧ (SrAt Γ ro s9 (a + 89) b w (rdI (nI x1_q) i_q K 33) ch9 co9 rw9 bk9) ∧ (rS (rdI (nI x1_q) i_q K) ch9 co9 rw9 bk9) ∧ (BrAt Γ D ro s9 b K ag pa pf lm lt lw) ∧ (frC Γ ro (a + 89) (a + 93) z0 s9) ∧ (x9_q = allF K (nI x1_q) (kH K) 0 0 &&& (mpK K (nI x1_q) i_q ^^^ (-1))) ∧ (fnd (fun m => decide (allF K (nI x1_q) (kH K) 0 0 &&& (metK K (nI x1_q) m ^^^ (-1)) = 0)) i_q (100 - i_q) = fnd (fun m => decide (allF K (nI x1_q) (kH K) 0 0 &&& (metK K (nI x1_q) m ^^^ (-1)) = 0)) 0 100) ∧ n = n9) ⟨_, _, _, _, _, none, rfl, hT_q, hr9_q, hQ9, hf_q, (by rw [mpK, an_0]; exact all_in hB_q hg_q), rfl, rfl⟩ ?_ ?_
  · rintro i_q lv9 σ n9 hi_q ⟨ch9, co9, rw9, bk9, x9_q, x5_q, rfl, hT_q, hr9_q, hQ9, hf_q, hx9, hR9, rfl⟩ ih_q
    obtain ⟨hs9, hg9_q⟩ := rdI_gS hg_q hP8 hH5 hza i_q
    have hB9_q := hs9.okB hB_q
    have eP_q := hs9.P
    have eH_q := hs9.H
    have eW := hs9.W
    refine go_iload (pc := 23) dX7_round_23 rfl ?_
    refine go_bipush (v := 99) (pc := 25) dX7_round_25 (by decide) ?_
    refine go_icmp_gt (tgt := 99) (pc := 27) dX7_round_27 (by decide) (fun h_27 => by exfalso; exact absurd h_27 (Int32.not_lt.mpr (nI_le (b := 99) (by omega) (by decide)))) (fun h_27 => ?_)
    refine go_aload_n (pc := 30) dX7_round_30 rfl ?_
    refine go_iload_n (pc := 31) dX7_round_31 rfl ?_
    refine go_iconst (v := 0) (pc := 32) dX7_round_32 (by decide) ?_
    refine go_V2P (pc := 33) v_X7_131 rfl rfl (rcv_of (ci := 5) (by first | exact co0 hC | exact sr0 hR_q | exact be0 hQ_q | exact sr0 hT_q | exact be0 hQ9 | exact sr1 hR_q | exact sr2 hR_q | exact sr3 hR_q | exact sr4 hR_q | exact be1 hQ_q | exact be2 hQ_q | exact be3 hQ_q | exact sr3 hT_q | exact sr2 hT_q | exact sr1 hT_q | exact sr4 hT_q | exact co4 hC | exact co2 hC | exact co3 hC | exact co0 hC9 | exact sr0 hR9 | exact co4 hC9 | exact sr3 hR9 | exact sr2 hR9) rfl) dX7_round_33 (cp_whoOn (k := k - 1) hT_q hr9_q (hQ9.sm hs9) (by omega) hB9_q _ _) ?_
    have ew : whoK (rdI (nI x1_q) i_q K) (nI x1_q).toInt (0 : Int32).toInt = oI (sitK (rdI (nI x1_q) i_q K) (nI x1_q) 0) := by rw [nI_toInt (by omega), show (0 : Int32).toInt = ((0 : Nat) : Int) from rfl, whoK_at (by omega) (by omega)]; rfl
    rw [ew]
    refine go_istore (lw := [_, _, _, _, _, _]) (pc := 36) dX7_round_36 (by decide) rfl ?_
    refine go_iload (pc := 38) dX7_round_38 rfl ?_
    refine go_iconst (v := -1) (pc := 40) dX7_round_40 (by decide) ?_
    refine go_icmp_eq (tgt := 53) (pc := 41) dX7_round_41 (by decide) (fun h_41 => ?_) (fun h_41 => ?_)
    · have hX : x9_q &&& (bitO (sitK (rdI (nI x1_q) i_q K) (nI x1_q) 0) ^^^ (-1)) = allF K (nI x1_q) (kH K) 0 0 &&& (metK K (nI x1_q) i_q ^^^ (-1)) := by rw [hx9, an_or, mp_met]
      first
        | (have g9_q : sitK (rdI (nI x1_q) i_q K) (nI x1_q) 0 = none := (sit_m1 (by omega)).mp h_41
           rw [g9_q, show bitO none = 0 from rfl, an_0] at hX
           rw [hX])
        | (obtain ⟨q9_q, hq9⟩ := oI_ne h_41
           rw [hq9] at hX
           rw [show oI (sitK (rdI (nI x1_q) i_q K) (nI x1_q) 0) = nI q9_q from by rw [hq9]; rfl, show (1 : Int32) <<< (nI q9_q &&& 31) = bitO (some q9_q) from rfl, hX])
      refine go_iload_n (pc := 53) dX7_round_53 rfl ?_
      refine go_if_ne (tgt := 60) (pc := 54) dX7_round_54 (by decide) (fun h_54 => ?_) (fun h_54 => ?_)
      · refine go_aload_n (pc := 60) dX7_round_60 rfl ?_
        refine go_iload_n (pc := 61) dX7_round_61 rfl ?_
        refine go_V1P (pc := 62) v_X7_282 rfl rfl (rcv_of (ci := 5) (by first | exact co0 hC | exact sr0 hR_q | exact be0 hQ_q | exact sr0 hT_q | exact be0 hQ9 | exact sr1 hR_q | exact sr2 hR_q | exact sr3 hR_q | exact sr4 hR_q | exact be1 hQ_q | exact be2 hQ_q | exact be3 hQ_q | exact sr3 hT_q | exact sr2 hT_q | exact sr1 hT_q | exact sr4 hT_q | exact co4 hC | exact co2 hC | exact co3 hC | exact co0 hC9 | exact sr0 hR9 | exact co4 hC9 | exact sr3 hR9 | exact sr2 hR9) rfl) dX7_round_62 (cp_foremostAwake (k := k - 1) hT_q hr9_q (hQ9.sm hs9) hB9_q (by omega) (by omega)) ?_
        have hsA : sameB (rdI (nI x1_q) i_q K) (rdA (rdI (nI x1_q) i_q K) (nI x1_q)) := rdA_same (by omega)
        have hgA : gS (rdA (rdI (nI x1_q) i_q K) (nI x1_q)) := gS_rdA hg9_q (by omega) (by omega) (by omega)
        refine go_istore (lw := [_, _, _, _, _, _]) (pc := 65) dX7_round_65 (by decide) rfl ?_
        refine go_iload (pc := 67) dX7_round_67 rfl ?_
        refine go_iconst (v := -1) (pc := 69) dX7_round_69 (by decide) ?_
        refine go_icmp_eq (tgt := 88) (pc := 70) dX7_round_70 (by decide) (fun h_70 => ?_) (fun h_70 => ?_)
        · first
            | (have g9_q : fmK (rdI (nI x1_q) i_q K) (nI x1_q) = none := Decidable.byContradiction fun hc_q => by
                 cases e9_q : fmK (rdI (nI x1_q) i_q K) (nI x1_q) with
                 | none => exact hc_q e9_q
                 | some q9_q => rw [e9_q] at h_70; exact nI_ne1 (by have := (fm_some e9_q).1; omega) h_70
               have erd : rdA (rdI (nI x1_q) i_q K) (nI x1_q) = rdI (nI x1_q) i_q K := by simp only [rdA, g9_q]
               rw [← erd] at hT_q hr9_q)
            | skip
          refine go_aload_n (pc := 88) dX7_round_88 rfl ?_
          refine go_iconst (v := 0) (pc := 89) dX7_round_89 (by decide) ?_
          refine go_V1V (pc := 90) v_X7_207 rfl rfl (rcv_of (ci := 5) (by first | exact co0 hC | exact sr0 hR_q | exact be0 hQ_q | exact sr0 hT_q | exact be0 hQ9 | exact sr1 hR_q | exact sr2 hR_q | exact sr3 hR_q | exact sr4 hR_q | exact be1 hQ_q | exact be2 hQ_q | exact be3 hQ_q | exact sr3 hT_q | exact sr2 hT_q | exact sr1 hT_q | exact sr4 hT_q | exact co4 hC | exact co2 hC | exact co3 hC | exact co0 hC9 | exact sr0 hR9 | exact co4 hC9 | exact sr3 hR9 | exact sr2 hR9) rfl) dX7_round_90 (cp_pass (k := k - 1) hT_q hr9_q (hQ9.sm (hs9.tr hsA)) (hsA.okB hB9_q) hgA (by omega) (by omega) (by omega) _) (fun σ n h_q => ?_)
          obtain ⟨rfl, ⟨ch9, co9, rw9, bk9, hT_q, hr9_q⟩, hf1⟩ := h_q
          have hf_q := hf_q.tr hf1
          have hQ9 := hQ9.fr hf1 (by omega) (by omega)
          rw [pasW_0 (by decide) hgA (by rw [hsA.P]; omega) (by rw [hsA.H]; omega)] at hT_q
          refine go_iinc (v := 1) (lw := [_, _, _, _, _, _]) (pc := 93) dX7_round_93 rfl (by decide) (by decide) rfl ?_
          refine go_goto (tgt := 23) (pc := 96) dX7_round_96 (by decide) ?_
          rw [nI_1]
          exact ih_q _ _ _ ⟨_, _, _, _, _, _, rfl, hT_q, hr9_q, hQ9, hf_q, rfl, (by rw [← hR9, fnd_n hi_q (by simpa using h_54)]), rfl⟩
        · obtain ⟨p9_q, hpp⟩ := oI_ne h_70
          rw [show oI (fmK (rdI (nI x1_q) i_q K) (nI x1_q)) = nI p9_q from by rw [hpp]; rfl]
          have hp9 := fm_some hpp
          have hu9 : (rdI (nI x1_q) i_q K) (16 + p9_q) ≠ -1 := by
            obtain ⟨w8, hw8, e8_q⟩ := hp9.2.1
            rw [e8_q]; exact nI_ne1 (by omega)
          have hs8 : sameB (rdI (nI x1_q) i_q K) (riseK (rdI (nI x1_q) i_q K) p9_q (-1)).1 := riseK_same (by omega) (by omega)
          have hg8 : gS (riseK (rdI (nI x1_q) i_q K) p9_q (-1)).1 := gS_rise (by omega) (by omega) hp9.1 hg9_q hu9
          have hm1 : (riseK (rdI (nI x1_q) i_q K) p9_q (-1)).1 (16 + p9_q) = -1 := rise_m1 (by omega) (by omega) (by omega)
          have hm2 : (riseK (rdI (nI x1_q) i_q K) p9_q (-1)).1 (8 + p9_q) = nI x1_q := by rw [rise_e (by omega) (by omega) (by omega) (by omega)]; exact hp9.2.2.1
          have hm3 : (riseK (rdI (nI x1_q) i_q K) p9_q (-1)).1 (24 + p9_q) = -1 := rise_24 (by omega) (by omega)
          have erd : rdA (rdI (nI x1_q) i_q K) (nI x1_q) = sitdK (riseK (rdI (nI x1_q) i_q K) p9_q (-1)).1 p9_q (nI x1_q) := by simp only [rdA, hpp]
          refine go_aload_n (pc := 73) dX7_round_73 rfl ?_
          refine go_iload (pc := 74) dX7_round_74 rfl ?_
          refine go_V1I (pc := 76) v_X7_183 rfl rfl (rcv_of (ci := 5) (by first | exact co0 hC | exact sr0 hR_q | exact be0 hQ_q | exact sr0 hT_q | exact be0 hQ9 | exact sr1 hR_q | exact sr2 hR_q | exact sr3 hR_q | exact sr4 hR_q | exact be1 hQ_q | exact be2 hQ_q | exact be3 hQ_q | exact sr3 hT_q | exact sr2 hT_q | exact sr1 hT_q | exact sr4 hT_q | exact co4 hC | exact co2 hC | exact co3 hC | exact co0 hC9 | exact sr0 hR9 | exact co4 hC9 | exact sr3 hR9 | exact sr2 hR9) rfl) dX7_round_76 (cp_leave (k := k - 1) hT_q hr9_q (hQ9.sm hs9) hB9_q hg9_q (by omega) (by omega) (by omega) hp9.1 hu9) (fun v_76 σ n h_q => ?_)
          obtain ⟨rfl, rfl, ⟨ch9, co9, rw9, bk9, hT_q, hr9_q⟩, hf1⟩ := h_q
          have hf_q := hf_q.tr hf1
          have hQ9 := hQ9.fr hf1 (by omega) (by omega)
          refine go_pop (pc := 79) dX7_round_79 rfl ?_
          refine go_aload_n (pc := 80) dX7_round_80 rfl ?_
          refine go_iload (pc := 81) dX7_round_81 rfl ?_
          refine go_iload_n (pc := 83) dX7_round_83 rfl ?_
          refine go_V2I (pc := 84) v_X7_189 rfl rfl (rcv_of (ci := 5) (by first | exact co0 hC | exact sr0 hR_q | exact be0 hQ_q | exact sr0 hT_q | exact be0 hQ9 | exact sr1 hR_q | exact sr2 hR_q | exact sr3 hR_q | exact sr4 hR_q | exact be1 hQ_q | exact be2 hQ_q | exact be3 hQ_q | exact sr3 hT_q | exact sr2 hT_q | exact sr1 hT_q | exact sr4 hT_q | exact co4 hC | exact co2 hC | exact co3 hC | exact co0 hC9 | exact sr0 hR9 | exact co4 hC9 | exact sr3 hR9 | exact sr2 hR9) rfl) dX7_round_84 (cp_take (k := k - 1) hT_q hr9_q (hQ9.sm (hs9.tr hs8)) (hs8.okB hB9_q) hg8 (by omega) (by omega) (by omega) (by rw [hs8.P]; exact hp9.1) hm1 (by rw [hs8.W]; omega)) (fun v_84 σ n h_q => ?_)
          obtain ⟨rfl, rfl, ⟨ch9, co9, rw9, bk9, hT_q, hr9_q⟩, hf1⟩ := h_q
          have hf_q := hf_q.tr hf1
          have hQ9 := hQ9.fr hf1 (by omega) (by omega)
          rw [tak_sitd hm1 hm2 hm3, ← erd] at hT_q hr9_q
          refine go_pop (pc := 87) dX7_round_87 rfl ?_
          first
            | (have g9_q : fmK (rdI (nI x1_q) i_q K) (nI x1_q) = none := Decidable.byContradiction fun hc_q => by
                 cases e9_q : fmK (rdI (nI x1_q) i_q K) (nI x1_q) with
                 | none => exact hc_q e9_q
                 | some q9_q => rw [e9_q] at h_70; exact nI_ne1 (by have := (fm_some e9_q).1; omega) h_70
               have erd : rdA (rdI (nI x1_q) i_q K) (nI x1_q) = rdI (nI x1_q) i_q K := by simp only [rdA, g9_q]
               rw [← erd] at hT_q hr9_q)
            | skip
          refine go_aload_n (pc := 88) dX7_round_88 rfl ?_
          refine go_iconst (v := 0) (pc := 89) dX7_round_89 (by decide) ?_
          refine go_V1V (pc := 90) v_X7_207 rfl rfl (rcv_of (ci := 5) (by first | exact co0 hC | exact sr0 hR_q | exact be0 hQ_q | exact sr0 hT_q | exact be0 hQ9 | exact sr1 hR_q | exact sr2 hR_q | exact sr3 hR_q | exact sr4 hR_q | exact be1 hQ_q | exact be2 hQ_q | exact be3 hQ_q | exact sr3 hT_q | exact sr2 hT_q | exact sr1 hT_q | exact sr4 hT_q | exact co4 hC | exact co2 hC | exact co3 hC | exact co0 hC9 | exact sr0 hR9 | exact co4 hC9 | exact sr3 hR9 | exact sr2 hR9) rfl) dX7_round_90 (cp_pass (k := k - 1) hT_q hr9_q (hQ9.sm (hs9.tr hsA)) (hsA.okB hB9_q) hgA (by omega) (by omega) (by omega) _) (fun σ n h_q => ?_)
          obtain ⟨rfl, ⟨ch9, co9, rw9, bk9, hT_q, hr9_q⟩, hf1⟩ := h_q
          have hf_q := hf_q.tr hf1
          have hQ9 := hQ9.fr hf1 (by omega) (by omega)
          rw [pasW_0 (by decide) hgA (by rw [hsA.P]; omega) (by rw [hsA.H]; omega)] at hT_q
          refine go_iinc (v := 1) (lw := [_, _, _, _, _, _]) (pc := 93) dX7_round_93 rfl (by decide) (by decide) rfl ?_
          refine go_goto (tgt := 23) (pc := 96) dX7_round_96 (by decide) ?_
          rw [nI_1]
          exact ih_q _ _ _ ⟨_, _, _, _, _, _, rfl, hT_q, hr9_q, hQ9, hf_q, rfl, (by rw [← hR9, fnd_n hi_q (by simpa using h_54)]), rfl⟩
      · refine go_iload (pc := 57) dX7_round_57 rfl ?_
        exact go_iretT (pc := 59) rfl dX7_round_59 (Nat.le_of_ble_eq_true rfl) (Nat.le_of_ble_eq_true rfl) ⟨by simp only [aRound, hpc], by simp only [aRound, hpc]; rw [← hR9, fnd_y hi_q (by simpa using h_54)]; rfl, rfl, hS_q.s0 hC.1 hf_q hT_q.T, hf_q.toS (fun q x y => by omega)⟩
    · refine go_iload_n (pc := 44) dX7_round_44 rfl ?_
      refine go_iconst (v := 1) (pc := 45) dX7_round_45 (by decide) ?_
      refine go_iload (pc := 46) dX7_round_46 rfl ?_
      refine go_ishl (pc := 48) dX7_round_48 ?_
      refine go_iconst (v := -1) (pc := 49) dX7_round_49 (by decide) ?_
      refine go_ixor (pc := 50) dX7_round_50 ?_
      refine go_iand (pc := 51) dX7_round_51 ?_
      refine go_istore_n (lw := [_, _, _, _, _, _]) (pc := 52) dX7_round_52 (by decide) rfl ?_
      have hX : x9_q &&& (bitO (sitK (rdI (nI x1_q) i_q K) (nI x1_q) 0) ^^^ (-1)) = allF K (nI x1_q) (kH K) 0 0 &&& (metK K (nI x1_q) i_q ^^^ (-1)) := by rw [hx9, an_or, mp_met]
      first
        | (have g9_q : sitK (rdI (nI x1_q) i_q K) (nI x1_q) 0 = none := (sit_m1 (by omega)).mp h_41
           rw [g9_q, show bitO none = 0 from rfl, an_0] at hX
           rw [hX])
        | (obtain ⟨q9_q, hq9⟩ := oI_ne h_41
           rw [hq9] at hX
           rw [show oI (sitK (rdI (nI x1_q) i_q K) (nI x1_q) 0) = nI q9_q from by rw [hq9]; rfl, show (1 : Int32) <<< (nI q9_q &&& 31) = bitO (some q9_q) from rfl, hX])
      refine go_iload_n (pc := 53) dX7_round_53 rfl ?_
      refine go_if_ne (tgt := 60) (pc := 54) dX7_round_54 (by decide) (fun h_54 => ?_) (fun h_54 => ?_)
      · refine go_aload_n (pc := 60) dX7_round_60 rfl ?_
        refine go_iload_n (pc := 61) dX7_round_61 rfl ?_
        refine go_V1P (pc := 62) v_X7_282 rfl rfl (rcv_of (ci := 5) (by first | exact co0 hC | exact sr0 hR_q | exact be0 hQ_q | exact sr0 hT_q | exact be0 hQ9 | exact sr1 hR_q | exact sr2 hR_q | exact sr3 hR_q | exact sr4 hR_q | exact be1 hQ_q | exact be2 hQ_q | exact be3 hQ_q | exact sr3 hT_q | exact sr2 hT_q | exact sr1 hT_q | exact sr4 hT_q | exact co4 hC | exact co2 hC | exact co3 hC | exact co0 hC9 | exact sr0 hR9 | exact co4 hC9 | exact sr3 hR9 | exact sr2 hR9) rfl) dX7_round_62 (cp_foremostAwake (k := k - 1) hT_q hr9_q (hQ9.sm hs9) hB9_q (by omega) (by omega)) ?_
        have hsA : sameB (rdI (nI x1_q) i_q K) (rdA (rdI (nI x1_q) i_q K) (nI x1_q)) := rdA_same (by omega)
        have hgA : gS (rdA (rdI (nI x1_q) i_q K) (nI x1_q)) := gS_rdA hg9_q (by omega) (by omega) (by omega)
        refine go_istore (lw := [_, _, _, _, _, _]) (pc := 65) dX7_round_65 (by decide) rfl ?_
        refine go_iload (pc := 67) dX7_round_67 rfl ?_
        refine go_iconst (v := -1) (pc := 69) dX7_round_69 (by decide) ?_
        refine go_icmp_eq (tgt := 88) (pc := 70) dX7_round_70 (by decide) (fun h_70 => ?_) (fun h_70 => ?_)
        · first
            | (have g9_q : fmK (rdI (nI x1_q) i_q K) (nI x1_q) = none := Decidable.byContradiction fun hc_q => by
                 cases e9_q : fmK (rdI (nI x1_q) i_q K) (nI x1_q) with
                 | none => exact hc_q e9_q
                 | some q9_q => rw [e9_q] at h_70; exact nI_ne1 (by have := (fm_some e9_q).1; omega) h_70
               have erd : rdA (rdI (nI x1_q) i_q K) (nI x1_q) = rdI (nI x1_q) i_q K := by simp only [rdA, g9_q]
               rw [← erd] at hT_q hr9_q)
            | skip
          refine go_aload_n (pc := 88) dX7_round_88 rfl ?_
          refine go_iconst (v := 0) (pc := 89) dX7_round_89 (by decide) ?_
          refine go_V1V (pc := 90) v_X7_207 rfl rfl (rcv_of (ci := 5) (by first | exact co0 hC | exact sr0 hR_q | exact be0 hQ_q | exact sr0 hT_q | exact be0 hQ9 | exact sr1 hR_q | exact sr2 hR_q | exact sr3 hR_q | exact sr4 hR_q | exact be1 hQ_q | exact be2 hQ_q | exact be3 hQ_q | exact sr3 hT_q | exact sr2 hT_q | exact sr1 hT_q | exact sr4 hT_q | exact co4 hC | exact co2 hC | exact co3 hC | exact co0 hC9 | exact sr0 hR9 | exact co4 hC9 | exact sr3 hR9 | exact sr2 hR9) rfl) dX7_round_90 (cp_pass (k := k - 1) hT_q hr9_q (hQ9.sm (hs9.tr hsA)) (hsA.okB hB9_q) hgA (by omega) (by omega) (by omega) _) (fun σ n h_q => ?_)
          obtain ⟨rfl, ⟨ch9, co9, rw9, bk9, hT_q, hr9_q⟩, hf1⟩ := h_q
          have hf_q := hf_q.tr hf1
          have hQ9 := hQ9.fr hf1 (by omega) (by omega)
          rw [pasW_0 (by decide) hgA (by rw [hsA.P]; omega) (by rw [hsA.H]; omega)] at hT_q
          refine go_iinc (v := 1) (lw := [_, _, _, _, _, _]) (pc := 93) dX7_round_93 rfl (by decide) (by decide) rfl ?_
          refine go_goto (tgt := 23) (pc := 96) dX7_round_96 (by decide) ?_
          rw [nI_1]
          exact ih_q _ _ _ ⟨_, _, _, _, _, _, rfl, hT_q, hr9_q, hQ9, hf_q, rfl, (by rw [← hR9, fnd_n hi_q (by simpa using h_54)]), rfl⟩
        · obtain ⟨p9_q, hpp⟩ := oI_ne h_70
          rw [show oI (fmK (rdI (nI x1_q) i_q K) (nI x1_q)) = nI p9_q from by rw [hpp]; rfl]
          have hp9 := fm_some hpp
          have hu9 : (rdI (nI x1_q) i_q K) (16 + p9_q) ≠ -1 := by
            obtain ⟨w8, hw8, e8_q⟩ := hp9.2.1
            rw [e8_q]; exact nI_ne1 (by omega)
          have hs8 : sameB (rdI (nI x1_q) i_q K) (riseK (rdI (nI x1_q) i_q K) p9_q (-1)).1 := riseK_same (by omega) (by omega)
          have hg8 : gS (riseK (rdI (nI x1_q) i_q K) p9_q (-1)).1 := gS_rise (by omega) (by omega) hp9.1 hg9_q hu9
          have hm1 : (riseK (rdI (nI x1_q) i_q K) p9_q (-1)).1 (16 + p9_q) = -1 := rise_m1 (by omega) (by omega) (by omega)
          have hm2 : (riseK (rdI (nI x1_q) i_q K) p9_q (-1)).1 (8 + p9_q) = nI x1_q := by rw [rise_e (by omega) (by omega) (by omega) (by omega)]; exact hp9.2.2.1
          have hm3 : (riseK (rdI (nI x1_q) i_q K) p9_q (-1)).1 (24 + p9_q) = -1 := rise_24 (by omega) (by omega)
          have erd : rdA (rdI (nI x1_q) i_q K) (nI x1_q) = sitdK (riseK (rdI (nI x1_q) i_q K) p9_q (-1)).1 p9_q (nI x1_q) := by simp only [rdA, hpp]
          refine go_aload_n (pc := 73) dX7_round_73 rfl ?_
          refine go_iload (pc := 74) dX7_round_74 rfl ?_
          refine go_V1I (pc := 76) v_X7_183 rfl rfl (rcv_of (ci := 5) (by first | exact co0 hC | exact sr0 hR_q | exact be0 hQ_q | exact sr0 hT_q | exact be0 hQ9 | exact sr1 hR_q | exact sr2 hR_q | exact sr3 hR_q | exact sr4 hR_q | exact be1 hQ_q | exact be2 hQ_q | exact be3 hQ_q | exact sr3 hT_q | exact sr2 hT_q | exact sr1 hT_q | exact sr4 hT_q | exact co4 hC | exact co2 hC | exact co3 hC | exact co0 hC9 | exact sr0 hR9 | exact co4 hC9 | exact sr3 hR9 | exact sr2 hR9) rfl) dX7_round_76 (cp_leave (k := k - 1) hT_q hr9_q (hQ9.sm hs9) hB9_q hg9_q (by omega) (by omega) (by omega) hp9.1 hu9) (fun v_76 σ n h_q => ?_)
          obtain ⟨rfl, rfl, ⟨ch9, co9, rw9, bk9, hT_q, hr9_q⟩, hf1⟩ := h_q
          have hf_q := hf_q.tr hf1
          have hQ9 := hQ9.fr hf1 (by omega) (by omega)
          refine go_pop (pc := 79) dX7_round_79 rfl ?_
          refine go_aload_n (pc := 80) dX7_round_80 rfl ?_
          refine go_iload (pc := 81) dX7_round_81 rfl ?_
          refine go_iload_n (pc := 83) dX7_round_83 rfl ?_
          refine go_V2I (pc := 84) v_X7_189 rfl rfl (rcv_of (ci := 5) (by first | exact co0 hC | exact sr0 hR_q | exact be0 hQ_q | exact sr0 hT_q | exact be0 hQ9 | exact sr1 hR_q | exact sr2 hR_q | exact sr3 hR_q | exact sr4 hR_q | exact be1 hQ_q | exact be2 hQ_q | exact be3 hQ_q | exact sr3 hT_q | exact sr2 hT_q | exact sr1 hT_q | exact sr4 hT_q | exact co4 hC | exact co2 hC | exact co3 hC | exact co0 hC9 | exact sr0 hR9 | exact co4 hC9 | exact sr3 hR9 | exact sr2 hR9) rfl) dX7_round_84 (cp_take (k := k - 1) hT_q hr9_q (hQ9.sm (hs9.tr hs8)) (hs8.okB hB9_q) hg8 (by omega) (by omega) (by omega) (by rw [hs8.P]; exact hp9.1) hm1 (by rw [hs8.W]; omega)) (fun v_84 σ n h_q => ?_)
          obtain ⟨rfl, rfl, ⟨ch9, co9, rw9, bk9, hT_q, hr9_q⟩, hf1⟩ := h_q
          have hf_q := hf_q.tr hf1
          have hQ9 := hQ9.fr hf1 (by omega) (by omega)
          rw [tak_sitd hm1 hm2 hm3, ← erd] at hT_q hr9_q
          refine go_pop (pc := 87) dX7_round_87 rfl ?_
          first
            | (have g9_q : fmK (rdI (nI x1_q) i_q K) (nI x1_q) = none := Decidable.byContradiction fun hc_q => by
                 cases e9_q : fmK (rdI (nI x1_q) i_q K) (nI x1_q) with
                 | none => exact hc_q e9_q
                 | some q9_q => rw [e9_q] at h_70; exact nI_ne1 (by have := (fm_some e9_q).1; omega) h_70
               have erd : rdA (rdI (nI x1_q) i_q K) (nI x1_q) = rdI (nI x1_q) i_q K := by simp only [rdA, g9_q]
               rw [← erd] at hT_q hr9_q)
            | skip
          refine go_aload_n (pc := 88) dX7_round_88 rfl ?_
          refine go_iconst (v := 0) (pc := 89) dX7_round_89 (by decide) ?_
          refine go_V1V (pc := 90) v_X7_207 rfl rfl (rcv_of (ci := 5) (by first | exact co0 hC | exact sr0 hR_q | exact be0 hQ_q | exact sr0 hT_q | exact be0 hQ9 | exact sr1 hR_q | exact sr2 hR_q | exact sr3 hR_q | exact sr4 hR_q | exact be1 hQ_q | exact be2 hQ_q | exact be3 hQ_q | exact sr3 hT_q | exact sr2 hT_q | exact sr1 hT_q | exact sr4 hT_q | exact co4 hC | exact co2 hC | exact co3 hC | exact co0 hC9 | exact sr0 hR9 | exact co4 hC9 | exact sr3 hR9 | exact sr2 hR9) rfl) dX7_round_90 (cp_pass (k := k - 1) hT_q hr9_q (hQ9.sm (hs9.tr hsA)) (hsA.okB hB9_q) hgA (by omega) (by omega) (by omega) _) (fun σ n h_q => ?_)
          obtain ⟨rfl, ⟨ch9, co9, rw9, bk9, hT_q, hr9_q⟩, hf1⟩ := h_q
          have hf_q := hf_q.tr hf1
          have hQ9 := hQ9.fr hf1 (by omega) (by omega)
          rw [pasW_0 (by decide) hgA (by rw [hsA.P]; omega) (by rw [hsA.H]; omega)] at hT_q
          refine go_iinc (v := 1) (lw := [_, _, _, _, _, _]) (pc := 93) dX7_round_93 rfl (by decide) (by decide) rfl ?_
          refine go_goto (tgt := 23) (pc := 96) dX7_round_96 (by decide) ?_
          rw [nI_1]
          exact ih_q _ _ _ ⟨_, _, _, _, _, _, rfl, hT_q, hr9_q, hQ9, hf_q, rfl, (by rw [← hR9, fnd_n hi_q (by simpa using h_54)]), rfl⟩
      · refine go_iload (pc := 57) dX7_round_57 rfl ?_
        exact go_iretT (pc := 59) rfl dX7_round_59 (Nat.le_of_ble_eq_true rfl) (Nat.le_of_ble_eq_true rfl) ⟨by simp only [aRound, hpc], by simp only [aRound, hpc]; rw [← hR9, fnd_y hi_q (by simpa using h_54)]; rfl, rfl, hS_q.s0 hC.1 hf_q hT_q.T, hf_q.toS (fun q x y => by omega)⟩
  · rintro lv9 σ n9 ⟨ch9, co9, rw9, bk9, x9_q, x5_q, rfl, hT_q, hr9_q, hQ9, hf_q, hx9, hR9, rfl⟩
    refine go_iload (pc := 23) dX7_round_23 rfl ?_
    refine go_bipush (v := 99) (pc := 25) dX7_round_25 (by decide) ?_
    refine go_icmp_gt (tgt := 99) (pc := 27) dX7_round_27 (by decide) (fun h_27 => ?_) (fun h_27 => by exfalso; exact h_27 (nI_lt (a := 99) (b := 100) (by decide) (by decide)))
    refine go_iconst (v := -1) (pc := 99) dX7_round_99 (by decide) ?_
    exact go_iretT (pc := 100) rfl dX7_round_100 (Nat.le_of_ble_eq_true rfl) (Nat.le_of_ble_eq_true rfl) ⟨by simp only [aRound, hpc], by simp only [aRound, hpc]; rw [← hR9, Nat.sub_self]; rfl, rfl, hS_q.s0 hC.1 hf_q hT_q.T, hf_q.toS (fun q x y => by omega)⟩
