/-! ===== the class: told deeds, afternoons ===== -/
theorem cp_judge {Γ : gam} {D : Nat} {ro : Nat → Nat} {z0 : sto} {n k a b_q : Nat} {w : Int32} {K ag pa pf ch co rw bk G : row} {im : Nat → Option Nat} {lm lt lw : Value} (hC : CoAt Γ ro z0 a G im) (hR_q : SrAt Γ ro z0 (a + 14) b_q w (K 33) ch co rw bk) (hr_q : rS K ch co rw bk) (hQ_q : BrAt Γ D ro z0 b_q K ag pa pf lm lt lw) (hB_q : okB K) (hg_q : gS K) (hS_q : ScAt Γ ro z0 a) (hD : a + 113 < D) (hsb : b_q = a + 10 ∨ a + 113 < b_q) {g_q m : row} {Nm : Nat → Int64} (hY : TyAt Γ ro z0 a g_q m Nm) (hT4 : okT g_q m) (hk : 14 ≤ k) (z_q y_q : Int32) : Sp Γ (rmk k 4 24) uX7_judge [.ref a, .int z_q, .int y_q] z0 n (qT (qI fun v_q σ' n' => (aJudge K g_q m Nm z_q.toInt y_q).1 = 0 ∧ v_q = (aJudge K g_q m Nm z_q.toInt y_q).2 ∧ n' = n ∧ ScAt Γ ro σ' a ∧ frS Γ ro (scr a) z0 σ') (fun x_q σ' n' => exL [eNS, eIS, eIA] (aJudge K g_q m Nm z_q.toInt y_q).1 x_q ∧ σ' = z0 ∧ n ≤ n')) := by
  have hP8 := hB_q.1.2.1
  have hH5 := hB_q.1.2.2.2.1
  have hW4 := hB_q.1.2.2.2.2.2
  refine sp_intro [some (.ref a), some (.int z_q), some (.int y_q), none, none, none, none, none, none] (by decide +kernel) rfl (Nat.le_of_ble_eq_true rfl) rfl ?_
  refine go_aload_n (pc := 0) dX7_judge_0 rfl ?_
  refine go_iload_n (pc := 1) dX7_judge_1 rfl ?_
  refine go_V1Vx (pc := 2) v_X7_217 rfl rfl (rcv_of (ci := 7) (by first | exact co0 hC | exact co4 hC | exact co2 hC | exact sr0 hT_q | exact sr0 hR_q | exact (hY.2 t1_q ht1a).1 | exact co0 hC9 | exact co2 hC9 | exact (hY9.2 t1_q ht1a).1 | exact hn8) rfl) dX7_judge_2 (cp_needTray (k := k - 1) (by omega) _) (fun x_q σx nx hx_q => by obtain ⟨h9_q, rfl, rfl, h8_q⟩ := hx_q; exact Or.inr ⟨_, rfl, ⟨0, (by rw [show aJudge K g_q m Nm z_q.toInt y_q = (1, 0) from by have e9_q : tyF g_q z_q.toInt = 1 := (by simp only [tyF, h9_q]); rw [aJudge, e9_q, if_pos (by decide)]]; rfl), rfl⟩, rfl, h8_q⟩) (fun σ n h_q => ?_)
  obtain ⟨⟨t1_q, ht1, rfl, ht1a⟩, rfl, rfl⟩ := h_q
  refine go_aload_n (pc := 5) dX7_judge_5 rfl ?_
  refine go_iload_n (pc := 6) dX7_judge_6 rfl ?_
  refine go_V1Vx (pc := 7) v_X7_220 rfl rfl (rcv_of (ci := 7) (by first | exact co0 hC | exact co4 hC | exact co2 hC | exact sr0 hT_q | exact sr0 hR_q | exact (hY.2 t1_q ht1a).1 | exact co0 hC9 | exact co2 hC9 | exact (hY9.2 t1_q ht1a).1 | exact hn8) rfl) dX7_judge_7 (cp_needLaid (k := k - 1) hC hY ht1a (by omega)) (fun x_q σx nx hx_q => by obtain ⟨h9_q, rfl, rfl, h8_q⟩ := hx_q; exact Or.inr ⟨_, rfl, ⟨1, (by rw [show aJudge K g_q m Nm (nI t1_q).toInt y_q = (2, 0) from by have e9_q : tyF g_q (nI t1_q).toInt = 2 := (by simp only [tyF, ht1]; rw [if_pos h9_q]); rw [aJudge, e9_q, if_pos (by decide)]]; rfl), rfl⟩, rfl, h8_q⟩) (fun σ n h_q => ?_)
  obtain ⟨hl9, rfl, rfl⟩ := h_q
  refine go_aload_n (pc := 10) dX7_judge_10 rfl ?_
  refine go_iload_n (pc := 11) dX7_judge_11 rfl ?_
  refine go_iconst (v := 0) (pc := 12) dX7_judge_12 (by decide) ?_
  refine go_iconst (v := 3) (pc := 13) dX7_judge_13 (by decide) ?_
  refine go_V3Vx (pc := 14) v_X7_90 rfl rfl (rcv_of (ci := 7) (by first | exact co0 hC | exact co4 hC | exact co2 hC | exact sr0 hT_q | exact sr0 hR_q | exact (hY.2 t1_q ht1a).1 | exact co0 hC9 | exact co2 hC9 | exact (hY9.2 t1_q ht1a).1 | exact hn8) rfl) dX7_judge_14 (cp_nW (k := k - 1) (lo := 0) (hi_q := 3) (by omega) (by decide) (by decide) _) (fun x_q σx nx hx_q => by obtain ⟨h9_q, rfl, rfl, h8_q⟩ := hx_q; exact Or.inr ⟨_, rfl, ⟨2, (by rw [show aJudge K g_q m Nm (nI t1_q).toInt y_q = (3, 0) from by have e9_q : tyF g_q (nI t1_q).toInt = 0 := (by simp only [tyF, ht1]; rw [if_neg hl9]); rw [aJudge, if_neg (fun hc_q => hc_q e9_q), h9_q]]; rfl), rfl⟩, rfl, h8_q⟩) (fun σ n h_q => ?_)
  obtain ⟨⟨j2_q, hj2, rfl, hj2a, hj2b⟩, rfl, rfl⟩ := h_q
  have e1_q : (nI t1_q).toInt.toNat = t1_q := by rw [nI_toInt (by omega)]; rfl
  have h0_q : tyF g_q (nI t1_q).toInt = 0 := by simp only [tyF, ht1]; rw [if_neg hl9]
  obtain ⟨⟨M1, hM1, eM1⟩, hg1⟩ := hT4 t1_q ht1a
  have hA9 : aJudge K g_q m Nm (nI t1_q).toInt (nI j2_q) = (0, if nI j2_q = 0 then (jdK (fun k => Nm (30 * t1_q + k)) M1 0 K).1 else if nI j2_q = 1 then (jdK (fun k => Nm (30 * t1_q + k)) M1 0 K).2.1 else if nI j2_q = 2 then frontK (jdK (fun k => Nm (30 * t1_q + k)) M1 0 K).2.2 else (jdK (fun k => Nm (30 * t1_q + k)) M1 0 K).2.2 33) := by
    rw [aJudge, if_neg (fun hc_q => hc_q h0_q), hj2, e1_q, eM1, nI_clamp (by omega)]
  rw [hA9]
  refine go_aload_n (pc := 17) dX7_judge_17 rfl ?_
  refine go_V0A (pc := 18) v_X7_223 rfl rfl (rcv_of (ci := 7) (by first | exact co0 hC | exact co4 hC | exact co2 hC | exact sr0 hT_q | exact sr0 hR_q | exact (hY.2 t1_q ht1a).1 | exact co0 hC9 | exact co2 hC9 | exact (hY9.2 t1_q ht1a).1 | exact hn8) rfl) dX7_judge_18 (cp_trial (k := k - 1) hC hR_q hr_q hQ_q hB_q hg_q hS_q hD hsb (by omega)) (fun v_18 σ n h_q => ?_)
  obtain ⟨rfl, rfl, ⟨ch9, co9, rw9, bk9, hT_q, hr9_q⟩, hf_q⟩ := h_q
  rw [show goK 0 K = K from rfl] at hT_q hr9_q
  have hQ9 := hQ_q.fr hf_q (by omega) (by omega)
  have hC9 := hC.fs (hf_q.toS (S := scr a) (fun q x_q y_q => by omega)) (fun q x_q => by omega)
  have hY9 := hY.fs (hf_q.toS (S := scr a) (fun q x_q y_q => by omega)) (fun q x_q y_q z_q => by omega)
  refine go_astore_n (lw := [_, _, _, _, _, _, _, _, _]) (pc := 21) dX7_judge_21 (by decide) rfl ?_
  refine go_aload_n (pc := 22) dX7_judge_22 rfl ?_
  refine go_getf (pc := 23) f_X7_25 dX7_judge_23 (by first | exact co0 hC | exact co4 hC | exact co2 hC | exact sr0 hT_q | exact sr0 hR_q | exact (hY.2 t1_q ht1a).1 | exact co0 hC9 | exact co2 hC9 | exact (hY9.2 t1_q ht1a).1 | exact hn8) (by rfl) ?_
  refine go_iload_n (pc := 26) dX7_judge_26 rfl ?_
  refine go_aaload (pc := 27) dX7_judge_27 (by first | exact co0 hC | exact co4 hC | exact co2 hC | exact sr0 hT_q | exact sr0 hR_q | exact (hY.2 t1_q ht1a).1 | exact co0 hC9 | exact co2 hC9 | exact (hY9.2 t1_q ht1a).1 | exact hn8) rfl (vp_in_nI (n := t1_q) (N := 4) (by omega) (by decide)) (show some (a + 81 + 2 * (nI (t1_q)).toNatClampNeg) = some (a + 81 + 2 * (t1_q)) from by rw [nI_clamp (by omega)]) ?_
  refine go_astore (lw := [_, _, _, _, _, _, _, _, _]) (pc := 28) dX7_judge_28 (by decide) rfl ?_
  refine go_iconst (v := 0) (pc := 30) dX7_judge_30 (by decide) ?_
  refine go_istore (lw := [_, _, _, _, _, _, _, _, _]) (pc := 31) dX7_judge_31 (by decide) rfl ?_
  refine go_iconst (v := 0) (pc := 33) dX7_judge_33 (by decide) ?_
  refine go_istore (lw := [_, _, _, _, _, _, _, _, _]) (pc := 34) dX7_judge_34 (by decide) rfl ?_
  refine go_iter (M1) (fun i_q lv9 s9 n9 => ∃ (K9_q : row), ∃ (w9_q : Int32), ∃ (ch9 : row), ∃ (co9 : row), ∃ (rw9 : row), ∃ (bk9 : row), ∃ x7_q, lv9 = [some (.ref a), some (.int (nI t1_q)), some (.int (nI j2_q)), some (.ref (a + 89)), some (.ref (a + 81 + 2 * t1_q)), some (.int (nI i_q)), some (.int 0), x7_q, none] ∧ (SrAt Γ ro s9 (a + 89) b_q w9_q (K9_q 33) ch9 co9 rw9 bk9) ∧ (rS K9_q ch9 co9 rw9 bk9) ∧ (BrAt Γ D ro s9 b_q K ag pa pf lm lt lw) ∧ (frC Γ ro (a + 89) (a + 93) z0 s9) ∧ (sameB K K9_q) ∧ (gS K9_q) ∧ (jdK (fun k => Nm (30 * t1_q + k)) (M1 - i_q) i_q K9_q = jdK (fun k => Nm (30 * t1_q + k)) M1 0 K) ∧ n = n9) ⟨K, _, _, _, _, _, none, rfl, hT_q, hr9_q, hQ9, hf_q, sameB.rf, hg_q, rfl, rfl⟩ ?_ ?_
  · rintro i_q lv9 σ n9 hi_q ⟨K9_q, w9_q, ch9, co9, rw9, bk9, x7_q, rfl, hT_q, hr9_q, hQ9, hf_q, hs9, hg9_q, hJ, rfl⟩ ih_q
    have hB9_q := hs9.okB hB_q
    have eP_q := hs9.P
    have eH_q := hs9.H
    have hC9 := hC.fs (hf_q.toS (S := scr a) (fun q x_q y_q => by omega)) (fun q x_q => by omega)
    have hY9 := hY.fs (hf_q.toS (S := scr a) (fun q x_q y_q => by omega)) (fun q x_q y_q z_q => by omega)
    obtain ⟨fN, hn8, hn9⟩ := (hY9.2 t1_q ht1a).2
    refine go_iload (pc := 36) dX7_judge_36 rfl ?_
    refine go_aload (pc := 38) dX7_judge_38 rfl ?_
    refine go_getf (pc := 40) f_X7_227 dX7_judge_40 (by first | exact co0 hC | exact co4 hC | exact co2 hC | exact sr0 hT_q | exact sr0 hR_q | exact (hY.2 t1_q ht1a).1 | exact co0 hC9 | exact co2 hC9 | exact (hY9.2 t1_q ht1a).1 | exact hn8) (by rfl) ?_
    refine go_icmp_ge (tgt := 86) (pc := 43) dX7_judge_43 (by decide) (fun h_43 => by exfalso; rw [eM1] at h_43; exact absurd h_43 (nI_ge (by omega) (by omega))) (fun h_43 => ?_)
    refine go_iload (pc := 46) dX7_judge_46 rfl ?_
    refine go_if_ne (tgt := 86) (pc := 48) dX7_judge_48 (by decide) (fun h_48 => by exfalso; exact h_48 rfl) (fun h_48 => ?_)
    refine go_aload (pc := 51) dX7_judge_51 rfl ?_
    refine go_getf (pc := 53) f_X7_230 dX7_judge_53 (by first | exact co0 hC | exact co4 hC | exact co2 hC | exact sr0 hT_q | exact sr0 hR_q | exact (hY.2 t1_q ht1a).1 | exact co0 hC9 | exact co2 hC9 | exact (hY9.2 t1_q ht1a).1 | exact hn8) (by rfl) ?_
    refine go_iload (pc := 56) dX7_judge_56 rfl ?_
    refine go_lald (pc := 58) dX7_judge_58 (by first | exact co0 hC | exact co4 hC | exact co2 hC | exact sr0 hT_q | exact sr0 hR_q | exact (hY.2 t1_q ht1a).1 | exact co0 hC9 | exact co2 hC9 | exact (hY9.2 t1_q ht1a).1 | exact hn8) (by exact ⟨rfl, by omega⟩) ?_
    rw [hn9 i_q (by omega)]
    refine go_lstore (lw := [_, _, _, _, _, _, _, _, _]) (pc := 59) dX7_judge_59 (by decide) rfl ?_
    refine go_aload_n (pc := 61) dX7_judge_61 rfl ?_
    refine go_lload (pc := 62) dX7_judge_62 rfl ?_
    refine go_V1P (pc := 64) v_X7_234 rfl rfl (rcv_of (ci := 5) (by first | exact co0 hC | exact co4 hC | exact co2 hC | exact sr0 hT_q | exact sr0 hR_q | exact (hY.2 t1_q ht1a).1 | exact co0 hC9 | exact co2 hC9 | exact (hY9.2 t1_q ht1a).1 | exact hn8) rfl) dX7_judge_64 (cp_whyNotTold (k := k - 1) hT_q hr9_q (hQ9.sm hs9) (by omega) hB9_q _) ?_
    refine go_istore (lw := [_, _, _, _, _, _, _, _, _]) (pc := 67) dX7_judge_67 (by decide) rfl ?_
    refine go_iload (pc := 69) dX7_judge_69 rfl ?_
    refine go_if_ne (tgt := 83) (pc := 71) dX7_judge_71 (by decide) (fun h_71 => ?_) (fun h_71 => ?_)
    · refine go_goto (tgt := 36) (pc := 83) dX7_judge_83 (by decide) ?_
      first
        | (have g9_q : ¬ whyT K9_q (Nm (30 * t1_q + i_q)).toInt = 0 := h_71
           have hX : jdK (fun k => Nm (30 * t1_q + k)) M1 0 K = (nI i_q, whyT K9_q (Nm (30 * t1_q + i_q)).toInt, K9_q) := by rw [← hJ, jd_step hi_q, if_neg g9_q]
           refine go_iload (pc := 36) dX7_judge_36 rfl ?_
           refine go_aload (pc := 38) dX7_judge_38 rfl ?_
           refine go_getf (pc := 40) f_X7_227 dX7_judge_40 (by first | exact co0 hC | exact co4 hC | exact co2 hC | exact sr0 hT_q | exact sr0 hR_q | exact (hY.2 t1_q ht1a).1 | exact co0 hC9 | exact co2 hC9 | exact (hY9.2 t1_q ht1a).1 | exact hn8) (by rfl) ?_
           refine go_icmp_ge (tgt := 86) (pc := 43) dX7_judge_43 (by decide) (fun h_43 => by exfalso; rw [eM1] at h_43; exact absurd h_43 (nI_ge (by omega) (by omega))) (fun h_43 => ?_)
           refine go_iload (pc := 46) dX7_judge_46 rfl ?_
           refine go_if_ne (tgt := 86) (pc := 48) dX7_judge_48 (by decide) (fun h_48 => ?_) (fun h_48 => by exfalso; exact g9_q h_48)
           rcases (show j2_q = 0 ∨ j2_q = 1 ∨ j2_q = 2 ∨ j2_q = 3 by omega) with rfl | rfl | rfl | rfl
           · refine go_iload_n (pc := 86) dX7_judge_86 rfl ?_
             refine go_tableIn (off := 25) (tgt := 112) (pc := 87) dX7_judge_87 (by decide) (by decide) rfl (by decide) ?_
             refine go_iload (pc := 112) dX7_judge_112 rfl ?_
             refine go_if_ne (tgt := 121) (pc := 114) dX7_judge_114 (by decide) (fun h_114 => ?_) (fun h_114 => by exfalso; exact g9_q h_114)
             refine go_iload (pc := 121) dX7_judge_121 rfl ?_
             exact go_iretT (pc := 123) rfl dX7_judge_123 (Nat.le_of_ble_eq_true rfl) (Nat.le_of_ble_eq_true rfl) ⟨rfl, (by rw [hX]; rfl), rfl, hS_q.s0 hC.1 hf_q hT_q.T, hf_q.toS (fun q x_q y_q => by omega)⟩
           · refine go_iload_n (pc := 86) dX7_judge_86 rfl ?_
             refine go_tableIn (off := 37) (tgt := 124) (pc := 87) dX7_judge_87 (by decide) (by decide) rfl (by decide) ?_
             refine go_iload (pc := 124) dX7_judge_124 rfl ?_
             exact go_iretT (pc := 126) rfl dX7_judge_126 (Nat.le_of_ble_eq_true rfl) (Nat.le_of_ble_eq_true rfl) ⟨rfl, (by rw [hX]; rfl), rfl, hS_q.s0 hC.1 hf_q hT_q.T, hf_q.toS (fun q x_q y_q => by omega)⟩
           · refine go_iload_n (pc := 86) dX7_judge_86 rfl ?_
             refine go_tableIn (off := 40) (tgt := 127) (pc := 87) dX7_judge_87 (by decide) (by decide) rfl (by decide) ?_
             refine go_aload_n (pc := 127) dX7_judge_127 rfl ?_
             refine go_V0P (pc := 128) v_X7_242 rfl rfl (rcv_of (ci := 5) (by first | exact co0 hC | exact co4 hC | exact co2 hC | exact sr0 hT_q | exact sr0 hR_q | exact (hY.2 t1_q ht1a).1 | exact co0 hC9 | exact co2 hC9 | exact (hY9.2 t1_q ht1a).1 | exact hn8) rfl) dX7_judge_128 (cp_inFront (k := k - 1) hT_q hr9_q (hQ9.sm hs9) hB9_q (by omega)) ?_
             exact go_iretT (pc := 131) rfl dX7_judge_131 (Nat.le_of_ble_eq_true rfl) (Nat.le_of_ble_eq_true rfl) ⟨rfl, (by rw [hX]; rfl), rfl, hS_q.s0 hC.1 hf_q hT_q.T, hf_q.toS (fun q x_q y_q => by omega)⟩
           · refine go_iload_n (pc := 86) dX7_judge_86 rfl ?_
             refine go_tableOut (tgt := 132) (pc := 87) dX7_judge_87 (by decide) (by decide) ?_
             refine go_aload_n (pc := 132) dX7_judge_132 rfl ?_
             refine go_getf (pc := 133) f_X7_162 dX7_judge_133 (by first | exact co0 hC | exact co4 hC | exact co2 hC | exact sr0 hT_q | exact sr0 hR_q | exact (hY.2 t1_q ht1a).1 | exact co0 hC9 | exact co2 hC9 | exact (hY9.2 t1_q ht1a).1 | exact hn8) (by rfl) ?_
             exact go_iretT (pc := 136) rfl dX7_judge_136 (Nat.le_of_ble_eq_true rfl) (Nat.le_of_ble_eq_true rfl) ⟨rfl, (by rw [hX]; rfl), rfl, hS_q.s0 hC.1 hf_q hT_q.T, hf_q.toS (fun q x_q y_q => by omega)⟩)
        | (have g9_q : whyT K9_q (Nm (30 * t1_q + i_q)).toInt = 0 := g81
           rw [nI_1]
           exact ih_q _ _ _ ⟨_, _, _, _, _, _, _, rfl, hT_q, hr9_q, hQ9, hf_q, hs9.tr (do_same (by omega) g9_q), gS_do hg9_q (by omega) (by omega) g9_q, (by rw [← hJ, jd_step hi_q, if_pos g9_q]), rfl⟩)
    · have g81 : whyT K9_q (Nm (30 * t1_q + i_q)).toInt = 0 := h_71
      refine go_aload_n (pc := 74) dX7_judge_74 rfl ?_
      refine go_lload (pc := 75) dX7_judge_75 rfl ?_
      refine go_V1V (pc := 77) v_X7_238 rfl rfl (rcv_of (ci := 5) (by first | exact co0 hC | exact co4 hC | exact co2 hC | exact sr0 hT_q | exact sr0 hR_q | exact (hY.2 t1_q ht1a).1 | exact co0 hC9 | exact co2 hC9 | exact (hY9.2 t1_q ht1a).1 | exact hn8) rfl) dX7_judge_77 (cp_carryOut (k := k - 1) hT_q hr9_q (hQ9.sm hs9) hB9_q hg9_q (by omega) (by omega) (by omega) _ g81) (fun σ n h_q => ?_)
      obtain ⟨rfl, ⟨ch9, co9, rw9, bk9, hT_q, hr9_q⟩, hf1⟩ := h_q
      have hf_q := hf_q.tr hf1
      have hQ9 := hQ9.fr hf1 (by omega) (by omega)
      rw [g81]
      refine go_iinc (v := 1) (lw := [_, _, _, _, _, _, _, _, _]) (pc := 80) dX7_judge_80 rfl (by decide) (by decide) rfl ?_
      refine go_goto (tgt := 36) (pc := 83) dX7_judge_83 (by decide) ?_
      first
        | (have g9_q : ¬ whyT K9_q (Nm (30 * t1_q + i_q)).toInt = 0 := h_71
           have hX : jdK (fun k => Nm (30 * t1_q + k)) M1 0 K = (nI i_q, whyT K9_q (Nm (30 * t1_q + i_q)).toInt, K9_q) := by rw [← hJ, jd_step hi_q, if_neg g9_q]
           refine go_iload (pc := 36) dX7_judge_36 rfl ?_
           refine go_aload (pc := 38) dX7_judge_38 rfl ?_
           refine go_getf (pc := 40) f_X7_227 dX7_judge_40 (by first | exact co0 hC | exact co4 hC | exact co2 hC | exact sr0 hT_q | exact sr0 hR_q | exact (hY.2 t1_q ht1a).1 | exact co0 hC9 | exact co2 hC9 | exact (hY9.2 t1_q ht1a).1 | exact hn8) (by rfl) ?_
           refine go_icmp_ge (tgt := 86) (pc := 43) dX7_judge_43 (by decide) (fun h_43 => by exfalso; rw [eM1] at h_43; exact absurd h_43 (nI_ge (by omega) (by omega))) (fun h_43 => ?_)
           refine go_iload (pc := 46) dX7_judge_46 rfl ?_
           refine go_if_ne (tgt := 86) (pc := 48) dX7_judge_48 (by decide) (fun h_48 => ?_) (fun h_48 => by exfalso; exact g9_q h_48)
           rcases (show j2_q = 0 ∨ j2_q = 1 ∨ j2_q = 2 ∨ j2_q = 3 by omega) with rfl | rfl | rfl | rfl
           · refine go_iload_n (pc := 86) dX7_judge_86 rfl ?_
             refine go_tableIn (off := 25) (tgt := 112) (pc := 87) dX7_judge_87 (by decide) (by decide) rfl (by decide) ?_
             refine go_iload (pc := 112) dX7_judge_112 rfl ?_
             refine go_if_ne (tgt := 121) (pc := 114) dX7_judge_114 (by decide) (fun h_114 => ?_) (fun h_114 => by exfalso; exact g9_q h_114)
             refine go_iload (pc := 121) dX7_judge_121 rfl ?_
             exact go_iretT (pc := 123) rfl dX7_judge_123 (Nat.le_of_ble_eq_true rfl) (Nat.le_of_ble_eq_true rfl) ⟨rfl, (by rw [hX]; rfl), rfl, hS_q.s0 hC.1 hf_q hT_q.T, hf_q.toS (fun q x_q y_q => by omega)⟩
           · refine go_iload_n (pc := 86) dX7_judge_86 rfl ?_
             refine go_tableIn (off := 37) (tgt := 124) (pc := 87) dX7_judge_87 (by decide) (by decide) rfl (by decide) ?_
             refine go_iload (pc := 124) dX7_judge_124 rfl ?_
             exact go_iretT (pc := 126) rfl dX7_judge_126 (Nat.le_of_ble_eq_true rfl) (Nat.le_of_ble_eq_true rfl) ⟨rfl, (by rw [hX]; rfl), rfl, hS_q.s0 hC.1 hf_q hT_q.T, hf_q.toS (fun q x_q y_q => by omega)⟩
           · refine go_iload_n (pc := 86) dX7_judge_86 rfl ?_
             refine go_tableIn (off := 40) (tgt := 127) (pc := 87) dX7_judge_87 (by decide) (by decide) rfl (by decide) ?_
             refine go_aload_n (pc := 127) dX7_judge_127 rfl ?_
             refine go_V0P (pc := 128) v_X7_242 rfl rfl (rcv_of (ci := 5) (by first | exact co0 hC | exact co4 hC | exact co2 hC | exact sr0 hT_q | exact sr0 hR_q | exact (hY.2 t1_q ht1a).1 | exact co0 hC9 | exact co2 hC9 | exact (hY9.2 t1_q ht1a).1 | exact hn8) rfl) dX7_judge_128 (cp_inFront (k := k - 1) hT_q hr9_q (hQ9.sm hs9) hB9_q (by omega)) ?_
             exact go_iretT (pc := 131) rfl dX7_judge_131 (Nat.le_of_ble_eq_true rfl) (Nat.le_of_ble_eq_true rfl) ⟨rfl, (by rw [hX]; rfl), rfl, hS_q.s0 hC.1 hf_q hT_q.T, hf_q.toS (fun q x_q y_q => by omega)⟩
           · refine go_iload_n (pc := 86) dX7_judge_86 rfl ?_
             refine go_tableOut (tgt := 132) (pc := 87) dX7_judge_87 (by decide) (by decide) ?_
             refine go_aload_n (pc := 132) dX7_judge_132 rfl ?_
             refine go_getf (pc := 133) f_X7_162 dX7_judge_133 (by first | exact co0 hC | exact co4 hC | exact co2 hC | exact sr0 hT_q | exact sr0 hR_q | exact (hY.2 t1_q ht1a).1 | exact co0 hC9 | exact co2 hC9 | exact (hY9.2 t1_q ht1a).1 | exact hn8) (by rfl) ?_
             exact go_iretT (pc := 136) rfl dX7_judge_136 (Nat.le_of_ble_eq_true rfl) (Nat.le_of_ble_eq_true rfl) ⟨rfl, (by rw [hX]; rfl), rfl, hS_q.s0 hC.1 hf_q hT_q.T, hf_q.toS (fun q x_q y_q => by omega)⟩)
        | (have g9_q : whyT K9_q (Nm (30 * t1_q + i_q)).toInt = 0 := g81
           rw [nI_1]
           exact ih_q _ _ _ ⟨_, _, _, _, _, _, _, rfl, hT_q, hr9_q, hQ9, hf_q, hs9.tr (do_same (by omega) g9_q), gS_do hg9_q (by omega) (by omega) g9_q, (by rw [← hJ, jd_step hi_q, if_pos g9_q]), rfl⟩)
  · rintro lv9 σ n9 ⟨K9_q, w9_q, ch9, co9, rw9, bk9, x7_q, rfl, hT_q, hr9_q, hQ9, hf_q, hs9, hg9_q, hJ, rfl⟩
    have hB9_q := hs9.okB hB_q
    have eP_q := hs9.P
    have eH_q := hs9.H
    have hC9 := hC.fs (hf_q.toS (S := scr a) (fun q x_q y_q => by omega)) (fun q x_q => by omega)
    have hY9 := hY.fs (hf_q.toS (S := scr a) (fun q x_q y_q => by omega)) (fun q x_q y_q z_q => by omega)
    obtain ⟨fN, hn8, hn9⟩ := (hY9.2 t1_q ht1a).2
    refine go_iload (pc := 36) dX7_judge_36 rfl ?_
    refine go_aload (pc := 38) dX7_judge_38 rfl ?_
    refine go_getf (pc := 40) f_X7_227 dX7_judge_40 (by first | exact co0 hC | exact co4 hC | exact co2 hC | exact sr0 hT_q | exact sr0 hR_q | exact (hY.2 t1_q ht1a).1 | exact co0 hC9 | exact co2 hC9 | exact (hY9.2 t1_q ht1a).1 | exact hn8) (by rfl) ?_
    refine go_icmp_ge (tgt := 86) (pc := 43) dX7_judge_43 (by decide) (fun h_43 => ?_) (fun h_43 => by exfalso; rw [eM1] at h_43; exact h_43 (nI_le (by omega) (by omega)))
    have hX : jdK (fun k => Nm (30 * t1_q + k)) M1 0 K = (-1, 0, K9_q) := by rw [← hJ, Nat.sub_self]; rfl
    rcases (show j2_q = 0 ∨ j2_q = 1 ∨ j2_q = 2 ∨ j2_q = 3 by omega) with rfl | rfl | rfl | rfl
    · refine go_iload_n (pc := 86) dX7_judge_86 rfl ?_
      refine go_tableIn (off := 25) (tgt := 112) (pc := 87) dX7_judge_87 (by decide) (by decide) rfl (by decide) ?_
      refine go_iload (pc := 112) dX7_judge_112 rfl ?_
      refine go_if_ne (tgt := 121) (pc := 114) dX7_judge_114 (by decide) (fun h_114 => by exfalso; exact h_114 (by decide)) (fun h_114 => ?_)
      refine go_iconst (v := -1) (pc := 117) dX7_judge_117 (by decide) ?_
      refine go_goto (tgt := 123) (pc := 118) dX7_judge_118 (by decide) ?_
      exact go_iretT (pc := 123) rfl dX7_judge_123 (Nat.le_of_ble_eq_true rfl) (Nat.le_of_ble_eq_true rfl) ⟨rfl, (by rw [hX]; rfl), rfl, hS_q.s0 hC.1 hf_q hT_q.T, hf_q.toS (fun q x_q y_q => by omega)⟩
    · refine go_iload_n (pc := 86) dX7_judge_86 rfl ?_
      refine go_tableIn (off := 37) (tgt := 124) (pc := 87) dX7_judge_87 (by decide) (by decide) rfl (by decide) ?_
      refine go_iload (pc := 124) dX7_judge_124 rfl ?_
      exact go_iretT (pc := 126) rfl dX7_judge_126 (Nat.le_of_ble_eq_true rfl) (Nat.le_of_ble_eq_true rfl) ⟨rfl, (by rw [hX]; rfl), rfl, hS_q.s0 hC.1 hf_q hT_q.T, hf_q.toS (fun q x_q y_q => by omega)⟩
    · refine go_iload_n (pc := 86) dX7_judge_86 rfl ?_
      refine go_tableIn (off := 40) (tgt := 127) (pc := 87) dX7_judge_87 (by decide) (by decide) rfl (by decide) ?_
      refine go_aload_n (pc := 127) dX7_judge_127 rfl ?_
      refine go_V0P (pc := 128) v_X7_242 rfl rfl (rcv_of (ci := 5) (by first | exact co0 hC | exact co4 hC | exact co2 hC | exact sr0 hT_q | exact sr0 hR_q | exact (hY.2 t1_q ht1a).1 | exact co0 hC9 | exact co2 hC9 | exact (hY9.2 t1_q ht1a).1 | exact hn8) rfl) dX7_judge_128 (cp_inFront (k := k - 1) hT_q hr9_q (hQ9.sm hs9) hB9_q (by omega)) ?_
      exact go_iretT (pc := 131) rfl dX7_judge_131 (Nat.le_of_ble_eq_true rfl) (Nat.le_of_ble_eq_true rfl) ⟨rfl, (by rw [hX]; rfl), rfl, hS_q.s0 hC.1 hf_q hT_q.T, hf_q.toS (fun q x_q y_q => by omega)⟩
    · refine go_iload_n (pc := 86) dX7_judge_86 rfl ?_
      refine go_tableOut (tgt := 132) (pc := 87) dX7_judge_87 (by decide) (by decide) ?_
      refine go_aload_n (pc := 132) dX7_judge_132 rfl ?_
      refine go_getf (pc := 133) f_X7_162 dX7_judge_133 (by first | exact co0 hC | exact co4 hC | exact co2 hC | exact sr0 hT_q | exact sr0 hR_q | exact (hY.2 t1_q ht1a).1 | exact co0 hC9 | exact co2 hC9 | exact (hY9.2 t1_q ht1a).1 | exact hn8) (by rfl) ?_
      exact go_iretT (pc := 136) rfl dX7_judge_136 (Nat.le_of_ble_eq_true rfl) (Nat.le_of_ble_eq_true rfl) ⟨rfl, (by rw [hX]; rfl), rfl, hS_q.s0 hC.1 hf_q hT_q.T, hf_q.toS (fun q x_q y_q => by omega)⟩
theorem cp_perform {Γ : gam} {D : Nat} {ro : Nat → Nat} {z0 : sto} {n k a b_q f_q d_q : Nat} {w : Int32} {K ag pa pf ch co rw bk G : row} {im : Nat → Option Nat} {lm lt lw : Value} (hC : CoAt Γ ro z0 a G im) (hR_q : SrAt Γ ro z0 (a + 14) b_q w (K 33) ch co rw bk) (hr_q : rS K ch co rw bk) (hw_q : w = K 32) (hQ_q : BrAt Γ D ro z0 b_q K ag pa pf lm lt lw) (hB_q : okB K) (hg_q : gS K) (hH : HiAt Γ ro z0 (a + 19) b_q f_q d_q K) (hD : a + 113 < D) (hsb : b_q = a + 10 ∨ a + 113 < b_q) {g_q m : row} {Nm : Nat → Int64} (hY : TyAt Γ ro z0 a g_q m Nm) (hT4 : okT g_q m) (hk : 14 ≤ k) (z_q : Int32) : Sp Γ (rmk k 4 24) uX7_perform [.ref a, .int z_q] z0 n (qT (qI fun v_q σ' n' => (aPerform K g_q m Nm z_q.toInt).1 = 0 ∧ v_q = (aPerform K g_q m Nm z_q.toInt).2.1 ∧ n' = n ∧ StAt Γ ro σ' a b_q (aPerform K g_q m Nm z_q.toInt).2.2 ∧ frS Γ ro (dS a) z0 σ') (fun x_q σ' n' => exL [eNS, eIS] (aPerform K g_q m Nm z_q.toInt).1 x_q ∧ σ' = z0 ∧ n ≤ n')) := by
  have hP8 := hB_q.1.2.1
  have hH5 := hB_q.1.2.2.2.1
  have hW4 := hB_q.1.2.2.2.2.2
  refine sp_intro [some (.ref a), some (.int z_q), none, none] (by decide +kernel) rfl (Nat.le_of_ble_eq_true rfl) rfl ?_
  refine go_aload_n (pc := 0) dX7_perform_0 rfl ?_
  refine go_iload_n (pc := 1) dX7_perform_1 rfl ?_
  refine go_V1Vx (pc := 2) v_X7_217 rfl rfl (rcv_of (ci := 7) (by first | exact co0 hC | exact co2 hC | exact (hY.2 t1_q ht1a).1 | exact co0 hC9 | exact (hY9.2 t1_q ht1a).1 | exact hn8) rfl) dX7_perform_2 (cp_needTray (k := k - 1) (by omega) _) (fun x_q σx nx hx_q => by obtain ⟨h9_q, rfl, rfl, h8_q⟩ := hx_q; exact Or.inr ⟨_, rfl, ⟨0, (by rw [show aPerform K g_q m Nm z_q.toInt = (1, 0, K) from by have e9_q : tyF g_q z_q.toInt = 1 := (by simp only [tyF, h9_q]); rw [aPerform, e9_q, if_pos (by decide)]]; rfl), rfl⟩, rfl, h8_q⟩) (fun σ n h_q => ?_)
  obtain ⟨⟨t1_q, ht1, rfl, ht1a⟩, rfl, rfl⟩ := h_q
  refine go_aload_n (pc := 5) dX7_perform_5 rfl ?_
  refine go_iload_n (pc := 6) dX7_perform_6 rfl ?_
  refine go_V1Vx (pc := 7) v_X7_220 rfl rfl (rcv_of (ci := 7) (by first | exact co0 hC | exact co2 hC | exact (hY.2 t1_q ht1a).1 | exact co0 hC9 | exact (hY9.2 t1_q ht1a).1 | exact hn8) rfl) dX7_perform_7 (cp_needLaid (k := k - 1) hC hY ht1a (by omega)) (fun x_q σx nx hx_q => by obtain ⟨h9_q, rfl, rfl, h8_q⟩ := hx_q; exact Or.inr ⟨_, rfl, ⟨1, (by rw [show aPerform K g_q m Nm (nI t1_q).toInt = (2, 0, K) from by have e9_q : tyF g_q (nI t1_q).toInt = 2 := (by simp only [tyF, ht1]; rw [if_pos h9_q]); rw [aPerform, e9_q, if_pos (by decide)]]; rfl), rfl⟩, rfl, h8_q⟩) (fun σ n h_q => ?_)
  obtain ⟨hl9, rfl, rfl⟩ := h_q
  have e1_q : (nI t1_q).toInt.toNat = t1_q := by rw [nI_toInt (by omega)]; rfl
  have h0_q : tyF g_q (nI t1_q).toInt = 0 := by simp only [tyF, ht1]; rw [if_neg hl9]
  obtain ⟨⟨M1, hM1, eM1⟩, hg1⟩ := hT4 t1_q ht1a
  have hA9 : aPerform K g_q m Nm (nI t1_q).toInt = (0, nI (pfK (fun k => Nm (30 * t1_q + k)) M1 0 K).1, (pfK (fun k => Nm (30 * t1_q + k)) M1 0 K).2) := by
    rw [aPerform, if_neg (fun hc_q => hc_q h0_q), e1_q, eM1, nI_clamp (by omega)]
  rw [hA9]
  refine go_aload_n (pc := 10) dX7_perform_10 rfl ?_
  refine go_getf (pc := 11) f_X7_25 dX7_perform_11 (by first | exact co0 hC | exact co2 hC | exact (hY.2 t1_q ht1a).1 | exact co0 hC9 | exact (hY9.2 t1_q ht1a).1 | exact hn8) (by rfl) ?_
  refine go_iload_n (pc := 14) dX7_perform_14 rfl ?_
  refine go_aaload (pc := 15) dX7_perform_15 (by first | exact co0 hC | exact co2 hC | exact (hY.2 t1_q ht1a).1 | exact co0 hC9 | exact (hY9.2 t1_q ht1a).1 | exact hn8) rfl (vp_in_nI (n := t1_q) (N := 4) (by omega) (by decide)) (show some (a + 81 + 2 * (nI (t1_q)).toNatClampNeg) = some (a + 81 + 2 * (t1_q)) from by rw [nI_clamp (by omega)]) ?_
  refine go_astore_n (lw := [_, _, _, _]) (pc := 16) dX7_perform_16 (by decide) rfl ?_
  refine go_iconst (v := 0) (pc := 17) dX7_perform_17 (by decide) ?_
  refine go_istore_n (lw := [_, _, _, _]) (pc := 18) dX7_perform_18 (by decide) rfl ?_
  refine go_iter (M1) (fun i_q lv9 s9 n9 => ∃ (K9_q : row), lv9 = [some (.ref a), some (.int (nI t1_q)), some (.ref (a + 81 + 2 * t1_q)), some (.int (nI i_q))] ∧ (StAt Γ ro s9 a b_q K9_q) ∧ (frS Γ ro (dS a) z0 s9) ∧ (sameL K K9_q) ∧ (gS K9_q) ∧ (pfK (fun k => Nm (30 * t1_q + k)) (M1 - i_q) i_q K9_q = pfK (fun k => Nm (30 * t1_q + k)) M1 0 K) ∧ n = n9) ⟨K, rfl, (St_0 hR_q hr_q hw_q hH), frS.rf, sameL.rf, hg_q, rfl, rfl⟩ ?_ ?_
  · rintro i_q lv9 σ n9 hi_q ⟨K9_q, rfl, hSt, hfX, sL, hg9_q, hJ, rfl⟩ ih_q
    have hB9_q := sL.oB hB_q
    have eP_q := sL.P
    have eH_q := sL.H
    have hC9 := hC.fs hfX (fun q x_q z_q => by omega)
    have hQ9 := (hQ_q.fs hfX (fun q x_q z_q => by omega) (fun q x_q y_q z_q => by omega)).sl sL hP8
    have hY9 := hY.fs hfX (fun q x_q y_q z_q => by omega)
    obtain ⟨fN, hn8, hn9⟩ := (hY9.2 t1_q ht1a).2
    obtain ⟨⟨ch9, co9, rw9, bk9, hR9, hr9_q⟩, f9, d9_q, hH9⟩ := hSt
    refine go_iload_n (pc := 19) dX7_perform_19 rfl ?_
    refine go_aload_n (pc := 20) dX7_perform_20 rfl ?_
    refine go_getf (pc := 21) f_X7_227 dX7_perform_21 (by first | exact co0 hC | exact co2 hC | exact (hY.2 t1_q ht1a).1 | exact co0 hC9 | exact (hY9.2 t1_q ht1a).1 | exact hn8) (by rfl) ?_
    refine go_icmp_ge (tgt := 46) (pc := 24) dX7_perform_24 (by decide) (fun h_24 => by exfalso; rw [eM1] at h_24; exact absurd h_24 (nI_ge (by omega) (by omega))) (fun h_24 => ?_)
    refine go_aload_n (pc := 27) dX7_perform_27 rfl ?_
    refine go_aload_n (pc := 28) dX7_perform_28 rfl ?_
    refine go_getf (pc := 29) f_X7_230 dX7_perform_29 (by first | exact co0 hC | exact co2 hC | exact (hY.2 t1_q ht1a).1 | exact co0 hC9 | exact (hY9.2 t1_q ht1a).1 | exact hn8) (by rfl) ?_
    refine go_iload_n (pc := 32) dX7_perform_32 rfl ?_
    refine go_lald (pc := 33) dX7_perform_33 (by first | exact co0 hC | exact co2 hC | exact (hY.2 t1_q ht1a).1 | exact co0 hC9 | exact (hY9.2 t1_q ht1a).1 | exact hn8) (by exact ⟨rfl, by omega⟩) ?_
    rw [hn9 i_q (by omega)]
    refine go_V1I (pc := 34) v_X7_245 rfl rfl (rcv_of (ci := 7) (by first | exact co0 hC | exact co2 hC | exact (hY.2 t1_q ht1a).1 | exact co0 hC9 | exact (hY9.2 t1_q ht1a).1 | exact hn8) rfl) dX7_perform_34 (cp_performed (k := k - 1) hC9 hR9 hr9_q rfl hQ9 hB9_q hg9_q hH9 hD hsb (by omega) _) (fun v_34 σ n h_q => ?_)
    obtain ⟨rfl, rfl, hSt, hf1⟩ := h_q
    have hfX := hfX.tr hf1
    refine go_if_eq (tgt := 46) (pc := 37) dX7_perform_37 (by decide) (fun h_37 => ?_) (fun h_37 => ?_)
    · refine go_iload_n (pc := 46) dX7_perform_46 rfl ?_
      exact go_iretT (pc := 47) rfl dX7_perform_47 (Nat.le_of_ble_eq_true rfl) (Nat.le_of_ble_eq_true rfl) (by
  have g9_q : ¬ whyT K9_q (Nm (30 * t1_q + i_q)).toInt = 0 := bI_0.mp h_37
  have hX : pfK (fun k => Nm (30 * t1_q + k)) M1 0 K = (i_q, K9_q) := by rw [← hJ, pf_step hi_q, if_neg g9_q]
  rw [if_neg g9_q] at hSt
  rw [hX]
  exact ⟨rfl, rfl, rfl, hSt, hfX⟩)
    · refine go_iinc (v := 1) (lw := [_, _, _, _]) (pc := 40) dX7_perform_40 rfl (by decide) (by decide) rfl ?_
      refine go_goto (tgt := 19) (pc := 43) dX7_perform_43 (by decide) ?_
      have g9_q : whyT K9_q (Nm (30 * t1_q + i_q)).toInt = 0 := Decidable.not_not.mp (fun hc_q => h_37 (bI_0.mpr hc_q))
      rw [if_pos g9_q] at hSt
      have sU := keepK_same hH9.2.1.2.2 hH9.2.1.2.1
      have g8_q : whyT (keepK K9_q) (Nm (30 * t1_q + i_q)).toInt = 0 := by rw [whyT_U sU (by omega)]; exact g9_q
      have eP2 := sU.P
      have eH2 := sU.H
      rw [nI_1]
      exact ih_q _ _ _ ⟨_, rfl, hSt, hfX, sL.tr (sU.L.tr (do_same (by omega) g8_q).L), gS_do (gS_eq hg9_q (by omega) (fun j hj_q => sU j (by omega))) (by omega) (by omega) g8_q, (by rw [← hJ, pf_step hi_q, if_pos g9_q]), rfl⟩
  · rintro lv9 σ n9 ⟨K9_q, rfl, hSt, hfX, sL, hg9_q, hJ, rfl⟩
    have hB9_q := sL.oB hB_q
    have eP_q := sL.P
    have eH_q := sL.H
    have hC9 := hC.fs hfX (fun q x_q z_q => by omega)
    have hQ9 := (hQ_q.fs hfX (fun q x_q z_q => by omega) (fun q x_q y_q z_q => by omega)).sl sL hP8
    have hY9 := hY.fs hfX (fun q x_q y_q z_q => by omega)
    obtain ⟨fN, hn8, hn9⟩ := (hY9.2 t1_q ht1a).2
    refine go_iload_n (pc := 19) dX7_perform_19 rfl ?_
    refine go_aload_n (pc := 20) dX7_perform_20 rfl ?_
    refine go_getf (pc := 21) f_X7_227 dX7_perform_21 (by first | exact co0 hC | exact co2 hC | exact (hY.2 t1_q ht1a).1 | exact co0 hC9 | exact (hY9.2 t1_q ht1a).1 | exact hn8) (by rfl) ?_
    refine go_icmp_ge (tgt := 46) (pc := 24) dX7_perform_24 (by decide) (fun h_24 => ?_) (fun h_24 => by exfalso; rw [eM1] at h_24; exact h_24 (nI_le (by omega) (by omega)))
    refine go_iload_n (pc := 46) dX7_perform_46 rfl ?_
    exact go_iretT (pc := 47) rfl dX7_perform_47 (Nat.le_of_ble_eq_true rfl) (Nat.le_of_ble_eq_true rfl) (by
  have hX : pfK (fun k => Nm (30 * t1_q + k)) M1 0 K = (M1, K9_q) := by rw [← hJ, Nat.sub_self]; rfl
  rw [hX]
  exact ⟨rfl, rfl, rfl, hSt, hfX⟩)
theorem cp_draw {Γ : gam} {ro : Nat → Nat} {z0 : sto} {n k a : Nat} {G : row} {im : Nat → Option Nat} (hC : CoAt Γ ro z0 a G im)  : Sp Γ (rmk k 0 0) uX7_draw [.ref a] z0 n (qI fun v_q σ' n' => v_q = nI (drV (drS (G 15))) ∧ n' = n ∧ CoAt Γ ro σ' a (upd G 15 (drS (G 15))) im ∧ ∀ q, q ≠ a → σ' q = z0 q) := by
  refine sp_intro [some (.ref a)] (by decide +kernel) rfl (Nat.le_of_ble_eq_true rfl) rfl ?_
  refine go_aload_n (pc := 0) dX7_draw_0 rfl ?_
  refine go_ldcw (pc := 1) kw4_223 dX7_draw_1 ?_
  refine go_aload_n (pc := 4) dX7_draw_4 rfl ?_
  refine go_getf (pc := 5) f_X7_56 dX7_draw_5 (by first | exact co0 hC | exact sup_eq) (by rfl) ?_
  refine go_imul (pc := 8) dX7_draw_8 ?_
  refine go_sipush (v := 12345) (pc := 9) dX7_draw_9 (by decide) ?_
  refine go_iadd (pc := 12) dX7_draw_12 ?_
  refine go_putf (fs' := cfs _ (upd _ 15 _)) (pc := 13) f_X7_56 dX7_draw_13 (co0 hC) (Nat.le_of_ble_eq_true rfl) (by exact cf15) rfl rfl ?_
  skip
  rw [show 1103515245 * G 15 + 12345 = drS (G 15) from rfl]
  refine go_aload_n (pc := 16) dX7_draw_16 rfl ?_
  refine go_getf (pc := 17) f_X7_56 dX7_draw_17 (by first | exact co0 hC | exact sup_eq) (by rfl) ?_
  refine go_bipush (v := 16) (pc := 20) dX7_draw_20 (by decide) ?_
  refine go_iushr (pc := 22) dX7_draw_22 ?_
  exact go_iretI (pc := 23) rfl dX7_draw_23 (Nat.le_of_ble_eq_true rfl) (Nat.le_of_ble_eq_true rfl) ⟨dr_ush _, rfl, hC.setG, fun q hq_q => sup_ne hq_q rfl⟩
theorem cp_drawnDeed {Γ : gam} {ro : Nat → Nat} {z0 : sto} {n k a : Nat} {G : row} {im : Nat → Option Nat} (hC : CoAt Γ ro z0 a G im) (hk : 2 ≤ k) : Sp Γ (rmk k 0 0) uX7_drawnDeed [.ref a] z0 n (qI fun v_q σ' n' => v_q.toInt = (drD (G 15)).1 ∧ n' = n ∧ ∃ G', CoAt Γ ro σ' a G' im ∧ G' 15 = (drD (G 15)).2 ∧ (∀ j, j ≠ 15 → G' j = G j) ∧ ∀ q, q ≠ a → σ' q = z0 q) := by
  refine sp_intro [some (.ref a), none, none] (by decide +kernel) rfl (Nat.le_of_ble_eq_true rfl) rfl ?_
  refine go_aload_n (pc := 0) dX7_drawnDeed_0 rfl ?_
  refine go_V0I (pc := 1) v_X7_397 rfl rfl (rcv_of (ci := 7) (by exact co0 hC) rfl) dX7_drawnDeed_1 (cp_draw (k := k - 1) hC) (fun v_1 σ n h_q => ?_)
  obtain ⟨rfl, rfl, hC, hq1⟩ := h_q
  have l1 := drV_lt (drS (G 15))
  refine go_iconst (v := 5) (pc := 4) dX7_drawnDeed_4 (by decide) ?_
  refine go_irem (pc := 5) dX7_drawnDeed_5 (by decide) ?_
  rw [show nI (drV (drS (G 15))) - nI (drV (drS (G 15))) / 5 * 5 = nI (drV (drS (G 15)) % 5) from pk_rem (d := 5) (by omega) (by omega) (by omega)]
  refine go_istore_n (lw := [_, _, _]) (pc := 6) dX7_drawnDeed_6 (by decide) rfl ?_
  refine go_iload_n (pc := 7) dX7_drawnDeed_7 rfl ?_
  refine go_iconst (v := 2) (pc := 8) dX7_drawnDeed_8 (by decide) ?_
  refine go_icmp_ge (tgt := 14) (pc := 9) dX7_drawnDeed_9 (by decide) (fun h_9 => ?_) (fun h_9 => ?_)
  · have g2_q : 2 ≤ drV (drS (G 15)) % 5 := (nI_leI (a := 2) (by decide) (by omega)).mp h_9
    refine go_aload_n (pc := 14) dX7_drawnDeed_14 rfl ?_
    refine go_V0I (pc := 15) v_X7_397 rfl rfl (rcv_of (ci := 7) (by exact co0 hC) rfl) dX7_drawnDeed_15 (cp_draw (k := k - 1) hC) (fun v_15 σ n h_q => ?_)
    obtain ⟨rfl, rfl, hC, hq2⟩ := h_q
    rw [pk_us] at hC
    rw [pk_us]
    have l2 := drV_lt (drS (drS (G 15)))
    refine go_bipush (v := 8) (pc := 18) dX7_drawnDeed_18 (by decide) ?_
    refine go_irem (pc := 20) dX7_drawnDeed_20 (by decide) ?_
    rw [show nI (drV (drS (drS (G 15)))) - nI (drV (drS (drS (G 15)))) / 8 * 8 = nI (drV (drS (drS (G 15))) % 8) from pk_rem (d := 8) (by omega) (by omega) (by omega)]
    refine go_istore_n (lw := [_, _, _]) (pc := 21) dX7_drawnDeed_21 (by decide) rfl ?_
    refine go_iload_n (pc := 22) dX7_drawnDeed_22 rfl ?_
    refine go_iconst (v := 2) (pc := 23) dX7_drawnDeed_23 (by decide) ?_
    refine go_icmp_ne (tgt := 29) (pc := 24) dX7_drawnDeed_24 (by decide) (fun h_24 => ?_) (fun h_24 => ?_)
    · refine go_iload_n (pc := 29) dX7_drawnDeed_29 rfl ?_
      refine go_iconst (v := 3) (pc := 30) dX7_drawnDeed_30 (by decide) ?_
      refine go_icmp_ne (tgt := 51) (pc := 31) dX7_drawnDeed_31 (by decide) (fun h_31 => ?_) (fun h_31 => ?_)
      · refine go_sipush (v := 200) (pc := 51) dX7_drawnDeed_51 (by decide) ?_
        refine go_bipush (v := 10) (pc := 54) dX7_drawnDeed_54 (by decide) ?_
        refine go_iload_n (pc := 56) dX7_drawnDeed_56 rfl ?_
        refine go_imul (pc := 57) dX7_drawnDeed_57 ?_
        refine go_iadd (pc := 58) dX7_drawnDeed_58 ?_
        refine go_aload_n (pc := 59) dX7_drawnDeed_59 rfl ?_
        refine go_V0I (pc := 60) v_X7_397 rfl rfl (rcv_of (ci := 7) (by exact co0 hC) rfl) dX7_drawnDeed_60 (cp_draw (k := k - 1) hC) (fun v_60 σ n h_q => ?_)
        obtain ⟨rfl, rfl, hC, hq3⟩ := h_q
        rw [pk_us] at hC
        rw [pk_us]
        have l3 := drV_lt (drS (drS (drS (G 15))))
        refine go_bipush (v := 8) (pc := 63) dX7_drawnDeed_63 (by decide) ?_
        refine go_irem (pc := 65) dX7_drawnDeed_65 (by decide) ?_
        rw [show nI (drV (drS (drS (drS (G 15))))) - nI (drV (drS (drS (drS (G 15))))) / 8 * 8 = nI (drV (drS (drS (drS (G 15)))) % 8) from pk_rem (d := 8) (by omega) (by omega) (by omega)]
        refine go_iadd (pc := 66) dX7_drawnDeed_66 ?_
        exact go_iretI (pc := 67) rfl dX7_drawnDeed_67 (Nat.le_of_ble_eq_true rfl) (Nat.le_of_ble_eq_true rfl) (by
  have n2 : drV (drS (G 15)) % 5 ≠ 2 := fun e_q => h_24 (by rw [e_q]; rfl)
  first
    | (have g3_q : ¬ nI (drV (drS (G 15)) % 5) = 3 := h_31
       have n3 : drV (drS (G 15)) % 5 ≠ 3 := fun e_q => g3_q (by rw [e_q]; rfl)
       have hb_q := drD_b (s := G 15) (w1_q := drV (drS (G 15)) % 5) (v := nI (200 + 10 * (drV (drS (drS (G 15))) % 8) + drV (drS (drS (drS (G 15)))) % 8)) (t := drS (drS (drS (G 15)))) rfl g2_q rfl (by rw [if_neg n2, if_neg n3]) (by rw [if_neg n2])
       refine ⟨?_, rfl, _, hC, by rw [pk_us]; exact hb_q.2, (fun j hj_q => by rw [pk_un hj_q, pk_un hj_q, pk_un hj_q]), fun q hq_q => (hq3 q hq_q).trans ((hq2 q hq_q).trans (hq1 q hq_q))⟩
       exact Eq.trans (congrArg Int32.toInt (drn_i (m := 200) rfl)) hb_q.1)
    | (have g3_q : nI (drV (drS (G 15)) % 5) = 3 := h_31
       have n3 : drV (drS (G 15)) % 5 = 3 := (nI_eq (b := 3) (by omega) (by decide)).mp g3_q
       have hb_q := drD_b (s := G 15) (w1_q := 3) (v := nI (100 + 10 * (drV (drS (drS (G 15))) % 8) + drV (drS (drS (drS (G 15)))) % 4)) (t := drS (drS (drS (G 15)))) n3 (by omega) rfl (by simp) (by simp)
       refine ⟨?_, rfl, _, hC, by rw [pk_us]; exact hb_q.2, (fun j hj_q => by rw [pk_un hj_q, pk_un hj_q, pk_un hj_q]), fun q hq_q => (hq3 q hq_q).trans ((hq2 q hq_q).trans (hq1 q hq_q))⟩
       exact Eq.trans (congrArg Int32.toInt (drn_i (m := 100) rfl)) hb_q.1))
      · refine go_bipush (v := 100) (pc := 34) dX7_drawnDeed_34 (by decide) ?_
        refine go_bipush (v := 10) (pc := 36) dX7_drawnDeed_36 (by decide) ?_
        refine go_iload_n (pc := 38) dX7_drawnDeed_38 rfl ?_
        refine go_imul (pc := 39) dX7_drawnDeed_39 ?_
        refine go_iadd (pc := 40) dX7_drawnDeed_40 ?_
        refine go_aload_n (pc := 41) dX7_drawnDeed_41 rfl ?_
        refine go_V0I (pc := 42) v_X7_397 rfl rfl (rcv_of (ci := 7) (by exact co0 hC) rfl) dX7_drawnDeed_42 (cp_draw (k := k - 1) hC) (fun v_42 σ n h_q => ?_)
        obtain ⟨rfl, rfl, hC, hq3⟩ := h_q
        rw [pk_us] at hC
        rw [pk_us]
        have l3 := drV_lt (drS (drS (drS (G 15))))
        refine go_iconst (v := 4) (pc := 45) dX7_drawnDeed_45 (by decide) ?_
        refine go_irem (pc := 46) dX7_drawnDeed_46 (by decide) ?_
        rw [show nI (drV (drS (drS (drS (G 15))))) - nI (drV (drS (drS (drS (G 15))))) / 4 * 4 = nI (drV (drS (drS (drS (G 15)))) % 4) from pk_rem (d := 4) (by omega) (by omega) (by omega)]
        refine go_iadd (pc := 47) dX7_drawnDeed_47 ?_
        refine go_goto (tgt := 67) (pc := 48) dX7_drawnDeed_48 (by decide) ?_
        exact go_iretI (pc := 67) rfl dX7_drawnDeed_67 (Nat.le_of_ble_eq_true rfl) (Nat.le_of_ble_eq_true rfl) (by
  have n2 : drV (drS (G 15)) % 5 ≠ 2 := fun e_q => h_24 (by rw [e_q]; rfl)
  first
    | (have g3_q : ¬ nI (drV (drS (G 15)) % 5) = 3 := h_31
       have n3 : drV (drS (G 15)) % 5 ≠ 3 := fun e_q => g3_q (by rw [e_q]; rfl)
       have hb_q := drD_b (s := G 15) (w1_q := drV (drS (G 15)) % 5) (v := nI (200 + 10 * (drV (drS (drS (G 15))) % 8) + drV (drS (drS (drS (G 15)))) % 8)) (t := drS (drS (drS (G 15)))) rfl g2_q rfl (by rw [if_neg n2, if_neg n3]) (by rw [if_neg n2])
       refine ⟨?_, rfl, _, hC, by rw [pk_us]; exact hb_q.2, (fun j hj_q => by rw [pk_un hj_q, pk_un hj_q, pk_un hj_q]), fun q hq_q => (hq3 q hq_q).trans ((hq2 q hq_q).trans (hq1 q hq_q))⟩
       exact Eq.trans (congrArg Int32.toInt (drn_i (m := 200) rfl)) hb_q.1)
    | (have g3_q : nI (drV (drS (G 15)) % 5) = 3 := h_31
       have n3 : drV (drS (G 15)) % 5 = 3 := (nI_eq (b := 3) (by omega) (by decide)).mp g3_q
       have hb_q := drD_b (s := G 15) (w1_q := 3) (v := nI (100 + 10 * (drV (drS (drS (G 15))) % 8) + drV (drS (drS (drS (G 15)))) % 4)) (t := drS (drS (drS (G 15)))) n3 (by omega) rfl (by simp) (by simp)
       refine ⟨?_, rfl, _, hC, by rw [pk_us]; exact hb_q.2, (fun j hj_q => by rw [pk_un hj_q, pk_un hj_q, pk_un hj_q]), fun q hq_q => (hq3 q hq_q).trans ((hq2 q hq_q).trans (hq1 q hq_q))⟩
       exact Eq.trans (congrArg Int32.toInt (drn_i (m := 100) rfl)) hb_q.1))
    · refine go_iload_n (pc := 27) dX7_drawnDeed_27 rfl ?_
      exact go_iretI (pc := 28) rfl dX7_drawnDeed_28 (Nat.le_of_ble_eq_true rfl) (Nat.le_of_ble_eq_true rfl) (by
  have g3_q : drV (drS (G 15)) % 5 = 2 := (nI_eq (b := 2) (by omega) (by decide)).mp h_24
  have hb_q := drD_b (s := G 15) (w1_q := 2) (v := nI (drV (drS (drS (G 15))) % 8)) (t := drS (drS (G 15))) g3_q (by omega) rfl (by simp) (by simp)
  exact ⟨hb_q.1, rfl, _, hC, by rw [pk_us]; exact hb_q.2, (fun j hj_q => by rw [pk_un hj_q, pk_un hj_q]), fun q hq_q => (hq2 q hq_q).trans (hq1 q hq_q)⟩)
  · refine go_iconst (v := -1) (pc := 12) dX7_drawnDeed_12 (by decide) ?_
    exact go_iretI (pc := 13) rfl dX7_drawnDeed_13 (Nat.le_of_ble_eq_true rfl) (Nat.le_of_ble_eq_true rfl) (by
  have g9_q : drV (drS (G 15)) % 5 < 2 := Nat.lt_of_not_le (fun hc_q => h_9 (nI_le (a := 2) hc_q (by omega)))
  rw [drD_a g9_q]
  exact ⟨rfl, rfl, _, hC, pk_us, fun j hj_q => pk_un hj_q, hq1⟩)
theorem cp_afternoon {Γ : gam} {D : Nat} {ro : Nat → Nat} {z0 : sto} {n k a b_q f_q d_q : Nat} {w : Int32} {K ag pa pf ch co rw bk G : row} {im : Nat → Option Nat} {lm lt lw : Value} (hC : CoAt Γ ro z0 a G im) (hR_q : SrAt Γ ro z0 (a + 14) b_q w (K 33) ch co rw bk) (hr_q : rS K ch co rw bk) (hw_q : w = K 32) (hQ_q : BrAt Γ D ro z0 b_q K ag pa pf lm lt lw) (hB_q : okB K) (hg_q : gS K) (hH : HiAt Γ ro z0 (a + 19) b_q f_q d_q K) (hD : a + 113 < D) (hsb : b_q = a + 10 ∨ a + 113 < b_q) (hk : 14 ≤ k) (s z_q : Int32) : Sp Γ (rmk k 2 12) uX7_afternoon [.ref a, .int s, .int z_q] z0 n (qT (qI fun v_q σ' n' => (aAfter K s z_q.toInt).1 = 0 ∧ v_q = (aAfter K s z_q.toInt).2.1 ∧ n' = n ∧ StAt Γ ro σ' a b_q (aAfter K s z_q.toInt).2.2 ∧ (∃ G', CoAt Γ ro σ' a G' im ∧ ∀ j, j ≠ 15 → G' j = G j) ∧ frS Γ ro (fun q => q = a ∨ dS a q) z0 σ') (fun x_q σ' n' => exL [eIA] (aAfter K s z_q.toInt).1 x_q ∧ σ' = z0 ∧ n ≤ n')) := by
  have hP8 := hB_q.1.2.1
  have hH5 := hB_q.1.2.2.2.1
  have hW4 := hB_q.1.2.2.2.2.2
  refine sp_intro [some (.ref a), some (.int s), some (.int z_q), none, none] (by decide +kernel) rfl (Nat.le_of_ble_eq_true rfl) rfl ?_
  refine go_aload_n (pc := 0) dX7_afternoon_0 rfl ?_
  refine go_iload_n (pc := 1) dX7_afternoon_1 rfl ?_
  refine go_iconst (v := 1) (pc := 2) dX7_afternoon_2 (by decide) ?_
  refine go_bipush (v := 30) (pc := 3) dX7_afternoon_3 (by decide) ?_
  refine go_V3Vx (pc := 5) v_X7_90 rfl rfl (rcv_of (ci := 7) (by first | exact co0 hC | exact co0 hC9) rfl) dX7_afternoon_5 (cp_nW (k := k - 1) (lo := 1) (hi_q := 30) (by omega) (by decide) (by decide) _) (fun x_q σx nx hx_q => by obtain ⟨h9_q, rfl, rfl, h8_q⟩ := hx_q; exact Or.inr ⟨_, rfl, ⟨0, (by rw [show aAfter K s z_q.toInt = (1, 0, K) from by simp only [aAfter, h9_q]]; rfl), rfl⟩, rfl, h8_q⟩) (fun σ n h_q => ?_)
  obtain ⟨⟨j1_q, hj1, rfl, hj1a, hj1b⟩, rfl, rfl⟩ := h_q
  refine go_aload_n (pc := 8) dX7_afternoon_8 rfl ?_
  refine go_iload_n (pc := 9) dX7_afternoon_9 rfl ?_
  refine go_putf (fs' := cfs _ (upd _ 15 _)) (pc := 10) f_X7_56 dX7_afternoon_10 (co0 hC) (Nat.le_of_ble_eq_true rfl) (by exact cf15) rfl rfl ?_
  have hC9 := hC.setG (G' := upd G 15 s)
  have hu := frS.one (Γ := Γ) (ro := ro) (x := a) (σ := z0) (σ1 := sup z0 a (cO 7 (cfs a (upd G 15 s)))) (fun q hq_q => sup_ne hq_q rfl)
  refine go_iconst (v := 0) (pc := 13) dX7_afternoon_13 (by decide) ?_
  refine go_istore_n (lw := [_, _, _, _, _]) (pc := 14) dX7_afternoon_14 (by decide) rfl ?_
  refine go_iconst (v := 0) (pc := 15) dX7_afternoon_15 (by decide) ?_
  refine go_istore (lw := [_, _, _, _, _]) (pc := 16) dX7_afternoon_16 (by decide) rfl ?_
  refine go_iter (j1_q) (fun i_q lv9 s9 n9 => ∃ (K9_q : row), ∃ (c9_q : Nat), ∃ (G9 : row), lv9 = [some (.ref a), some (.int s), some (.int (nI j1_q)), some (.int (nI c9_q)), some (.int (nI i_q))] ∧ (StAt Γ ro s9 a b_q K9_q) ∧ (CoAt Γ ro s9 a G9 im) ∧ (∀ j, j ≠ 15 → G9 j = G j) ∧ (frS Γ ro (fun q => q = a ∨ dS a q) z0 s9) ∧ (sameL K K9_q) ∧ (gS K9_q) ∧ (afK (j1_q - i_q) (G9 15) K9_q c9_q = afK j1_q s K 0) ∧ n = n9) ⟨K, 0, (upd G 15 s), rfl, (StAt.fs (St_0 hR_q hr_q hw_q hH) hu (fun q x_q y_q z_q => by omega)), hC9, (fun j hj_q => pk_un hj_q), (hu.wk (fun q x_q => Or.inl x_q)), sameL.rf, hg_q, (by rw [pk_us]; rfl), rfl⟩ ?_ ?_
  · rintro i_q lv9 σ n9 hi_q ⟨K9_q, c9_q, G9, rfl, hSt, hC9, hG9, hfX, sL, hg9_q, hJ, rfl⟩ ih_q
    have hB9_q := sL.oB hB_q
    have eP_q := sL.P
    have eH_q := sL.H
    have hQ9 := (hQ_q.fs hfX (fun q x_q z_q => by omega) (fun q x_q y_q z_q => by omega)).sl sL hP8
    refine go_iload (pc := 18) dX7_afternoon_18 rfl ?_
    refine go_iload_n (pc := 20) dX7_afternoon_20 rfl ?_
    refine go_icmp_ge (tgt := 45) (pc := 21) dX7_afternoon_21 (by decide) (fun h_21 => by exfalso; exact absurd h_21 (nI_ge (by omega) (by omega))) (fun h_21 => ?_)
    refine go_aload_n (pc := 24) dX7_afternoon_24 rfl ?_
    refine go_aload_n (pc := 25) dX7_afternoon_25 rfl ?_
    refine go_V0I (pc := 26) v_X7_249 rfl rfl (rcv_of (ci := 7) (by first | exact co0 hC | exact co0 hC9) rfl) dX7_afternoon_26 (cp_drawnDeed (k := k - 1) hC9 (by omega)) (fun v_26 σ n h_q => ?_)
    obtain ⟨hv9_q, rfl, G8, hC9, hG8, hG7, hq9⟩ := h_q
    have hu := frS.one (Γ := Γ) (ro := ro) hq9
    have hfX := hfX.tr (hu.wk (S' := (fun q => q = a ∨ dS a q)) (fun q x_q => Or.inl x_q))
    have hQ9 := hQ9.fs hu (fun q x_q z_q => by omega) (fun q x_q y_q z_q => by omega)
    obtain ⟨⟨ch9, co9, rw9, bk9, hR9, hr9_q⟩, f9, d9_q, hH9⟩ := hSt.fs hu (fun q x_q y_q z_q => by omega)
    have hv8 : v_26.toInt64.toInt = (drD (G9 15)).1 := by rw [Int32.toInt_toInt64]; exact hv9_q
    refine go_i2l (pc := 29) dX7_afternoon_29 ?_
    refine go_V1I (pc := 30) v_X7_245 rfl rfl (rcv_of (ci := 7) (by first | exact co0 hC | exact co0 hC9) rfl) dX7_afternoon_30 (cp_performed (k := k - 1) hC9 hR9 hr9_q rfl hQ9 hB9_q hg9_q hH9 hD hsb (by omega) _) (fun v_30 σ n h_q => ?_)
    obtain ⟨rfl, rfl, hSt, hf1⟩ := h_q
    have hfX := hfX.tr (hf1.wk (S' := (fun q => q = a ∨ dS a q)) (fun q x_q => Or.inr x_q))
    have hC9 := hC9.fs hf1 (fun q x_q z_q => by omega)
    rw [hv8] at hSt
    have hG9 : ∀ j, j ≠ 15 → G8 j = G j := fun j hj_q => (hG7 j hj_q).trans (hG9 j hj_q)
    refine go_if_eq (tgt := 39) (pc := 33) dX7_afternoon_33 (by decide) (fun h_33 => ?_) (fun h_33 => ?_)
    · refine go_iinc (v := 1) (lw := [_, _, _, _, _]) (pc := 39) dX7_afternoon_39 rfl (by decide) (by decide) rfl ?_
      refine go_goto (tgt := 18) (pc := 42) dX7_afternoon_42 (by decide) ?_
      first
        | (have g9_q : ¬ whyT K9_q v_26.toInt64.toInt = 0 := bI_0.mp h_33
           rw [hv8] at g9_q
           rw [if_neg g9_q] at hSt
           rw [nI_1]
           exact ih_q _ _ _ ⟨_, _, _, rfl, hSt, hC9, hG9, hfX, sL, hg9_q, (by rw [hG8, ← hJ, af_step hi_q, if_neg g9_q]), rfl⟩)
        | (have g9_q : whyT K9_q v_26.toInt64.toInt = 0 := Decidable.not_not.mp (fun hc_q => h_33 (bI_0.mpr hc_q))
           rw [hv8] at g9_q
           rw [if_pos g9_q] at hSt
           have sU := keepK_same hH9.2.1.2.2 hH9.2.1.2.1
           have g8_q : whyT (keepK K9_q) (drD (G9 15)).1 = 0 := by rw [whyT_U sU (by omega)]; exact g9_q
           have eP2 := sU.P
           have eH2 := sU.H
           rw [nI_1, nI_1]
           exact ih_q _ _ _ ⟨_, _, _, rfl, hSt, hC9, hG9, hfX, sL.tr (sU.L.tr (do_same (by omega) g8_q).L), gS_do (gS_eq hg9_q (by omega) (fun j hj_q => sU j (by omega))) (by omega) (by omega) g8_q, (by rw [hG8, ← hJ, af_step hi_q, if_pos g9_q]), rfl⟩)
    · refine go_iinc (v := 1) (lw := [_, _, _, _, _]) (pc := 36) dX7_afternoon_36 rfl (by decide) (by decide) rfl ?_
      refine go_iinc (v := 1) (lw := [_, _, _, _, _]) (pc := 39) dX7_afternoon_39 rfl (by decide) (by decide) rfl ?_
      refine go_goto (tgt := 18) (pc := 42) dX7_afternoon_42 (by decide) ?_
      first
        | (have g9_q : ¬ whyT K9_q v_26.toInt64.toInt = 0 := bI_0.mp h_33
           rw [hv8] at g9_q
           rw [if_neg g9_q] at hSt
           rw [nI_1]
           exact ih_q _ _ _ ⟨_, _, _, rfl, hSt, hC9, hG9, hfX, sL, hg9_q, (by rw [hG8, ← hJ, af_step hi_q, if_neg g9_q]), rfl⟩)
        | (have g9_q : whyT K9_q v_26.toInt64.toInt = 0 := Decidable.not_not.mp (fun hc_q => h_33 (bI_0.mpr hc_q))
           rw [hv8] at g9_q
           rw [if_pos g9_q] at hSt
           have sU := keepK_same hH9.2.1.2.2 hH9.2.1.2.1
           have g8_q : whyT (keepK K9_q) (drD (G9 15)).1 = 0 := by rw [whyT_U sU (by omega)]; exact g9_q
           have eP2 := sU.P
           have eH2 := sU.H
           rw [nI_1, nI_1]
           exact ih_q _ _ _ ⟨_, _, _, rfl, hSt, hC9, hG9, hfX, sL.tr (sU.L.tr (do_same (by omega) g8_q).L), gS_do (gS_eq hg9_q (by omega) (fun j hj_q => sU j (by omega))) (by omega) (by omega) g8_q, (by rw [hG8, ← hJ, af_step hi_q, if_pos g9_q]), rfl⟩)
  · rintro lv9 σ n9 ⟨K9_q, c9_q, G9, rfl, hSt, hC9, hG9, hfX, sL, hg9_q, hJ, rfl⟩
    refine go_iload (pc := 18) dX7_afternoon_18 rfl ?_
    refine go_iload_n (pc := 20) dX7_afternoon_20 rfl ?_
    refine go_icmp_ge (tgt := 45) (pc := 21) dX7_afternoon_21 (by decide) (fun h_21 => ?_) (fun h_21 => by exfalso; exact h_21 (nI_le (by omega) (by omega)))
    refine go_iload_n (pc := 45) dX7_afternoon_45 rfl ?_
    exact go_iretT (pc := 46) rfl dX7_afternoon_46 (Nat.le_of_ble_eq_true rfl) (Nat.le_of_ble_eq_true rfl) (by
  have eA : aAfter K s (nI j1_q).toInt = (0, nI (afK j1_q s K 0).1, (afK j1_q s K 0).2) := by simp only [aAfter, hj1]
  have hX : afK j1_q s K 0 = (c9_q, K9_q) := by rw [← hJ, Nat.sub_self]; rfl
  rw [eA, hX]
  exact ⟨rfl, rfl, rfl, hSt, ⟨G9, hC9, hG9⟩, hfX⟩)
