/-! ===== the class: copies, images gone back to, the tape, what is_q counted ===== -/
theorem cp_copy {Γ : gam} {D : Nat} {ro : Nat → Nat} {z0 : sto} {n k a b_q : Nat} {w : Int32} {K ag pa pf ch co rw bk G : row} {im : Nat → Option Nat} {lm lt lw : Value} (hC : CoAt Γ ro z0 a G im) (hR_q : SrAt Γ ro z0 (a + 14) b_q w (K 33) ch co rw bk) (hr_q : rS K ch co rw bk) (hQ_q : BrAt Γ D ro z0 b_q K ag pa pf lm lt lw) (hB_q : okB K) (hg_q : gS K) (hS_q : ScAt Γ ro z0 a) (hD : a + 113 < D) (hsb : b_q = a + 10 ∨ a + 113 < b_q) {g_q m : row} {Nm : Nat → Int64} (hY : TyAt Γ ro z0 a g_q m Nm) (hT4 : okT g_q m) (hk : 14 ≤ k) (z_q y_q : Int32) : Sp Γ (rmk k 4 24) uX7_copy [.ref a, .int z_q, .int y_q] z0 n (qT (qI fun v_q σ' n' => cpT K g_q z_q.toInt y_q.toInt = 0 ∧ v_q = m z_q.toInt.toNat ∧ n' = n ∧ ScAt Γ ro σ' a ∧ TyAt Γ ro σ' a g_q m (cpF (g_q z_q.toInt.toNat) z_q.toInt.toNat y_q.toInt.toNat (m z_q.toInt.toNat).toNatClampNeg 0 K Nm) ∧ frS Γ ro (fun q => scr a q ∨ tS a q) z0 σ') (fun x_q σ' n' => exL [eNS, eIS] (cpT K g_q z_q.toInt y_q.toInt) x_q ∧ σ' = z0 ∧ n ≤ n')) := by
  have hP8 := hB_q.1.2.1
  have hH5 := hB_q.1.2.2.2.1
  have hW4 := hB_q.1.2.2.2.2.2
  refine sp_intro [some (.ref a), some (.int z_q), some (.int y_q), none, none, none] (by decide +kernel) rfl (Nat.le_of_ble_eq_true rfl) rfl ?_
  refine go_aload_n (pc := 0) dX7_copy_0 rfl ?_
  refine go_iload_n (pc := 1) dX7_copy_1 rfl ?_
  refine go_V1Vx (pc := 2) v_X7_217 rfl rfl (rcv_of (ci := 7) (by first | exact co0 hC | exact co2 hC | exact (hY.2 t1_q ht1a).1 | exact (hY9.2 t1_q ht1a).1 | exact sr0 hT_q) rfl) dX7_copy_2 (cp_needTray (k := k - 1) (by omega) _) (fun x_q σx nx hx_q => by obtain ⟨h9_q, rfl, rfl, h8_q⟩ := hx_q; exact Or.inr ⟨_, rfl, ⟨0, cpT_1 h9_q, rfl⟩, rfl, h8_q⟩) (fun σ n h_q => ?_)
  obtain ⟨⟨t1_q, ht1, rfl, ht1a⟩, rfl, rfl⟩ := h_q
  refine go_aload_n (pc := 5) dX7_copy_5 rfl ?_
  refine go_iload_n (pc := 6) dX7_copy_6 rfl ?_
  refine go_V1Vx (pc := 7) v_X7_135 rfl rfl (rcv_of (ci := 7) (by first | exact co0 hC | exact co2 hC | exact (hY.2 t1_q ht1a).1 | exact (hY9.2 t1_q ht1a).1 | exact sr0 hT_q) rfl) dX7_copy_7 (cp_needPerson (k := k - 1) hC hR_q hr_q hQ_q hB_q (by omega) _) (fun x_q σx nx hx_q => by obtain ⟨h9_q, rfl, rfl, h8_q⟩ := hx_q; exact Or.inr ⟨_, rfl, ⟨0, cpT_2 ht1 h9_q, rfl⟩, rfl, h8_q⟩) (fun σ n h_q => ?_)
  obtain ⟨⟨j2_q, hj2, rfl, hj2a⟩, rfl, rfl⟩ := h_q
  refine go_aload_n (pc := 10) dX7_copy_10 rfl ?_
  refine go_iload_n (pc := 11) dX7_copy_11 rfl ?_
  refine go_V1Vx (pc := 12) v_X7_220 rfl rfl (rcv_of (ci := 7) (by first | exact co0 hC | exact co2 hC | exact (hY.2 t1_q ht1a).1 | exact (hY9.2 t1_q ht1a).1 | exact sr0 hT_q) rfl) dX7_copy_12 (cp_needLaid (k := k - 1) hC hY ht1a (by omega)) (fun x_q σx nx hx_q => by obtain ⟨h9_q, rfl, rfl, h8_q⟩ := hx_q; exact Or.inr ⟨_, rfl, ⟨1, (by rw [cpT_3 ht1 hj2, if_pos h9_q]; rfl), rfl⟩, rfl, h8_q⟩) (fun σ n h_q => ?_)
  obtain ⟨hl9, rfl, rfl⟩ := h_q
  have e1_q : (nI t1_q).toInt.toNat = t1_q := by rw [nI_toInt (by omega)]; rfl
  have e2_q : (nI j2_q).toInt.toNat = j2_q := by rw [nI_toInt (by omega)]; rfl
  have hc0 : cpT K g_q (nI t1_q).toInt (nI j2_q).toInt = 0 := by rw [cpT_3 ht1 hj2, if_neg hl9]
  obtain ⟨⟨M1, hM1, eM1⟩, hg1⟩ := hT4 t1_q ht1a
  obtain ⟨s1, hs1_q, es1⟩ := hg1.resolve_left hl9
  rw [e1_q, e2_q, eM1, nI_clamp (by omega), es1]
  refine go_aload_n (pc := 15) dX7_copy_15 rfl ?_
  refine go_getf (pc := 16) f_X7_25 dX7_copy_16 (by first | exact co0 hC | exact co2 hC | exact (hY.2 t1_q ht1a).1 | exact (hY9.2 t1_q ht1a).1 | exact sr0 hT_q) (by rfl) ?_
  refine go_iload_n (pc := 19) dX7_copy_19 rfl ?_
  refine go_aaload (pc := 20) dX7_copy_20 (by first | exact co0 hC | exact co2 hC | exact (hY.2 t1_q ht1a).1 | exact (hY9.2 t1_q ht1a).1 | exact sr0 hT_q) rfl (vp_in_nI (n := t1_q) (N := 4) (by omega) (by decide)) (show some (a + 81 + 2 * (nI (t1_q)).toNatClampNeg) = some (a + 81 + 2 * (t1_q)) from by rw [nI_clamp (by omega)]) ?_
  refine go_astore_n (lw := [_, _, _, _, _, _]) (pc := 21) dX7_copy_21 (by decide) rfl ?_
  refine go_aload_n (pc := 22) dX7_copy_22 rfl ?_
  refine go_V0A (pc := 23) v_X7_223 rfl rfl (rcv_of (ci := 7) (by first | exact co0 hC | exact co2 hC | exact (hY.2 t1_q ht1a).1 | exact (hY9.2 t1_q ht1a).1 | exact sr0 hT_q) rfl) dX7_copy_23 (cp_trial (k := k - 1) hC hR_q hr_q hQ_q hB_q hg_q hS_q hD hsb (by omega)) (fun v_23 σ n h_q => ?_)
  obtain ⟨rfl, rfl, ⟨ch9, co9, rw9, bk9, hT_q, hr9_q⟩, hf_q⟩ := h_q
  have hQ9 := hQ_q.fr hf_q (by omega) (by omega)
  rw [show goK 0 K = K from rfl] at hT_q hr9_q
  have hY9 := hY.fs (hf_q.toS (S := scr a) (fun q x_q y_q => by omega)) (fun q x_q y_q z_q => by omega)
  have hfX : frS Γ ro (fun q => tS a q ∨ (a + 89 ≤ q ∧ q ≤ a + 93)) z0 σ := hf_q.toS (fun q x_q y_q => Or.inr ⟨x_q, y_q⟩)
  refine go_astore (lw := [_, _, _, _, _, _]) (pc := 26) dX7_copy_26 (by decide) rfl ?_
  refine go_iconst (v := 0) (pc := 28) dX7_copy_28 (by decide) ?_
  refine go_istore (lw := [_, _, _, _, _, _]) (pc := 29) dX7_copy_29 (by decide) rfl ?_
  refine go_iter (M1) (fun i_q lv9 s9 n9 => ∃ (ch9 : row), ∃ (co9 : row), ∃ (rw9 : row), ∃ (bk9 : row), ∃ (N9 : Nat → Int64), lv9 = [some (.ref a), some (.int (nI t1_q)), some (.int (nI j2_q)), some (.ref (a + 81 + 2 * t1_q)), some (.ref (a + 89)), some (.int (nI i_q))] ∧ (SrAt Γ ro s9 (a + 89) b_q w (goK i_q K 33) ch9 co9 rw9 bk9) ∧ (rS (goK i_q K) ch9 co9 rw9 bk9) ∧ (BrAt Γ D ro s9 b_q K ag pa pf lm lt lw) ∧ (frS Γ ro (fun q => tS a q ∨ (a + 89 ≤ q ∧ q ≤ a + 93)) z0 s9) ∧ (TyAt Γ ro s9 a g_q m N9) ∧ (cpF (nI s1) t1_q j2_q (M1 - i_q) i_q (goK i_q K) N9 = cpF (nI s1) t1_q j2_q M1 0 K Nm) ∧ n = n9) ⟨_, _, _, _, Nm, rfl, hT_q, hr9_q, hQ9, hfX, hY9, rfl, rfl⟩ ?_ ?_
  · rintro i_q lv9 σ n9 hi_q ⟨ch9, co9, rw9, bk9, N9, rfl, hT_q, hr9_q, hQ9, hfX, hY9, hJ, rfl⟩ ih_q
    have hs9 : sameB K (goK i_q K) := goK_same (by omega)
    have hB9_q := hs9.okB hB_q
    have hg9_q : gS (goK i_q K) := gS_go hg_q hP8 hH5
    have eP_q := hs9.P
    have eH_q := hs9.H
    have eW := hs9.W
    obtain ⟨fN, hn8, hn9⟩ := (hY9.2 t1_q ht1a).2
    refine go_iload (pc := 31) dX7_copy_31 rfl ?_
    refine go_aload_n (pc := 33) dX7_copy_33 rfl ?_
    refine go_getf (pc := 34) f_X7_227 dX7_copy_34 (by first | exact co0 hC | exact co2 hC | exact (hY.2 t1_q ht1a).1 | exact (hY9.2 t1_q ht1a).1 | exact sr0 hT_q) (by rfl) ?_
    refine go_icmp_ge (tgt := 66) (pc := 37) dX7_copy_37 (by decide) (fun h_37 => by exfalso; rw [eM1] at h_37; exact absurd h_37 (nI_ge (by omega) (by omega))) (fun h_37 => ?_)
    refine go_aload_n (pc := 40) dX7_copy_40 rfl ?_
    refine go_iload (pc := 41) dX7_copy_41 rfl ?_
    refine go_aload (pc := 43) dX7_copy_43 rfl ?_
    refine go_iload_n (pc := 45) dX7_copy_45 rfl ?_
    refine go_V1P (pc := 46) v_X7_256 rfl rfl (rcv_of (ci := 5) (by first | exact co0 hC | exact co2 hC | exact (hY.2 t1_q ht1a).1 | exact (hY9.2 t1_q ht1a).1 | exact sr0 hT_q) rfl) dX7_copy_46 (cp_place (k := k - 1) hT_q hr9_q (hQ9.sm hs9) hB9_q (p := j2_q) (by omega)) ?_
    refine go_i2l (pc := 49) dX7_copy_49 ?_
    refine go_V2L (pc := 50) v_X7_349 rfl rfl (rcv_of (ci := 6) (by first | exact co0 hC | exact co2 hC | exact (hY.2 t1_q ht1a).1 | exact (hY9.2 t1_q ht1a).1 | exact sr0 hT_q) rfl) dX7_copy_50 (cp_put6 (k := k - 1) (i_q := i_q) (M := M1) (s := s1) (by rw [← es1, ← eM1]; exact (hY9.2 t1_q ht1a).1) hn8 hs1_q hi_q hM1 _) (fun v_50 σ n h_q => ?_)
    obtain ⟨rfl, rfl, h2_q, hq9⟩ := h_q
    have hu := frS.one (Γ := Γ) (ro := ro) hq9
    have hfX := hfX.tr (hu.wk (S' := (fun q => tS a q ∨ (a + 89 ≤ q ∧ q ≤ a + 93))) (fun q x_q => by omega))
    have hT_q := hT_q.fs hu (fun q x_q y_q z_q => by omega)
    have hQ9 := hQ9.fs hu (fun q x_q z_q => by omega) (fun q x_q y_q z_q => by omega)
    have hY9 : TyAt Γ ro σ a g_q m (vp_updL N9 (30 * t1_q + i_q) (cutV (nI s1) (placeK (goK i_q K) j2_q).toInt64)) := hY9.one ht1a (fun q _ h_q => hq9 q h_q) ((hq9 _ (by omega)).trans (hY9.2 t1_q ht1a).1) h2_q (fun j hj_q => by
      by_cases e_q : j = i_q
      · subst e_q; simp [vp_updL]
      · have e3_q : 30 * t1_q + j ≠ 30 * t1_q + i_q := by omega
        simp only [vp_updL, if_neg e_q, if_neg e3_q]; exact hn9 j hj_q) (fun q _ _ => ⟨rfl, rfl⟩) (fun j _ hj_q => by
      have e3_q : j ≠ 30 * t1_q + i_q := by omega
      simp only [vp_updL, if_neg e3_q])
    refine go_pop2L (pc := 53) dX7_copy_53 rfl ?_
    refine go_aload (pc := 54) dX7_copy_54 rfl ?_
    refine go_iconst (v := 0) (pc := 56) dX7_copy_56 (by decide) ?_
    refine go_V1V (pc := 57) v_X7_207 rfl rfl (rcv_of (ci := 5) (by first | exact co0 hC | exact co2 hC | exact (hY.2 t1_q ht1a).1 | exact (hY9.2 t1_q ht1a).1 | exact sr0 hT_q) rfl) dX7_copy_57 (cp_pass (k := k - 1) hT_q hr9_q (hQ9.sm hs9) hB9_q hg9_q (by omega) (by omega) (by omega) _) (fun σ n h_q => ?_)
    obtain ⟨rfl, ⟨ch9, co9, rw9, bk9, hT_q, hr9_q⟩, hf1⟩ := h_q
    have hfX := hfX.tr (hf1.toS (S := (fun q => tS a q ∨ (a + 89 ≤ q ∧ q ≤ a + 93))) (fun q x_q y_q => Or.inr ⟨x_q, y_q⟩))
    have hQ9 := hQ9.fr hf1 (by omega) (by omega)
    have hY9 := hY9.fs (hf1.toS (S := scr a) (fun q x_q y_q => by omega)) (fun q x_q y_q z_q => by omega)
    rw [pasW_0 (by decide) hg9_q (by omega) (by omega)] at hT_q
    refine go_iinc (v := 1) (lw := [_, _, _, _, _, _]) (pc := 60) dX7_copy_60 rfl (by decide) (by decide) rfl ?_
    refine go_goto (tgt := 31) (pc := 63) dX7_copy_63 (by decide) ?_
    rw [nI_1]
    exact ih_q _ _ _ ⟨_, _, _, _, _, rfl, (by rw [goK_s]; exact hT_q), (by rw [goK_s]; exact hr9_q), hQ9, hfX, hY9, (by rw [goK_s, ← hJ, cpF_step hi_q]), rfl⟩
  · rintro lv9 σ n9 ⟨ch9, co9, rw9, bk9, N9, rfl, hT_q, hr9_q, hQ9, hfX, hY9, hJ, rfl⟩
    refine go_iload (pc := 31) dX7_copy_31 rfl ?_
    refine go_aload_n (pc := 33) dX7_copy_33 rfl ?_
    refine go_getf (pc := 34) f_X7_227 dX7_copy_34 (by first | exact co0 hC | exact co2 hC | exact (hY.2 t1_q ht1a).1 | exact (hY9.2 t1_q ht1a).1 | exact sr0 hT_q) (by rfl) ?_
    refine go_icmp_ge (tgt := 66) (pc := 37) dX7_copy_37 (by decide) (fun h_37 => ?_) (fun h_37 => by exfalso; rw [eM1] at h_37; exact h_37 (nI_le (by omega) (by omega)))
    refine go_aload_n (pc := 66) dX7_copy_66 rfl ?_
    refine go_getf (pc := 67) f_X7_227 dX7_copy_67 (by first | exact co0 hC | exact co2 hC | exact (hY.2 t1_q ht1a).1 | exact (hY9.2 t1_q ht1a).1 | exact sr0 hT_q) (by rfl) ?_
    exact go_iretT (pc := 70) rfl dX7_copy_70 (Nat.le_of_ble_eq_true rfl) (Nat.le_of_ble_eq_true rfl) (by
  rw [Nat.sub_self] at hJ
  refine ⟨hc0, eM1, rfl, hS_q.s0s hC.1 hfX (fun q x_q y_q => by omega) hT_q.T, ?_, hfX.wk (fun q x_q => by omega)⟩
  rw [← hJ]
  exact hY9)
theorem cp_needImage {Γ : gam} {z0 : sto} {n k a : Nat} (hk : 6 ≤ k) (z_q : Int32) : Sp Γ (rmk k 1 6) uX7_needImage [.ref a, .int z_q] z0 n (qT (qV fun σ' n' => (∃ j, rN 0 3 z_q.toInt = some j ∧ z_q = nI j ∧ j < 3) ∧ z0 = σ' ∧ n = n') (fun x_q σ' n' => rN 0 3 z_q.toInt = none ∧ x_q = eNS ∧ σ' = z0 ∧ n ≤ n')) := by
  refine sp_intro [some (.ref a), some (.int z_q)] (by decide +kernel) rfl (Nat.le_of_ble_eq_true rfl) rfl ?_
  refine go_iload_n (pc := 0) dX7_needImage_0 rfl ?_
  refine go_if_lt (tgt := 9) (pc := 1) dX7_needImage_1 (by decide) (fun h_1 => ?_) (fun h_1 => ?_)
  · exact go_throwWN (si := 30) (pc := 9) rfl rfl rfl dX7_needImage_9 dX7_needImage_12 dX7_needImage_13 dX7_needImage_16 dX7_needImage_19 (fun n2 hn2 => Or.inr ⟨_, rfl, (by rw [rN, if_neg]; intro hc_q; first | (have g9_q := Int32.lt_iff_toInt_lt.mp h_1; rw [show (0 : Int32).toInt = 0 from rfl] at g9_q; omega) | (have g9_q := Int32.le_iff_toInt_le.mp (Int32.not_lt.mp h_6); rw [show (3 : Int32).toInt = 3 from rfl] at g9_q; omega)), rfl, rfl, hn2⟩)
  · refine go_iload_n (pc := 4) dX7_needImage_4 rfl ?_
    refine go_iconst (v := 3) (pc := 5) dX7_needImage_5 (by decide) ?_
    refine go_icmp_lt (tgt := 20) (pc := 6) dX7_needImage_6 (by decide) (fun h_6 => ?_) (fun h_6 => ?_)
    · exact go_vretT (pc := 20) rfl dX7_needImage_20 (Nat.le_of_ble_eq_true rfl) (Nat.le_of_ble_eq_true rfl) (by
  have g1_q := Int32.le_iff_toInt_le.mp (Int32.not_lt.mp h_1)
  have g2_q := Int32.lt_iff_toInt_lt.mp h_6
  rw [show (0 : Int32).toInt = 0 from rfl] at g1_q
  rw [show (3 : Int32).toInt = 3 from rfl] at g2_q
  exact ⟨⟨z_q.toInt.toNat, by rw [rN, if_pos (by omega)], I_nat (by omega) (by omega), by omega⟩, rfl, rfl⟩)
    · exact go_throwWN (si := 30) (pc := 9) rfl rfl rfl dX7_needImage_9 dX7_needImage_12 dX7_needImage_13 dX7_needImage_16 dX7_needImage_19 (fun n2 hn2 => Or.inr ⟨_, rfl, (by rw [rN, if_neg]; intro hc_q; first | (have g9_q := Int32.lt_iff_toInt_lt.mp h_1; rw [show (0 : Int32).toInt = 0 from rfl] at g9_q; omega) | (have g9_q := Int32.le_iff_toInt_le.mp (Int32.not_lt.mp h_6); rw [show (3 : Int32).toInt = 3 from rfl] at g9_q; omega)), rfl, rfl, hn2⟩)
theorem cp_hcopy {Γ : gam} {ro : Nat → Nat} {z0 : sto} {n k h_q e_q b_q f_q d_q : Nat} {K : row} (hs : HsAt Γ ro z0 h_q) (hO : HiAt Γ ro z0 e_q b_q f_q d_q K) (hB_q : okB K) (hne : h_q + 51 < e_q ∨ e_q + 51 < h_q) (hk : 2 ≤ k) : Sp Γ (rmk k 0 0) uX1_copyFrom [.ref h_q, .ref e_q] z0 n (qV fun σ' n' => n' = n ∧ HiAt Γ ro σ' h_q b_q f_q d_q K ∧ frS Γ ro (fun q => h_q ≤ q ∧ q ≤ h_q + 51) z0 σ') := by
  obtain ⟨x0, y0, hy0⟩ := hs.2.1
  refine sp_intro [some (.ref h_q), some (.ref e_q), none] (by decide +kernel) rfl (Nat.le_of_ble_eq_true rfl) rfl ?_
  refine go_iconst (v := 0) (pc := 0) dX1_copyFrom_0 (by decide) ?_
  refine go_istore_n (lw := [_, _, _]) (pc := 1) dX1_copyFrom_1 (by decide) rfl ?_
  refine go_iter (10) (fun i_q lv9 s9 n9 => lv9 = [some (.ref h_q), some (.ref e_q), some (.int (nI i_q))] ∧ (∀ j, j < 10 → TrAt Γ ro s9 (h_q + 2 + 5 * j)) ∧ (∀ j, j < i_q → kpt Γ ro s9 (h_q + 2 + 5 * j) b_q f_q d_q K j) ∧ (frS Γ ro (fun q => h_q + 2 ≤ q ∧ q ≤ h_q + 51) z0 s9) ∧ n = n9) ⟨rfl, hs.2.2.2, (fun j hj_q => by omega), frS.rf, rfl⟩ ?_ ?_
  · rintro i_q lv9 σ n9 hi_q ⟨rfl, hT9, hK9, hf9, rfl⟩ ih_q
    have hh0 := hf9.at (by omega) hs.1.1 hy0
    have hh1 := hf9.at (by omega) hs.1.2 hs.2.2.1
    have hO9 := hO.fs hf9 (fun q x_q y_q z_q => by omega)
    refine go_iload_n (pc := 2) dX1_copyFrom_2 rfl ?_
    refine go_bipush (v := 10) (pc := 3) dX1_copyFrom_3 (by decide) ?_
    refine go_icmp_ge (tgt := 29) (pc := 5) dX1_copyFrom_5 (by decide) (fun h_5 => by exfalso; exact absurd h_5 (nI_ge (b := 10) (by omega) (by decide))) (fun h_5 => ?_)
    refine go_aload_n (pc := 8) dX1_copyFrom_8 rfl ?_
    refine go_getf (pc := 9) f_X1_11 dX1_copyFrom_9 (by first | exact hh0 | exact hh1 | exact hi0 hO9 | exact hi1 hO9 | exact sr0 hT1 | exact sr0 hP1) (by rfl) ?_
    refine go_iload_n (pc := 12) dX1_copyFrom_12 rfl ?_
    refine go_aaload (pc := 13) dX1_copyFrom_13 (by first | exact hh0 | exact hh1 | exact hi0 hO9 | exact hi1 hO9 | exact sr0 hT1 | exact sr0 hP1) rfl (vp_in_nI (n := i_q) (N := 10) (by omega) (by decide)) (show some (h_q + 2 + 5 * (nI i_q).toNatClampNeg) = some (h_q + 2 + 5 * i_q) from by rw [nI_clamp (by omega)]) ?_
    refine go_aload_n (pc := 14) dX1_copyFrom_14 rfl ?_
    refine go_getf (pc := 15) f_X1_11 dX1_copyFrom_15 (by first | exact hh0 | exact hh1 | exact hi0 hO9 | exact hi1 hO9 | exact sr0 hT1 | exact sr0 hP1) (by rfl) ?_
    refine go_iload_n (pc := 18) dX1_copyFrom_18 rfl ?_
    refine go_aaload (pc := 19) dX1_copyFrom_19 (by first | exact hh0 | exact hh1 | exact hi0 hO9 | exact hi1 hO9 | exact sr0 hT1 | exact sr0 hP1) rfl (vp_in_nI (n := i_q) (N := 10) (by omega) (by decide)) (show some (e_q + 2 + 5 * (nI i_q).toNatClampNeg) = some (e_q + 2 + 5 * i_q) from by rw [nI_clamp (by omega)]) ?_
    obtain ⟨b8, w8, m8, c8, o8, r8, k8, hT1⟩ := hT9 i_q hi_q
    obtain ⟨b7, w7, m7, c7, o7, r7, k7, hP1, hp1⟩ := hO9.kpt hi_q
    refine go_V1V (pc := 20) v_X1_27 rfl rfl (rcv_of (ci := 5) (by first | exact hh0 | exact hh1 | exact hi0 hO9 | exact hi1 hO9 | exact sr0 hT1 | exact sr0 hP1) rfl) dX1_copyFrom_20 (cp_copyFrom (k := k - 1) hT1 hP1 (by omega) (by omega)) (fun σ n h_q => ?_)
    obtain ⟨rfl, ⟨ch1, co1, rw1, bk1, hT2, q1_q, q2, q3, q4⟩, hf1⟩ := h_q
    have hu : frS Γ ro (fun q => h_q + 2 + 5 * i_q ≤ q ∧ q ≤ h_q + 2 + 5 * i_q + 4) _ σ := hf1.toS (fun q x_q y_q => ⟨x_q, y_q⟩)
    refine go_iinc (v := 1) (lw := [_, _, _]) (pc := 23) dX1_copyFrom_23 rfl (by decide) (by decide) rfl ?_
    refine go_goto (tgt := 2) (pc := 26) dX1_copyFrom_26 (by decide) ?_
    rw [nI_1]
    exact ih_q _ _ _ ⟨rfl, (fun j hj_q => by
      by_cases e9_q : j = i_q
      · rw [e9_q]; exact hT2.T
      · exact (hT9 j hj_q).fs hu (fun q x_q y_q z_q => by omega)), (fun j hj_q => by
      by_cases e9_q : j = i_q
      · rw [e9_q]
        exact ⟨_, _, _, _, _, _, _, hT2, fun i2_q hi2_q e2_q => by
          obtain ⟨g1_q, g2_q, g3_q, g4_q⟩ := hp1 i2_q hi2_q e2_q
          exact ⟨g1_q, g2_q, g3_q, rS_cong (okB_und hB_q) g4_q q1_q q2 q3 q4⟩⟩
      · exact (hK9 j (by omega)).fs hu (fun q x_q y_q z_q => by omega)), hf9.tr (hu.wk (fun q x_q => by omega)), rfl⟩
  · rintro lv9 σ n9 ⟨rfl, hT9, hK9, hf9, rfl⟩
    have hh0 := hf9.at (by omega) hs.1.1 hy0
    have hh1 := hf9.at (by omega) hs.1.2 hs.2.2.1
    have hO9 := hO.fs hf9 (fun q x_q y_q z_q => by omega)
    refine go_iload_n (pc := 2) dX1_copyFrom_2 rfl ?_
    refine go_bipush (v := 10) (pc := 3) dX1_copyFrom_3 (by decide) ?_
    refine go_icmp_ge (tgt := 29) (pc := 5) dX1_copyFrom_5 (by decide) (fun h_5 => ?_) (fun h_5 => by exfalso; exact h_5 (by decide))
    refine go_aload_n (pc := 29) dX1_copyFrom_29 rfl ?_
    refine go_aload_n (pc := 30) dX1_copyFrom_30 rfl ?_
    refine go_getf (pc := 31) f_X1_17 dX1_copyFrom_31 (by first | exact hh0 | exact hh1 | exact hi0 hO9 | exact hi1 hO9 | exact sr0 hT1 | exact sr0 hP1) (by rfl) ?_
    refine go_putf (fs' := [_, _, _]) (pc := 34) f_X1_17 dX1_copyFrom_34 hh0 (Nat.le_of_ble_eq_true rfl) (by rfl) rfl rfl ?_
    have hh8 : sup σ h_q (cO 1 [.ref (h_q + 1), .int (nI f_q), .int y0]) h_q = _ := sup_eq
    have hh7 := sup_ne (a := h_q) (e := cO 1 [.ref (h_q + 1), .int (nI f_q), .int y0]) (by omega) (hi0 hO9)
    refine go_aload_n (pc := 37) dX1_copyFrom_37 rfl ?_
    refine go_aload_n (pc := 38) dX1_copyFrom_38 rfl ?_
    refine go_getf (pc := 39) f_X1_21 dX1_copyFrom_39 hh7 (by rfl) ?_
    refine go_putf (fs' := [_, _, _]) (pc := 42) f_X1_21 dX1_copyFrom_42 hh8 (Nat.le_of_ble_eq_true rfl) (by rfl) rfl rfl ?_
    exact go_vretV (pc := 45) rfl dX1_copyFrom_45 (Nat.le_of_ble_eq_true rfl) (Nat.le_of_ble_eq_true rfl) (by
  have hu : ∀ q, q ≠ h_q → sup (sup σ h_q (cO 1 [.ref (h_q + 1), .int (nI f_q), .int y0])) h_q (cO 1 [.ref (h_q + 1), .int (nI f_q), .int (nI d_q)]) q = σ q := fun q hq_q => sup_ne hq_q (sup_ne hq_q rfl)
  refine ⟨rfl, Hi_of hs.1 hO.2.1 sup_eq ((hu _ (by omega)).trans hh1) (fun j hj_q => (hK9 j hj_q).fs (frS.one hu) (fun q x_q y_q z_q => by omega)), ?_⟩
  exact (hf9.wk (S' := (fun q => h_q ≤ q ∧ q ≤ h_q + 51)) (fun q x_q => by omega)).tr ((frS.one hu).wk (fun q x_q => by omega)))
theorem cp_forget {Γ : gam} {ro : Nat → Nat} {z0 : sto} {n k h_q b_q : Nat} {K : row} (hs : HsAt Γ ro z0 h_q) (h7_q : K 7 = nI 0)  : Sp Γ (rmk k 0 0) uX1_forget [.ref h_q] z0 n (qV fun σ' n' => n' = n ∧ HiAt Γ ro σ' h_q b_q 0 0 K ∧ frS Γ ro (fun q => q = h_q) z0 σ') := by
  obtain ⟨x0, y0, hy0⟩ := hs.2.1
  refine sp_intro [some (.ref h_q)] (by decide +kernel) rfl (Nat.le_of_ble_eq_true rfl) rfl ?_
  refine go_aload_n (pc := 0) dX1_forget_0 rfl ?_
  refine go_iconst (v := 0) (pc := 1) dX1_forget_1 (by decide) ?_
  refine go_putf (fs' := [_, _, _]) (pc := 2) f_X1_17 dX1_forget_2 (by first | exact hy0 | exact sup_eq) (Nat.le_of_ble_eq_true rfl) (by rfl) rfl rfl ?_
  refine go_aload_n (pc := 5) dX1_forget_5 rfl ?_
  refine go_iconst (v := 0) (pc := 6) dX1_forget_6 (by decide) ?_
  refine go_putf (fs' := [_, _, _]) (pc := 7) f_X1_21 dX1_forget_7 (by first | exact hy0 | exact sup_eq) (Nat.le_of_ble_eq_true rfl) (by rfl) rfl rfl ?_
  exact go_vretV (pc := 10) rfl dX1_forget_10 (Nat.le_of_ble_eq_true rfl) (Nat.le_of_ble_eq_true rfl) (by
  have hu : ∀ q, q ≠ h_q → sup (sup z0 h_q (cO 1 [.ref (h_q + 1), .int 0, .int y0])) h_q (cO 1 [.ref (h_q + 1), .int 0, .int 0]) q = z0 q := fun q hq_q => sup_ne hq_q (sup_ne hq_q rfl)
  refine ⟨rfl, ⟨hs.1, ⟨by omega, by omega, h7_q⟩, sup_eq, (hu _ (by omega)).trans hs.2.2.1, fun i_q hi_q => (hs.2.2.2 i_q hi_q).fs (frS.one hu) (fun q x_q y_q z_q => by omega), fun i_q hi_q => by omega⟩, (frS.one hu)⟩)
theorem sh_eq : ∀ i_q : Fin 4, (24 : Int32) - 8 * nI i_q.val = nI (24 - 8 * i_q.val) ∧ ¬ (24 : Int32) - 8 * nI i_q.val < 0 ∧ (24 : Int32) - 8 * nI i_q.val + -8 = 24 - 8 * nI (i_q.val + 1) := by decide +kernel
theorem cp_append {Γ : gam} {ro : Nat → Nat} {z0 : sto} {n k a T : Nat} {G f_q : row} {im : Nat → Option Nat} (hC : CoAt Γ ro z0 a G im) (hf_q : z0 (a + 1) = some (cI Γ 900 f_q)) (hG_q : G 1 = nI T) (hT_q : T + 4 ≤ 900) (v_q : Int32) : Sp Γ (rmk k 0 0) uX7_append [.ref a, .int v_q] z0 n (qV fun σ' n' => n' = n ∧ (∃ G', CoAt Γ ro σ' a G' im ∧ G' 1 = nI (T + 4) ∧ ∀ j, j ≠ 1 → G' j = G j) ∧ σ' (a + 1) = some (cI Γ 900 (tpT f_q T v_q 4)) ∧ ∀ q, q ≠ a → q ≠ a + 1 → σ' q = z0 q) := by
  refine sp_intro [some (.ref a), some (.int v_q), none] (by decide +kernel) rfl (Nat.le_of_ble_eq_true rfl) rfl ?_
  refine go_bipush (v := 24) (pc := 0) dX7_append_0 (by decide) ?_
  refine go_istore_n (lw := [_, _, _]) (pc := 2) dX7_append_2 (by decide) rfl ?_
  refine go_iter (4) (fun i_q lv9 s9 n9 => ∃ (G9 : row), lv9 = [some (.ref a), some (.int v_q), some (.int (24 - 8 * nI i_q))] ∧ (CoAt Γ ro s9 a G9 im) ∧ (G9 1 = nI (T + i_q)) ∧ (∀ j, j ≠ 1 → G9 j = G j) ∧ (s9 (a + 1) = some (cI Γ 900 (tpT f_q T v_q i_q))) ∧ (∀ q, q ≠ a → q ≠ a + 1 → s9 q = z0 q) ∧ n = n9) ⟨G, rfl, hC, hG_q, (fun j hj_q => rfl), (by rw [tpT_0]; exact hf_q), (fun q _ _ => rfl), rfl⟩ ?_ ?_
  · rintro i_q lv9 σ n9 hi_q ⟨G9, rfl, hC9, hG9, hG8, hf9, hq8, rfl⟩ ih_q
    refine go_iload_n (pc := 3) dX7_append_3 rfl ?_
    refine go_if_lt (tgt := 49) (pc := 4) dX7_append_4 (by decide) (fun h_4 => by exfalso; exact (sh_eq ⟨i_q, hi_q⟩).2.1 h_4) (fun h_4 => ?_)
    refine go_aload_n (pc := 7) dX7_append_7 rfl ?_
    refine go_getf (pc := 8) f_X7_13 dX7_append_8 (by first | exact co0 hC8 | exact co0 hC9 | exact hf9) (by rfl) ?_
    refine go_sipush (v := 900) (pc := 11) dX7_append_11 (by decide) ?_
    refine go_icmp_ge (tgt := 49) (pc := 14) dX7_append_14 (by decide) (fun h_14 => by exfalso; rw [hG9] at h_14; exact absurd h_14 (nI_ge (b := 900) (by omega) (by decide))) (fun h_14 => ?_)
    refine go_aload_n (pc := 17) dX7_append_17 rfl ?_
    refine go_getf (pc := 18) f_X7_9 dX7_append_18 (by first | exact co0 hC8 | exact co0 hC9 | exact hf9) (by rfl) ?_
    refine go_aload_n (pc := 21) dX7_append_21 rfl ?_
    refine go_getf (pc := 22) f_X7_13 dX7_append_22 (by first | exact co0 hC8 | exact co0 hC9 | exact hf9) (by rfl) ?_
    refine go_iload_n (pc := 25) dX7_append_25 rfl ?_
    refine go_iload_n (pc := 26) dX7_append_26 rfl ?_
    refine go_iushr (pc := 27) dX7_append_27 ?_
    refine go_sipush (v := 255) (pc := 28) dX7_append_28 (by decide) ?_
    refine go_iand (pc := 31) dX7_append_31 ?_
    refine go_iastF (pc := 32) dX7_append_32 (by first | exact co0 hC8 | exact co0 hC9 | exact hf9) (by exact ⟨hG9, by omega⟩) (fun σ ho9 hq9 => ?_)
    rw [show (24 : Int32) - 8 * nI i_q = nI (24 - 8 * i_q) from (sh_eq ⟨i_q, hi_q⟩).1, tpT_s] at ho9
    have hC8 := hC9.fs (frS.one (Γ := Γ) (ro := ro) hq9) (fun q x_q z_q => by omega)
    refine go_aload_n (pc := 33) dX7_append_33 rfl ?_
    refine go_dup (pc := 34) dX7_append_34 rfl ?_
    refine go_getf (pc := 35) f_X7_13 dX7_append_35 (by first | exact co0 hC8 | exact co0 hC9 | exact hf9) (by rfl) ?_
    refine go_iconst (v := 1) (pc := 38) dX7_append_38 (by decide) ?_
    refine go_iadd (pc := 39) dX7_append_39 ?_
    refine go_putf (fs' := [_, _, _, _, _, _, _, _, _, _, _, _, _, _, _, _]) (pc := 40) f_X7_13 dX7_append_40 (by first | exact co0 hC8 | exact co0 hC9 | exact hf9) (Nat.le_of_ble_eq_true rfl) (by rfl) rfl rfl ?_
    refine go_iinc (v := -8) (lw := [_, _, _]) (pc := 43) dX7_append_43 rfl (by decide) (by decide) rfl ?_
    refine go_goto (tgt := 3) (pc := 46) dX7_append_46 (by decide) ?_
    rw [show (24 : Int32) - 8 * nI i_q + -8 = 24 - 8 * nI (i_q + 1) from (sh_eq ⟨i_q, hi_q⟩).2.2]
    exact ih_q _ _ _ ⟨_, rfl, hC8.setG (G' := upd G9 1 (G9 1 + 1)), (by rw [pk_us, hG9, nI_1]; rfl), (fun j hj_q => (pk_un hj_q).trans (hG8 j hj_q)), sup_ne (by omega) ho9, (fun q h1_q h2_q => (sup_ne h1_q (hq9 q h2_q)).trans (hq8 q h1_q h2_q)), rfl⟩
  · rintro lv9 σ n9 ⟨G9, rfl, hC9, hG9, hG8, hf9, hq8, rfl⟩
    refine go_iload_n (pc := 3) dX7_append_3 rfl ?_
    refine go_if_lt (tgt := 49) (pc := 4) dX7_append_4 (by decide) (fun h_4 => ?_) (fun h_4 => by exfalso; exact h_4 (by decide))
    exact go_vretV (pc := 49) rfl dX7_append_49 (Nat.le_of_ble_eq_true rfl) (Nat.le_of_ble_eq_true rfl) ⟨rfl, ⟨G9, hC9, hG9, hG8⟩, hf9, hq8⟩
theorem cp_feed {Γ : gam} {ro : Nat → Nat} {z0 : sto} {n k a T : Nat} {G f_q : row} {im : Nat → Option Nat} (hC : CoAt Γ ro z0 a G im) (hf_q : z0 (a + 1) = some (cI Γ 900 f_q)) (hG_q : G 1 = nI T) (hT_q : T ≤ 900) (hk : 2 ≤ k) (v1 v2 v3 v4 v5 : Int32) : Sp Γ (rmk k 0 0) uX7_feed [.ref a, .int v1, .int v2, .int v3, .int v4, .int v5] z0 n (qI fun v_q σ' n' => n' = n ∧ ((880 < T ∧ v_q = -1 ∧ σ' = z0) ∨ (T ≤ 880 ∧ v_q = nI (T + 20) ∧ (∃ G', CoAt Γ ro σ' a G' im ∧ G' 1 = nI (T + 20) ∧ ∀ j, j ≠ 1 → G' j = G j) ∧ σ' (a + 1) = some (cI Γ 900 (fdI f_q T v1 v2 v3 v4 v5 20)) ∧ ∀ q, q ≠ a → q ≠ a + 1 → σ' q = z0 q))) := by
  refine sp_intro [some (.ref a), some (.int v1), some (.int v2), some (.int v3), some (.int v4), some (.int v5)] (by decide +kernel) rfl (Nat.le_of_ble_eq_true rfl) rfl ?_
  refine go_aload_n (pc := 0) dX7_feed_0 rfl ?_
  refine go_getf (pc := 1) f_X7_13 dX7_feed_1 (by exact co0 hC) (by rfl) ?_
  refine go_bipush (v := 20) (pc := 4) dX7_feed_4 (by decide) ?_
  refine go_iadd (pc := 6) dX7_feed_6 ?_
  refine go_sipush (v := 900) (pc := 7) dX7_feed_7 (by decide) ?_
  refine go_icmp_le (tgt := 15) (pc := 10) dX7_feed_10 (by decide) (fun h_10 => ?_) (fun h_10 => ?_)
  · have hT9 : T ≤ 880 := by
      rw [hG_q, show nI T + 20 = nI (T + 20) from nI_add T 20] at h_10
      have := (nI_leI (b := 900) (by omega) (by decide)).mp h_10
      omega
    refine go_aload_n (pc := 15) dX7_feed_15 rfl ?_
    refine go_iload_n (pc := 16) dX7_feed_16 rfl ?_
    refine go_V1V (pc := 17) v_X7_86 rfl rfl (rcv_of (ci := 7) (by exact co0 hC) rfl) dX7_feed_17 (cp_append (k := k - 1) (T := T) hC hf_q hG_q (by omega) _) (fun σ n h_q => ?_)
    obtain ⟨rfl, ⟨G17, hC, hG_q, hg17⟩, hf_q, hq17⟩ := h_q
    refine go_aload_n (pc := 20) dX7_feed_20 rfl ?_
    refine go_iload_n (pc := 21) dX7_feed_21 rfl ?_
    refine go_V1V (pc := 22) v_X7_86 rfl rfl (rcv_of (ci := 7) (by exact co0 hC) rfl) dX7_feed_22 (cp_append (k := k - 1) (T := T + 4) hC hf_q hG_q (by omega) _) (fun σ n h_q => ?_)
    obtain ⟨rfl, ⟨G22, hC, hG_q, hg22⟩, hf_q, hq22⟩ := h_q
    refine go_aload_n (pc := 25) dX7_feed_25 rfl ?_
    refine go_iload_n (pc := 26) dX7_feed_26 rfl ?_
    refine go_V1V (pc := 27) v_X7_86 rfl rfl (rcv_of (ci := 7) (by exact co0 hC) rfl) dX7_feed_27 (cp_append (k := k - 1) (T := T + 8) hC hf_q hG_q (by omega) _) (fun σ n h_q => ?_)
    obtain ⟨rfl, ⟨G27, hC, hG_q, hg27⟩, hf_q, hq27⟩ := h_q
    refine go_aload_n (pc := 30) dX7_feed_30 rfl ?_
    refine go_iload (pc := 31) dX7_feed_31 rfl ?_
    refine go_V1V (pc := 33) v_X7_86 rfl rfl (rcv_of (ci := 7) (by exact co0 hC) rfl) dX7_feed_33 (cp_append (k := k - 1) (T := T + 12) hC hf_q hG_q (by omega) _) (fun σ n h_q => ?_)
    obtain ⟨rfl, ⟨G33, hC, hG_q, hg33⟩, hf_q, hq33⟩ := h_q
    refine go_aload_n (pc := 36) dX7_feed_36 rfl ?_
    refine go_iload (pc := 37) dX7_feed_37 rfl ?_
    refine go_V1V (pc := 39) v_X7_86 rfl rfl (rcv_of (ci := 7) (by exact co0 hC) rfl) dX7_feed_39 (cp_append (k := k - 1) (T := T + 16) hC hf_q hG_q (by omega) _) (fun σ n h_q => ?_)
    obtain ⟨rfl, ⟨G39, hC, hG_q, hg39⟩, hf_q, hq39⟩ := h_q
    refine go_aload_n (pc := 42) dX7_feed_42 rfl ?_
    refine go_getf (pc := 43) f_X7_13 dX7_feed_43 (by exact co0 hC) (by rfl) ?_
    exact go_iretI (pc := 46) rfl dX7_feed_46 (Nat.le_of_ble_eq_true rfl) (Nat.le_of_ble_eq_true rfl) ⟨rfl, Or.inr ⟨hT9, hG_q, ⟨_, hC, hG_q, fun j hj_q => (hg39 j hj_q).trans ((hg33 j hj_q).trans ((hg27 j hj_q).trans ((hg22 j hj_q).trans (hg17 j hj_q))))⟩, (by rw [← tp_fd]; exact hf_q), fun q h1_q h2_q => (hq39 q h1_q h2_q).trans ((hq33 q h1_q h2_q).trans ((hq27 q h1_q h2_q).trans ((hq22 q h1_q h2_q).trans (hq17 q h1_q h2_q))))⟩⟩
  · refine go_iconst (v := -1) (pc := 13) dX7_feed_13 (by decide) ?_
    exact go_iretI (pc := 14) rfl dX7_feed_14 (Nat.le_of_ble_eq_true rfl) (Nat.le_of_ble_eq_true rfl) (by
  rw [hG_q, show nI T + 20 = nI (T + 20) from nI_add T 20] at h_10
  exact ⟨rfl, Or.inl ⟨Nat.lt_of_not_le (fun hc_q => h_10 (nI_le (b := 900) (by omega) (by decide))), rfl, rfl⟩⟩)
theorem cp_fault {Γ : gam} {ro : Nat → Nat} {z0 : sto} {n k a : Nat} {G : row} {im : Nat → Option Nat} (hC : CoAt Γ ro z0 a G im) (z_q : Int32) : Sp Γ (rmk k 0 0) uX7_fault [.ref a, .int z_q] z0 n (qP (if z_q = 0 then G 2 else if z_q = 1 then G 3 else -1) z0 n) := by
  refine sp_intro [some (.ref a), some (.int z_q)] (by decide +kernel) rfl (Nat.le_of_ble_eq_true rfl) rfl ?_
  refine go_iload_n (pc := 0) dX7_fault_0 rfl ?_
  refine go_if_ne (tgt := 9) (pc := 1) dX7_fault_1 (by decide) (fun h_1 => ?_) (fun h_1 => ?_)
  · refine go_iload_n (pc := 9) dX7_fault_9 rfl ?_
    refine go_iconst (v := 1) (pc := 10) dX7_fault_10 (by decide) ?_
    refine go_icmp_ne (tgt := 21) (pc := 11) dX7_fault_11 (by decide) (fun h_11 => ?_) (fun h_11 => ?_)
    · refine go_iconst (v := -1) (pc := 21) dX7_fault_21 (by decide) ?_
      exact go_iretP (pc := 22) rfl dX7_fault_22 (Nat.le_of_ble_eq_true rfl) (Nat.le_of_ble_eq_true rfl) (by split <;> simp_all)
    · refine go_aload_n (pc := 14) dX7_fault_14 rfl ?_
      refine go_getf (pc := 15) f_X7_20 dX7_fault_15 (co0 hC) (by rfl) ?_
      refine go_goto (tgt := 22) (pc := 18) dX7_fault_18 (by decide) ?_
      exact go_iretP (pc := 22) rfl dX7_fault_22 (Nat.le_of_ble_eq_true rfl) (Nat.le_of_ble_eq_true rfl) (by split <;> simp_all)
  · refine go_aload_n (pc := 4) dX7_fault_4 rfl ?_
    refine go_getf (pc := 5) f_X7_17 dX7_fault_5 (co0 hC) (by rfl) ?_
    exact go_iretP (pc := 8) rfl dX7_fault_8 (Nat.le_of_ble_eq_true rfl) (Nat.le_of_ble_eq_true rfl) (by split <;> simp_all)
theorem cp_count {Γ : gam} {D : Nat} {ro : Nat → Nat} {z0 : sto} {n k a b_q f_q d_q : Nat} {w : Int32} {K ag pa pf ch co rw bk G : row} {im : Nat → Option Nat} {lm lt lw : Value} (hC : CoAt Γ ro z0 a G im) (hR_q : SrAt Γ ro z0 (a + 14) b_q w (K 33) ch co rw bk) (hr_q : rS K ch co rw bk) (hw_q : w = K 32) (hQ_q : BrAt Γ D ro z0 b_q K ag pa pf lm lt lw) (hB_q : okB K) (hH : HiAt Γ ro z0 (a + 19) b_q f_q d_q K) (hk : 4 ≤ k) (z_q : Int32) : Sp Γ (rmk k 0 0) uX7_count [.ref a, .int z_q] z0 n (qP (cntK K z_q (G 1)) z0 n) := by
  have hP8 := hB_q.1.2.1
  have hH5 := hB_q.1.2.2.2.1
  have hW4 := hB_q.1.2.2.2.2.2
  refine sp_intro [some (.ref a), some (.int z_q), none] (by decide +kernel) rfl (Nat.le_of_ble_eq_true rfl) rfl ?_
  subst hw_q
  have hups : setP (upsK K) := setP_bits (by omega) setP_0
  rcases pk_ix z_q (n := 10) (by decide) with hlow | hhigh | ⟨j, hj_q, rfl⟩
  · refine go_aload_n (pc := 0) dX7_count_0 rfl ?_
    refine go_getf (pc := 1) f_X7_65 dX7_count_1 (by first | exact co0 hC | exact sr0 hR_q | exact be0 hQ_q | exact hi0 hH) (by rfl) ?_
    refine go_getf (pc := 4) f_X7_120 dX7_count_4 (by first | exact co0 hC | exact sr0 hR_q | exact be0 hQ_q | exact hi0 hH) (by rfl) ?_
    refine go_astore_n (lw := [_, _, _]) (pc := 7) dX7_count_7 (by decide) rfl ?_
    refine go_iload_n (pc := 8) dX7_count_8 rfl ?_
    refine go_tableOut (tgt := 147) (pc := 9) dX7_count_9 (tb_out (m := 10) (by decide) (by first | exact Or.inl hlow | exact Or.inr hhigh)) (by decide) ?_
    refine go_iconst (v := -1) (pc := 147) dX7_count_147 (by decide) ?_
    exact go_iretP (pc := 148) rfl dX7_count_148 (Nat.le_of_ble_eq_true rfl) (Nat.le_of_ble_eq_true rfl) (by rw [cntK_out (by first | exact Or.inl hlow | exact Or.inr hhigh)])
  · refine go_aload_n (pc := 0) dX7_count_0 rfl ?_
    refine go_getf (pc := 1) f_X7_65 dX7_count_1 (by first | exact co0 hC | exact sr0 hR_q | exact be0 hQ_q | exact hi0 hH) (by rfl) ?_
    refine go_getf (pc := 4) f_X7_120 dX7_count_4 (by first | exact co0 hC | exact sr0 hR_q | exact be0 hQ_q | exact hi0 hH) (by rfl) ?_
    refine go_astore_n (lw := [_, _, _]) (pc := 7) dX7_count_7 (by decide) rfl ?_
    refine go_iload_n (pc := 8) dX7_count_8 rfl ?_
    refine go_tableOut (tgt := 147) (pc := 9) dX7_count_9 (tb_out (m := 10) (by decide) (by first | exact Or.inl hlow | exact Or.inr hhigh)) (by decide) ?_
    refine go_iconst (v := -1) (pc := 147) dX7_count_147 (by decide) ?_
    exact go_iretP (pc := 148) rfl dX7_count_148 (Nat.le_of_ble_eq_true rfl) (Nat.le_of_ble_eq_true rfl) (by rw [cntK_out (by first | exact Or.inl hlow | exact Or.inr hhigh)])
  · rcases (show j = 0 ∨ j = 1 ∨ j = 2 ∨ j = 3 ∨ j = 4 ∨ j = 5 ∨ j = 6 ∨ j = 7 ∨ j = 8 ∨ j = 9 by omega) with rfl | rfl | rfl | rfl | rfl | rfl | rfl | rfl | rfl | rfl
    · refine go_aload_n (pc := 0) dX7_count_0 rfl ?_
      refine go_getf (pc := 1) f_X7_65 dX7_count_1 (by first | exact co0 hC | exact sr0 hR_q | exact be0 hQ_q | exact hi0 hH) (by rfl) ?_
      refine go_getf (pc := 4) f_X7_120 dX7_count_4 (by first | exact co0 hC | exact sr0 hR_q | exact be0 hQ_q | exact hi0 hH) (by rfl) ?_
      refine go_astore_n (lw := [_, _, _]) (pc := 7) dX7_count_7 (by decide) rfl ?_
      refine go_iload_n (pc := 8) dX7_count_8 rfl ?_
      refine go_tableIn (off := 55) (tgt := 64) (pc := 9) dX7_count_9 (by decide) (by decide) rfl (by decide) ?_
      refine go_aload_n (pc := 64) dX7_count_64 rfl ?_
      refine go_getf (pc := 65) f_X7_124 dX7_count_65 (by first | exact co0 hC | exact sr0 hR_q | exact be0 hQ_q | exact hi0 hH) (by rfl) ?_
      exact go_iretP (pc := 68) rfl dX7_count_68 (Nat.le_of_ble_eq_true rfl) (Nat.le_of_ble_eq_true rfl) (by rfl)
    · refine go_aload_n (pc := 0) dX7_count_0 rfl ?_
      refine go_getf (pc := 1) f_X7_65 dX7_count_1 (by first | exact co0 hC | exact sr0 hR_q | exact be0 hQ_q | exact hi0 hH) (by rfl) ?_
      refine go_getf (pc := 4) f_X7_120 dX7_count_4 (by first | exact co0 hC | exact sr0 hR_q | exact be0 hQ_q | exact hi0 hH) (by rfl) ?_
      refine go_astore_n (lw := [_, _, _]) (pc := 7) dX7_count_7 (by decide) rfl ?_
      refine go_iload_n (pc := 8) dX7_count_8 rfl ?_
      refine go_tableIn (off := 60) (tgt := 69) (pc := 9) dX7_count_9 (by decide) (by decide) rfl (by decide) ?_
      refine go_aload_n (pc := 69) dX7_count_69 rfl ?_
      refine go_getf (pc := 70) f_X7_324 dX7_count_70 (by first | exact co0 hC | exact sr0 hR_q | exact be0 hQ_q | exact hi0 hH) (by rfl) ?_
      exact go_iretP (pc := 73) rfl dX7_count_73 (Nat.le_of_ble_eq_true rfl) (Nat.le_of_ble_eq_true rfl) (by rfl)
    · refine go_aload_n (pc := 0) dX7_count_0 rfl ?_
      refine go_getf (pc := 1) f_X7_65 dX7_count_1 (by first | exact co0 hC | exact sr0 hR_q | exact be0 hQ_q | exact hi0 hH) (by rfl) ?_
      refine go_getf (pc := 4) f_X7_120 dX7_count_4 (by first | exact co0 hC | exact sr0 hR_q | exact be0 hQ_q | exact hi0 hH) (by rfl) ?_
      refine go_astore_n (lw := [_, _, _]) (pc := 7) dX7_count_7 (by decide) rfl ?_
      refine go_iload_n (pc := 8) dX7_count_8 rfl ?_
      refine go_tableIn (off := 65) (tgt := 74) (pc := 9) dX7_count_9 (by decide) (by decide) rfl (by decide) ?_
      refine go_aload_n (pc := 74) dX7_count_74 rfl ?_
      refine go_getf (pc := 75) f_X7_266 dX7_count_75 (by first | exact co0 hC | exact sr0 hR_q | exact be0 hQ_q | exact hi0 hH) (by rfl) ?_
      exact go_iretP (pc := 78) rfl dX7_count_78 (Nat.le_of_ble_eq_true rfl) (Nat.le_of_ble_eq_true rfl) (by rfl)
    · refine go_aload_n (pc := 0) dX7_count_0 rfl ?_
      refine go_getf (pc := 1) f_X7_65 dX7_count_1 (by first | exact co0 hC | exact sr0 hR_q | exact be0 hQ_q | exact hi0 hH) (by rfl) ?_
      refine go_getf (pc := 4) f_X7_120 dX7_count_4 (by first | exact co0 hC | exact sr0 hR_q | exact be0 hQ_q | exact hi0 hH) (by rfl) ?_
      refine go_astore_n (lw := [_, _, _]) (pc := 7) dX7_count_7 (by decide) rfl ?_
      refine go_iload_n (pc := 8) dX7_count_8 rfl ?_
      refine go_tableIn (off := 70) (tgt := 79) (pc := 9) dX7_count_9 (by decide) (by decide) rfl (by decide) ?_
      refine go_aload_n (pc := 79) dX7_count_79 rfl ?_
      refine go_getf (pc := 80) f_X7_263 dX7_count_80 (by first | exact co0 hC | exact sr0 hR_q | exact be0 hQ_q | exact hi0 hH) (by rfl) ?_
      exact go_iretP (pc := 83) rfl dX7_count_83 (Nat.le_of_ble_eq_true rfl) (Nat.le_of_ble_eq_true rfl) (by rfl)
    · refine go_aload_n (pc := 0) dX7_count_0 rfl ?_
      refine go_getf (pc := 1) f_X7_65 dX7_count_1 (by first | exact co0 hC | exact sr0 hR_q | exact be0 hQ_q | exact hi0 hH) (by rfl) ?_
      refine go_getf (pc := 4) f_X7_120 dX7_count_4 (by first | exact co0 hC | exact sr0 hR_q | exact be0 hQ_q | exact hi0 hH) (by rfl) ?_
      refine go_astore_n (lw := [_, _, _]) (pc := 7) dX7_count_7 (by decide) rfl ?_
      refine go_iload_n (pc := 8) dX7_count_8 rfl ?_
      refine go_tableIn (off := 75) (tgt := 84) (pc := 9) dX7_count_9 (by decide) (by decide) rfl (by decide) ?_
      refine go_aload_n (pc := 84) dX7_count_84 rfl ?_
      refine go_getf (pc := 85) f_X7_65 dX7_count_85 (by first | exact co0 hC | exact sr0 hR_q | exact be0 hQ_q | exact hi0 hH) (by rfl) ?_
      refine go_V0P (pc := 88) v_X7_301 rfl rfl (rcv_of (ci := 5) (by first | exact co0 hC | exact sr0 hR_q | exact be0 hQ_q | exact hi0 hH) rfl) dX7_count_88 (cp_whoIsUp (k := k - 1) hR_q hr_q hQ_q hB_q (by omega)) ?_
      exact go_iretP (pc := 91) rfl dX7_count_91 (Nat.le_of_ble_eq_true rfl) (Nat.le_of_ble_eq_true rfl) (by rfl)
    · refine go_aload_n (pc := 0) dX7_count_0 rfl ?_
      refine go_getf (pc := 1) f_X7_65 dX7_count_1 (by first | exact co0 hC | exact sr0 hR_q | exact be0 hQ_q | exact hi0 hH) (by rfl) ?_
      refine go_getf (pc := 4) f_X7_120 dX7_count_4 (by first | exact co0 hC | exact sr0 hR_q | exact be0 hQ_q | exact hi0 hH) (by rfl) ?_
      refine go_astore_n (lw := [_, _, _]) (pc := 7) dX7_count_7 (by decide) rfl ?_
      refine go_iload_n (pc := 8) dX7_count_8 rfl ?_
      refine go_tableIn (off := 83) (tgt := 92) (pc := 9) dX7_count_9 (by decide) (by decide) rfl (by decide) ?_
      refine go_aload_n (pc := 92) dX7_count_92 rfl ?_
      refine go_getf (pc := 93) f_X7_65 dX7_count_93 (by first | exact co0 hC | exact sr0 hR_q | exact be0 hQ_q | exact hi0 hH) (by rfl) ?_
      refine go_getf (pc := 96) f_X7_150 dX7_count_96 (by first | exact co0 hC | exact sr0 hR_q | exact be0 hQ_q | exact hi0 hH) (by rfl) ?_
      exact go_iretP (pc := 99) rfl dX7_count_99 (Nat.le_of_ble_eq_true rfl) (Nat.le_of_ble_eq_true rfl) (by rfl)
    · refine go_aload_n (pc := 0) dX7_count_0 rfl ?_
      refine go_getf (pc := 1) f_X7_65 dX7_count_1 (by first | exact co0 hC | exact sr0 hR_q | exact be0 hQ_q | exact hi0 hH) (by rfl) ?_
      refine go_getf (pc := 4) f_X7_120 dX7_count_4 (by first | exact co0 hC | exact sr0 hR_q | exact be0 hQ_q | exact hi0 hH) (by rfl) ?_
      refine go_astore_n (lw := [_, _, _]) (pc := 7) dX7_count_7 (by decide) rfl ?_
      refine go_iload_n (pc := 8) dX7_count_8 rfl ?_
      refine go_tableIn (off := 91) (tgt := 100) (pc := 9) dX7_count_9 (by decide) (by decide) rfl (by decide) ?_
      refine go_aload_n (pc := 100) dX7_count_100 rfl ?_
      refine go_getf (pc := 101) f_X7_65 dX7_count_101 (by first | exact co0 hC | exact sr0 hR_q | exact be0 hQ_q | exact hi0 hH) (by rfl) ?_
      refine go_getf (pc := 104) f_X7_162 dX7_count_104 (by first | exact co0 hC | exact sr0 hR_q | exact be0 hQ_q | exact hi0 hH) (by rfl) ?_
      exact go_iretP (pc := 107) rfl dX7_count_107 (Nat.le_of_ble_eq_true rfl) (Nat.le_of_ble_eq_true rfl) (by rfl)
    · refine go_aload_n (pc := 0) dX7_count_0 rfl ?_
      refine go_getf (pc := 1) f_X7_65 dX7_count_1 (by first | exact co0 hC | exact sr0 hR_q | exact be0 hQ_q | exact hi0 hH) (by rfl) ?_
      refine go_getf (pc := 4) f_X7_120 dX7_count_4 (by first | exact co0 hC | exact sr0 hR_q | exact be0 hQ_q | exact hi0 hH) (by rfl) ?_
      refine go_astore_n (lw := [_, _, _]) (pc := 7) dX7_count_7 (by decide) rfl ?_
      refine go_iload_n (pc := 8) dX7_count_8 rfl ?_
      refine go_tableIn (off := 99) (tgt := 108) (pc := 9) dX7_count_9 (by decide) (by decide) rfl (by decide) ?_
      refine go_aload_n (pc := 108) dX7_count_108 rfl ?_
      refine go_getf (pc := 109) f_X7_324 dX7_count_109 (by first | exact co0 hC | exact sr0 hR_q | exact be0 hQ_q | exact hi0 hH) (by rfl) ?_
      refine go_aload_n (pc := 112) dX7_count_112 rfl ?_
      refine go_getf (pc := 113) f_X7_266 dX7_count_113 (by first | exact co0 hC | exact sr0 hR_q | exact be0 hQ_q | exact hi0 hH) (by rfl) ?_
      refine go_imul (pc := 116) dX7_count_116 ?_
      refine go_aload_n (pc := 117) dX7_count_117 rfl ?_
      refine go_getf (pc := 118) f_X7_263 dX7_count_118 (by first | exact co0 hC | exact sr0 hR_q | exact be0 hQ_q | exact hi0 hH) (by rfl) ?_
      refine go_isub (pc := 121) dX7_count_121 ?_
      refine go_aload_n (pc := 122) dX7_count_122 rfl ?_
      refine go_getf (pc := 123) f_X7_65 dX7_count_123 (by first | exact co0 hC | exact sr0 hR_q | exact be0 hQ_q | exact hi0 hH) (by rfl) ?_
      refine go_V0P (pc := 126) v_X7_301 rfl rfl (rcv_of (ci := 5) (by first | exact co0 hC | exact sr0 hR_q | exact be0 hQ_q | exact hi0 hH) rfl) dX7_count_126 (cp_whoIsUp (k := k - 1) hR_q hr_q hQ_q hB_q (by omega)) ?_
      refine go_S1P (pc := 129) s_X7_198 rfl rfl dX7_count_129 (cp_bitCount (k := k - 1) hups) ?_
      refine go_iadd (pc := 132) dX7_count_132 ?_
      exact go_iretP (pc := 133) rfl dX7_count_133 (Nat.le_of_ble_eq_true rfl) (Nat.le_of_ble_eq_true rfl) (by rfl)
    · refine go_aload_n (pc := 0) dX7_count_0 rfl ?_
      refine go_getf (pc := 1) f_X7_65 dX7_count_1 (by first | exact co0 hC | exact sr0 hR_q | exact be0 hQ_q | exact hi0 hH) (by rfl) ?_
      refine go_getf (pc := 4) f_X7_120 dX7_count_4 (by first | exact co0 hC | exact sr0 hR_q | exact be0 hQ_q | exact hi0 hH) (by rfl) ?_
      refine go_astore_n (lw := [_, _, _]) (pc := 7) dX7_count_7 (by decide) rfl ?_
      refine go_iload_n (pc := 8) dX7_count_8 rfl ?_
      refine go_tableIn (off := 125) (tgt := 134) (pc := 9) dX7_count_9 (by decide) (by decide) rfl (by decide) ?_
      refine go_aload_n (pc := 134) dX7_count_134 rfl ?_
      refine go_getf (pc := 135) f_X7_72 dX7_count_135 (by first | exact co0 hC | exact sr0 hR_q | exact be0 hQ_q | exact hi0 hH) (by rfl) ?_
      refine go_getf (pc := 138) f_X7_210 dX7_count_138 (by first | exact co0 hC | exact sr0 hR_q | exact be0 hQ_q | exact hi0 hH) (by rfl) ?_
      exact go_iretP (pc := 141) rfl dX7_count_141 (Nat.le_of_ble_eq_true rfl) (Nat.le_of_ble_eq_true rfl) (by exact hH.2.1.2.2.symm)
    · refine go_aload_n (pc := 0) dX7_count_0 rfl ?_
      refine go_getf (pc := 1) f_X7_65 dX7_count_1 (by first | exact co0 hC | exact sr0 hR_q | exact be0 hQ_q | exact hi0 hH) (by rfl) ?_
      refine go_getf (pc := 4) f_X7_120 dX7_count_4 (by first | exact co0 hC | exact sr0 hR_q | exact be0 hQ_q | exact hi0 hH) (by rfl) ?_
      refine go_astore_n (lw := [_, _, _]) (pc := 7) dX7_count_7 (by decide) rfl ?_
      refine go_iload_n (pc := 8) dX7_count_8 rfl ?_
      refine go_tableIn (off := 133) (tgt := 142) (pc := 9) dX7_count_9 (by decide) (by decide) rfl (by decide) ?_
      refine go_aload_n (pc := 142) dX7_count_142 rfl ?_
      refine go_getf (pc := 143) f_X7_13 dX7_count_143 (by first | exact co0 hC | exact sr0 hR_q | exact be0 hQ_q | exact hi0 hH) (by rfl) ?_
      exact go_iretP (pc := 146) rfl dX7_count_146 (Nat.le_of_ble_eq_true rfl) (Nat.le_of_ble_eq_true rfl) (by rfl)
