/-! ===== the class: rise, sit, swap, minutes, undo ===== -/
theorem cp_rise {Γ : gam} {D : Nat} {ro : Nat → Nat} {z0 : sto} {n k a b_q f_q d_q : Nat} {w : Int32} {K ag pa pf ch co rw bk G : row} {im : Nat → Option Nat} {lm lt lw : Value} (hC : CoAt Γ ro z0 a G im) (hR_q : SrAt Γ ro z0 (a + 14) b_q w (K 33) ch co rw bk) (hr_q : rS K ch co rw bk) (hw_q : w = K 32) (hQ_q : BrAt Γ D ro z0 b_q K ag pa pf lm lt lw) (hB_q : okB K) (hg_q : gS K) (hH : HiAt Γ ro z0 (a + 19) b_q f_q d_q K) (hD : a + 113 < D) (hsb : b_q = a + 10 ∨ a + 113 < b_q) (hk : 8 ≤ k) (z_q : Int32) : Sp Γ (rmk k 0 0) uX7_rise [.ref a, .int z_q] z0 n (qI fun v_q σ' n' => v_q = (aRise K z_q.toInt).1 ∧ n' = n ∧ StAt Γ ro σ' a b_q (aRise K z_q.toInt).2 ∧ frS Γ ro (dS a) z0 σ') := by
  have hP8 := hB_q.1.2.1
  have hH5 := hB_q.1.2.2.2.1
  have hW4 := hB_q.1.2.2.2.2.2
  refine sp_intro [some (.ref a), some (.int z_q), none] (by decide +kernel) rfl (Nat.le_of_ble_eq_true rfl) rfl ?_
  refine go_aload_n (pc := 0) dX7_rise_0 rfl ?_
  refine go_getf (pc := 1) f_X7_65 dX7_rise_1 (by first | exact co0 hC | exact sr0 hR_q | exact be0 hQ_q | exact hi0 hH | exact co0 hC9 | exact sr0 hR9 | exact be0 hQ9 | exact hi0 hH9 | exact sr3 hR_q) (by rfl) ?_
  refine go_iload_n (pc := 4) dX7_rise_4 rfl ?_
  refine go_V1P (pc := 5) v_X7_177 rfl rfl (rcv_of (ci := 5) (by first | exact co0 hC | exact sr0 hR_q | exact be0 hQ_q | exact hi0 hH | exact co0 hC9 | exact sr0 hR9 | exact be0 hQ9 | exact hi0 hH9 | exact sr3 hR_q) rfl) dX7_rise_5 (cp_whyNotLeave (k := k - 1) hR_q hr_q hQ_q (by omega) hB_q _) ?_
  refine go_istore_n (lw := [_, _, _]) (pc := 8) dX7_rise_8 (by decide) rfl ?_
  refine go_iload_n (pc := 9) dX7_rise_9 rfl ?_
  refine go_if_eq (tgt := 16) (pc := 10) dX7_rise_10 (by decide) (fun h_10 => ?_) (fun h_10 => ?_)
  · obtain ⟨j1_q, hj1, hu1, ha1⟩ := whyR_0 h_10
    have hz1 := pN_some hj1
    obtain rfl := I_nat hz1.1 (by omega)
    have e1_q : (nI j1_q).toInt.toNat = j1_q := by rw [nI_toInt (by omega)]; rfl
    refine go_aload_n (pc := 16) dX7_rise_16 rfl ?_
    refine go_getf (pc := 17) f_X7_72 dX7_rise_17 (by first | exact co0 hC | exact sr0 hR_q | exact be0 hQ_q | exact hi0 hH | exact co0 hC9 | exact sr0 hR9 | exact be0 hQ9 | exact hi0 hH9 | exact sr3 hR_q) (by rfl) ?_
    refine go_aload_n (pc := 20) dX7_rise_20 rfl ?_
    refine go_getf (pc := 21) f_X7_65 dX7_rise_21 (by first | exact co0 hC | exact sr0 hR_q | exact be0 hQ_q | exact hi0 hH | exact co0 hC9 | exact sr0 hR9 | exact be0 hQ9 | exact hi0 hH9 | exact sr3 hR_q) (by rfl) ?_
    refine go_V1V (pc := 24) v_X7_180 rfl rfl (rcv_of (ci := 1) (by first | exact co0 hC | exact sr0 hR_q | exact be0 hQ_q | exact hi0 hH | exact co0 hC9 | exact sr0 hR9 | exact be0 hQ9 | exact hi0 hH9 | exact sr3 hR_q) rfl) dX7_rise_24 (cp_keep (k := k - 1) hH hR_q hr_q hw_q hB_q (by omega) (by omega)) (fun σ n h_q => ?_)
    obtain ⟨rfl, ⟨f1, d1, hH9⟩, hf1⟩ := h_q
    have sU := keepK_same hH.2.1.2.2 hH.2.1.2.1
    have hC9 := hC.fs hf1 (fun q x_q z_q => by omega)
    have hR9 : SrAt Γ ro σ (a + 14) b_q w (keepK K 33) ch co rw bk := by rw [sU 33 (by omega)]; exact hR_q.fs hf1 (fun q x_q y_q z_q => by omega)
    have hr9_q : rS (keepK K) ch co rw bk := rS_eq hr_q hP8 (fun j hj_q => sU j (by omega))
    have hQ9 := (hQ_q.fs hf1 (fun q x_q z_q => by omega) (fun q x_q y_q z_q => by omega)).su sU hP8
    have hB9_q := sU.okB hB_q
    have hg9_q : gS (keepK K) := gS_eq hg_q hP8 (fun j hj_q => sU j (by omega))
    have hw9 : w = keepK K 32 := hw_q.trans (sU 32 (by omega)).symm
    have eP_q := sU.P
    have eH_q := sU.H
    have eW := sU.W
    refine go_aload_n (pc := 27) dX7_rise_27 rfl ?_
    refine go_getf (pc := 28) f_X7_65 dX7_rise_28 (by first | exact co0 hC | exact sr0 hR_q | exact be0 hQ_q | exact hi0 hH | exact co0 hC9 | exact sr0 hR9 | exact be0 hQ9 | exact hi0 hH9 | exact sr3 hR_q) (by rfl) ?_
    refine go_iload_n (pc := 31) dX7_rise_31 rfl ?_
    refine go_V1I (pc := 32) v_X7_183 rfl rfl (rcv_of (ci := 5) (by first | exact co0 hC | exact sr0 hR_q | exact be0 hQ_q | exact hi0 hH | exact co0 hC9 | exact sr0 hR9 | exact be0 hQ9 | exact hi0 hH9 | exact sr3 hR_q) rfl) dX7_rise_32 (cp_leave (k := k - 1) hR9 hr9_q hQ9 hB9_q hg9_q (by omega) (by omega) (by omega) (by omega) (by rw [sU (16 + j1_q) (by omega)]; exact hu1)) (fun v_32 σ n h_q => ?_)
    obtain ⟨rfl, rfl, hS2, hf2⟩ := h_q
    exact go_iretI (pc := 35) rfl dX7_rise_35 (Nat.le_of_ble_eq_true rfl) (Nat.le_of_ble_eq_true rfl) (by
  have e32 : w = (riseK (keepK K) j1_q (-1)).1 32 := by rw [rise_hi (by omega) (by omega) (by omega)]; exact hw9
  have eA : aRise K (nI j1_q).toInt = (nI (riseK (keepK K) j1_q (-1)).2, (riseK (keepK K) j1_q (-1)).1) := by rw [aRise, if_pos h_10, e1_q]
  rw [eA]
  exact ⟨rfl, rfl, St_of hS2 e32 hH9 (by omega) (riseK_same (by omega) (by omega)) hf2, ((hf1.wk (S' := dS a) (fun q x_q => by omega)).tr (hf2.toS (fun q x_q y_q => by omega)))⟩)
  · refine go_iload_n (pc := 13) dX7_rise_13 rfl ?_
    refine go_ineg (pc := 14) dX7_rise_14 ?_
    exact go_iretI (pc := 15) rfl dX7_rise_15 (Nat.le_of_ble_eq_true rfl) (Nat.le_of_ble_eq_true rfl) ⟨(by rw [aRise, if_neg h_10]), rfl, (by rw [aRise, if_neg h_10]; exact (St_0 hR_q hr_q hw_q hH)), frS.rf⟩
theorem cp_sit {Γ : gam} {D : Nat} {ro : Nat → Nat} {z0 : sto} {n k a b_q f_q d_q : Nat} {w : Int32} {K ag pa pf ch co rw bk G : row} {im : Nat → Option Nat} {lm lt lw : Value} (hC : CoAt Γ ro z0 a G im) (hR_q : SrAt Γ ro z0 (a + 14) b_q w (K 33) ch co rw bk) (hr_q : rS K ch co rw bk) (hw_q : w = K 32) (hQ_q : BrAt Γ D ro z0 b_q K ag pa pf lm lt lw) (hB_q : okB K) (hg_q : gS K) (hH : HiAt Γ ro z0 (a + 19) b_q f_q d_q K) (hD : a + 113 < D) (hsb : b_q = a + 10 ∨ a + 113 < b_q) (hk : 8 ≤ k) (z_q y_q : Int32) : Sp Γ (rmk k 0 0) uX7_sit [.ref a, .int z_q, .int y_q] z0 n (qI fun v_q σ' n' => v_q = (aSit K z_q.toInt y_q.toInt).1 ∧ n' = n ∧ StAt Γ ro σ' a b_q (aSit K z_q.toInt y_q.toInt).2 ∧ frS Γ ro (dS a) z0 σ') := by
  have hP8 := hB_q.1.2.1
  have hH5 := hB_q.1.2.2.2.1
  have hW4 := hB_q.1.2.2.2.2.2
  refine sp_intro [some (.ref a), some (.int z_q), some (.int y_q), none] (by decide +kernel) rfl (Nat.le_of_ble_eq_true rfl) rfl ?_
  refine go_aload_n (pc := 0) dX7_sit_0 rfl ?_
  refine go_getf (pc := 1) f_X7_65 dX7_sit_1 (by first | exact co0 hC | exact sr0 hR_q | exact be0 hQ_q | exact hi0 hH | exact co0 hC9 | exact sr0 hR9 | exact be0 hQ9 | exact hi0 hH9 | exact sr3 hR_q) (by rfl) ?_
  refine go_iload_n (pc := 4) dX7_sit_4 rfl ?_
  refine go_iload_n (pc := 5) dX7_sit_5 rfl ?_
  refine go_V2P (pc := 6) v_X7_186 rfl rfl (rcv_of (ci := 5) (by first | exact co0 hC | exact sr0 hR_q | exact be0 hQ_q | exact hi0 hH | exact co0 hC9 | exact sr0 hR9 | exact be0 hQ9 | exact hi0 hH9 | exact sr3 hR_q) rfl) dX7_sit_6 (cp_whyNotTake (k := k - 1) hR_q hr_q hQ_q (by omega) hB_q _ _) ?_
  refine go_istore_n (lw := [_, _, _, _]) (pc := 9) dX7_sit_9 (by decide) rfl ?_
  refine go_iload_n (pc := 10) dX7_sit_10 rfl ?_
  refine go_if_eq (tgt := 17) (pc := 11) dX7_sit_11 (by decide) (fun h_11 => ?_) (fun h_11 => ?_)
  · obtain ⟨j1_q, c1, hj1, hc1, hu1, hf0⟩ := whyS_0 h_11
    have hz1 := pN_some hj1
    have hz2 := pN_some hc1
    obtain rfl := I_nat hz1.1 (by omega)
    obtain rfl := I_nat hz2.1 (by omega)
    have e1_q : (nI j1_q).toInt.toNat = j1_q := by rw [nI_toInt (by omega)]; rfl
    have e2_q : (nI c1).toInt.toNat = c1 := by rw [nI_toInt (by omega)]; rfl
    refine go_aload_n (pc := 17) dX7_sit_17 rfl ?_
    refine go_getf (pc := 18) f_X7_72 dX7_sit_18 (by first | exact co0 hC | exact sr0 hR_q | exact be0 hQ_q | exact hi0 hH | exact co0 hC9 | exact sr0 hR9 | exact be0 hQ9 | exact hi0 hH9 | exact sr3 hR_q) (by rfl) ?_
    refine go_aload_n (pc := 21) dX7_sit_21 rfl ?_
    refine go_getf (pc := 22) f_X7_65 dX7_sit_22 (by first | exact co0 hC | exact sr0 hR_q | exact be0 hQ_q | exact hi0 hH | exact co0 hC9 | exact sr0 hR9 | exact be0 hQ9 | exact hi0 hH9 | exact sr3 hR_q) (by rfl) ?_
    refine go_V1V (pc := 25) v_X7_180 rfl rfl (rcv_of (ci := 1) (by first | exact co0 hC | exact sr0 hR_q | exact be0 hQ_q | exact hi0 hH | exact co0 hC9 | exact sr0 hR9 | exact be0 hQ9 | exact hi0 hH9 | exact sr3 hR_q) rfl) dX7_sit_25 (cp_keep (k := k - 1) hH hR_q hr_q hw_q hB_q (by omega) (by omega)) (fun σ n h_q => ?_)
    obtain ⟨rfl, ⟨f1, d1, hH9⟩, hf1⟩ := h_q
    have sU := keepK_same hH.2.1.2.2 hH.2.1.2.1
    have hC9 := hC.fs hf1 (fun q x_q z_q => by omega)
    have hR9 : SrAt Γ ro σ (a + 14) b_q w (keepK K 33) ch co rw bk := by rw [sU 33 (by omega)]; exact hR_q.fs hf1 (fun q x_q y_q z_q => by omega)
    have hr9_q : rS (keepK K) ch co rw bk := rS_eq hr_q hP8 (fun j hj_q => sU j (by omega))
    have hQ9 := (hQ_q.fs hf1 (fun q x_q z_q => by omega) (fun q x_q y_q z_q => by omega)).su sU hP8
    have hB9_q := sU.okB hB_q
    have hg9_q : gS (keepK K) := gS_eq hg_q hP8 (fun j hj_q => sU j (by omega))
    have hw9 : w = keepK K 32 := hw_q.trans (sU 32 (by omega)).symm
    have eP_q := sU.P
    have eH_q := sU.H
    have eW := sU.W
    refine go_aload_n (pc := 28) dX7_sit_28 rfl ?_
    refine go_getf (pc := 29) f_X7_65 dX7_sit_29 (by first | exact co0 hC | exact sr0 hR_q | exact be0 hQ_q | exact hi0 hH | exact co0 hC9 | exact sr0 hR9 | exact be0 hQ9 | exact hi0 hH9 | exact sr3 hR_q) (by rfl) ?_
    refine go_iload_n (pc := 32) dX7_sit_32 rfl ?_
    refine go_iload_n (pc := 33) dX7_sit_33 rfl ?_
    refine go_V2I (pc := 34) v_X7_189 rfl rfl (rcv_of (ci := 5) (by first | exact co0 hC | exact sr0 hR_q | exact be0 hQ_q | exact hi0 hH | exact co0 hC9 | exact sr0 hR9 | exact be0 hQ9 | exact hi0 hH9 | exact sr3 hR_q) rfl) dX7_sit_34 (cp_take (k := k - 1) hR9 hr9_q hQ9 hB9_q hg9_q (by omega) (by omega) (by omega) (by omega) (by rw [sU (16 + j1_q) (by omega)]; exact hu1) (by omega)) (fun v_34 σ n h_q => ?_)
    obtain ⟨rfl, rfl, hS2, hf2⟩ := h_q
    exact go_iretI (pc := 37) rfl dX7_sit_37 (Nat.le_of_ble_eq_true rfl) (Nat.le_of_ble_eq_true rfl) (by
  have hfn : ¬ freeK (keepK K) (nI c1) = none := by rw [free_U sU hP8]; exact hf0
  have etk : takK (keepK K) j1_q (nI c1) = sitdK (keepK K) j1_q (nI c1) := if_neg hfn
  rw [etk] at hS2
  have e32 : w = sitdK (keepK K) j1_q (nI c1) 32 := by rw [sitd_hi (by omega) (by omega)]; exact hw9
  have eA : aSit K (nI j1_q).toInt (nI c1).toInt = (oI (freeK (keepK K) (nI c1)), sitdK (keepK K) j1_q (nI c1)) := by rw [aSit, if_pos h_11, e1_q, e2_q]
  rw [eA]
  exact ⟨rfl, rfl, St_of hS2 e32 hH9 (by omega) (sitdK_same (by omega)) hf2, ((hf1.wk (S' := dS a) (fun q x_q => by omega)).tr (hf2.toS (fun q x_q y_q => by omega)))⟩)
  · refine go_iload_n (pc := 14) dX7_sit_14 rfl ?_
    refine go_ineg (pc := 15) dX7_sit_15 ?_
    exact go_iretI (pc := 16) rfl dX7_sit_16 (Nat.le_of_ble_eq_true rfl) (Nat.le_of_ble_eq_true rfl) ⟨(by rw [aSit, if_neg h_11]), rfl, (by rw [aSit, if_neg h_11]; exact (St_0 hR_q hr_q hw_q hH)), frS.rf⟩
theorem cp_swap {Γ : gam} {D : Nat} {ro : Nat → Nat} {z0 : sto} {n k a b_q f_q d_q : Nat} {w : Int32} {K ag pa pf ch co rw bk G : row} {im : Nat → Option Nat} {lm lt lw : Value} (hC : CoAt Γ ro z0 a G im) (hR_q : SrAt Γ ro z0 (a + 14) b_q w (K 33) ch co rw bk) (hr_q : rS K ch co rw bk) (hw_q : w = K 32) (hQ_q : BrAt Γ D ro z0 b_q K ag pa pf lm lt lw) (hB_q : okB K) (hg_q : gS K) (hH : HiAt Γ ro z0 (a + 19) b_q f_q d_q K) (hD : a + 113 < D) (hsb : b_q = a + 10 ∨ a + 113 < b_q) (hk : 8 ≤ k) (z_q y_q : Int32) : Sp Γ (rmk k 0 0) uX7_swap [.ref a, .int z_q, .int y_q] z0 n (qI fun v_q σ' n' => v_q = (aSwap K z_q.toInt y_q.toInt).1 ∧ n' = n ∧ StAt Γ ro σ' a b_q (aSwap K z_q.toInt y_q.toInt).2 ∧ frS Γ ro (dS a) z0 σ') := by
  have hP8 := hB_q.1.2.1
  have hH5 := hB_q.1.2.2.2.1
  have hW4 := hB_q.1.2.2.2.2.2
  refine sp_intro [some (.ref a), some (.int z_q), some (.int y_q), none] (by decide +kernel) rfl (Nat.le_of_ble_eq_true rfl) rfl ?_
  refine go_aload_n (pc := 0) dX7_swap_0 rfl ?_
  refine go_getf (pc := 1) f_X7_65 dX7_swap_1 (by first | exact co0 hC | exact sr0 hR_q | exact be0 hQ_q | exact hi0 hH | exact co0 hC9 | exact sr0 hR9 | exact be0 hQ9 | exact hi0 hH9 | exact sr3 hR_q) (by rfl) ?_
  refine go_iload_n (pc := 4) dX7_swap_4 rfl ?_
  refine go_iload_n (pc := 5) dX7_swap_5 rfl ?_
  refine go_V2P (pc := 6) v_X7_192 rfl rfl (rcv_of (ci := 5) (by first | exact co0 hC | exact sr0 hR_q | exact be0 hQ_q | exact hi0 hH | exact co0 hC9 | exact sr0 hR9 | exact be0 hQ9 | exact hi0 hH9 | exact sr3 hR_q) rfl) dX7_swap_6 (cp_whyNotExchange (k := k - 1) hR_q hr_q hQ_q (by omega) hB_q _ _) ?_
  refine go_istore_n (lw := [_, _, _, _]) (pc := 9) dX7_swap_9 (by decide) rfl ?_
  refine go_iload_n (pc := 10) dX7_swap_10 rfl ?_
  refine go_if_eq (tgt := 17) (pc := 11) dX7_swap_11 (by decide) (fun h_11 => ?_) (fun h_11 => ?_)
  · obtain ⟨j1_q, c1, hj1, hc1, hne1, hu1, hu2⟩ := whyX_0 h_11
    have hz1 := pN_some hj1
    have hz2 := pN_some hc1
    obtain rfl := I_nat hz1.1 (by omega)
    obtain rfl := I_nat hz2.1 (by omega)
    have e1_q : (nI j1_q).toInt.toNat = j1_q := by rw [nI_toInt (by omega)]; rfl
    have e2_q : (nI c1).toInt.toNat = c1 := by rw [nI_toInt (by omega)]; rfl
    refine go_aload_n (pc := 17) dX7_swap_17 rfl ?_
    refine go_getf (pc := 18) f_X7_72 dX7_swap_18 (by first | exact co0 hC | exact sr0 hR_q | exact be0 hQ_q | exact hi0 hH | exact co0 hC9 | exact sr0 hR9 | exact be0 hQ9 | exact hi0 hH9 | exact sr3 hR_q) (by rfl) ?_
    refine go_aload_n (pc := 21) dX7_swap_21 rfl ?_
    refine go_getf (pc := 22) f_X7_65 dX7_swap_22 (by first | exact co0 hC | exact sr0 hR_q | exact be0 hQ_q | exact hi0 hH | exact co0 hC9 | exact sr0 hR9 | exact be0 hQ9 | exact hi0 hH9 | exact sr3 hR_q) (by rfl) ?_
    refine go_V1V (pc := 25) v_X7_180 rfl rfl (rcv_of (ci := 1) (by first | exact co0 hC | exact sr0 hR_q | exact be0 hQ_q | exact hi0 hH | exact co0 hC9 | exact sr0 hR9 | exact be0 hQ9 | exact hi0 hH9 | exact sr3 hR_q) rfl) dX7_swap_25 (cp_keep (k := k - 1) hH hR_q hr_q hw_q hB_q (by omega) (by omega)) (fun σ n h_q => ?_)
    obtain ⟨rfl, ⟨f1, d1, hH9⟩, hf1⟩ := h_q
    have sU := keepK_same hH.2.1.2.2 hH.2.1.2.1
    have hC9 := hC.fs hf1 (fun q x_q z_q => by omega)
    have hR9 : SrAt Γ ro σ (a + 14) b_q w (keepK K 33) ch co rw bk := by rw [sU 33 (by omega)]; exact hR_q.fs hf1 (fun q x_q y_q z_q => by omega)
    have hr9_q : rS (keepK K) ch co rw bk := rS_eq hr_q hP8 (fun j hj_q => sU j (by omega))
    have hQ9 := (hQ_q.fs hf1 (fun q x_q z_q => by omega) (fun q x_q y_q z_q => by omega)).su sU hP8
    have hB9_q := sU.okB hB_q
    have hg9_q : gS (keepK K) := gS_eq hg_q hP8 (fun j hj_q => sU j (by omega))
    have hw9 : w = keepK K 32 := hw_q.trans (sU 32 (by omega)).symm
    have eP_q := sU.P
    have eH_q := sU.H
    have eW := sU.W
    refine go_aload_n (pc := 28) dX7_swap_28 rfl ?_
    refine go_getf (pc := 29) f_X7_65 dX7_swap_29 (by first | exact co0 hC | exact sr0 hR_q | exact be0 hQ_q | exact hi0 hH | exact co0 hC9 | exact sr0 hR9 | exact be0 hQ9 | exact hi0 hH9 | exact sr3 hR_q) (by rfl) ?_
    refine go_iload_n (pc := 32) dX7_swap_32 rfl ?_
    refine go_iload_n (pc := 33) dX7_swap_33 rfl ?_
    refine go_V2V (pc := 34) v_X7_195 rfl rfl (rcv_of (ci := 5) (by first | exact co0 hC | exact sr0 hR_q | exact be0 hQ_q | exact hi0 hH | exact co0 hC9 | exact sr0 hR9 | exact be0 hQ9 | exact hi0 hH9 | exact sr3 hR_q) rfl) dX7_swap_34 (cp_exchange (k := k - 1) hR9 hr9_q hQ9 hB9_q hg9_q (by omega) (by omega) (by omega) (by omega) (by omega) hne1 (by rw [sU (16 + j1_q) (by omega)]; exact hu1) (by rw [sU (16 + c1) (by omega)]; exact hu2)) (fun σ n h_q => ?_)
    obtain ⟨rfl, hS2, hf2⟩ := h_q
    refine go_iconst (v := 0) (pc := 37) dX7_swap_37 (by decide) ?_
    exact go_iretI (pc := 38) rfl dX7_swap_38 (Nat.le_of_ble_eq_true rfl) (Nat.le_of_ble_eq_true rfl) (by
  have e32 : w = swapK (keepK K) j1_q c1 32 := by rw [swap_hi (by omega) (by omega) (by omega)]; exact hw9
  have eA : aSwap K (nI j1_q).toInt (nI c1).toInt = (0, swapK (keepK K) j1_q c1) := by rw [aSwap, if_pos h_11, e1_q, e2_q]
  rw [eA]
  exact ⟨rfl, rfl, St_of hS2 e32 hH9 (by omega) (swapK_same (by omega) (by omega)) hf2, ((hf1.wk (S' := dS a) (fun q x_q => by omega)).tr (hf2.toS (fun q x_q y_q => by omega)))⟩)
  · refine go_iload_n (pc := 14) dX7_swap_14 rfl ?_
    refine go_ineg (pc := 15) dX7_swap_15 ?_
    exact go_iretI (pc := 16) rfl dX7_swap_16 (Nat.le_of_ble_eq_true rfl) (Nat.le_of_ble_eq_true rfl) ⟨(by rw [aSwap, if_neg h_11]), rfl, (by rw [aSwap, if_neg h_11]; exact (St_0 hR_q hr_q hw_q hH)), frS.rf⟩
theorem cp_minutes {Γ : gam} {D : Nat} {ro : Nat → Nat} {z0 : sto} {n k a b_q f_q d_q : Nat} {w : Int32} {K ag pa pf ch co rw bk G : row} {im : Nat → Option Nat} {lm lt lw : Value} (hC : CoAt Γ ro z0 a G im) (hR_q : SrAt Γ ro z0 (a + 14) b_q w (K 33) ch co rw bk) (hr_q : rS K ch co rw bk) (hw_q : w = K 32) (hQ_q : BrAt Γ D ro z0 b_q K ag pa pf lm lt lw) (hB_q : okB K) (hg_q : gS K) (hH : HiAt Γ ro z0 (a + 19) b_q f_q d_q K) (hD : a + 113 < D) (hsb : b_q = a + 10 ∨ a + 113 < b_q) (hset : setP (K 32)) (hk : 12 ≤ k) (z_q : Int32) : Sp Γ (rmk k 2 12) uX7_minutes [.ref a, .int z_q] z0 n (qT (qI fun v_q σ' n' => (aMin K z_q.toInt).1 = 0 ∧ v_q = (aMin K z_q.toInt).2.1 ∧ n' = n ∧ StAt Γ ro σ' a b_q (aMin K z_q.toInt).2.2 ∧ frS Γ ro (dS a) z0 σ') (fun x_q σ' n' => exL [eIA] (aMin K z_q.toInt).1 x_q ∧ σ' = z0 ∧ n ≤ n')) := by
  have hP8 := hB_q.1.2.1
  have hH5 := hB_q.1.2.2.2.1
  have hW4 := hB_q.1.2.2.2.2.2
  refine sp_intro [some (.ref a), some (.int z_q), none, none] (by decide +kernel) rfl (Nat.le_of_ble_eq_true rfl) rfl ?_
  refine go_aload_n (pc := 0) dX7_minutes_0 rfl ?_
  refine go_iload_n (pc := 1) dX7_minutes_1 rfl ?_
  refine go_iconst (v := 1) (pc := 2) dX7_minutes_2 (by decide) ?_
  refine go_bipush (v := 99) (pc := 3) dX7_minutes_3 (by decide) ?_
  refine go_V3Vx (pc := 5) v_X7_90 rfl rfl (rcv_of (ci := 7) (by first | exact co0 hC | exact co0 hC9 | exact co0 hC8 | exact sr0 hR9 | exact sr0 hT_q | exact sr0 hR_q | exact hi0 hH | exact be0 hQ9) rfl) dX7_minutes_5 (cp_nW (k := k - 1) (lo := 1) (hi_q := 99) (by omega) (by decide) (by decide) _) (fun x_q σx nx hx_q => by obtain ⟨h9_q, rfl, rfl, h8_q⟩ := hx_q; exact Or.inr ⟨_, rfl, ⟨0, (by rw [show aMin K z_q.toInt = (1, 0, K) from by simp only [aMin, h9_q]]; rfl), rfl⟩, rfl, h8_q⟩) (fun σ n h_q => ?_)
  obtain ⟨⟨j1_q, hj1, rfl, hj1a, hj1b⟩, rfl, rfl⟩ := h_q
  refine go_aload_n (pc := 8) dX7_minutes_8 rfl ?_
  refine go_getf (pc := 9) f_X7_72 dX7_minutes_9 (by first | exact co0 hC | exact co0 hC9 | exact co0 hC8 | exact sr0 hR9 | exact sr0 hT_q | exact sr0 hR_q | exact hi0 hH | exact be0 hQ9) (by rfl) ?_
  refine go_aload_n (pc := 12) dX7_minutes_12 rfl ?_
  refine go_getf (pc := 13) f_X7_65 dX7_minutes_13 (by first | exact co0 hC | exact co0 hC9 | exact co0 hC8 | exact sr0 hR9 | exact sr0 hT_q | exact sr0 hR_q | exact hi0 hH | exact be0 hQ9) (by rfl) ?_
  refine go_V1V (pc := 16) v_X7_180 rfl rfl (rcv_of (ci := 1) (by first | exact co0 hC | exact co0 hC9 | exact co0 hC8 | exact sr0 hR9 | exact sr0 hT_q | exact sr0 hR_q | exact hi0 hH | exact be0 hQ9) rfl) dX7_minutes_16 (cp_keep (k := k - 1) hH hR_q hr_q hw_q hB_q (by omega) (by omega)) (fun σ n h_q => ?_)
  obtain ⟨rfl, ⟨f1, d1, hH9⟩, hf1⟩ := h_q
  have sU := keepK_same hH.2.1.2.2 hH.2.1.2.1
  have hC9 := hC.fs hf1 (fun q x_q z_q => by omega)
  have hR9 : SrAt Γ ro σ (a + 14) b_q w (keepK K 33) ch co rw bk := by rw [sU 33 (by omega)]; exact hR_q.fs hf1 (fun q x_q y_q z_q => by omega)
  have hr9_q : rS (keepK K) ch co rw bk := rS_eq hr_q hP8 (fun j hj_q => sU j (by omega))
  have hQ9 := (hQ_q.fs hf1 (fun q x_q z_q => by omega) (fun q x_q y_q z_q => by omega)).su sU hP8
  have hB9_q := sU.okB hB_q
  have hg9_q : gS (keepK K) := gS_eq hg_q hP8 (fun j hj_q => sU j (by omega))
  have hw9 : w = keepK K 32 := hw_q.trans (sU 32 (by omega)).symm
  have eP_q := sU.P
  have eH_q := sU.H
  have eW := sU.W
  refine go_aload_n (pc := 19) dX7_minutes_19 rfl ?_
  refine go_getf (pc := 20) f_X7_65 dX7_minutes_20 (by first | exact co0 hC | exact co0 hC9 | exact co0 hC8 | exact sr0 hR9 | exact sr0 hT_q | exact sr0 hR_q | exact hi0 hH | exact be0 hQ9) (by rfl) ?_
  refine go_getf (pc := 23) f_X7_150 dX7_minutes_23 (by first | exact co0 hC | exact co0 hC9 | exact co0 hC8 | exact sr0 hR9 | exact sr0 hT_q | exact sr0 hR_q | exact hi0 hH | exact be0 hQ9) (by rfl) ?_
  refine go_S1P (pc := 26) s_X7_198 rfl rfl dX7_minutes_26 (cp_bitCount (k := k - 1) (by rw [hw_q]; exact hset)) ?_
  refine go_istore_n (lw := [_, _, _, _]) (pc := 29) dX7_minutes_29 (by decide) rfl ?_
  refine go_iconst (v := 0) (pc := 30) dX7_minutes_30 (by decide) ?_
  refine go_istore_n (lw := [_, _, _, _]) (pc := 31) dX7_minutes_31 (by decide) rfl ?_
  refine go_iter (j1_q) (fun i_q lv9 s9 n9 => ∃ (ch9 : row), ∃ (co9 : row), ∃ (rw9 : row), ∃ (bk9 : row), lv9 = [some (.ref a), some (.int (nI j1_q)), some (.int (szI w)), some (.int (nI i_q))] ∧ (SrAt Γ ro s9 (a + 14) b_q (goK i_q (keepK K) 32) (goK i_q (keepK K) 33) ch9 co9 rw9 bk9) ∧ (rS (goK i_q (keepK K)) ch9 co9 rw9 bk9) ∧ (BrAt Γ D ro s9 b_q (keepK K) ag pa pf lm lt lw) ∧ (frC Γ ro (a + 14) (a + 18) σ s9) ∧ n = n9) ⟨_, _, _, _, rfl, (by show SrAt Γ ro _ _ _ (keepK K 32) (keepK K 33) _ _ _ _; rw [← hw9]; exact hR9), hr9_q, hQ9, frC.rf, rfl⟩ ?_ ?_
  · rintro i_q lv9 σ n9 hi_q ⟨ch9, co9, rw9, bk9, rfl, hT_q, hrT, hQT, hf2, rfl⟩ ih_q
    have hC8 := hC9.fs (hf2.toS (S := fun q => a + 14 ≤ q ∧ q ≤ a + 18) (fun q x_q y_q => ⟨x_q, y_q⟩)) (fun q x_q z_q => by omega)
    have hs9 : sameB (keepK K) (goK i_q (keepK K)) := goK_same (by omega)
    have hBT := hs9.okB hB9_q
    have hgT : gS (goK i_q (keepK K)) := gS_go hg9_q (by omega) (by omega)
    have eP9 := hs9.P
    have eH9 := hs9.H
    refine go_iload_n (pc := 32) dX7_minutes_32 rfl ?_
    refine go_iload_n (pc := 33) dX7_minutes_33 rfl ?_
    refine go_icmp_ge (tgt := 57) (pc := 34) dX7_minutes_34 (by decide) (fun h_34 => by exfalso; exact absurd h_34 (nI_ge (by omega) (by omega))) (fun h_34 => ?_)
    refine go_aload_n (pc := 37) dX7_minutes_37 rfl ?_
    refine go_getf (pc := 38) f_X7_65 dX7_minutes_38 (by first | exact co0 hC | exact co0 hC9 | exact co0 hC8 | exact sr0 hR9 | exact sr0 hT_q | exact sr0 hR_q | exact hi0 hH | exact be0 hQ9) (by rfl) ?_
    refine go_aload_n (pc := 41) dX7_minutes_41 rfl ?_
    refine go_getf (pc := 42) f_X7_65 dX7_minutes_42 (by first | exact co0 hC | exact co0 hC9 | exact co0 hC8 | exact sr0 hR9 | exact sr0 hT_q | exact sr0 hR_q | exact hi0 hH | exact be0 hQ9) (by rfl) ?_
    refine go_V0I (pc := 45) v_X7_203 rfl rfl (rcv_of (ci := 5) (by first | exact co0 hC | exact co0 hC9 | exact co0 hC8 | exact sr0 hR9 | exact sr0 hT_q | exact sr0 hR_q | exact hi0 hH | exact be0 hQ9) rfl) dX7_minutes_45 (cp_level (k := k - 1) hT_q hrT (hQT.sm hs9) (by omega) hBT) (fun v_45 σ n h_q => ?_)
    obtain ⟨rfl, rfl, hf3⟩ := h_q
    have hT_q := hT_q.fe hf3
    have hQT := hQT.fe hf3
    have hf2 := hf2.tr (hf3.wk (by omega))
    refine go_V1V (pc := 48) v_X7_207 rfl rfl (rcv_of (ci := 5) (by first | exact co0 hC | exact co0 hC9 | exact co0 hC8 | exact sr0 hR9 | exact sr0 hT_q | exact sr0 hR_q | exact hi0 hH | exact be0 hQ9) rfl) dX7_minutes_48 (cp_pass (k := k - 1) hT_q hrT (hQT.sm hs9) hBT hgT (by omega) (by omega) (by omega) _) (fun σ n h_q => ?_)
    obtain ⟨rfl, ⟨ch9, co9, rw9, bk9, hT_q, hrT⟩, hf3⟩ := h_q
    have hf2 := hf2.tr hf3
    have hQT := hQT.fr hf3 (by omega) (by omega)
    rw [← minK_32 (by omega)] at hT_q
    refine go_iinc (v := 1) (lw := [_, _, _, _]) (pc := 51) dX7_minutes_51 rfl (by decide) (by decide) rfl ?_
    refine go_goto (tgt := 32) (pc := 54) dX7_minutes_54 (by decide) ?_
    rw [nI_1]
    exact ih_q _ _ _ ⟨_, _, _, _, rfl, (by rw [goK_s]; exact hT_q), (by rw [goK_s]; exact hrT), hQT, hf2, rfl⟩
  · rintro lv9 σ n9 ⟨ch9, co9, rw9, bk9, rfl, hT_q, hrT, hQT, hf2, rfl⟩
    have hC8 := hC9.fs (hf2.toS (S := fun q => a + 14 ≤ q ∧ q ≤ a + 18) (fun q x_q y_q => ⟨x_q, y_q⟩)) (fun q x_q z_q => by omega)
    refine go_iload_n (pc := 32) dX7_minutes_32 rfl ?_
    refine go_iload_n (pc := 33) dX7_minutes_33 rfl ?_
    refine go_icmp_ge (tgt := 57) (pc := 34) dX7_minutes_34 (by decide) (fun h_34 => ?_) (fun h_34 => by exfalso; exact h_34 (nI_le (by omega) (by omega)))
    refine go_aload_n (pc := 57) dX7_minutes_57 rfl ?_
    refine go_getf (pc := 58) f_X7_65 dX7_minutes_58 (by first | exact co0 hC | exact co0 hC9 | exact co0 hC8 | exact sr0 hR9 | exact sr0 hT_q | exact sr0 hR_q | exact hi0 hH | exact be0 hQ9) (by rfl) ?_
    refine go_getf (pc := 61) f_X7_150 dX7_minutes_61 (by first | exact co0 hC | exact co0 hC9 | exact co0 hC8 | exact sr0 hR9 | exact sr0 hT_q | exact sr0 hR_q | exact hi0 hH | exact be0 hQ9) (by rfl) ?_
    refine go_S1P (pc := 64) s_X7_198 rfl rfl dX7_minutes_64 (cp_bitCount (k := k - 1) (setP_go (by omega) (by rw [sU 32 (by omega)]; exact hset))) ?_
    refine go_iload_n (pc := 67) dX7_minutes_67 rfl ?_
    refine go_isub (pc := 68) dX7_minutes_68 ?_
    exact go_iretT (pc := 69) rfl dX7_minutes_69 (Nat.le_of_ble_eq_true rfl) (Nat.le_of_ble_eq_true rfl) (by
  have eA : aMin K (nI j1_q).toInt = (0, szI (goK j1_q (keepK K) 32) - szI (K 32), goK j1_q (keepK K)) := by simp only [aMin, hj1]
  rw [eA]
  exact ⟨rfl, by rw [hw_q], rfl, St_of ⟨_, _, _, _, hT_q, hrT⟩ rfl hH9 (by omega) (goK_same (by omega)) hf2, ((hf1.wk (S' := dS a) (fun q x_q => by omega)).tr (hf2.toS (fun q x_q y_q => by omega)))⟩)
theorem cp_undo {Γ : gam} {D : Nat} {ro : Nat → Nat} {z0 : sto} {n k a b_q f_q d_q : Nat} {w : Int32} {K ag pa pf ch co rw bk G : row} {im : Nat → Option Nat} {lm lt lw : Value} (hC : CoAt Γ ro z0 a G im) (hR_q : SrAt Γ ro z0 (a + 14) b_q w (K 33) ch co rw bk) (hr_q : rS K ch co rw bk) (hw_q : w = K 32) (hQ_q : BrAt Γ D ro z0 b_q K ag pa pf lm lt lw) (hB_q : okB K) (hg_q : gS K) (hH : HiAt Γ ro z0 (a + 19) b_q f_q d_q K) (hD : a + 113 < D) (hsb : b_q = a + 10 ∨ a + 113 < b_q) (hk : 8 ≤ k) (z_q : Int32) : Sp Γ (rmk k 2 12) uX7_undo [.ref a, .int z_q] z0 n (qT (qI fun v_q σ' n' => (aUndo K z_q.toInt).1 = 0 ∧ v_q = (aUndo K z_q.toInt).2.1 ∧ n' = n ∧ StAt Γ ro σ' a b_q (aUndo K z_q.toInt).2.2 ∧ frS Γ ro (dS a) z0 σ') (fun x_q σ' n' => exL [eIA] (aUndo K z_q.toInt).1 x_q ∧ σ' = z0 ∧ n ≤ n')) := by
  have hP8 := hB_q.1.2.1
  have hH5 := hB_q.1.2.2.2.1
  have hW4 := hB_q.1.2.2.2.2.2
  have hd10 := hH.2.1.2.1
  have hkd : kD K = d_q := kD_of hH.2.1.2.2 hd10
  refine sp_intro [some (.ref a), some (.int z_q)] (by decide +kernel) rfl (Nat.le_of_ble_eq_true rfl) rfl ?_
  refine go_aload_n (pc := 0) dX7_undo_0 rfl ?_
  refine go_iload_n (pc := 1) dX7_undo_1 rfl ?_
  refine go_iconst (v := 1) (pc := 2) dX7_undo_2 (by decide) ?_
  refine go_aload_n (pc := 3) dX7_undo_3 rfl ?_
  refine go_getf (pc := 4) f_X7_72 dX7_undo_4 (by first | exact co0 hC | exact hi0 hH | exact sr0 hR_q | exact co0 hC9 | exact hi0 hH9) (by rfl) ?_
  refine go_getf (pc := 7) f_X7_210 dX7_undo_7 (by first | exact co0 hC | exact hi0 hH | exact sr0 hR_q | exact co0 hC9 | exact hi0 hH9) (by rfl) ?_
  refine go_V3Vx (pc := 10) v_X7_90 rfl rfl (rcv_of (ci := 7) (by first | exact co0 hC | exact hi0 hH | exact sr0 hR_q | exact co0 hC9 | exact hi0 hH9) rfl) dX7_undo_10 (cp_nW (k := k - 1) (lo := 1) (hi_q := d_q) (by omega) (by decide) (by omega) _) (fun x_q σx nx hx_q => by obtain ⟨h9_q, rfl, rfl, h8_q⟩ := hx_q; exact Or.inr ⟨_, rfl, ⟨0, (by rw [show aUndo K z_q.toInt = (1, 0, K) from by simp only [aUndo, hkd, h9_q]]; rfl), rfl⟩, rfl, h8_q⟩) (fun σ n h_q => ?_)
  obtain ⟨⟨j1_q, hj1, rfl, hj1a, hj1b⟩, rfl, rfl⟩ := h_q
  refine go_aload_n (pc := 13) dX7_undo_13 rfl ?_
  refine go_getf (pc := 14) f_X7_72 dX7_undo_14 (by first | exact co0 hC | exact hi0 hH | exact sr0 hR_q | exact co0 hC9 | exact hi0 hH9) (by rfl) ?_
  refine go_iload_n (pc := 17) dX7_undo_17 rfl ?_
  refine go_aload_n (pc := 18) dX7_undo_18 rfl ?_
  refine go_getf (pc := 19) f_X7_65 dX7_undo_19 (by first | exact co0 hC | exact hi0 hH | exact sr0 hR_q | exact co0 hC9 | exact hi0 hH9) (by rfl) ?_
  refine go_V2V (pc := 22) v_X7_213 rfl rfl (rcv_of (ci := 1) (by first | exact co0 hC | exact hi0 hH | exact sr0 hR_q | exact co0 hC9 | exact hi0 hH9) rfl) dX7_undo_22 (cp_goBack (k := k - 1) hH hR_q hB_q (by omega) hj1b (by omega) (by omega)) (fun σ n h_q => ?_)
  obtain ⟨rfl, hS2, hH9, hf1⟩ := h_q
  have hC9 := hC.fs hf1 (fun q x_q z_q => by omega)
  refine go_aload_n (pc := 25) dX7_undo_25 rfl ?_
  refine go_getf (pc := 26) f_X7_72 dX7_undo_26 (by first | exact co0 hC | exact hi0 hH | exact sr0 hR_q | exact co0 hC9 | exact hi0 hH9) (by rfl) ?_
  refine go_getf (pc := 29) f_X7_210 dX7_undo_29 (by first | exact co0 hC | exact hi0 hH | exact sr0 hR_q | exact co0 hC9 | exact hi0 hH9) (by rfl) ?_
  exact go_iretT (pc := 32) rfl dX7_undo_32 (Nat.le_of_ble_eq_true rfl) (Nat.le_of_ble_eq_true rfl) (by
  have eA : aUndo K (nI j1_q).toInt = (0, nI (d_q - j1_q), setS (upd K 7 (nI (d_q - j1_q))) (undK K (d_q - j1_q))) := by simp only [aUndo, hkd, hj1]
  rw [eA]
  exact ⟨rfl, rfl, rfl, ⟨hS2, _, _, hH9⟩, hf1.wk (fun q x_q => by omega)⟩)
theorem cp_performed {Γ : gam} {D : Nat} {ro : Nat → Nat} {z0 : sto} {n k a b_q f_q d_q : Nat} {w : Int32} {K ag pa pf ch co rw bk G : row} {im : Nat → Option Nat} {lm lt lw : Value} (hC : CoAt Γ ro z0 a G im) (hR_q : SrAt Γ ro z0 (a + 14) b_q w (K 33) ch co rw bk) (hr_q : rS K ch co rw bk) (hw_q : w = K 32) (hQ_q : BrAt Γ D ro z0 b_q K ag pa pf lm lt lw) (hB_q : okB K) (hg_q : gS K) (hH : HiAt Γ ro z0 (a + 19) b_q f_q d_q K) (hD : a + 113 < D) (hsb : b_q = a + 10 ∨ a + 113 < b_q) (hk : 10 ≤ k) (v_q : Int64) : Sp Γ (rmk k 0 0) uX7_performed [.ref a, .long v_q] z0 n (qI fun v1 σ' n' => v1 = bI (whyT K v_q.toInt = 0) ∧ n' = n ∧ StAt Γ ro σ' a b_q (if whyT K v_q.toInt = 0 then doK (keepK K) v_q.toInt else K) ∧ frS Γ ro (dS a) z0 σ') := by
  have hP8 := hB_q.1.2.1
  have hH5 := hB_q.1.2.2.2.1
  have hW4 := hB_q.1.2.2.2.2.2
  refine sp_intro [some (.ref a), some (.long v_q), none] (by decide +kernel) rfl (Nat.le_of_ble_eq_true rfl) rfl ?_
  refine go_aload_n (pc := 0) dX7_performed_0 rfl ?_
  refine go_getf (pc := 1) f_X7_65 dX7_performed_1 (by first | exact co0 hC | exact sr0 hR_q | exact be0 hQ_q | exact hi0 hH | exact co0 hC9 | exact sr0 hR9 | exact be0 hQ9 | exact hi0 hH9 | exact sr3 hR_q) (by rfl) ?_
  refine go_lload_n (pc := 4) dX7_performed_4 rfl ?_
  refine go_V1P (pc := 5) v_X7_234 rfl rfl (rcv_of (ci := 5) (by first | exact co0 hC | exact sr0 hR_q | exact be0 hQ_q | exact hi0 hH | exact co0 hC9 | exact sr0 hR9 | exact be0 hQ9 | exact hi0 hH9 | exact sr3 hR_q) rfl) dX7_performed_5 (cp_whyNotTold (k := k - 1) hR_q hr_q hQ_q (by omega) hB_q _) ?_
  refine go_if_eq (tgt := 13) (pc := 8) dX7_performed_8 (by decide) (fun h_8 => ?_) (fun h_8 => ?_)
  · have h0_q : whyT K v_q.toInt = 0 := h_8
    refine go_aload_n (pc := 13) dX7_performed_13 rfl ?_
    refine go_getf (pc := 14) f_X7_72 dX7_performed_14 (by first | exact co0 hC | exact sr0 hR_q | exact be0 hQ_q | exact hi0 hH | exact co0 hC9 | exact sr0 hR9 | exact be0 hQ9 | exact hi0 hH9 | exact sr3 hR_q) (by rfl) ?_
    refine go_aload_n (pc := 17) dX7_performed_17 rfl ?_
    refine go_getf (pc := 18) f_X7_65 dX7_performed_18 (by first | exact co0 hC | exact sr0 hR_q | exact be0 hQ_q | exact hi0 hH | exact co0 hC9 | exact sr0 hR9 | exact be0 hQ9 | exact hi0 hH9 | exact sr3 hR_q) (by rfl) ?_
    refine go_V1V (pc := 21) v_X7_180 rfl rfl (rcv_of (ci := 1) (by first | exact co0 hC | exact sr0 hR_q | exact be0 hQ_q | exact hi0 hH | exact co0 hC9 | exact sr0 hR9 | exact be0 hQ9 | exact hi0 hH9 | exact sr3 hR_q) rfl) dX7_performed_21 (cp_keep (k := k - 1) hH hR_q hr_q hw_q hB_q (by omega) (by omega)) (fun σ n h_q => ?_)
    obtain ⟨rfl, ⟨f1, d1, hH9⟩, hf1⟩ := h_q
    have sU := keepK_same hH.2.1.2.2 hH.2.1.2.1
    have hC9 := hC.fs hf1 (fun q x_q z_q => by omega)
    have hR9 : SrAt Γ ro σ (a + 14) b_q w (keepK K 33) ch co rw bk := by rw [sU 33 (by omega)]; exact hR_q.fs hf1 (fun q x_q y_q z_q => by omega)
    have hr9_q : rS (keepK K) ch co rw bk := rS_eq hr_q hP8 (fun j hj_q => sU j (by omega))
    have hQ9 := (hQ_q.fs hf1 (fun q x_q z_q => by omega) (fun q x_q y_q z_q => by omega)).su sU hP8
    have hB9_q := sU.okB hB_q
    have hg9_q : gS (keepK K) := gS_eq hg_q hP8 (fun j hj_q => sU j (by omega))
    have hw9 : w = keepK K 32 := hw_q.trans (sU 32 (by omega)).symm
    have eP_q := sU.P
    have eH_q := sU.H
    have eW := sU.W
    have h09 : whyT (keepK K) v_q.toInt = 0 := by rw [whyT_U sU hP8]; exact h0_q
    refine go_aload_n (pc := 24) dX7_performed_24 rfl ?_
    refine go_getf (pc := 25) f_X7_65 dX7_performed_25 (by first | exact co0 hC | exact sr0 hR_q | exact be0 hQ_q | exact hi0 hH | exact co0 hC9 | exact sr0 hR9 | exact be0 hQ9 | exact hi0 hH9 | exact sr3 hR_q) (by rfl) ?_
    refine go_lload_n (pc := 28) dX7_performed_28 rfl ?_
    refine go_V1V (pc := 29) v_X7_238 rfl rfl (rcv_of (ci := 5) (by first | exact co0 hC | exact sr0 hR_q | exact be0 hQ_q | exact hi0 hH | exact co0 hC9 | exact sr0 hR9 | exact be0 hQ9 | exact hi0 hH9 | exact sr3 hR_q) rfl) dX7_performed_29 (cp_carryOut (k := k - 1) hR9 hr9_q hQ9 hB9_q hg9_q (by omega) (by omega) (by omega) _ h09) (fun σ n h_q => ?_)
    obtain ⟨rfl, hS2, hf2⟩ := h_q
    refine go_iconst (v := 1) (pc := 32) dX7_performed_32 (by decide) ?_
    exact go_zretI (pc := 33) rfl (by first | rfl | exact nb_bI) dX7_performed_33 (Nat.le_of_ble_eq_true rfl) (Nat.le_of_ble_eq_true rfl) (by
  have e32 : doW (keepK K) v_q.toInt w = doK (keepK K) v_q.toInt 32 := by rw [hw9]; exact do_32 (by omega) h09
  exact ⟨(bI_t h0_q).symm, rfl, (by rw [if_pos h0_q]; exact St_of hS2 e32 hH9 (by omega) (do_same (by omega) h09) hf2), ((hf1.wk (S' := dS a) (fun q x_q => by omega)).tr (hf2.toS (fun q x_q y_q => by omega)))⟩)
  · refine go_iconst (v := 0) (pc := 11) dX7_performed_11 (by decide) ?_
    exact go_zretI (pc := 12) rfl (by first | rfl | exact nb_bI) dX7_performed_12 (Nat.le_of_ble_eq_true rfl) (Nat.le_of_ble_eq_true rfl) ⟨(bI_f h_8).symm, rfl, (by rw [if_neg h_8]; exact (St_0 hR_q hr_q hw_q hH)), frS.rf⟩
