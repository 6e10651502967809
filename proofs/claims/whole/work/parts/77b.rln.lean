/-! ===== the reference: lines ===== -/
def telR (A2 T : row) : Prop := (∀ j, j < 59 → A2 j = T j) ∧ ∀ w, 4 ≤ w → w ≤ 6 → ∀ j, j < (T w).toNatClampNeg → A2 (lwA w + j) = T (lwA w + j)
theorem telR.up {A2 T : row} {j : Nat} {x_q : Int32} (h_q : telR A2 T) (hj_q : j < 4 ∨ 6 < j) (h59 : j < 59) : telR (upd A2 j x_q) (upd T j x_q) := by
  refine ⟨fun i_q hi_q => ?_, fun w h4_q h6_q i_q hi_q => ?_⟩
  · by_cases e_q : i_q = j
    · rw [e_q, pk_us, pk_us]
    · rw [pk_un e_q, pk_un e_q]
      exact h_q.1 i_q hi_q
  · have := lwA_b (w := w)
    rw [pk_un (by omega)] at hi_q
    rw [pk_un (by omega), pk_un (by omega)]
    exact h_q.2 w h4_q h6_q i_q hi_q
theorem lw_far {w w2_q : Nat} (h4_q : 4 ≤ w) (h6_q : w ≤ 6) (g4_q : 4 ≤ w2_q) (g6_q : w2_q ≤ 6) (hne : w2_q ≠ w) : lwA w2_q + 900 ≤ lwA w ∨ lwA w + 900 ≤ lwA w2_q := by
  rcases (show w = 4 ∨ w = 5 ∨ w = 6 by omega) with rfl | rfl | rfl <;> rcases (show w2_q = 4 ∨ w2_q = 5 ∨ w2_q = 6 by omega) with rfl | rfl | rfl <;> first | (exact absurd rfl hne) | (simp [lwA])
/-- a law is_q laid -/
theorem telR.lay {A2 A3 T : row} {w : Nat} {st : List Int32} (h_q : telR A2 T) (h4_q : 4 ≤ w) (h6_q : w ≤ 6) (hl : st.length ≤ 900) (hT_q : ∀ w2_q, 4 ≤ w2_q → w2_q ≤ 6 → (T w2_q).toNatClampNeg ≤ 900) (e0 : A3 w = nI st.length) (e1_q : ∀ j, j < st.length → A3 (lwA w + j) = st.getD j 0) (ho : ∀ j, j ≠ w → (j < lwA w ∨ lwA w + 900 ≤ j) → A3 j = A2 j) : telR A3 (layT w st T) := by
  have hb_q := lwA_b (w := w)
  refine ⟨fun i_q hi_q => ?_, fun w2_q g4_q g6_q i_q hi_q => ?_⟩
  · unfold layT
    by_cases e_q : i_q = w
    · rw [if_pos e_q, e_q, e0]
    · rw [if_neg e_q, if_neg (by omega), ho i_q e_q (by omega)]
      exact h_q.1 i_q hi_q
  · have hb2_q := lwA_b (w := w2_q)
    by_cases e_q : w2_q = w
    · subst e_q
      have e9_q : layT w2_q st T w2_q = nI st.length := by unfold layT; rw [if_pos rfl]
      rw [e9_q, nI_clamp (by omega)] at hi_q
      rw [e1_q i_q hi_q]
      unfold layT
      rw [if_neg (by omega), if_pos (by omega)]
      congr 1
      omega
    · have e9_q : layT w st T w2_q = T w2_q := by unfold layT; rw [if_neg e_q, if_neg (by omega)]
      rw [e9_q] at hi_q
      have f9 := lw_far h4_q h6_q g4_q g6_q e_q
      have t9 := hT_q w2_q g4_q g6_q
      rw [ho _ (by omega) (by omega)]
      unfold layT
      rw [if_neg (by omega), if_neg (by omega)]
      exact h_q.2 w2_q g4_q g6_q i_q hi_q
def RlP (Γ : gam) (z0 : sto) (r_q N : Nat) (F K : row) (A : Nat → row) (Nm : Nat → Int64) (s2 : ps) (T2 : row) (σ : sto) : Prop := ∃ (F' : row) (A' : Nat → row), MoAt Γ σ r_q F' K A' Nm ∧ rfR (A 5) N F' s2 ∧ (s2.bad = 0 → telR (A' 2) T2) ∧ F' 16 = 0 ∧ (∀ j, (j < 8 ∨ 13 < j) → j ≠ 16 → j ≠ 17 → j ≠ 18 → F' j = F j) ∧ (∀ i_q, i_q ≠ 2 → A' i_q = A i_q) ∧ fr r_q (r_q + 16) z0 σ
theorem RlP.tr {Γ : gam} {z0 z1 σ : sto} {r_q N : Nat} {F F1 K : row} {A A1 : Nat → row} {Nm : Nat → Int64} {s2 : ps} {T2 : row} (hF : ∀ j, (j < 8 ∨ 13 < j) → j ≠ 16 → j ≠ 17 → j ≠ 18 → F1 j = F j) (hA_q : ∀ i_q, i_q ≠ 2 → A1 i_q = A i_q) (hf_q : fr r_q (r_q + 16) z0 z1) (h_q : RlP Γ z1 r_q N F1 K A1 Nm s2 T2 σ) : RlP Γ z0 r_q N F K A Nm s2 T2 σ := by
  obtain ⟨F', A', h1_q, h2_q, h3_q, h4_q, h5_q, h6_q, h7_q⟩ := h_q
  rw [hA_q 5 (by decide)] at h2_q
  exact ⟨F', A', h1_q, h2_q, h3_q, h4_q, fun j a1_q a2 a3 a4 => (h5_q j a1_q a2 a3 a4).trans (hF j a1_q a2 a3 a4), fun i_q hi_q => (h6_q i_q hi_q).trans (hA_q i_q hi_q), hf_q.tr h7_q⟩
theorem sp_seatTold {Γ : gam} {z0 : sto} {n k r_q P : Nat} {F K : row} {A : Nat → row} {Nm : Nat → Int64} (hM_q : MoAt Γ z0 r_q F K A Nm) (hP : A 2 3 = nI P) (h8_q : P ≤ 8) (c_q v_q : Int32) (hv_q : v_q ≠ -1)  : Sp Γ (rmk k 0 0) uX8_isSeatTold [.ref r_q, .int c_q, .int v_q] z0 n (qP (bI (sitK (A 2) c_q v_q ≠ none)) z0 n) := by
  refine sp_intro [some (.ref r_q), some (.int c_q), some (.int v_q), none] (by decide +kernel) rfl (Nat.le_of_ble_eq_true rfl) rfl ?_
  refine go_iconst (v := 0) (pc := 0) dX8_isSeatTold_0 (by decide) ?_
  refine go_istore_n (lw := [_, _, _, _]) (pc := 1) dX8_isSeatTold_1 (by decide) rfl ?_
  refine go_iter (P) (fun i_q lv9 s9 n9 => lv9 = [some (.ref r_q), some (.int c_q), some (.int v_q), some (.int (nI i_q))] ∧ (s9 = z0) ∧ (fnd (fun p => decide (A 2 (16 + p) = v_q ∧ A 2 (8 + p) = c_q ∧ v_q ≠ -1)) i_q (P - i_q) = sitK (A 2) c_q v_q) ∧ n = n9) ⟨rfl, rfl, (by rw [Nat.sub_zero]; unfold sitK; rw [show kP (A 2) = P from by show (A 2 3).toNatClampNeg = P; rw [hP, nI_clamp (by omega)]]), rfl⟩ ?_ ?_
  · rintro i_q lv9 σ n9 hi_q ⟨rfl, es, hE, rfl⟩ ih_q
    obtain rfl := es.symm
    refine go_iload_n (pc := 2) dX8_isSeatTold_2 rfl ?_
    refine go_aload_n (pc := 3) dX8_isSeatTold_3 rfl ?_
    refine go_getf (pc := 4) f_X8_13 dX8_isSeatTold_4 (by first | exact mo0 hM_q | exact mo2 hM_q) (by rfl) ?_
    refine go_iconst (v := 3) (pc := 7) dX8_isSeatTold_7 (by decide) ?_
    refine go_iald (j := 3) (pc := 8) dX8_isSeatTold_8 (by first | exact mo0 hM_q | exact mo2 hM_q) (by exact ⟨rfl, by decide⟩) ?_
    rw [hP]
    refine go_icmp_ge (tgt := 46) (pc := 9) dX8_isSeatTold_9 (by decide) (fun h_9 => by exfalso; exact absurd h_9 (nI_ge (by omega) (by omega))) (fun h_9 => ?_)
    refine go_aload_n (pc := 12) dX8_isSeatTold_12 rfl ?_
    refine go_getf (pc := 13) f_X8_13 dX8_isSeatTold_13 (by first | exact mo0 hM_q | exact mo2 hM_q) (by rfl) ?_
    refine go_bipush (v := 8) (pc := 16) dX8_isSeatTold_16 (by decide) ?_
    refine go_iload_n (pc := 18) dX8_isSeatTold_18 rfl ?_
    refine go_iadd (pc := 19) dX8_isSeatTold_19 ?_
    refine go_iald (pc := 20) dX8_isSeatTold_20 (by first | exact mo0 hM_q | exact mo2 hM_q) (by exact ⟨nI_add 8 _, by omega⟩) ?_
    refine go_iload_n (pc := 21) dX8_isSeatTold_21 rfl ?_
    refine go_icmp_ne (tgt := 40) (pc := 22) dX8_isSeatTold_22 (by decide) (fun h_22 => ?_) (fun h_22 => ?_)
    · refine go_iinc (v := 1) (lw := [_, _, _, _]) (pc := 40) dX8_isSeatTold_40 rfl (by decide) (by decide) rfl ?_
      refine go_goto (tgt := 2) (pc := 43) dX8_isSeatTold_43 (by decide) ?_
      rw [nI_1]
      exact ih_q _ _ _ ⟨rfl, rfl, (by rw [← hE]; exact (fnd_n hi_q (by first | (have g_q : ¬ A 2 (8 + i_q) = c_q := h_22; exact fun e_q => g_q (of_decide_eq_true e_q).2.1) | (have g_q : ¬ A 2 (16 + i_q) = v_q := h_35; exact fun e_q => g_q (of_decide_eq_true e_q).1))).symm), rfl⟩
    · refine go_aload_n (pc := 25) dX8_isSeatTold_25 rfl ?_
      refine go_getf (pc := 26) f_X8_13 dX8_isSeatTold_26 (by first | exact mo0 hM_q | exact mo2 hM_q) (by rfl) ?_
      refine go_bipush (v := 16) (pc := 29) dX8_isSeatTold_29 (by decide) ?_
      refine go_iload_n (pc := 31) dX8_isSeatTold_31 rfl ?_
      refine go_iadd (pc := 32) dX8_isSeatTold_32 ?_
      refine go_iald (pc := 33) dX8_isSeatTold_33 (by first | exact mo0 hM_q | exact mo2 hM_q) (by exact ⟨nI_add 16 _, by omega⟩) ?_
      refine go_iload_n (pc := 34) dX8_isSeatTold_34 rfl ?_
      refine go_icmp_ne (tgt := 40) (pc := 35) dX8_isSeatTold_35 (by decide) (fun h_35 => ?_) (fun h_35 => ?_)
      · refine go_iinc (v := 1) (lw := [_, _, _, _]) (pc := 40) dX8_isSeatTold_40 rfl (by decide) (by decide) rfl ?_
        refine go_goto (tgt := 2) (pc := 43) dX8_isSeatTold_43 (by decide) ?_
        rw [nI_1]
        exact ih_q _ _ _ ⟨rfl, rfl, (by rw [← hE]; exact (fnd_n hi_q (by first | (have g_q : ¬ A 2 (8 + i_q) = c_q := h_22; exact fun e_q => g_q (of_decide_eq_true e_q).2.1) | (have g_q : ¬ A 2 (16 + i_q) = v_q := h_35; exact fun e_q => g_q (of_decide_eq_true e_q).1))).symm), rfl⟩
      · refine go_iconst (v := 1) (pc := 38) dX8_isSeatTold_38 (by decide) ?_
        exact go_zretP (pc := 39) rfl (by first | rfl | exact nb_bI) dX8_isSeatTold_39 (Nat.le_of_ble_eq_true rfl) (Nat.le_of_ble_eq_true rfl) (by rw [bI_t]; rw [← hE, fnd_y hi_q (decide_eq_true ⟨h_35, h_22, hv_q⟩)]; exact fun e_q => by cases e_q)
  · rintro lv9 σ n9 ⟨rfl, es, hE, rfl⟩
    obtain rfl := es.symm
    refine go_iload_n (pc := 2) dX8_isSeatTold_2 rfl ?_
    refine go_aload_n (pc := 3) dX8_isSeatTold_3 rfl ?_
    refine go_getf (pc := 4) f_X8_13 dX8_isSeatTold_4 (by first | exact mo0 hM_q | exact mo2 hM_q) (by rfl) ?_
    refine go_iconst (v := 3) (pc := 7) dX8_isSeatTold_7 (by decide) ?_
    refine go_iald (j := 3) (pc := 8) dX8_isSeatTold_8 (by first | exact mo0 hM_q | exact mo2 hM_q) (by exact ⟨rfl, by decide⟩) ?_
    rw [hP]
    refine go_icmp_ge (tgt := 46) (pc := 9) dX8_isSeatTold_9 (by decide) (fun h_9 => ?_) (fun h_9 => by exfalso; exact h_9 (nI_le (by omega) (by omega)))
    refine go_iconst (v := 0) (pc := 46) dX8_isSeatTold_46 (by decide) ?_
    exact go_zretP (pc := 47) rfl (by first | rfl | exact nb_bI) dX8_isSeatTold_47 (Nat.le_of_ble_eq_true rfl) (Nat.le_of_ble_eq_true rfl) (by rw [bI_f]; rw [← hE, Nat.sub_self]; exact fun e_q => e_q rfl)
theorem sp_readPlan {Γ : gam} {z0 : sto} {n k r_q N : Nat} {F K : row} {A : Nat → row} {Nm : Nat → Int64} {s : ps} (hM_q : MoAt Γ z0 r_q F K A Nm) (hS_q : rfR (A 5) N F s) (hN_q : N ≤ 900) {p : Nat} (hp_q : p < 8) (hk : 9 ≤ k) : Sp Γ (rmk k 0 0) uX8_readPlan [.ref r_q, .int (nI p)] z0 n (qV fun σ' n' => n' = n ∧ ∃ (F' : row) (A' : Nat → row), MoAt Γ σ' r_q F' K A' Nm ∧ rfR (A 5) N F' (numP N 1 99 (needP N 14 (numP N 0 999 s).2)).2 ∧ A' 2 = upd (upd (A 2) (43 + p) (numP N 0 999 s).1) (51 + p) (numP N 1 99 (needP N 14 (numP N 0 999 s).2)).1 ∧ (∀ i_q, i_q ≠ 2 → A' i_q = A i_q) ∧ (∀ j, (j < 8 ∨ 13 < j) → F' j = F j) ∧ fr r_q (r_q + 16) z0 σ') := by
  refine sp_intro [some (.ref r_q), some (.int (nI p))] (by decide +kernel) rfl (Nat.le_of_ble_eq_true rfl) rfl ?_
  refine go_aload_n (pc := 0) dX8_readPlan_0 rfl ?_
  refine go_getf (pc := 1) f_X8_13 dX8_readPlan_1 (by first | exact mo0 hM_q | exact mo2 hM_q) (by rfl) ?_
  refine go_bipush (v := 43) (pc := 4) dX8_readPlan_4 (by decide) ?_
  refine go_iload_n (pc := 6) dX8_readPlan_6 rfl ?_
  refine go_iadd (pc := 7) dX8_readPlan_7 ?_
  refine go_aload_n (pc := 8) dX8_readPlan_8 rfl ?_
  refine go_iconst (v := 0) (pc := 9) dX8_readPlan_9 (by decide) ?_
  refine go_sipush (v := 999) (pc := 10) dX8_readPlan_10 (by decide) ?_
  refine go_V2I (pc := 13) v_X8_190 rfl rfl (rcv_of (ci := 8) (by first | exact mo0 hM_q | exact mo2 hM_q) rfl) dX8_readPlan_13 (sp_number (k := k - 1) hM_q hS_q hN_q 0 999 (by omega)) (fun v_13 σ n h_q => ?_)
  obtain ⟨rfl, rfl, F1, hM_q, hS_q, hF1, hf_q⟩ := h_q
  refine go_mst2 (pc := 16) hM_q dX8_readPlan_16 (by exact ⟨nI_add 43 _, by omega⟩) (fun σ hM_q hf9 => ?_)
  have hf_q := hf_q.tr hf9
  obtain ⟨A1, hM_q, aA1, oA1⟩ : ∃ A1 : Nat → row, MoAt Γ σ r_q F1 K A1 Nm ∧ A1 2 = upd (A 2) (43 + p) ((numP N 0 999 s).1) ∧ ∀ i_q, i_q ≠ 2 → A1 i_q = A i_q := ⟨_, hM_q, by simp [updA], fun i_q hi_q => by simp [updA, hi_q]⟩
  rw [← oA1 5 (by decide)] at hS_q
  refine go_aload_n (pc := 17) dX8_readPlan_17 rfl ?_
  refine go_ldcS (si := 38) (pc := 18) rfl dX8_readPlan_18 ?_
  refine go_V1V (pc := 20) v_X8_196 rfl rfl (rcv_of (ci := 8) (by first | exact mo0 hM_q | exact mo2 hM_q) rfl) dX8_readPlan_20 (sp_mustWord (k := k - 1) hM_q hS_q (si := 38) (q := ("FrontChairsModel", 211, "for")) (cw := 14) rfl (by decide) wk_14 (by decide) (by decide) hN_q (by omega)) (fun σ n h_q => ?_)
  obtain ⟨rfl, F2, hM_q, hS_q, hF2, hf2⟩ := h_q
  have hf_q := hf_q.tr hf2
  refine go_aload_n (pc := 23) dX8_readPlan_23 rfl ?_
  refine go_getf (pc := 24) f_X8_13 dX8_readPlan_24 (by first | exact mo0 hM_q | exact mo2 hM_q) (by rfl) ?_
  refine go_bipush (v := 51) (pc := 27) dX8_readPlan_27 (by decide) ?_
  refine go_iload_n (pc := 29) dX8_readPlan_29 rfl ?_
  refine go_iadd (pc := 30) dX8_readPlan_30 ?_
  refine go_aload_n (pc := 31) dX8_readPlan_31 rfl ?_
  refine go_iconst (v := 1) (pc := 32) dX8_readPlan_32 (by decide) ?_
  refine go_bipush (v := 99) (pc := 33) dX8_readPlan_33 (by decide) ?_
  refine go_V2I (pc := 35) v_X8_190 rfl rfl (rcv_of (ci := 8) (by first | exact mo0 hM_q | exact mo2 hM_q) rfl) dX8_readPlan_35 (sp_number (k := k - 1) hM_q hS_q hN_q 1 99 (by omega)) (fun v_35 σ n h_q => ?_)
  obtain ⟨rfl, rfl, F3, hM_q, hS_q, hF3, hf3⟩ := h_q
  have hf_q := hf_q.tr hf3
  refine go_mst2 (pc := 38) hM_q dX8_readPlan_38 (by exact ⟨nI_add 51 _, by omega⟩) (fun σ hM_q hf9 => ?_)
  have hf_q := hf_q.tr hf9
  obtain ⟨A2, hM_q, aA2, oA2⟩ : ∃ A2 : Nat → row, MoAt Γ σ r_q F3 K A2 Nm ∧ A2 2 = upd (A1 2) (51 + p) ((numP N 1 99 (needP N 14 (numP N 0 999 s).2)).1) ∧ ∀ i_q, i_q ≠ 2 → A2 i_q = A1 i_q := ⟨_, hM_q, by simp [updA], fun i_q hi_q => by simp [updA, hi_q]⟩
  exact go_vretV (pc := 39) rfl dX8_readPlan_39 (Nat.le_of_ble_eq_true rfl) (Nat.le_of_ble_eq_true rfl) ⟨rfl, F3, A2, hM_q, (by rw [oA1 5 (by decide)] at hS_q; exact hS_q), (by rw [aA2, aA1]), fun i_q hi_q => (oA2 i_q hi_q).trans (oA1 i_q hi_q), fun j hj_q => (hF3 j hj_q).trans ((hF2 j hj_q).trans (hF1 j hj_q)), hf_q⟩
theorem sp_readStop {Γ : gam} {z0 : sto} {n k r_q N : Nat} {F K : row} {A : Nat → row} {Nm : Nat → Int64} {s : ps} (hM_q : MoAt Γ z0 r_q F K A Nm) (hS_q : rfR (A 5) N F s) (hN_q : N ≤ 900) {T : row} (hT_q : s.bad = 0 → telR (A 2) T) (h16 : F 16 = 0) (hk : 3 ≤ k) : Sp Γ (rmk k 0 0) uX8_readStop [.ref r_q] z0 n (qV fun σ' n' => n' = n ∧ RlP Γ z0 r_q N F K A Nm (needP N 59 s) (upd T 0 (T 0 + 1)) σ') := by
  refine sp_intro [some (.ref r_q)] (by decide +kernel) rfl (Nat.le_of_ble_eq_true rfl) rfl ?_
  refine go_aload_n (pc := 0) dX8_readStop_0 rfl ?_
  refine go_bipush (v := 59) (pc := 1) dX8_readStop_1 (by decide) ?_
  refine go_V1V (pc := 3) v_X8_138 rfl rfl (rcv_of (ci := 8) (by first | exact mo0 hM_q | exact mo2 hM_q) rfl) dX8_readStop_3 (sp_mustSign (k := k - 1) hM_q hS_q hN_q (c_q := 59) (by decide) (by omega)) (fun σ n h_q => ?_)
  obtain ⟨rfl, F1, hM_q, hS_q, hF1, hf_q⟩ := h_q
  refine go_aload_n (pc := 6) dX8_readStop_6 rfl ?_
  refine go_getf (pc := 7) f_X8_99 dX8_readStop_7 (by first | exact mo0 hM_q | exact mo2 hM_q) (by rfl) ?_
  rw [hS_q.2.1]
  refine go_if_ne (tgt := 23) (pc := 10) dX8_readStop_10 (by decide) (fun h_10 => ?_) (fun h_10 => ?_)
  · exact go_vretV (pc := 23) rfl dX8_readStop_23 (Nat.le_of_ble_eq_true rfl) (Nat.le_of_ble_eq_true rfl) (by
  first
    | (have g_q : ¬ (needP N 59 s).bad = 0 := h_10
       exact ⟨rfl, F1, A, hM_q, hS_q, fun e_q => absurd e_q g_q, (hF1 16 (by omega)).trans h16, fun j a1_q _ _ _ => hF1 j a1_q, fun _ _ => rfl, hf_q⟩)
    | (have g_q : (needP N 59 s).bad = 0 := h_10
       exact ⟨rfl, F1, A1, hM_q, hS_q, fun e_q => by rw [aA1]; exact (hT_q (needP_b g_q)).up (by omega) (by omega), (hF1 16 (by omega)).trans h16, fun j a1_q _ _ _ => hF1 j a1_q, oA1, hf_q⟩))
  · refine go_aload_n (pc := 13) dX8_readStop_13 rfl ?_
    refine go_getf (pc := 14) f_X8_13 dX8_readStop_14 (by first | exact mo0 hM_q | exact mo2 hM_q) (by rfl) ?_
    refine go_iconst (v := 0) (pc := 17) dX8_readStop_17 (by decide) ?_
    refine go_dup2 (pc := 18) dX8_readStop_18 rfl rfl ?_
    refine go_iald (pc := 19) dX8_readStop_19 (by first | exact mo0 hM_q | exact mo2 hM_q) (by exact ⟨rfl, by decide⟩) ?_
    refine go_iconst (v := 1) (pc := 20) dX8_readStop_20 (by decide) ?_
    refine go_iadd (pc := 21) dX8_readStop_21 ?_
    rw [(hT_q (needP_b h_10)).1 0 (by omega)]
    refine go_mst2 (j := 0) (pc := 22) hM_q dX8_readStop_22 (by exact ⟨rfl, by decide⟩) (fun σ hM_q hf9 => ?_)
    have hf_q := hf_q.tr hf9
    obtain ⟨A1, hM_q, aA1, oA1⟩ : ∃ A1 : Nat → row, MoAt Γ σ r_q F1 K A1 Nm ∧ A1 2 = upd (A 2) (0) (T 0 + 1) ∧ ∀ i_q, i_q ≠ 2 → A1 i_q = A i_q := ⟨_, hM_q, by simp [updA], fun i_q hi_q => by simp [updA, hi_q]⟩
    exact go_vretV (pc := 23) rfl dX8_readStop_23 (Nat.le_of_ble_eq_true rfl) (Nat.le_of_ble_eq_true rfl) (by
  first
    | (have g_q : ¬ (needP N 59 s).bad = 0 := h_10
       exact ⟨rfl, F1, A, hM_q, hS_q, fun e_q => absurd e_q g_q, (hF1 16 (by omega)).trans h16, fun j a1_q _ _ _ => hF1 j a1_q, fun _ _ => rfl, hf_q⟩)
    | (have g_q : (needP N 59 s).bad = 0 := h_10
       exact ⟨rfl, F1, A1, hM_q, hS_q, fun e_q => by rw [aA1]; exact (hT_q (needP_b g_q)).up (by omega) (by omega), (hF1 16 (by omega)).trans h16, fun j a1_q _ _ _ => hF1 j a1_q, oA1, hf_q⟩))
theorem sp_beginsLaw {Γ : gam} {z0 : sto} {n k r_q N : Nat} {F K : row} {A : Nat → row} {Nm : Nat → Int64} {s : ps} (hM_q : MoAt Γ z0 r_q F K A Nm) (hS_q : rfR (A 5) N F s) (hN_q : N ≤ 900) {w : Nat} (hw_q : 4 ≤ w ∧ w ≤ 6) (hk : 3 ≤ k) : Sp Γ (rmk k 0 0) uX8_beginsLaw [.ref r_q, .int (nI w), .int (nI (lwA w))] z0 n (qV fun σ' n' => n' = n ∧ ∃ (F' : row) (A' : Nat → row), MoAt Γ σ' r_q F' K A' Nm ∧ rfR (A 5) N F' (needP N 58 s) ∧ F' 17 = nI w ∧ F' 18 = nI (lwA w) ∧ A' 2 = upd (A 2) w 0 ∧ (∀ i_q, i_q ≠ 2 → A' i_q = A i_q) ∧ (∀ j, (j < 8 ∨ 13 < j) → j ≠ 17 → j ≠ 18 → F' j = F j) ∧ fr r_q (r_q + 16) z0 σ') := by
  refine sp_intro [some (.ref r_q), some (.int (nI w)), some (.int (nI (lwA w)))] (by decide +kernel) rfl (Nat.le_of_ble_eq_true rfl) rfl ?_
  have hf_q : fr r_q (r_q + 16) z0 z0 := fr.rf
  refine go_aload_n (pc := 0) dX8_beginsLaw_0 rfl ?_
  refine go_iload_n (pc := 1) dX8_beginsLaw_1 rfl ?_
  refine go_mpf17 (pc := 2) hM_q dX8_beginsLaw_2 (fun σ hM_q hf9 => ?_)
  have hf_q := hf_q.tr hf9
  obtain ⟨F1, hM_q, t17, tF1⟩ : ∃ F1 : row, MoAt Γ σ r_q F1 K A Nm ∧ F1 17 = nI w ∧ ∀ j, j ≠ 17 → F1 j = F j := ⟨_, hM_q, pk_us, fun j hj_q => pk_un hj_q⟩
  refine go_aload_n (pc := 5) dX8_beginsLaw_5 rfl ?_
  refine go_iload_n (pc := 6) dX8_beginsLaw_6 rfl ?_
  refine go_mpf18 (pc := 7) hM_q dX8_beginsLaw_7 (fun σ hM_q hf9 => ?_)
  have hf_q := hf_q.tr hf9
  obtain ⟨F2, hM_q, t18, tF2⟩ : ∃ F2 : row, MoAt Γ σ r_q F2 K A Nm ∧ F2 18 = nI (lwA w) ∧ ∀ j, j ≠ 18 → F2 j = F1 j := ⟨_, hM_q, pk_us, fun j hj_q => pk_un hj_q⟩
  refine go_aload_n (pc := 10) dX8_beginsLaw_10 rfl ?_
  refine go_getf (pc := 11) f_X8_13 dX8_beginsLaw_11 (by first | exact mo0 hM_q | exact mo2 hM_q) (by rfl) ?_
  refine go_iload_n (pc := 14) dX8_beginsLaw_14 rfl ?_
  refine go_iconst (v := 0) (pc := 15) dX8_beginsLaw_15 (by decide) ?_
  refine go_mst2 (pc := 16) hM_q dX8_beginsLaw_16 (by exact ⟨rfl, by omega⟩) (fun σ hM_q hf9 => ?_)
  have hf_q := hf_q.tr hf9
  obtain ⟨A1, hM_q, aA1, oA1⟩ : ∃ A1 : Nat → row, MoAt Γ σ r_q F2 K A1 Nm ∧ A1 2 = upd (A 2) (w) (0) ∧ ∀ i_q, i_q ≠ 2 → A1 i_q = A i_q := ⟨_, hM_q, by simp [updA], fun i_q hi_q => by simp [updA, hi_q]⟩
  have hS_q : rfR (A1 5) N F2 s := by
    rw [oA1 5 (by decide)]
    exact rfR_cg hS_q (fun j h1_q h2_q => (tF2 j (by omega)).trans (tF1 j (by omega)))
  refine go_aload_n (pc := 17) dX8_beginsLaw_17 rfl ?_
  refine go_bipush (v := 58) (pc := 18) dX8_beginsLaw_18 (by decide) ?_
  refine go_V1V (pc := 20) v_X8_138 rfl rfl (rcv_of (ci := 8) (by first | exact mo0 hM_q | exact mo2 hM_q) rfl) dX8_beginsLaw_20 (sp_mustSign (k := k - 1) hM_q hS_q hN_q (c_q := 58) (by decide) (by omega)) (fun σ n h_q => ?_)
  obtain ⟨rfl, F3, hM_q, hS_q, hF3, hf3⟩ := h_q
  have hf_q := hf_q.tr hf3
  exact go_vretV (pc := 23) rfl dX8_beginsLaw_23 (Nat.le_of_ble_eq_true rfl) (Nat.le_of_ble_eq_true rfl) ⟨rfl, F3, A1, hM_q, (by rw [oA1 5 (by decide)] at hS_q; exact hS_q), (hF3 17 (by omega)).trans ((tF2 17 (by decide)).trans t17), (hF3 18 (by omega)).trans t18, aA1, oA1, fun j a1_q a2 a3 => (hF3 j a1_q).trans ((tF2 j a3).trans (tF1 j a2)), hf_q⟩
