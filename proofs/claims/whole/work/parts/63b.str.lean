/-! ===== words: strings of the JDK, what is_q spelled ===== -/
theorem cp_coder {Γ : gam} {z0 : sto} {n k si : Nat} {q : String × Nat × String} (hs : sTab[si]? = some q)  : Sp Γ (rmk k 0 0) uJ0_coder_7d493 [.ref (gK Γ si)] z0 n (qP 0 z0 n) := by
  refine sp_intro [some (.ref (gK Γ si))] (by decide +kernel) rfl (Nat.le_of_ble_eq_true rfl) rfl ?_
  refine go_compact (pc := 0) rfl dJ0_coder_7d493_0 ?_
  refine go_if_eq (tgt := 13) (pc := 3) dJ0_coder_7d493_3 (by decide) (fun h_3 => by exfalso; exact absurd h_3 (by decide)) (fun h_3 => ?_)
  refine go_aload_n (pc := 6) dJ0_coder_7d493_6 rfl ?_
  refine go_strC (pc := 7) hs rfl dJ0_coder_7d493_7 ?_
  refine go_goto (tgt := 14) (pc := 10) dJ0_coder_7d493_10 (by decide) ?_
  exact go_zretP (pc := 14) rfl (by first | rfl | exact nb_bI) dJ0_coder_7d493_14 (Nat.le_of_ble_eq_true rfl) (Nat.le_of_ble_eq_true rfl) rfl
theorem cp_isL1 {Γ : gam} {z0 : sto} {n k si : Nat} {q : String × Nat × String} (hs : sTab[si]? = some q)  : Sp Γ (rmk k 0 0) uJ0_isLatin1_aae02 [.ref (gK Γ si)] z0 n (qP 1 z0 n) := by
  refine sp_intro [some (.ref (gK Γ si))] (by decide +kernel) rfl (Nat.le_of_ble_eq_true rfl) rfl ?_
  refine go_compact (pc := 0) rfl dJ0_isLatin1_aae02_0 ?_
  refine go_if_eq (tgt := 17) (pc := 3) dJ0_isLatin1_aae02_3 (by decide) (fun h_3 => by exfalso; exact absurd h_3 (by decide)) (fun h_3 => ?_)
  refine go_aload_n (pc := 6) dJ0_isLatin1_aae02_6 rfl ?_
  refine go_strC (pc := 7) hs rfl dJ0_isLatin1_aae02_7 ?_
  refine go_if_ne (tgt := 17) (pc := 10) dJ0_isLatin1_aae02_10 (by decide) (fun h_10 => by exfalso; exact h_10 rfl) (fun h_10 => ?_)
  refine go_iconst (v := 1) (pc := 13) dJ0_isLatin1_aae02_13 (by decide) ?_
  refine go_goto (tgt := 18) (pc := 14) dJ0_isLatin1_aae02_14 (by decide) ?_
  exact go_zretP (pc := 18) rfl (by first | rfl | exact nb_bI) dJ0_isLatin1_aae02_18 (Nat.le_of_ble_eq_true rfl) (Nat.le_of_ble_eq_true rfl) rfl
theorem cp_slen {Γ : gam} {z0 : sto} {n k si : Nat} {q : String × Nat × String} (hs : sTab[si]? = some q) (hk : 1 ≤ k) : Sp Γ (rmk k 0 0) uJ0_length_8abf5 [.ref (gK Γ si)] z0 n (qP (nI q.2.2.length) z0 n) := by
  refine sp_intro [some (.ref (gK Γ si))] (by decide +kernel) rfl (Nat.le_of_ble_eq_true rfl) rfl ?_
  refine go_aload_n (pc := 0) dJ0_length_8abf5_0 rfl ?_
  refine go_strV (pc := 1) hs rfl dJ0_length_8abf5_1 ?_
  refine go_strL (pc := 4) hs dJ0_length_8abf5_4 ?_
  refine go_aload_n (pc := 5) dJ0_length_8abf5_5 rfl ?_
  refine go_V0P (pc := 6) v_J0_335 rfl rfl (rcv_str hs) dJ0_length_8abf5_6 (cp_coder (k := k - 1) hs) ?_
  refine go_ishr (pc := 9) dJ0_length_8abf5_9 ?_
  exact go_iretP (pc := 10) rfl dJ0_length_8abf5_10 (Nat.le_of_ble_eq_true rfl) (Nat.le_of_ble_eq_true rfl) (by simp)
theorem cp_chkN {Γ : gam} {z0 : sto} {n k j N : Nat} (hj_q : j < N) (hN_q : N < 2 ^ 31) : Sp Γ (rmk k 0 0) uJ3_checkIndex_8e157 [.int (nI j), .int (nI N), .null] z0 n (qP (nI j) z0 n) := by
  refine sp_intro [some (.int (nI j)), some (.int (nI N)), some (.null)] (by decide +kernel) rfl (Nat.le_of_ble_eq_true rfl) rfl ?_
  refine go_iload_n (pc := 0) dJ3_checkIndex_8e157_0 rfl ?_
  refine go_if_lt (tgt := 9) (pc := 1) dJ3_checkIndex_8e157_1 (by decide) (fun h_1 => by exfalso; exact absurd h_1 (nI_pos (by omega))) (fun h_1 => ?_)
  refine go_iload_n (pc := 4) dJ3_checkIndex_8e157_4 rfl ?_
  refine go_iload_n (pc := 5) dJ3_checkIndex_8e157_5 rfl ?_
  refine go_icmp_lt (tgt := 16) (pc := 6) dJ3_checkIndex_8e157_6 (by decide) (fun h_6 => ?_) (fun h_6 => by exfalso; exact h_6 (nI_lt (by omega) (by omega)))
  refine go_iload_n (pc := 16) dJ3_checkIndex_8e157_16 rfl ?_
  exact go_iretP (pc := 17) rfl dJ3_checkIndex_8e157_17 (Nat.le_of_ble_eq_true rfl) (Nat.le_of_ble_eq_true rfl) rfl
theorem cp_chkR {Γ : gam} {z0 : sto} {n k j N a9_q : Nat} (hj_q : j < N) (hN_q : N < 2 ^ 31) : Sp Γ (rmk k 0 0) uJ3_checkIndex_8e157 [.int (nI j), .int (nI N), .ref a9_q] z0 n (qP (nI j) z0 n) := by
  refine sp_intro [some (.int (nI j)), some (.int (nI N)), some (.ref a9_q)] (by decide +kernel) rfl (Nat.le_of_ble_eq_true rfl) rfl ?_
  refine go_iload_n (pc := 0) dJ3_checkIndex_8e157_0 rfl ?_
  refine go_if_lt (tgt := 9) (pc := 1) dJ3_checkIndex_8e157_1 (by decide) (fun h_1 => by exfalso; exact absurd h_1 (nI_pos (by omega))) (fun h_1 => ?_)
  refine go_iload_n (pc := 4) dJ3_checkIndex_8e157_4 rfl ?_
  refine go_iload_n (pc := 5) dJ3_checkIndex_8e157_5 rfl ?_
  refine go_icmp_lt (tgt := 16) (pc := 6) dJ3_checkIndex_8e157_6 (by decide) (fun h_6 => ?_) (fun h_6 => by exfalso; exact h_6 (nI_lt (by omega) (by omega)))
  refine go_iload_n (pc := 16) dJ3_checkIndex_8e157_16 rfl ?_
  exact go_iretP (pc := 17) rfl dJ3_checkIndex_8e157_17 (Nat.le_of_ble_eq_true rfl) (Nat.le_of_ble_eq_true rfl) rfl
theorem cp_chkI {Γ : gam} {z0 : sto} {n k j N : Nat} (hj_q : j < N) (hN_q : N < 2 ^ 31) (hk : 1 ≤ k) : Sp Γ (rmk k 0 0) uJ0_checkIndex_df160 [.int (nI j), .int (nI N)] z0 n (qV fun σ' n' => z0 = σ' ∧ n = n') := by
  refine sp_intro [some (.int (nI j)), some (.int (nI N))] (by decide +kernel) rfl (Nat.le_of_ble_eq_true rfl) rfl ?_
  refine go_iload_n (pc := 0) dJ0_checkIndex_df160_0 rfl ?_
  refine go_iload_n (pc := 1) dJ0_checkIndex_df160_1 rfl ?_
  refine go_sioob (pc := 2) rfl dJ0_checkIndex_df160_2 (fun v9 hv9_q => ?_)
  rcases hv9_q with rfl | ⟨a9_q, rfl⟩
  · refine go_S3P (pc := 5) s_J0_1059 rfl rfl dJ0_checkIndex_df160_5 (cp_chkN (k := k - 1) hj_q hN_q) ?_
    refine go_pop (pc := 8) dJ0_checkIndex_df160_8 rfl ?_
    exact go_vretV (pc := 9) rfl dJ0_checkIndex_df160_9 (Nat.le_of_ble_eq_true rfl) (Nat.le_of_ble_eq_true rfl) ⟨rfl, rfl⟩
  · refine go_S3P (pc := 5) s_J0_1059 rfl rfl dJ0_checkIndex_df160_5 (cp_chkR (k := k - 1) hj_q hN_q) ?_
    refine go_pop (pc := 8) dJ0_checkIndex_df160_8 rfl ?_
    exact go_vretV (pc := 9) rfl dJ0_checkIndex_df160_9 (Nat.le_of_ble_eq_true rfl) (Nat.le_of_ble_eq_true rfl) ⟨rfl, rfl⟩
theorem cp_chL1 {Γ : gam} {z0 : sto} {n k si : Nat} {q : String × Nat × String} (hs : sTab[si]? = some q) {j : Nat} (hj_q : j < q.2.2.length) (hq_q : q.2.2.length < 2 ^ 31) (hk : 2 ≤ k) : Sp Γ (rmk k 0 0) uJ1_charAt_3b067 [.ref (gV Γ si), .int (nI j)] z0 n (qP (chV q.2.2 j) z0 n) := by
  refine sp_intro [some (.ref (gV Γ si)), some (.int (nI j))] (by decide +kernel) rfl (Nat.le_of_ble_eq_true rfl) rfl ?_
  refine go_iload_n (pc := 0) dJ1_charAt_3b067_0 rfl ?_
  refine go_aload_n (pc := 1) dJ1_charAt_3b067_1 rfl ?_
  refine go_strL (pc := 2) hs dJ1_charAt_3b067_2 ?_
  refine go_S2V (pc := 3) s_J1_9 rfl rfl dJ1_charAt_3b067_3 (cp_chkI (k := k - 1) hj_q hq_q (by omega)) (fun σ n h_q => ?_)
  obtain ⟨rfl, rfl⟩ := h_q
  refine go_aload_n (pc := 6) dJ1_charAt_3b067_6 rfl ?_
  refine go_iload_n (pc := 7) dJ1_charAt_3b067_7 rfl ?_
  refine go_strB (pc := 8) hs (vp_in_nI hj_q hq_q) dJ1_charAt_3b067_8 ?_
  rw [nI_clamp (by omega)]
  refine go_sipush (v := 255) (pc := 9) dJ1_charAt_3b067_9 (by decide) ?_
  refine go_iand (pc := 12) dJ1_charAt_3b067_12 ?_
  refine go_i2c (pc := 13) dJ1_charAt_3b067_13 ?_
  exact go_zretP (pc := 14) rfl (by first | rfl | exact nb_bI | exact nar_c) dJ1_charAt_3b067_14 (Nat.le_of_ble_eq_true rfl) (Nat.le_of_ble_eq_true rfl) rfl
theorem cp_chAt {Γ : gam} {z0 : sto} {n k si : Nat} {q : String × Nat × String} (hs : sTab[si]? = some q) {j : Nat} (hj_q : j < q.2.2.length) (hq_q : q.2.2.length < 2 ^ 31) (hk : 3 ≤ k) : Sp Γ (rmk k 0 0) uJ0_charAt_5068e [.ref (gK Γ si), .int (nI j)] z0 n (qP (chV q.2.2 j) z0 n) := by
  refine sp_intro [some (.ref (gK Γ si)), some (.int (nI j))] (by decide +kernel) rfl (Nat.le_of_ble_eq_true rfl) rfl ?_
  refine go_aload_n (pc := 0) dJ0_charAt_5068e_0 rfl ?_
  refine go_V0P (pc := 1) v_J0_492 rfl rfl (rcv_str hs) dJ0_charAt_5068e_1 (cp_isL1 (k := k - 1) hs) ?_
  refine go_if_eq (tgt := 16) (pc := 4) dJ0_charAt_5068e_4 (by decide) (fun h_4 => by exfalso; exact absurd h_4 (by decide)) (fun h_4 => ?_)
  refine go_aload_n (pc := 7) dJ0_charAt_5068e_7 rfl ?_
  refine go_strV (pc := 8) hs rfl dJ0_charAt_5068e_8 ?_
  refine go_iload_n (pc := 11) dJ0_charAt_5068e_11 rfl ?_
  refine go_S2P (pc := 12) s_J0_495 rfl rfl dJ0_charAt_5068e_12 (cp_chL1 (k := k - 1) hs hj_q hq_q (by omega)) ?_
  exact go_zretP (pc := 15) rfl (by first | rfl | exact nb_bI | exact nar_c) dJ0_charAt_5068e_15 (Nat.le_of_ble_eq_true rfl) (Nat.le_of_ble_eq_true rfl) rfl
theorem cp_isLet {Γ : gam} {z0 : sto} {n k : Nat} (x_q : Int32) : Sp Γ (rmk k 0 0) uX4_isLetter [.int x_q] z0 n (qP (bI (ltr x_q = true)) z0 n) := by
  refine sp_intro [some (.int x_q)] (by decide +kernel) rfl (Nat.le_of_ble_eq_true rfl) rfl ?_
  refine go_iload_n (pc := 0) dX4_isLetter_0 rfl ?_
  refine go_bipush (v := 97) (pc := 1) dX4_isLetter_1 (by decide) ?_
  refine go_icmp_lt (tgt := 16) (pc := 3) dX4_isLetter_3 (by decide) (fun h_3 => ?_) (fun h_3 => ?_)
  · refine go_iconst (v := 0) (pc := 16) dX4_isLetter_16 (by decide) ?_
    exact go_zretP (pc := 17) rfl (by first | rfl | exact nb_bI) dX4_isLetter_17 (Nat.le_of_ble_eq_true rfl) (Nat.le_of_ble_eq_true rfl) (by first | (have g_q : 97 ≤ x_q ∧ x_q ≤ 122 := ⟨Int32.not_lt.mp h_3, Int32.not_lt.mp h_9⟩; exact (bI_t (by simp only [ltr, decide_eq_true_eq]; exact g_q)).symm) | (refine (bI_f (fun hc_q => ?_)).symm; simp only [ltr, decide_eq_true_eq] at hc_q; first | exact absurd hc_q.1 (Int32.not_le.mpr h_3) | exact absurd hc_q.2 (Int32.not_le.mpr h_9)))
  · refine go_iload_n (pc := 6) dX4_isLetter_6 rfl ?_
    refine go_bipush (v := 122) (pc := 7) dX4_isLetter_7 (by decide) ?_
    refine go_icmp_gt (tgt := 16) (pc := 9) dX4_isLetter_9 (by decide) (fun h_9 => ?_) (fun h_9 => ?_)
    · refine go_iconst (v := 0) (pc := 16) dX4_isLetter_16 (by decide) ?_
      exact go_zretP (pc := 17) rfl (by first | rfl | exact nb_bI) dX4_isLetter_17 (Nat.le_of_ble_eq_true rfl) (Nat.le_of_ble_eq_true rfl) (by first | (have g_q : 97 ≤ x_q ∧ x_q ≤ 122 := ⟨Int32.not_lt.mp h_3, Int32.not_lt.mp h_9⟩; exact (bI_t (by simp only [ltr, decide_eq_true_eq]; exact g_q)).symm) | (refine (bI_f (fun hc_q => ?_)).symm; simp only [ltr, decide_eq_true_eq] at hc_q; first | exact absurd hc_q.1 (Int32.not_le.mpr h_3) | exact absurd hc_q.2 (Int32.not_le.mpr h_9)))
    · refine go_iconst (v := 1) (pc := 12) dX4_isLetter_12 (by decide) ?_
      refine go_goto (tgt := 17) (pc := 13) dX4_isLetter_13 (by decide) ?_
      exact go_zretP (pc := 17) rfl (by first | rfl | exact nb_bI) dX4_isLetter_17 (Nat.le_of_ble_eq_true rfl) (Nat.le_of_ble_eq_true rfl) (by first | (have g_q : 97 ≤ x_q ∧ x_q ≤ 122 := ⟨Int32.not_lt.mp h_3, Int32.not_lt.mp h_9⟩; exact (bI_t (by simp only [ltr, decide_eq_true_eq]; exact g_q)).symm) | (refine (bI_f (fun hc_q => ?_)).symm; simp only [ltr, decide_eq_true_eq] at hc_q; first | exact absurd hc_q.1 (Int32.not_le.mpr h_3) | exact absurd hc_q.2 (Int32.not_le.mpr h_9)))
theorem cp_isDig {Γ : gam} {z0 : sto} {n k : Nat} (x_q : Int32) : Sp Γ (rmk k 0 0) uX4_isDigit [.int x_q] z0 n (qP (bI (dgt x_q = true)) z0 n) := by
  refine sp_intro [some (.int x_q)] (by decide +kernel) rfl (Nat.le_of_ble_eq_true rfl) rfl ?_
  refine go_iload_n (pc := 0) dX4_isDigit_0 rfl ?_
  refine go_bipush (v := 48) (pc := 1) dX4_isDigit_1 (by decide) ?_
  refine go_icmp_lt (tgt := 16) (pc := 3) dX4_isDigit_3 (by decide) (fun h_3 => ?_) (fun h_3 => ?_)
  · refine go_iconst (v := 0) (pc := 16) dX4_isDigit_16 (by decide) ?_
    exact go_zretP (pc := 17) rfl (by first | rfl | exact nb_bI) dX4_isDigit_17 (Nat.le_of_ble_eq_true rfl) (Nat.le_of_ble_eq_true rfl) (by first | (have g_q : 48 ≤ x_q ∧ x_q ≤ 57 := ⟨Int32.not_lt.mp h_3, Int32.not_lt.mp h_9⟩; exact (bI_t (by simp only [dgt, decide_eq_true_eq]; exact g_q)).symm) | (refine (bI_f (fun hc_q => ?_)).symm; simp only [dgt, decide_eq_true_eq] at hc_q; first | exact absurd hc_q.1 (Int32.not_le.mpr h_3) | exact absurd hc_q.2 (Int32.not_le.mpr h_9)))
  · refine go_iload_n (pc := 6) dX4_isDigit_6 rfl ?_
    refine go_bipush (v := 57) (pc := 7) dX4_isDigit_7 (by decide) ?_
    refine go_icmp_gt (tgt := 16) (pc := 9) dX4_isDigit_9 (by decide) (fun h_9 => ?_) (fun h_9 => ?_)
    · refine go_iconst (v := 0) (pc := 16) dX4_isDigit_16 (by decide) ?_
      exact go_zretP (pc := 17) rfl (by first | rfl | exact nb_bI) dX4_isDigit_17 (Nat.le_of_ble_eq_true rfl) (Nat.le_of_ble_eq_true rfl) (by first | (have g_q : 48 ≤ x_q ∧ x_q ≤ 57 := ⟨Int32.not_lt.mp h_3, Int32.not_lt.mp h_9⟩; exact (bI_t (by simp only [dgt, decide_eq_true_eq]; exact g_q)).symm) | (refine (bI_f (fun hc_q => ?_)).symm; simp only [dgt, decide_eq_true_eq] at hc_q; first | exact absurd hc_q.1 (Int32.not_le.mpr h_3) | exact absurd hc_q.2 (Int32.not_le.mpr h_9)))
    · refine go_iconst (v := 1) (pc := 12) dX4_isDigit_12 (by decide) ?_
      refine go_goto (tgt := 17) (pc := 13) dX4_isDigit_13 (by decide) ?_
      exact go_zretP (pc := 17) rfl (by first | rfl | exact nb_bI) dX4_isDigit_17 (Nat.le_of_ble_eq_true rfl) (Nat.le_of_ble_eq_true rfl) (by first | (have g_q : 48 ≤ x_q ∧ x_q ≤ 57 := ⟨Int32.not_lt.mp h_3, Int32.not_lt.mp h_9⟩; exact (bI_t (by simp only [dgt, decide_eq_true_eq]; exact g_q)).symm) | (refine (bI_f (fun hc_q => ?_)).symm; simp only [dgt, decide_eq_true_eq] at hc_q; first | exact absurd hc_q.1 (Int32.not_le.mpr h_3) | exact absurd hc_q.2 (Int32.not_le.mpr h_9)))
theorem sp_isLet {Γ : gam} {z0 : sto} {n k : Nat} (x_q : Int32) : Sp Γ (rmk k 0 0) uX8_isLetter [.int x_q] z0 n (qP (bI (ltr x_q = true)) z0 n) := by
  refine sp_intro [some (.int x_q)] (by decide +kernel) rfl (Nat.le_of_ble_eq_true rfl) rfl ?_
  refine go_iload_n (pc := 0) dX8_isLetter_0 rfl ?_
  refine go_bipush (v := 97) (pc := 1) dX8_isLetter_1 (by decide) ?_
  refine go_icmp_lt (tgt := 16) (pc := 3) dX8_isLetter_3 (by decide) (fun h_3 => ?_) (fun h_3 => ?_)
  · refine go_iconst (v := 0) (pc := 16) dX8_isLetter_16 (by decide) ?_
    exact go_zretP (pc := 17) rfl (by first | rfl | exact nb_bI) dX8_isLetter_17 (Nat.le_of_ble_eq_true rfl) (Nat.le_of_ble_eq_true rfl) (by first | (have g_q : 97 ≤ x_q ∧ x_q ≤ 122 := ⟨Int32.not_lt.mp h_3, Int32.not_lt.mp h_9⟩; exact (bI_t (by simp only [ltr, decide_eq_true_eq]; exact g_q)).symm) | (refine (bI_f (fun hc_q => ?_)).symm; simp only [ltr, decide_eq_true_eq] at hc_q; first | exact absurd hc_q.1 (Int32.not_le.mpr h_3) | exact absurd hc_q.2 (Int32.not_le.mpr h_9)))
  · refine go_iload_n (pc := 6) dX8_isLetter_6 rfl ?_
    refine go_bipush (v := 122) (pc := 7) dX8_isLetter_7 (by decide) ?_
    refine go_icmp_gt (tgt := 16) (pc := 9) dX8_isLetter_9 (by decide) (fun h_9 => ?_) (fun h_9 => ?_)
    · refine go_iconst (v := 0) (pc := 16) dX8_isLetter_16 (by decide) ?_
      exact go_zretP (pc := 17) rfl (by first | rfl | exact nb_bI) dX8_isLetter_17 (Nat.le_of_ble_eq_true rfl) (Nat.le_of_ble_eq_true rfl) (by first | (have g_q : 97 ≤ x_q ∧ x_q ≤ 122 := ⟨Int32.not_lt.mp h_3, Int32.not_lt.mp h_9⟩; exact (bI_t (by simp only [ltr, decide_eq_true_eq]; exact g_q)).symm) | (refine (bI_f (fun hc_q => ?_)).symm; simp only [ltr, decide_eq_true_eq] at hc_q; first | exact absurd hc_q.1 (Int32.not_le.mpr h_3) | exact absurd hc_q.2 (Int32.not_le.mpr h_9)))
    · refine go_iconst (v := 1) (pc := 12) dX8_isLetter_12 (by decide) ?_
      refine go_goto (tgt := 17) (pc := 13) dX8_isLetter_13 (by decide) ?_
      exact go_zretP (pc := 17) rfl (by first | rfl | exact nb_bI) dX8_isLetter_17 (Nat.le_of_ble_eq_true rfl) (Nat.le_of_ble_eq_true rfl) (by first | (have g_q : 97 ≤ x_q ∧ x_q ≤ 122 := ⟨Int32.not_lt.mp h_3, Int32.not_lt.mp h_9⟩; exact (bI_t (by simp only [ltr, decide_eq_true_eq]; exact g_q)).symm) | (refine (bI_f (fun hc_q => ?_)).symm; simp only [ltr, decide_eq_true_eq] at hc_q; first | exact absurd hc_q.1 (Int32.not_le.mpr h_3) | exact absurd hc_q.2 (Int32.not_le.mpr h_9)))
theorem sp_isDig {Γ : gam} {z0 : sto} {n k : Nat} (x_q : Int32) : Sp Γ (rmk k 0 0) uX8_isDigit [.int x_q] z0 n (qP (bI (dgt x_q = true)) z0 n) := by
  refine sp_intro [some (.int x_q)] (by decide +kernel) rfl (Nat.le_of_ble_eq_true rfl) rfl ?_
  refine go_iload_n (pc := 0) dX8_isDigit_0 rfl ?_
  refine go_bipush (v := 48) (pc := 1) dX8_isDigit_1 (by decide) ?_
  refine go_icmp_lt (tgt := 16) (pc := 3) dX8_isDigit_3 (by decide) (fun h_3 => ?_) (fun h_3 => ?_)
  · refine go_iconst (v := 0) (pc := 16) dX8_isDigit_16 (by decide) ?_
    exact go_zretP (pc := 17) rfl (by first | rfl | exact nb_bI) dX8_isDigit_17 (Nat.le_of_ble_eq_true rfl) (Nat.le_of_ble_eq_true rfl) (by first | (have g_q : 48 ≤ x_q ∧ x_q ≤ 57 := ⟨Int32.not_lt.mp h_3, Int32.not_lt.mp h_9⟩; exact (bI_t (by simp only [dgt, decide_eq_true_eq]; exact g_q)).symm) | (refine (bI_f (fun hc_q => ?_)).symm; simp only [dgt, decide_eq_true_eq] at hc_q; first | exact absurd hc_q.1 (Int32.not_le.mpr h_3) | exact absurd hc_q.2 (Int32.not_le.mpr h_9)))
  · refine go_iload_n (pc := 6) dX8_isDigit_6 rfl ?_
    refine go_bipush (v := 57) (pc := 7) dX8_isDigit_7 (by decide) ?_
    refine go_icmp_gt (tgt := 16) (pc := 9) dX8_isDigit_9 (by decide) (fun h_9 => ?_) (fun h_9 => ?_)
    · refine go_iconst (v := 0) (pc := 16) dX8_isDigit_16 (by decide) ?_
      exact go_zretP (pc := 17) rfl (by first | rfl | exact nb_bI) dX8_isDigit_17 (Nat.le_of_ble_eq_true rfl) (Nat.le_of_ble_eq_true rfl) (by first | (have g_q : 48 ≤ x_q ∧ x_q ≤ 57 := ⟨Int32.not_lt.mp h_3, Int32.not_lt.mp h_9⟩; exact (bI_t (by simp only [dgt, decide_eq_true_eq]; exact g_q)).symm) | (refine (bI_f (fun hc_q => ?_)).symm; simp only [dgt, decide_eq_true_eq] at hc_q; first | exact absurd hc_q.1 (Int32.not_le.mpr h_3) | exact absurd hc_q.2 (Int32.not_le.mpr h_9)))
    · refine go_iconst (v := 1) (pc := 12) dX8_isDigit_12 (by decide) ?_
      refine go_goto (tgt := 17) (pc := 13) dX8_isDigit_13 (by decide) ?_
      exact go_zretP (pc := 17) rfl (by first | rfl | exact nb_bI) dX8_isDigit_17 (Nat.le_of_ble_eq_true rfl) (Nat.le_of_ble_eq_true rfl) (by first | (have g_q : 48 ≤ x_q ∧ x_q ≤ 57 := ⟨Int32.not_lt.mp h_3, Int32.not_lt.mp h_9⟩; exact (bI_t (by simp only [dgt, decide_eq_true_eq]; exact g_q)).symm) | (refine (bI_f (fun hc_q => ?_)).symm; simp only [dgt, decide_eq_true_eq] at hc_q; first | exact absurd hc_q.1 (Int32.not_le.mpr h_3) | exact absurd hc_q.2 (Int32.not_le.mpr h_9)))
theorem cp_spells {Γ : gam} {z0 : sto} {n k si a h_q e_q N : Nat} {f_q : row} {q : String × Nat × String} (hs : sTab[si]? = some q) (ho : z0 a = some (cI Γ N f_q)) (hN_q : N < 2 ^ 31) (he : e_q ≤ N) (hh : h_q ≤ e_q) (hq_q : q.2.2.length < 2 ^ 31) (hk : 5 ≤ k) : Sp Γ (rmk k 0 0) uX4_spells [.ref a, .int (nI h_q), .int (nI e_q), .ref (gK Γ si)] z0 n (qP (bI (txW f_q h_q e_q = wdL q.2.2)) z0 n) := by
  refine sp_intro [some (.ref a), some (.int (nI h_q)), some (.int (nI e_q)), some (.ref (gK Γ si)), none] (by decide +kernel) rfl (Nat.le_of_ble_eq_true rfl) rfl ?_
  refine go_iload_n (pc := 0) dX4_spells_0 rfl ?_
  refine go_iload_n (pc := 1) dX4_spells_1 rfl ?_
  refine go_isub (pc := 2) dX4_spells_2 ?_
  rw [show nI e_q - nI h_q = nI (e_q - h_q) from pk_sub (by omega)]
  refine go_aload_n (pc := 3) dX4_spells_3 rfl ?_
  refine go_V0P (pc := 4) v_X4_145 rfl rfl (rcv_str hs) dX4_spells_4 (cp_slen (k := k - 1) hs (by omega)) ?_
  refine go_icmp_ne (tgt := 20) (pc := 7) dX4_spells_7 (by decide) (fun h_7 => ?_) (fun h_7 => ?_)
  · refine go_iconst (v := 0) (pc := 20) dX4_spells_20 (by decide) ?_
    exact go_zretP (pc := 21) rfl (by first | rfl | exact nb_bI) dX4_spells_21 (Nat.le_of_ble_eq_true rfl) (Nat.le_of_ble_eq_true rfl) (by
  refine (bI_f (fun hc_q => ?_)).symm
  have g_q := tx_eq.mp hc_q
  first
    | exact h_7 (by rw [g_q.1])
    | exact absurd h_11 (nI_pos (by omega))
    | exact h_17 (nI_le (by omega) (by omega)))
  · have g7_q : e_q - h_q = q.2.2.length := (nI_eq (by omega) (by omega)).mp h_7
    refine go_iload_n (pc := 10) dX4_spells_10 rfl ?_
    refine go_if_lt (tgt := 20) (pc := 11) dX4_spells_11 (by decide) (fun h_11 => by exfalso; exact absurd h_11 (nI_pos (by omega))) (fun h_11 => ?_)
    refine go_iload_n (pc := 14) dX4_spells_14 rfl ?_
    refine go_aload_n (pc := 15) dX4_spells_15 rfl ?_
    refine go_alen (pc := 16) dX4_spells_16 ho (t0 := 0) rfl rfl ?_
    refine go_icmp_le (tgt := 22) (pc := 17) dX4_spells_17 (by decide) (fun h_17 => ?_) (fun h_17 => by exfalso; exact h_17 (nI_le (by omega) (by omega)))
    refine go_iconst (v := 0) (pc := 22) dX4_spells_22 (by decide) ?_
    refine go_istore (lw := [_, _, _, _, _]) (pc := 23) dX4_spells_23 (by decide) rfl ?_
    refine go_iter (q.2.2.length) (fun i_q lv9 s9 n9 => lv9 = [some (.ref a), some (.int (nI h_q)), some (.int (nI e_q)), some (.ref (gK Γ si)), some (.int (nI i_q))] ∧ (∀ j, j < i_q → f_q (h_q + j) = chV q.2.2 j) ∧ (z0 = s9) ∧ n = n9) ⟨rfl, (fun j hj_q => by omega), rfl, rfl⟩ ?_ ?_
    · rintro i_q lv9 σ n9 hi_q ⟨rfl, hJ, es, rfl⟩ ih_q
      subst es
      refine go_iload (pc := 25) dX4_spells_25 rfl ?_
      refine go_aload_n (pc := 27) dX4_spells_27 rfl ?_
      refine go_V0P (pc := 28) v_X4_145 rfl rfl (rcv_str hs) dX4_spells_28 (cp_slen (k := k - 1) hs (by omega)) ?_
      refine go_icmp_ge (tgt := 57) (pc := 31) dX4_spells_31 (by decide) (fun h_31 => by exfalso; exact absurd h_31 (nI_ge (by omega) (by omega))) (fun h_31 => ?_)
      refine go_aload_n (pc := 34) dX4_spells_34 rfl ?_
      refine go_iload_n (pc := 35) dX4_spells_35 rfl ?_
      refine go_iload (pc := 36) dX4_spells_36 rfl ?_
      refine go_iadd (pc := 38) dX4_spells_38 ?_
      rw [nI_add]
      refine go_iald (hN := hN_q) (pc := 39) dX4_spells_39 ho (by exact ⟨rfl, by omega⟩) ?_
      refine go_aload_n (pc := 40) dX4_spells_40 rfl ?_
      refine go_iload (pc := 41) dX4_spells_41 rfl ?_
      refine go_V1P (pc := 43) v_X4_148 rfl rfl (rcv_str hs) dX4_spells_43 (cp_chAt (k := k - 1) hs (j := i_q) (by omega) (by omega) (by omega)) ?_
      refine go_icmp_eq (tgt := 51) (pc := 46) dX4_spells_46 (by decide) (fun h_46 => ?_) (fun h_46 => ?_)
      · refine go_iinc (v := 1) (lw := [_, _, _, _, _]) (pc := 51) dX4_spells_51 rfl (by decide) (by decide) rfl ?_
        refine go_goto (tgt := 25) (pc := 54) dX4_spells_54 (by decide) ?_
        rw [nI_1]
        exact ih_q _ _ _ ⟨rfl, fun j hj_q => by
          by_cases e9_q : j = i_q
          · rw [e9_q]; exact h_46
          · exact hJ j (by omega), rfl, rfl⟩
      · refine go_iconst (v := 0) (pc := 49) dX4_spells_49 (by decide) ?_
        exact go_zretP (pc := 50) rfl (by first | rfl | exact nb_bI) dX4_spells_50 (Nat.le_of_ble_eq_true rfl) (Nat.le_of_ble_eq_true rfl) (by
  refine (bI_f (fun hc_q => ?_)).symm
  exact h_46 ((tx_eq.mp hc_q).2 i_q hi_q))
    · rintro lv9 σ n9 ⟨rfl, hJ, es, rfl⟩
      subst es
      refine go_iload (pc := 25) dX4_spells_25 rfl ?_
      refine go_aload_n (pc := 27) dX4_spells_27 rfl ?_
      refine go_V0P (pc := 28) v_X4_145 rfl rfl (rcv_str hs) dX4_spells_28 (cp_slen (k := k - 1) hs (by omega)) ?_
      refine go_icmp_ge (tgt := 57) (pc := 31) dX4_spells_31 (by decide) (fun h_31 => ?_) (fun h_31 => by exfalso; exact h_31 (nI_le (by omega) (by omega)))
      refine go_iconst (v := 1) (pc := 57) dX4_spells_57 (by decide) ?_
      exact go_zretP (pc := 58) rfl (by first | rfl | exact nb_bI) dX4_spells_58 (Nat.le_of_ble_eq_true rfl) (Nat.le_of_ble_eq_true rfl) (bI_t (tx_eq.mpr ⟨g7_q, fun j hj_q => hJ j hj_q⟩)).symm
theorem cp_word {Γ : gam} {z0 : sto} {n k a h_q e_q N : Nat} {f_q : row} (ho : z0 a = some (cI Γ N f_q)) (hN_q : N < 2 ^ 31) (he : e_q ≤ N) (hh : h_q ≤ e_q) (hk : 6 ≤ k) : Sp Γ (rmk k 0 0) uX4_word [.ref a, .int (nI h_q), .int (nI e_q)] z0 n (qP (wK (txW f_q h_q e_q)) z0 n) := by
  refine sp_intro [some (.ref a), some (.int (nI h_q)), some (.int (nI e_q))] (by decide +kernel) rfl (Nat.le_of_ble_eq_true rfl) rfl ?_
  refine go_aload_n (pc := 0) dX4_word_0 rfl ?_
  refine go_iload_n (pc := 1) dX4_word_1 rfl ?_
  refine go_iload_n (pc := 2) dX4_word_2 rfl ?_
  refine go_ldcS (si := 1) (pc := 3) rfl dX4_word_3 ?_
  refine go_S4P (pc := 5) s_X4_110 rfl rfl dX4_word_5 (cp_spells (k := k - 1) (si := 1) (q := ("FrontChairs$Reader", 109, "beach")) rfl ho (by omega) he hh (by decide) (by omega)) ?_
  refine go_if_eq (tgt := 13) (pc := 8) dX4_word_8 (by decide) (fun h_8 => ?_) (fun h_8 => ?_)
  · refine go_aload_n (pc := 13) dX4_word_13 rfl ?_
    refine go_iload_n (pc := 14) dX4_word_14 rfl ?_
    refine go_iload_n (pc := 15) dX4_word_15 rfl ?_
    refine go_ldcS (si := 2) (pc := 16) rfl dX4_word_16 ?_
    refine go_S4P (pc := 18) s_X4_110 rfl rfl dX4_word_18 (cp_spells (k := k - 1) (si := 2) (q := ("FrontChairs$Reader", 114, "person")) rfl ho (by omega) he hh (by decide) (by omega)) ?_
    refine go_if_eq (tgt := 26) (pc := 21) dX4_word_21 (by decide) (fun h_21 => ?_) (fun h_21 => ?_)
    · refine go_aload_n (pc := 26) dX4_word_26 rfl ?_
      refine go_iload_n (pc := 27) dX4_word_27 rfl ?_
      refine go_iload_n (pc := 28) dX4_word_28 rfl ?_
      refine go_ldcS (si := 3) (pc := 29) rfl dX4_word_29 ?_
      refine go_S4P (pc := 31) s_X4_110 rfl rfl dX4_word_31 (cp_spells (k := k - 1) (si := 3) (q := ("FrontChairs$Reader", 116, "at")) rfl ho (by omega) he hh (by decide) (by omega)) ?_
      refine go_if_eq (tgt := 40) (pc := 34) dX4_word_34 (by decide) (fun h_34 => ?_) (fun h_34 => ?_)
      · refine go_aload_n (pc := 40) dX4_word_40 rfl ?_
        refine go_iload_n (pc := 41) dX4_word_41 rfl ?_
        refine go_iload_n (pc := 42) dX4_word_42 rfl ?_
        refine go_ldcS (si := 4) (pc := 43) rfl dX4_word_43 ?_
        refine go_S4P (pc := 45) s_X4_110 rfl rfl dX4_word_45 (cp_spells (k := k - 1) (si := 4) (q := ("FrontChairs$Reader", 117, "moves")) rfl ho (by omega) he hh (by decide) (by omega)) ?_
        refine go_if_eq (tgt := 54) (pc := 48) dX4_word_48 (by decide) (fun h_48 => ?_) (fun h_48 => ?_)
        · refine go_aload_n (pc := 54) dX4_word_54 rfl ?_
          refine go_iload_n (pc := 55) dX4_word_55 rfl ?_
          refine go_iload_n (pc := 56) dX4_word_56 rfl ?_
          refine go_ldcS (si := 5) (pc := 57) rfl dX4_word_57 ?_
          refine go_S4P (pc := 59) s_X4_110 rfl rfl dX4_word_59 (cp_spells (k := k - 1) (si := 5) (q := ("FrontChairs$Reader", 119, "tide")) rfl ho (by omega) he hh (by decide) (by omega)) ?_
          refine go_if_eq (tgt := 68) (pc := 62) dX4_word_62 (by decide) (fun h_62 => ?_) (fun h_62 => ?_)
          · refine go_aload_n (pc := 68) dX4_word_68 rfl ?_
            refine go_iload_n (pc := 69) dX4_word_69 rfl ?_
            refine go_iload_n (pc := 70) dX4_word_70 rfl ?_
            refine go_ldcS (si := 6) (pc := 71) rfl dX4_word_71 ?_
            refine go_S4P (pc := 73) s_X4_110 rfl rfl dX4_word_73 (cp_spells (k := k - 1) (si := 6) (q := ("FrontChairs$Reader", 121, "wets")) rfl ho (by omega) he hh (by decide) (by omega)) ?_
            refine go_if_eq (tgt := 82) (pc := 76) dX4_word_76 (by decide) (fun h_76 => ?_) (fun h_76 => ?_)
            · refine go_aload_n (pc := 82) dX4_word_82 rfl ?_
              refine go_iload_n (pc := 83) dX4_word_83 rfl ?_
              refine go_iload_n (pc := 84) dX4_word_84 rfl ?_
              refine go_ldcS (si := 7) (pc := 85) rfl dX4_word_85 ?_
              refine go_S4P (pc := 87) s_X4_110 rfl rfl dX4_word_87 (cp_spells (k := k - 1) (si := 7) (q := ("FrontChairs$Reader", 123, "minute")) rfl ho (by omega) he hh (by decide) (by omega)) ?_
              refine go_if_eq (tgt := 96) (pc := 90) dX4_word_90 (by decide) (fun h_90 => ?_) (fun h_90 => ?_)
              · refine go_aload_n (pc := 96) dX4_word_96 rfl ?_
                refine go_iload_n (pc := 97) dX4_word_97 rfl ?_
                refine go_iload_n (pc := 98) dX4_word_98 rfl ?_
                refine go_ldcS (si := 8) (pc := 99) rfl dX4_word_99 ?_
                refine go_S4P (pc := 101) s_X4_110 rfl rfl dX4_word_101 (cp_spells (k := k - 1) (si := 8) (q := ("FrontChairs$Reader", 125, "age")) rfl ho (by omega) he hh (by decide) (by omega)) ?_
                refine go_if_eq (tgt := 110) (pc := 104) dX4_word_104 (by decide) (fun h_104 => ?_) (fun h_104 => ?_)
                · refine go_aload_n (pc := 110) dX4_word_110 rfl ?_
                  refine go_iload_n (pc := 111) dX4_word_111 rfl ?_
                  refine go_iload_n (pc := 112) dX4_word_112 rfl ?_
                  refine go_ldcS (si := 9) (pc := 113) rfl dX4_word_113 ?_
                  refine go_S4P (pc := 115) s_X4_110 rfl rfl dX4_word_115 (cp_spells (k := k - 1) (si := 9) (q := ("FrontChairs$Reader", 127, "asleep")) rfl ho (by omega) he hh (by decide) (by omega)) ?_
                  refine go_if_eq (tgt := 124) (pc := 118) dX4_word_118 (by decide) (fun h_118 => ?_) (fun h_118 => ?_)
                  · refine go_aload_n (pc := 124) dX4_word_124 rfl ?_
                    refine go_iload_n (pc := 125) dX4_word_125 rfl ?_
                    refine go_iload_n (pc := 126) dX4_word_126 rfl ?_
                    refine go_ldcS (si := 10) (pc := 127) rfl dX4_word_127 ?_
                    refine go_S4P (pc := 129) s_X4_110 rfl rfl dX4_word_129 (cp_spells (k := k - 1) (si := 10) (q := ("FrontChairs$Reader", 129, "rises")) rfl ho (by omega) he hh (by decide) (by omega)) ?_
                    refine go_if_eq (tgt := 138) (pc := 132) dX4_word_132 (by decide) (fun h_132 => ?_) (fun h_132 => ?_)
                    · refine go_aload_n (pc := 138) dX4_word_138 rfl ?_
                      refine go_iload_n (pc := 139) dX4_word_139 rfl ?_
                      refine go_iload_n (pc := 140) dX4_word_140 rfl ?_
                      refine go_ldcS (si := 11) (pc := 141) rfl dX4_word_141 ?_
                      refine go_S4P (pc := 143) s_X4_110 rfl rfl dX4_word_143 (cp_spells (k := k - 1) (si := 11) (q := ("FrontChairs$Reader", 131, "for")) rfl ho (by omega) he hh (by decide) (by omega)) ?_
                      refine go_if_eq (tgt := 152) (pc := 146) dX4_word_146 (by decide) (fun h_146 => ?_) (fun h_146 => ?_)
                      · refine go_aload_n (pc := 152) dX4_word_152 rfl ?_
                        refine go_iload_n (pc := 153) dX4_word_153 rfl ?_
                        refine go_iload_n (pc := 154) dX4_word_154 rfl ?_
                        refine go_ldcS (si := 12) (pc := 155) rfl dX4_word_155 ?_
                        refine go_S4P (pc := 157) s_X4_110 rfl rfl dX4_word_157 (cp_spells (k := k - 1) (si := 12) (q := ("FrontChairs$Reader", 133, "not")) rfl ho (by omega) he hh (by decide) (by omega)) ?_
                        refine go_if_eq (tgt := 166) (pc := 160) dX4_word_160 (by decide) (fun h_160 => ?_) (fun h_160 => ?_)
                        · refine go_aload_n (pc := 166) dX4_word_166 rfl ?_
                          refine go_iload_n (pc := 167) dX4_word_167 rfl ?_
                          refine go_iload_n (pc := 168) dX4_word_168 rfl ?_
                          refine go_ldcS (si := 13) (pc := 169) rfl dX4_word_169 ?_
                          refine go_S4P (pc := 171) s_X4_110 rfl rfl dX4_word_171 (cp_spells (k := k - 1) (si := 13) (q := ("FrontChairs$Reader", 135, "and")) rfl ho (by omega) he hh (by decide) (by omega)) ?_
                          refine go_if_eq (tgt := 180) (pc := 174) dX4_word_174 (by decide) (fun h_174 => ?_) (fun h_174 => ?_)
                          · refine go_aload_n (pc := 180) dX4_word_180 rfl ?_
                            refine go_iload_n (pc := 181) dX4_word_181 rfl ?_
                            refine go_iload_n (pc := 182) dX4_word_182 rfl ?_
                            refine go_ldcS (si := 14) (pc := 183) rfl dX4_word_183 ?_
                            refine go_S4P (pc := 185) s_X4_110 rfl rfl dX4_word_185 (cp_spells (k := k - 1) (si := 14) (q := ("FrontChairs$Reader", 137, "or")) rfl ho (by omega) he hh (by decide) (by omega)) ?_
                            refine go_if_eq (tgt := 194) (pc := 188) dX4_word_188 (by decide) (fun h_188 => ?_) (fun h_188 => ?_)
                            · refine go_aload_n (pc := 194) dX4_word_194 rfl ?_
                              refine go_iload_n (pc := 195) dX4_word_195 rfl ?_
                              refine go_iload_n (pc := 196) dX4_word_196 rfl ?_
                              refine go_ldcS (si := 15) (pc := 197) rfl dX4_word_197 ?_
                              refine go_S4P (pc := 199) s_X4_110 rfl rfl dX4_word_199 (cp_spells (k := k - 1) (si := 15) (q := ("FrontChairs$Reader", 139, "who")) rfl ho (by omega) he hh (by decide) (by omega)) ?_
                              refine go_if_eq (tgt := 208) (pc := 202) dX4_word_202 (by decide) (fun h_202 => ?_) (fun h_202 => ?_)
                              · refine go_aload_n (pc := 208) dX4_word_208 rfl ?_
                                refine go_iload_n (pc := 209) dX4_word_209 rfl ?_
                                refine go_iload_n (pc := 210) dX4_word_210 rfl ?_
                                refine go_ldcS (si := 16) (pc := 211) rfl dX4_word_211 ?_
                                refine go_S4P (pc := 213) s_X4_110 rfl rfl dX4_word_213 (cp_spells (k := k - 1) (si := 16) (q := ("FrontChairs$Reader", 141, "column")) rfl ho (by omega) he hh (by decide) (by omega)) ?_
                                refine go_if_eq (tgt := 222) (pc := 216) dX4_word_216 (by decide) (fun h_216 => ?_) (fun h_216 => ?_)
                                · refine go_aload_n (pc := 222) dX4_word_222 rfl ?_
                                  refine go_iload_n (pc := 223) dX4_word_223 rfl ?_
                                  refine go_iload_n (pc := 224) dX4_word_224 rfl ?_
                                  refine go_ldcS (si := 17) (pc := 225) rfl dX4_word_225 ?_
                                  refine go_S4P (pc := 227) s_X4_110 rfl rfl dX4_word_227 (cp_spells (k := k - 1) (si := 17) (q := ("FrontChairs$Reader", 143, "row")) rfl ho (by omega) he hh (by decide) (by omega)) ?_
                                  refine go_if_eq (tgt := 238) (pc := 230) dX4_word_230 (by decide) (fun h_230 => ?_) (fun h_230 => ?_)
                                  · refine go_iconst (v := 3) (pc := 238) dX4_word_238 (by decide) ?_
                                    exact go_iretP (pc := 239) rfl dX4_word_239 (Nat.le_of_ble_eq_true rfl) (Nat.le_of_ble_eq_true rfl) (by first | rw [wK, if_neg (bI_0.mp h_8), if_neg (bI_0.mp h_21), if_neg (bI_0.mp h_34), if_neg (bI_0.mp h_48), if_neg (bI_0.mp h_62), if_neg (bI_0.mp h_76), if_neg (bI_0.mp h_90), if_neg (bI_0.mp h_104), if_neg (bI_0.mp h_118), if_neg (bI_0.mp h_132), if_neg (bI_0.mp h_146), if_neg (bI_0.mp h_160), if_neg (bI_0.mp h_174), if_neg (bI_0.mp h_188), if_neg (bI_0.mp h_202), if_neg (bI_0.mp h_216), if_pos (Decidable.not_not.mp (fun hc_q => h_230 (bI_0.mpr hc_q)))] | rw [wK, if_neg (bI_0.mp h_8), if_neg (bI_0.mp h_21), if_neg (bI_0.mp h_34), if_neg (bI_0.mp h_48), if_neg (bI_0.mp h_62), if_neg (bI_0.mp h_76), if_neg (bI_0.mp h_90), if_neg (bI_0.mp h_104), if_neg (bI_0.mp h_118), if_neg (bI_0.mp h_132), if_neg (bI_0.mp h_146), if_neg (bI_0.mp h_160), if_neg (bI_0.mp h_174), if_neg (bI_0.mp h_188), if_neg (bI_0.mp h_202), if_neg (bI_0.mp h_216), if_neg (bI_0.mp h_230)])
                                  · refine go_bipush (v := 20) (pc := 233) dX4_word_233 (by decide) ?_
                                    refine go_goto (tgt := 239) (pc := 235) dX4_word_235 (by decide) ?_
                                    exact go_iretP (pc := 239) rfl dX4_word_239 (Nat.le_of_ble_eq_true rfl) (Nat.le_of_ble_eq_true rfl) (by first | rw [wK, if_neg (bI_0.mp h_8), if_neg (bI_0.mp h_21), if_neg (bI_0.mp h_34), if_neg (bI_0.mp h_48), if_neg (bI_0.mp h_62), if_neg (bI_0.mp h_76), if_neg (bI_0.mp h_90), if_neg (bI_0.mp h_104), if_neg (bI_0.mp h_118), if_neg (bI_0.mp h_132), if_neg (bI_0.mp h_146), if_neg (bI_0.mp h_160), if_neg (bI_0.mp h_174), if_neg (bI_0.mp h_188), if_neg (bI_0.mp h_202), if_neg (bI_0.mp h_216), if_pos (Decidable.not_not.mp (fun hc_q => h_230 (bI_0.mpr hc_q)))] | rw [wK, if_neg (bI_0.mp h_8), if_neg (bI_0.mp h_21), if_neg (bI_0.mp h_34), if_neg (bI_0.mp h_48), if_neg (bI_0.mp h_62), if_neg (bI_0.mp h_76), if_neg (bI_0.mp h_90), if_neg (bI_0.mp h_104), if_neg (bI_0.mp h_118), if_neg (bI_0.mp h_132), if_neg (bI_0.mp h_146), if_neg (bI_0.mp h_160), if_neg (bI_0.mp h_174), if_neg (bI_0.mp h_188), if_neg (bI_0.mp h_202), if_neg (bI_0.mp h_216), if_neg (bI_0.mp h_230)])
                                · refine go_bipush (v := 19) (pc := 219) dX4_word_219 (by decide) ?_
                                  exact go_iretP (pc := 221) rfl dX4_word_221 (Nat.le_of_ble_eq_true rfl) (Nat.le_of_ble_eq_true rfl) (by rw [wK, if_neg (bI_0.mp h_8), if_neg (bI_0.mp h_21), if_neg (bI_0.mp h_34), if_neg (bI_0.mp h_48), if_neg (bI_0.mp h_62), if_neg (bI_0.mp h_76), if_neg (bI_0.mp h_90), if_neg (bI_0.mp h_104), if_neg (bI_0.mp h_118), if_neg (bI_0.mp h_132), if_neg (bI_0.mp h_146), if_neg (bI_0.mp h_160), if_neg (bI_0.mp h_174), if_neg (bI_0.mp h_188), if_neg (bI_0.mp h_202), if_pos (Decidable.not_not.mp (fun hc_q => h_216 (bI_0.mpr hc_q)))])
                              · refine go_bipush (v := 18) (pc := 205) dX4_word_205 (by decide) ?_
                                exact go_iretP (pc := 207) rfl dX4_word_207 (Nat.le_of_ble_eq_true rfl) (Nat.le_of_ble_eq_true rfl) (by rw [wK, if_neg (bI_0.mp h_8), if_neg (bI_0.mp h_21), if_neg (bI_0.mp h_34), if_neg (bI_0.mp h_48), if_neg (bI_0.mp h_62), if_neg (bI_0.mp h_76), if_neg (bI_0.mp h_90), if_neg (bI_0.mp h_104), if_neg (bI_0.mp h_118), if_neg (bI_0.mp h_132), if_neg (bI_0.mp h_146), if_neg (bI_0.mp h_160), if_neg (bI_0.mp h_174), if_neg (bI_0.mp h_188), if_pos (Decidable.not_not.mp (fun hc_q => h_202 (bI_0.mpr hc_q)))])
                            · refine go_bipush (v := 17) (pc := 191) dX4_word_191 (by decide) ?_
                              exact go_iretP (pc := 193) rfl dX4_word_193 (Nat.le_of_ble_eq_true rfl) (Nat.le_of_ble_eq_true rfl) (by rw [wK, if_neg (bI_0.mp h_8), if_neg (bI_0.mp h_21), if_neg (bI_0.mp h_34), if_neg (bI_0.mp h_48), if_neg (bI_0.mp h_62), if_neg (bI_0.mp h_76), if_neg (bI_0.mp h_90), if_neg (bI_0.mp h_104), if_neg (bI_0.mp h_118), if_neg (bI_0.mp h_132), if_neg (bI_0.mp h_146), if_neg (bI_0.mp h_160), if_neg (bI_0.mp h_174), if_pos (Decidable.not_not.mp (fun hc_q => h_188 (bI_0.mpr hc_q)))])
                          · refine go_bipush (v := 16) (pc := 177) dX4_word_177 (by decide) ?_
                            exact go_iretP (pc := 179) rfl dX4_word_179 (Nat.le_of_ble_eq_true rfl) (Nat.le_of_ble_eq_true rfl) (by rw [wK, if_neg (bI_0.mp h_8), if_neg (bI_0.mp h_21), if_neg (bI_0.mp h_34), if_neg (bI_0.mp h_48), if_neg (bI_0.mp h_62), if_neg (bI_0.mp h_76), if_neg (bI_0.mp h_90), if_neg (bI_0.mp h_104), if_neg (bI_0.mp h_118), if_neg (bI_0.mp h_132), if_neg (bI_0.mp h_146), if_neg (bI_0.mp h_160), if_pos (Decidable.not_not.mp (fun hc_q => h_174 (bI_0.mpr hc_q)))])
                        · refine go_bipush (v := 15) (pc := 163) dX4_word_163 (by decide) ?_
                          exact go_iretP (pc := 165) rfl dX4_word_165 (Nat.le_of_ble_eq_true rfl) (Nat.le_of_ble_eq_true rfl) (by rw [wK, if_neg (bI_0.mp h_8), if_neg (bI_0.mp h_21), if_neg (bI_0.mp h_34), if_neg (bI_0.mp h_48), if_neg (bI_0.mp h_62), if_neg (bI_0.mp h_76), if_neg (bI_0.mp h_90), if_neg (bI_0.mp h_104), if_neg (bI_0.mp h_118), if_neg (bI_0.mp h_132), if_neg (bI_0.mp h_146), if_pos (Decidable.not_not.mp (fun hc_q => h_160 (bI_0.mpr hc_q)))])
                      · refine go_bipush (v := 14) (pc := 149) dX4_word_149 (by decide) ?_
                        exact go_iretP (pc := 151) rfl dX4_word_151 (Nat.le_of_ble_eq_true rfl) (Nat.le_of_ble_eq_true rfl) (by rw [wK, if_neg (bI_0.mp h_8), if_neg (bI_0.mp h_21), if_neg (bI_0.mp h_34), if_neg (bI_0.mp h_48), if_neg (bI_0.mp h_62), if_neg (bI_0.mp h_76), if_neg (bI_0.mp h_90), if_neg (bI_0.mp h_104), if_neg (bI_0.mp h_118), if_neg (bI_0.mp h_132), if_pos (Decidable.not_not.mp (fun hc_q => h_146 (bI_0.mpr hc_q)))])
                    · refine go_bipush (v := 13) (pc := 135) dX4_word_135 (by decide) ?_
                      exact go_iretP (pc := 137) rfl dX4_word_137 (Nat.le_of_ble_eq_true rfl) (Nat.le_of_ble_eq_true rfl) (by rw [wK, if_neg (bI_0.mp h_8), if_neg (bI_0.mp h_21), if_neg (bI_0.mp h_34), if_neg (bI_0.mp h_48), if_neg (bI_0.mp h_62), if_neg (bI_0.mp h_76), if_neg (bI_0.mp h_90), if_neg (bI_0.mp h_104), if_neg (bI_0.mp h_118), if_pos (Decidable.not_not.mp (fun hc_q => h_132 (bI_0.mpr hc_q)))])
                  · refine go_bipush (v := 12) (pc := 121) dX4_word_121 (by decide) ?_
                    exact go_iretP (pc := 123) rfl dX4_word_123 (Nat.le_of_ble_eq_true rfl) (Nat.le_of_ble_eq_true rfl) (by rw [wK, if_neg (bI_0.mp h_8), if_neg (bI_0.mp h_21), if_neg (bI_0.mp h_34), if_neg (bI_0.mp h_48), if_neg (bI_0.mp h_62), if_neg (bI_0.mp h_76), if_neg (bI_0.mp h_90), if_neg (bI_0.mp h_104), if_pos (Decidable.not_not.mp (fun hc_q => h_118 (bI_0.mpr hc_q)))])
                · refine go_bipush (v := 11) (pc := 107) dX4_word_107 (by decide) ?_
                  exact go_iretP (pc := 109) rfl dX4_word_109 (Nat.le_of_ble_eq_true rfl) (Nat.le_of_ble_eq_true rfl) (by rw [wK, if_neg (bI_0.mp h_8), if_neg (bI_0.mp h_21), if_neg (bI_0.mp h_34), if_neg (bI_0.mp h_48), if_neg (bI_0.mp h_62), if_neg (bI_0.mp h_76), if_neg (bI_0.mp h_90), if_pos (Decidable.not_not.mp (fun hc_q => h_104 (bI_0.mpr hc_q)))])
              · refine go_bipush (v := 10) (pc := 93) dX4_word_93 (by decide) ?_
                exact go_iretP (pc := 95) rfl dX4_word_95 (Nat.le_of_ble_eq_true rfl) (Nat.le_of_ble_eq_true rfl) (by rw [wK, if_neg (bI_0.mp h_8), if_neg (bI_0.mp h_21), if_neg (bI_0.mp h_34), if_neg (bI_0.mp h_48), if_neg (bI_0.mp h_62), if_neg (bI_0.mp h_76), if_pos (Decidable.not_not.mp (fun hc_q => h_90 (bI_0.mpr hc_q)))])
            · refine go_bipush (v := 9) (pc := 79) dX4_word_79 (by decide) ?_
              exact go_iretP (pc := 81) rfl dX4_word_81 (Nat.le_of_ble_eq_true rfl) (Nat.le_of_ble_eq_true rfl) (by rw [wK, if_neg (bI_0.mp h_8), if_neg (bI_0.mp h_21), if_neg (bI_0.mp h_34), if_neg (bI_0.mp h_48), if_neg (bI_0.mp h_62), if_pos (Decidable.not_not.mp (fun hc_q => h_76 (bI_0.mpr hc_q)))])
          · refine go_bipush (v := 8) (pc := 65) dX4_word_65 (by decide) ?_
            exact go_iretP (pc := 67) rfl dX4_word_67 (Nat.le_of_ble_eq_true rfl) (Nat.le_of_ble_eq_true rfl) (by rw [wK, if_neg (bI_0.mp h_8), if_neg (bI_0.mp h_21), if_neg (bI_0.mp h_34), if_neg (bI_0.mp h_48), if_pos (Decidable.not_not.mp (fun hc_q => h_62 (bI_0.mpr hc_q)))])
        · refine go_bipush (v := 7) (pc := 51) dX4_word_51 (by decide) ?_
          exact go_iretP (pc := 53) rfl dX4_word_53 (Nat.le_of_ble_eq_true rfl) (Nat.le_of_ble_eq_true rfl) (by rw [wK, if_neg (bI_0.mp h_8), if_neg (bI_0.mp h_21), if_neg (bI_0.mp h_34), if_pos (Decidable.not_not.mp (fun hc_q => h_48 (bI_0.mpr hc_q)))])
      · refine go_bipush (v := 6) (pc := 37) dX4_word_37 (by decide) ?_
        exact go_iretP (pc := 39) rfl dX4_word_39 (Nat.le_of_ble_eq_true rfl) (Nat.le_of_ble_eq_true rfl) (by rw [wK, if_neg (bI_0.mp h_8), if_neg (bI_0.mp h_21), if_pos (Decidable.not_not.mp (fun hc_q => h_34 (bI_0.mpr hc_q)))])
    · refine go_iconst (v := 5) (pc := 24) dX4_word_24 (by decide) ?_
      exact go_iretP (pc := 25) rfl dX4_word_25 (Nat.le_of_ble_eq_true rfl) (Nat.le_of_ble_eq_true rfl) (by rw [wK, if_neg (bI_0.mp h_8), if_pos (Decidable.not_not.mp (fun hc_q => h_21 (bI_0.mpr hc_q)))])
  · refine go_iconst (v := 4) (pc := 11) dX4_word_11 (by decide) ?_
    exact go_iretP (pc := 12) rfl dX4_word_12 (Nat.le_of_ble_eq_true rfl) (Nat.le_of_ble_eq_true rfl) (by rw [wK, if_pos (Decidable.not_not.mp (fun hc_q => h_8 (bI_0.mpr hc_q)))])
abbrev sgT : String := ";:+-*()[]=<>"
def isSg (x_q : Int32) : Bool := decide (x_q ∈ ([59, 58, 43, 45, 42, 40, 41, 91, 93, 61, 60, 62] : List Int32))
theorem sg_b : ∀ j : Fin 12, sB sgT j.val = ([59, 58, 43, 45, 42, 40, 41, 91, 93, 61, 60, 62] : List Int32).getD j.val 0 := by decide +kernel
theorem cp_canE {Γ : gam} {z0 : sto} {n k c_q : Nat} (hc_q : c_q < 256) : Sp Γ (rmk k 0 0) uJ1_canEncode_9a6ad [.int (nI c_q)] z0 n (qP 1 z0 n) := by
  refine sp_intro [some (.int (nI c_q))] (by decide +kernel) rfl (Nat.le_of_ble_eq_true rfl) rfl ?_
  refine go_iload_n (pc := 0) dJ1_canEncode_9a6ad_0 rfl ?_
  refine go_if_lt (tgt := 15) (pc := 1) dJ1_canEncode_9a6ad_1 (by decide) (fun h_1 => ?_) (fun h_1 => ?_)
  · refine go_iconst (v := 0) (pc := 15) dJ1_canEncode_9a6ad_15 (by decide) ?_
    exact go_zretP (pc := 16) rfl (by first | rfl | exact nb_bI) dJ1_canEncode_9a6ad_16 (Nat.le_of_ble_eq_true rfl) (Nat.le_of_ble_eq_true rfl) (by first | rfl | (exfalso; first | exact absurd h_1 (nI_pos (by omega)) | exact absurd h_8 (Int32.not_lt.mpr (nI_le (b := 255) (by omega) (by decide)))))
  · refine go_iload_n (pc := 4) dJ1_canEncode_9a6ad_4 rfl ?_
    refine go_sipush (v := 255) (pc := 5) dJ1_canEncode_9a6ad_5 (by decide) ?_
    refine go_icmp_gt (tgt := 15) (pc := 8) dJ1_canEncode_9a6ad_8 (by decide) (fun h_8 => ?_) (fun h_8 => ?_)
    · refine go_iconst (v := 0) (pc := 15) dJ1_canEncode_9a6ad_15 (by decide) ?_
      exact go_zretP (pc := 16) rfl (by first | rfl | exact nb_bI) dJ1_canEncode_9a6ad_16 (Nat.le_of_ble_eq_true rfl) (Nat.le_of_ble_eq_true rfl) (by first | rfl | (exfalso; first | exact absurd h_1 (nI_pos (by omega)) | exact absurd h_8 (Int32.not_lt.mpr (nI_le (b := 255) (by omega) (by decide)))))
    · refine go_iconst (v := 1) (pc := 11) dJ1_canEncode_9a6ad_11 (by decide) ?_
      refine go_goto (tgt := 16) (pc := 12) dJ1_canEncode_9a6ad_12 (by decide) ?_
      exact go_zretP (pc := 16) rfl (by first | rfl | exact nb_bI) dJ1_canEncode_9a6ad_16 (Nat.le_of_ble_eq_true rfl) (Nat.le_of_ble_eq_true rfl) (by first | rfl | (exfalso; first | exact absurd h_1 (nI_pos (by omega)) | exact absurd h_8 (Int32.not_lt.mpr (nI_le (b := 255) (by omega) (by decide)))))
theorem cp_ixC {Γ : gam} {z0 : sto} {n k si : Nat} {q : String × Nat × String} (hs : sTab[si]? = some q) {c_q : Nat} (hq_q : q.2.2.length < 2 ^ 31) : Sp Γ (rmk k 0 0) uJ1_indexOfChar_4cfef [.ref (gV Γ si), .int (nI c_q), .int 0, .int (nI q.2.2.length)] z0 n (qI fun v_q σ' n' => σ' = z0 ∧ n' = n ∧ ((∃ j, j < q.2.2.length ∧ v_q = nI j ∧ sB q.2.2 j = (nI c_q).toInt8.toInt32) ∨ (v_q = -1 ∧ ∀ j, j < q.2.2.length → sB q.2.2 j ≠ (nI c_q).toInt8.toInt32))) := by
  refine sp_intro [some (.ref (gV Γ si)), some (.int (nI c_q)), some (.int 0), some (.int (nI q.2.2.length)), none, none] (by decide +kernel) rfl (Nat.le_of_ble_eq_true rfl) rfl ?_
  refine go_iload_n (pc := 0) dJ1_indexOfChar_4cfef_0 rfl ?_
  refine go_i2b (pc := 1) dJ1_indexOfChar_4cfef_1 ?_
  refine go_istore (lw := [_, _, _, _, _, _]) (pc := 2) dJ1_indexOfChar_4cfef_2 (by decide) rfl ?_
  refine go_iload_n (pc := 4) dJ1_indexOfChar_4cfef_4 rfl ?_
  refine go_istore (lw := [_, _, _, _, _, _]) (pc := 5) dJ1_indexOfChar_4cfef_5 (by decide) rfl ?_
  refine go_iter (q.2.2.length) (fun i_q lv9 s9 n9 => lv9 = [some (.ref (gV Γ si)), some (.int (nI c_q)), some (.int 0), some (.int (nI q.2.2.length)), some (.int ((nI c_q).toInt8.toInt32)), some (.int (nI i_q))] ∧ (∀ j, j < i_q → sB q.2.2 j ≠ (nI c_q).toInt8.toInt32) ∧ (z0 = s9) ∧ n = n9) ⟨rfl, (fun j hj_q => by omega), rfl, rfl⟩ ?_ ?_
  · rintro i_q lv9 σ n9 hi_q ⟨rfl, hJ, es, rfl⟩ ih_q
    subst es
    refine go_iload (pc := 7) dJ1_indexOfChar_4cfef_7 rfl ?_
    refine go_iload_n (pc := 9) dJ1_indexOfChar_4cfef_9 rfl ?_
    refine go_icmp_ge (tgt := 31) (pc := 10) dJ1_indexOfChar_4cfef_10 (by decide) (fun h_10 => by exfalso; exact absurd h_10 (nI_ge (by omega) (by omega))) (fun h_10 => ?_)
    refine go_aload_n (pc := 13) dJ1_indexOfChar_4cfef_13 rfl ?_
    refine go_iload (pc := 14) dJ1_indexOfChar_4cfef_14 rfl ?_
    refine go_strB (pc := 16) hs (vp_in_nI (by omega) (by omega)) dJ1_indexOfChar_4cfef_16 ?_
    rw [nI_clamp (by omega)]
    refine go_iload (pc := 17) dJ1_indexOfChar_4cfef_17 rfl ?_
    refine go_icmp_ne (tgt := 25) (pc := 19) dJ1_indexOfChar_4cfef_19 (by decide) (fun h_19 => ?_) (fun h_19 => ?_)
    · refine go_iinc (v := 1) (lw := [_, _, _, _, _, _]) (pc := 25) dJ1_indexOfChar_4cfef_25 rfl (by decide) (by decide) rfl ?_
      refine go_goto (tgt := 7) (pc := 28) dJ1_indexOfChar_4cfef_28 (by decide) ?_
      rw [nI_1]
      exact ih_q _ _ _ ⟨rfl, fun j hj_q => by
        by_cases e9_q : j = i_q
        · rw [e9_q]; exact h_19
        · exact hJ j (by omega), rfl, rfl⟩
    · refine go_iload (pc := 22) dJ1_indexOfChar_4cfef_22 rfl ?_
      exact go_iretI (pc := 24) rfl dJ1_indexOfChar_4cfef_24 (Nat.le_of_ble_eq_true rfl) (Nat.le_of_ble_eq_true rfl) ⟨rfl, rfl, Or.inl ⟨i_q, hi_q, rfl, (by first | exact h_19 | exact Decidable.not_not.mp h_19)⟩⟩
  · rintro lv9 σ n9 ⟨rfl, hJ, es, rfl⟩
    subst es
    refine go_iload (pc := 7) dJ1_indexOfChar_4cfef_7 rfl ?_
    refine go_iload_n (pc := 9) dJ1_indexOfChar_4cfef_9 rfl ?_
    refine go_icmp_ge (tgt := 31) (pc := 10) dJ1_indexOfChar_4cfef_10 (by decide) (fun h_10 => ?_) (fun h_10 => by exfalso; exact h_10 (nI_le (by omega) (by omega)))
    refine go_iconst (v := -1) (pc := 31) dJ1_indexOfChar_4cfef_31 (by decide) ?_
    exact go_iretI (pc := 32) rfl dJ1_indexOfChar_4cfef_32 (Nat.le_of_ble_eq_true rfl) (Nat.le_of_ble_eq_true rfl) ⟨rfl, rfl, Or.inr ⟨rfl, hJ⟩⟩
theorem cp_ixL {Γ : gam} {z0 : sto} {n k si : Nat} {q : String × Nat × String} (hs : sTab[si]? = some q) {c_q : Nat} (hc_q : c_q < 256) (hq_q : q.2.2.length < 2 ^ 31) (h0_q : 0 < q.2.2.length) (hk : 2 ≤ k) : Sp Γ (rmk k 0 0) uJ1_indexOf_4cfef [.ref (gV Γ si), .int (nI c_q), .int 0, .int (nI q.2.2.length)] z0 n (qI fun v_q σ' n' => σ' = z0 ∧ n' = n ∧ ((∃ j, j < q.2.2.length ∧ v_q = nI j ∧ sB q.2.2 j = (nI c_q).toInt8.toInt32) ∨ (v_q = -1 ∧ ∀ j, j < q.2.2.length → sB q.2.2 j ≠ (nI c_q).toInt8.toInt32))) := by
  refine sp_intro [some (.ref (gV Γ si)), some (.int (nI c_q)), some (.int 0), some (.int (nI q.2.2.length))] (by decide +kernel) rfl (Nat.le_of_ble_eq_true rfl) rfl ?_
  refine go_iload_n (pc := 0) dJ1_indexOf_4cfef_0 rfl ?_
  refine go_S1P (pc := 1) s_J1_88 rfl rfl dJ1_indexOf_4cfef_1 (cp_canE (k := k - 1) hc_q) ?_
  refine go_if_ne (tgt := 9) (pc := 4) dJ1_indexOf_4cfef_4 (by decide) (fun h_4 => ?_) (fun h_4 => by exfalso; exact absurd h_4 (by decide))
  refine go_iload_n (pc := 9) dJ1_indexOf_4cfef_9 rfl ?_
  refine go_iconst (v := 0) (pc := 10) dJ1_indexOf_4cfef_10 (by decide) ?_
  refine go_mmax (pc := 11) s_J1_92 dJ1_indexOf_4cfef_11 ?_
  rw [show (if (0 : Int32) < 0 then (0 : Int32) else 0) = 0 from rfl]
  refine go_istore_n (lw := [_, _, _, _]) (pc := 14) dJ1_indexOf_4cfef_14 (by decide) rfl ?_
  refine go_iload_n (pc := 15) dJ1_indexOf_4cfef_15 rfl ?_
  refine go_aload_n (pc := 16) dJ1_indexOf_4cfef_16 rfl ?_
  refine go_strL (pc := 17) hs dJ1_indexOf_4cfef_17 ?_
  refine go_mmin (pc := 18) s_J1_38 dJ1_indexOf_4cfef_18 ?_
  rw [ite_self]
  refine go_istore_n (lw := [_, _, _, _]) (pc := 21) dJ1_indexOf_4cfef_21 (by decide) rfl ?_
  refine go_iload_n (pc := 22) dJ1_indexOf_4cfef_22 rfl ?_
  refine go_iload_n (pc := 23) dJ1_indexOf_4cfef_23 rfl ?_
  refine go_icmp_lt (tgt := 29) (pc := 24) dJ1_indexOf_4cfef_24 (by decide) (fun h_24 => ?_) (fun h_24 => by exfalso; exact h_24 (nI_lt (a := 0) (by omega) (by omega)))
  refine go_aload_n (pc := 29) dJ1_indexOf_4cfef_29 rfl ?_
  refine go_iload_n (pc := 30) dJ1_indexOf_4cfef_30 rfl ?_
  refine go_iload_n (pc := 31) dJ1_indexOf_4cfef_31 rfl ?_
  refine go_iload_n (pc := 32) dJ1_indexOf_4cfef_32 rfl ?_
  refine go_S4I (pc := 33) s_J1_95 rfl rfl dJ1_indexOf_4cfef_33 (cp_ixC (k := k - 1) hs hq_q) (fun v_33 σ n h_q => ?_)
  obtain ⟨rfl, rfl, h_q⟩ := h_q
  exact go_iretI (pc := 36) rfl dJ1_indexOf_4cfef_36 (Nat.le_of_ble_eq_true rfl) (Nat.le_of_ble_eq_true rfl) ⟨rfl, rfl, h_q⟩
theorem cp_ixS {Γ : gam} {z0 : sto} {n k si : Nat} {q : String × Nat × String} (hs : sTab[si]? = some q) {c_q : Nat} (hc_q : c_q < 256) (hq_q : q.2.2.length < 2 ^ 31) (h0_q : 0 < q.2.2.length) (hk : 4 ≤ k) : Sp Γ (rmk k 0 0) uJ0_indexOf_7cf53 [.ref (gK Γ si), .int (nI c_q), .int 0] z0 n (qI fun v_q σ' n' => σ' = z0 ∧ n' = n ∧ ((∃ j, j < q.2.2.length ∧ v_q = nI j ∧ sB q.2.2 j = (nI c_q).toInt8.toInt32) ∨ (v_q = -1 ∧ ∀ j, j < q.2.2.length → sB q.2.2 j ≠ (nI c_q).toInt8.toInt32))) := by
  refine sp_intro [some (.ref (gK Γ si)), some (.int (nI c_q)), some (.int 0)] (by decide +kernel) rfl (Nat.le_of_ble_eq_true rfl) rfl ?_
  refine go_aload_n (pc := 0) dJ0_indexOf_7cf53_0 rfl ?_
  refine go_V0P (pc := 1) v_J0_492 rfl rfl (rcv_str hs) dJ0_indexOf_7cf53_1 (cp_isL1 (k := k - 1) hs) ?_
  refine go_if_eq (tgt := 23) (pc := 4) dJ0_indexOf_7cf53_4 (by decide) (fun h_4 => by exfalso; exact absurd h_4 (by decide)) (fun h_4 => ?_)
  refine go_aload_n (pc := 7) dJ0_indexOf_7cf53_7 rfl ?_
  refine go_strV (pc := 8) hs rfl dJ0_indexOf_7cf53_8 ?_
  refine go_iload_n (pc := 11) dJ0_indexOf_7cf53_11 rfl ?_
  refine go_iload_n (pc := 12) dJ0_indexOf_7cf53_12 rfl ?_
  refine go_aload_n (pc := 13) dJ0_indexOf_7cf53_13 rfl ?_
  refine go_V0P (pc := 14) v_J0_505 rfl rfl (rcv_str hs) dJ0_indexOf_7cf53_14 (cp_slen (k := k - 1) hs (by omega)) ?_
  refine go_S4I (pc := 17) s_J0_637 rfl rfl dJ0_indexOf_7cf53_17 (cp_ixL (k := k - 1) hs hc_q hq_q h0_q (by omega)) (fun v_17 σ n h_q => ?_)
  obtain ⟨rfl, rfl, h_q⟩ := h_q
  refine go_goto (tgt := 36) (pc := 20) dJ0_indexOf_7cf53_20 (by decide) ?_
  exact go_iretI (pc := 36) rfl dJ0_indexOf_7cf53_36 (Nat.le_of_ble_eq_true rfl) (Nat.le_of_ble_eq_true rfl) ⟨rfl, rfl, h_q⟩
theorem sg_all : ∀ c_q : Fin 256, (∀ j : Fin 12, sB sgT j.val ≠ (nI c_q.val).toInt8.toInt32) ↔ isSg (nI c_q.val) = false := by decide +kernel
theorem cp_sgIx {Γ : gam} {z0 : sto} {n k c_q : Nat} (hc_q : c_q < 256) (hk : 5 ≤ k) : Sp Γ (rmk k 0 0) uJ0_indexOf_0f7a4 [.ref (gK Γ 18), .int (nI c_q)] z0 n (qI fun v_q σ' n' => σ' = z0 ∧ n' = n ∧ (v_q < 0 ↔ isSg (nI c_q) = false)) := by
  have hs : sTab[18]? = some ("FrontChairs$Reader", 101, sgT) := rfl
  refine sp_intro [some (.ref (gK Γ 18)), some (.int (nI c_q))] (by decide +kernel) rfl (Nat.le_of_ble_eq_true rfl) rfl ?_
  refine go_aload_n (pc := 0) dJ0_indexOf_0f7a4_0 rfl ?_
  refine go_iload_n (pc := 1) dJ0_indexOf_0f7a4_1 rfl ?_
  refine go_iconst (v := 0) (pc := 2) dJ0_indexOf_0f7a4_2 (by decide) ?_
  refine go_V2I (pc := 3) v_J0_633 rfl rfl (rcv_str hs) dJ0_indexOf_0f7a4_3 (cp_ixS (k := k - 1) hs hc_q (by decide) (by decide) (by omega)) (fun v_3 σ n h_q => ?_)
  obtain ⟨rfl, rfl, h_q⟩ := h_q
  exact go_iretI (pc := 6) rfl dJ0_indexOf_0f7a4_6 (Nat.le_of_ble_eq_true rfl) (Nat.le_of_ble_eq_true rfl) (by
  refine ⟨rfl, rfl, ?_⟩
  have key := sg_all ⟨c_q, hc_q⟩
  rcases h_q with ⟨j, hj_q, rfl, e_q⟩ | ⟨rfl, e_q⟩
  · have hj2 : j < 12 := hj_q
    constructor
    · intro g_q
      exact absurd g_q (nI_pos (by omega))
    · intro g_q
      exact absurd e_q (key.mpr g_q ⟨j, hj2⟩)
  · constructor
    · intro _
      exact key.mp (fun j => e_q j.val j.isLt)
    · intro _
      decide)
