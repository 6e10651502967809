/-! ===== the class: sets of who sits ===== -/
theorem cp_sittersOf {Γ : gam} {D : Nat} {ro : Nat → Nat} {z0 : sto} {n k a b : Nat} {w : Int32} {K ag pa pf ch co rw bk : row} {lm lt lw : Value} (hR_q : SrAt Γ ro z0 a b w (K 33) ch co rw bk) (hr_q : rS K ch co rw bk) (hQ_q : BrAt Γ D ro z0 b K ag pa pf lm lt lw) (hB_q : okB K) (y : Int32) : Sp Γ (rmk k 0 0) uX5_sittersOf [.ref a, .int y] z0 n (qP (bits (fun p => decide (K (16 + p) = y)) (kP K) 0 0) z0 n) := by
  have hP8 := hB_q.1.2.1
  have hH5 := hB_q.1.2.2.2.1
  have hW4 := hB_q.1.2.2.2.2.2
  refine sp_intro [some (.ref a), some (.int y), none, none] (by decide +kernel) rfl (Nat.le_of_ble_eq_true rfl) rfl ?_
  refine go_iconst (v := 0) (pc := 0) dX5_sittersOf_0 (by decide) ?_
  refine go_istore_n (lw := [_, _, _, _]) (pc := 1) dX5_sittersOf_1 (by decide) rfl ?_
  refine go_iconst (v := 0) (pc := 2) dX5_sittersOf_2 (by decide) ?_
  refine go_istore_n (lw := [_, _, _, _]) (pc := 3) dX5_sittersOf_3 (by decide) rfl ?_
  refine go_iter (kP K) (fun i_q lv9 s9 n9 => ∃ (x9_q : Int32), lv9 = [some (.ref a), some (.int y), some (.int x9_q), some (.int (nI i_q))] ∧ (bits (fun p => decide (K (16 + p) = y)) (kP K - i_q) i_q x9_q = bits (fun p => decide (K (16 + p) = y)) (kP K) 0 0) ∧ (z0 = s9) ∧ n = n9) ⟨0, rfl, rfl, rfl, rfl⟩ ?_ ?_
  · rintro i_q lv9 σ n9 hi_q ⟨x9_q, rfl, hR9, rfl, rfl⟩ ih_q
    refine go_iload_n (pc := 4) dX5_sittersOf_4 rfl ?_
    refine go_aload_n (pc := 5) dX5_sittersOf_5 rfl ?_
    refine go_getf (pc := 6) f_X5_31 dX5_sittersOf_6 (by first | exact sr0 hR_q | exact be0 hQ_q | exact sr1 hR_q | exact sr2 hR_q | exact sr3 hR_q | exact sr4 hR_q | exact be1 hQ_q | exact be2 hQ_q | exact be3 hQ_q) (by rfl) ?_
    refine go_getf (pc := 9) f_X5_117 dX5_sittersOf_9 (by first | exact sr0 hR_q | exact be0 hQ_q | exact sr1 hR_q | exact sr2 hR_q | exact sr3 hR_q | exact sr4 hR_q | exact be1 hQ_q | exact be2 hQ_q | exact be3 hQ_q) (by rfl) ?_
    refine go_icmp_ge (tgt := 37) (pc := 12) dX5_sittersOf_12 (by decide) (fun h_12 => by exfalso; rw [hB_q.1.1] at h_12; exact absurd h_12 (nI_ge (by omega) (by omega))) (fun h_12 => ?_)
    refine go_aload_n (pc := 15) dX5_sittersOf_15 rfl ?_
    refine go_getf (pc := 16) f_X5_18 dX5_sittersOf_16 (by first | exact sr0 hR_q | exact be0 hQ_q | exact sr1 hR_q | exact sr2 hR_q | exact sr3 hR_q | exact sr4 hR_q | exact be1 hQ_q | exact be2 hQ_q | exact be3 hQ_q) (by rfl) ?_
    refine go_iload_n (pc := 19) dX5_sittersOf_19 rfl ?_
    refine go_iald (pc := 20) dX5_sittersOf_20 (by first | exact sr0 hR_q | exact be0 hQ_q | exact sr1 hR_q | exact sr2 hR_q | exact sr3 hR_q | exact sr4 hR_q | exact be1 hQ_q | exact be2 hQ_q | exact be3 hQ_q) (by exact ⟨rfl, by omega⟩) ?_
    rw [(hr_q.1 i_q (by omega)).2.1]
    refine go_iload_n (pc := 21) dX5_sittersOf_21 rfl ?_
    refine go_icmp_ne (tgt := 31) (pc := 22) dX5_sittersOf_22 (by decide) (fun h_22 => ?_) (fun h_22 => ?_)
    · refine go_iinc (v := 1) (lw := [_, _, _, _]) (pc := 31) dX5_sittersOf_31 rfl (by decide) (by decide) rfl ?_
      refine go_goto (tgt := 4) (pc := 34) dX5_sittersOf_34 (by decide) ?_
      rw [nI_1]
      first
        | (have g9_q : ¬ K (16 + i_q) = y := h_22
           refine ih_q _ _ _ ⟨_, rfl, ?_, rfl, rfl⟩
           rw [← hR9, bits_step hi_q, if_neg (by simp [g9_q])]; simp)
        | (have g9_q : K (16 + i_q) = y := h_22
           refine ih_q _ _ _ ⟨_, rfl, ?_, rfl, rfl⟩
           rw [← hR9, bits_step hi_q, if_pos (by simp [g9_q])])
    · refine go_iload_n (pc := 25) dX5_sittersOf_25 rfl ?_
      refine go_iconst (v := 1) (pc := 26) dX5_sittersOf_26 (by decide) ?_
      refine go_iload_n (pc := 27) dX5_sittersOf_27 rfl ?_
      refine go_ishl (pc := 28) dX5_sittersOf_28 ?_
      refine go_ior (pc := 29) dX5_sittersOf_29 ?_
      refine go_istore_n (lw := [_, _, _, _]) (pc := 30) dX5_sittersOf_30 (by decide) rfl ?_
      refine go_iinc (v := 1) (lw := [_, _, _, _]) (pc := 31) dX5_sittersOf_31 rfl (by decide) (by decide) rfl ?_
      refine go_goto (tgt := 4) (pc := 34) dX5_sittersOf_34 (by decide) ?_
      rw [nI_1]
      first
        | (have g9_q : ¬ K (16 + i_q) = y := h_22
           refine ih_q _ _ _ ⟨_, rfl, ?_, rfl, rfl⟩
           rw [← hR9, bits_step hi_q, if_neg (by simp [g9_q])]; simp)
        | (have g9_q : K (16 + i_q) = y := h_22
           refine ih_q _ _ _ ⟨_, rfl, ?_, rfl, rfl⟩
           rw [← hR9, bits_step hi_q, if_pos (by simp [g9_q])])
  · rintro lv9 σ n9 ⟨x9_q, rfl, hR9, rfl, rfl⟩
    refine go_iload_n (pc := 4) dX5_sittersOf_4 rfl ?_
    refine go_aload_n (pc := 5) dX5_sittersOf_5 rfl ?_
    refine go_getf (pc := 6) f_X5_31 dX5_sittersOf_6 (by first | exact sr0 hR_q | exact be0 hQ_q | exact sr1 hR_q | exact sr2 hR_q | exact sr3 hR_q | exact sr4 hR_q | exact be1 hQ_q | exact be2 hQ_q | exact be3 hQ_q) (by rfl) ?_
    refine go_getf (pc := 9) f_X5_117 dX5_sittersOf_9 (by first | exact sr0 hR_q | exact be0 hQ_q | exact sr1 hR_q | exact sr2 hR_q | exact sr3 hR_q | exact sr4 hR_q | exact be1 hQ_q | exact be2 hQ_q | exact be3 hQ_q) (by rfl) ?_
    refine go_icmp_ge (tgt := 37) (pc := 12) dX5_sittersOf_12 (by decide) (fun h_12 => ?_) (fun h_12 => by exfalso; rw [hB_q.1.1] at h_12; exact h_12 (nI_le (by omega) (by omega)))
    refine go_iload_n (pc := 37) dX5_sittersOf_37 rfl ?_
    exact go_iretP (pc := 38) rfl dX5_sittersOf_38 (Nat.le_of_ble_eq_true rfl) (Nat.le_of_ble_eq_true rfl) (by rw [← hR9, Nat.sub_self]; rfl)
theorem cp_inFront {Γ : gam} {D : Nat} {ro : Nat → Nat} {z0 : sto} {n k a b : Nat} {w : Int32} {K ag pa pf ch co rw bk : row} {lm lt lw : Value} (hR_q : SrAt Γ ro z0 a b w (K 33) ch co rw bk) (hr_q : rS K ch co rw bk) (hQ_q : BrAt Γ D ro z0 b K ag pa pf lm lt lw) (hB_q : okB K) (hk : 1 ≤ k) : Sp Γ (rmk k 0 0) uX5_inFront [.ref a] z0 n (qP (frontK K) z0 n) := by
  refine sp_intro [some (.ref a)] (by decide +kernel) rfl (Nat.le_of_ble_eq_true rfl) rfl ?_
  refine go_aload_n (pc := 0) dX5_inFront_0 rfl ?_
  refine go_iconst (v := 0) (pc := 1) dX5_inFront_1 (by decide) ?_
  refine go_V1P (pc := 2) v_X5_133 rfl rfl (rcv_of (ci := 5) (by first | exact sr0 hR_q | exact be0 hQ_q | exact sr1 hR_q | exact sr2 hR_q | exact sr3 hR_q | exact sr4 hR_q | exact be1 hQ_q | exact be2 hQ_q | exact be3 hQ_q) rfl) dX5_inFront_2 (cp_sittersOf (k := k - 1) hR_q hr_q hQ_q hB_q _) ?_
  exact go_iretP (pc := 5) rfl dX5_inFront_5 (Nat.le_of_ble_eq_true rfl) (Nat.le_of_ble_eq_true rfl) rfl
theorem cp_whoIsUp {Γ : gam} {D : Nat} {ro : Nat → Nat} {z0 : sto} {n k a b : Nat} {w : Int32} {K ag pa pf ch co rw bk : row} {lm lt lw : Value} (hR_q : SrAt Γ ro z0 a b w (K 33) ch co rw bk) (hr_q : rS K ch co rw bk) (hQ_q : BrAt Γ D ro z0 b K ag pa pf lm lt lw) (hB_q : okB K) (hk : 1 ≤ k) : Sp Γ (rmk k 0 0) uX5_whoIsUp [.ref a] z0 n (qP (upsK K) z0 n) := by
  refine sp_intro [some (.ref a)] (by decide +kernel) rfl (Nat.le_of_ble_eq_true rfl) rfl ?_
  refine go_aload_n (pc := 0) dX5_whoIsUp_0 rfl ?_
  refine go_iconst (v := -1) (pc := 1) dX5_whoIsUp_1 (by decide) ?_
  refine go_V1P (pc := 2) v_X5_133 rfl rfl (rcv_of (ci := 5) (by first | exact sr0 hR_q | exact be0 hQ_q | exact sr1 hR_q | exact sr2 hR_q | exact sr3 hR_q | exact sr4 hR_q | exact be1 hQ_q | exact be2 hQ_q | exact be3 hQ_q) rfl) dX5_whoIsUp_2 (cp_sittersOf (k := k - 1) hR_q hr_q hQ_q hB_q _) ?_
  exact go_iretP (pc := 5) rfl dX5_whoIsUp_5 (Nat.le_of_ble_eq_true rfl) (Nat.le_of_ble_eq_true rfl) rfl
theorem cp_sittersIn {Γ : gam} {D : Nat} {ro : Nat → Nat} {z0 : sto} {n k a b : Nat} {w : Int32} {K ag pa pf ch co rw bk : row} {lm lt lw : Value} (hR_q : SrAt Γ ro z0 a b w (K 33) ch co rw bk) (hr_q : rS K ch co rw bk) (hQ_q : BrAt Γ D ro z0 b K ag pa pf lm lt lw) (hB_q : okB K) (y : Int32) : Sp Γ (rmk k 0 0) uX5_sittersIn [.ref a, .int y] z0 n (qP (bits (fun p => decide (K (16 + p) ≠ -1 ∧ K (8 + p) = y)) (kP K) 0 0) z0 n) := by
  have hP8 := hB_q.1.2.1
  have hH5 := hB_q.1.2.2.2.1
  have hW4 := hB_q.1.2.2.2.2.2
  refine sp_intro [some (.ref a), some (.int y), none, none] (by decide +kernel) rfl (Nat.le_of_ble_eq_true rfl) rfl ?_
  refine go_iconst (v := 0) (pc := 0) dX5_sittersIn_0 (by decide) ?_
  refine go_istore_n (lw := [_, _, _, _]) (pc := 1) dX5_sittersIn_1 (by decide) rfl ?_
  refine go_iconst (v := 0) (pc := 2) dX5_sittersIn_2 (by decide) ?_
  refine go_istore_n (lw := [_, _, _, _]) (pc := 3) dX5_sittersIn_3 (by decide) rfl ?_
  refine go_iter (kP K) (fun i_q lv9 s9 n9 => ∃ (x9_q : Int32), lv9 = [some (.ref a), some (.int y), some (.int x9_q), some (.int (nI i_q))] ∧ (bits (fun p => decide (K (16 + p) ≠ -1 ∧ K (8 + p) = y)) (kP K - i_q) i_q x9_q = bits (fun p => decide (K (16 + p) ≠ -1 ∧ K (8 + p) = y)) (kP K) 0 0) ∧ (z0 = s9) ∧ n = n9) ⟨0, rfl, rfl, rfl, rfl⟩ ?_ ?_
  · rintro i_q lv9 σ n9 hi_q ⟨x9_q, rfl, hR9, rfl, rfl⟩ ih_q
    refine go_iload_n (pc := 4) dX5_sittersIn_4 rfl ?_
    refine go_aload_n (pc := 5) dX5_sittersIn_5 rfl ?_
    refine go_getf (pc := 6) f_X5_31 dX5_sittersIn_6 (by first | exact sr0 hR_q | exact be0 hQ_q | exact sr1 hR_q | exact sr2 hR_q | exact sr3 hR_q | exact sr4 hR_q | exact be1 hQ_q | exact be2 hQ_q | exact be3 hQ_q) (by rfl) ?_
    refine go_getf (pc := 9) f_X5_117 dX5_sittersIn_9 (by first | exact sr0 hR_q | exact be0 hQ_q | exact sr1 hR_q | exact sr2 hR_q | exact sr3 hR_q | exact sr4 hR_q | exact be1 hQ_q | exact be2 hQ_q | exact be3 hQ_q) (by rfl) ?_
    refine go_icmp_ge (tgt := 47) (pc := 12) dX5_sittersIn_12 (by decide) (fun h_12 => by exfalso; rw [hB_q.1.1] at h_12; exact absurd h_12 (nI_ge (by omega) (by omega))) (fun h_12 => ?_)
    refine go_aload_n (pc := 15) dX5_sittersIn_15 rfl ?_
    refine go_getf (pc := 16) f_X5_18 dX5_sittersIn_16 (by first | exact sr0 hR_q | exact be0 hQ_q | exact sr1 hR_q | exact sr2 hR_q | exact sr3 hR_q | exact sr4 hR_q | exact be1 hQ_q | exact be2 hQ_q | exact be3 hQ_q) (by rfl) ?_
    refine go_iload_n (pc := 19) dX5_sittersIn_19 rfl ?_
    refine go_iald (pc := 20) dX5_sittersIn_20 (by first | exact sr0 hR_q | exact be0 hQ_q | exact sr1 hR_q | exact sr2 hR_q | exact sr3 hR_q | exact sr4 hR_q | exact be1 hQ_q | exact be2 hQ_q | exact be3 hQ_q) (by exact ⟨rfl, by omega⟩) ?_
    rw [(hr_q.1 i_q (by omega)).2.1]
    refine go_iconst (v := -1) (pc := 21) dX5_sittersIn_21 (by decide) ?_
    refine go_icmp_eq (tgt := 41) (pc := 22) dX5_sittersIn_22 (by decide) (fun h_22 => ?_) (fun h_22 => ?_)
    · refine go_iinc (v := 1) (lw := [_, _, _, _]) (pc := 41) dX5_sittersIn_41 rfl (by decide) (by decide) rfl ?_
      refine go_goto (tgt := 4) (pc := 44) dX5_sittersIn_44 (by decide) ?_
      rw [nI_1]
      first
        | (have g9_q : K (16 + i_q) = -1 := h_22
           refine ih_q _ _ _ ⟨_, rfl, ?_, rfl, rfl⟩
           rw [← hR9, bits_step hi_q, if_neg (by simp [g9_q])]; simp)
        | (have g9_q : ¬ K (8 + i_q) = y := h_32
           refine ih_q _ _ _ ⟨_, rfl, ?_, rfl, rfl⟩
           rw [← hR9, bits_step hi_q, if_neg (by simp [g9_q])]; simp)
        | (have g9_q : K (8 + i_q) = y := h_32
           refine ih_q _ _ _ ⟨_, rfl, ?_, rfl, rfl⟩
           rw [← hR9, bits_step hi_q, if_pos (by simp only [decide_eq_true_eq]; exact ⟨h_22, g9_q⟩)])
    · refine go_aload_n (pc := 25) dX5_sittersIn_25 rfl ?_
      refine go_getf (pc := 26) f_X5_15 dX5_sittersIn_26 (by first | exact sr0 hR_q | exact be0 hQ_q | exact sr1 hR_q | exact sr2 hR_q | exact sr3 hR_q | exact sr4 hR_q | exact be1 hQ_q | exact be2 hQ_q | exact be3 hQ_q) (by rfl) ?_
      refine go_iload_n (pc := 29) dX5_sittersIn_29 rfl ?_
      refine go_iald (pc := 30) dX5_sittersIn_30 (by first | exact sr0 hR_q | exact be0 hQ_q | exact sr1 hR_q | exact sr2 hR_q | exact sr3 hR_q | exact sr4 hR_q | exact be1 hQ_q | exact be2 hQ_q | exact be3 hQ_q) (by exact ⟨rfl, by omega⟩) ?_
      rw [(hr_q.1 i_q (by omega)).1]
      refine go_iload_n (pc := 31) dX5_sittersIn_31 rfl ?_
      refine go_icmp_ne (tgt := 41) (pc := 32) dX5_sittersIn_32 (by decide) (fun h_32 => ?_) (fun h_32 => ?_)
      · refine go_iinc (v := 1) (lw := [_, _, _, _]) (pc := 41) dX5_sittersIn_41 rfl (by decide) (by decide) rfl ?_
        refine go_goto (tgt := 4) (pc := 44) dX5_sittersIn_44 (by decide) ?_
        rw [nI_1]
        first
          | (have g9_q : K (16 + i_q) = -1 := h_22
             refine ih_q _ _ _ ⟨_, rfl, ?_, rfl, rfl⟩
             rw [← hR9, bits_step hi_q, if_neg (by simp [g9_q])]; simp)
          | (have g9_q : ¬ K (8 + i_q) = y := h_32
             refine ih_q _ _ _ ⟨_, rfl, ?_, rfl, rfl⟩
             rw [← hR9, bits_step hi_q, if_neg (by simp [g9_q])]; simp)
          | (have g9_q : K (8 + i_q) = y := h_32
             refine ih_q _ _ _ ⟨_, rfl, ?_, rfl, rfl⟩
             rw [← hR9, bits_step hi_q, if_pos (by simp only [decide_eq_true_eq]; exact ⟨h_22, g9_q⟩)])
      · refine go_iload_n (pc := 35) dX5_sittersIn_35 rfl ?_
        refine go_iconst (v := 1) (pc := 36) dX5_sittersIn_36 (by decide) ?_
        refine go_iload_n (pc := 37) dX5_sittersIn_37 rfl ?_
        refine go_ishl (pc := 38) dX5_sittersIn_38 ?_
        refine go_ior (pc := 39) dX5_sittersIn_39 ?_
        refine go_istore_n (lw := [_, _, _, _]) (pc := 40) dX5_sittersIn_40 (by decide) rfl ?_
        refine go_iinc (v := 1) (lw := [_, _, _, _]) (pc := 41) dX5_sittersIn_41 rfl (by decide) (by decide) rfl ?_
        refine go_goto (tgt := 4) (pc := 44) dX5_sittersIn_44 (by decide) ?_
        rw [nI_1]
        first
          | (have g9_q : K (16 + i_q) = -1 := h_22
             refine ih_q _ _ _ ⟨_, rfl, ?_, rfl, rfl⟩
             rw [← hR9, bits_step hi_q, if_neg (by simp [g9_q])]; simp)
          | (have g9_q : ¬ K (8 + i_q) = y := h_32
             refine ih_q _ _ _ ⟨_, rfl, ?_, rfl, rfl⟩
             rw [← hR9, bits_step hi_q, if_neg (by simp [g9_q])]; simp)
          | (have g9_q : K (8 + i_q) = y := h_32
             refine ih_q _ _ _ ⟨_, rfl, ?_, rfl, rfl⟩
             rw [← hR9, bits_step hi_q, if_pos (by simp only [decide_eq_true_eq]; exact ⟨h_22, g9_q⟩)])
  · rintro lv9 σ n9 ⟨x9_q, rfl, hR9, rfl, rfl⟩
    refine go_iload_n (pc := 4) dX5_sittersIn_4 rfl ?_
    refine go_aload_n (pc := 5) dX5_sittersIn_5 rfl ?_
    refine go_getf (pc := 6) f_X5_31 dX5_sittersIn_6 (by first | exact sr0 hR_q | exact be0 hQ_q | exact sr1 hR_q | exact sr2 hR_q | exact sr3 hR_q | exact sr4 hR_q | exact be1 hQ_q | exact be2 hQ_q | exact be3 hQ_q) (by rfl) ?_
    refine go_getf (pc := 9) f_X5_117 dX5_sittersIn_9 (by first | exact sr0 hR_q | exact be0 hQ_q | exact sr1 hR_q | exact sr2 hR_q | exact sr3 hR_q | exact sr4 hR_q | exact be1 hQ_q | exact be2 hQ_q | exact be3 hQ_q) (by rfl) ?_
    refine go_icmp_ge (tgt := 47) (pc := 12) dX5_sittersIn_12 (by decide) (fun h_12 => ?_) (fun h_12 => by exfalso; rw [hB_q.1.1] at h_12; exact h_12 (nI_le (by omega) (by omega)))
    refine go_iload_n (pc := 47) dX5_sittersIn_47 rfl ?_
    exact go_iretP (pc := 48) rfl dX5_sittersIn_48 (Nat.le_of_ble_eq_true rfl) (Nat.le_of_ble_eq_true rfl) (by rw [← hR9, Nat.sub_self]; rfl)
theorem cp_foremostAwake {Γ : gam} {D : Nat} {ro : Nat → Nat} {z0 : sto} {n k a b : Nat} {w : Int32} {K ag pa pf ch co rw bk : row} {lm lt lw : Value} (hR_q : SrAt Γ ro z0 a b w (K 33) ch co rw bk) (hr_q : rS K ch co rw bk) (hQ_q : BrAt Γ D ro z0 b K ag pa pf lm lt lw) (hB_q : okB K) (hk : 3 ≤ k) {c : Nat} (hc_q : c < kW K) : Sp Γ (rmk k 0 0) uX5_foremostAwake [.ref a, .int (nI c)] z0 n (qP (oI (fmK K (nI c))) z0 n) := by
  have hP8 := hB_q.1.2.1
  have hH5 := hB_q.1.2.2.2.1
  have hW4 := hB_q.1.2.2.2.2.2
  refine sp_intro [some (.ref a), some (.int (nI c)), none, none] (by decide +kernel) rfl (Nat.le_of_ble_eq_true rfl) rfl ?_
  refine go_iconst (v := 0) (pc := 0) dX5_foremostAwake_0 (by decide) ?_
  refine go_istore_n (lw := [_, _, _, _]) (pc := 1) dX5_foremostAwake_1 (by decide) rfl ?_
  refine go_iter (kH K) (fun i_q lv9 s9 n9 => ∃ x3_q, lv9 = [some (.ref a), some (.int (nI c)), some (.int (nI i_q)), x3_q] ∧ (fnd (fmF K (nI c)) i_q (kH K - i_q) = fnd (fmF K (nI c)) 0 (kH K)) ∧ (z0 = s9) ∧ n = n9) ⟨none, rfl, rfl, rfl, rfl⟩ ?_ ?_
  · rintro i_q lv9 σ n9 hi_q ⟨x3_q, rfl, hR9, rfl, rfl⟩ ih_q
    refine go_iload_n (pc := 2) dX5_foremostAwake_2 rfl ?_
    refine go_aload_n (pc := 3) dX5_foremostAwake_3 rfl ?_
    refine go_getf (pc := 4) f_X5_31 dX5_foremostAwake_4 (by first | exact sr0 hR_q | exact be0 hQ_q | exact sr1 hR_q | exact sr2 hR_q | exact sr3 hR_q | exact sr4 hR_q | exact be1 hQ_q | exact be2 hQ_q | exact be3 hQ_q) (by rfl) ?_
    refine go_getf (pc := 7) f_X5_103 dX5_foremostAwake_7 (by first | exact sr0 hR_q | exact be0 hQ_q | exact sr1 hR_q | exact sr2 hR_q | exact sr3 hR_q | exact sr4 hR_q | exact be1 hQ_q | exact be2 hQ_q | exact be3 hQ_q) (by rfl) ?_
    refine go_icmp_ge (tgt := 44) (pc := 10) dX5_foremostAwake_10 (by decide) (fun h_10 => by exfalso; rw [hB_q.1.2.2.1] at h_10; exact absurd h_10 (nI_ge (by omega) (by omega))) (fun h_10 => ?_)
    refine go_aload_n (pc := 13) dX5_foremostAwake_13 rfl ?_
    refine go_iload_n (pc := 14) dX5_foremostAwake_14 rfl ?_
    refine go_iload_n (pc := 15) dX5_foremostAwake_15 rfl ?_
    refine go_V2P (pc := 16) v_X5_130 rfl rfl (rcv_of (ci := 5) (by first | exact sr0 hR_q | exact be0 hQ_q | exact sr1 hR_q | exact sr2 hR_q | exact sr3 hR_q | exact sr4 hR_q | exact be1 hQ_q | exact be2 hQ_q | exact be3 hQ_q) rfl) dX5_foremostAwake_16 (cp_whoOn (k := k - 1) hR_q hr_q hQ_q (by omega) hB_q _ _) ?_
    rw [show (nI c).toInt = ((c : Nat) : Int) from nI_toInt (by omega), show (nI i_q).toInt = ((i_q : Nat) : Int) from nI_toInt (by omega), whoK_at hc_q hi_q]
    refine go_istore_n (lw := [_, _, _, _]) (pc := 19) dX5_foremostAwake_19 (by decide) rfl ?_
    refine go_iload_n (pc := 20) dX5_foremostAwake_20 rfl ?_
    refine go_iconst (v := -1) (pc := 21) dX5_foremostAwake_21 (by decide) ?_
    refine go_icmp_eq (tgt := 38) (pc := 22) dX5_foremostAwake_22 (by decide) (fun h_22 => ?_) (fun h_22 => ?_)
    · refine go_iinc (v := 1) (lw := [_, _, _, _]) (pc := 38) dX5_foremostAwake_38 rfl (by decide) (by decide) rfl ?_
      refine go_goto (tgt := 2) (pc := 41) dX5_foremostAwake_41 (by decide) ?_
      rw [nI_1]
      first
        | (have g9_q : sitK K (nI c) (nI i_q) = none := (sit_m1 hP8).mp h_22
           refine ih_q _ _ _ ⟨_, rfl, ?_, rfl, rfl⟩
           rw [← hR9, fm_n hi_q (by simp [fmF, g9_q])])
        | (have g9_q : _ := Decidable.not_not.mp (fun hc_q => h_33 (bI_0.mpr hc_q))
           refine ih_q _ _ _ ⟨_, rfl, ?_, rfl, rfl⟩
           rw [← hR9, fm_n hi_q (by simp only [fmF, hp9]; simpa [aslK] using g9_q)])
    · obtain ⟨p9_q, hp9⟩ := oI_ne h_22
      rw [show oI (sitK K (nI c) (nI i_q)) = nI p9_q from by rw [hp9]; rfl]
      refine go_aload_n (pc := 25) dX5_foremostAwake_25 rfl ?_
      refine go_getf (pc := 26) f_X5_31 dX5_foremostAwake_26 (by first | exact sr0 hR_q | exact be0 hQ_q | exact sr1 hR_q | exact sr2 hR_q | exact sr3 hR_q | exact sr4 hR_q | exact be1 hQ_q | exact be2 hQ_q | exact be3 hQ_q) (by rfl) ?_
      refine go_iload_n (pc := 29) dX5_foremostAwake_29 rfl ?_
      refine go_V1P (pc := 30) v_X5_57 rfl rfl (rcv_of (ci := 0) (by first | exact sr0 hR_q | exact be0 hQ_q | exact sr1 hR_q | exact sr2 hR_q | exact sr3 hR_q | exact sr4 hR_q | exact be1 hQ_q | exact be2 hQ_q | exact be3 hQ_q) rfl) dX5_foremostAwake_30 (cp_isAsleep (k := k - 1) hQ_q _) ?_
      refine go_if_ne (tgt := 38) (pc := 33) dX5_foremostAwake_33 (by decide) (fun h_33 => ?_) (fun h_33 => ?_)
      · refine go_iinc (v := 1) (lw := [_, _, _, _]) (pc := 38) dX5_foremostAwake_38 rfl (by decide) (by decide) rfl ?_
        refine go_goto (tgt := 2) (pc := 41) dX5_foremostAwake_41 (by decide) ?_
        rw [nI_1]
        first
          | (have g9_q : sitK K (nI c) (nI i_q) = none := (sit_m1 hP8).mp h_22
             refine ih_q _ _ _ ⟨_, rfl, ?_, rfl, rfl⟩
             rw [← hR9, fm_n hi_q (by simp [fmF, g9_q])])
          | (have g9_q : _ := Decidable.not_not.mp (fun hc_q => h_33 (bI_0.mpr hc_q))
             refine ih_q _ _ _ ⟨_, rfl, ?_, rfl, rfl⟩
             rw [← hR9, fm_n hi_q (by simp only [fmF, hp9]; simpa [aslK] using g9_q)])
      · refine go_iload_n (pc := 36) dX5_foremostAwake_36 rfl ?_
        exact go_iretP (pc := 37) rfl dX5_foremostAwake_37 (Nat.le_of_ble_eq_true rfl) (Nat.le_of_ble_eq_true rfl) (by rw [fmK, ← hR9, show fnd (fmF K (nI c)) i_q (kH K - i_q) = some i_q from by rw [show kH K - i_q = (kH K - (i_q + 1)) + 1 by omega, fnd, if_pos (by simp only [fmF, hp9]; have := bI_0.mp h_33; simpa [aslK] using this)]]; simp only [hp9]; rfl)
  · rintro lv9 σ n9 ⟨x3_q, rfl, hR9, rfl, rfl⟩
    refine go_iload_n (pc := 2) dX5_foremostAwake_2 rfl ?_
    refine go_aload_n (pc := 3) dX5_foremostAwake_3 rfl ?_
    refine go_getf (pc := 4) f_X5_31 dX5_foremostAwake_4 (by first | exact sr0 hR_q | exact be0 hQ_q | exact sr1 hR_q | exact sr2 hR_q | exact sr3 hR_q | exact sr4 hR_q | exact be1 hQ_q | exact be2 hQ_q | exact be3 hQ_q) (by rfl) ?_
    refine go_getf (pc := 7) f_X5_103 dX5_foremostAwake_7 (by first | exact sr0 hR_q | exact be0 hQ_q | exact sr1 hR_q | exact sr2 hR_q | exact sr3 hR_q | exact sr4 hR_q | exact be1 hQ_q | exact be2 hQ_q | exact be3 hQ_q) (by rfl) ?_
    refine go_icmp_ge (tgt := 44) (pc := 10) dX5_foremostAwake_10 (by decide) (fun h_10 => ?_) (fun h_10 => by exfalso; rw [hB_q.1.2.2.1] at h_10; exact h_10 (nI_le (by omega) (by omega)))
    refine go_iconst (v := -1) (pc := 44) dX5_foremostAwake_44 (by decide) ?_
    exact go_iretP (pc := 45) rfl dX5_foremostAwake_45 (Nat.le_of_ble_eq_true rfl) (Nat.le_of_ble_eq_true rfl) (by rw [fmK, ← hR9, Nat.sub_self]; rfl)
theorem cp_bitOn {Γ : gam} {D : Nat} {ro : Nat → Nat} {z0 : sto} {n k a b : Nat} {w : Int32} {K ag pa pf ch co rw bk : row} {lm lt lw : Value} (hR_q : SrAt Γ ro z0 a b w (K 33) ch co rw bk) (hr_q : rS K ch co rw bk) (hQ_q : BrAt Γ D ro z0 b K ag pa pf lm lt lw) (hB_q : okB K) (hk : 3 ≤ k) (c y : Int32) : Sp Γ (rmk k 0 0) uX5_bitOn [.ref a, .int c, .int y] z0 n (qP (bOn K c y) z0 n) := by
  refine sp_intro [some (.ref a), some (.int c), some (.int y), none] (by decide +kernel) rfl (Nat.le_of_ble_eq_true rfl) rfl ?_
  refine go_aload_n (pc := 0) dX5_bitOn_0 rfl ?_
  refine go_iload_n (pc := 1) dX5_bitOn_1 rfl ?_
  refine go_iload_n (pc := 2) dX5_bitOn_2 rfl ?_
  refine go_V2P (pc := 3) v_X5_130 rfl rfl (rcv_of (ci := 5) (by first | exact sr0 hR_q | exact be0 hQ_q | exact sr1 hR_q | exact sr2 hR_q | exact sr3 hR_q | exact sr4 hR_q | exact be1 hQ_q | exact be2 hQ_q | exact be3 hQ_q) rfl) dX5_bitOn_3 (cp_whoOn (k := k - 1) hR_q hr_q hQ_q (by omega) hB_q _ _) ?_
  refine go_istore_n (lw := [_, _, _, _]) (pc := 6) dX5_bitOn_6 (by decide) rfl ?_
  refine go_iload_n (pc := 7) dX5_bitOn_7 rfl ?_
  refine go_iconst (v := -1) (pc := 8) dX5_bitOn_8 (by decide) ?_
  refine go_icmp_ne (tgt := 16) (pc := 9) dX5_bitOn_9 (by decide) (fun h_9 => ?_) (fun h_9 => ?_)
  · refine go_iconst (v := 1) (pc := 16) dX5_bitOn_16 (by decide) ?_
    refine go_iload_n (pc := 17) dX5_bitOn_17 rfl ?_
    refine go_ishl (pc := 18) dX5_bitOn_18 ?_
    exact go_iretP (pc := 19) rfl dX5_bitOn_19 (Nat.le_of_ble_eq_true rfl) (Nat.le_of_ble_eq_true rfl) (by first | (rw [bOn, if_pos h_9]) | (rw [bOn, if_neg h_9]) | (rw [bOn, if_pos (Decidable.not_not.mp h_9)]))
  · refine go_iconst (v := 0) (pc := 12) dX5_bitOn_12 (by decide) ?_
    refine go_goto (tgt := 19) (pc := 13) dX5_bitOn_13 (by decide) ?_
    exact go_iretP (pc := 19) rfl dX5_bitOn_19 (Nat.le_of_ble_eq_true rfl) (Nat.le_of_ble_eq_true rfl) (by first | (rw [bOn, if_pos h_9]) | (rw [bOn, if_neg h_9]) | (rw [bOn, if_pos (Decidable.not_not.mp h_9)]))
theorem cp_widened {Γ : gam} {D : Nat} {ro : Nat → Nat} {z0 : sto} {n k a b : Nat} {w : Int32} {K ag pa pf ch co rw bk : row} {lm lt lw : Value} (hR_q : SrAt Γ ro z0 a b w (K 33) ch co rw bk) (hr_q : rS K ch co rw bk) (hQ_q : BrAt Γ D ro z0 b K ag pa pf lm lt lw) (hB_q : okB K) (hg_q : gS K) (hk : 4 ≤ k) {s : Int32} (hs : setP s) : Sp Γ (rmk k 0 0) uX5_widened [.ref a, .int s] z0 n (qP (besK K s) z0 n) := by
  have hP8 := hB_q.1.2.1
  have hH5 := hB_q.1.2.2.2.1
  have hW4 := hB_q.1.2.2.2.2.2
  refine sp_intro [some (.ref a), some (.int s), none, none] (by decide +kernel) rfl (Nat.le_of_ble_eq_true rfl) rfl ?_
  refine go_iload_n (pc := 0) dX5_widened_0 rfl ?_
  refine go_istore_n (lw := [_, _, _, _]) (pc := 1) dX5_widened_1 (by decide) rfl ?_
  refine go_iconst (v := 0) (pc := 2) dX5_widened_2 (by decide) ?_
  refine go_istore_n (lw := [_, _, _, _]) (pc := 3) dX5_widened_3 (by decide) rfl ?_
  refine go_iter (kP K) (fun i_q lv9 s9 n9 => ∃ (x9_q : Int32), lv9 = [some (.ref a), some (.int s), some (.int x9_q), some (.int (nI i_q))] ∧ (widF K s (kP K - i_q) i_q x9_q = widF K s (kP K) 0 s) ∧ (z0 = s9) ∧ n = n9) ⟨s, rfl, rfl, rfl, rfl⟩ ?_ ?_
  · rintro i_q lv9 σ n9 hi_q ⟨x9_q, rfl, hR9, rfl, rfl⟩ ih_q
    refine go_iload_n (pc := 4) dX5_widened_4 rfl ?_
    refine go_aload_n (pc := 5) dX5_widened_5 rfl ?_
    refine go_getf (pc := 6) f_X5_31 dX5_widened_6 (by first | exact sr0 hR_q | exact be0 hQ_q | exact sr1 hR_q | exact sr2 hR_q | exact sr3 hR_q | exact sr4 hR_q | exact be1 hQ_q | exact be2 hQ_q | exact be3 hQ_q) (by rfl) ?_
    refine go_getf (pc := 9) f_X5_117 dX5_widened_9 (by first | exact sr0 hR_q | exact be0 hQ_q | exact sr1 hR_q | exact sr2 hR_q | exact sr3 hR_q | exact sr4 hR_q | exact be1 hQ_q | exact be2 hQ_q | exact be3 hQ_q) (by rfl) ?_
    refine go_icmp_ge (tgt := 120) (pc := 12) dX5_widened_12 (by decide) (fun h_12 => by exfalso; rw [hB_q.1.1] at h_12; exact absurd h_12 (nI_ge (by omega) (by omega))) (fun h_12 => ?_)
    refine go_iload_n (pc := 15) dX5_widened_15 rfl ?_
    refine go_iload_n (pc := 16) dX5_widened_16 rfl ?_
    refine go_ishr (pc := 17) dX5_widened_17 ?_
    refine go_iconst (v := 1) (pc := 18) dX5_widened_18 (by decide) ?_
    refine go_iand (pc := 19) dX5_widened_19 ?_
    refine go_iconst (v := 1) (pc := 20) dX5_widened_20 (by decide) ?_
    refine go_icmp_ne (tgt := 114) (pc := 21) dX5_widened_21 (by decide) (fun h_21 => ?_) (fun h_21 => ?_)
    · refine go_iinc (v := 1) (lw := [_, _, _, _]) (pc := 114) dX5_widened_114 rfl (by decide) (by decide) rfl ?_
      refine go_goto (tgt := 4) (pc := 117) dX5_widened_117 (by decide) ?_
      rw [nI_1]
      first
        | (have g9_q : K (16 + i_q) = -1 := h_31
           refine ih_q _ _ _ ⟨_, rfl, ?_, rfl, rfl⟩
           rw [← hR9, widF_step hi_q, if_neg (fun hc_q => hc_q.2 g9_q)])
        | (have g9_q : _ := mt (fun hc_q : hasB s (nI i_q) = true => (show s >>> (nI i_q &&& 31) &&& 1 = 1 from by simpa [hasB] using hc_q)) h_21
           refine ih_q _ _ _ ⟨_, rfl, ?_, rfl, rfl⟩
           rw [← hR9, widF_step hi_q, if_neg (fun hc_q => g9_q hc_q.1)])
        | (have g9_q : hasB s (nI i_q) = true := by simpa [hasB] using h_21
           refine ih_q _ _ _ ⟨_, rfl, ?_, rfl, rfl⟩
           rw [← hR9, widF_step hi_q, if_pos ⟨g9_q, h_31⟩]; rfl)
    · refine go_aload_n (pc := 24) dX5_widened_24 rfl ?_
      refine go_getf (pc := 25) f_X5_18 dX5_widened_25 (by first | exact sr0 hR_q | exact be0 hQ_q | exact sr1 hR_q | exact sr2 hR_q | exact sr3 hR_q | exact sr4 hR_q | exact be1 hQ_q | exact be2 hQ_q | exact be3 hQ_q) (by rfl) ?_
      refine go_iload_n (pc := 28) dX5_widened_28 rfl ?_
      refine go_iald (pc := 29) dX5_widened_29 (by first | exact sr0 hR_q | exact be0 hQ_q | exact sr1 hR_q | exact sr2 hR_q | exact sr3 hR_q | exact sr4 hR_q | exact be1 hQ_q | exact be2 hQ_q | exact be3 hQ_q) (by exact ⟨rfl, by omega⟩) ?_
      rw [(hr_q.1 i_q (by omega)).2.1]
      refine go_iconst (v := -1) (pc := 30) dX5_widened_30 (by decide) ?_
      refine go_icmp_eq (tgt := 114) (pc := 31) dX5_widened_31 (by decide) (fun h_31 => ?_) (fun h_31 => ?_)
      · refine go_iinc (v := 1) (lw := [_, _, _, _]) (pc := 114) dX5_widened_114 rfl (by decide) (by decide) rfl ?_
        refine go_goto (tgt := 4) (pc := 117) dX5_widened_117 (by decide) ?_
        rw [nI_1]
        first
          | (have g9_q : K (16 + i_q) = -1 := h_31
             refine ih_q _ _ _ ⟨_, rfl, ?_, rfl, rfl⟩
             rw [← hR9, widF_step hi_q, if_neg (fun hc_q => hc_q.2 g9_q)])
          | (have g9_q : _ := mt (fun hc_q : hasB s (nI i_q) = true => (show s >>> (nI i_q &&& 31) &&& 1 = 1 from by simpa [hasB] using hc_q)) h_21
             refine ih_q _ _ _ ⟨_, rfl, ?_, rfl, rfl⟩
             rw [← hR9, widF_step hi_q, if_neg (fun hc_q => g9_q hc_q.1)])
          | (have g9_q : hasB s (nI i_q) = true := by simpa [hasB] using h_21
             refine ih_q _ _ _ ⟨_, rfl, ?_, rfl, rfl⟩
             rw [← hR9, widF_step hi_q, if_pos ⟨g9_q, h_31⟩]; rfl)
      · refine go_iload_n (pc := 34) dX5_widened_34 rfl ?_
        refine go_aload_n (pc := 35) dX5_widened_35 rfl ?_
        refine go_aload_n (pc := 36) dX5_widened_36 rfl ?_
        refine go_getf (pc := 37) f_X5_15 dX5_widened_37 (by first | exact sr0 hR_q | exact be0 hQ_q | exact sr1 hR_q | exact sr2 hR_q | exact sr3 hR_q | exact sr4 hR_q | exact be1 hQ_q | exact be2 hQ_q | exact be3 hQ_q) (by rfl) ?_
        refine go_iload_n (pc := 40) dX5_widened_40 rfl ?_
        refine go_iald (pc := 41) dX5_widened_41 (by first | exact sr0 hR_q | exact be0 hQ_q | exact sr1 hR_q | exact sr2 hR_q | exact sr3 hR_q | exact sr4 hR_q | exact be1 hQ_q | exact be2 hQ_q | exact be3 hQ_q) (by exact ⟨rfl, by omega⟩) ?_
        rw [(hr_q.1 i_q (by omega)).1]
        refine go_iconst (v := 1) (pc := 42) dX5_widened_42 (by decide) ?_
        refine go_isub (pc := 43) dX5_widened_43 ?_
        refine go_aload_n (pc := 44) dX5_widened_44 rfl ?_
        refine go_getf (pc := 45) f_X5_18 dX5_widened_45 (by first | exact sr0 hR_q | exact be0 hQ_q | exact sr1 hR_q | exact sr2 hR_q | exact sr3 hR_q | exact sr4 hR_q | exact be1 hQ_q | exact be2 hQ_q | exact be3 hQ_q) (by rfl) ?_
        refine go_iload_n (pc := 48) dX5_widened_48 rfl ?_
        refine go_iald (pc := 49) dX5_widened_49 (by first | exact sr0 hR_q | exact be0 hQ_q | exact sr1 hR_q | exact sr2 hR_q | exact sr3 hR_q | exact sr4 hR_q | exact be1 hQ_q | exact be2 hQ_q | exact be3 hQ_q) (by exact ⟨rfl, by omega⟩) ?_
        rw [(hr_q.1 i_q (by omega)).2.1]
        refine go_V2P (pc := 50) v_X5_136 rfl rfl (rcv_of (ci := 5) (by first | exact sr0 hR_q | exact be0 hQ_q | exact sr1 hR_q | exact sr2 hR_q | exact sr3 hR_q | exact sr4 hR_q | exact be1 hQ_q | exact be2 hQ_q | exact be3 hQ_q) rfl) dX5_widened_50 (cp_bitOn (k := k - 1) hR_q hr_q hQ_q hB_q (by omega) _ _) ?_
        refine go_aload_n (pc := 53) dX5_widened_53 rfl ?_
        refine go_aload_n (pc := 54) dX5_widened_54 rfl ?_
        refine go_getf (pc := 55) f_X5_15 dX5_widened_55 (by first | exact sr0 hR_q | exact be0 hQ_q | exact sr1 hR_q | exact sr2 hR_q | exact sr3 hR_q | exact sr4 hR_q | exact be1 hQ_q | exact be2 hQ_q | exact be3 hQ_q) (by rfl) ?_
        refine go_iload_n (pc := 58) dX5_widened_58 rfl ?_
        refine go_iald (pc := 59) dX5_widened_59 (by first | exact sr0 hR_q | exact be0 hQ_q | exact sr1 hR_q | exact sr2 hR_q | exact sr3 hR_q | exact sr4 hR_q | exact be1 hQ_q | exact be2 hQ_q | exact be3 hQ_q) (by exact ⟨rfl, by omega⟩) ?_
        rw [(hr_q.1 i_q (by omega)).1]
        refine go_iconst (v := 1) (pc := 60) dX5_widened_60 (by decide) ?_
        refine go_iadd (pc := 61) dX5_widened_61 ?_
        refine go_aload_n (pc := 62) dX5_widened_62 rfl ?_
        refine go_getf (pc := 63) f_X5_18 dX5_widened_63 (by first | exact sr0 hR_q | exact be0 hQ_q | exact sr1 hR_q | exact sr2 hR_q | exact sr3 hR_q | exact sr4 hR_q | exact be1 hQ_q | exact be2 hQ_q | exact be3 hQ_q) (by rfl) ?_
        refine go_iload_n (pc := 66) dX5_widened_66 rfl ?_
        refine go_iald (pc := 67) dX5_widened_67 (by first | exact sr0 hR_q | exact be0 hQ_q | exact sr1 hR_q | exact sr2 hR_q | exact sr3 hR_q | exact sr4 hR_q | exact be1 hQ_q | exact be2 hQ_q | exact be3 hQ_q) (by exact ⟨rfl, by omega⟩) ?_
        rw [(hr_q.1 i_q (by omega)).2.1]
        refine go_V2P (pc := 68) v_X5_136 rfl rfl (rcv_of (ci := 5) (by first | exact sr0 hR_q | exact be0 hQ_q | exact sr1 hR_q | exact sr2 hR_q | exact sr3 hR_q | exact sr4 hR_q | exact be1 hQ_q | exact be2 hQ_q | exact be3 hQ_q) rfl) dX5_widened_68 (cp_bitOn (k := k - 1) hR_q hr_q hQ_q hB_q (by omega) _ _) ?_
        refine go_ior (pc := 71) dX5_widened_71 ?_
        refine go_ior (pc := 72) dX5_widened_72 ?_
        refine go_istore_n (lw := [_, _, _, _]) (pc := 73) dX5_widened_73 (by decide) rfl ?_
        refine go_iload_n (pc := 74) dX5_widened_74 rfl ?_
        refine go_aload_n (pc := 75) dX5_widened_75 rfl ?_
        refine go_aload_n (pc := 76) dX5_widened_76 rfl ?_
        refine go_getf (pc := 77) f_X5_15 dX5_widened_77 (by first | exact sr0 hR_q | exact be0 hQ_q | exact sr1 hR_q | exact sr2 hR_q | exact sr3 hR_q | exact sr4 hR_q | exact be1 hQ_q | exact be2 hQ_q | exact be3 hQ_q) (by rfl) ?_
        refine go_iload_n (pc := 80) dX5_widened_80 rfl ?_
        refine go_iald (pc := 81) dX5_widened_81 (by first | exact sr0 hR_q | exact be0 hQ_q | exact sr1 hR_q | exact sr2 hR_q | exact sr3 hR_q | exact sr4 hR_q | exact be1 hQ_q | exact be2 hQ_q | exact be3 hQ_q) (by exact ⟨rfl, by omega⟩) ?_
        rw [(hr_q.1 i_q (by omega)).1]
        refine go_aload_n (pc := 82) dX5_widened_82 rfl ?_
        refine go_getf (pc := 83) f_X5_18 dX5_widened_83 (by first | exact sr0 hR_q | exact be0 hQ_q | exact sr1 hR_q | exact sr2 hR_q | exact sr3 hR_q | exact sr4 hR_q | exact be1 hQ_q | exact be2 hQ_q | exact be3 hQ_q) (by rfl) ?_
        refine go_iload_n (pc := 86) dX5_widened_86 rfl ?_
        refine go_iald (pc := 87) dX5_widened_87 (by first | exact sr0 hR_q | exact be0 hQ_q | exact sr1 hR_q | exact sr2 hR_q | exact sr3 hR_q | exact sr4 hR_q | exact be1 hQ_q | exact be2 hQ_q | exact be3 hQ_q) (by exact ⟨rfl, by omega⟩) ?_
        rw [(hr_q.1 i_q (by omega)).2.1]
        refine go_iconst (v := 1) (pc := 88) dX5_widened_88 (by decide) ?_
        refine go_isub (pc := 89) dX5_widened_89 ?_
        refine go_V2P (pc := 90) v_X5_136 rfl rfl (rcv_of (ci := 5) (by first | exact sr0 hR_q | exact be0 hQ_q | exact sr1 hR_q | exact sr2 hR_q | exact sr3 hR_q | exact sr4 hR_q | exact be1 hQ_q | exact be2 hQ_q | exact be3 hQ_q) rfl) dX5_widened_90 (cp_bitOn (k := k - 1) hR_q hr_q hQ_q hB_q (by omega) _ _) ?_
        refine go_aload_n (pc := 93) dX5_widened_93 rfl ?_
        refine go_aload_n (pc := 94) dX5_widened_94 rfl ?_
        refine go_getf (pc := 95) f_X5_15 dX5_widened_95 (by first | exact sr0 hR_q | exact be0 hQ_q | exact sr1 hR_q | exact sr2 hR_q | exact sr3 hR_q | exact sr4 hR_q | exact be1 hQ_q | exact be2 hQ_q | exact be3 hQ_q) (by rfl) ?_
        refine go_iload_n (pc := 98) dX5_widened_98 rfl ?_
        refine go_iald (pc := 99) dX5_widened_99 (by first | exact sr0 hR_q | exact be0 hQ_q | exact sr1 hR_q | exact sr2 hR_q | exact sr3 hR_q | exact sr4 hR_q | exact be1 hQ_q | exact be2 hQ_q | exact be3 hQ_q) (by exact ⟨rfl, by omega⟩) ?_
        rw [(hr_q.1 i_q (by omega)).1]
        refine go_aload_n (pc := 100) dX5_widened_100 rfl ?_
        refine go_getf (pc := 101) f_X5_18 dX5_widened_101 (by first | exact sr0 hR_q | exact be0 hQ_q | exact sr1 hR_q | exact sr2 hR_q | exact sr3 hR_q | exact sr4 hR_q | exact be1 hQ_q | exact be2 hQ_q | exact be3 hQ_q) (by rfl) ?_
        refine go_iload_n (pc := 104) dX5_widened_104 rfl ?_
        refine go_iald (pc := 105) dX5_widened_105 (by first | exact sr0 hR_q | exact be0 hQ_q | exact sr1 hR_q | exact sr2 hR_q | exact sr3 hR_q | exact sr4 hR_q | exact be1 hQ_q | exact be2 hQ_q | exact be3 hQ_q) (by exact ⟨rfl, by omega⟩) ?_
        rw [(hr_q.1 i_q (by omega)).2.1]
        refine go_iconst (v := 1) (pc := 106) dX5_widened_106 (by decide) ?_
        refine go_iadd (pc := 107) dX5_widened_107 ?_
        refine go_V2P (pc := 108) v_X5_136 rfl rfl (rcv_of (ci := 5) (by first | exact sr0 hR_q | exact be0 hQ_q | exact sr1 hR_q | exact sr2 hR_q | exact sr3 hR_q | exact sr4 hR_q | exact be1 hQ_q | exact be2 hQ_q | exact be3 hQ_q) rfl) dX5_widened_108 (cp_bitOn (k := k - 1) hR_q hr_q hQ_q hB_q (by omega) _ _) ?_
        refine go_ior (pc := 111) dX5_widened_111 ?_
        refine go_ior (pc := 112) dX5_widened_112 ?_
        refine go_istore_n (lw := [_, _, _, _]) (pc := 113) dX5_widened_113 (by decide) rfl ?_
        refine go_iinc (v := 1) (lw := [_, _, _, _]) (pc := 114) dX5_widened_114 rfl (by decide) (by decide) rfl ?_
        refine go_goto (tgt := 4) (pc := 117) dX5_widened_117 (by decide) ?_
        rw [nI_1]
        first
          | (have g9_q : K (16 + i_q) = -1 := h_31
             refine ih_q _ _ _ ⟨_, rfl, ?_, rfl, rfl⟩
             rw [← hR9, widF_step hi_q, if_neg (fun hc_q => hc_q.2 g9_q)])
          | (have g9_q : _ := mt (fun hc_q : hasB s (nI i_q) = true => (show s >>> (nI i_q &&& 31) &&& 1 = 1 from by simpa [hasB] using hc_q)) h_21
             refine ih_q _ _ _ ⟨_, rfl, ?_, rfl, rfl⟩
             rw [← hR9, widF_step hi_q, if_neg (fun hc_q => g9_q hc_q.1)])
          | (have g9_q : hasB s (nI i_q) = true := by simpa [hasB] using h_21
             refine ih_q _ _ _ ⟨_, rfl, ?_, rfl, rfl⟩
             rw [← hR9, widF_step hi_q, if_pos ⟨g9_q, h_31⟩]; rfl)
  · rintro lv9 σ n9 ⟨x9_q, rfl, hR9, rfl, rfl⟩
    refine go_iload_n (pc := 4) dX5_widened_4 rfl ?_
    refine go_aload_n (pc := 5) dX5_widened_5 rfl ?_
    refine go_getf (pc := 6) f_X5_31 dX5_widened_6 (by first | exact sr0 hR_q | exact be0 hQ_q | exact sr1 hR_q | exact sr2 hR_q | exact sr3 hR_q | exact sr4 hR_q | exact be1 hQ_q | exact be2 hQ_q | exact be3 hQ_q) (by rfl) ?_
    refine go_getf (pc := 9) f_X5_117 dX5_widened_9 (by first | exact sr0 hR_q | exact be0 hQ_q | exact sr1 hR_q | exact sr2 hR_q | exact sr3 hR_q | exact sr4 hR_q | exact be1 hQ_q | exact be2 hQ_q | exact be3 hQ_q) (by rfl) ?_
    refine go_icmp_ge (tgt := 120) (pc := 12) dX5_widened_12 (by decide) (fun h_12 => ?_) (fun h_12 => by exfalso; rw [hB_q.1.1] at h_12; exact h_12 (nI_le (by omega) (by omega)))
    refine go_iload_n (pc := 120) dX5_widened_120 rfl ?_
    exact go_iretP (pc := 121) rfl dX5_widened_121 (Nat.le_of_ble_eq_true rfl) (Nat.le_of_ble_eq_true rfl) (by rw [← wid_bes hB_q hg_q hs, ← hR9, Nat.sub_self]; rfl)
theorem cp_between {Γ : gam} {D : Nat} {ro : Nat → Nat} {z0 : sto} {n k a b : Nat} {w : Int32} {K ag pa pf ch co rw bk : row} {lm lt lw : Value} (hR_q : SrAt Γ ro z0 a b w (K 33) ch co rw bk) (hr_q : rS K ch co rw bk) (hQ_q : BrAt Γ D ro z0 b K ag pa pf lm lt lw) (hB_q : okB K) (hg_q : gS K) (hk : 5 ≤ k) {s wo b1_q : Int32} (hs : setP s) (q : Int32) (hwb : ∀ x : Int32, x &&& (wo ^^^ (-1)) = cutS x b1_q) : Sp Γ (rmk k 0 0) uX5_between [.ref a, .int s, .int q, .int wo] z0 n (qP (hfK K s q b1_q) z0 n) := by
  have hP8 := hB_q.1.2.1
  have hH5 := hB_q.1.2.2.2.1
  have hW4 := hB_q.1.2.2.2.2.2
  refine sp_intro [some (.ref a), some (.int s), some (.int q), some (.int wo), none, none] (by decide +kernel) rfl (Nat.le_of_ble_eq_true rfl) rfl ?_
  refine go_iload_n (pc := 0) dX5_between_0 rfl ?_
  refine go_istore (lw := [_, _, _, _, _, _]) (pc := 1) dX5_between_1 (by decide) rfl ?_
  refine go_iconst (v := 0) (pc := 3) dX5_between_3 (by decide) ?_
  refine go_istore (lw := [_, _, _, _, _, _]) (pc := 4) dX5_between_4 (by decide) rfl ?_
  refine go_iter (8) (fun i_q lv9 s9 n9 => ∃ (x9_q : Int32), lv9 = [some (.ref a), some (.int s), some (.int q), some (.int wo), some (.int x9_q), some (.int (nI i_q))] ∧ (hfF K q b1_q (8 - i_q) i_q x9_q = hfF K q b1_q 8 0 s) ∧ (setP x9_q) ∧ (z0 = s9) ∧ n = n9) ⟨s, rfl, rfl, hs, rfl, rfl⟩ ?_ ?_
  · rintro i_q lv9 σ n9 hi_q ⟨x9_q, rfl, hR9, hs9, rfl, rfl⟩ ih_q
    refine go_iload (pc := 6) dX5_between_6 rfl ?_
    refine go_bipush (v := 8) (pc := 8) dX5_between_8 (by decide) ?_
    refine go_icmp_ge (tgt := 44) (pc := 10) dX5_between_10 (by decide) (fun h_10 => by exfalso; exact absurd h_10 (nI_ge (b := 8) (by omega) (by decide))) (fun h_10 => ?_)
    refine go_aload_n (pc := 13) dX5_between_13 rfl ?_
    refine go_iload (pc := 14) dX5_between_14 rfl ?_
    refine go_V1P (pc := 16) v_X5_139 rfl rfl (rcv_of (ci := 5) (by first | exact sr0 hR_q | exact be0 hQ_q | exact sr1 hR_q | exact sr2 hR_q | exact sr3 hR_q | exact sr4 hR_q | exact be1 hQ_q | exact be2 hQ_q | exact be3 hQ_q) rfl) dX5_between_16 (cp_widened (k := k - 1) hR_q hr_q hQ_q hB_q hg_q (by omega) (by assumption)) ?_
    refine go_iload_n (pc := 19) dX5_between_19 rfl ?_
    refine go_iconst (v := -1) (pc := 20) dX5_between_20 (by decide) ?_
    refine go_ixor (pc := 21) dX5_between_21 ?_
    refine go_iand (pc := 22) dX5_between_22 ?_
    rw [hwb]
    refine go_istore (lw := [_, _, _, _, _, _]) (pc := 23) dX5_between_23 (by decide) rfl ?_
    refine go_iload (pc := 25) dX5_between_25 rfl ?_
    refine go_iload_n (pc := 27) dX5_between_27 rfl ?_
    refine go_ishr (pc := 28) dX5_between_28 ?_
    refine go_iconst (v := 1) (pc := 29) dX5_between_29 (by decide) ?_
    refine go_iand (pc := 30) dX5_between_30 ?_
    refine go_iconst (v := 1) (pc := 31) dX5_between_31 (by decide) ?_
    refine go_icmp_ne (tgt := 38) (pc := 32) dX5_between_32 (by decide) (fun h_32 => ?_) (fun h_32 => ?_)
    · refine go_iinc (v := 1) (lw := [_, _, _, _, _, _]) (pc := 38) dX5_between_38 rfl (by decide) (by decide) rfl ?_
      refine go_goto (tgt := 6) (pc := 41) dX5_between_41 (by decide) ?_
      rw [nI_1]
      exact ih_q _ _ _ ⟨_, rfl, (by rw [← hR9, hfF_step hi_q, if_neg (by simpa [hasB] using h_32)]), (setP_cut (setP_bes hP8 hs9)), rfl, rfl⟩
    · refine go_iload (pc := 35) dX5_between_35 rfl ?_
      exact go_iretP (pc := 37) rfl dX5_between_37 (Nat.le_of_ble_eq_true rfl) (Nat.le_of_ble_eq_true rfl) (by rw [hfK, ← hR9, hfF_step hi_q, if_pos (by simpa [hasB] using h_32)]; rfl)
  · rintro lv9 σ n9 ⟨x9_q, rfl, hR9, hs9, rfl, rfl⟩
    refine go_iload (pc := 6) dX5_between_6 rfl ?_
    refine go_bipush (v := 8) (pc := 8) dX5_between_8 (by decide) ?_
    refine go_icmp_ge (tgt := 44) (pc := 10) dX5_between_10 (by decide) (fun h_10 => ?_) (fun h_10 => by exfalso; exact h_10 (by decide))
    refine go_iconst (v := -1) (pc := 44) dX5_between_44 (by decide) ?_
    exact go_iretP (pc := 45) rfl dX5_between_45 (Nat.le_of_ble_eq_true rfl) (Nat.le_of_ble_eq_true rfl) (by rw [hfK, ← hR9]; rfl)
theorem cp_heapOf {Γ : gam} {D : Nat} {ro : Nat → Nat} {z0 : sto} {n k a b : Nat} {w : Int32} {K ag pa pf ch co rw bk : row} {lm lt lw : Value} (hR_q : SrAt Γ ro z0 a b w (K 33) ch co rw bk) (hr_q : rS K ch co rw bk) (hQ_q : BrAt Γ D ro z0 b K ag pa pf lm lt lw) (hB_q : okB K) (hg_q : gS K) (hk : 5 ≤ k) {p : Nat} (hp_q : p < 8) : Sp Γ (rmk k 0 0) uX5_heapOf [.ref a, .int (nI p)] z0 n (qP (besI K 8 (bit1 p)) z0 n) := by
  have hP8 := hB_q.1.2.1
  have hH5 := hB_q.1.2.2.2.1
  have hW4 := hB_q.1.2.2.2.2.2
  refine sp_intro [some (.ref a), some (.int (nI p)), none, none] (by decide +kernel) rfl (Nat.le_of_ble_eq_true rfl) rfl ?_
  refine go_iconst (v := 1) (pc := 0) dX5_heapOf_0 (by decide) ?_
  refine go_iload_n (pc := 1) dX5_heapOf_1 rfl ?_
  refine go_ishl (pc := 2) dX5_heapOf_2 ?_
  refine go_istore_n (lw := [_, _, _, _]) (pc := 3) dX5_heapOf_3 (by decide) rfl ?_
  refine go_iconst (v := 0) (pc := 4) dX5_heapOf_4 (by decide) ?_
  refine go_istore_n (lw := [_, _, _, _]) (pc := 5) dX5_heapOf_5 (by decide) rfl ?_
  refine go_iter (8) (fun i_q lv9 s9 n9 => ∃ (x9_q : Int32), lv9 = [some (.ref a), some (.int (nI p)), some (.int x9_q), some (.int (nI i_q))] ∧ (x9_q = besI K i_q (bit1 p)) ∧ (setP x9_q) ∧ (z0 = s9) ∧ n = n9) ⟨_, rfl, rfl, (setP_bit hp_q), rfl, rfl⟩ ?_ ?_
  · rintro i_q lv9 σ n9 hi_q ⟨x9_q, rfl, hR9, hs9, rfl, rfl⟩ ih_q
    refine go_iload_n (pc := 6) dX5_heapOf_6 rfl ?_
    refine go_bipush (v := 8) (pc := 7) dX5_heapOf_7 (by decide) ?_
    refine go_icmp_ge (tgt := 24) (pc := 9) dX5_heapOf_9 (by decide) (fun h_9 => by exfalso; exact absurd h_9 (nI_ge (b := 8) (by omega) (by decide))) (fun h_9 => ?_)
    refine go_aload_n (pc := 12) dX5_heapOf_12 rfl ?_
    refine go_iload_n (pc := 13) dX5_heapOf_13 rfl ?_
    refine go_V1P (pc := 14) v_X5_139 rfl rfl (rcv_of (ci := 5) (by first | exact sr0 hR_q | exact be0 hQ_q | exact sr1 hR_q | exact sr2 hR_q | exact sr3 hR_q | exact sr4 hR_q | exact be1 hQ_q | exact be2 hQ_q | exact be3 hQ_q) rfl) dX5_heapOf_14 (cp_widened (k := k - 1) hR_q hr_q hQ_q hB_q hg_q (by omega) (by assumption)) ?_
    refine go_istore_n (lw := [_, _, _, _]) (pc := 17) dX5_heapOf_17 (by decide) rfl ?_
    refine go_iinc (v := 1) (lw := [_, _, _, _]) (pc := 18) dX5_heapOf_18 rfl (by decide) (by decide) rfl ?_
    refine go_goto (tgt := 6) (pc := 21) dX5_heapOf_21 (by decide) ?_
    rw [nI_1]
    exact ih_q _ _ _ ⟨_, rfl, (by rw [besI, hR9]), (setP_bes hP8 hs9), rfl, rfl⟩
  · rintro lv9 σ n9 ⟨x9_q, rfl, hR9, hs9, rfl, rfl⟩
    refine go_iload_n (pc := 6) dX5_heapOf_6 rfl ?_
    refine go_bipush (v := 8) (pc := 7) dX5_heapOf_7 (by decide) ?_
    refine go_icmp_ge (tgt := 24) (pc := 9) dX5_heapOf_9 (by decide) (fun h_9 => ?_) (fun h_9 => by exfalso; exact h_9 (by decide))
    refine go_iload_n (pc := 24) dX5_heapOf_24 rfl ?_
    exact go_iretP (pc := 25) rfl dX5_heapOf_25 (Nat.le_of_ble_eq_true rfl) (Nat.le_of_ble_eq_true rfl) hR9
