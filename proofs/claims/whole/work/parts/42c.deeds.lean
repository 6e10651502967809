/-! ===== the class: deeds upon seats ===== -/
theorem cp_put {Γ : gam} {D : Nat} {ro : Nat → Nat} {z0 : sto} {n k a b : Nat} {w m : Int32} {K ag pa pf ch co rw bk : row} {lm lt lw : Value} (hR_q : SrAt Γ ro z0 a b w m ch co rw bk) (hQ_q : BrAt Γ D ro z0 b K ag pa pf lm lt lw) (hB_q : okB K) (hD : a + 4 < D) (hsb : b + 3 < a ∨ a + 4 < b) (hk : 2 ≤ k) {p c y : Nat} (hp_q : p < 8) (hc_q : c < kW K) (hy_q : y < kH K) : Sp Γ (rmk k 0 0) uX5_put [.ref a, .int (nI p), .int (nI c), .int (nI y)] z0 n (qV fun σ' n' => n' = n ∧ SrAt Γ ro σ' a b w m (upd ch (5 * c + y) (nI p)) (upd co p (nI c)) (upd rw p (nI y)) bk ∧ frC Γ ro a (a + 4) z0 σ') := by
  have hP8 := hB_q.1.2.1
  have hH5 := hB_q.1.2.2.2.1
  have hW4 := hB_q.1.2.2.2.2.2
  have hf_q : frC Γ ro a (a + 4) z0 z0 := frC.rf
  refine sp_intro [some (.ref a), some (.int (nI p)), some (.int (nI c)), some (.int (nI y))] (by decide +kernel) rfl (Nat.le_of_ble_eq_true rfl) rfl ?_
  refine go_aload_n (pc := 0) dX5_put_0 rfl ?_
  refine go_getf (pc := 1) f_X5_31 dX5_put_1 (by first | exact sr0 hR_q | exact be0 hQ_q | exact sr1 hR_q | exact sr2 hR_q | exact sr3 hR_q | exact sr4 hR_q | exact be1 hQ_q | exact be2 hQ_q | exact be3 hQ_q) (by rfl) ?_
  refine go_iload_n (pc := 4) dX5_put_4 rfl ?_
  refine go_iload_n (pc := 5) dX5_put_5 rfl ?_
  refine go_V2P (pc := 6) v_X5_47 rfl rfl (rcv_of (ci := 0) (by first | exact sr0 hR_q | exact be0 hQ_q | exact sr1 hR_q | exact sr2 hR_q | exact sr3 hR_q | exact sr4 hR_q | exact be1 hQ_q | exact be2 hQ_q | exact be3 hQ_q) rfl) dX5_put_6 (cp_isChair (k := k - 1) hQ_q (by omega) _ _) ?_
  refine go_if_eq (tgt := 37) (pc := 9) dX5_put_9 (by decide) (fun h_9 => by exfalso; rw [c_at hB_q.1 hc_q hy_q] at h_9; exact absurd h_9 (by decide)) (fun h_9 => ?_)
  refine go_aload_n (pc := 12) dX5_put_12 rfl ?_
  refine go_getf (pc := 13) f_X5_9 dX5_put_13 (by first | exact sr0 hR_q | exact be0 hQ_q | exact sr1 hR_q | exact sr2 hR_q | exact sr3 hR_q | exact sr4 hR_q | exact be1 hQ_q | exact be2 hQ_q | exact be3 hQ_q) (by rfl) ?_
  refine go_iload_n (pc := 16) dX5_put_16 rfl ?_
  refine go_iconst (v := 5) (pc := 17) dX5_put_17 (by decide) ?_
  refine go_imul (pc := 18) dX5_put_18 ?_
  refine go_iload_n (pc := 19) dX5_put_19 rfl ?_
  refine go_iadd (pc := 20) dX5_put_20 ?_
  refine go_iload_n (pc := 21) dX5_put_21 rfl ?_
  refine go_ss1 (pc := 22) hR_q dX5_put_22 (by exact ⟨c_ix, by omega⟩) (fun σ hR_q hf9 => ?_)
  have hf_q := hf_q.tr hf9
  have hQ_q := hQ_q.fr hf9 (by omega) (by omega)
  refine go_aload_n (pc := 23) dX5_put_23 rfl ?_
  refine go_getf (pc := 24) f_X5_15 dX5_put_24 (by first | exact sr0 hR_q | exact be0 hQ_q | exact sr1 hR_q | exact sr2 hR_q | exact sr3 hR_q | exact sr4 hR_q | exact be1 hQ_q | exact be2 hQ_q | exact be3 hQ_q) (by rfl) ?_
  refine go_iload_n (pc := 27) dX5_put_27 rfl ?_
  refine go_iload_n (pc := 28) dX5_put_28 rfl ?_
  refine go_ss2 (pc := 29) hR_q dX5_put_29 (by exact ⟨rfl, by omega⟩) (fun σ hR_q hf9 => ?_)
  have hf_q := hf_q.tr hf9
  have hQ_q := hQ_q.fr hf9 (by omega) (by omega)
  refine go_aload_n (pc := 30) dX5_put_30 rfl ?_
  refine go_getf (pc := 31) f_X5_18 dX5_put_31 (by first | exact sr0 hR_q | exact be0 hQ_q | exact sr1 hR_q | exact sr2 hR_q | exact sr3 hR_q | exact sr4 hR_q | exact be1 hQ_q | exact be2 hQ_q | exact be3 hQ_q) (by rfl) ?_
  refine go_iload_n (pc := 34) dX5_put_34 rfl ?_
  refine go_iload_n (pc := 35) dX5_put_35 rfl ?_
  refine go_ss3 (pc := 36) hR_q dX5_put_36 (by exact ⟨rfl, by omega⟩) (fun σ hR_q hf9 => ?_)
  have hf_q := hf_q.tr hf9
  have hQ_q := hQ_q.fr hf9 (by omega) (by omega)
  exact go_vretV (pc := 37) rfl dX5_put_37 (Nat.le_of_ble_eq_true rfl) (Nat.le_of_ble_eq_true rfl) ⟨rfl, hR_q, hf_q⟩
theorem cp_take {Γ : gam} {D : Nat} {ro : Nat → Nat} {z0 : sto} {n k a b : Nat} {w : Int32} {K ag pa pf ch co rw bk : row} {lm lt lw : Value} (hR_q : SrAt Γ ro z0 a b w (K 33) ch co rw bk) (hr_q : rS K ch co rw bk) (hQ_q : BrAt Γ D ro z0 b K ag pa pf lm lt lw) (hB_q : okB K) (hg_q : gS K) (hD : a + 4 < D) (hsb : b + 3 < a ∨ a + 4 < b) (hk : 4 ≤ k) {p c : Nat} (hp_q : p < kP K) (hu : K (16 + p) = -1) (hc_q : c < kW K) : Sp Γ (rmk k 0 0) uX5_take [.ref a, .int (nI p), .int (nI c)] z0 n (qI fun v σ' n' => v = oI (freeK K (nI c)) ∧ n' = n ∧ SeAt Γ ro σ' a b w (takK K p (nI c)) ∧ frC Γ ro a (a + 4) z0 σ') := by
  have hP8 := hB_q.1.2.1
  have hH5 := hB_q.1.2.2.2.1
  have hW4 := hB_q.1.2.2.2.2.2
  have hf_q : frC Γ ro a (a + 4) z0 z0 := frC.rf
  refine sp_intro [some (.ref a), some (.int (nI p)), some (.int (nI c)), none] (by decide +kernel) rfl (Nat.le_of_ble_eq_true rfl) rfl ?_
  refine go_aload_n (pc := 0) dX5_take_0 rfl ?_
  refine go_iload_n (pc := 1) dX5_take_1 rfl ?_
  refine go_V1P (pc := 2) v_X5_63 rfl rfl (rcv_of (ci := 5) (by first | exact sr0 hR_q | exact be0 hQ_q | exact sr1 hR_q | exact sr2 hR_q | exact sr3 hR_q | exact sr4 hR_q | exact be1 hQ_q | exact be2 hQ_q | exact be3 hQ_q) rfl) dX5_take_2 (cp_hindmostFree (k := k - 1) hR_q hr_q hQ_q (by omega) hB_q (by omega)) ?_
  refine go_istore_n (lw := [_, _, _, _]) (pc := 5) dX5_take_5 (by decide) rfl ?_
  refine go_iload_n (pc := 6) dX5_take_6 rfl ?_
  refine go_iconst (v := -1) (pc := 7) dX5_take_7 (by decide) ?_
  refine go_icmp_eq (tgt := 25) (pc := 8) dX5_take_8 (by decide) (fun h_8 => ?_) (fun h_8 => ?_)
  · refine go_iload_n (pc := 25) dX5_take_25 rfl ?_
    exact go_iretI (pc := 26) rfl dX5_take_26 (Nat.le_of_ble_eq_true rfl) (Nat.le_of_ble_eq_true rfl) (by first | exact ⟨rfl, rfl, ⟨_, _, _, _, (by rw [takK_33 (by omega)]; exact hR_q), by rw [takK, if_pos ((freeK_none hH5).mp h_8)]; exact hr_q⟩, frC.rf⟩ | exact ⟨rfl, rfl, ⟨_, _, _, _, (by rw [takK_33 (by omega)]; exact hR_q), by rw [takK, if_neg (by rw [hfr]; simp)]; exact rS_sd hB_q hg_q hr_q hp_q hu hc_q hfr⟩, hf_q⟩)
  · obtain ⟨f9, hfr⟩ := oI_ne h_8
    have hfl := free_some hfr
    rw [hfr]
    refine go_aload_n (pc := 11) dX5_take_11 rfl ?_
    refine go_iload_n (pc := 12) dX5_take_12 rfl ?_
    refine go_iload_n (pc := 13) dX5_take_13 rfl ?_
    refine go_iload_n (pc := 14) dX5_take_14 rfl ?_
    refine go_V3V (pc := 15) v_X5_110 rfl rfl (rcv_of (ci := 5) (by first | exact sr0 hR_q | exact be0 hQ_q | exact sr1 hR_q | exact sr2 hR_q | exact sr3 hR_q | exact sr4 hR_q | exact be1 hQ_q | exact be2 hQ_q | exact be3 hQ_q) rfl) dX5_take_15 (cp_put (k := k - 1) hR_q hQ_q hB_q hD hsb (by omega) (by omega) hc_q hfl.1) (fun σ n h_q => ?_)
    obtain ⟨rfl, hR_q, hf1⟩ := h_q
    have hf_q := hf_q.tr hf1
    have hQ_q := hQ_q.fr hf1 (by omega) (by omega)
    refine go_aload_n (pc := 18) dX5_take_18 rfl ?_
    refine go_getf (pc := 19) f_X5_21 dX5_take_19 (by first | exact sr0 hR_q | exact be0 hQ_q | exact sr1 hR_q | exact sr2 hR_q | exact sr3 hR_q | exact sr4 hR_q | exact be1 hQ_q | exact be2 hQ_q | exact be3 hQ_q) (by rfl) ?_
    refine go_iload_n (pc := 22) dX5_take_22 rfl ?_
    refine go_iconst (v := -1) (pc := 23) dX5_take_23 (by decide) ?_
    refine go_ss4 (pc := 24) hR_q dX5_take_24 (by exact ⟨rfl, by omega⟩) (fun σ hR_q hf9 => ?_)
    have hf_q := hf_q.tr hf9
    have hQ_q := hQ_q.fr hf9 (by omega) (by omega)
    refine go_iload_n (pc := 25) dX5_take_25 rfl ?_
    exact go_iretI (pc := 26) rfl dX5_take_26 (Nat.le_of_ble_eq_true rfl) (Nat.le_of_ble_eq_true rfl) (by first | exact ⟨rfl, rfl, ⟨_, _, _, _, (by rw [takK_33 (by omega)]; exact hR_q), by rw [takK, if_pos ((freeK_none hH5).mp h_8)]; exact hr_q⟩, frC.rf⟩ | exact ⟨rfl, rfl, ⟨_, _, _, _, (by rw [takK_33 (by omega)]; exact hR_q), by rw [takK, if_neg (by rw [hfr]; simp)]; exact rS_sd hB_q hg_q hr_q hp_q hu hc_q hfr⟩, hf_q⟩)
theorem cp_exchange {Γ : gam} {D : Nat} {ro : Nat → Nat} {z0 : sto} {n k a b : Nat} {w : Int32} {K ag pa pf ch co rw bk : row} {lm lt lw : Value} (hR_q : SrAt Γ ro z0 a b w (K 33) ch co rw bk) (hr_q : rS K ch co rw bk) (hQ_q : BrAt Γ D ro z0 b K ag pa pf lm lt lw) (hB_q : okB K) (hg_q : gS K) (hD : a + 4 < D) (hsb : b + 3 < a ∨ a + 4 < b) (hk : 3 ≤ k) {p q : Nat} (hp_q : p < kP K) (hq_q : q < kP K) (hne : p ≠ q) (hup : K (16 + p) ≠ -1) (huq : K (16 + q) ≠ -1) : Sp Γ (rmk k 0 0) uX5_exchange [.ref a, .int (nI p), .int (nI q)] z0 n (qV fun σ' n' => n' = n ∧ SeAt Γ ro σ' a b w (swapK K p q) ∧ frC Γ ro a (a + 4) z0 σ') := by
  have hP8 := hB_q.1.2.1
  have hH5 := hB_q.1.2.2.2.1
  have hW4 := hB_q.1.2.2.2.2.2
  have hf_q : frC Γ ro a (a + 4) z0 z0 := frC.rf
  obtain ⟨c1, hc1, e1_q⟩ := (hg_q.1 p hp_q).1
  obtain ⟨w1_q, hw1, e2_q⟩ := (hg_q.1 p hp_q).2.resolve_left hup
  obtain ⟨c2, hc2, e3_q⟩ := (hg_q.1 q hq_q).1
  obtain ⟨w2_q, hw2, e4_q⟩ := (hg_q.1 q hq_q).2.resolve_left huq
  refine sp_intro [some (.ref a), some (.int (nI p)), some (.int (nI q)), none, none] (by decide +kernel) rfl (Nat.le_of_ble_eq_true rfl) rfl ?_
  refine go_aload_n (pc := 0) dX5_exchange_0 rfl ?_
  refine go_getf (pc := 1) f_X5_15 dX5_exchange_1 (by first | exact sr0 hR_q | exact be0 hQ_q | exact sr1 hR_q | exact sr2 hR_q | exact sr3 hR_q | exact sr4 hR_q | exact be1 hQ_q | exact be2 hQ_q | exact be3 hQ_q) (by rfl) ?_
  refine go_iload_n (pc := 4) dX5_exchange_4 rfl ?_
  refine go_iald (pc := 5) dX5_exchange_5 (by first | exact sr0 hR_q | exact be0 hQ_q | exact sr1 hR_q | exact sr2 hR_q | exact sr3 hR_q | exact sr4 hR_q | exact be1 hQ_q | exact be2 hQ_q | exact be3 hQ_q) (by exact ⟨rfl, by omega⟩) ?_
  rw [(hr_q.1 p hp_q).1, e1_q]
  refine go_istore_n (lw := [_, _, _, _, _]) (pc := 6) dX5_exchange_6 (by decide) rfl ?_
  refine go_aload_n (pc := 7) dX5_exchange_7 rfl ?_
  refine go_getf (pc := 8) f_X5_18 dX5_exchange_8 (by first | exact sr0 hR_q | exact be0 hQ_q | exact sr1 hR_q | exact sr2 hR_q | exact sr3 hR_q | exact sr4 hR_q | exact be1 hQ_q | exact be2 hQ_q | exact be3 hQ_q) (by rfl) ?_
  refine go_iload_n (pc := 11) dX5_exchange_11 rfl ?_
  refine go_iald (pc := 12) dX5_exchange_12 (by first | exact sr0 hR_q | exact be0 hQ_q | exact sr1 hR_q | exact sr2 hR_q | exact sr3 hR_q | exact sr4 hR_q | exact be1 hQ_q | exact be2 hQ_q | exact be3 hQ_q) (by exact ⟨rfl, by omega⟩) ?_
  rw [(hr_q.1 p hp_q).2.1, e2_q]
  refine go_istore (lw := [_, _, _, _, _]) (pc := 13) dX5_exchange_13 (by decide) rfl ?_
  refine go_aload_n (pc := 15) dX5_exchange_15 rfl ?_
  refine go_iload_n (pc := 16) dX5_exchange_16 rfl ?_
  refine go_aload_n (pc := 17) dX5_exchange_17 rfl ?_
  refine go_getf (pc := 18) f_X5_15 dX5_exchange_18 (by first | exact sr0 hR_q | exact be0 hQ_q | exact sr1 hR_q | exact sr2 hR_q | exact sr3 hR_q | exact sr4 hR_q | exact be1 hQ_q | exact be2 hQ_q | exact be3 hQ_q) (by rfl) ?_
  refine go_iload_n (pc := 21) dX5_exchange_21 rfl ?_
  refine go_iald (pc := 22) dX5_exchange_22 (by first | exact sr0 hR_q | exact be0 hQ_q | exact sr1 hR_q | exact sr2 hR_q | exact sr3 hR_q | exact sr4 hR_q | exact be1 hQ_q | exact be2 hQ_q | exact be3 hQ_q) (by exact ⟨rfl, by omega⟩) ?_
  rw [(hr_q.1 q hq_q).1, e3_q]
  refine go_aload_n (pc := 23) dX5_exchange_23 rfl ?_
  refine go_getf (pc := 24) f_X5_18 dX5_exchange_24 (by first | exact sr0 hR_q | exact be0 hQ_q | exact sr1 hR_q | exact sr2 hR_q | exact sr3 hR_q | exact sr4 hR_q | exact be1 hQ_q | exact be2 hQ_q | exact be3 hQ_q) (by rfl) ?_
  refine go_iload_n (pc := 27) dX5_exchange_27 rfl ?_
  refine go_iald (pc := 28) dX5_exchange_28 (by first | exact sr0 hR_q | exact be0 hQ_q | exact sr1 hR_q | exact sr2 hR_q | exact sr3 hR_q | exact sr4 hR_q | exact be1 hQ_q | exact be2 hQ_q | exact be3 hQ_q) (by exact ⟨rfl, by omega⟩) ?_
  rw [(hr_q.1 q hq_q).2.1, e4_q]
  refine go_V3V (pc := 29) v_X5_110 rfl rfl (rcv_of (ci := 5) (by first | exact sr0 hR_q | exact be0 hQ_q | exact sr1 hR_q | exact sr2 hR_q | exact sr3 hR_q | exact sr4 hR_q | exact be1 hQ_q | exact be2 hQ_q | exact be3 hQ_q) rfl) dX5_exchange_29 (cp_put (k := k - 1) hR_q hQ_q hB_q hD hsb (by omega) (by omega) hc2 hw2) (fun σ n h_q => ?_)
  obtain ⟨rfl, hR_q, hf1⟩ := h_q
  have hf_q := hf_q.tr hf1
  have hQ_q := hQ_q.fr hf1 (by omega) (by omega)
  refine go_aload_n (pc := 32) dX5_exchange_32 rfl ?_
  refine go_iload_n (pc := 33) dX5_exchange_33 rfl ?_
  refine go_iload_n (pc := 34) dX5_exchange_34 rfl ?_
  refine go_iload (pc := 35) dX5_exchange_35 rfl ?_
  refine go_V3V (pc := 37) v_X5_110 rfl rfl (rcv_of (ci := 5) (by first | exact sr0 hR_q | exact be0 hQ_q | exact sr1 hR_q | exact sr2 hR_q | exact sr3 hR_q | exact sr4 hR_q | exact be1 hQ_q | exact be2 hQ_q | exact be3 hQ_q) rfl) dX5_exchange_37 (cp_put (k := k - 1) hR_q hQ_q hB_q hD hsb (by omega) (by omega) hc1 hw1) (fun σ n h_q => ?_)
  obtain ⟨rfl, hR_q, hf1⟩ := h_q
  have hf_q := hf_q.tr hf1
  have hQ_q := hQ_q.fr hf1 (by omega) (by omega)
  exact go_vretV (pc := 40) rfl dX5_exchange_40 (Nat.le_of_ble_eq_true rfl) (Nat.le_of_ble_eq_true rfl) ⟨rfl, ⟨_, _, _, _, (by rw [swap_hi (by omega) (by omega) (by omega)]; exact hR_q), rS_sw hB_q hg_q hr_q hp_q hq_q hne e1_q e2_q e3_q e4_q hc1 hw1 hc2 hw2⟩, hf_q⟩
theorem cp_leave {Γ : gam} {D : Nat} {ro : Nat → Nat} {z0 : sto} {n k a b : Nat} {w : Int32} {K ag pa pf ch co rw bk : row} {lm lt lw : Value} (hR_q : SrAt Γ ro z0 a b w (K 33) ch co rw bk) (hr_q : rS K ch co rw bk) (hQ_q : BrAt Γ D ro z0 b K ag pa pf lm lt lw) (hB_q : okB K) (hg_q : gS K) (hD : a + 4 < D) (hsb : b + 3 < a ∨ a + 4 < b) (hk : 4 ≤ k) {p : Nat} (hp_q : p < kP K) (hu : K (16 + p) ≠ -1) : Sp Γ (rmk k 0 0) uX5_leave [.ref a, .int (nI p)] z0 n (qI fun v σ' n' => v = nI (riseK K p (-1)).2 ∧ n' = n ∧ SeAt Γ ro σ' a b w (riseK K p (-1)).1 ∧ frC Γ ro a (a + 4) z0 σ') := by
  have hP8 := hB_q.1.2.1
  have hH5 := hB_q.1.2.2.2.1
  have hW4 := hB_q.1.2.2.2.2.2
  have hf_q : frC Γ ro a (a + 4) z0 z0 := frC.rf
  obtain ⟨c1, hc1, e1_q⟩ := (hg_q.1 p hp_q).1
  obtain ⟨w1_q, hw1, e2_q⟩ := (hg_q.1 p hp_q).2.resolve_left hu
  refine sp_intro [some (.ref a), some (.int (nI p)), none, none, none, none, none, none] (by decide +kernel) rfl (Nat.le_of_ble_eq_true rfl) rfl ?_
  refine go_aload_n (pc := 0) dX5_leave_0 rfl ?_
  refine go_getf (pc := 1) f_X5_15 dX5_leave_1 (by first | exact sr0 hR_q | exact be0 hQ_q | exact sr1 hR_q | exact sr2 hR_q | exact sr3 hR_q | exact sr4 hR_q | exact be1 hQ_q | exact be2 hQ_q | exact be3 hQ_q) (by rfl) ?_
  refine go_iload_n (pc := 4) dX5_leave_4 rfl ?_
  refine go_iald (pc := 5) dX5_leave_5 (by first | exact sr0 hR_q | exact be0 hQ_q | exact sr1 hR_q | exact sr2 hR_q | exact sr3 hR_q | exact sr4 hR_q | exact be1 hQ_q | exact be2 hQ_q | exact be3 hQ_q) (by exact ⟨rfl, by omega⟩) ?_
  rw [(hr_q.1 p hp_q).1, e1_q]
  refine go_istore_n (lw := [_, _, _, _, _, _, _, _]) (pc := 6) dX5_leave_6 (by decide) rfl ?_
  refine go_aload_n (pc := 7) dX5_leave_7 rfl ?_
  refine go_getf (pc := 8) f_X5_18 dX5_leave_8 (by first | exact sr0 hR_q | exact be0 hQ_q | exact sr1 hR_q | exact sr2 hR_q | exact sr3 hR_q | exact sr4 hR_q | exact be1 hQ_q | exact be2 hQ_q | exact be3 hQ_q) (by rfl) ?_
  refine go_iload_n (pc := 11) dX5_leave_11 rfl ?_
  refine go_iald (pc := 12) dX5_leave_12 (by first | exact sr0 hR_q | exact be0 hQ_q | exact sr1 hR_q | exact sr2 hR_q | exact sr3 hR_q | exact sr4 hR_q | exact be1 hQ_q | exact be2 hQ_q | exact be3 hQ_q) (by exact ⟨rfl, by omega⟩) ?_
  rw [(hr_q.1 p hp_q).2.1, e2_q]
  refine go_istore_n (lw := [_, _, _, _, _, _, _, _]) (pc := 13) dX5_leave_13 (by decide) rfl ?_
  refine go_aload_n (pc := 14) dX5_leave_14 rfl ?_
  refine go_getf (pc := 15) f_X5_31 dX5_leave_15 (by first | exact sr0 hR_q | exact be0 hQ_q | exact sr1 hR_q | exact sr2 hR_q | exact sr3 hR_q | exact sr4 hR_q | exact be1 hQ_q | exact be2 hQ_q | exact be3 hQ_q) (by rfl) ?_
  refine go_iload_n (pc := 18) dX5_leave_18 rfl ?_
  refine go_iload_n (pc := 19) dX5_leave_19 rfl ?_
  refine go_V2P (pc := 20) v_X5_47 rfl rfl (rcv_of (ci := 0) (by first | exact sr0 hR_q | exact be0 hQ_q | exact sr1 hR_q | exact sr2 hR_q | exact sr3 hR_q | exact sr4 hR_q | exact be1 hQ_q | exact be2 hQ_q | exact be3 hQ_q) rfl) dX5_leave_20 (cp_isChair (k := k - 1) hQ_q (by omega) _ _) ?_
  refine go_if_ne (tgt := 28) (pc := 23) dX5_leave_23 (by decide) (fun h_23 => ?_) (fun h_23 => by exfalso; rw [c_at hB_q.1 hc1 hw1] at h_23; exact absurd h_23 (by decide))
  refine go_iload_n (pc := 28) dX5_leave_28 rfl ?_
  refine go_iconst (v := 5) (pc := 29) dX5_leave_29 (by decide) ?_
  refine go_imul (pc := 30) dX5_leave_30 ?_
  refine go_istore (lw := [_, _, _, _, _, _, _, _]) (pc := 31) dX5_leave_31 (by decide) rfl ?_
  refine go_aload_n (pc := 33) dX5_leave_33 rfl ?_
  refine go_getf (pc := 34) f_X5_9 dX5_leave_34 (by first | exact sr0 hR_q | exact be0 hQ_q | exact sr1 hR_q | exact sr2 hR_q | exact sr3 hR_q | exact sr4 hR_q | exact be1 hQ_q | exact be2 hQ_q | exact be3 hQ_q) (by rfl) ?_
  refine go_iload (pc := 37) dX5_leave_37 rfl ?_
  refine go_iload_n (pc := 39) dX5_leave_39 rfl ?_
  refine go_iadd (pc := 40) dX5_leave_40 ?_
  refine go_iconst (v := -1) (pc := 41) dX5_leave_41 (by decide) ?_
  refine go_ss1 (pc := 42) hR_q dX5_leave_42 (by exact ⟨c_ix, by omega⟩) (fun σ hR_q hf9 => ?_)
  have hf_q := hf_q.tr hf9
  have hQ_q := hQ_q.fr hf9 (by omega) (by omega)
  refine go_aload_n (pc := 43) dX5_leave_43 rfl ?_
  refine go_getf (pc := 44) f_X5_18 dX5_leave_44 (by first | exact sr0 hR_q | exact be0 hQ_q | exact sr1 hR_q | exact sr2 hR_q | exact sr3 hR_q | exact sr4 hR_q | exact be1 hQ_q | exact be2 hQ_q | exact be3 hQ_q) (by rfl) ?_
  refine go_iload_n (pc := 47) dX5_leave_47 rfl ?_
  refine go_iconst (v := -1) (pc := 48) dX5_leave_48 (by decide) ?_
  refine go_ss3 (pc := 49) hR_q dX5_leave_49 (by exact ⟨rfl, by omega⟩) (fun σ hR_q hf9 => ?_)
  have hf_q := hf_q.tr hf9
  have hQ_q := hQ_q.fr hf9 (by omega) (by omega)
  refine go_iconst (v := 0) (pc := 50) dX5_leave_50 (by decide) ?_
  refine go_istore (lw := [_, _, _, _, _, _, _, _]) (pc := 51) dX5_leave_51 (by decide) rfl ?_
  refine go_iload_n (pc := 53) dX5_leave_53 rfl ?_
  refine go_iconst (v := 1) (pc := 54) dX5_leave_54 (by decide) ?_
  refine go_iadd (pc := 55) dX5_leave_55 ?_
  rw [nI_1]
  refine go_istore (lw := [_, _, _, _, _, _, _, _]) (pc := 56) dX5_leave_56 (by decide) rfl ?_
  refine go_iter (kH K - (w1_q + 1)) (fun i_q lv9 s9 n9 => ∃ (K9_q : row), ∃ (f9 : Nat), ∃ (k9 : Nat), ∃ (ch9 : row), ∃ (co9 : row), ∃ (rw9 : row), ∃ (bk9 : row), ∃ x7_q, lv9 = [some (.ref a), some (.int (nI p)), some (.int (nI c1)), some (.int (nI f9)), some (.int (nI c1 * 5)), some (.int (nI k9)), some (.int (nI (w1_q + 1 + i_q))), x7_q] ∧ (SrAt Γ ro s9 a b w (K 33) ch9 co9 rw9 bk9) ∧ (BrAt Γ D ro s9 b K ag pa pf lm lt lw) ∧ (frC Γ ro a (a + 4) z0 s9) ∧ (rS K9_q ch9 co9 rw9 bk9) ∧ (gS K9_q) ∧ (sameB K K9_q) ∧ (K9_q 33 = K 33) ∧ (sitK K9_q (nI c1) (nI f9) = none) ∧ (f9 < (w1_q + 1 + i_q) ∧ f9 < kH K) ∧ (fwd (nI c1) (kH K - (w1_q + 1) - i_q) (w1_q + 1 + i_q) f9 K9_q k9 = riseK K p (-1)) ∧ n = n9) ⟨(upP K p (-1)), w1_q, 0, _, _, _, _, none, rfl, hR_q, hQ_q, hf_q, (rS_up hB_q hg_q hr_q hp_q e1_q e2_q hc1 hw1), (gS_up hP8 hp_q hg_q), (upP_P (by omega)), (by unfold upP; rw [pk_un (by omega), pk_un (by omega)]), (by rw [upP_sit hP8 hp_q hg_q.2.1, if_pos ⟨e1_q, e2_q, nI_ne1 (by omega)⟩]), ⟨by omega, hw1⟩, (rise_fwd e1_q e2_q (by omega)).symm, rfl⟩ ?_ ?_
  · rintro i_q lv9 σ n9 hi_q ⟨K9_q, f9, k9, ch9, co9, rw9, bk9, x7_q, rfl, hR_q, hQ_q, hf_q, hr9_q, hg9_q, hs9, h33, hn9, hfw, hR9, rfl⟩ ih_q
    refine go_iload (pc := 58) dX5_leave_58 rfl ?_
    refine go_aload_n (pc := 60) dX5_leave_60 rfl ?_
    refine go_getf (pc := 61) f_X5_31 dX5_leave_61 (by first | exact sr0 hR_q | exact be0 hQ_q | exact sr1 hR_q | exact sr2 hR_q | exact sr3 hR_q | exact sr4 hR_q | exact be1 hQ_q | exact be2 hQ_q | exact be3 hQ_q) (by rfl) ?_
    refine go_getf (pc := 64) f_X5_103 dX5_leave_64 (by first | exact sr0 hR_q | exact be0 hQ_q | exact sr1 hR_q | exact sr2 hR_q | exact sr3 hR_q | exact sr4 hR_q | exact be1 hQ_q | exact be2 hQ_q | exact be3 hQ_q) (by rfl) ?_
    refine go_icmp_ge (tgt := 160) (pc := 67) dX5_leave_67 (by decide) (fun h_67 => by exfalso; rw [hB_q.1.2.2.1] at h_67; exact absurd h_67 (nI_ge (by omega) (by omega))) (fun h_67 => ?_)
    refine go_aload_n (pc := 70) dX5_leave_70 rfl ?_
    refine go_getf (pc := 71) f_X5_9 dX5_leave_71 (by first | exact sr0 hR_q | exact be0 hQ_q | exact sr1 hR_q | exact sr2 hR_q | exact sr3 hR_q | exact sr4 hR_q | exact be1 hQ_q | exact be2 hQ_q | exact be3 hQ_q) (by rfl) ?_
    refine go_iload (pc := 74) dX5_leave_74 rfl ?_
    refine go_iload (pc := 76) dX5_leave_76 rfl ?_
    refine go_iadd (pc := 78) dX5_leave_78 ?_
    refine go_iald (pc := 79) dX5_leave_79 (by first | exact sr0 hR_q | exact be0 hQ_q | exact sr1 hR_q | exact sr2 hR_q | exact sr3 hR_q | exact sr4 hR_q | exact be1 hQ_q | exact be2 hQ_q | exact be3 hQ_q) (by exact ⟨c_ix, by omega⟩) ?_
    rw [hr9_q.2 c1 (w1_q + 1 + i_q) (by rw [hs9.W]; exact hc1) (by rw [hs9.H]; omega)]
    refine go_istore (lw := [_, _, _, _, _, _, _, _]) (pc := 80) dX5_leave_80 (by decide) rfl ?_
    refine go_iload (pc := 82) dX5_leave_82 rfl ?_
    refine go_iconst (v := -1) (pc := 84) dX5_leave_84 (by decide) ?_
    refine go_icmp_eq (tgt := 154) (pc := 85) dX5_leave_85 (by decide) (fun h_85 => ?_) (fun h_85 => ?_)
    · refine go_iinc (v := 1) (lw := [_, _, _, _, _, _, _, _]) (pc := 154) dX5_leave_154 rfl (by decide) (by decide) rfl ?_
      refine go_goto (tgt := 58) (pc := 157) dX5_leave_157 (by decide) ?_
      rw [show nI (w1_q + 1 + i_q) + 1 = nI (w1_q + 1 + (i_q + 1)) from nI_1 _]
      first
        | exact ih_q _ _ _ ⟨_, _, _, _, _, _, _, _, rfl, hR_q, hQ_q, hf_q, hr9_q, hg9_q, hs9, h33, hn9, ⟨by omega, hfw.2⟩, (by rw [← hR9, fwd_n hi_q (comes_0 ((sit_m1 (by rw [hs9.P]; exact hP8)).mp h_85))]), rfl⟩
        | exact ih_q _ _ _ ⟨_, _, _, _, _, _, _, _, rfl, hR_q, hQ_q, hf_q, hr9_q, hg9_q, hs9, h33, hn9, ⟨by omega, hfw.2⟩, (by rw [← hR9, fwd_n hi_q (fun hc_q => by rw [comes_1 hp9, Bool.and_eq_true, Bool.not_eq_true', hs9.asl] at hc_q; exact h_97 (bI_0.mpr (by rw [show hasB (K 42) (nI p9_q) = false from hc_q.1]; decide)))]), rfl⟩
        | exact ih_q _ _ _ ⟨_, _, _, _, _, _, _, _, rfl, hR_q, hQ_q, hf_q, hr9_q, hg9_q, hs9, h33, hn9, ⟨by omega, hfw.2⟩, (by rw [← hR9, fwd_n hi_q (fun hc_q => by rw [comes_1 hp9, Bool.and_eq_true, com_s hs9 h33] at hc_q; exact bI_0.mp h_115 hc_q.2)]), rfl⟩
        | (rw [nI_1]
           exact ih_q _ _ _ ⟨mvP K9_q p9_q f9, (w1_q + 1 + i_q), k9 + 1, _, _, _, _, _, rfl, hR_q, hQ_q, hf_q, rS_mv (hs9.okB hB_q) hg9_q hr9_q hp9 hn9 (by rw [hs9.W]; exact hc1) (by rw [hs9.H]; omega) (by rw [hs9.H]; exact hfw.2) (by omega), gS_mv (by rw [hs9.P]; exact hP8) (by rw [hs9.H]; exact hH5) (by rw [hs9.P]; exact hpl.1) hg9_q (by rw [hpl.2.1]; exact hpl.2.2.2) (by rw [hpl.2.2.1]; exact hn9) (by rw [hs9.H]; exact hfw.2), hs9.tr (mvP_P (by omega)), (by rw [show mvP K9_q p9_q f9 33 = K9_q 33 from pk_un (by omega)]; exact h33), mv_free (by rw [hs9.P]; exact hP8) hg9_q.2.1 hp9 hn9 (by omega) (by omega) (by omega), ⟨by omega, by omega⟩, (by rw [← hR9, fwd_y hi_q hcm hp9]), rfl⟩)
    · obtain ⟨p9_q, hp9⟩ := oI_ne h_85
      have hpl := sitK_lt hp9
      rw [hs9.P] at hpl
      rw [show oI (sitK K9_q (nI c1) (nI (w1_q + 1 + i_q))) = nI p9_q from by rw [hp9]; rfl]
      refine go_aload_n (pc := 88) dX5_leave_88 rfl ?_
      refine go_getf (pc := 89) f_X5_31 dX5_leave_89 (by first | exact sr0 hR_q | exact be0 hQ_q | exact sr1 hR_q | exact sr2 hR_q | exact sr3 hR_q | exact sr4 hR_q | exact be1 hQ_q | exact be2 hQ_q | exact be3 hQ_q) (by rfl) ?_
      refine go_iload (pc := 92) dX5_leave_92 rfl ?_
      refine go_V1P (pc := 94) v_X5_57 rfl rfl (rcv_of (ci := 0) (by first | exact sr0 hR_q | exact be0 hQ_q | exact sr1 hR_q | exact sr2 hR_q | exact sr3 hR_q | exact sr4 hR_q | exact be1 hQ_q | exact be2 hQ_q | exact be3 hQ_q) rfl) dX5_leave_94 (cp_isAsleep (k := k - 1) hQ_q _) ?_
      refine go_if_ne (tgt := 154) (pc := 97) dX5_leave_97 (by decide) (fun h_97 => ?_) (fun h_97 => ?_)
      · refine go_iinc (v := 1) (lw := [_, _, _, _, _, _, _, _]) (pc := 154) dX5_leave_154 rfl (by decide) (by decide) rfl ?_
        refine go_goto (tgt := 58) (pc := 157) dX5_leave_157 (by decide) ?_
        rw [show nI (w1_q + 1 + i_q) + 1 = nI (w1_q + 1 + (i_q + 1)) from nI_1 _]
        first
          | exact ih_q _ _ _ ⟨_, _, _, _, _, _, _, _, rfl, hR_q, hQ_q, hf_q, hr9_q, hg9_q, hs9, h33, hn9, ⟨by omega, hfw.2⟩, (by rw [← hR9, fwd_n hi_q (comes_0 ((sit_m1 (by rw [hs9.P]; exact hP8)).mp h_85))]), rfl⟩
          | exact ih_q _ _ _ ⟨_, _, _, _, _, _, _, _, rfl, hR_q, hQ_q, hf_q, hr9_q, hg9_q, hs9, h33, hn9, ⟨by omega, hfw.2⟩, (by rw [← hR9, fwd_n hi_q (fun hc_q => by rw [comes_1 hp9, Bool.and_eq_true, Bool.not_eq_true', hs9.asl] at hc_q; exact h_97 (bI_0.mpr (by rw [show hasB (K 42) (nI p9_q) = false from hc_q.1]; decide)))]), rfl⟩
          | exact ih_q _ _ _ ⟨_, _, _, _, _, _, _, _, rfl, hR_q, hQ_q, hf_q, hr9_q, hg9_q, hs9, h33, hn9, ⟨by omega, hfw.2⟩, (by rw [← hR9, fwd_n hi_q (fun hc_q => by rw [comes_1 hp9, Bool.and_eq_true, com_s hs9 h33] at hc_q; exact bI_0.mp h_115 hc_q.2)]), rfl⟩
          | (rw [nI_1]
             exact ih_q _ _ _ ⟨mvP K9_q p9_q f9, (w1_q + 1 + i_q), k9 + 1, _, _, _, _, _, rfl, hR_q, hQ_q, hf_q, rS_mv (hs9.okB hB_q) hg9_q hr9_q hp9 hn9 (by rw [hs9.W]; exact hc1) (by rw [hs9.H]; omega) (by rw [hs9.H]; exact hfw.2) (by omega), gS_mv (by rw [hs9.P]; exact hP8) (by rw [hs9.H]; exact hH5) (by rw [hs9.P]; exact hpl.1) hg9_q (by rw [hpl.2.1]; exact hpl.2.2.2) (by rw [hpl.2.2.1]; exact hn9) (by rw [hs9.H]; exact hfw.2), hs9.tr (mvP_P (by omega)), (by rw [show mvP K9_q p9_q f9 33 = K9_q 33 from pk_un (by omega)]; exact h33), mv_free (by rw [hs9.P]; exact hP8) hg9_q.2.1 hp9 hn9 (by omega) (by omega) (by omega), ⟨by omega, by omega⟩, (by rw [← hR9, fwd_y hi_q hcm hp9]), rfl⟩)
      · refine go_aload_n (pc := 100) dX5_leave_100 rfl ?_
        refine go_getf (pc := 101) f_X5_31 dX5_leave_101 (by first | exact sr0 hR_q | exact be0 hQ_q | exact sr1 hR_q | exact sr2 hR_q | exact sr3 hR_q | exact sr4 hR_q | exact be1 hQ_q | exact be2 hQ_q | exact be3 hQ_q) (by rfl) ?_
        refine go_iload (pc := 104) dX5_leave_104 rfl ?_
        refine go_iload_n (pc := 106) dX5_leave_106 rfl ?_
        refine go_iload_n (pc := 107) dX5_leave_107 rfl ?_
        refine go_aload_n (pc := 108) dX5_leave_108 rfl ?_
        refine go_getf (pc := 109) f_X5_28 dX5_leave_109 (by first | exact sr0 hR_q | exact be0 hQ_q | exact sr1 hR_q | exact sr2 hR_q | exact sr3 hR_q | exact sr4 hR_q | exact be1 hQ_q | exact be2 hQ_q | exact be3 hQ_q) (by rfl) ?_
        refine go_V4I (pc := 112) v_X5_106 rfl rfl (rcv_of (ci := 0) (by first | exact sr0 hR_q | exact be0 hQ_q | exact sr1 hR_q | exact sr2 hR_q | exact sr3 hR_q | exact sr4 hR_q | exact be1 hQ_q | exact be2 hQ_q | exact be3 hQ_q) rfl) dX5_leave_112 (cp_lawful (k := k - 1) hQ_q (by omega) hB_q hpl.1 _ _) (fun v_112 σ n h_q => ?_)
        obtain ⟨rfl, rfl, hf1⟩ := h_q
        have hR_q := hR_q.fe hf1
        have hQ_q := hQ_q.fe hf1
        have hf_q := hf_q.tr (hf1.wk (by omega))
        refine go_if_eq (tgt := 154) (pc := 115) dX5_leave_115 (by decide) (fun h_115 => ?_) (fun h_115 => ?_)
        · refine go_iinc (v := 1) (lw := [_, _, _, _, _, _, _, _]) (pc := 154) dX5_leave_154 rfl (by decide) (by decide) rfl ?_
          refine go_goto (tgt := 58) (pc := 157) dX5_leave_157 (by decide) ?_
          rw [show nI (w1_q + 1 + i_q) + 1 = nI (w1_q + 1 + (i_q + 1)) from nI_1 _]
          first
            | exact ih_q _ _ _ ⟨_, _, _, _, _, _, _, _, rfl, hR_q, hQ_q, hf_q, hr9_q, hg9_q, hs9, h33, hn9, ⟨by omega, hfw.2⟩, (by rw [← hR9, fwd_n hi_q (comes_0 ((sit_m1 (by rw [hs9.P]; exact hP8)).mp h_85))]), rfl⟩
            | exact ih_q _ _ _ ⟨_, _, _, _, _, _, _, _, rfl, hR_q, hQ_q, hf_q, hr9_q, hg9_q, hs9, h33, hn9, ⟨by omega, hfw.2⟩, (by rw [← hR9, fwd_n hi_q (fun hc_q => by rw [comes_1 hp9, Bool.and_eq_true, Bool.not_eq_true', hs9.asl] at hc_q; exact h_97 (bI_0.mpr (by rw [show hasB (K 42) (nI p9_q) = false from hc_q.1]; decide)))]), rfl⟩
            | exact ih_q _ _ _ ⟨_, _, _, _, _, _, _, _, rfl, hR_q, hQ_q, hf_q, hr9_q, hg9_q, hs9, h33, hn9, ⟨by omega, hfw.2⟩, (by rw [← hR9, fwd_n hi_q (fun hc_q => by rw [comes_1 hp9, Bool.and_eq_true, com_s hs9 h33] at hc_q; exact bI_0.mp h_115 hc_q.2)]), rfl⟩
            | (rw [nI_1]
               exact ih_q _ _ _ ⟨mvP K9_q p9_q f9, (w1_q + 1 + i_q), k9 + 1, _, _, _, _, _, rfl, hR_q, hQ_q, hf_q, rS_mv (hs9.okB hB_q) hg9_q hr9_q hp9 hn9 (by rw [hs9.W]; exact hc1) (by rw [hs9.H]; omega) (by rw [hs9.H]; exact hfw.2) (by omega), gS_mv (by rw [hs9.P]; exact hP8) (by rw [hs9.H]; exact hH5) (by rw [hs9.P]; exact hpl.1) hg9_q (by rw [hpl.2.1]; exact hpl.2.2.2) (by rw [hpl.2.2.1]; exact hn9) (by rw [hs9.H]; exact hfw.2), hs9.tr (mvP_P (by omega)), (by rw [show mvP K9_q p9_q f9 33 = K9_q 33 from pk_un (by omega)]; exact h33), mv_free (by rw [hs9.P]; exact hP8) hg9_q.2.1 hp9 hn9 (by omega) (by omega) (by omega), ⟨by omega, by omega⟩, (by rw [← hR9, fwd_y hi_q hcm hp9]), rfl⟩)
        · have hcm : comes K9_q (nI c1) f9 (w1_q + 1 + i_q) = true := by
            rw [comes_1 hp9, Bool.and_eq_true, Bool.not_eq_true']
            exact ⟨by rw [hs9.asl]; have := bI_0.mp h_97; simpa [aslK] using this, by rw [com_s hs9 h33]; exact Decidable.not_not.mp (fun hc_q => h_115 (bI_0.mpr hc_q))⟩
          refine go_aload_n (pc := 118) dX5_leave_118 rfl ?_
          refine go_getf (pc := 119) f_X5_9 dX5_leave_119 (by first | exact sr0 hR_q | exact be0 hQ_q | exact sr1 hR_q | exact sr2 hR_q | exact sr3 hR_q | exact sr4 hR_q | exact be1 hQ_q | exact be2 hQ_q | exact be3 hQ_q) (by rfl) ?_
          refine go_iload (pc := 122) dX5_leave_122 rfl ?_
          refine go_iload (pc := 124) dX5_leave_124 rfl ?_
          refine go_iadd (pc := 126) dX5_leave_126 ?_
          refine go_iconst (v := -1) (pc := 127) dX5_leave_127 (by decide) ?_
          refine go_ss1 (pc := 128) hR_q dX5_leave_128 (by exact ⟨c_ix, by omega⟩) (fun σ hR_q hf9 => ?_)
          have hf_q := hf_q.tr hf9
          have hQ_q := hQ_q.fr hf9 (by omega) (by omega)
          refine go_aload_n (pc := 129) dX5_leave_129 rfl ?_
          refine go_getf (pc := 130) f_X5_9 dX5_leave_130 (by first | exact sr0 hR_q | exact be0 hQ_q | exact sr1 hR_q | exact sr2 hR_q | exact sr3 hR_q | exact sr4 hR_q | exact be1 hQ_q | exact be2 hQ_q | exact be3 hQ_q) (by rfl) ?_
          refine go_iload (pc := 133) dX5_leave_133 rfl ?_
          refine go_iload_n (pc := 135) dX5_leave_135 rfl ?_
          refine go_iadd (pc := 136) dX5_leave_136 ?_
          refine go_iload (pc := 137) dX5_leave_137 rfl ?_
          refine go_ss1 (pc := 139) hR_q dX5_leave_139 (by exact ⟨c_ix, by omega⟩) (fun σ hR_q hf9 => ?_)
          have hf_q := hf_q.tr hf9
          have hQ_q := hQ_q.fr hf9 (by omega) (by omega)
          refine go_aload_n (pc := 140) dX5_leave_140 rfl ?_
          refine go_getf (pc := 141) f_X5_18 dX5_leave_141 (by first | exact sr0 hR_q | exact be0 hQ_q | exact sr1 hR_q | exact sr2 hR_q | exact sr3 hR_q | exact sr4 hR_q | exact be1 hQ_q | exact be2 hQ_q | exact be3 hQ_q) (by rfl) ?_
          refine go_iload (pc := 144) dX5_leave_144 rfl ?_
          refine go_iload_n (pc := 146) dX5_leave_146 rfl ?_
          refine go_ss3 (pc := 147) hR_q dX5_leave_147 (by exact ⟨rfl, by omega⟩) (fun σ hR_q hf9 => ?_)
          have hf_q := hf_q.tr hf9
          have hQ_q := hQ_q.fr hf9 (by omega) (by omega)
          refine go_iload (pc := 148) dX5_leave_148 rfl ?_
          refine go_istore_n (lw := [_, _, _, _, _, _, _, _]) (pc := 150) dX5_leave_150 (by decide) rfl ?_
          refine go_iinc (v := 1) (lw := [_, _, _, _, _, _, _, _]) (pc := 151) dX5_leave_151 rfl (by decide) (by decide) rfl ?_
          refine go_iinc (v := 1) (lw := [_, _, _, _, _, _, _, _]) (pc := 154) dX5_leave_154 rfl (by decide) (by decide) rfl ?_
          refine go_goto (tgt := 58) (pc := 157) dX5_leave_157 (by decide) ?_
          rw [show nI (w1_q + 1 + i_q) + 1 = nI (w1_q + 1 + (i_q + 1)) from nI_1 _]
          first
            | exact ih_q _ _ _ ⟨_, _, _, _, _, _, _, _, rfl, hR_q, hQ_q, hf_q, hr9_q, hg9_q, hs9, h33, hn9, ⟨by omega, hfw.2⟩, (by rw [← hR9, fwd_n hi_q (comes_0 ((sit_m1 (by rw [hs9.P]; exact hP8)).mp h_85))]), rfl⟩
            | exact ih_q _ _ _ ⟨_, _, _, _, _, _, _, _, rfl, hR_q, hQ_q, hf_q, hr9_q, hg9_q, hs9, h33, hn9, ⟨by omega, hfw.2⟩, (by rw [← hR9, fwd_n hi_q (fun hc_q => by rw [comes_1 hp9, Bool.and_eq_true, Bool.not_eq_true', hs9.asl] at hc_q; exact h_97 (bI_0.mpr (by rw [show hasB (K 42) (nI p9_q) = false from hc_q.1]; decide)))]), rfl⟩
            | exact ih_q _ _ _ ⟨_, _, _, _, _, _, _, _, rfl, hR_q, hQ_q, hf_q, hr9_q, hg9_q, hs9, h33, hn9, ⟨by omega, hfw.2⟩, (by rw [← hR9, fwd_n hi_q (fun hc_q => by rw [comes_1 hp9, Bool.and_eq_true, com_s hs9 h33] at hc_q; exact bI_0.mp h_115 hc_q.2)]), rfl⟩
            | (rw [nI_1]
               exact ih_q _ _ _ ⟨mvP K9_q p9_q f9, (w1_q + 1 + i_q), k9 + 1, _, _, _, _, _, rfl, hR_q, hQ_q, hf_q, rS_mv (hs9.okB hB_q) hg9_q hr9_q hp9 hn9 (by rw [hs9.W]; exact hc1) (by rw [hs9.H]; omega) (by rw [hs9.H]; exact hfw.2) (by omega), gS_mv (by rw [hs9.P]; exact hP8) (by rw [hs9.H]; exact hH5) (by rw [hs9.P]; exact hpl.1) hg9_q (by rw [hpl.2.1]; exact hpl.2.2.2) (by rw [hpl.2.2.1]; exact hn9) (by rw [hs9.H]; exact hfw.2), hs9.tr (mvP_P (by omega)), (by rw [show mvP K9_q p9_q f9 33 = K9_q 33 from pk_un (by omega)]; exact h33), mv_free (by rw [hs9.P]; exact hP8) hg9_q.2.1 hp9 hn9 (by omega) (by omega) (by omega), ⟨by omega, by omega⟩, (by rw [← hR9, fwd_y hi_q hcm hp9]), rfl⟩)
  · rintro lv9 σ n9 ⟨K9_q, f9, k9, ch9, co9, rw9, bk9, x7_q, rfl, hR_q, hQ_q, hf_q, hr9_q, hg9_q, hs9, h33, hn9, hfw, hR9, rfl⟩
    refine go_iload (pc := 58) dX5_leave_58 rfl ?_
    refine go_aload_n (pc := 60) dX5_leave_60 rfl ?_
    refine go_getf (pc := 61) f_X5_31 dX5_leave_61 (by first | exact sr0 hR_q | exact be0 hQ_q | exact sr1 hR_q | exact sr2 hR_q | exact sr3 hR_q | exact sr4 hR_q | exact be1 hQ_q | exact be2 hQ_q | exact be3 hQ_q) (by rfl) ?_
    refine go_getf (pc := 64) f_X5_103 dX5_leave_64 (by first | exact sr0 hR_q | exact be0 hQ_q | exact sr1 hR_q | exact sr2 hR_q | exact sr3 hR_q | exact sr4 hR_q | exact be1 hQ_q | exact be2 hQ_q | exact be3 hQ_q) (by rfl) ?_
    refine go_icmp_ge (tgt := 160) (pc := 67) dX5_leave_67 (by decide) (fun h_67 => ?_) (fun h_67 => by exfalso; rw [hB_q.1.2.2.1] at h_67; exact h_67 (nI_le (by omega) (by omega)))
    refine go_iload (pc := 160) dX5_leave_160 rfl ?_
    exact go_iretI (pc := 162) rfl dX5_leave_162 (Nat.le_of_ble_eq_true rfl) (Nat.le_of_ble_eq_true rfl) ⟨(by rw [← hR9, Nat.sub_self]; rfl), rfl, ⟨_, _, _, _, (by rw [← hR9, Nat.sub_self, fwd]; show SrAt Γ ro σ a b w (K9_q 33) _ _ _ _; rw [h33]; exact hR_q), by rw [← hR9, Nat.sub_self, fwd]; exact hr9_q⟩, hf_q⟩
