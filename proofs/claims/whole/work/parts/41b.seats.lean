/-! ===== the class: questions to seats ===== -/
theorem c_ix {c w : Nat} : nI c * 5 + nI w = nI (5 * c + w) := by
  rw [show (5 : Int32) = nI 5 from rfl, pk_mul, nI_add, Nat.mul_comm]
def whoK (K : row) (c w : Int) : Int32 := match chK K c w with
  | some (x, y) => oI (sitK K (nI x) (nI y))
  | none => -1
theorem whoK_at {K : row} {c w : Nat} (hc_q : c < kW K) (hw_q : w < kH K) : whoK K (c : Int) (w : Int) = oI (sitK K (nI c) (nI w)) := by
  rw [whoK, chK, pN_nat hc_q, pN_nat hw_q]
theorem cp_whoOn {Γ : gam} {D : Nat} {ro : Nat → Nat} {z0 : sto} {n k a b : Nat} {w : Int32} {K ag pa pf ch co rw bk : row} {lm lt lw : Value} (hR_q : SrAt Γ ro z0 a b w (K 33) ch co rw bk) (hr : rS K ch co rw bk) (hQ : BrAt Γ D ro z0 b K ag pa pf lm lt lw) (hk : 2 ≤ k) (hB_q : okB K) (c y : Int32) : Sp Γ (rmk k 0 0) uX5_whoOn [.ref a, .int c, .int y] z0 n (qP (whoK K c.toInt y.toInt) z0 n) := by
  have hP8 := hB_q.1.2.1
  have hH5 := hB_q.1.2.2.2.1
  have hW4 := hB_q.1.2.2.2.2.2
  refine sp_intro [some (.ref a), some (.int c), some (.int y)] (by decide +kernel) rfl (Nat.le_of_ble_eq_true rfl) rfl ?_
  cases hch : chK K c.toInt y.toInt with
  | none =>
    refine go_aload_n (pc := 0) dX5_whoOn_0 rfl ?_
    refine go_getf (pc := 1) f_X5_31 dX5_whoOn_1 (by first | exact sr0 hR_q | exact be0 hQ | exact sr1 hR_q | exact sr2 hR_q | exact sr3 hR_q | exact sr4 hR_q | exact be1 hQ | exact be2 hQ | exact be3 hQ) (by rfl) ?_
    refine go_iload_n (pc := 4) dX5_whoOn_4 rfl ?_
    refine go_iload_n (pc := 5) dX5_whoOn_5 rfl ?_
    refine go_V2P (pc := 6) v_X5_47 rfl rfl (rcv_of (ci := 0) (by first | exact sr0 hR_q | exact be0 hQ | exact sr1 hR_q | exact sr2 hR_q | exact sr3 hR_q | exact sr4 hR_q | exact be1 hQ | exact be2 hQ | exact be3 hQ) rfl) dX5_whoOn_6 (cp_isChair (k := k - 1) hQ (by omega) _ _) ?_
    refine go_if_eq (tgt := 25) (pc := 9) dX5_whoOn_9 (by decide) (fun h_9 => ?_) (fun h_9 => by exfalso; exact h_9 (cch_no hB_q.1 hch))
    refine go_iconst (v := -1) (pc := 25) dX5_whoOn_25 (by decide) ?_
    exact go_iretP (pc := 26) rfl dX5_whoOn_26 (Nat.le_of_ble_eq_true rfl) (Nat.le_of_ble_eq_true rfl) (by rw [whoK, hch])
  | some xy =>
    obtain ⟨x1_q, x2_q⟩ := xy
    have g1_q := pN_some (chK_some hch).1
    have g2_q := pN_some (chK_some hch).2
    have hv_q : whoK K c.toInt y.toInt = oI (sitK K (nI x1_q) (nI x2_q)) := by rw [whoK, hch]
    obtain rfl := I_nat g1_q.1 (by omega)
    obtain rfl := I_nat g2_q.1 (by omega)
    refine go_aload_n (pc := 0) dX5_whoOn_0 rfl ?_
    refine go_getf (pc := 1) f_X5_31 dX5_whoOn_1 (by first | exact sr0 hR_q | exact be0 hQ | exact sr1 hR_q | exact sr2 hR_q | exact sr3 hR_q | exact sr4 hR_q | exact be1 hQ | exact be2 hQ | exact be3 hQ) (by rfl) ?_
    refine go_iload_n (pc := 4) dX5_whoOn_4 rfl ?_
    refine go_iload_n (pc := 5) dX5_whoOn_5 rfl ?_
    refine go_V2P (pc := 6) v_X5_47 rfl rfl (rcv_of (ci := 0) (by first | exact sr0 hR_q | exact be0 hQ | exact sr1 hR_q | exact sr2 hR_q | exact sr3 hR_q | exact sr4 hR_q | exact be1 hQ | exact be2 hQ | exact be3 hQ) rfl) dX5_whoOn_6 (cp_isChair (k := k - 1) hQ (by omega) _ _) ?_
    refine go_if_eq (tgt := 25) (pc := 9) dX5_whoOn_9 (by decide) (fun h_9 => by exfalso; rw [cch_yes hB_q.1 hch] at h_9; exact absurd h_9 (by decide)) (fun h_9 => ?_)
    refine go_aload_n (pc := 12) dX5_whoOn_12 rfl ?_
    refine go_getf (pc := 13) f_X5_9 dX5_whoOn_13 (by first | exact sr0 hR_q | exact be0 hQ | exact sr1 hR_q | exact sr2 hR_q | exact sr3 hR_q | exact sr4 hR_q | exact be1 hQ | exact be2 hQ | exact be3 hQ) (by rfl) ?_
    refine go_iload_n (pc := 16) dX5_whoOn_16 rfl ?_
    refine go_iconst (v := 5) (pc := 17) dX5_whoOn_17 (by decide) ?_
    refine go_imul (pc := 18) dX5_whoOn_18 ?_
    refine go_iload_n (pc := 19) dX5_whoOn_19 rfl ?_
    refine go_iadd (pc := 20) dX5_whoOn_20 ?_
    refine go_iald (pc := 21) dX5_whoOn_21 (by first | exact sr0 hR_q | exact be0 hQ | exact sr1 hR_q | exact sr2 hR_q | exact sr3 hR_q | exact sr4 hR_q | exact be1 hQ | exact be2 hQ | exact be3 hQ) (by exact ⟨c_ix, by omega⟩) ?_
    refine go_goto (tgt := 26) (pc := 22) dX5_whoOn_22 (by decide) ?_
    exact go_iretP (pc := 26) rfl dX5_whoOn_26 (Nat.le_of_ble_eq_true rfl) (Nat.le_of_ble_eq_true rfl) (by rw [hv_q, hr.2 x1_q x2_q g1_q.2 g2_q.2])
theorem cp_place {Γ : gam} {D : Nat} {ro : Nat → Nat} {z0 : sto} {n k a b : Nat} {w : Int32} {K ag pa pf ch co rw bk : row} {lm lt lw : Value} (hR_q : SrAt Γ ro z0 a b w (K 33) ch co rw bk) (hr : rS K ch co rw bk) (hQ : BrAt Γ D ro z0 b K ag pa pf lm lt lw) (hB_q : okB K) {p : Nat} (hp_q : p < kP K) : Sp Γ (rmk k 0 0) uX5_place [.ref a, .int (nI p)] z0 n (qP (placeK K p) z0 n) := by
  have hP8 := hB_q.1.2.1
  have hH5 := hB_q.1.2.2.2.1
  have hW4 := hB_q.1.2.2.2.2.2
  refine sp_intro [some (.ref a), some (.int (nI p))] (by decide +kernel) rfl (Nat.le_of_ble_eq_true rfl) rfl ?_
  refine go_aload_n (pc := 0) dX5_place_0 rfl ?_
  refine go_getf (pc := 1) f_X5_18 dX5_place_1 (by first | exact sr0 hR_q | exact be0 hQ | exact sr1 hR_q | exact sr2 hR_q | exact sr3 hR_q | exact sr4 hR_q | exact be1 hQ | exact be2 hQ | exact be3 hQ) (by rfl) ?_
  refine go_iload_n (pc := 4) dX5_place_4 rfl ?_
  refine go_iald (pc := 5) dX5_place_5 (by first | exact sr0 hR_q | exact be0 hQ | exact sr1 hR_q | exact sr2 hR_q | exact sr3 hR_q | exact sr4 hR_q | exact be1 hQ | exact be2 hQ | exact be3 hQ) (by exact ⟨rfl, by omega⟩) ?_
  rw [(hr.1 p hp_q).2.1]
  refine go_iconst (v := -1) (pc := 6) dX5_place_6 (by decide) ?_
  refine go_icmp_ne (tgt := 14) (pc := 7) dX5_place_7 (by decide) (fun h_7 => ?_) (fun h_7 => ?_)
  · refine go_bipush (v := 10) (pc := 14) dX5_place_14 (by decide) ?_
    refine go_aload_n (pc := 16) dX5_place_16 rfl ?_
    refine go_getf (pc := 17) f_X5_15 dX5_place_17 (by first | exact sr0 hR_q | exact be0 hQ | exact sr1 hR_q | exact sr2 hR_q | exact sr3 hR_q | exact sr4 hR_q | exact be1 hQ | exact be2 hQ | exact be3 hQ) (by rfl) ?_
    refine go_iload_n (pc := 20) dX5_place_20 rfl ?_
    refine go_iald (pc := 21) dX5_place_21 (by first | exact sr0 hR_q | exact be0 hQ | exact sr1 hR_q | exact sr2 hR_q | exact sr3 hR_q | exact sr4 hR_q | exact be1 hQ | exact be2 hQ | exact be3 hQ) (by exact ⟨rfl, by omega⟩) ?_
    rw [(hr.1 p hp_q).1]
    refine go_imul (pc := 22) dX5_place_22 ?_
    refine go_aload_n (pc := 23) dX5_place_23 rfl ?_
    refine go_getf (pc := 24) f_X5_18 dX5_place_24 (by first | exact sr0 hR_q | exact be0 hQ | exact sr1 hR_q | exact sr2 hR_q | exact sr3 hR_q | exact sr4 hR_q | exact be1 hQ | exact be2 hQ | exact be3 hQ) (by rfl) ?_
    refine go_iload_n (pc := 27) dX5_place_27 rfl ?_
    refine go_iald (pc := 28) dX5_place_28 (by first | exact sr0 hR_q | exact be0 hQ | exact sr1 hR_q | exact sr2 hR_q | exact sr3 hR_q | exact sr4 hR_q | exact be1 hQ | exact be2 hQ | exact be3 hQ) (by exact ⟨rfl, by omega⟩) ?_
    rw [(hr.1 p hp_q).2.1]
    refine go_iadd (pc := 29) dX5_place_29 ?_
    exact go_iretP (pc := 30) rfl dX5_place_30 (Nat.le_of_ble_eq_true rfl) (Nat.le_of_ble_eq_true rfl) (by first | (rw [placeK, if_neg (fun hc_q => h_7 (upK_iff.mp hc_q))]) | (rw [placeK, if_pos (upK_iff.mpr h_7)]))
  · refine go_iconst (v := -1) (pc := 10) dX5_place_10 (by decide) ?_
    refine go_goto (tgt := 30) (pc := 11) dX5_place_11 (by decide) ?_
    exact go_iretP (pc := 30) rfl dX5_place_30 (Nat.le_of_ble_eq_true rfl) (Nat.le_of_ble_eq_true rfl) (by first | (rw [placeK, if_neg (fun hc_q => h_7 (upK_iff.mp hc_q))]) | (rw [placeK, if_pos (upK_iff.mpr h_7)]))
theorem cp_whyNotLeave {Γ : gam} {D : Nat} {ro : Nat → Nat} {z0 : sto} {n k a b : Nat} {w : Int32} {K ag pa pf ch co rw bk : row} {lm lt lw : Value} (hR_q : SrAt Γ ro z0 a b w (K 33) ch co rw bk) (hr : rS K ch co rw bk) (hQ : BrAt Γ D ro z0 b K ag pa pf lm lt lw) (hk : 2 ≤ k) (hB_q : okB K) (z : Int32) : Sp Γ (rmk k 0 0) uX5_whyNotLeave [.ref a, .int z] z0 n (qP (whyR K z.toInt) z0 n) := by
  have hP8 := hB_q.1.2.1
  have hH5 := hB_q.1.2.2.2.1
  have hW4 := hB_q.1.2.2.2.2.2
  refine sp_intro [some (.ref a), some (.int z)] (by decide +kernel) rfl (Nat.le_of_ble_eq_true rfl) rfl ?_
  cases hz_q : pN (kP K) z.toInt with
  | none =>
    refine go_aload_n (pc := 0) dX5_whyNotLeave_0 rfl ?_
    refine go_getf (pc := 1) f_X5_31 dX5_whyNotLeave_1 (by first | exact sr0 hR_q | exact be0 hQ | exact sr1 hR_q | exact sr2 hR_q | exact sr3 hR_q | exact sr4 hR_q | exact be1 hQ | exact be2 hQ | exact be3 hQ) (by rfl) ?_
    refine go_iload_n (pc := 4) dX5_whyNotLeave_4 rfl ?_
    refine go_V1P (pc := 5) v_X5_53 rfl rfl (rcv_of (ci := 0) (by first | exact sr0 hR_q | exact be0 hQ | exact sr1 hR_q | exact sr2 hR_q | exact sr3 hR_q | exact sr4 hR_q | exact be1 hQ | exact be2 hQ | exact be3 hQ) rfl) dX5_whyNotLeave_5 (cp_isPerson (k := k - 1) hQ _) ?_
    refine go_if_ne (tgt := 13) (pc := 8) dX5_whyNotLeave_8 (by decide) (fun h_8 => by exfalso; exact h_8 (c_no hB_q.1.1 (by omega) hz_q)) (fun h_8 => ?_)
    refine go_iconst (v := 1) (pc := 11) dX5_whyNotLeave_11 (by decide) ?_
    exact go_iretP (pc := 12) rfl dX5_whyNotLeave_12 (Nat.le_of_ble_eq_true rfl) (Nat.le_of_ble_eq_true rfl) (by simp only [whyR, hz_q])
  | some j1_q =>
    have hz1 := pN_some hz_q
    obtain rfl := I_nat hz1.1 (by omega)
    refine go_aload_n (pc := 0) dX5_whyNotLeave_0 rfl ?_
    refine go_getf (pc := 1) f_X5_31 dX5_whyNotLeave_1 (by first | exact sr0 hR_q | exact be0 hQ | exact sr1 hR_q | exact sr2 hR_q | exact sr3 hR_q | exact sr4 hR_q | exact be1 hQ | exact be2 hQ | exact be3 hQ) (by rfl) ?_
    refine go_iload_n (pc := 4) dX5_whyNotLeave_4 rfl ?_
    refine go_V1P (pc := 5) v_X5_53 rfl rfl (rcv_of (ci := 0) (by first | exact sr0 hR_q | exact be0 hQ | exact sr1 hR_q | exact sr2 hR_q | exact sr3 hR_q | exact sr4 hR_q | exact be1 hQ | exact be2 hQ | exact be3 hQ) rfl) dX5_whyNotLeave_5 (cp_isPerson (k := k - 1) hQ _) ?_
    refine go_if_ne (tgt := 13) (pc := 8) dX5_whyNotLeave_8 (by decide) (fun h_8 => ?_) (fun h_8 => by exfalso; rw [c_yes hB_q.1.1 (by omega) hz_q] at h_8; exact absurd h_8 (by decide))
    refine go_aload_n (pc := 13) dX5_whyNotLeave_13 rfl ?_
    refine go_getf (pc := 14) f_X5_18 dX5_whyNotLeave_14 (by first | exact sr0 hR_q | exact be0 hQ | exact sr1 hR_q | exact sr2 hR_q | exact sr3 hR_q | exact sr4 hR_q | exact be1 hQ | exact be2 hQ | exact be3 hQ) (by rfl) ?_
    refine go_iload_n (pc := 17) dX5_whyNotLeave_17 rfl ?_
    refine go_iald (pc := 18) dX5_whyNotLeave_18 (by first | exact sr0 hR_q | exact be0 hQ | exact sr1 hR_q | exact sr2 hR_q | exact sr3 hR_q | exact sr4 hR_q | exact be1 hQ | exact be2 hQ | exact be3 hQ) (by exact ⟨rfl, by omega⟩) ?_
    rw [(hr.1 j1_q hz1.2).2.1]
    refine go_iconst (v := -1) (pc := 19) dX5_whyNotLeave_19 (by decide) ?_
    refine go_icmp_ne (tgt := 25) (pc := 20) dX5_whyNotLeave_20 (by decide) (fun h_20 => ?_) (fun h_20 => ?_)
    · refine go_aload_n (pc := 25) dX5_whyNotLeave_25 rfl ?_
      refine go_getf (pc := 26) f_X5_31 dX5_whyNotLeave_26 (by first | exact sr0 hR_q | exact be0 hQ | exact sr1 hR_q | exact sr2 hR_q | exact sr3 hR_q | exact sr4 hR_q | exact be1 hQ | exact be2 hQ | exact be3 hQ) (by rfl) ?_
      refine go_iload_n (pc := 29) dX5_whyNotLeave_29 rfl ?_
      refine go_V1P (pc := 30) v_X5_57 rfl rfl (rcv_of (ci := 0) (by first | exact sr0 hR_q | exact be0 hQ | exact sr1 hR_q | exact sr2 hR_q | exact sr3 hR_q | exact sr4 hR_q | exact be1 hQ | exact be2 hQ | exact be3 hQ) rfl) dX5_whyNotLeave_30 (cp_isAsleep (k := k - 1) hQ _) ?_
      refine go_if_eq (tgt := 40) (pc := 33) dX5_whyNotLeave_33 (by decide) (fun h_33 => ?_) (fun h_33 => ?_)
      · refine go_iconst (v := 0) (pc := 40) dX5_whyNotLeave_40 (by decide) ?_
        exact go_iretP (pc := 41) rfl dX5_whyNotLeave_41 (Nat.le_of_ble_eq_true rfl) (Nat.le_of_ble_eq_true rfl) (by simp only [whyR, hz_q]; first | (rw [if_pos h_20]) | (rw [if_neg h_20, if_neg (by simpa [aslK] using bI_0.mp h_33)]) | (rw [if_neg h_20, if_pos (by simpa [aslK] using Decidable.not_not.mp (fun hc_q => h_33 (bI_0.mpr hc_q)))]))
      · refine go_iconst (v := 3) (pc := 36) dX5_whyNotLeave_36 (by decide) ?_
        refine go_goto (tgt := 41) (pc := 37) dX5_whyNotLeave_37 (by decide) ?_
        exact go_iretP (pc := 41) rfl dX5_whyNotLeave_41 (Nat.le_of_ble_eq_true rfl) (Nat.le_of_ble_eq_true rfl) (by simp only [whyR, hz_q]; first | (rw [if_pos h_20]) | (rw [if_neg h_20, if_neg (by simpa [aslK] using bI_0.mp h_33)]) | (rw [if_neg h_20, if_pos (by simpa [aslK] using Decidable.not_not.mp (fun hc_q => h_33 (bI_0.mpr hc_q)))]))
    · refine go_iconst (v := 2) (pc := 23) dX5_whyNotLeave_23 (by decide) ?_
      exact go_iretP (pc := 24) rfl dX5_whyNotLeave_24 (Nat.le_of_ble_eq_true rfl) (Nat.le_of_ble_eq_true rfl) (by simp only [whyR, hz_q]; first | (rw [if_pos h_20]) | (rw [if_neg h_20, if_neg (by simpa [aslK] using bI_0.mp h_33)]) | (rw [if_neg h_20, if_pos (by simpa [aslK] using Decidable.not_not.mp (fun hc_q => h_33 (bI_0.mpr hc_q)))]))
theorem lp_hind {Γ : gam} {D : Nat} {ro : Nat → Nat} {z0 : sto} {n k a b : Nat} {w : Int32} {K ag pa pf ch co rw bk : row} {lm lt lw : Value} (hR_q : SrAt Γ ro z0 a b w (K 33) ch co rw bk) (hr : rS K ch co rw bk) (hQ : BrAt Γ D ro z0 b K ag pa pf lm lt lw) (hk : 2 ≤ k) (hB_q : okB K) {c : Nat} (hc_q : c < kW K) {RES : Int32} : ∀ m, m ≤ kH K → oI (lastF K (nI c) m) = RES → Go Γ (rmk k 0 0) uX5_hindmostFree (qP RES z0 n) 0 0 10 [some (.ref a), some (.int (nI c)), some (.int (nI m - 1))] [] z0 n := by
  have hP8 := hB_q.1.2.1
  have hH5 := hB_q.1.2.2.2.1
  have hW4 := hB_q.1.2.2.2.2.2
  intro m
  induction m with
  | zero =>
    intro hm_q he
    refine go_iload_n (pc := 10) dX5_hindmostFree_10 rfl ?_
    refine go_if_lt (tgt := 48) (pc := 11) dX5_hindmostFree_11 (by decide) (fun h_11 => ?_) (fun h_11 => by exfalso; exact h_11 (by decide))
    refine go_iconst (v := -1) (pc := 48) dX5_hindmostFree_48 (by decide) ?_
    exact go_iretP (pc := 49) rfl dX5_hindmostFree_49 (Nat.le_of_ble_eq_true rfl) (Nat.le_of_ble_eq_true rfl) he
  | succ m ih_q =>
    intro hm_q he
    rw [nI_pred]
    refine go_iload_n (pc := 10) dX5_hindmostFree_10 rfl ?_
    refine go_if_lt (tgt := 48) (pc := 11) dX5_hindmostFree_11 (by decide) (fun h_11 => by exfalso; exact absurd h_11 (nI_pos (by omega))) (fun h_11 => ?_)
    refine go_aload_n (pc := 14) dX5_hindmostFree_14 rfl ?_
    refine go_getf (pc := 15) f_X5_31 dX5_hindmostFree_15 (by first | exact sr0 hR_q | exact be0 hQ | exact sr1 hR_q | exact sr2 hR_q | exact sr3 hR_q | exact sr4 hR_q | exact be1 hQ | exact be2 hQ | exact be3 hQ) (by rfl) ?_
    refine go_iload_n (pc := 18) dX5_hindmostFree_18 rfl ?_
    refine go_iload_n (pc := 19) dX5_hindmostFree_19 rfl ?_
    refine go_V2P (pc := 20) v_X5_47 rfl rfl (rcv_of (ci := 0) (by first | exact sr0 hR_q | exact be0 hQ | exact sr1 hR_q | exact sr2 hR_q | exact sr3 hR_q | exact sr4 hR_q | exact be1 hQ | exact be2 hQ | exact be3 hQ) rfl) dX5_hindmostFree_20 (cp_isChair (k := k - 1) hQ (by omega) _ _) ?_
    refine go_if_eq (tgt := 42) (pc := 23) dX5_hindmostFree_23 (by decide) (fun h_23 => by exfalso; rw [c_at hB_q.1 hc_q (show m < kH K by omega)] at h_23; exact absurd h_23 (by decide)) (fun h_23 => ?_)
    refine go_aload_n (pc := 26) dX5_hindmostFree_26 rfl ?_
    refine go_getf (pc := 27) f_X5_9 dX5_hindmostFree_27 (by first | exact sr0 hR_q | exact be0 hQ | exact sr1 hR_q | exact sr2 hR_q | exact sr3 hR_q | exact sr4 hR_q | exact be1 hQ | exact be2 hQ | exact be3 hQ) (by rfl) ?_
    refine go_iload_n (pc := 30) dX5_hindmostFree_30 rfl ?_
    refine go_iconst (v := 5) (pc := 31) dX5_hindmostFree_31 (by decide) ?_
    refine go_imul (pc := 32) dX5_hindmostFree_32 ?_
    refine go_iload_n (pc := 33) dX5_hindmostFree_33 rfl ?_
    refine go_iadd (pc := 34) dX5_hindmostFree_34 ?_
    refine go_iald (pc := 35) dX5_hindmostFree_35 (by first | exact sr0 hR_q | exact be0 hQ | exact sr1 hR_q | exact sr2 hR_q | exact sr3 hR_q | exact sr4 hR_q | exact be1 hQ | exact be2 hQ | exact be3 hQ) (by exact ⟨c_ix, by omega⟩) ?_
    rw [hr.2 c m hc_q (by omega)]
    refine go_iconst (v := -1) (pc := 36) dX5_hindmostFree_36 (by decide) ?_
    refine go_icmp_ne (tgt := 42) (pc := 37) dX5_hindmostFree_37 (by decide) (fun h_37 => ?_) (fun h_37 => ?_)
    · refine go_iinc (v := -1) (lw := [_, _, _]) (pc := 42) dX5_hindmostFree_42 rfl (by decide) (by decide) rfl ?_
      refine go_goto (tgt := 10) (pc := 45) dX5_hindmostFree_45 (by decide) ?_
      rw [show nI m + -1 = nI m - 1 from by rw [Int32.sub_eq_add_neg]]
      exact ih_q (by omega) (by rw [← he, lastF, if_neg (fun hn => h_37 ((sit_m1 hP8).mpr hn))])
    · refine go_iload_n (pc := 40) dX5_hindmostFree_40 rfl ?_
      exact go_iretP (pc := 41) rfl dX5_hindmostFree_41 (Nat.le_of_ble_eq_true rfl) (Nat.le_of_ble_eq_true rfl) (by rw [← he, lastF, if_pos ((sit_m1 hP8).mp h_37)]; rfl)
theorem cp_hindmostFree {Γ : gam} {D : Nat} {ro : Nat → Nat} {z0 : sto} {n k a b : Nat} {w : Int32} {K ag pa pf ch co rw bk : row} {lm lt lw : Value} (hR_q : SrAt Γ ro z0 a b w (K 33) ch co rw bk) (hr : rS K ch co rw bk) (hQ : BrAt Γ D ro z0 b K ag pa pf lm lt lw) (hk : 2 ≤ k) (hB_q : okB K) {c : Nat} (hc_q : c < kW K) : Sp Γ (rmk k 0 0) uX5_hindmostFree [.ref a, .int (nI c)] z0 n (qP (oI (freeK K (nI c))) z0 n) := by
  have hP8 := hB_q.1.2.1
  have hH5 := hB_q.1.2.2.2.1
  have hW4 := hB_q.1.2.2.2.2.2
  refine sp_intro [some (.ref a), some (.int (nI c)), none] (by decide +kernel) rfl (Nat.le_of_ble_eq_true rfl) rfl ?_
  refine go_aload_n (pc := 0) dX5_hindmostFree_0 rfl ?_
  refine go_getf (pc := 1) f_X5_31 dX5_hindmostFree_1 (by first | exact sr0 hR_q | exact be0 hQ | exact sr1 hR_q | exact sr2 hR_q | exact sr3 hR_q | exact sr4 hR_q | exact be1 hQ | exact be2 hQ | exact be3 hQ) (by rfl) ?_
  refine go_getf (pc := 4) f_X5_103 dX5_hindmostFree_4 (by first | exact sr0 hR_q | exact be0 hQ | exact sr1 hR_q | exact sr2 hR_q | exact sr3 hR_q | exact sr4 hR_q | exact be1 hQ | exact be2 hQ | exact be3 hQ) (by rfl) ?_
  refine go_iconst (v := 1) (pc := 7) dX5_hindmostFree_7 (by decide) ?_
  refine go_isub (pc := 8) dX5_hindmostFree_8 ?_
  refine go_istore_n (lw := [_, _, _]) (pc := 9) dX5_hindmostFree_9 (by decide) rfl ?_
  rw [hB_q.1.2.2.1]
  exact lp_hind hR_q hr hQ hk hB_q hc_q (kH K) (Nat.le_refl _) rfl
theorem cp_whyNotTake {Γ : gam} {D : Nat} {ro : Nat → Nat} {z0 : sto} {n k a b : Nat} {w : Int32} {K ag pa pf ch co rw bk : row} {lm lt lw : Value} (hR_q : SrAt Γ ro z0 a b w (K 33) ch co rw bk) (hr : rS K ch co rw bk) (hQ : BrAt Γ D ro z0 b K ag pa pf lm lt lw) (hk : 4 ≤ k) (hB_q : okB K) (z c : Int32) : Sp Γ (rmk k 0 0) uX5_whyNotTake [.ref a, .int z, .int c] z0 n (qP (whyS K z.toInt c.toInt) z0 n) := by
  have hP8 := hB_q.1.2.1
  have hH5 := hB_q.1.2.2.2.1
  have hW4 := hB_q.1.2.2.2.2.2
  refine sp_intro [some (.ref a), some (.int z), some (.int c)] (by decide +kernel) rfl (Nat.le_of_ble_eq_true rfl) rfl ?_
  cases hz_q : pN (kP K) z.toInt with
  | none =>
    refine go_aload_n (pc := 0) dX5_whyNotTake_0 rfl ?_
    refine go_getf (pc := 1) f_X5_31 dX5_whyNotTake_1 (by first | exact sr0 hR_q | exact be0 hQ | exact sr1 hR_q | exact sr2 hR_q | exact sr3 hR_q | exact sr4 hR_q | exact be1 hQ | exact be2 hQ | exact be3 hQ) (by rfl) ?_
    refine go_iload_n (pc := 4) dX5_whyNotTake_4 rfl ?_
    refine go_V1P (pc := 5) v_X5_53 rfl rfl (rcv_of (ci := 0) (by first | exact sr0 hR_q | exact be0 hQ | exact sr1 hR_q | exact sr2 hR_q | exact sr3 hR_q | exact sr4 hR_q | exact be1 hQ | exact be2 hQ | exact be3 hQ) rfl) dX5_whyNotTake_5 (cp_isPerson (k := k - 1) hQ _) ?_
    refine go_if_eq (tgt := 22) (pc := 8) dX5_whyNotTake_8 (by decide) (fun h_8 => ?_) (fun h_8 => by exfalso; exact h_8 (c_no hB_q.1.1 (by omega) hz_q))
    refine go_iconst (v := 1) (pc := 22) dX5_whyNotTake_22 (by decide) ?_
    exact go_iretP (pc := 23) rfl dX5_whyNotTake_23 (Nat.le_of_ble_eq_true rfl) (Nat.le_of_ble_eq_true rfl) (by simp only [whyS, hz_q])
  | some j1_q =>
    have hz1 := pN_some hz_q
    obtain rfl := I_nat hz1.1 (by omega)
    cases hc_q : pN (kW K) c.toInt with
    | none =>
      refine go_aload_n (pc := 0) dX5_whyNotTake_0 rfl ?_
      refine go_getf (pc := 1) f_X5_31 dX5_whyNotTake_1 (by first | exact sr0 hR_q | exact be0 hQ | exact sr1 hR_q | exact sr2 hR_q | exact sr3 hR_q | exact sr4 hR_q | exact be1 hQ | exact be2 hQ | exact be3 hQ) (by rfl) ?_
      refine go_iload_n (pc := 4) dX5_whyNotTake_4 rfl ?_
      refine go_V1P (pc := 5) v_X5_53 rfl rfl (rcv_of (ci := 0) (by first | exact sr0 hR_q | exact be0 hQ | exact sr1 hR_q | exact sr2 hR_q | exact sr3 hR_q | exact sr4 hR_q | exact be1 hQ | exact be2 hQ | exact be3 hQ) rfl) dX5_whyNotTake_5 (cp_isPerson (k := k - 1) hQ _) ?_
      refine go_if_eq (tgt := 22) (pc := 8) dX5_whyNotTake_8 (by decide) (fun h_8 => by exfalso; rw [c_yes hB_q.1.1 (by omega) hz_q] at h_8; exact absurd h_8 (by decide)) (fun h_8 => ?_)
      refine go_aload_n (pc := 11) dX5_whyNotTake_11 rfl ?_
      refine go_getf (pc := 12) f_X5_31 dX5_whyNotTake_12 (by first | exact sr0 hR_q | exact be0 hQ | exact sr1 hR_q | exact sr2 hR_q | exact sr3 hR_q | exact sr4 hR_q | exact be1 hQ | exact be2 hQ | exact be3 hQ) (by rfl) ?_
      refine go_iload_n (pc := 15) dX5_whyNotTake_15 rfl ?_
      refine go_V1P (pc := 16) v_X5_60 rfl rfl (rcv_of (ci := 0) (by first | exact sr0 hR_q | exact be0 hQ | exact sr1 hR_q | exact sr2 hR_q | exact sr3 hR_q | exact sr4 hR_q | exact be1 hQ | exact be2 hQ | exact be3 hQ) rfl) dX5_whyNotTake_16 (cp_isColumn (k := k - 1) hQ _) ?_
      refine go_if_ne (tgt := 24) (pc := 19) dX5_whyNotTake_19 (by decide) (fun h_19 => by exfalso; exact h_19 (c_no hB_q.1.2.2.2.2.1 (by omega) hc_q)) (fun h_19 => ?_)
      refine go_iconst (v := 1) (pc := 22) dX5_whyNotTake_22 (by decide) ?_
      exact go_iretP (pc := 23) rfl dX5_whyNotTake_23 (Nat.le_of_ble_eq_true rfl) (Nat.le_of_ble_eq_true rfl) (by simp only [whyS, hz_q, hc_q])
    | some d1 =>
      have hc1 := pN_some hc_q
      obtain rfl := I_nat hc1.1 (by omega)
      refine go_aload_n (pc := 0) dX5_whyNotTake_0 rfl ?_
      refine go_getf (pc := 1) f_X5_31 dX5_whyNotTake_1 (by first | exact sr0 hR_q | exact be0 hQ | exact sr1 hR_q | exact sr2 hR_q | exact sr3 hR_q | exact sr4 hR_q | exact be1 hQ | exact be2 hQ | exact be3 hQ) (by rfl) ?_
      refine go_iload_n (pc := 4) dX5_whyNotTake_4 rfl ?_
      refine go_V1P (pc := 5) v_X5_53 rfl rfl (rcv_of (ci := 0) (by first | exact sr0 hR_q | exact be0 hQ | exact sr1 hR_q | exact sr2 hR_q | exact sr3 hR_q | exact sr4 hR_q | exact be1 hQ | exact be2 hQ | exact be3 hQ) rfl) dX5_whyNotTake_5 (cp_isPerson (k := k - 1) hQ _) ?_
      refine go_if_eq (tgt := 22) (pc := 8) dX5_whyNotTake_8 (by decide) (fun h_8 => by exfalso; rw [c_yes hB_q.1.1 (by omega) hz_q] at h_8; exact absurd h_8 (by decide)) (fun h_8 => ?_)
      refine go_aload_n (pc := 11) dX5_whyNotTake_11 rfl ?_
      refine go_getf (pc := 12) f_X5_31 dX5_whyNotTake_12 (by first | exact sr0 hR_q | exact be0 hQ | exact sr1 hR_q | exact sr2 hR_q | exact sr3 hR_q | exact sr4 hR_q | exact be1 hQ | exact be2 hQ | exact be3 hQ) (by rfl) ?_
      refine go_iload_n (pc := 15) dX5_whyNotTake_15 rfl ?_
      refine go_V1P (pc := 16) v_X5_60 rfl rfl (rcv_of (ci := 0) (by first | exact sr0 hR_q | exact be0 hQ | exact sr1 hR_q | exact sr2 hR_q | exact sr3 hR_q | exact sr4 hR_q | exact be1 hQ | exact be2 hQ | exact be3 hQ) rfl) dX5_whyNotTake_16 (cp_isColumn (k := k - 1) hQ _) ?_
      refine go_if_ne (tgt := 24) (pc := 19) dX5_whyNotTake_19 (by decide) (fun h_19 => ?_) (fun h_19 => by exfalso; rw [c_yes hB_q.1.2.2.2.2.1 (by omega) hc_q] at h_19; exact absurd h_19 (by decide))
      refine go_aload_n (pc := 24) dX5_whyNotTake_24 rfl ?_
      refine go_getf (pc := 25) f_X5_18 dX5_whyNotTake_25 (by first | exact sr0 hR_q | exact be0 hQ | exact sr1 hR_q | exact sr2 hR_q | exact sr3 hR_q | exact sr4 hR_q | exact be1 hQ | exact be2 hQ | exact be3 hQ) (by rfl) ?_
      refine go_iload_n (pc := 28) dX5_whyNotTake_28 rfl ?_
      refine go_iald (pc := 29) dX5_whyNotTake_29 (by first | exact sr0 hR_q | exact be0 hQ | exact sr1 hR_q | exact sr2 hR_q | exact sr3 hR_q | exact sr4 hR_q | exact be1 hQ | exact be2 hQ | exact be3 hQ) (by exact ⟨rfl, by omega⟩) ?_
      rw [(hr.1 j1_q hz1.2).2.1]
      refine go_iconst (v := -1) (pc := 30) dX5_whyNotTake_30 (by decide) ?_
      refine go_icmp_eq (tgt := 36) (pc := 31) dX5_whyNotTake_31 (by decide) (fun h_31 => ?_) (fun h_31 => ?_)
      · refine go_aload_n (pc := 36) dX5_whyNotTake_36 rfl ?_
        refine go_iload_n (pc := 37) dX5_whyNotTake_37 rfl ?_
        refine go_V1P (pc := 38) v_X5_63 rfl rfl (rcv_of (ci := 5) (by first | exact sr0 hR_q | exact be0 hQ | exact sr1 hR_q | exact sr2 hR_q | exact sr3 hR_q | exact sr4 hR_q | exact be1 hQ | exact be2 hQ | exact be3 hQ) rfl) dX5_whyNotTake_38 (cp_hindmostFree (k := k - 1) hR_q hr hQ (by omega) hB_q (by omega)) ?_
        refine go_iconst (v := -1) (pc := 41) dX5_whyNotTake_41 (by decide) ?_
        refine go_icmp_ne (tgt := 49) (pc := 42) dX5_whyNotTake_42 (by decide) (fun h_42 => ?_) (fun h_42 => ?_)
        · refine go_iconst (v := 0) (pc := 49) dX5_whyNotTake_49 (by decide) ?_
          exact go_iretP (pc := 50) rfl dX5_whyNotTake_50 (Nat.le_of_ble_eq_true rfl) (Nat.le_of_ble_eq_true rfl) (by simp only [whyS, hz_q, hc_q]; first | (rw [if_neg h_31]) | (rw [if_pos h_31, if_pos ((freeK_none hH5).mp h_42)]) | (rw [if_pos h_31, if_neg (fun hn => h_42 ((freeK_none hH5).mpr hn))]))
        · refine go_iconst (v := 3) (pc := 45) dX5_whyNotTake_45 (by decide) ?_
          refine go_goto (tgt := 50) (pc := 46) dX5_whyNotTake_46 (by decide) ?_
          exact go_iretP (pc := 50) rfl dX5_whyNotTake_50 (Nat.le_of_ble_eq_true rfl) (Nat.le_of_ble_eq_true rfl) (by simp only [whyS, hz_q, hc_q]; first | (rw [if_neg h_31]) | (rw [if_pos h_31, if_pos ((freeK_none hH5).mp h_42)]) | (rw [if_pos h_31, if_neg (fun hn => h_42 ((freeK_none hH5).mpr hn))]))
      · refine go_iconst (v := 2) (pc := 34) dX5_whyNotTake_34 (by decide) ?_
        exact go_iretP (pc := 35) rfl dX5_whyNotTake_35 (Nat.le_of_ble_eq_true rfl) (Nat.le_of_ble_eq_true rfl) (by simp only [whyS, hz_q, hc_q]; first | (rw [if_neg h_31]) | (rw [if_pos h_31, if_pos ((freeK_none hH5).mp h_42)]) | (rw [if_pos h_31, if_neg (fun hn => h_42 ((freeK_none hH5).mpr hn))]))
theorem cp_whyNotExchange {Γ : gam} {D : Nat} {ro : Nat → Nat} {z0 : sto} {n k a b : Nat} {w : Int32} {K ag pa pf ch co rw bk : row} {lm lt lw : Value} (hR_q : SrAt Γ ro z0 a b w (K 33) ch co rw bk) (hr : rS K ch co rw bk) (hQ : BrAt Γ D ro z0 b K ag pa pf lm lt lw) (hk : 2 ≤ k) (hB_q : okB K) (z c : Int32) : Sp Γ (rmk k 0 0) uX5_whyNotExchange [.ref a, .int z, .int c] z0 n (qP (whyX K z.toInt c.toInt) z0 n) := by
  have hP8 := hB_q.1.2.1
  have hH5 := hB_q.1.2.2.2.1
  have hW4 := hB_q.1.2.2.2.2.2
  refine sp_intro [some (.ref a), some (.int z), some (.int c)] (by decide +kernel) rfl (Nat.le_of_ble_eq_true rfl) rfl ?_
  cases hz_q : pN (kP K) z.toInt with
  | none =>
    refine go_aload_n (pc := 0) dX5_whyNotExchange_0 rfl ?_
    refine go_getf (pc := 1) f_X5_31 dX5_whyNotExchange_1 (by first | exact sr0 hR_q | exact be0 hQ | exact sr1 hR_q | exact sr2 hR_q | exact sr3 hR_q | exact sr4 hR_q | exact be1 hQ | exact be2 hQ | exact be3 hQ) (by rfl) ?_
    refine go_iload_n (pc := 4) dX5_whyNotExchange_4 rfl ?_
    refine go_V1P (pc := 5) v_X5_53 rfl rfl (rcv_of (ci := 0) (by first | exact sr0 hR_q | exact be0 hQ | exact sr1 hR_q | exact sr2 hR_q | exact sr3 hR_q | exact sr4 hR_q | exact be1 hQ | exact be2 hQ | exact be3 hQ) rfl) dX5_whyNotExchange_5 (cp_isPerson (k := k - 1) hQ _) ?_
    refine go_if_eq (tgt := 27) (pc := 8) dX5_whyNotExchange_8 (by decide) (fun h_8 => ?_) (fun h_8 => by exfalso; exact h_8 (c_no hB_q.1.1 (by omega) hz_q))
    refine go_iconst (v := 1) (pc := 27) dX5_whyNotExchange_27 (by decide) ?_
    exact go_iretP (pc := 28) rfl dX5_whyNotExchange_28 (Nat.le_of_ble_eq_true rfl) (Nat.le_of_ble_eq_true rfl) (by simp only [whyX, hz_q])
  | some j1_q =>
    have hz1 := pN_some hz_q
    obtain rfl := I_nat hz1.1 (by omega)
    cases hc_q : pN (kP K) c.toInt with
    | none =>
      refine go_aload_n (pc := 0) dX5_whyNotExchange_0 rfl ?_
      refine go_getf (pc := 1) f_X5_31 dX5_whyNotExchange_1 (by first | exact sr0 hR_q | exact be0 hQ | exact sr1 hR_q | exact sr2 hR_q | exact sr3 hR_q | exact sr4 hR_q | exact be1 hQ | exact be2 hQ | exact be3 hQ) (by rfl) ?_
      refine go_iload_n (pc := 4) dX5_whyNotExchange_4 rfl ?_
      refine go_V1P (pc := 5) v_X5_53 rfl rfl (rcv_of (ci := 0) (by first | exact sr0 hR_q | exact be0 hQ | exact sr1 hR_q | exact sr2 hR_q | exact sr3 hR_q | exact sr4 hR_q | exact be1 hQ | exact be2 hQ | exact be3 hQ) rfl) dX5_whyNotExchange_5 (cp_isPerson (k := k - 1) hQ _) ?_
      refine go_if_eq (tgt := 27) (pc := 8) dX5_whyNotExchange_8 (by decide) (fun h_8 => by exfalso; rw [c_yes hB_q.1.1 (by omega) hz_q] at h_8; exact absurd h_8 (by decide)) (fun h_8 => ?_)
      refine go_aload_n (pc := 11) dX5_whyNotExchange_11 rfl ?_
      refine go_getf (pc := 12) f_X5_31 dX5_whyNotExchange_12 (by first | exact sr0 hR_q | exact be0 hQ | exact sr1 hR_q | exact sr2 hR_q | exact sr3 hR_q | exact sr4 hR_q | exact be1 hQ | exact be2 hQ | exact be3 hQ) (by rfl) ?_
      refine go_iload_n (pc := 15) dX5_whyNotExchange_15 rfl ?_
      refine go_V1P (pc := 16) v_X5_53 rfl rfl (rcv_of (ci := 0) (by first | exact sr0 hR_q | exact be0 hQ | exact sr1 hR_q | exact sr2 hR_q | exact sr3 hR_q | exact sr4 hR_q | exact be1 hQ | exact be2 hQ | exact be3 hQ) rfl) dX5_whyNotExchange_16 (cp_isPerson (k := k - 1) hQ _) ?_
      refine go_if_eq (tgt := 27) (pc := 19) dX5_whyNotExchange_19 (by decide) (fun h_19 => ?_) (fun h_19 => by exfalso; exact h_19 (c_no hB_q.1.1 (by omega) hc_q))
      refine go_iconst (v := 1) (pc := 27) dX5_whyNotExchange_27 (by decide) ?_
      exact go_iretP (pc := 28) rfl dX5_whyNotExchange_28 (Nat.le_of_ble_eq_true rfl) (Nat.le_of_ble_eq_true rfl) (by simp only [whyX, hz_q, hc_q])
    | some d1 =>
      have hc1 := pN_some hc_q
      obtain rfl := I_nat hc1.1 (by omega)
      refine go_aload_n (pc := 0) dX5_whyNotExchange_0 rfl ?_
      refine go_getf (pc := 1) f_X5_31 dX5_whyNotExchange_1 (by first | exact sr0 hR_q | exact be0 hQ | exact sr1 hR_q | exact sr2 hR_q | exact sr3 hR_q | exact sr4 hR_q | exact be1 hQ | exact be2 hQ | exact be3 hQ) (by rfl) ?_
      refine go_iload_n (pc := 4) dX5_whyNotExchange_4 rfl ?_
      refine go_V1P (pc := 5) v_X5_53 rfl rfl (rcv_of (ci := 0) (by first | exact sr0 hR_q | exact be0 hQ | exact sr1 hR_q | exact sr2 hR_q | exact sr3 hR_q | exact sr4 hR_q | exact be1 hQ | exact be2 hQ | exact be3 hQ) rfl) dX5_whyNotExchange_5 (cp_isPerson (k := k - 1) hQ _) ?_
      refine go_if_eq (tgt := 27) (pc := 8) dX5_whyNotExchange_8 (by decide) (fun h_8 => by exfalso; rw [c_yes hB_q.1.1 (by omega) hz_q] at h_8; exact absurd h_8 (by decide)) (fun h_8 => ?_)
      refine go_aload_n (pc := 11) dX5_whyNotExchange_11 rfl ?_
      refine go_getf (pc := 12) f_X5_31 dX5_whyNotExchange_12 (by first | exact sr0 hR_q | exact be0 hQ | exact sr1 hR_q | exact sr2 hR_q | exact sr3 hR_q | exact sr4 hR_q | exact be1 hQ | exact be2 hQ | exact be3 hQ) (by rfl) ?_
      refine go_iload_n (pc := 15) dX5_whyNotExchange_15 rfl ?_
      refine go_V1P (pc := 16) v_X5_53 rfl rfl (rcv_of (ci := 0) (by first | exact sr0 hR_q | exact be0 hQ | exact sr1 hR_q | exact sr2 hR_q | exact sr3 hR_q | exact sr4 hR_q | exact be1 hQ | exact be2 hQ | exact be3 hQ) rfl) dX5_whyNotExchange_16 (cp_isPerson (k := k - 1) hQ _) ?_
      refine go_if_eq (tgt := 27) (pc := 19) dX5_whyNotExchange_19 (by decide) (fun h_19 => by exfalso; rw [c_yes hB_q.1.1 (by omega) hc_q] at h_19; exact absurd h_19 (by decide)) (fun h_19 => ?_)
      refine go_iload_n (pc := 22) dX5_whyNotExchange_22 rfl ?_
      refine go_iload_n (pc := 23) dX5_whyNotExchange_23 rfl ?_
      refine go_icmp_ne (tgt := 29) (pc := 24) dX5_whyNotExchange_24 (by decide) (fun h_24 => ?_) (fun h_24 => ?_)
      · refine go_aload_n (pc := 29) dX5_whyNotExchange_29 rfl ?_
        refine go_getf (pc := 30) f_X5_18 dX5_whyNotExchange_30 (by first | exact sr0 hR_q | exact be0 hQ | exact sr1 hR_q | exact sr2 hR_q | exact sr3 hR_q | exact sr4 hR_q | exact be1 hQ | exact be2 hQ | exact be3 hQ) (by rfl) ?_
        refine go_iload_n (pc := 33) dX5_whyNotExchange_33 rfl ?_
        refine go_iald (pc := 34) dX5_whyNotExchange_34 (by first | exact sr0 hR_q | exact be0 hQ | exact sr1 hR_q | exact sr2 hR_q | exact sr3 hR_q | exact sr4 hR_q | exact be1 hQ | exact be2 hQ | exact be3 hQ) (by exact ⟨rfl, by omega⟩) ?_
        rw [(hr.1 j1_q hz1.2).2.1]
        refine go_iconst (v := -1) (pc := 35) dX5_whyNotExchange_35 (by decide) ?_
        refine go_icmp_eq (tgt := 49) (pc := 36) dX5_whyNotExchange_36 (by decide) (fun h_36 => ?_) (fun h_36 => ?_)
        · refine go_iconst (v := 2) (pc := 49) dX5_whyNotExchange_49 (by decide) ?_
          refine go_goto (tgt := 54) (pc := 50) dX5_whyNotExchange_50 (by decide) ?_
          exact go_iretP (pc := 54) rfl dX5_whyNotExchange_54 (Nat.le_of_ble_eq_true rfl) (Nat.le_of_ble_eq_true rfl) (by simp only [whyX, hz_q, hc_q]; first | (rw [if_pos ((nI_eq (by omega) (by omega)).mp h_24)]) | (rw [if_neg (fun e_q => h_24 (by rw [e_q])), if_pos (Or.inl h_36)]) | (rw [if_neg (fun e_q => h_24 (by rw [e_q])), if_pos (Or.inr h_46)]) | (rw [if_neg (fun e_q => h_24 (by rw [e_q])), if_neg (fun e_q => e_q.elim h_36 h_46)]))
        · refine go_aload_n (pc := 39) dX5_whyNotExchange_39 rfl ?_
          refine go_getf (pc := 40) f_X5_18 dX5_whyNotExchange_40 (by first | exact sr0 hR_q | exact be0 hQ | exact sr1 hR_q | exact sr2 hR_q | exact sr3 hR_q | exact sr4 hR_q | exact be1 hQ | exact be2 hQ | exact be3 hQ) (by rfl) ?_
          refine go_iload_n (pc := 43) dX5_whyNotExchange_43 rfl ?_
          refine go_iald (pc := 44) dX5_whyNotExchange_44 (by first | exact sr0 hR_q | exact be0 hQ | exact sr1 hR_q | exact sr2 hR_q | exact sr3 hR_q | exact sr4 hR_q | exact be1 hQ | exact be2 hQ | exact be3 hQ) (by exact ⟨rfl, by omega⟩) ?_
          rw [(hr.1 d1 hc1.2).2.1]
          refine go_iconst (v := -1) (pc := 45) dX5_whyNotExchange_45 (by decide) ?_
          refine go_icmp_ne (tgt := 53) (pc := 46) dX5_whyNotExchange_46 (by decide) (fun h_46 => ?_) (fun h_46 => ?_)
          · refine go_iconst (v := 0) (pc := 53) dX5_whyNotExchange_53 (by decide) ?_
            exact go_iretP (pc := 54) rfl dX5_whyNotExchange_54 (Nat.le_of_ble_eq_true rfl) (Nat.le_of_ble_eq_true rfl) (by simp only [whyX, hz_q, hc_q]; first | (rw [if_pos ((nI_eq (by omega) (by omega)).mp h_24)]) | (rw [if_neg (fun e_q => h_24 (by rw [e_q])), if_pos (Or.inl h_36)]) | (rw [if_neg (fun e_q => h_24 (by rw [e_q])), if_pos (Or.inr h_46)]) | (rw [if_neg (fun e_q => h_24 (by rw [e_q])), if_neg (fun e_q => e_q.elim h_36 h_46)]))
          · refine go_iconst (v := 2) (pc := 49) dX5_whyNotExchange_49 (by decide) ?_
            refine go_goto (tgt := 54) (pc := 50) dX5_whyNotExchange_50 (by decide) ?_
            exact go_iretP (pc := 54) rfl dX5_whyNotExchange_54 (Nat.le_of_ble_eq_true rfl) (Nat.le_of_ble_eq_true rfl) (by simp only [whyX, hz_q, hc_q]; first | (rw [if_pos ((nI_eq (by omega) (by omega)).mp h_24)]) | (rw [if_neg (fun e_q => h_24 (by rw [e_q])), if_pos (Or.inl h_36)]) | (rw [if_neg (fun e_q => h_24 (by rw [e_q])), if_pos (Or.inr h_46)]) | (rw [if_neg (fun e_q => h_24 (by rw [e_q])), if_neg (fun e_q => e_q.elim h_36 h_46)]))
      · refine go_iconst (v := 1) (pc := 27) dX5_whyNotExchange_27 (by decide) ?_
        exact go_iretP (pc := 28) rfl dX5_whyNotExchange_28 (Nat.le_of_ble_eq_true rfl) (Nat.le_of_ble_eq_true rfl) (by simp only [whyX, hz_q, hc_q]; first | (rw [if_pos ((nI_eq (by omega) (by omega)).mp h_24)]) | (rw [if_neg (fun e_q => h_24 (by rw [e_q])), if_pos (Or.inl h_36)]) | (rw [if_neg (fun e_q => h_24 (by rw [e_q])), if_pos (Or.inr h_46)]) | (rw [if_neg (fun e_q => h_24 (by rw [e_q])), if_neg (fun e_q => e_q.elim h_36 h_46)]))
theorem t_d : ∀ m : Fin 300, (nI m.val / 10 - nI m.val / 10 / 10 * 10 = nI (m.val / 10 % 10)) ∧ (nI m.val - nI m.val / 10 * 10 = nI (m.val % 10)) := by decide +kernel
theorem told_n {v : Int64} (h0_q : ¬ v < 0) (h1_q : ¬ 299 < v) : ∃ m : Nat, m < 300 ∧ v.toInt = (m : Int) ∧ v.toInt32 = nI m := by
  have a1_q := Int64.le_iff_toInt_le.mp (Int64.not_lt.mp h0_q)
  have a2 := Int64.le_iff_toInt_le.mp (Int64.not_lt.mp h1_q)
  have e0 : (0 : Int64).toInt = 0 := by decide
  have e1_q : (299 : Int64).toInt = 299 := by decide
  refine ⟨v.toInt.toNat, by omega, by omega, ?_⟩
  have h_q : v = (nI v.toInt.toNat).toInt64 := L_nat (by omega) (by omega)
  conv => lhs; rw [h_q]
  exact nI_LI (by omega)
theorem cp_whyNotTold {Γ : gam} {D : Nat} {ro : Nat → Nat} {z0 : sto} {n k a b : Nat} {w : Int32} {K ag pa pf ch co rw bk : row} {lm lt lw : Value} (hR_q : SrAt Γ ro z0 a b w (K 33) ch co rw bk) (hr : rS K ch co rw bk) (hQ : BrAt Γ D ro z0 b K ag pa pf lm lt lw) (hk : 5 ≤ k) (hB_q : okB K) (v : Int64) : Sp Γ (rmk k 0 0) uX5_whyNotTold [.ref a, .long v] z0 n (qP (whyT K v.toInt) z0 n) := by
  have hP8 := hB_q.1.2.1
  have hH5 := hB_q.1.2.2.2.1
  have hW4 := hB_q.1.2.2.2.2.2
  refine sp_intro [some (.ref a), some (.long v), none, none, none] (by decide +kernel) rfl (Nat.le_of_ble_eq_true rfl) rfl ?_
  refine go_lload_n (pc := 0) dX5_whyNotTold_0 rfl ?_
  refine go_ldc2 (pc := 1) kw4_179 dX5_whyNotTold_1 ?_
  refine go_lcmp (pc := 4) dX5_whyNotTold_4 ?_
  refine go_if_ne (tgt := 10) (pc := 5) dX5_whyNotTold_5 (by decide) (fun h_5 => ?_) (fun h_5 => ?_)
  · refine go_lload_n (pc := 10) dX5_whyNotTold_10 rfl ?_
    refine go_lconst (v := 0) (pc := 11) dX5_whyNotTold_11 rfl ?_
    refine go_lcmp (pc := 12) dX5_whyNotTold_12 ?_
    refine go_if_lt (tgt := 40) (pc := 13) dX5_whyNotTold_13 (by decide) (fun h_13 => ?_) (fun h_13 => ?_)
    · refine go_iconst (v := 1) (pc := 40) dX5_whyNotTold_40 (by decide) ?_
      exact go_iretP (pc := 41) rfl dX5_whyNotTold_41 (Nat.le_of_ble_eq_true rfl) (Nat.le_of_ble_eq_true rfl) (by
  have n1 : ¬ v.toInt = -1 := fun hc_q => h_5 ((lg_cmp_eq _ _).mpr (Int64.toInt_inj.mp (by rw [hc_q]; decide)))
  have e0 : (0 : Int64).toInt = 0 := by decide
  have e1_q : (299 : Int64).toInt = 299 := by decide
  have e2_q : (10 : Int64).toInt = 10 := by decide
  have e3_q : (100 : Int64).toInt = 100 := by decide
  have key : v.toInt < 0 ∨ 299 < v.toInt ∨ (10 ≤ v.toInt ∧ v.toInt < 100) := by
    first
      | (have g1_q := Int64.lt_iff_toInt_lt.mp ((lg_cmp_lt _ _).mp h_13); omega)
      | (have g1_q := Int64.lt_iff_toInt_lt.mp ((lg_cmp_gt _ _).mp h_21); omega)
      | (have g1_q := Int64.le_iff_toInt_le.mp ((lg_cmp_ge _ _).mp (Int32.not_lt.mp h_29)); have g2_q := Int64.lt_iff_toInt_lt.mp (Int64.not_le.mp (fun hc_q => h_37 ((lg_cmp_ge _ _).mpr hc_q))); omega)
  rw [whyT, if_neg n1, if_neg (by omega), if_neg (by omega), if_neg (by omega)])
    · refine go_lload_n (pc := 16) dX5_whyNotTold_16 rfl ?_
      refine go_ldc2 (pc := 17) kw4_180 dX5_whyNotTold_17 ?_
      refine go_lcmp (pc := 20) dX5_whyNotTold_20 ?_
      refine go_if_gt (tgt := 40) (pc := 21) dX5_whyNotTold_21 (by decide) (fun h_21 => ?_) (fun h_21 => ?_)
      · refine go_iconst (v := 1) (pc := 40) dX5_whyNotTold_40 (by decide) ?_
        exact go_iretP (pc := 41) rfl dX5_whyNotTold_41 (Nat.le_of_ble_eq_true rfl) (Nat.le_of_ble_eq_true rfl) (by
  have n1 : ¬ v.toInt = -1 := fun hc_q => h_5 ((lg_cmp_eq _ _).mpr (Int64.toInt_inj.mp (by rw [hc_q]; decide)))
  have e0 : (0 : Int64).toInt = 0 := by decide
  have e1_q : (299 : Int64).toInt = 299 := by decide
  have e2_q : (10 : Int64).toInt = 10 := by decide
  have e3_q : (100 : Int64).toInt = 100 := by decide
  have key : v.toInt < 0 ∨ 299 < v.toInt ∨ (10 ≤ v.toInt ∧ v.toInt < 100) := by
    first
      | (have g1_q := Int64.lt_iff_toInt_lt.mp ((lg_cmp_lt _ _).mp h_13); omega)
      | (have g1_q := Int64.lt_iff_toInt_lt.mp ((lg_cmp_gt _ _).mp h_21); omega)
      | (have g1_q := Int64.le_iff_toInt_le.mp ((lg_cmp_ge _ _).mp (Int32.not_lt.mp h_29)); have g2_q := Int64.lt_iff_toInt_lt.mp (Int64.not_le.mp (fun hc_q => h_37 ((lg_cmp_ge _ _).mpr hc_q))); omega)
  rw [whyT, if_neg n1, if_neg (by omega), if_neg (by omega), if_neg (by omega)])
      · refine go_lload_n (pc := 24) dX5_whyNotTold_24 rfl ?_
        refine go_ldc2 (pc := 25) kw4_181 dX5_whyNotTold_25 ?_
        refine go_lcmp (pc := 28) dX5_whyNotTold_28 ?_
        refine go_if_lt (tgt := 42) (pc := 29) dX5_whyNotTold_29 (by decide) (fun h_29 => ?_) (fun h_29 => ?_)
        · have n1 : ¬ v.toInt = -1 := fun hc_q => h_5 ((lg_cmp_eq _ _).mpr (Int64.toInt_inj.mp (by rw [hc_q]; decide)))
          obtain ⟨m9_q, hm9, em9, ei9⟩ := told_n (v := v) (fun hc_q => h_13 ((lg_cmp_lt _ _).mpr hc_q)) (fun hc_q => h_21 ((lg_cmp_gt _ _).mpr hc_q))
          have e2_q : (10 : Int64).toInt = 10 := by decide
          have e3_q : (100 : Int64).toInt = 100 := by decide
          have key : m9_q < 10 ∨ 100 ≤ m9_q := by
            first
              | (have g1_q := Int64.lt_iff_toInt_lt.mp ((lg_cmp_lt _ _).mp h_29); omega)
              | (have g1_q := Int64.le_iff_toInt_le.mp ((lg_cmp_ge _ _).mp h_37); omega)
          have td := t_d ⟨m9_q, hm9⟩
          simp only at td
          refine go_lload_n (pc := 42) dX5_whyNotTold_42 rfl ?_
          refine go_l2i (pc := 43) dX5_whyNotTold_43 ?_
          rw [ei9]
          refine go_istore_n (lw := [_, _, _, _, _]) (pc := 44) dX5_whyNotTold_44 (by decide) rfl ?_
          refine go_iload_n (pc := 45) dX5_whyNotTold_45 rfl ?_
          refine go_bipush (v := 100) (pc := 46) dX5_whyNotTold_46 (by decide) ?_
          refine go_icmp_ge (tgt := 57) (pc := 48) dX5_whyNotTold_48 (by decide) (fun h_48 => ?_) (fun h_48 => ?_)
          · have g48 : 100 ≤ m9_q := Nat.le_of_not_lt (fun hc_q => absurd h_48 (nI_ge (b := 100) hc_q (by decide)))
            refine go_iload_n (pc := 57) dX5_whyNotTold_57 rfl ?_
            refine go_bipush (v := 10) (pc := 58) dX5_whyNotTold_58 (by decide) ?_
            refine go_idiv (pc := 60) dX5_whyNotTold_60 (by decide) ?_
            refine go_bipush (v := 10) (pc := 61) dX5_whyNotTold_61 (by decide) ?_
            refine go_irem (pc := 63) dX5_whyNotTold_63 (by decide) ?_
            rw [td.1]
            refine go_istore (lw := [_, _, _, _, _]) (pc := 64) dX5_whyNotTold_64 (by decide) rfl ?_
            refine go_iload_n (pc := 66) dX5_whyNotTold_66 rfl ?_
            refine go_sipush (v := 200) (pc := 67) dX5_whyNotTold_67 (by decide) ?_
            refine go_icmp_ge (tgt := 86) (pc := 70) dX5_whyNotTold_70 (by decide) (fun h_70 => ?_) (fun h_70 => ?_)
            · refine go_aload_n (pc := 86) dX5_whyNotTold_86 rfl ?_
              refine go_iload (pc := 87) dX5_whyNotTold_87 rfl ?_
              refine go_iload_n (pc := 89) dX5_whyNotTold_89 rfl ?_
              refine go_bipush (v := 10) (pc := 90) dX5_whyNotTold_90 (by decide) ?_
              refine go_irem (pc := 92) dX5_whyNotTold_92 (by decide) ?_
              rw [td.2]
              refine go_V2P (pc := 93) v_X5_82 rfl rfl (rcv_of (ci := 5) (by first | exact sr0 hR_q | exact be0 hQ | exact sr1 hR_q | exact sr2 hR_q | exact sr3 hR_q | exact sr4 hR_q | exact be1 hQ | exact be2 hQ | exact be3 hQ) rfl) dX5_whyNotTold_93 (cp_whyNotExchange (k := k - 1) hR_q hr hQ (by omega) hB_q _ _) ?_
              exact go_iretP (pc := 96) rfl dX5_whyNotTold_96 (Nat.le_of_ble_eq_true rfl) (Nat.le_of_ble_eq_true rfl) (by first | (have g := Nat.lt_of_not_le (fun hc_q => h_70 (nI_le (a := 200) hc_q (by omega))); rw [whyT, if_neg n1, if_neg (by omega), if_pos (by omega), nI_toInt (by omega), nI_toInt (by omega), em9]; congr 1 <;> omega) | (have g := Nat.le_of_not_lt (fun hc_q => absurd h_70 (nI_ge (b := 200) hc_q (by decide))); rw [whyT, if_neg n1, if_neg (by omega), if_neg (by omega), if_pos (by omega), nI_toInt (by omega), nI_toInt (by omega), em9]; congr 1 <;> omega))
            · refine go_aload_n (pc := 73) dX5_whyNotTold_73 rfl ?_
              refine go_iload (pc := 74) dX5_whyNotTold_74 rfl ?_
              refine go_iload_n (pc := 76) dX5_whyNotTold_76 rfl ?_
              refine go_bipush (v := 10) (pc := 77) dX5_whyNotTold_77 (by decide) ?_
              refine go_irem (pc := 79) dX5_whyNotTold_79 (by decide) ?_
              rw [td.2]
              refine go_V2P (pc := 80) v_X5_78 rfl rfl (rcv_of (ci := 5) (by first | exact sr0 hR_q | exact be0 hQ | exact sr1 hR_q | exact sr2 hR_q | exact sr3 hR_q | exact sr4 hR_q | exact be1 hQ | exact be2 hQ | exact be3 hQ) rfl) dX5_whyNotTold_80 (cp_whyNotTake (k := k - 1) hR_q hr hQ (by omega) hB_q _ _) ?_
              refine go_goto (tgt := 96) (pc := 83) dX5_whyNotTold_83 (by decide) ?_
              exact go_iretP (pc := 96) rfl dX5_whyNotTold_96 (Nat.le_of_ble_eq_true rfl) (Nat.le_of_ble_eq_true rfl) (by first | (have g := Nat.lt_of_not_le (fun hc_q => h_70 (nI_le (a := 200) hc_q (by omega))); rw [whyT, if_neg n1, if_neg (by omega), if_pos (by omega), nI_toInt (by omega), nI_toInt (by omega), em9]; congr 1 <;> omega) | (have g := Nat.le_of_not_lt (fun hc_q => absurd h_70 (nI_ge (b := 200) hc_q (by decide))); rw [whyT, if_neg n1, if_neg (by omega), if_neg (by omega), if_pos (by omega), nI_toInt (by omega), nI_toInt (by omega), em9]; congr 1 <;> omega))
          · refine go_aload_n (pc := 51) dX5_whyNotTold_51 rfl ?_
            refine go_iload_n (pc := 52) dX5_whyNotTold_52 rfl ?_
            refine go_V1P (pc := 53) v_X5_75 rfl rfl (rcv_of (ci := 5) (by first | exact sr0 hR_q | exact be0 hQ | exact sr1 hR_q | exact sr2 hR_q | exact sr3 hR_q | exact sr4 hR_q | exact be1 hQ | exact be2 hQ | exact be3 hQ) rfl) dX5_whyNotTold_53 (cp_whyNotLeave (k := k - 1) hR_q hr hQ (by omega) hB_q _) ?_
            exact go_iretP (pc := 56) rfl dX5_whyNotTold_56 (Nat.le_of_ble_eq_true rfl) (Nat.le_of_ble_eq_true rfl) (by have g := Nat.lt_of_not_le (fun hc_q => h_48 (nI_le (a := 100) hc_q (by omega))); rw [whyT, if_neg n1, if_pos (by omega), nI_toInt (by omega), em9])
        · refine go_lload_n (pc := 32) dX5_whyNotTold_32 rfl ?_
          refine go_ldc2 (pc := 33) kw4_182 dX5_whyNotTold_33 ?_
          refine go_lcmp (pc := 36) dX5_whyNotTold_36 ?_
          refine go_if_ge (tgt := 42) (pc := 37) dX5_whyNotTold_37 (by decide) (fun h_37 => ?_) (fun h_37 => ?_)
          · have n1 : ¬ v.toInt = -1 := fun hc_q => h_5 ((lg_cmp_eq _ _).mpr (Int64.toInt_inj.mp (by rw [hc_q]; decide)))
            obtain ⟨m9_q, hm9, em9, ei9⟩ := told_n (v := v) (fun hc_q => h_13 ((lg_cmp_lt _ _).mpr hc_q)) (fun hc_q => h_21 ((lg_cmp_gt _ _).mpr hc_q))
            have e2_q : (10 : Int64).toInt = 10 := by decide
            have e3_q : (100 : Int64).toInt = 100 := by decide
            have key : m9_q < 10 ∨ 100 ≤ m9_q := by
              first
                | (have g1_q := Int64.lt_iff_toInt_lt.mp ((lg_cmp_lt _ _).mp h_29); omega)
                | (have g1_q := Int64.le_iff_toInt_le.mp ((lg_cmp_ge _ _).mp h_37); omega)
            have td := t_d ⟨m9_q, hm9⟩
            simp only at td
            refine go_lload_n (pc := 42) dX5_whyNotTold_42 rfl ?_
            refine go_l2i (pc := 43) dX5_whyNotTold_43 ?_
            rw [ei9]
            refine go_istore_n (lw := [_, _, _, _, _]) (pc := 44) dX5_whyNotTold_44 (by decide) rfl ?_
            refine go_iload_n (pc := 45) dX5_whyNotTold_45 rfl ?_
            refine go_bipush (v := 100) (pc := 46) dX5_whyNotTold_46 (by decide) ?_
            refine go_icmp_ge (tgt := 57) (pc := 48) dX5_whyNotTold_48 (by decide) (fun h_48 => ?_) (fun h_48 => ?_)
            · have g48 : 100 ≤ m9_q := Nat.le_of_not_lt (fun hc_q => absurd h_48 (nI_ge (b := 100) hc_q (by decide)))
              refine go_iload_n (pc := 57) dX5_whyNotTold_57 rfl ?_
              refine go_bipush (v := 10) (pc := 58) dX5_whyNotTold_58 (by decide) ?_
              refine go_idiv (pc := 60) dX5_whyNotTold_60 (by decide) ?_
              refine go_bipush (v := 10) (pc := 61) dX5_whyNotTold_61 (by decide) ?_
              refine go_irem (pc := 63) dX5_whyNotTold_63 (by decide) ?_
              rw [td.1]
              refine go_istore (lw := [_, _, _, _, _]) (pc := 64) dX5_whyNotTold_64 (by decide) rfl ?_
              refine go_iload_n (pc := 66) dX5_whyNotTold_66 rfl ?_
              refine go_sipush (v := 200) (pc := 67) dX5_whyNotTold_67 (by decide) ?_
              refine go_icmp_ge (tgt := 86) (pc := 70) dX5_whyNotTold_70 (by decide) (fun h_70 => ?_) (fun h_70 => ?_)
              · refine go_aload_n (pc := 86) dX5_whyNotTold_86 rfl ?_
                refine go_iload (pc := 87) dX5_whyNotTold_87 rfl ?_
                refine go_iload_n (pc := 89) dX5_whyNotTold_89 rfl ?_
                refine go_bipush (v := 10) (pc := 90) dX5_whyNotTold_90 (by decide) ?_
                refine go_irem (pc := 92) dX5_whyNotTold_92 (by decide) ?_
                rw [td.2]
                refine go_V2P (pc := 93) v_X5_82 rfl rfl (rcv_of (ci := 5) (by first | exact sr0 hR_q | exact be0 hQ | exact sr1 hR_q | exact sr2 hR_q | exact sr3 hR_q | exact sr4 hR_q | exact be1 hQ | exact be2 hQ | exact be3 hQ) rfl) dX5_whyNotTold_93 (cp_whyNotExchange (k := k - 1) hR_q hr hQ (by omega) hB_q _ _) ?_
                exact go_iretP (pc := 96) rfl dX5_whyNotTold_96 (Nat.le_of_ble_eq_true rfl) (Nat.le_of_ble_eq_true rfl) (by first | (have g := Nat.lt_of_not_le (fun hc_q => h_70 (nI_le (a := 200) hc_q (by omega))); rw [whyT, if_neg n1, if_neg (by omega), if_pos (by omega), nI_toInt (by omega), nI_toInt (by omega), em9]; congr 1 <;> omega) | (have g := Nat.le_of_not_lt (fun hc_q => absurd h_70 (nI_ge (b := 200) hc_q (by decide))); rw [whyT, if_neg n1, if_neg (by omega), if_neg (by omega), if_pos (by omega), nI_toInt (by omega), nI_toInt (by omega), em9]; congr 1 <;> omega))
              · refine go_aload_n (pc := 73) dX5_whyNotTold_73 rfl ?_
                refine go_iload (pc := 74) dX5_whyNotTold_74 rfl ?_
                refine go_iload_n (pc := 76) dX5_whyNotTold_76 rfl ?_
                refine go_bipush (v := 10) (pc := 77) dX5_whyNotTold_77 (by decide) ?_
                refine go_irem (pc := 79) dX5_whyNotTold_79 (by decide) ?_
                rw [td.2]
                refine go_V2P (pc := 80) v_X5_78 rfl rfl (rcv_of (ci := 5) (by first | exact sr0 hR_q | exact be0 hQ | exact sr1 hR_q | exact sr2 hR_q | exact sr3 hR_q | exact sr4 hR_q | exact be1 hQ | exact be2 hQ | exact be3 hQ) rfl) dX5_whyNotTold_80 (cp_whyNotTake (k := k - 1) hR_q hr hQ (by omega) hB_q _ _) ?_
                refine go_goto (tgt := 96) (pc := 83) dX5_whyNotTold_83 (by decide) ?_
                exact go_iretP (pc := 96) rfl dX5_whyNotTold_96 (Nat.le_of_ble_eq_true rfl) (Nat.le_of_ble_eq_true rfl) (by first | (have g := Nat.lt_of_not_le (fun hc_q => h_70 (nI_le (a := 200) hc_q (by omega))); rw [whyT, if_neg n1, if_neg (by omega), if_pos (by omega), nI_toInt (by omega), nI_toInt (by omega), em9]; congr 1 <;> omega) | (have g := Nat.le_of_not_lt (fun hc_q => absurd h_70 (nI_ge (b := 200) hc_q (by decide))); rw [whyT, if_neg n1, if_neg (by omega), if_neg (by omega), if_pos (by omega), nI_toInt (by omega), nI_toInt (by omega), em9]; congr 1 <;> omega))
            · refine go_aload_n (pc := 51) dX5_whyNotTold_51 rfl ?_
              refine go_iload_n (pc := 52) dX5_whyNotTold_52 rfl ?_
              refine go_V1P (pc := 53) v_X5_75 rfl rfl (rcv_of (ci := 5) (by first | exact sr0 hR_q | exact be0 hQ | exact sr1 hR_q | exact sr2 hR_q | exact sr3 hR_q | exact sr4 hR_q | exact be1 hQ | exact be2 hQ | exact be3 hQ) rfl) dX5_whyNotTold_53 (cp_whyNotLeave (k := k - 1) hR_q hr hQ (by omega) hB_q _) ?_
              exact go_iretP (pc := 56) rfl dX5_whyNotTold_56 (Nat.le_of_ble_eq_true rfl) (Nat.le_of_ble_eq_true rfl) (by have g := Nat.lt_of_not_le (fun hc_q => h_48 (nI_le (a := 100) hc_q (by omega))); rw [whyT, if_neg n1, if_pos (by omega), nI_toInt (by omega), em9])
          · refine go_iconst (v := 1) (pc := 40) dX5_whyNotTold_40 (by decide) ?_
            exact go_iretP (pc := 41) rfl dX5_whyNotTold_41 (Nat.le_of_ble_eq_true rfl) (Nat.le_of_ble_eq_true rfl) (by
  have n1 : ¬ v.toInt = -1 := fun hc_q => h_5 ((lg_cmp_eq _ _).mpr (Int64.toInt_inj.mp (by rw [hc_q]; decide)))
  have e0 : (0 : Int64).toInt = 0 := by decide
  have e1_q : (299 : Int64).toInt = 299 := by decide
  have e2_q : (10 : Int64).toInt = 10 := by decide
  have e3_q : (100 : Int64).toInt = 100 := by decide
  have key : v.toInt < 0 ∨ 299 < v.toInt ∨ (10 ≤ v.toInt ∧ v.toInt < 100) := by
    first
      | (have g1_q := Int64.lt_iff_toInt_lt.mp ((lg_cmp_lt _ _).mp h_13); omega)
      | (have g1_q := Int64.lt_iff_toInt_lt.mp ((lg_cmp_gt _ _).mp h_21); omega)
      | (have g1_q := Int64.le_iff_toInt_le.mp ((lg_cmp_ge _ _).mp (Int32.not_lt.mp h_29)); have g2_q := Int64.lt_iff_toInt_lt.mp (Int64.not_le.mp (fun hc_q => h_37 ((lg_cmp_ge _ _).mpr hc_q))); omega)
  rw [whyT, if_neg n1, if_neg (by omega), if_neg (by omega), if_neg (by omega)])
  · refine go_iconst (v := 0) (pc := 8) dX5_whyNotTold_8 (by decide) ?_
    exact go_iretP (pc := 9) rfl dX5_whyNotTold_9 (Nat.le_of_ble_eq_true rfl) (Nat.le_of_ble_eq_true rfl) (by rw [whyT, if_pos (by rw [(lg_cmp_eq _ _).mp h_5]; decide)])
