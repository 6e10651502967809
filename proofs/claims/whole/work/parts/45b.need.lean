/-! ===== the class: what a call demands; the seats ahead; questions ===== -/
theorem in_rN {lo hi_q : Nat} (h1_q : lo < 2 ^ 31) (h2_q : hi_q < 2 ^ 31) {z : Int32} (h_q : nI lo ≤ z ∧ z ≤ nI hi_q) : ∃ j, rN lo (hi_q + 1) z.toInt = some j ∧ z = nI j ∧ lo ≤ j ∧ j ≤ hi_q := by
  have a1_q := Int32.le_iff_toInt_le.mp h_q.1
  have a2 := Int32.le_iff_toInt_le.mp h_q.2
  rw [nI_toInt h1_q] at a1_q
  rw [nI_toInt h2_q] at a2
  refine ⟨z.toInt.toNat, ?_, I_nat (by omega) (by omega), by omega, by omega⟩
  rw [rN, if_pos (by omega)]
theorem out_rN {lo hi_q : Nat} (h1_q : lo < 2 ^ 31) (h2_q : hi_q < 2 ^ 31) {z : Int32} (h_q : ¬ (nI lo ≤ z ∧ z ≤ nI hi_q)) : rN lo (hi_q + 1) z.toInt = none := by
  rw [rN, if_neg]
  intro hc_q
  refine h_q ⟨Int32.le_iff_toInt_le.mpr ?_, Int32.le_iff_toInt_le.mpr ?_⟩
  · rw [nI_toInt h1_q]; omega
  · rw [nI_toInt h2_q]; omega
theorem cp_needWithin {Γ : gam} {z0 : sto} {n k a : Nat} (hk : 6 ≤ k) (z lo hi_q : Int32) : Sp Γ (rmk k 1 6) uX7_needWithin [.ref a, .int z, .int lo, .int hi_q] z0 n (qT (qV fun σ' n' => (lo ≤ z ∧ z ≤ hi_q) ∧ z0 = σ' ∧ n = n') (fun x σ' n' => ¬ (lo ≤ z ∧ z ≤ hi_q) ∧ x = eIA ∧ σ' = z0 ∧ n ≤ n')) := by
  refine sp_intro [some (.ref a), some (.int z), some (.int lo), some (.int hi_q)] (by decide +kernel) rfl (Nat.le_of_ble_eq_true rfl) rfl ?_
  refine go_iload_n (pc := 0) dX7_needWithin_0 rfl ?_
  refine go_iload_n (pc := 1) dX7_needWithin_1 rfl ?_
  refine go_icmp_lt (tgt := 10) (pc := 2) dX7_needWithin_2 (by decide) (fun h_2 => ?_) (fun h_2 => ?_)
  · exact go_throwW (si := 0) (pc := 10) th_IA rfl rfl rfl dX7_needWithin_10 dX7_needWithin_13 dX7_needWithin_14 dX7_needWithin_17 dX7_needWithin_20 (fun n2 hn2 => Or.inr ⟨_, rfl, (by first | exact fun hc_q => absurd hc_q.1 (Int32.not_le.mpr h_2) | exact fun hc_q => h_7 hc_q.2), rfl, rfl, hn2⟩)
  · refine go_iload_n (pc := 5) dX7_needWithin_5 rfl ?_
    refine go_iload_n (pc := 6) dX7_needWithin_6 rfl ?_
    refine go_icmp_le (tgt := 21) (pc := 7) dX7_needWithin_7 (by decide) (fun h_7 => ?_) (fun h_7 => ?_)
    · exact go_vretT (pc := 21) rfl dX7_needWithin_21 (Nat.le_of_ble_eq_true rfl) (Nat.le_of_ble_eq_true rfl) ⟨⟨Int32.not_lt.mp h_2, h_7⟩, rfl, rfl⟩
    · exact go_throwW (si := 0) (pc := 10) th_IA rfl rfl rfl dX7_needWithin_10 dX7_needWithin_13 dX7_needWithin_14 dX7_needWithin_17 dX7_needWithin_20 (fun n2 hn2 => Or.inr ⟨_, rfl, (by first | exact fun hc_q => absurd hc_q.1 (Int32.not_le.mpr h_2) | exact fun hc_q => h_7 hc_q.2), rfl, rfl, hn2⟩)
theorem cp_nW {Γ : gam} {z0 : sto} {n k a : Nat} {lo hi_q : Nat} (hk : 6 ≤ k) (h1_q : lo < 2 ^ 31) (h2_q : hi_q < 2 ^ 31) (z : Int32) : Sp Γ (rmk k 1 6) uX7_needWithin [.ref a, .int z, .int (nI lo), .int (nI hi_q)] z0 n (qT (qV fun σ' n' => (∃ j, rN lo (hi_q + 1) z.toInt = some j ∧ z = nI j ∧ lo ≤ j ∧ j ≤ hi_q) ∧ z0 = σ' ∧ n = n') (fun x σ' n' => rN lo (hi_q + 1) z.toInt = none ∧ x = eIA ∧ σ' = z0 ∧ n ≤ n')) := by
  refine sp_mono (cp_needWithin hk z (nI lo) (nI hi_q)) ?_
  rintro o σ n (⟨e_q, h_q, h3_q⟩ | ⟨x, e_q, h_q, h3_q⟩)
  · exact Or.inl ⟨e_q, in_rN h1_q h2_q h_q, h3_q⟩
  · exact Or.inr ⟨x, e_q, out_rN h1_q h2_q h_q, h3_q⟩
theorem cp_needPerson {Γ : gam} {D : Nat} {ro : Nat → Nat} {z0 : sto} {n k a b : Nat} {w : Int32} {K ag pa pf ch co rw bk G : row} {im : Nat → Option Nat} {lm lt lw : Value} (hC : CoAt Γ ro z0 a G im) (hR_q : SrAt Γ ro z0 (a + 14) b w (K 33) ch co rw bk) (hr_q : rS K ch co rw bk) (hQ_q : BrAt Γ D ro z0 b K ag pa pf lm lt lw) (hB_q : okB K) (hk : 6 ≤ k) (z : Int32) : Sp Γ (rmk k 1 6) uX7_needPerson [.ref a, .int z] z0 n (qT (qV fun σ' n' => (∃ j, pN (kP K) z.toInt = some j ∧ z = nI j ∧ j < kP K) ∧ z0 = σ' ∧ n = n') (fun x σ' n' => pN (kP K) z.toInt = none ∧ x = eNS ∧ σ' = z0 ∧ n ≤ n')) := by
  have hP8 := hB_q.1.2.1
  have hH5 := hB_q.1.2.2.2.1
  have hW4 := hB_q.1.2.2.2.2.2
  refine sp_intro [some (.ref a), some (.int z)] (by decide +kernel) rfl (Nat.le_of_ble_eq_true rfl) rfl ?_
  cases hz_q : pN (kP K) z.toInt with
  | none =>
    refine go_aload_n (pc := 0) dX7_needPerson_0 rfl ?_
    refine go_getf (pc := 1) f_X7_65 dX7_needPerson_1 (by first | exact co0 hC | exact sr0 hR_q | exact be0 hQ_q | exact sr0 hT_q | exact be0 hQ9 | exact sr1 hR_q | exact sr2 hR_q | exact sr3 hR_q | exact sr4 hR_q | exact be1 hQ_q | exact be2 hQ_q | exact be3 hQ_q | exact sr3 hT_q | exact sr2 hT_q | exact sr1 hT_q | exact sr4 hT_q | exact co4 hC | exact co2 hC | exact co3 hC | exact co0 hC9 | exact sr0 hR9 | exact co4 hC9 | exact sr3 hR9 | exact sr2 hR9) (by rfl) ?_
    refine go_getf (pc := 4) f_X7_120 dX7_needPerson_4 (by first | exact co0 hC | exact sr0 hR_q | exact be0 hQ_q | exact sr0 hT_q | exact be0 hQ9 | exact sr1 hR_q | exact sr2 hR_q | exact sr3 hR_q | exact sr4 hR_q | exact be1 hQ_q | exact be2 hQ_q | exact be3 hQ_q | exact sr3 hT_q | exact sr2 hT_q | exact sr1 hT_q | exact sr4 hT_q | exact co4 hC | exact co2 hC | exact co3 hC | exact co0 hC9 | exact sr0 hR9 | exact co4 hC9 | exact sr3 hR9 | exact sr2 hR9) (by rfl) ?_
    refine go_iload_n (pc := 7) dX7_needPerson_7 rfl ?_
    refine go_V1P (pc := 8) v_X7_366 rfl rfl (rcv_of (ci := 0) (by first | exact co0 hC | exact sr0 hR_q | exact be0 hQ_q | exact sr0 hT_q | exact be0 hQ9 | exact sr1 hR_q | exact sr2 hR_q | exact sr3 hR_q | exact sr4 hR_q | exact be1 hQ_q | exact be2 hQ_q | exact be3 hQ_q | exact sr3 hT_q | exact sr2 hT_q | exact sr1 hT_q | exact sr4 hT_q | exact co4 hC | exact co2 hC | exact co3 hC | exact co0 hC9 | exact sr0 hR9 | exact co4 hC9 | exact sr3 hR9 | exact sr2 hR9) rfl) dX7_needPerson_8 (cp_isPerson (k := k - 1) hQ_q _) ?_
    refine go_if_ne (tgt := 25) (pc := 11) dX7_needPerson_11 (by decide) (fun h_11 => by exfalso; exact h_11 (c_no hB_q.1.1 (by omega) hz_q)) (fun h_11 => ?_)
    exact go_throwWN (si := 20) (pc := 14) rfl rfl rfl dX7_needPerson_14 dX7_needPerson_17 dX7_needPerson_18 dX7_needPerson_21 dX7_needPerson_24 (fun n2 hn2 => Or.inr ⟨_, rfl, rfl, rfl, rfl, hn2⟩)
  | some j1_q =>
    have hz1 := pN_some hz_q
    refine go_aload_n (pc := 0) dX7_needPerson_0 rfl ?_
    refine go_getf (pc := 1) f_X7_65 dX7_needPerson_1 (by first | exact co0 hC | exact sr0 hR_q | exact be0 hQ_q | exact sr0 hT_q | exact be0 hQ9 | exact sr1 hR_q | exact sr2 hR_q | exact sr3 hR_q | exact sr4 hR_q | exact be1 hQ_q | exact be2 hQ_q | exact be3 hQ_q | exact sr3 hT_q | exact sr2 hT_q | exact sr1 hT_q | exact sr4 hT_q | exact co4 hC | exact co2 hC | exact co3 hC | exact co0 hC9 | exact sr0 hR9 | exact co4 hC9 | exact sr3 hR9 | exact sr2 hR9) (by rfl) ?_
    refine go_getf (pc := 4) f_X7_120 dX7_needPerson_4 (by first | exact co0 hC | exact sr0 hR_q | exact be0 hQ_q | exact sr0 hT_q | exact be0 hQ9 | exact sr1 hR_q | exact sr2 hR_q | exact sr3 hR_q | exact sr4 hR_q | exact be1 hQ_q | exact be2 hQ_q | exact be3 hQ_q | exact sr3 hT_q | exact sr2 hT_q | exact sr1 hT_q | exact sr4 hT_q | exact co4 hC | exact co2 hC | exact co3 hC | exact co0 hC9 | exact sr0 hR9 | exact co4 hC9 | exact sr3 hR9 | exact sr2 hR9) (by rfl) ?_
    refine go_iload_n (pc := 7) dX7_needPerson_7 rfl ?_
    refine go_V1P (pc := 8) v_X7_366 rfl rfl (rcv_of (ci := 0) (by first | exact co0 hC | exact sr0 hR_q | exact be0 hQ_q | exact sr0 hT_q | exact be0 hQ9 | exact sr1 hR_q | exact sr2 hR_q | exact sr3 hR_q | exact sr4 hR_q | exact be1 hQ_q | exact be2 hQ_q | exact be3 hQ_q | exact sr3 hT_q | exact sr2 hT_q | exact sr1 hT_q | exact sr4 hT_q | exact co4 hC | exact co2 hC | exact co3 hC | exact co0 hC9 | exact sr0 hR9 | exact co4 hC9 | exact sr3 hR9 | exact sr2 hR9) rfl) dX7_needPerson_8 (cp_isPerson (k := k - 1) hQ_q _) ?_
    refine go_if_ne (tgt := 25) (pc := 11) dX7_needPerson_11 (by decide) (fun h_11 => ?_) (fun h_11 => by exfalso; rw [c_yes hB_q.1.1 (by omega) hz_q] at h_11; exact absurd h_11 (by decide))
    exact go_vretT (pc := 25) rfl dX7_needPerson_25 (Nat.le_of_ble_eq_true rfl) (Nat.le_of_ble_eq_true rfl) ⟨⟨j1_q, rfl, I_nat hz1.1 (by omega), hz1.2⟩, rfl, rfl⟩
theorem cp_needChair {Γ : gam} {D : Nat} {ro : Nat → Nat} {z0 : sto} {n k a b : Nat} {w : Int32} {K ag pa pf ch co rw bk G : row} {im : Nat → Option Nat} {lm lt lw : Value} (hC : CoAt Γ ro z0 a G im) (hR_q : SrAt Γ ro z0 (a + 14) b w (K 33) ch co rw bk) (hr_q : rS K ch co rw bk) (hQ_q : BrAt Γ D ro z0 b K ag pa pf lm lt lw) (hB_q : okB K) (hk : 6 ≤ k) (c y : Int32) : Sp Γ (rmk k 1 6) uX7_needChair [.ref a, .int c, .int y] z0 n (qT (qV fun σ' n' => (∃ x1_q x2_q, chK K c.toInt y.toInt = some (x1_q, x2_q) ∧ c = nI x1_q ∧ y = nI x2_q ∧ x1_q < kW K ∧ x2_q < kH K) ∧ z0 = σ' ∧ n = n') (fun x σ' n' => chK K c.toInt y.toInt = none ∧ x = eNS ∧ σ' = z0 ∧ n ≤ n')) := by
  have hP8 := hB_q.1.2.1
  have hH5 := hB_q.1.2.2.2.1
  have hW4 := hB_q.1.2.2.2.2.2
  refine sp_intro [some (.ref a), some (.int c), some (.int y)] (by decide +kernel) rfl (Nat.le_of_ble_eq_true rfl) rfl ?_
  cases hz_q : chK K c.toInt y.toInt with
  | none =>
    refine go_aload_n (pc := 0) dX7_needChair_0 rfl ?_
    refine go_getf (pc := 1) f_X7_65 dX7_needChair_1 (by first | exact co0 hC | exact sr0 hR_q | exact be0 hQ_q | exact sr0 hT_q | exact be0 hQ9 | exact sr1 hR_q | exact sr2 hR_q | exact sr3 hR_q | exact sr4 hR_q | exact be1 hQ_q | exact be2 hQ_q | exact be3 hQ_q | exact sr3 hT_q | exact sr2 hT_q | exact sr1 hT_q | exact sr4 hT_q | exact co4 hC | exact co2 hC | exact co3 hC | exact co0 hC9 | exact sr0 hR9 | exact co4 hC9 | exact sr3 hR9 | exact sr2 hR9) (by rfl) ?_
    refine go_getf (pc := 4) f_X7_120 dX7_needChair_4 (by first | exact co0 hC | exact sr0 hR_q | exact be0 hQ_q | exact sr0 hT_q | exact be0 hQ9 | exact sr1 hR_q | exact sr2 hR_q | exact sr3 hR_q | exact sr4 hR_q | exact be1 hQ_q | exact be2 hQ_q | exact be3 hQ_q | exact sr3 hT_q | exact sr2 hT_q | exact sr1 hT_q | exact sr4 hT_q | exact co4 hC | exact co2 hC | exact co3 hC | exact co0 hC9 | exact sr0 hR9 | exact co4 hC9 | exact sr3 hR9 | exact sr2 hR9) (by rfl) ?_
    refine go_iload_n (pc := 7) dX7_needChair_7 rfl ?_
    refine go_iload_n (pc := 8) dX7_needChair_8 rfl ?_
    refine go_V2P (pc := 9) v_X7_375 rfl rfl (rcv_of (ci := 0) (by first | exact co0 hC | exact sr0 hR_q | exact be0 hQ_q | exact sr0 hT_q | exact be0 hQ9 | exact sr1 hR_q | exact sr2 hR_q | exact sr3 hR_q | exact sr4 hR_q | exact be1 hQ_q | exact be2 hQ_q | exact be3 hQ_q | exact sr3 hT_q | exact sr2 hT_q | exact sr1 hT_q | exact sr4 hT_q | exact co4 hC | exact co2 hC | exact co3 hC | exact co0 hC9 | exact sr0 hR9 | exact co4 hC9 | exact sr3 hR9 | exact sr2 hR9) rfl) dX7_needChair_9 (cp_isChair (k := k - 1) hQ_q (by omega) _ _) ?_
    refine go_if_ne (tgt := 26) (pc := 12) dX7_needChair_12 (by decide) (fun h_12 => by exfalso; exact h_12 (cch_no hB_q.1 hz_q)) (fun h_12 => ?_)
    exact go_throwWN (si := 19) (pc := 15) rfl rfl rfl dX7_needChair_15 dX7_needChair_18 dX7_needChair_19 dX7_needChair_22 dX7_needChair_25 (fun n2 hn2 => Or.inr ⟨_, rfl, rfl, rfl, rfl, hn2⟩)
  | some xy =>
    obtain ⟨x1_q, x2_q⟩ := xy
    have g1_q := pN_some (chK_some hz_q).1
    have g2_q := pN_some (chK_some hz_q).2
    refine go_aload_n (pc := 0) dX7_needChair_0 rfl ?_
    refine go_getf (pc := 1) f_X7_65 dX7_needChair_1 (by first | exact co0 hC | exact sr0 hR_q | exact be0 hQ_q | exact sr0 hT_q | exact be0 hQ9 | exact sr1 hR_q | exact sr2 hR_q | exact sr3 hR_q | exact sr4 hR_q | exact be1 hQ_q | exact be2 hQ_q | exact be3 hQ_q | exact sr3 hT_q | exact sr2 hT_q | exact sr1 hT_q | exact sr4 hT_q | exact co4 hC | exact co2 hC | exact co3 hC | exact co0 hC9 | exact sr0 hR9 | exact co4 hC9 | exact sr3 hR9 | exact sr2 hR9) (by rfl) ?_
    refine go_getf (pc := 4) f_X7_120 dX7_needChair_4 (by first | exact co0 hC | exact sr0 hR_q | exact be0 hQ_q | exact sr0 hT_q | exact be0 hQ9 | exact sr1 hR_q | exact sr2 hR_q | exact sr3 hR_q | exact sr4 hR_q | exact be1 hQ_q | exact be2 hQ_q | exact be3 hQ_q | exact sr3 hT_q | exact sr2 hT_q | exact sr1 hT_q | exact sr4 hT_q | exact co4 hC | exact co2 hC | exact co3 hC | exact co0 hC9 | exact sr0 hR9 | exact co4 hC9 | exact sr3 hR9 | exact sr2 hR9) (by rfl) ?_
    refine go_iload_n (pc := 7) dX7_needChair_7 rfl ?_
    refine go_iload_n (pc := 8) dX7_needChair_8 rfl ?_
    refine go_V2P (pc := 9) v_X7_375 rfl rfl (rcv_of (ci := 0) (by first | exact co0 hC | exact sr0 hR_q | exact be0 hQ_q | exact sr0 hT_q | exact be0 hQ9 | exact sr1 hR_q | exact sr2 hR_q | exact sr3 hR_q | exact sr4 hR_q | exact be1 hQ_q | exact be2 hQ_q | exact be3 hQ_q | exact sr3 hT_q | exact sr2 hT_q | exact sr1 hT_q | exact sr4 hT_q | exact co4 hC | exact co2 hC | exact co3 hC | exact co0 hC9 | exact sr0 hR9 | exact co4 hC9 | exact sr3 hR9 | exact sr2 hR9) rfl) dX7_needChair_9 (cp_isChair (k := k - 1) hQ_q (by omega) _ _) ?_
    refine go_if_ne (tgt := 26) (pc := 12) dX7_needChair_12 (by decide) (fun h_12 => ?_) (fun h_12 => by exfalso; rw [cch_yes hB_q.1 hz_q] at h_12; exact absurd h_12 (by decide))
    exact go_vretT (pc := 26) rfl dX7_needChair_26 (Nat.le_of_ble_eq_true rfl) (Nat.le_of_ble_eq_true rfl) ⟨⟨x1_q, x2_q, rfl, I_nat g1_q.1 (by omega), I_nat g2_q.1 (by omega), g1_q.2, g2_q.2⟩, rfl, rfl⟩
theorem cp_trial {Γ : gam} {D : Nat} {ro : Nat → Nat} {z0 : sto} {n k a b : Nat} {w : Int32} {K ag pa pf ch co rw bk G : row} {im : Nat → Option Nat} {lm lt lw : Value} (hC : CoAt Γ ro z0 a G im) (hR_q : SrAt Γ ro z0 (a + 14) b w (K 33) ch co rw bk) (hr_q : rS K ch co rw bk) (hQ_q : BrAt Γ D ro z0 b K ag pa pf lm lt lw) (hB_q : okB K) (hg_q : gS K) (hS_q : ScAt Γ ro z0 a) (hD : a + 113 < D) (hsb : b = a + 10 ∨ a + 113 < b) (hk : 2 ≤ k) : Sp Γ (rmk k 0 0) uX7_trial [.ref a] z0 n (qA fun v σ' n' => v = a + 89 ∧ n' = n ∧ SeAt Γ ro σ' (a + 89) b w (goK 0 K) ∧ frC Γ ro (a + 89) (a + 93) z0 σ') := by
  have hP8 := hB_q.1.2.1
  have hH5 := hB_q.1.2.2.2.1
  have hW4 := hB_q.1.2.2.2.2.2
  obtain ⟨bT, wT, mT, ch8, co8, rw8, bk8, hT_q⟩ := hS_q.t0
  refine sp_intro [some (.ref a), none] (by decide +kernel) rfl (Nat.le_of_ble_eq_true rfl) rfl ?_
  refine go_aload_n (pc := 0) dX7_trial_0 rfl ?_
  refine go_getf (pc := 1) f_X7_37 dX7_trial_1 (by first | exact co0 hC | exact co4 hC | exact sr0 hT_q | exact sr0 hR_q) (by rfl) ?_
  refine go_iconst (v := 0) (pc := 4) dX7_trial_4 (by decide) ?_
  refine go_aaload (pc := 5) dX7_trial_5 (by first | exact co0 hC | exact co4 hC | exact sr0 hT_q | exact sr0 hR_q) rfl (vp_in_nI (n := 0) (N := 5) (by decide) (by decide)) (show _ = some (a + 89) from rfl) ?_
  refine go_astore_n (lw := [_, _]) (pc := 6) dX7_trial_6 (by decide) rfl ?_
  refine go_aload_n (pc := 7) dX7_trial_7 rfl ?_
  refine go_aload_n (pc := 8) dX7_trial_8 rfl ?_
  refine go_getf (pc := 9) f_X7_65 dX7_trial_9 (by first | exact co0 hC | exact co4 hC | exact sr0 hT_q | exact sr0 hR_q) (by rfl) ?_
  refine go_V1V (pc := 12) v_X7_114 rfl rfl (rcv_of (ci := 5) (by first | exact co0 hC | exact co4 hC | exact sr0 hT_q | exact sr0 hR_q) rfl) dX7_trial_12 (cp_copyFrom (k := k - 1) hT_q hR_q (by omega) (by omega)) (fun σ n h_q => ?_)
  obtain ⟨rfl, ⟨ch9, co9, rw9, bk9, hT_q, q1_q, q2, q3, q4⟩, hf_q⟩ := h_q
  have hr9_q : rS K ch9 co9 rw9 bk9 := rS_cong hB_q hr_q q1_q q2 q3 q4
  refine go_aload_n (pc := 15) dX7_trial_15 rfl ?_
  exact go_aretA (pc := 16) rfl (Or.inl ⟨_, rfl⟩) dX7_trial_16 (Nat.le_of_ble_eq_true rfl) (Nat.le_of_ble_eq_true rfl) ⟨rfl, rfl, ⟨_, _, _, _, hT_q, hr9_q⟩, hf_q⟩
theorem cp_ahead {Γ : gam} {D : Nat} {ro : Nat → Nat} {z0 : sto} {n k a b : Nat} {w : Int32} {K ag pa pf ch co rw bk G : row} {im : Nat → Option Nat} {lm lt lw : Value} (hC : CoAt Γ ro z0 a G im) (hR_q : SrAt Γ ro z0 (a + 14) b w (K 33) ch co rw bk) (hr_q : rS K ch co rw bk) (hQ_q : BrAt Γ D ro z0 b K ag pa pf lm lt lw) (hB_q : okB K) (hg_q : gS K) (hS_q : ScAt Γ ro z0 a) (hD : a + 113 < D) (hsb : b = a + 10 ∨ a + 113 < b) (hk : 8 ≤ k) {m : Nat} (hm_q : m < 1000) : Sp Γ (rmk k 0 0) uX7_ahead [.ref a, .int (nI m)] z0 n (qA fun v σ' n' => v = a + 89 ∧ n' = n ∧ SeAt Γ ro σ' (a + 89) b w (goK m K) ∧ frC Γ ro (a + 89) (a + 93) z0 σ') := by
  have hP8 := hB_q.1.2.1
  have hH5 := hB_q.1.2.2.2.1
  have hW4 := hB_q.1.2.2.2.2.2
  refine sp_intro [some (.ref a), some (.int (nI m)), none, none] (by decide +kernel) rfl (Nat.le_of_ble_eq_true rfl) rfl ?_
  refine go_aload_n (pc := 0) dX7_ahead_0 rfl ?_
  refine go_V0A (pc := 1) v_X7_223 rfl rfl (rcv_of (ci := 7) (by first | exact co0 hC | exact sr0 hT_q) rfl) dX7_ahead_1 (cp_trial (k := k - 1) hC hR_q hr_q hQ_q hB_q hg_q hS_q hD hsb (by omega)) (fun v_1 σ n h_q => ?_)
  obtain ⟨rfl, rfl, ⟨ch9, co9, rw9, bk9, hT_q, hr9_q⟩, hf_q⟩ := h_q
  have hQ_q := hQ_q.fr hf_q (by omega) (by omega)
  refine go_astore_n (lw := [_, _, _, _]) (pc := 4) dX7_ahead_4 (by decide) rfl ?_
  refine go_iconst (v := 0) (pc := 5) dX7_ahead_5 (by decide) ?_
  refine go_istore_n (lw := [_, _, _, _]) (pc := 6) dX7_ahead_6 (by decide) rfl ?_
  refine go_iter (m) (fun i_q lv9 s9 n9 => ∃ (ch9 : row), ∃ (co9 : row), ∃ (rw9 : row), ∃ (bk9 : row), lv9 = [some (.ref a), some (.int (nI m)), some (.ref (a + 89)), some (.int (nI i_q))] ∧ (SrAt Γ ro s9 (a + 89) b w (goK i_q K 33) ch9 co9 rw9 bk9) ∧ (BrAt Γ D ro s9 b K ag pa pf lm lt lw) ∧ (frC Γ ro (a + 89) (a + 93) z0 s9) ∧ (rS (goK i_q K) ch9 co9 rw9 bk9) ∧ n = n9) ⟨_, _, _, _, rfl, hT_q, hQ_q, hf_q, hr9_q, rfl⟩ ?_ ?_
  · rintro i_q lv9 σ n9 hi_q ⟨ch9, co9, rw9, bk9, rfl, hT_q, hQ_q, hf_q, hr9_q, rfl⟩ ih_q
    have hs9 : sameB K (goK i_q K) := goK_same (by omega)
    have hB9_q := hs9.okB hB_q
    have hg9_q : gS (goK i_q K) := gS_go hg_q hP8 hH5
    refine go_iload_n (pc := 7) dX7_ahead_7 rfl ?_
    refine go_iload_n (pc := 8) dX7_ahead_8 rfl ?_
    refine go_icmp_ge (tgt := 23) (pc := 9) dX7_ahead_9 (by decide) (fun h_9 => by exfalso; exact absurd h_9 (nI_ge (by omega) (by omega))) (fun h_9 => ?_)
    refine go_aload_n (pc := 12) dX7_ahead_12 rfl ?_
    refine go_iconst (v := 0) (pc := 13) dX7_ahead_13 (by decide) ?_
    refine go_V1V (pc := 14) v_X7_207 rfl rfl (rcv_of (ci := 5) (by first | exact co0 hC | exact sr0 hT_q) rfl) dX7_ahead_14 (cp_pass (k := k - 1) hT_q hr9_q (hQ_q.sm hs9) hB9_q hg9_q (by omega) (by omega) (by omega) _) (fun σ n h_q => ?_)
    obtain ⟨rfl, ⟨ch9, co9, rw9, bk9, hT_q, hr9_q⟩, hf1⟩ := h_q
    have hf_q := hf_q.tr hf1
    have hQ_q := hQ_q.fr hf1 (by omega) (by omega)
    rw [pasW_0 (by decide) hg9_q (by rw [hs9.P]; exact hP8) (by rw [hs9.H]; exact hH5)] at hT_q
    refine go_iinc (v := 1) (lw := [_, _, _, _]) (pc := 17) dX7_ahead_17 rfl (by decide) (by decide) rfl ?_
    refine go_goto (tgt := 7) (pc := 20) dX7_ahead_20 (by decide) ?_
    rw [nI_1]
    exact ih_q _ _ _ ⟨_, _, _, _, rfl, (by rw [goK_s]; exact hT_q), hQ_q, hf_q, (by rw [goK_s]; exact hr9_q), rfl⟩
  · rintro lv9 σ n9 ⟨ch9, co9, rw9, bk9, rfl, hT_q, hQ_q, hf_q, hr9_q, rfl⟩
    refine go_iload_n (pc := 7) dX7_ahead_7 rfl ?_
    refine go_iload_n (pc := 8) dX7_ahead_8 rfl ?_
    refine go_icmp_ge (tgt := 23) (pc := 9) dX7_ahead_9 (by decide) (fun h_9 => ?_) (fun h_9 => by exfalso; exact h_9 (nI_le (by omega) (by omega)))
    refine go_aload_n (pc := 23) dX7_ahead_23 rfl ?_
    exact go_aretA (pc := 24) rfl (Or.inl ⟨_, rfl⟩) dX7_ahead_24 (Nat.le_of_ble_eq_true rfl) (Nat.le_of_ble_eq_true rfl) ⟨rfl, rfl, ⟨_, _, _, _, hT_q, hr9_q⟩, hf_q⟩
theorem cp_chair {Γ : gam} {D : Nat} {ro : Nat → Nat} {z0 : sto} {n k a b : Nat} {w : Int32} {K ag pa pf ch co rw bk G : row} {im : Nat → Option Nat} {lm lt lw : Value} (hC : CoAt Γ ro z0 a G im) (hR_q : SrAt Γ ro z0 (a + 14) b w (K 33) ch co rw bk) (hr_q : rS K ch co rw bk) (hQ_q : BrAt Γ D ro z0 b K ag pa pf lm lt lw) (hB_q : okB K) (hg_q : gS K) (hS_q : ScAt Γ ro z0 a) (hD : a + 113 < D) (hsb : b = a + 10 ∨ a + 113 < b) (hk : 12 ≤ k) (c y : Int32) : Sp Γ (rmk k 4 24) uX7_chair [.ref a, .int c, .int y] z0 n (qT (qI fun v σ' n' => (aChair K c.toInt y.toInt).1 = 0 ∧ v = (aChair K c.toInt y.toInt).2 ∧ n' = n ∧ ScAt Γ ro σ' a ∧ frS Γ ro (scr a) z0 σ') (fun x σ' n' => exL [eNS] (aChair K c.toInt y.toInt).1 x ∧ σ' = z0 ∧ n ≤ n')) := by
  have hP8 := hB_q.1.2.1
  have hH5 := hB_q.1.2.2.2.1
  have hW4 := hB_q.1.2.2.2.2.2
  refine sp_intro [some (.ref a), some (.int c), some (.int y)] (by decide +kernel) rfl (Nat.le_of_ble_eq_true rfl) rfl ?_
  refine go_aload_n (pc := 0) dX7_chair_0 rfl ?_
  refine go_iload_n (pc := 1) dX7_chair_1 rfl ?_
  refine go_iload_n (pc := 2) dX7_chair_2 rfl ?_
  refine go_V2Vx (pc := 3) v_X7_127 rfl rfl (rcv_of (ci := 7) (by first | exact co0 hC | exact sr0 hR_q | exact be0 hQ_q | exact sr0 hT_q | exact be0 hQ9 | exact sr1 hR_q | exact sr2 hR_q | exact sr3 hR_q | exact sr4 hR_q | exact be1 hQ_q | exact be2 hQ_q | exact be3 hQ_q | exact sr3 hT_q | exact sr2 hT_q | exact sr1 hT_q | exact sr4 hT_q | exact co4 hC | exact co2 hC | exact co3 hC | exact co0 hC9 | exact sr0 hR9 | exact co4 hC9 | exact sr3 hR9 | exact sr2 hR9) rfl) dX7_chair_3 (cp_needChair (k := k - 1) hC hR_q hr_q hQ_q hB_q (by omega) _ _) (fun x σx nx hx_q => by obtain ⟨h9_q, rfl, rfl, h8_q⟩ := hx_q; exact Or.inr ⟨_, rfl, ⟨0, (by rw [show aChair K c.toInt y.toInt = (1, 0) from by simp only [aChair, h9_q]]; rfl), rfl⟩, rfl, h8_q⟩) (fun σ n h_q => ?_)
  obtain ⟨⟨x1_q, x2_q, hz_q, rfl, rfl, hza, hzb⟩, rfl, rfl⟩ := h_q
  refine go_aload_n (pc := 6) dX7_chair_6 rfl ?_
  refine go_getf (pc := 7) f_X7_65 dX7_chair_7 (by first | exact co0 hC | exact sr0 hR_q | exact be0 hQ_q | exact sr0 hT_q | exact be0 hQ9 | exact sr1 hR_q | exact sr2 hR_q | exact sr3 hR_q | exact sr4 hR_q | exact be1 hQ_q | exact be2 hQ_q | exact be3 hQ_q | exact sr3 hT_q | exact sr2 hT_q | exact sr1 hT_q | exact sr4 hT_q | exact co4 hC | exact co2 hC | exact co3 hC | exact co0 hC9 | exact sr0 hR9 | exact co4 hC9 | exact sr3 hR9 | exact sr2 hR9) (by rfl) ?_
  refine go_iload_n (pc := 10) dX7_chair_10 rfl ?_
  refine go_iload_n (pc := 11) dX7_chair_11 rfl ?_
  refine go_V2P (pc := 12) v_X7_131 rfl rfl (rcv_of (ci := 5) (by first | exact co0 hC | exact sr0 hR_q | exact be0 hQ_q | exact sr0 hT_q | exact be0 hQ9 | exact sr1 hR_q | exact sr2 hR_q | exact sr3 hR_q | exact sr4 hR_q | exact be1 hQ_q | exact be2 hQ_q | exact be3 hQ_q | exact sr3 hT_q | exact sr2 hT_q | exact sr1 hT_q | exact sr4 hT_q | exact co4 hC | exact co2 hC | exact co3 hC | exact co0 hC9 | exact sr0 hR9 | exact co4 hC9 | exact sr3 hR9 | exact sr2 hR9) rfl) dX7_chair_12 (cp_whoOn (k := k - 1) hR_q hr_q hQ_q (by omega) hB_q _ _) ?_
  exact go_iretT (pc := 15) rfl dX7_chair_15 (Nat.le_of_ble_eq_true rfl) (Nat.le_of_ble_eq_true rfl) ⟨by simp only [aChair, hz_q], by simp only [aChair, hz_q]; rw [nI_toInt (by omega), nI_toInt (by omega), whoK_at hza hzb], rfl, hS_q, frS.rf⟩
theorem cp_tide {Γ : gam} {D : Nat} {ro : Nat → Nat} {z0 : sto} {n k a b : Nat} {w : Int32} {K ag pa pf ch co rw bk G : row} {im : Nat → Option Nat} {lm lt lw : Value} (hC : CoAt Γ ro z0 a G im) (hR_q : SrAt Γ ro z0 (a + 14) b w (K 33) ch co rw bk) (hr_q : rS K ch co rw bk) (hQ_q : BrAt Γ D ro z0 b K ag pa pf lm lt lw) (hB_q : okB K) (hg_q : gS K) (hS_q : ScAt Γ ro z0 a) (hD : a + 113 < D) (hsb : b = a + 10 ∨ a + 113 < b) (hk : 12 ≤ k) (z : Int32) : Sp Γ (rmk k 4 24) uX7_tide [.ref a, .int z] z0 n (qT (qI fun v σ' n' => (aTide K z.toInt).1 = 0 ∧ v = (aTide K z.toInt).2 ∧ n' = n ∧ ScAt Γ ro σ' a ∧ frS Γ ro (scr a) z0 σ') (fun x σ' n' => exL [eIA] (aTide K z.toInt).1 x ∧ σ' = z0 ∧ n ≤ n')) := by
  have hP8 := hB_q.1.2.1
  have hH5 := hB_q.1.2.2.2.1
  have hW4 := hB_q.1.2.2.2.2.2
  refine sp_intro [some (.ref a), some (.int z)] (by decide +kernel) rfl (Nat.le_of_ble_eq_true rfl) rfl ?_
  refine go_aload_n (pc := 0) dX7_tide_0 rfl ?_
  refine go_iload_n (pc := 1) dX7_tide_1 rfl ?_
  refine go_iconst (v := 0) (pc := 2) dX7_tide_2 (by decide) ?_
  refine go_sipush (v := 999) (pc := 3) dX7_tide_3 (by decide) ?_
  refine go_V3Vx (pc := 6) v_X7_90 rfl rfl (rcv_of (ci := 7) (by first | exact co0 hC | exact sr0 hR_q | exact be0 hQ_q | exact sr0 hT_q | exact be0 hQ9 | exact sr1 hR_q | exact sr2 hR_q | exact sr3 hR_q | exact sr4 hR_q | exact be1 hQ_q | exact be2 hQ_q | exact be3 hQ_q | exact sr3 hT_q | exact sr2 hT_q | exact sr1 hT_q | exact sr4 hT_q | exact co4 hC | exact co2 hC | exact co3 hC | exact co0 hC9 | exact sr0 hR9 | exact co4 hC9 | exact sr3 hR9 | exact sr2 hR9) rfl) dX7_tide_6 (cp_nW (k := k - 1) (lo := 0) (hi_q := 999) (by omega) (by decide) (by decide) _) (fun x σx nx hx_q => by obtain ⟨h9_q, rfl, rfl, h8_q⟩ := hx_q; exact Or.inr ⟨_, rfl, ⟨0, (by rw [show aTide K z.toInt = (1, 0) from by simp only [aTide, h9_q]]; rfl), rfl⟩, rfl, h8_q⟩) (fun σ n h_q => ?_)
  obtain ⟨⟨j1_q, hj1, rfl, hj1a, hj1b⟩, rfl, rfl⟩ := h_q
  refine go_aload_n (pc := 9) dX7_tide_9 rfl ?_
  refine go_getf (pc := 10) f_X7_65 dX7_tide_10 (by first | exact co0 hC | exact sr0 hR_q | exact be0 hQ_q | exact sr0 hT_q | exact be0 hQ9 | exact sr1 hR_q | exact sr2 hR_q | exact sr3 hR_q | exact sr4 hR_q | exact be1 hQ_q | exact be2 hQ_q | exact be3 hQ_q | exact sr3 hT_q | exact sr2 hT_q | exact sr1 hT_q | exact sr4 hT_q | exact co4 hC | exact co2 hC | exact co3 hC | exact co0 hC9 | exact sr0 hR9 | exact co4 hC9 | exact sr3 hR9 | exact sr2 hR9) (by rfl) ?_
  refine go_getf (pc := 13) f_X7_120 dX7_tide_13 (by first | exact co0 hC | exact sr0 hR_q | exact be0 hQ_q | exact sr0 hT_q | exact be0 hQ9 | exact sr1 hR_q | exact sr2 hR_q | exact sr3 hR_q | exact sr4 hR_q | exact be1 hQ_q | exact be2 hQ_q | exact be3 hQ_q | exact sr3 hT_q | exact sr2 hT_q | exact sr1 hT_q | exact sr4 hT_q | exact co4 hC | exact co2 hC | exact co3 hC | exact co0 hC9 | exact sr0 hR9 | exact co4 hC9 | exact sr3 hR9 | exact sr2 hR9) (by rfl) ?_
  refine go_aload_n (pc := 16) dX7_tide_16 rfl ?_
  refine go_getf (pc := 17) f_X7_65 dX7_tide_17 (by first | exact co0 hC | exact sr0 hR_q | exact be0 hQ_q | exact sr0 hT_q | exact be0 hQ9 | exact sr1 hR_q | exact sr2 hR_q | exact sr3 hR_q | exact sr4 hR_q | exact be1 hQ_q | exact be2 hQ_q | exact be3 hQ_q | exact sr3 hT_q | exact sr2 hT_q | exact sr1 hT_q | exact sr4 hT_q | exact co4 hC | exact co2 hC | exact co3 hC | exact co0 hC9 | exact sr0 hR9 | exact co4 hC9 | exact sr3 hR9 | exact sr2 hR9) (by rfl) ?_
  refine go_getf (pc := 20) f_X7_162 dX7_tide_20 (by first | exact co0 hC | exact sr0 hR_q | exact be0 hQ_q | exact sr0 hT_q | exact be0 hQ9 | exact sr1 hR_q | exact sr2 hR_q | exact sr3 hR_q | exact sr4 hR_q | exact be1 hQ_q | exact be2 hQ_q | exact be3 hQ_q | exact sr3 hT_q | exact sr2 hT_q | exact sr1 hT_q | exact sr4 hT_q | exact co4 hC | exact co2 hC | exact co3 hC | exact co0 hC9 | exact sr0 hR9 | exact co4 hC9 | exact sr3 hR9 | exact sr2 hR9) (by rfl) ?_
  refine go_iload_n (pc := 23) dX7_tide_23 rfl ?_
  refine go_iadd (pc := 24) dX7_tide_24 ?_
  refine go_V1I (pc := 25) v_X7_165 rfl rfl (rcv_of (ci := 0) (by first | exact co0 hC | exact sr0 hR_q | exact be0 hQ_q | exact sr0 hT_q | exact be0 hQ9 | exact sr1 hR_q | exact sr2 hR_q | exact sr3 hR_q | exact sr4 hR_q | exact be1 hQ_q | exact be2 hQ_q | exact be3 hQ_q | exact sr3 hT_q | exact sr2 hT_q | exact sr1 hT_q | exact sr4 hT_q | exact co4 hC | exact co2 hC | exact co3 hC | exact co0 hC9 | exact sr0 hR9 | exact co4 hC9 | exact sr3 hR9 | exact sr2 hR9) rfl) dX7_tide_25 (cp_tideIn (k := k - 1) hQ_q (by omega) hB_q _) (fun v_25 σ n h_q => ?_)
  obtain ⟨rfl, rfl, hf1⟩ := h_q
  have hf2 := hf1.toS (S := scr a) (fun q x y => by omega)
  have hS_q := hS_q.fs hC.1 (hf1.toS (S := fun _ => False) (fun q x y => by omega)) (fun q x z => z)
  exact go_iretT (pc := 28) rfl dX7_tide_28 (Nat.le_of_ble_eq_true rfl) (Nat.le_of_ble_eq_true rfl) ⟨by simp only [aTide, hj1], by simp only [aTide, hj1], rfl, hS_q, hf2⟩
theorem cp_moves {Γ : gam} {D : Nat} {ro : Nat → Nat} {z0 : sto} {n k a b : Nat} {w : Int32} {K ag pa pf ch co rw bk G : row} {im : Nat → Option Nat} {lm lt lw : Value} (hC : CoAt Γ ro z0 a G im) (hR_q : SrAt Γ ro z0 (a + 14) b w (K 33) ch co rw bk) (hr_q : rS K ch co rw bk) (hQ_q : BrAt Γ D ro z0 b K ag pa pf lm lt lw) (hB_q : okB K) (hg_q : gS K) (hS_q : ScAt Γ ro z0 a) (hD : a + 113 < D) (hsb : b = a + 10 ∨ a + 113 < b) (hk : 12 ≤ k) (p c y : Int32) : Sp Γ (rmk k 4 24) uX7_moves [.ref a, .int p, .int c, .int y] z0 n (qT (qI fun v σ' n' => (aMoves K p.toInt c.toInt y.toInt).1 = 0 ∧ v = (aMoves K p.toInt c.toInt y.toInt).2 ∧ n' = n ∧ ScAt Γ ro σ' a ∧ frS Γ ro (scr a) z0 σ') (fun x σ' n' => exL [eNS] (aMoves K p.toInt c.toInt y.toInt).1 x ∧ σ' = z0 ∧ n ≤ n')) := by
  have hP8 := hB_q.1.2.1
  have hH5 := hB_q.1.2.2.2.1
  have hW4 := hB_q.1.2.2.2.2.2
  refine sp_intro [some (.ref a), some (.int p), some (.int c), some (.int y)] (by decide +kernel) rfl (Nat.le_of_ble_eq_true rfl) rfl ?_
  refine go_aload_n (pc := 0) dX7_moves_0 rfl ?_
  refine go_iload_n (pc := 1) dX7_moves_1 rfl ?_
  refine go_V1Vx (pc := 2) v_X7_135 rfl rfl (rcv_of (ci := 7) (by first | exact co0 hC | exact sr0 hR_q | exact be0 hQ_q | exact sr0 hT_q | exact be0 hQ9 | exact sr1 hR_q | exact sr2 hR_q | exact sr3 hR_q | exact sr4 hR_q | exact be1 hQ_q | exact be2 hQ_q | exact be3 hQ_q | exact sr3 hT_q | exact sr2 hT_q | exact sr1 hT_q | exact sr4 hT_q | exact co4 hC | exact co2 hC | exact co3 hC | exact co0 hC9 | exact sr0 hR9 | exact co4 hC9 | exact sr3 hR9 | exact sr2 hR9) rfl) dX7_moves_2 (cp_needPerson (k := k - 1) hC hR_q hr_q hQ_q hB_q (by omega) _) (fun x σx nx hx_q => by obtain ⟨h9_q, rfl, rfl, h8_q⟩ := hx_q; exact Or.inr ⟨_, rfl, ⟨0, (by rw [show aMoves K p.toInt c.toInt y.toInt = (1, 0) from by simp only [aMoves, h9_q]]; rfl), rfl⟩, rfl, h8_q⟩) (fun σ n h_q => ?_)
  obtain ⟨⟨j1_q, hj1, rfl, hj1a⟩, rfl, rfl⟩ := h_q
  refine go_aload_n (pc := 5) dX7_moves_5 rfl ?_
  refine go_iload_n (pc := 6) dX7_moves_6 rfl ?_
  refine go_iload_n (pc := 7) dX7_moves_7 rfl ?_
  refine go_V2Vx (pc := 8) v_X7_127 rfl rfl (rcv_of (ci := 7) (by first | exact co0 hC | exact sr0 hR_q | exact be0 hQ_q | exact sr0 hT_q | exact be0 hQ9 | exact sr1 hR_q | exact sr2 hR_q | exact sr3 hR_q | exact sr4 hR_q | exact be1 hQ_q | exact be2 hQ_q | exact be3 hQ_q | exact sr3 hT_q | exact sr2 hT_q | exact sr1 hT_q | exact sr4 hT_q | exact co4 hC | exact co2 hC | exact co3 hC | exact co0 hC9 | exact sr0 hR9 | exact co4 hC9 | exact sr3 hR9 | exact sr2 hR9) rfl) dX7_moves_8 (cp_needChair (k := k - 1) hC hR_q hr_q hQ_q hB_q (by omega) _ _) (fun x σx nx hx_q => by obtain ⟨h9_q, rfl, rfl, h8_q⟩ := hx_q; exact Or.inr ⟨_, rfl, ⟨0, (by rw [show aMoves K (nI j1_q).toInt c.toInt y.toInt = (1, 0) from by simp only [aMoves, hj1, h9_q]]; rfl), rfl⟩, rfl, h8_q⟩) (fun σ n h_q => ?_)
  obtain ⟨⟨x1_q, x2_q, hz_q, rfl, rfl, hza, hzb⟩, rfl, rfl⟩ := h_q
  refine go_aload_n (pc := 11) dX7_moves_11 rfl ?_
  refine go_getf (pc := 12) f_X7_65 dX7_moves_12 (by first | exact co0 hC | exact sr0 hR_q | exact be0 hQ_q | exact sr0 hT_q | exact be0 hQ9 | exact sr1 hR_q | exact sr2 hR_q | exact sr3 hR_q | exact sr4 hR_q | exact be1 hQ_q | exact be2 hQ_q | exact be3 hQ_q | exact sr3 hT_q | exact sr2 hT_q | exact sr1 hT_q | exact sr4 hT_q | exact co4 hC | exact co2 hC | exact co3 hC | exact co0 hC9 | exact sr0 hR9 | exact co4 hC9 | exact sr3 hR9 | exact sr2 hR9) (by rfl) ?_
  refine go_getf (pc := 15) f_X7_120 dX7_moves_15 (by first | exact co0 hC | exact sr0 hR_q | exact be0 hQ_q | exact sr0 hT_q | exact be0 hQ9 | exact sr1 hR_q | exact sr2 hR_q | exact sr3 hR_q | exact sr4 hR_q | exact be1 hQ_q | exact be2 hQ_q | exact be3 hQ_q | exact sr3 hT_q | exact sr2 hT_q | exact sr1 hT_q | exact sr4 hT_q | exact co4 hC | exact co2 hC | exact co3 hC | exact co0 hC9 | exact sr0 hR9 | exact co4 hC9 | exact sr3 hR9 | exact sr2 hR9) (by rfl) ?_
  refine go_iload_n (pc := 18) dX7_moves_18 rfl ?_
  refine go_iload_n (pc := 19) dX7_moves_19 rfl ?_
  refine go_iload_n (pc := 20) dX7_moves_20 rfl ?_
  refine go_aload_n (pc := 21) dX7_moves_21 rfl ?_
  refine go_getf (pc := 22) f_X7_65 dX7_moves_22 (by first | exact co0 hC | exact sr0 hR_q | exact be0 hQ_q | exact sr0 hT_q | exact be0 hQ9 | exact sr1 hR_q | exact sr2 hR_q | exact sr3 hR_q | exact sr4 hR_q | exact be1 hQ_q | exact be2 hQ_q | exact be3 hQ_q | exact sr3 hT_q | exact sr2 hT_q | exact sr1 hT_q | exact sr4 hT_q | exact co4 hC | exact co2 hC | exact co3 hC | exact co0 hC9 | exact sr0 hR9 | exact co4 hC9 | exact sr3 hR9 | exact sr2 hR9) (by rfl) ?_
  refine go_getf (pc := 25) f_X7_162 dX7_moves_25 (by first | exact co0 hC | exact sr0 hR_q | exact be0 hQ_q | exact sr0 hT_q | exact be0 hQ9 | exact sr1 hR_q | exact sr2 hR_q | exact sr3 hR_q | exact sr4 hR_q | exact be1 hQ_q | exact be2 hQ_q | exact be3 hQ_q | exact sr3 hT_q | exact sr2 hT_q | exact sr1 hT_q | exact sr4 hT_q | exact co4 hC | exact co2 hC | exact co3 hC | exact co0 hC9 | exact sr0 hR9 | exact co4 hC9 | exact sr3 hR9 | exact sr2 hR9) (by rfl) ?_
  refine go_V4I (pc := 28) v_X7_169 rfl rfl (rcv_of (ci := 0) (by first | exact co0 hC | exact sr0 hR_q | exact be0 hQ_q | exact sr0 hT_q | exact be0 hQ9 | exact sr1 hR_q | exact sr2 hR_q | exact sr3 hR_q | exact sr4 hR_q | exact be1 hQ_q | exact be2 hQ_q | exact be3 hQ_q | exact sr3 hT_q | exact sr2 hT_q | exact sr1 hT_q | exact sr4 hT_q | exact co4 hC | exact co2 hC | exact co3 hC | exact co0 hC9 | exact sr0 hR9 | exact co4 hC9 | exact sr3 hR9 | exact sr2 hR9) rfl) dX7_moves_28 (cp_lawful (k := k - 1) hQ_q (by omega) hB_q hj1a _ _) (fun v_28 σ n h_q => ?_)
  obtain ⟨rfl, rfl, hf1⟩ := h_q
  have hf2 := hf1.toS (S := scr a) (fun q x y => by omega)
  have hS_q := hS_q.fs hC.1 (hf1.toS (S := fun _ => False) (fun q x y => by omega)) (fun q x z => z)
  exact go_zretT (pc := 31) rfl (by first | rfl | exact nb_bI) dX7_moves_31 (Nat.le_of_ble_eq_true rfl) (Nat.le_of_ble_eq_true rfl) ⟨by simp only [aMoves, hj1, hz_q], by simp only [aMoves, hj1, hz_q], rfl, hS_q, hf2⟩
theorem cp_wets {Γ : gam} {D : Nat} {ro : Nat → Nat} {z0 : sto} {n k a b : Nat} {w : Int32} {K ag pa pf ch co rw bk G : row} {im : Nat → Option Nat} {lm lt lw : Value} (hC : CoAt Γ ro z0 a G im) (hR_q : SrAt Γ ro z0 (a + 14) b w (K 33) ch co rw bk) (hr_q : rS K ch co rw bk) (hQ_q : BrAt Γ D ro z0 b K ag pa pf lm lt lw) (hB_q : okB K) (hg_q : gS K) (hS_q : ScAt Γ ro z0 a) (hD : a + 113 < D) (hsb : b = a + 10 ∨ a + 113 < b) (hk : 12 ≤ k) (c y z : Int32) : Sp Γ (rmk k 4 24) uX7_wets [.ref a, .int c, .int y, .int z] z0 n (qT (qI fun v σ' n' => (aWets K c.toInt y.toInt z.toInt).1 = 0 ∧ v = (aWets K c.toInt y.toInt z.toInt).2 ∧ n' = n ∧ ScAt Γ ro σ' a ∧ frS Γ ro (scr a) z0 σ') (fun x σ' n' => exL [eNS, eIA] (aWets K c.toInt y.toInt z.toInt).1 x ∧ σ' = z0 ∧ n ≤ n')) := by
  have hP8 := hB_q.1.2.1
  have hH5 := hB_q.1.2.2.2.1
  have hW4 := hB_q.1.2.2.2.2.2
  refine sp_intro [some (.ref a), some (.int c), some (.int y), some (.int z)] (by decide +kernel) rfl (Nat.le_of_ble_eq_true rfl) rfl ?_
  refine go_aload_n (pc := 0) dX7_wets_0 rfl ?_
  refine go_iload_n (pc := 1) dX7_wets_1 rfl ?_
  refine go_iload_n (pc := 2) dX7_wets_2 rfl ?_
  refine go_V2Vx (pc := 3) v_X7_127 rfl rfl (rcv_of (ci := 7) (by first | exact co0 hC | exact sr0 hR_q | exact be0 hQ_q | exact sr0 hT_q | exact be0 hQ9 | exact sr1 hR_q | exact sr2 hR_q | exact sr3 hR_q | exact sr4 hR_q | exact be1 hQ_q | exact be2 hQ_q | exact be3 hQ_q | exact sr3 hT_q | exact sr2 hT_q | exact sr1 hT_q | exact sr4 hT_q | exact co4 hC | exact co2 hC | exact co3 hC | exact co0 hC9 | exact sr0 hR9 | exact co4 hC9 | exact sr3 hR9 | exact sr2 hR9) rfl) dX7_wets_3 (cp_needChair (k := k - 1) hC hR_q hr_q hQ_q hB_q (by omega) _ _) (fun x σx nx hx_q => by obtain ⟨h9_q, rfl, rfl, h8_q⟩ := hx_q; exact Or.inr ⟨_, rfl, ⟨0, (by rw [show aWets K c.toInt y.toInt z.toInt = (1, 0) from by simp only [aWets, h9_q]]; rfl), rfl⟩, rfl, h8_q⟩) (fun σ n h_q => ?_)
  obtain ⟨⟨x1_q, x2_q, hz_q, rfl, rfl, hza, hzb⟩, rfl, rfl⟩ := h_q
  refine go_aload_n (pc := 6) dX7_wets_6 rfl ?_
  refine go_iload_n (pc := 7) dX7_wets_7 rfl ?_
  refine go_iconst (v := 0) (pc := 8) dX7_wets_8 (by decide) ?_
  refine go_sipush (v := 999) (pc := 9) dX7_wets_9 (by decide) ?_
  refine go_V3Vx (pc := 12) v_X7_90 rfl rfl (rcv_of (ci := 7) (by first | exact co0 hC | exact sr0 hR_q | exact be0 hQ_q | exact sr0 hT_q | exact be0 hQ9 | exact sr1 hR_q | exact sr2 hR_q | exact sr3 hR_q | exact sr4 hR_q | exact be1 hQ_q | exact be2 hQ_q | exact be3 hQ_q | exact sr3 hT_q | exact sr2 hT_q | exact sr1 hT_q | exact sr4 hT_q | exact co4 hC | exact co2 hC | exact co3 hC | exact co0 hC9 | exact sr0 hR9 | exact co4 hC9 | exact sr3 hR9 | exact sr2 hR9) rfl) dX7_wets_12 (cp_nW (k := k - 1) (lo := 0) (hi_q := 999) (by omega) (by decide) (by decide) _) (fun x σx nx hx_q => by obtain ⟨h9_q, rfl, rfl, h8_q⟩ := hx_q; exact Or.inr ⟨_, rfl, ⟨1, (by rw [show aWets K (nI x1_q).toInt (nI x2_q).toInt z.toInt = (2, 0) from by simp only [aWets, hz_q, h9_q]]; rfl), rfl⟩, rfl, h8_q⟩) (fun σ n h_q => ?_)
  obtain ⟨⟨j1_q, hj1, rfl, hj1a, hj1b⟩, rfl, rfl⟩ := h_q
  refine go_aload_n (pc := 15) dX7_wets_15 rfl ?_
  refine go_getf (pc := 16) f_X7_65 dX7_wets_16 (by first | exact co0 hC | exact sr0 hR_q | exact be0 hQ_q | exact sr0 hT_q | exact be0 hQ9 | exact sr1 hR_q | exact sr2 hR_q | exact sr3 hR_q | exact sr4 hR_q | exact be1 hQ_q | exact be2 hQ_q | exact be3 hQ_q | exact sr3 hT_q | exact sr2 hT_q | exact sr1 hT_q | exact sr4 hT_q | exact co4 hC | exact co2 hC | exact co3 hC | exact co0 hC9 | exact sr0 hR9 | exact co4 hC9 | exact sr3 hR9 | exact sr2 hR9) (by rfl) ?_
  refine go_getf (pc := 19) f_X7_120 dX7_wets_19 (by first | exact co0 hC | exact sr0 hR_q | exact be0 hQ_q | exact sr0 hT_q | exact be0 hQ9 | exact sr1 hR_q | exact sr2 hR_q | exact sr3 hR_q | exact sr4 hR_q | exact be1 hQ_q | exact be2 hQ_q | exact be3 hQ_q | exact sr3 hT_q | exact sr2 hT_q | exact sr1 hT_q | exact sr4 hT_q | exact co4 hC | exact co2 hC | exact co3 hC | exact co0 hC9 | exact sr0 hR9 | exact co4 hC9 | exact sr3 hR9 | exact sr2 hR9) (by rfl) ?_
  refine go_iload_n (pc := 22) dX7_wets_22 rfl ?_
  refine go_iload_n (pc := 23) dX7_wets_23 rfl ?_
  refine go_aload_n (pc := 24) dX7_wets_24 rfl ?_
  refine go_getf (pc := 25) f_X7_65 dX7_wets_25 (by first | exact co0 hC | exact sr0 hR_q | exact be0 hQ_q | exact sr0 hT_q | exact be0 hQ9 | exact sr1 hR_q | exact sr2 hR_q | exact sr3 hR_q | exact sr4 hR_q | exact be1 hQ_q | exact be2 hQ_q | exact be3 hQ_q | exact sr3 hT_q | exact sr2 hT_q | exact sr1 hT_q | exact sr4 hT_q | exact co4 hC | exact co2 hC | exact co3 hC | exact co0 hC9 | exact sr0 hR9 | exact co4 hC9 | exact sr3 hR9 | exact sr2 hR9) (by rfl) ?_
  refine go_getf (pc := 28) f_X7_162 dX7_wets_28 (by first | exact co0 hC | exact sr0 hR_q | exact be0 hQ_q | exact sr0 hT_q | exact be0 hQ9 | exact sr1 hR_q | exact sr2 hR_q | exact sr3 hR_q | exact sr4 hR_q | exact be1 hQ_q | exact be2 hQ_q | exact be3 hQ_q | exact sr3 hT_q | exact sr2 hT_q | exact sr1 hT_q | exact sr4 hT_q | exact co4 hC | exact co2 hC | exact co3 hC | exact co0 hC9 | exact sr0 hR9 | exact co4 hC9 | exact sr3 hR9 | exact sr2 hR9) (by rfl) ?_
  refine go_iload_n (pc := 31) dX7_wets_31 rfl ?_
  refine go_iadd (pc := 32) dX7_wets_32 ?_
  refine go_V3I (pc := 33) v_X7_173 rfl rfl (rcv_of (ci := 0) (by first | exact co0 hC | exact sr0 hR_q | exact be0 hQ_q | exact sr0 hT_q | exact be0 hQ9 | exact sr1 hR_q | exact sr2 hR_q | exact sr3 hR_q | exact sr4 hR_q | exact be1 hQ_q | exact be2 hQ_q | exact be3 hQ_q | exact sr3 hT_q | exact sr2 hT_q | exact sr1 hT_q | exact sr4 hT_q | exact co4 hC | exact co2 hC | exact co3 hC | exact co0 hC9 | exact sr0 hR9 | exact co4 hC9 | exact sr3 hR9 | exact sr2 hR9) rfl) dX7_wets_33 (cp_waveOn (k := k - 1) hQ_q (by omega) hB_q _ _ _) (fun v_33 σ n h_q => ?_)
  obtain ⟨rfl, rfl, hf1⟩ := h_q
  have hf2 := hf1.toS (S := scr a) (fun q x y => by omega)
  have hS_q := hS_q.fs hC.1 (hf1.toS (S := fun _ => False) (fun q x y => by omega)) (fun q x z => z)
  exact go_iretT (pc := 36) rfl dX7_wets_36 (Nat.le_of_ble_eq_true rfl) (Nat.le_of_ble_eq_true rfl) ⟨by simp only [aWets, hz_q, hj1], by simp only [aWets, hz_q, hj1], rfl, hS_q, hf2⟩
