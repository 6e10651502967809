/-! ===== the class: who has to rise; hands; dry ===== -/
theorem cp_needTwo {Γ : gam} {D : Nat} {ro : Nat → Nat} {z0 : sto} {n k a b : Nat} {w : Int32} {K ag pa pf ch co rw bk G : row} {im : Nat → Option Nat} {lm lt lw : Value} (hC : CoAt Γ ro z0 a G im) (hR_q : SrAt Γ ro z0 (a + 14) b w (K 33) ch co rw bk) (hr_q : rS K ch co rw bk) (hQ_q : BrAt Γ D ro z0 b K ag pa pf lm lt lw) (hB_q : okB K) (hk : 8 ≤ k) (p q : Int32) : Sp Γ (rmk k 3 18) uX7_needTwoWhoSit [.ref a, .int p, .int q] z0 n (qT (qV fun σ' n' => (∃ j1_q x1_q, hoT K p.toInt q.toInt = 0 ∧ p = nI j1_q ∧ q = nI x1_q ∧ j1_q < kP K ∧ x1_q < kP K ∧ j1_q ≠ x1_q ∧ K (16 + j1_q) ≠ -1 ∧ K (16 + x1_q) ≠ -1) ∧ z0 = σ' ∧ n = n') (fun x σ' n' => ((hoT K p.toInt q.toInt = 1 ∧ x = eNS) ∨ (hoT K p.toInt q.toInt = 2 ∧ x = eIA) ∨ (hoT K p.toInt q.toInt = 3 ∧ x = eIS)) ∧ σ' = z0 ∧ n ≤ n')) := by
  have hP8 := hB_q.1.2.1
  have hH5 := hB_q.1.2.2.2.1
  have hW4 := hB_q.1.2.2.2.2.2
  refine sp_intro [some (.ref a), some (.int p), some (.int q)] (by decide +kernel) rfl (Nat.le_of_ble_eq_true rfl) rfl ?_
  refine go_aload_n (pc := 0) dX7_needTwoWhoSit_0 rfl ?_
  refine go_iload_n (pc := 1) dX7_needTwoWhoSit_1 rfl ?_
  refine go_V1Vx (pc := 2) v_X7_135 rfl rfl (rcv_of (ci := 7) (by first | exact co0 hC | exact sr0 hR_q | exact be0 hQ_q | exact sr0 hT_q | exact be0 hQ9 | exact sr1 hR_q | exact sr2 hR_q | exact sr3 hR_q | exact sr4 hR_q | exact be1 hQ_q | exact be2 hQ_q | exact be3 hQ_q | exact sr3 hT_q | exact sr2 hT_q | exact sr1 hT_q | exact sr4 hT_q | exact co4 hC | exact co2 hC | exact co3 hC | exact co0 hC9 | exact sr0 hR9 | exact co4 hC9 | exact sr3 hR9 | exact sr2 hR9) rfl) dX7_needTwoWhoSit_2 (cp_needPerson (k := k - 1) hC hR_q hr_q hQ_q hB_q (by omega) _) (fun x σx nx hx_q => by obtain ⟨h9_q, rfl, rfl, h8_q⟩ := hx_q; exact Or.inr ⟨_, rfl, Or.inl ⟨(by simp only [hoT, h9_q]), rfl⟩, rfl, h8_q⟩) (fun σ n h_q => ?_)
  obtain ⟨⟨j1_q, hj1, rfl, hj1a⟩, rfl, rfl⟩ := h_q
  refine go_aload_n (pc := 5) dX7_needTwoWhoSit_5 rfl ?_
  refine go_iload_n (pc := 6) dX7_needTwoWhoSit_6 rfl ?_
  refine go_V1Vx (pc := 7) v_X7_135 rfl rfl (rcv_of (ci := 7) (by first | exact co0 hC | exact sr0 hR_q | exact be0 hQ_q | exact sr0 hT_q | exact be0 hQ9 | exact sr1 hR_q | exact sr2 hR_q | exact sr3 hR_q | exact sr4 hR_q | exact be1 hQ_q | exact be2 hQ_q | exact be3 hQ_q | exact sr3 hT_q | exact sr2 hT_q | exact sr1 hT_q | exact sr4 hT_q | exact co4 hC | exact co2 hC | exact co3 hC | exact co0 hC9 | exact sr0 hR9 | exact co4 hC9 | exact sr3 hR9 | exact sr2 hR9) rfl) dX7_needTwoWhoSit_7 (cp_needPerson (k := k - 1) hC hR_q hr_q hQ_q hB_q (by omega) _) (fun x σx nx hx_q => by obtain ⟨h9_q, rfl, rfl, h8_q⟩ := hx_q; exact Or.inr ⟨_, rfl, Or.inl ⟨(by simp only [hoT, hj1, h9_q]), rfl⟩, rfl, h8_q⟩) (fun σ n h_q => ?_)
  obtain ⟨⟨x1_q, hx1, rfl, hx1a⟩, rfl, rfl⟩ := h_q
  refine go_iload_n (pc := 10) dX7_needTwoWhoSit_10 rfl ?_
  refine go_iload_n (pc := 11) dX7_needTwoWhoSit_11 rfl ?_
  refine go_icmp_ne (tgt := 26) (pc := 12) dX7_needTwoWhoSit_12 (by decide) (fun h_12 => ?_) (fun h_12 => ?_)
  · refine go_aload_n (pc := 26) dX7_needTwoWhoSit_26 rfl ?_
    refine go_getf (pc := 27) f_X7_65 dX7_needTwoWhoSit_27 (by first | exact co0 hC | exact sr0 hR_q | exact be0 hQ_q | exact sr0 hT_q | exact be0 hQ9 | exact sr1 hR_q | exact sr2 hR_q | exact sr3 hR_q | exact sr4 hR_q | exact be1 hQ_q | exact be2 hQ_q | exact be3 hQ_q | exact sr3 hT_q | exact sr2 hT_q | exact sr1 hT_q | exact sr4 hT_q | exact co4 hC | exact co2 hC | exact co3 hC | exact co0 hC9 | exact sr0 hR9 | exact co4 hC9 | exact sr3 hR9 | exact sr2 hR9) (by rfl) ?_
    refine go_getf (pc := 30) f_X7_141 dX7_needTwoWhoSit_30 (by first | exact co0 hC | exact sr0 hR_q | exact be0 hQ_q | exact sr0 hT_q | exact be0 hQ9 | exact sr1 hR_q | exact sr2 hR_q | exact sr3 hR_q | exact sr4 hR_q | exact be1 hQ_q | exact be2 hQ_q | exact be3 hQ_q | exact sr3 hT_q | exact sr2 hT_q | exact sr1 hT_q | exact sr4 hT_q | exact co4 hC | exact co2 hC | exact co3 hC | exact co0 hC9 | exact sr0 hR9 | exact co4 hC9 | exact sr3 hR9 | exact sr2 hR9) (by rfl) ?_
    refine go_iload_n (pc := 33) dX7_needTwoWhoSit_33 rfl ?_
    refine go_iald (pc := 34) dX7_needTwoWhoSit_34 (by first | exact co0 hC | exact sr0 hR_q | exact be0 hQ_q | exact sr0 hT_q | exact be0 hQ9 | exact sr1 hR_q | exact sr2 hR_q | exact sr3 hR_q | exact sr4 hR_q | exact be1 hQ_q | exact be2 hQ_q | exact be3 hQ_q | exact sr3 hT_q | exact sr2 hT_q | exact sr1 hT_q | exact sr4 hT_q | exact co4 hC | exact co2 hC | exact co3 hC | exact co0 hC9 | exact sr0 hR9 | exact co4 hC9 | exact sr3 hR9 | exact sr2 hR9) (by exact ⟨rfl, by omega⟩) ?_
    rw [(hr_q.1 j1_q hj1a).2.1]
    refine go_iconst (v := -1) (pc := 35) dX7_needTwoWhoSit_35 (by decide) ?_
    refine go_icmp_eq (tgt := 52) (pc := 36) dX7_needTwoWhoSit_36 (by decide) (fun h_36 => ?_) (fun h_36 => ?_)
    · exact go_throwW (si := 24) (pc := 52) th_IS rfl rfl rfl dX7_needTwoWhoSit_52 dX7_needTwoWhoSit_55 dX7_needTwoWhoSit_56 dX7_needTwoWhoSit_59 dX7_needTwoWhoSit_62 (fun n2 hn2 => Or.inr ⟨_, rfl, (by first | exact Or.inr (Or.inl ⟨(by simp only [hoT, hj1, hx1]; exact if_pos ((nI_eq (by omega) (by omega)).mp h_12)), rfl⟩) | exact Or.inr (Or.inr ⟨(by simp only [hoT, hj1, hx1]; rw [if_neg (fun e_q => h_12 (by rw [e_q])), if_pos (Or.inl h_36)]), rfl⟩) | exact Or.inr (Or.inr ⟨(by simp only [hoT, hj1, hx1]; rw [if_neg (fun e_q => h_12 (by rw [e_q])), if_pos (Or.inr h_49)]), rfl⟩)), rfl, hn2⟩)
    · refine go_aload_n (pc := 39) dX7_needTwoWhoSit_39 rfl ?_
      refine go_getf (pc := 40) f_X7_65 dX7_needTwoWhoSit_40 (by first | exact co0 hC | exact sr0 hR_q | exact be0 hQ_q | exact sr0 hT_q | exact be0 hQ9 | exact sr1 hR_q | exact sr2 hR_q | exact sr3 hR_q | exact sr4 hR_q | exact be1 hQ_q | exact be2 hQ_q | exact be3 hQ_q | exact sr3 hT_q | exact sr2 hT_q | exact sr1 hT_q | exact sr4 hT_q | exact co4 hC | exact co2 hC | exact co3 hC | exact co0 hC9 | exact sr0 hR9 | exact co4 hC9 | exact sr3 hR9 | exact sr2 hR9) (by rfl) ?_
      refine go_getf (pc := 43) f_X7_141 dX7_needTwoWhoSit_43 (by first | exact co0 hC | exact sr0 hR_q | exact be0 hQ_q | exact sr0 hT_q | exact be0 hQ9 | exact sr1 hR_q | exact sr2 hR_q | exact sr3 hR_q | exact sr4 hR_q | exact be1 hQ_q | exact be2 hQ_q | exact be3 hQ_q | exact sr3 hT_q | exact sr2 hT_q | exact sr1 hT_q | exact sr4 hT_q | exact co4 hC | exact co2 hC | exact co3 hC | exact co0 hC9 | exact sr0 hR9 | exact co4 hC9 | exact sr3 hR9 | exact sr2 hR9) (by rfl) ?_
      refine go_iload_n (pc := 46) dX7_needTwoWhoSit_46 rfl ?_
      refine go_iald (pc := 47) dX7_needTwoWhoSit_47 (by first | exact co0 hC | exact sr0 hR_q | exact be0 hQ_q | exact sr0 hT_q | exact be0 hQ9 | exact sr1 hR_q | exact sr2 hR_q | exact sr3 hR_q | exact sr4 hR_q | exact be1 hQ_q | exact be2 hQ_q | exact be3 hQ_q | exact sr3 hT_q | exact sr2 hT_q | exact sr1 hT_q | exact sr4 hT_q | exact co4 hC | exact co2 hC | exact co3 hC | exact co0 hC9 | exact sr0 hR9 | exact co4 hC9 | exact sr3 hR9 | exact sr2 hR9) (by exact ⟨rfl, by omega⟩) ?_
      rw [(hr_q.1 x1_q hx1a).2.1]
      refine go_iconst (v := -1) (pc := 48) dX7_needTwoWhoSit_48 (by decide) ?_
      refine go_icmp_ne (tgt := 63) (pc := 49) dX7_needTwoWhoSit_49 (by decide) (fun h_49 => ?_) (fun h_49 => ?_)
      · exact go_vretT (pc := 63) rfl dX7_needTwoWhoSit_63 (Nat.le_of_ble_eq_true rfl) (Nat.le_of_ble_eq_true rfl) ⟨⟨j1_q, x1_q, (by simp only [hoT, hj1, hx1]; rw [if_neg (fun e_q => h_12 (by rw [e_q])), if_neg (fun e_q => e_q.elim h_36 h_49)]), rfl, rfl, hj1a, hx1a, (fun e_q => h_12 (by rw [e_q])), h_36, h_49⟩, rfl, rfl⟩
      · exact go_throwW (si := 24) (pc := 52) th_IS rfl rfl rfl dX7_needTwoWhoSit_52 dX7_needTwoWhoSit_55 dX7_needTwoWhoSit_56 dX7_needTwoWhoSit_59 dX7_needTwoWhoSit_62 (fun n2 hn2 => Or.inr ⟨_, rfl, (by first | exact Or.inr (Or.inl ⟨(by simp only [hoT, hj1, hx1]; exact if_pos ((nI_eq (by omega) (by omega)).mp h_12)), rfl⟩) | exact Or.inr (Or.inr ⟨(by simp only [hoT, hj1, hx1]; rw [if_neg (fun e_q => h_12 (by rw [e_q])), if_pos (Or.inl h_36)]), rfl⟩) | exact Or.inr (Or.inr ⟨(by simp only [hoT, hj1, hx1]; rw [if_neg (fun e_q => h_12 (by rw [e_q])), if_pos (Or.inr h_49)]), rfl⟩)), rfl, hn2⟩)
  · exact go_throwW (si := 23) (pc := 15) th_IA rfl rfl rfl dX7_needTwoWhoSit_15 dX7_needTwoWhoSit_18 dX7_needTwoWhoSit_19 dX7_needTwoWhoSit_22 dX7_needTwoWhoSit_25 (fun n2 hn2 => Or.inr ⟨_, rfl, (by first | exact Or.inr (Or.inl ⟨(by simp only [hoT, hj1, hx1]; exact if_pos ((nI_eq (by omega) (by omega)).mp h_12)), rfl⟩) | exact Or.inr (Or.inr ⟨(by simp only [hoT, hj1, hx1]; rw [if_neg (fun e_q => h_12 (by rw [e_q])), if_pos (Or.inl h_36)]), rfl⟩) | exact Or.inr (Or.inr ⟨(by simp only [hoT, hj1, hx1]; rw [if_neg (fun e_q => h_12 (by rw [e_q])), if_pos (Or.inr h_49)]), rfl⟩)), rfl, hn2⟩)
theorem cp_hands {Γ : gam} {D : Nat} {ro : Nat → Nat} {z0 : sto} {n k a b : Nat} {w : Int32} {K ag pa pf ch co rw bk G : row} {im : Nat → Option Nat} {lm lt lw : Value} (hC : CoAt Γ ro z0 a G im) (hR_q : SrAt Γ ro z0 (a + 14) b w (K 33) ch co rw bk) (hr_q : rS K ch co rw bk) (hQ_q : BrAt Γ D ro z0 b K ag pa pf lm lt lw) (hB_q : okB K) (hg_q : gS K) (hS_q : ScAt Γ ro z0 a) (hD : a + 113 < D) (hsb : b = a + 10 ∨ a + 113 < b) (hk : 12 ≤ k) (p q : Int32) : Sp Γ (rmk k 4 24) uX7_hands [.ref a, .int p, .int q] z0 n (qT (qI fun v σ' n' => (aHands K p.toInt q.toInt).1 = 0 ∧ v = (aHands K p.toInt q.toInt).2 ∧ n' = n ∧ ScAt Γ ro σ' a ∧ frS Γ ro (scr a) z0 σ') (fun x σ' n' => exL [eNS, eIA, eIS] (aHands K p.toInt q.toInt).1 x ∧ σ' = z0 ∧ n ≤ n')) := by
  have hP8 := hB_q.1.2.1
  have hH5 := hB_q.1.2.2.2.1
  have hW4 := hB_q.1.2.2.2.2.2
  refine sp_intro [some (.ref a), some (.int p), some (.int q)] (by decide +kernel) rfl (Nat.le_of_ble_eq_true rfl) rfl ?_
  refine go_aload_n (pc := 0) dX7_hands_0 rfl ?_
  refine go_iload_n (pc := 1) dX7_hands_1 rfl ?_
  refine go_iload_n (pc := 2) dX7_hands_2 rfl ?_
  refine go_V2Vx (pc := 3) v_X7_285 rfl rfl (rcv_of (ci := 7) (by first | exact co0 hC | exact sr0 hR_q | exact be0 hQ_q | exact sr0 hT_q | exact be0 hQ9 | exact sr1 hR_q | exact sr2 hR_q | exact sr3 hR_q | exact sr4 hR_q | exact be1 hQ_q | exact be2 hQ_q | exact be3 hQ_q | exact sr3 hT_q | exact sr2 hT_q | exact sr1 hT_q | exact sr4 hT_q | exact co4 hC | exact co2 hC | exact co3 hC | exact co0 hC9 | exact sr0 hR9 | exact co4 hC9 | exact sr3 hR9 | exact sr2 hR9) rfl) dX7_hands_3 (cp_needTwo (k := k - 1) hC hR_q hr_q hQ_q hB_q (by omega) _ _) (fun x σx nx hx_q => by obtain ⟨h9_q, rfl, h8_q⟩ := hx_q; rcases h9_q with ⟨h9_q, rfl⟩ | ⟨h9_q, rfl⟩ | ⟨h9_q, rfl⟩ <;> first | exact Or.inr ⟨_, rfl, ⟨0, (by rw [show aHands K p.toInt q.toInt = (1, 0) from by rw [aHands, h9_q, if_pos (by decide)]]; rfl), rfl⟩, rfl, h8_q⟩ | exact Or.inr ⟨_, rfl, ⟨1, (by rw [show aHands K p.toInt q.toInt = (2, 0) from by rw [aHands, h9_q, if_pos (by decide)]]; rfl), rfl⟩, rfl, h8_q⟩ | exact Or.inr ⟨_, rfl, ⟨2, (by rw [show aHands K p.toInt q.toInt = (3, 0) from by rw [aHands, h9_q, if_pos (by decide)]]; rfl), rfl⟩, rfl, h8_q⟩) (fun σ n h_q => ?_)
  obtain ⟨⟨j1_q, x1_q, h0_q, rfl, rfl, hj1, hx1, hjx, hu1, hu2⟩, rfl, rfl⟩ := h_q
  have e1_q : (nI j1_q).toInt.toNat = j1_q := by rw [nI_toInt (by omega)]; rfl
  have e2_q : (nI x1_q).toInt.toNat = x1_q := by rw [nI_toInt (by omega)]; rfl
  refine go_aload_n (pc := 6) dX7_hands_6 rfl ?_
  refine go_getf (pc := 7) f_X7_65 dX7_hands_7 (by first | exact co0 hC | exact sr0 hR_q | exact be0 hQ_q | exact sr0 hT_q | exact be0 hQ9 | exact sr1 hR_q | exact sr2 hR_q | exact sr3 hR_q | exact sr4 hR_q | exact be1 hQ_q | exact be2 hQ_q | exact be3 hQ_q | exact sr3 hT_q | exact sr2 hT_q | exact sr1 hT_q | exact sr4 hT_q | exact co4 hC | exact co2 hC | exact co3 hC | exact co0 hC9 | exact sr0 hR9 | exact co4 hC9 | exact sr3 hR9 | exact sr2 hR9) (by rfl) ?_
  refine go_iconst (v := 1) (pc := 10) dX7_hands_10 (by decide) ?_
  refine go_iload_n (pc := 11) dX7_hands_11 rfl ?_
  refine go_ishl (pc := 12) dX7_hands_12 ?_
  refine go_iload_n (pc := 13) dX7_hands_13 rfl ?_
  refine go_iconst (v := 0) (pc := 14) dX7_hands_14 (by decide) ?_
  refine go_V3P (pc := 15) v_X7_288 rfl rfl (rcv_of (ci := 5) (by first | exact co0 hC | exact sr0 hR_q | exact be0 hQ_q | exact sr0 hT_q | exact be0 hQ9 | exact sr1 hR_q | exact sr2 hR_q | exact sr3 hR_q | exact sr4 hR_q | exact be1 hQ_q | exact be2 hQ_q | exact be3 hQ_q | exact sr3 hT_q | exact sr2 hT_q | exact sr1 hT_q | exact sr4 hT_q | exact co4 hC | exact co2 hC | exact co3 hC | exact co0 hC9 | exact sr0 hR9 | exact co4 hC9 | exact sr3 hR9 | exact sr2 hR9) rfl) dX7_hands_15 (cp_between (k := k - 1) hR_q hr_q hQ_q hB_q hg_q (by omega) (setP_bit (p := j1_q) (by omega)) _ an_c) ?_
  exact go_iretT (pc := 18) rfl dX7_hands_18 (Nat.le_of_ble_eq_true rfl) (Nat.le_of_ble_eq_true rfl) ⟨(by rw [aHands, if_neg (fun hc_q => hc_q h0_q)]), (by rw [aHands, if_neg (fun hc_q => hc_q h0_q), e1_q, e2_q]), rfl, hS_q, frS.rf⟩
theorem cp_cut {Γ : gam} {D : Nat} {ro : Nat → Nat} {z0 : sto} {n k a b : Nat} {w : Int32} {K ag pa pf ch co rw bk G : row} {im : Nat → Option Nat} {lm lt lw : Value} (hC : CoAt Γ ro z0 a G im) (hR_q : SrAt Γ ro z0 (a + 14) b w (K 33) ch co rw bk) (hr_q : rS K ch co rw bk) (hQ_q : BrAt Γ D ro z0 b K ag pa pf lm lt lw) (hB_q : okB K) (hg_q : gS K) (hS_q : ScAt Γ ro z0 a) (hD : a + 113 < D) (hsb : b = a + 10 ∨ a + 113 < b) (hk : 12 ≤ k) (p q : Int32) : Sp Γ (rmk k 4 24) uX7_cut [.ref a, .int p, .int q] z0 n (qT (qI fun v σ' n' => (aCut K p.toInt q.toInt).1 = 0 ∧ v = (aCut K p.toInt q.toInt).2 ∧ n' = n ∧ ScAt Γ ro σ' a ∧ frS Γ ro (scr a) z0 σ') (fun x σ' n' => exL [eNS, eIA, eIS] (aCut K p.toInt q.toInt).1 x ∧ σ' = z0 ∧ n ≤ n')) := by
  have hP8 := hB_q.1.2.1
  have hH5 := hB_q.1.2.2.2.1
  have hW4 := hB_q.1.2.2.2.2.2
  refine sp_intro [some (.ref a), some (.int p), some (.int q), none, none] (by decide +kernel) rfl (Nat.le_of_ble_eq_true rfl) rfl ?_
  refine go_aload_n (pc := 0) dX7_cut_0 rfl ?_
  refine go_iload_n (pc := 1) dX7_cut_1 rfl ?_
  refine go_iload_n (pc := 2) dX7_cut_2 rfl ?_
  refine go_V2Vx (pc := 3) v_X7_285 rfl rfl (rcv_of (ci := 7) (by first | exact co0 hC | exact sr0 hR_q | exact be0 hQ_q | exact sr0 hT_q | exact be0 hQ9 | exact sr1 hR_q | exact sr2 hR_q | exact sr3 hR_q | exact sr4 hR_q | exact be1 hQ_q | exact be2 hQ_q | exact be3 hQ_q | exact sr3 hT_q | exact sr2 hT_q | exact sr1 hT_q | exact sr4 hT_q | exact co4 hC | exact co2 hC | exact co3 hC | exact co0 hC9 | exact sr0 hR9 | exact co4 hC9 | exact sr3 hR9 | exact sr2 hR9) rfl) dX7_cut_3 (cp_needTwo (k := k - 1) hC hR_q hr_q hQ_q hB_q (by omega) _ _) (fun x σx nx hx_q => by obtain ⟨h9_q, rfl, h8_q⟩ := hx_q; rcases h9_q with ⟨h9_q, rfl⟩ | ⟨h9_q, rfl⟩ | ⟨h9_q, rfl⟩ <;> first | exact Or.inr ⟨_, rfl, ⟨0, (by rw [show aCut K p.toInt q.toInt = (1, 0) from by rw [aCut, h9_q, if_pos (by decide)]]; rfl), rfl⟩, rfl, h8_q⟩ | exact Or.inr ⟨_, rfl, ⟨1, (by rw [show aCut K p.toInt q.toInt = (2, 0) from by rw [aCut, h9_q, if_pos (by decide)]]; rfl), rfl⟩, rfl, h8_q⟩ | exact Or.inr ⟨_, rfl, ⟨2, (by rw [show aCut K p.toInt q.toInt = (3, 0) from by rw [aCut, h9_q, if_pos (by decide)]]; rfl), rfl⟩, rfl, h8_q⟩) (fun σ n h_q => ?_)
  obtain ⟨⟨j1_q, x1_q, h0_q, rfl, rfl, hj1, hx1, hjx, hu1, hu2⟩, rfl, rfl⟩ := h_q
  have e1_q : (nI j1_q).toInt.toNat = j1_q := by rw [nI_toInt (by omega)]; rfl
  have e2_q : (nI x1_q).toInt.toNat = x1_q := by rw [nI_toInt (by omega)]; rfl
  refine go_aload_n (pc := 6) dX7_cut_6 rfl ?_
  refine go_getf (pc := 7) f_X7_65 dX7_cut_7 (by first | exact co0 hC | exact sr0 hR_q | exact be0 hQ_q | exact sr0 hT_q | exact be0 hQ9 | exact sr1 hR_q | exact sr2 hR_q | exact sr3 hR_q | exact sr4 hR_q | exact be1 hQ_q | exact be2 hQ_q | exact be3 hQ_q | exact sr3 hT_q | exact sr2 hT_q | exact sr1 hT_q | exact sr4 hT_q | exact co4 hC | exact co2 hC | exact co3 hC | exact co0 hC9 | exact sr0 hR9 | exact co4 hC9 | exact sr3 hR9 | exact sr2 hR9) (by rfl) ?_
  refine go_iconst (v := 1) (pc := 10) dX7_cut_10 (by decide) ?_
  refine go_iload_n (pc := 11) dX7_cut_11 rfl ?_
  refine go_ishl (pc := 12) dX7_cut_12 ?_
  refine go_iload_n (pc := 13) dX7_cut_13 rfl ?_
  refine go_iconst (v := 0) (pc := 14) dX7_cut_14 (by decide) ?_
  refine go_V3P (pc := 15) v_X7_288 rfl rfl (rcv_of (ci := 5) (by first | exact co0 hC | exact sr0 hR_q | exact be0 hQ_q | exact sr0 hT_q | exact be0 hQ9 | exact sr1 hR_q | exact sr2 hR_q | exact sr3 hR_q | exact sr4 hR_q | exact be1 hQ_q | exact be2 hQ_q | exact be3 hQ_q | exact sr3 hT_q | exact sr2 hT_q | exact sr1 hT_q | exact sr4 hT_q | exact co4 hC | exact co2 hC | exact co3 hC | exact co0 hC9 | exact sr0 hR9 | exact co4 hC9 | exact sr3 hR9 | exact sr2 hR9) rfl) dX7_cut_15 (cp_between (k := k - 1) hR_q hr_q hQ_q hB_q hg_q (by omega) (setP_bit (p := j1_q) (by omega)) _ an_c) ?_
  refine go_iconst (v := -1) (pc := 18) dX7_cut_18 (by decide) ?_
  refine go_icmp_ne (tgt := 24) (pc := 19) dX7_cut_19 (by decide) (fun h_19 => ?_) (fun h_19 => ?_)
  · refine go_iconst (v := 0) (pc := 24) dX7_cut_24 (by decide) ?_
    refine go_istore_n (lw := [_, _, _, _, _]) (pc := 25) dX7_cut_25 (by decide) rfl ?_
    refine go_iconst (v := 0) (pc := 26) dX7_cut_26 (by decide) ?_
    refine go_istore (lw := [_, _, _, _, _]) (pc := 27) dX7_cut_27 (by decide) rfl ?_
    refine go_iter (kP K) (fun i_q lv9 s9 n9 => ∃ (x9_q : Int32), lv9 = [some (.ref a), some (.int (nI j1_q)), some (.int (nI x1_q)), some (.int x9_q), some (.int (nI i_q))] ∧ (bits (fun w => decide (w ≠ j1_q ∧ w ≠ x1_q ∧ hfK K (bit1 j1_q) (nI x1_q) (nI w) = -1)) (kP K - i_q) i_q x9_q = bits (fun w => decide (w ≠ j1_q ∧ w ≠ x1_q ∧ hfK K (bit1 j1_q) (nI x1_q) (nI w) = -1)) (kP K) 0 0) ∧ (z0 = s9) ∧ n = n9) ⟨0, rfl, rfl, rfl, rfl⟩ ?_ ?_
    · rintro i_q lv9 σ n9 hi_q ⟨x9_q, rfl, hR9, rfl, rfl⟩ ih_q
      refine go_iload (pc := 29) dX7_cut_29 rfl ?_
      refine go_aload_n (pc := 31) dX7_cut_31 rfl ?_
      refine go_getf (pc := 32) f_X7_65 dX7_cut_32 (by first | exact co0 hC | exact sr0 hR_q | exact be0 hQ_q | exact sr0 hT_q | exact be0 hQ9 | exact sr1 hR_q | exact sr2 hR_q | exact sr3 hR_q | exact sr4 hR_q | exact be1 hQ_q | exact be2 hQ_q | exact be3 hQ_q | exact sr3 hT_q | exact sr2 hT_q | exact sr1 hT_q | exact sr4 hT_q | exact co4 hC | exact co2 hC | exact co3 hC | exact co0 hC9 | exact sr0 hR9 | exact co4 hC9 | exact sr3 hR9 | exact sr2 hR9) (by rfl) ?_
      refine go_getf (pc := 35) f_X7_120 dX7_cut_35 (by first | exact co0 hC | exact sr0 hR_q | exact be0 hQ_q | exact sr0 hT_q | exact be0 hQ9 | exact sr1 hR_q | exact sr2 hR_q | exact sr3 hR_q | exact sr4 hR_q | exact be1 hQ_q | exact be2 hQ_q | exact be3 hQ_q | exact sr3 hT_q | exact sr2 hT_q | exact sr1 hT_q | exact sr4 hT_q | exact co4 hC | exact co2 hC | exact co3 hC | exact co0 hC9 | exact sr0 hR9 | exact co4 hC9 | exact sr3 hR9 | exact sr2 hR9) (by rfl) ?_
      refine go_getf (pc := 38) f_X7_263 dX7_cut_38 (by first | exact co0 hC | exact sr0 hR_q | exact be0 hQ_q | exact sr0 hT_q | exact be0 hQ9 | exact sr1 hR_q | exact sr2 hR_q | exact sr3 hR_q | exact sr4 hR_q | exact be1 hQ_q | exact be2 hQ_q | exact be3 hQ_q | exact sr3 hT_q | exact sr2 hT_q | exact sr1 hT_q | exact sr4 hT_q | exact co4 hC | exact co2 hC | exact co3 hC | exact co0 hC9 | exact sr0 hR9 | exact co4 hC9 | exact sr3 hR9 | exact sr2 hR9) (by rfl) ?_
      refine go_icmp_ge (tgt := 88) (pc := 41) dX7_cut_41 (by decide) (fun h_41 => by exfalso; rw [hB_q.1.1] at h_41; exact absurd h_41 (nI_ge (by omega) (by omega))) (fun h_41 => ?_)
      refine go_iload (pc := 44) dX7_cut_44 rfl ?_
      refine go_iload_n (pc := 46) dX7_cut_46 rfl ?_
      refine go_icmp_eq (tgt := 82) (pc := 47) dX7_cut_47 (by decide) (fun h_47 => ?_) (fun h_47 => ?_)
      · refine go_iinc (v := 1) (lw := [_, _, _, _, _]) (pc := 82) dX7_cut_82 rfl (by decide) (by decide) rfl ?_
        refine go_goto (tgt := 29) (pc := 85) dX7_cut_85 (by decide) ?_
        rw [nI_1]
        first
          | (have g9_q : i_q = j1_q := (nI_eq (by omega) (by omega)).mp h_47
             refine ih_q _ _ _ ⟨_, rfl, ?_, rfl, rfl⟩
             rw [← hR9, bits_step hi_q, if_neg (by simp [g9_q])]; simp)
          | (have g9_q : i_q = x1_q := (nI_eq (by omega) (by omega)).mp h_53
             refine ih_q _ _ _ ⟨_, rfl, ?_, rfl, rfl⟩
             rw [← hR9, bits_step hi_q, if_neg (by simp [g9_q])]; simp)
          | (have g9_q : ¬ hfK K (bit1 j1_q) (nI x1_q) (nI i_q) = -1 := h_72
             refine ih_q _ _ _ ⟨_, rfl, ?_, rfl, rfl⟩
             rw [← hR9, bits_step hi_q, if_neg (by simp [g9_q])]; simp)
          | (have g9_q : hfK K (bit1 j1_q) (nI x1_q) (nI i_q) = -1 := h_72
             refine ih_q _ _ _ ⟨_, rfl, ?_, rfl, rfl⟩
             rw [← hR9, bits_step hi_q, if_pos (by simp only [decide_eq_true_eq]; exact ⟨fun e_q => h_47 (by rw [e_q]), fun e_q => h_53 (by rw [e_q]), g9_q⟩)])
      · refine go_iload (pc := 50) dX7_cut_50 rfl ?_
        refine go_iload_n (pc := 52) dX7_cut_52 rfl ?_
        refine go_icmp_eq (tgt := 82) (pc := 53) dX7_cut_53 (by decide) (fun h_53 => ?_) (fun h_53 => ?_)
        · refine go_iinc (v := 1) (lw := [_, _, _, _, _]) (pc := 82) dX7_cut_82 rfl (by decide) (by decide) rfl ?_
          refine go_goto (tgt := 29) (pc := 85) dX7_cut_85 (by decide) ?_
          rw [nI_1]
          first
            | (have g9_q : i_q = j1_q := (nI_eq (by omega) (by omega)).mp h_47
               refine ih_q _ _ _ ⟨_, rfl, ?_, rfl, rfl⟩
               rw [← hR9, bits_step hi_q, if_neg (by simp [g9_q])]; simp)
            | (have g9_q : i_q = x1_q := (nI_eq (by omega) (by omega)).mp h_53
               refine ih_q _ _ _ ⟨_, rfl, ?_, rfl, rfl⟩
               rw [← hR9, bits_step hi_q, if_neg (by simp [g9_q])]; simp)
            | (have g9_q : ¬ hfK K (bit1 j1_q) (nI x1_q) (nI i_q) = -1 := h_72
               refine ih_q _ _ _ ⟨_, rfl, ?_, rfl, rfl⟩
               rw [← hR9, bits_step hi_q, if_neg (by simp [g9_q])]; simp)
            | (have g9_q : hfK K (bit1 j1_q) (nI x1_q) (nI i_q) = -1 := h_72
               refine ih_q _ _ _ ⟨_, rfl, ?_, rfl, rfl⟩
               rw [← hR9, bits_step hi_q, if_pos (by simp only [decide_eq_true_eq]; exact ⟨fun e_q => h_47 (by rw [e_q]), fun e_q => h_53 (by rw [e_q]), g9_q⟩)])
        · refine go_aload_n (pc := 56) dX7_cut_56 rfl ?_
          refine go_getf (pc := 57) f_X7_65 dX7_cut_57 (by first | exact co0 hC | exact sr0 hR_q | exact be0 hQ_q | exact sr0 hT_q | exact be0 hQ9 | exact sr1 hR_q | exact sr2 hR_q | exact sr3 hR_q | exact sr4 hR_q | exact be1 hQ_q | exact be2 hQ_q | exact be3 hQ_q | exact sr3 hT_q | exact sr2 hT_q | exact sr1 hT_q | exact sr4 hT_q | exact co4 hC | exact co2 hC | exact co3 hC | exact co0 hC9 | exact sr0 hR9 | exact co4 hC9 | exact sr3 hR9 | exact sr2 hR9) (by rfl) ?_
          refine go_iconst (v := 1) (pc := 60) dX7_cut_60 (by decide) ?_
          refine go_iload_n (pc := 61) dX7_cut_61 rfl ?_
          refine go_ishl (pc := 62) dX7_cut_62 ?_
          refine go_iload_n (pc := 63) dX7_cut_63 rfl ?_
          refine go_iconst (v := 1) (pc := 64) dX7_cut_64 (by decide) ?_
          refine go_iload (pc := 65) dX7_cut_65 rfl ?_
          refine go_ishl (pc := 67) dX7_cut_67 ?_
          refine go_V3P (pc := 68) v_X7_288 rfl rfl (rcv_of (ci := 5) (by first | exact co0 hC | exact sr0 hR_q | exact be0 hQ_q | exact sr0 hT_q | exact be0 hQ9 | exact sr1 hR_q | exact sr2 hR_q | exact sr3 hR_q | exact sr4 hR_q | exact be1 hQ_q | exact be2 hQ_q | exact be3 hQ_q | exact sr3 hT_q | exact sr2 hT_q | exact sr1 hT_q | exact sr4 hT_q | exact co4 hC | exact co2 hC | exact co3 hC | exact co0 hC9 | exact sr0 hR9 | exact co4 hC9 | exact sr3 hR9 | exact sr2 hR9) rfl) dX7_cut_68 (cp_between (k := k - 1) hR_q hr_q hQ_q hB_q hg_q (by omega) (setP_bit (p := j1_q) (by omega)) _ (an_b (w := i_q) (by omega))) ?_
          refine go_iconst (v := -1) (pc := 71) dX7_cut_71 (by decide) ?_
          refine go_icmp_ne (tgt := 82) (pc := 72) dX7_cut_72 (by decide) (fun h_72 => ?_) (fun h_72 => ?_)
          · refine go_iinc (v := 1) (lw := [_, _, _, _, _]) (pc := 82) dX7_cut_82 rfl (by decide) (by decide) rfl ?_
            refine go_goto (tgt := 29) (pc := 85) dX7_cut_85 (by decide) ?_
            rw [nI_1]
            first
              | (have g9_q : i_q = j1_q := (nI_eq (by omega) (by omega)).mp h_47
                 refine ih_q _ _ _ ⟨_, rfl, ?_, rfl, rfl⟩
                 rw [← hR9, bits_step hi_q, if_neg (by simp [g9_q])]; simp)
              | (have g9_q : i_q = x1_q := (nI_eq (by omega) (by omega)).mp h_53
                 refine ih_q _ _ _ ⟨_, rfl, ?_, rfl, rfl⟩
                 rw [← hR9, bits_step hi_q, if_neg (by simp [g9_q])]; simp)
              | (have g9_q : ¬ hfK K (bit1 j1_q) (nI x1_q) (nI i_q) = -1 := h_72
                 refine ih_q _ _ _ ⟨_, rfl, ?_, rfl, rfl⟩
                 rw [← hR9, bits_step hi_q, if_neg (by simp [g9_q])]; simp)
              | (have g9_q : hfK K (bit1 j1_q) (nI x1_q) (nI i_q) = -1 := h_72
                 refine ih_q _ _ _ ⟨_, rfl, ?_, rfl, rfl⟩
                 rw [← hR9, bits_step hi_q, if_pos (by simp only [decide_eq_true_eq]; exact ⟨fun e_q => h_47 (by rw [e_q]), fun e_q => h_53 (by rw [e_q]), g9_q⟩)])
          · refine go_iload_n (pc := 75) dX7_cut_75 rfl ?_
            refine go_iconst (v := 1) (pc := 76) dX7_cut_76 (by decide) ?_
            refine go_iload (pc := 77) dX7_cut_77 rfl ?_
            refine go_ishl (pc := 79) dX7_cut_79 ?_
            refine go_ior (pc := 80) dX7_cut_80 ?_
            refine go_istore_n (lw := [_, _, _, _, _]) (pc := 81) dX7_cut_81 (by decide) rfl ?_
            refine go_iinc (v := 1) (lw := [_, _, _, _, _]) (pc := 82) dX7_cut_82 rfl (by decide) (by decide) rfl ?_
            refine go_goto (tgt := 29) (pc := 85) dX7_cut_85 (by decide) ?_
            rw [nI_1]
            first
              | (have g9_q : i_q = j1_q := (nI_eq (by omega) (by omega)).mp h_47
                 refine ih_q _ _ _ ⟨_, rfl, ?_, rfl, rfl⟩
                 rw [← hR9, bits_step hi_q, if_neg (by simp [g9_q])]; simp)
              | (have g9_q : i_q = x1_q := (nI_eq (by omega) (by omega)).mp h_53
                 refine ih_q _ _ _ ⟨_, rfl, ?_, rfl, rfl⟩
                 rw [← hR9, bits_step hi_q, if_neg (by simp [g9_q])]; simp)
              | (have g9_q : ¬ hfK K (bit1 j1_q) (nI x1_q) (nI i_q) = -1 := h_72
                 refine ih_q _ _ _ ⟨_, rfl, ?_, rfl, rfl⟩
                 rw [← hR9, bits_step hi_q, if_neg (by simp [g9_q])]; simp)
              | (have g9_q : hfK K (bit1 j1_q) (nI x1_q) (nI i_q) = -1 := h_72
                 refine ih_q _ _ _ ⟨_, rfl, ?_, rfl, rfl⟩
                 rw [← hR9, bits_step hi_q, if_pos (by simp only [decide_eq_true_eq]; exact ⟨fun e_q => h_47 (by rw [e_q]), fun e_q => h_53 (by rw [e_q]), g9_q⟩)])
    · rintro lv9 σ n9 ⟨x9_q, rfl, hR9, rfl, rfl⟩
      refine go_iload (pc := 29) dX7_cut_29 rfl ?_
      refine go_aload_n (pc := 31) dX7_cut_31 rfl ?_
      refine go_getf (pc := 32) f_X7_65 dX7_cut_32 (by first | exact co0 hC | exact sr0 hR_q | exact be0 hQ_q | exact sr0 hT_q | exact be0 hQ9 | exact sr1 hR_q | exact sr2 hR_q | exact sr3 hR_q | exact sr4 hR_q | exact be1 hQ_q | exact be2 hQ_q | exact be3 hQ_q | exact sr3 hT_q | exact sr2 hT_q | exact sr1 hT_q | exact sr4 hT_q | exact co4 hC | exact co2 hC | exact co3 hC | exact co0 hC9 | exact sr0 hR9 | exact co4 hC9 | exact sr3 hR9 | exact sr2 hR9) (by rfl) ?_
      refine go_getf (pc := 35) f_X7_120 dX7_cut_35 (by first | exact co0 hC | exact sr0 hR_q | exact be0 hQ_q | exact sr0 hT_q | exact be0 hQ9 | exact sr1 hR_q | exact sr2 hR_q | exact sr3 hR_q | exact sr4 hR_q | exact be1 hQ_q | exact be2 hQ_q | exact be3 hQ_q | exact sr3 hT_q | exact sr2 hT_q | exact sr1 hT_q | exact sr4 hT_q | exact co4 hC | exact co2 hC | exact co3 hC | exact co0 hC9 | exact sr0 hR9 | exact co4 hC9 | exact sr3 hR9 | exact sr2 hR9) (by rfl) ?_
      refine go_getf (pc := 38) f_X7_263 dX7_cut_38 (by first | exact co0 hC | exact sr0 hR_q | exact be0 hQ_q | exact sr0 hT_q | exact be0 hQ9 | exact sr1 hR_q | exact sr2 hR_q | exact sr3 hR_q | exact sr4 hR_q | exact be1 hQ_q | exact be2 hQ_q | exact be3 hQ_q | exact sr3 hT_q | exact sr2 hT_q | exact sr1 hT_q | exact sr4 hT_q | exact co4 hC | exact co2 hC | exact co3 hC | exact co0 hC9 | exact sr0 hR9 | exact co4 hC9 | exact sr3 hR9 | exact sr2 hR9) (by rfl) ?_
      refine go_icmp_ge (tgt := 88) (pc := 41) dX7_cut_41 (by decide) (fun h_41 => ?_) (fun h_41 => by exfalso; rw [hB_q.1.1] at h_41; exact h_41 (nI_le (by omega) (by omega)))
      refine go_iload_n (pc := 88) dX7_cut_88 rfl ?_
      exact go_iretT (pc := 89) rfl dX7_cut_89 (Nat.le_of_ble_eq_true rfl) (Nat.le_of_ble_eq_true rfl) ⟨(by rw [aCut, if_neg (fun hc_q => hc_q h0_q)]), (by rw [aCut, if_neg (fun hc_q => hc_q h0_q), e1_q, e2_q]; rw [Nat.sub_self] at hR9; exact hR9.trans (if_neg h_19).symm), rfl, hS_q, frS.rf⟩
  · refine go_iconst (v := 0) (pc := 22) dX7_cut_22 (by decide) ?_
    exact go_iretT (pc := 23) rfl dX7_cut_23 (Nat.le_of_ble_eq_true rfl) (Nat.le_of_ble_eq_true rfl) ⟨(by rw [aCut, if_neg (fun hc_q => hc_q h0_q)]), (by rw [aCut, if_neg (fun hc_q => hc_q h0_q), e1_q, e2_q]; exact (if_pos h_19).symm), rfl, hS_q, frS.rf⟩
theorem cp_relay {Γ : gam} {D : Nat} {ro : Nat → Nat} {z0 : sto} {n k a b : Nat} {w : Int32} {K ag pa pf ch co rw bk G : row} {im : Nat → Option Nat} {lm lt lw : Value} (hC : CoAt Γ ro z0 a G im) (hR_q : SrAt Γ ro z0 (a + 14) b w (K 33) ch co rw bk) (hr_q : rS K ch co rw bk) (hQ_q : BrAt Γ D ro z0 b K ag pa pf lm lt lw) (hB_q : okB K) (hg_q : gS K) (hS_q : ScAt Γ ro z0 a) (hD : a + 113 < D) (hsb : b = a + 10 ∨ a + 113 < b) (hk : 12 ≤ k) (p : Int32) : Sp Γ (rmk k 4 24) uX7_relay [.ref a, .int p] z0 n (qT (qI fun v σ' n' => (aRelay K p.toInt).1 = 0 ∧ v = (aRelay K p.toInt).2 ∧ n' = n ∧ ScAt Γ ro σ' a ∧ frS Γ ro (scr a) z0 σ') (fun x σ' n' => exL [eNS, eIS] (aRelay K p.toInt).1 x ∧ σ' = z0 ∧ n ≤ n')) := by
  have hP8 := hB_q.1.2.1
  have hH5 := hB_q.1.2.2.2.1
  have hW4 := hB_q.1.2.2.2.2.2
  refine sp_intro [some (.ref a), some (.int p), none] (by decide +kernel) rfl (Nat.le_of_ble_eq_true rfl) rfl ?_
  refine go_aload_n (pc := 0) dX7_relay_0 rfl ?_
  refine go_iload_n (pc := 1) dX7_relay_1 rfl ?_
  refine go_V1Vx (pc := 2) v_X7_135 rfl rfl (rcv_of (ci := 7) (by first | exact co0 hC | exact sr0 hR_q | exact be0 hQ_q | exact sr0 hT_q | exact be0 hQ9 | exact sr1 hR_q | exact sr2 hR_q | exact sr3 hR_q | exact sr4 hR_q | exact be1 hQ_q | exact be2 hQ_q | exact be3 hQ_q | exact sr3 hT_q | exact sr2 hT_q | exact sr1 hT_q | exact sr4 hT_q | exact co4 hC | exact co2 hC | exact co3 hC | exact co0 hC9 | exact sr0 hR9 | exact co4 hC9 | exact sr3 hR9 | exact sr2 hR9) rfl) dX7_relay_2 (cp_needPerson (k := k - 1) hC hR_q hr_q hQ_q hB_q (by omega) _) (fun x σx nx hx_q => by obtain ⟨h9_q, rfl, rfl, h8_q⟩ := hx_q; exact Or.inr ⟨_, rfl, ⟨0, (by rw [show aRelay K p.toInt = (1, 0) from by simp only [aRelay, h9_q]]; rfl), rfl⟩, rfl, h8_q⟩) (fun σ n h_q => ?_)
  obtain ⟨⟨j1_q, hj1, rfl, hj1a⟩, rfl, rfl⟩ := h_q
  refine go_aload_n (pc := 5) dX7_relay_5 rfl ?_
  refine go_getf (pc := 6) f_X7_65 dX7_relay_6 (by first | exact co0 hC | exact sr0 hR_q | exact be0 hQ_q | exact sr0 hT_q | exact be0 hQ9 | exact sr1 hR_q | exact sr2 hR_q | exact sr3 hR_q | exact sr4 hR_q | exact be1 hQ_q | exact be2 hQ_q | exact be3 hQ_q | exact sr3 hT_q | exact sr2 hT_q | exact sr1 hT_q | exact sr4 hT_q | exact co4 hC | exact co2 hC | exact co3 hC | exact co0 hC9 | exact sr0 hR9 | exact co4 hC9 | exact sr3 hR9 | exact sr2 hR9) (by rfl) ?_
  refine go_getf (pc := 9) f_X7_141 dX7_relay_9 (by first | exact co0 hC | exact sr0 hR_q | exact be0 hQ_q | exact sr0 hT_q | exact be0 hQ9 | exact sr1 hR_q | exact sr2 hR_q | exact sr3 hR_q | exact sr4 hR_q | exact be1 hQ_q | exact be2 hQ_q | exact be3 hQ_q | exact sr3 hT_q | exact sr2 hT_q | exact sr1 hT_q | exact sr4 hT_q | exact co4 hC | exact co2 hC | exact co3 hC | exact co0 hC9 | exact sr0 hR9 | exact co4 hC9 | exact sr3 hR9 | exact sr2 hR9) (by rfl) ?_
  refine go_iload_n (pc := 12) dX7_relay_12 rfl ?_
  refine go_iald (pc := 13) dX7_relay_13 (by first | exact co0 hC | exact sr0 hR_q | exact be0 hQ_q | exact sr0 hT_q | exact be0 hQ9 | exact sr1 hR_q | exact sr2 hR_q | exact sr3 hR_q | exact sr4 hR_q | exact be1 hQ_q | exact be2 hQ_q | exact be3 hQ_q | exact sr3 hT_q | exact sr2 hT_q | exact sr1 hT_q | exact sr4 hT_q | exact co4 hC | exact co2 hC | exact co3 hC | exact co0 hC9 | exact sr0 hR9 | exact co4 hC9 | exact sr3 hR9 | exact sr2 hR9) (by exact ⟨rfl, by omega⟩) ?_
  rw [(hr_q.1 j1_q hj1a).2.1]
  refine go_iconst (v := -1) (pc := 14) dX7_relay_14 (by decide) ?_
  refine go_icmp_ne (tgt := 29) (pc := 15) dX7_relay_15 (by decide) (fun h_15 => ?_) (fun h_15 => ?_)
  · refine go_aload_n (pc := 29) dX7_relay_29 rfl ?_
    refine go_getf (pc := 30) f_X7_65 dX7_relay_30 (by first | exact co0 hC | exact sr0 hR_q | exact be0 hQ_q | exact sr0 hT_q | exact be0 hQ9 | exact sr1 hR_q | exact sr2 hR_q | exact sr3 hR_q | exact sr4 hR_q | exact be1 hQ_q | exact be2 hQ_q | exact be3 hQ_q | exact sr3 hT_q | exact sr2 hT_q | exact sr1 hT_q | exact sr4 hT_q | exact co4 hC | exact co2 hC | exact co3 hC | exact co0 hC9 | exact sr0 hR9 | exact co4 hC9 | exact sr3 hR9 | exact sr2 hR9) (by rfl) ?_
    refine go_getf (pc := 33) f_X7_120 dX7_relay_33 (by first | exact co0 hC | exact sr0 hR_q | exact be0 hQ_q | exact sr0 hT_q | exact be0 hQ9 | exact sr1 hR_q | exact sr2 hR_q | exact sr3 hR_q | exact sr4 hR_q | exact be1 hQ_q | exact be2 hQ_q | exact be3 hQ_q | exact sr3 hT_q | exact sr2 hT_q | exact sr1 hT_q | exact sr4 hT_q | exact co4 hC | exact co2 hC | exact co3 hC | exact co0 hC9 | exact sr0 hR9 | exact co4 hC9 | exact sr3 hR9 | exact sr2 hR9) (by rfl) ?_
    refine go_getf (pc := 36) f_X7_266 dX7_relay_36 (by first | exact co0 hC | exact sr0 hR_q | exact be0 hQ_q | exact sr0 hT_q | exact be0 hQ9 | exact sr1 hR_q | exact sr2 hR_q | exact sr3 hR_q | exact sr4 hR_q | exact be1 hQ_q | exact be2 hQ_q | exact be3 hQ_q | exact sr3 hT_q | exact sr2 hT_q | exact sr1 hT_q | exact sr4 hT_q | exact co4 hC | exact co2 hC | exact co3 hC | exact co0 hC9 | exact sr0 hR9 | exact co4 hC9 | exact sr3 hR9 | exact sr2 hR9) (by rfl) ?_
    refine go_iconst (v := 1) (pc := 39) dX7_relay_39 (by decide) ?_
    refine go_isub (pc := 40) dX7_relay_40 ?_
    refine go_istore_n (lw := [_, _, _]) (pc := 41) dX7_relay_41 (by decide) rfl ?_
    refine go_aload_n (pc := 42) dX7_relay_42 rfl ?_
    refine go_getf (pc := 43) f_X7_65 dX7_relay_43 (by first | exact co0 hC | exact sr0 hR_q | exact be0 hQ_q | exact sr0 hT_q | exact be0 hQ9 | exact sr1 hR_q | exact sr2 hR_q | exact sr3 hR_q | exact sr4 hR_q | exact be1 hQ_q | exact be2 hQ_q | exact be3 hQ_q | exact sr3 hT_q | exact sr2 hT_q | exact sr1 hT_q | exact sr4 hT_q | exact co4 hC | exact co2 hC | exact co3 hC | exact co0 hC9 | exact sr0 hR9 | exact co4 hC9 | exact sr3 hR9 | exact sr2 hR9) (by rfl) ?_
    refine go_getf (pc := 46) f_X7_141 dX7_relay_46 (by first | exact co0 hC | exact sr0 hR_q | exact be0 hQ_q | exact sr0 hT_q | exact be0 hQ9 | exact sr1 hR_q | exact sr2 hR_q | exact sr3 hR_q | exact sr4 hR_q | exact be1 hQ_q | exact be2 hQ_q | exact be3 hQ_q | exact sr3 hT_q | exact sr2 hT_q | exact sr1 hT_q | exact sr4 hT_q | exact co4 hC | exact co2 hC | exact co3 hC | exact co0 hC9 | exact sr0 hR9 | exact co4 hC9 | exact sr3 hR9 | exact sr2 hR9) (by rfl) ?_
    refine go_iload_n (pc := 49) dX7_relay_49 rfl ?_
    refine go_iald (pc := 50) dX7_relay_50 (by first | exact co0 hC | exact sr0 hR_q | exact be0 hQ_q | exact sr0 hT_q | exact be0 hQ9 | exact sr1 hR_q | exact sr2 hR_q | exact sr3 hR_q | exact sr4 hR_q | exact be1 hQ_q | exact be2 hQ_q | exact be3 hQ_q | exact sr3 hT_q | exact sr2 hT_q | exact sr1 hT_q | exact sr4 hT_q | exact co4 hC | exact co2 hC | exact co3 hC | exact co0 hC9 | exact sr0 hR9 | exact co4 hC9 | exact sr3 hR9 | exact sr2 hR9) (by exact ⟨rfl, by omega⟩) ?_
    rw [(hr_q.1 j1_q hj1a).2.1]
    refine go_iload_n (pc := 51) dX7_relay_51 rfl ?_
    refine go_icmp_ne (tgt := 57) (pc := 52) dX7_relay_52 (by decide) (fun h_52 => ?_) (fun h_52 => ?_)
    · refine go_aload_n (pc := 57) dX7_relay_57 rfl ?_
      refine go_getf (pc := 58) f_X7_65 dX7_relay_58 (by first | exact co0 hC | exact sr0 hR_q | exact be0 hQ_q | exact sr0 hT_q | exact be0 hQ9 | exact sr1 hR_q | exact sr2 hR_q | exact sr3 hR_q | exact sr4 hR_q | exact be1 hQ_q | exact be2 hQ_q | exact be3 hQ_q | exact sr3 hT_q | exact sr2 hT_q | exact sr1 hT_q | exact sr4 hT_q | exact co4 hC | exact co2 hC | exact co3 hC | exact co0 hC9 | exact sr0 hR9 | exact co4 hC9 | exact sr3 hR9 | exact sr2 hR9) (by rfl) ?_
      refine go_aload_n (pc := 61) dX7_relay_61 rfl ?_
      refine go_getf (pc := 62) f_X7_65 dX7_relay_62 (by first | exact co0 hC | exact sr0 hR_q | exact be0 hQ_q | exact sr0 hT_q | exact be0 hQ9 | exact sr1 hR_q | exact sr2 hR_q | exact sr3 hR_q | exact sr4 hR_q | exact be1 hQ_q | exact be2 hQ_q | exact be3 hQ_q | exact sr3 hT_q | exact sr2 hT_q | exact sr1 hT_q | exact sr4 hT_q | exact co4 hC | exact co2 hC | exact co3 hC | exact co0 hC9 | exact sr0 hR9 | exact co4 hC9 | exact sr3 hR9 | exact sr2 hR9) (by rfl) ?_
      refine go_iload_n (pc := 65) dX7_relay_65 rfl ?_
      refine go_V1P (pc := 66) v_X7_298 rfl rfl (rcv_of (ci := 5) (by first | exact co0 hC | exact sr0 hR_q | exact be0 hQ_q | exact sr0 hT_q | exact be0 hQ9 | exact sr1 hR_q | exact sr2 hR_q | exact sr3 hR_q | exact sr4 hR_q | exact be1 hQ_q | exact be2 hQ_q | exact be3 hQ_q | exact sr3 hT_q | exact sr2 hT_q | exact sr1 hT_q | exact sr4 hT_q | exact co4 hC | exact co2 hC | exact co3 hC | exact co0 hC9 | exact sr0 hR9 | exact co4 hC9 | exact sr3 hR9 | exact sr2 hR9) rfl) dX7_relay_66 (cp_sittersOf (k := k - 1) hR_q hr_q hQ_q hB_q _) ?_
      refine go_iload_n (pc := 69) dX7_relay_69 rfl ?_
      refine go_iconst (v := 0) (pc := 70) dX7_relay_70 (by decide) ?_
      refine go_V3P (pc := 71) v_X7_288 rfl rfl (rcv_of (ci := 5) (by first | exact co0 hC | exact sr0 hR_q | exact be0 hQ_q | exact sr0 hT_q | exact be0 hQ9 | exact sr1 hR_q | exact sr2 hR_q | exact sr3 hR_q | exact sr4 hR_q | exact be1 hQ_q | exact be2 hQ_q | exact be3 hQ_q | exact sr3 hT_q | exact sr2 hT_q | exact sr1 hT_q | exact sr4 hT_q | exact co4 hC | exact co2 hC | exact co3 hC | exact co0 hC9 | exact sr0 hR9 | exact co4 hC9 | exact sr3 hR9 | exact sr2 hR9) rfl) dX7_relay_71 (cp_between (k := k - 1) hR_q hr_q hQ_q hB_q hg_q (by omega) (setP_bits (by omega) setP_0) _ an_c) ?_
      exact go_iretT (pc := 74) rfl dX7_relay_74 (Nat.le_of_ble_eq_true rfl) (Nat.le_of_ble_eq_true rfl) ⟨(by simp only [aRelay, hj1]; rw [if_neg h_15]), (by simp only [aRelay, hj1]; rw [if_neg h_15]; exact (if_neg (by rw [bits_has (by omega) (by omega) setP_0, has_0 (by omega)]; simp [h_52])).symm), rfl, hS_q, frS.rf⟩
    · refine go_iconst (v := 0) (pc := 55) dX7_relay_55 (by decide) ?_
      exact go_iretT (pc := 56) rfl dX7_relay_56 (Nat.le_of_ble_eq_true rfl) (Nat.le_of_ble_eq_true rfl) ⟨(by simp only [aRelay, hj1]; rw [if_neg h_15]), (by simp only [aRelay, hj1]; rw [if_neg h_15]; exact (if_pos (by rw [bits_has (by omega) (by omega) setP_0]; simp [h_52]; omega)).symm), rfl, hS_q, frS.rf⟩
  · exact go_throwW (si := 25) (pc := 18) th_IS rfl rfl rfl dX7_relay_18 dX7_relay_21 dX7_relay_22 dX7_relay_25 dX7_relay_28 (fun n2 hn2 => Or.inr ⟨_, rfl, ⟨1, (by simp only [aRelay, hj1]; rw [if_pos h_15]; rfl), rfl⟩, rfl, hn2⟩)
theorem cp_heaps {Γ : gam} {D : Nat} {ro : Nat → Nat} {z0 : sto} {n k a b : Nat} {w : Int32} {K ag pa pf ch co rw bk G : row} {im : Nat → Option Nat} {lm lt lw : Value} (hC : CoAt Γ ro z0 a G im) (hR_q : SrAt Γ ro z0 (a + 14) b w (K 33) ch co rw bk) (hr_q : rS K ch co rw bk) (hQ_q : BrAt Γ D ro z0 b K ag pa pf lm lt lw) (hB_q : okB K) (hg_q : gS K) (hS_q : ScAt Γ ro z0 a) (hD : a + 113 < D) (hsb : b = a + 10 ∨ a + 113 < b) (hk : 12 ≤ k) : Sp Γ (rmk k 0 0) uX7_heaps [.ref a] z0 n (qI fun v σ' n' => v = aHeaps K ∧ n' = n ∧ ScAt Γ ro σ' a ∧ frS Γ ro (scr a) z0 σ') := by
  have hP8 := hB_q.1.2.1
  have hH5 := hB_q.1.2.2.2.1
  have hW4 := hB_q.1.2.2.2.2.2
  refine sp_intro [some (.ref a), none, none, none] (by decide +kernel) rfl (Nat.le_of_ble_eq_true rfl) rfl ?_
  refine go_aload_n (pc := 0) dX7_heaps_0 rfl ?_
  refine go_getf (pc := 1) f_X7_65 dX7_heaps_1 (by first | exact co0 hC | exact sr0 hR_q | exact be0 hQ_q | exact sr0 hT_q | exact be0 hQ9 | exact sr1 hR_q | exact sr2 hR_q | exact sr3 hR_q | exact sr4 hR_q | exact be1 hQ_q | exact be2 hQ_q | exact be3 hQ_q | exact sr3 hT_q | exact sr2 hT_q | exact sr1 hT_q | exact sr4 hT_q | exact co4 hC | exact co2 hC | exact co3 hC | exact co0 hC9 | exact sr0 hR9 | exact co4 hC9 | exact sr3 hR9 | exact sr2 hR9) (by rfl) ?_
  refine go_V0P (pc := 4) v_X7_301 rfl rfl (rcv_of (ci := 5) (by first | exact co0 hC | exact sr0 hR_q | exact be0 hQ_q | exact sr0 hT_q | exact be0 hQ9 | exact sr1 hR_q | exact sr2 hR_q | exact sr3 hR_q | exact sr4 hR_q | exact be1 hQ_q | exact be2 hQ_q | exact be3 hQ_q | exact sr3 hT_q | exact sr2 hT_q | exact sr1 hT_q | exact sr4 hT_q | exact co4 hC | exact co2 hC | exact co3 hC | exact co0 hC9 | exact sr0 hR9 | exact co4 hC9 | exact sr3 hR9 | exact sr2 hR9) rfl) dX7_heaps_4 (cp_whoIsUp (k := k - 1) hR_q hr_q hQ_q hB_q (by omega)) ?_
  refine go_iconst (v := -1) (pc := 7) dX7_heaps_7 (by decide) ?_
  refine go_ixor (pc := 8) dX7_heaps_8 ?_
  refine go_aload_n (pc := 9) dX7_heaps_9 rfl ?_
  refine go_getf (pc := 10) f_X7_65 dX7_heaps_10 (by first | exact co0 hC | exact sr0 hR_q | exact be0 hQ_q | exact sr0 hT_q | exact be0 hQ9 | exact sr1 hR_q | exact sr2 hR_q | exact sr3 hR_q | exact sr4 hR_q | exact be1 hQ_q | exact be2 hQ_q | exact be3 hQ_q | exact sr3 hT_q | exact sr2 hT_q | exact sr1 hT_q | exact sr4 hT_q | exact co4 hC | exact co2 hC | exact co3 hC | exact co0 hC9 | exact sr0 hR9 | exact co4 hC9 | exact sr3 hR9 | exact sr2 hR9) (by rfl) ?_
  refine go_getf (pc := 13) f_X7_120 dX7_heaps_13 (by first | exact co0 hC | exact sr0 hR_q | exact be0 hQ_q | exact sr0 hT_q | exact be0 hQ9 | exact sr1 hR_q | exact sr2 hR_q | exact sr3 hR_q | exact sr4 hR_q | exact be1 hQ_q | exact be2 hQ_q | exact be3 hQ_q | exact sr3 hT_q | exact sr2 hT_q | exact sr1 hT_q | exact sr4 hT_q | exact co4 hC | exact co2 hC | exact co3 hC | exact co0 hC9 | exact sr0 hR9 | exact co4 hC9 | exact sr3 hR9 | exact sr2 hR9) (by rfl) ?_
  refine go_V0P (pc := 16) v_X7_304 rfl rfl (rcv_of (ci := 0) (by first | exact co0 hC | exact sr0 hR_q | exact be0 hQ_q | exact sr0 hT_q | exact be0 hQ9 | exact sr1 hR_q | exact sr2 hR_q | exact sr3 hR_q | exact sr4 hR_q | exact be1 hQ_q | exact be2 hQ_q | exact be3 hQ_q | exact sr3 hT_q | exact sr2 hT_q | exact sr1 hT_q | exact sr4 hT_q | exact co4 hC | exact co2 hC | exact co3 hC | exact co0 hC9 | exact sr0 hR9 | exact co4 hC9 | exact sr3 hR9 | exact sr2 hR9) rfl) dX7_heaps_16 (cp_everybody (k := k - 1) hQ_q) ?_
  refine go_iand (pc := 19) dX7_heaps_19 ?_
  refine go_istore_n (lw := [_, _, _, _]) (pc := 20) dX7_heaps_20 (by decide) rfl ?_
  refine go_iconst (v := 0) (pc := 21) dX7_heaps_21 (by decide) ?_
  refine go_istore_n (lw := [_, _, _, _]) (pc := 22) dX7_heaps_22 (by decide) rfl ?_
  refine go_iconst (v := 0) (pc := 23) dX7_heaps_23 (by decide) ?_
  refine go_istore_n (lw := [_, _, _, _]) (pc := 24) dX7_heaps_24 (by decide) rfl ?_
  refine go_iter (kP K) (fun i_q lv9 s9 n9 => ∃ (x9_q : Int32), ∃ (c9_q : Int32), ∃ (t9 : Int32), lv9 = [some (.ref a), some (.int x9_q), some (.int c9_q), some (.int (nI i_q))] ∧ (hpF K (kP K - i_q) i_q t9 c9_q = aHeaps K) ∧ (hpI K x9_q t9) ∧ (z0 = s9) ∧ n = n9) ⟨_, 0, 0, rfl, rfl, (hpI_0 hB_q.1), rfl, rfl⟩ ?_ ?_
  · rintro i_q lv9 σ n9 hi_q ⟨x9_q, c9_q, t9, rfl, hR9, hI, rfl, rfl⟩ ih_q
    have hb9 := hI.2.2 i_q (by omega)
    rw [show decide (i_q < kP K) = true from decide_eq_true hi_q, Bool.true_and] at hb9
    refine go_iload_n (pc := 25) dX7_heaps_25 rfl ?_
    refine go_aload_n (pc := 26) dX7_heaps_26 rfl ?_
    refine go_getf (pc := 27) f_X7_65 dX7_heaps_27 (by first | exact co0 hC | exact sr0 hR_q | exact be0 hQ_q | exact sr0 hT_q | exact be0 hQ9 | exact sr1 hR_q | exact sr2 hR_q | exact sr3 hR_q | exact sr4 hR_q | exact be1 hQ_q | exact be2 hQ_q | exact be3 hQ_q | exact sr3 hT_q | exact sr2 hT_q | exact sr1 hT_q | exact sr4 hT_q | exact co4 hC | exact co2 hC | exact co3 hC | exact co0 hC9 | exact sr0 hR9 | exact co4 hC9 | exact sr3 hR9 | exact sr2 hR9) (by rfl) ?_
    refine go_getf (pc := 30) f_X7_120 dX7_heaps_30 (by first | exact co0 hC | exact sr0 hR_q | exact be0 hQ_q | exact sr0 hT_q | exact be0 hQ9 | exact sr1 hR_q | exact sr2 hR_q | exact sr3 hR_q | exact sr4 hR_q | exact be1 hQ_q | exact be2 hQ_q | exact be3 hQ_q | exact sr3 hT_q | exact sr2 hT_q | exact sr1 hT_q | exact sr4 hT_q | exact co4 hC | exact co2 hC | exact co3 hC | exact co0 hC9 | exact sr0 hR9 | exact co4 hC9 | exact sr3 hR9 | exact sr2 hR9) (by rfl) ?_
    refine go_getf (pc := 33) f_X7_263 dX7_heaps_33 (by first | exact co0 hC | exact sr0 hR_q | exact be0 hQ_q | exact sr0 hT_q | exact be0 hQ9 | exact sr1 hR_q | exact sr2 hR_q | exact sr3 hR_q | exact sr4 hR_q | exact be1 hQ_q | exact be2 hQ_q | exact be3 hQ_q | exact sr3 hT_q | exact sr2 hT_q | exact sr1 hT_q | exact sr4 hT_q | exact co4 hC | exact co2 hC | exact co3 hC | exact co0 hC9 | exact sr0 hR9 | exact co4 hC9 | exact sr3 hR9 | exact sr2 hR9) (by rfl) ?_
    refine go_icmp_ge (tgt := 70) (pc := 36) dX7_heaps_36 (by decide) (fun h_36 => by exfalso; rw [hB_q.1.1] at h_36; exact absurd h_36 (nI_ge (by omega) (by omega))) (fun h_36 => ?_)
    refine go_iload_n (pc := 39) dX7_heaps_39 rfl ?_
    refine go_iload_n (pc := 40) dX7_heaps_40 rfl ?_
    refine go_ishr (pc := 41) dX7_heaps_41 ?_
    refine go_iconst (v := 1) (pc := 42) dX7_heaps_42 (by decide) ?_
    refine go_iand (pc := 43) dX7_heaps_43 ?_
    refine go_iconst (v := 1) (pc := 44) dX7_heaps_44 (by decide) ?_
    refine go_icmp_ne (tgt := 64) (pc := 45) dX7_heaps_45 (by decide) (fun h_45 => ?_) (fun h_45 => ?_)
    · refine go_iinc (v := 1) (lw := [_, _, _, _]) (pc := 64) dX7_heaps_64 rfl (by decide) (by decide) rfl ?_
      refine go_goto (tgt := 25) (pc := 67) dX7_heaps_67 (by decide) ?_
      rw [nI_1]
      first
        | (have g9_q : ¬ (x9_q >>> (nI i_q &&& 31)) &&& 1 = 1 := h_45
           refine ih_q _ _ _ ⟨_, _, t9, rfl, ?_, ?_, rfl, rfl⟩
           · rw [← hR9, hpF_step hi_q, if_pos ?_]
             have hn9 : hasB x9_q (nI i_q) = false := by simp [hasB, g9_q]
             rw [hn9] at hb9
             cases e8_q : hasB t9 (nI i_q)
             · cases e7_q : upK K i_q
               · rw [e8_q, e7_q] at hb9; cases hb9
               · exact Or.inr rfl
             · exact Or.inl rfl
           · exact hI)
        | (have g9_q : (x9_q >>> (nI i_q &&& 31)) &&& 1 = 1 := h_45
           refine ih_q _ _ _ ⟨_, _, (t9 ||| besI K 8 (bit1 i_q)), rfl, ?_, ?_, rfl, rfl⟩
           · rw [← hR9, hpF_step hi_q, if_neg ?_]
             have hn9 : hasB x9_q (nI i_q) = true := by simp [hasB, g9_q]
             rw [hn9] at hb9
             rintro (e8_q | e8_q)
             · rw [e8_q] at hb9; simp at hb9
             · rw [e8_q] at hb9; simp at hb9
           · exact hpI_s hI (setP_besI hP8 (setP_bit (by omega)) 8))
    · refine go_iload_n (pc := 48) dX7_heaps_48 rfl ?_
      refine go_aload_n (pc := 49) dX7_heaps_49 rfl ?_
      refine go_getf (pc := 50) f_X7_65 dX7_heaps_50 (by first | exact co0 hC | exact sr0 hR_q | exact be0 hQ_q | exact sr0 hT_q | exact be0 hQ9 | exact sr1 hR_q | exact sr2 hR_q | exact sr3 hR_q | exact sr4 hR_q | exact be1 hQ_q | exact be2 hQ_q | exact be3 hQ_q | exact sr3 hT_q | exact sr2 hT_q | exact sr1 hT_q | exact sr4 hT_q | exact co4 hC | exact co2 hC | exact co3 hC | exact co0 hC9 | exact sr0 hR9 | exact co4 hC9 | exact sr3 hR9 | exact sr2 hR9) (by rfl) ?_
      refine go_iload_n (pc := 53) dX7_heaps_53 rfl ?_
      refine go_V1P (pc := 54) v_X7_307 rfl rfl (rcv_of (ci := 5) (by first | exact co0 hC | exact sr0 hR_q | exact be0 hQ_q | exact sr0 hT_q | exact be0 hQ9 | exact sr1 hR_q | exact sr2 hR_q | exact sr3 hR_q | exact sr4 hR_q | exact be1 hQ_q | exact be2 hQ_q | exact be3 hQ_q | exact sr3 hT_q | exact sr2 hT_q | exact sr1 hT_q | exact sr4 hT_q | exact co4 hC | exact co2 hC | exact co3 hC | exact co0 hC9 | exact sr0 hR9 | exact co4 hC9 | exact sr3 hR9 | exact sr2 hR9) rfl) dX7_heaps_54 (cp_heapOf (k := k - 1) hR_q hr_q hQ_q hB_q hg_q (by omega) (by omega)) ?_
      refine go_iconst (v := -1) (pc := 57) dX7_heaps_57 (by decide) ?_
      refine go_ixor (pc := 58) dX7_heaps_58 ?_
      refine go_iand (pc := 59) dX7_heaps_59 ?_
      refine go_istore_n (lw := [_, _, _, _]) (pc := 60) dX7_heaps_60 (by decide) rfl ?_
      refine go_iinc (v := 1) (lw := [_, _, _, _]) (pc := 61) dX7_heaps_61 rfl (by decide) (by decide) rfl ?_
      refine go_iinc (v := 1) (lw := [_, _, _, _]) (pc := 64) dX7_heaps_64 rfl (by decide) (by decide) rfl ?_
      refine go_goto (tgt := 25) (pc := 67) dX7_heaps_67 (by decide) ?_
      rw [nI_1]
      first
        | (have g9_q : ¬ (x9_q >>> (nI i_q &&& 31)) &&& 1 = 1 := h_45
           refine ih_q _ _ _ ⟨_, _, t9, rfl, ?_, ?_, rfl, rfl⟩
           · rw [← hR9, hpF_step hi_q, if_pos ?_]
             have hn9 : hasB x9_q (nI i_q) = false := by simp [hasB, g9_q]
             rw [hn9] at hb9
             cases e8_q : hasB t9 (nI i_q)
             · cases e7_q : upK K i_q
               · rw [e8_q, e7_q] at hb9; cases hb9
               · exact Or.inr rfl
             · exact Or.inl rfl
           · exact hI)
        | (have g9_q : (x9_q >>> (nI i_q &&& 31)) &&& 1 = 1 := h_45
           refine ih_q _ _ _ ⟨_, _, (t9 ||| besI K 8 (bit1 i_q)), rfl, ?_, ?_, rfl, rfl⟩
           · rw [← hR9, hpF_step hi_q, if_neg ?_]
             have hn9 : hasB x9_q (nI i_q) = true := by simp [hasB, g9_q]
             rw [hn9] at hb9
             rintro (e8_q | e8_q)
             · rw [e8_q] at hb9; simp at hb9
             · rw [e8_q] at hb9; simp at hb9
           · exact hpI_s hI (setP_besI hP8 (setP_bit (by omega)) 8))
  · rintro lv9 σ n9 ⟨x9_q, c9_q, t9, rfl, hR9, hI, rfl, rfl⟩
    refine go_iload_n (pc := 25) dX7_heaps_25 rfl ?_
    refine go_aload_n (pc := 26) dX7_heaps_26 rfl ?_
    refine go_getf (pc := 27) f_X7_65 dX7_heaps_27 (by first | exact co0 hC | exact sr0 hR_q | exact be0 hQ_q | exact sr0 hT_q | exact be0 hQ9 | exact sr1 hR_q | exact sr2 hR_q | exact sr3 hR_q | exact sr4 hR_q | exact be1 hQ_q | exact be2 hQ_q | exact be3 hQ_q | exact sr3 hT_q | exact sr2 hT_q | exact sr1 hT_q | exact sr4 hT_q | exact co4 hC | exact co2 hC | exact co3 hC | exact co0 hC9 | exact sr0 hR9 | exact co4 hC9 | exact sr3 hR9 | exact sr2 hR9) (by rfl) ?_
    refine go_getf (pc := 30) f_X7_120 dX7_heaps_30 (by first | exact co0 hC | exact sr0 hR_q | exact be0 hQ_q | exact sr0 hT_q | exact be0 hQ9 | exact sr1 hR_q | exact sr2 hR_q | exact sr3 hR_q | exact sr4 hR_q | exact be1 hQ_q | exact be2 hQ_q | exact be3 hQ_q | exact sr3 hT_q | exact sr2 hT_q | exact sr1 hT_q | exact sr4 hT_q | exact co4 hC | exact co2 hC | exact co3 hC | exact co0 hC9 | exact sr0 hR9 | exact co4 hC9 | exact sr3 hR9 | exact sr2 hR9) (by rfl) ?_
    refine go_getf (pc := 33) f_X7_263 dX7_heaps_33 (by first | exact co0 hC | exact sr0 hR_q | exact be0 hQ_q | exact sr0 hT_q | exact be0 hQ9 | exact sr1 hR_q | exact sr2 hR_q | exact sr3 hR_q | exact sr4 hR_q | exact be1 hQ_q | exact be2 hQ_q | exact be3 hQ_q | exact sr3 hT_q | exact sr2 hT_q | exact sr1 hT_q | exact sr4 hT_q | exact co4 hC | exact co2 hC | exact co3 hC | exact co0 hC9 | exact sr0 hR9 | exact co4 hC9 | exact sr3 hR9 | exact sr2 hR9) (by rfl) ?_
    refine go_icmp_ge (tgt := 70) (pc := 36) dX7_heaps_36 (by decide) (fun h_36 => ?_) (fun h_36 => by exfalso; rw [hB_q.1.1] at h_36; exact h_36 (nI_le (by omega) (by omega)))
    refine go_iload_n (pc := 70) dX7_heaps_70 rfl ?_
    exact go_iretI (pc := 71) rfl dX7_heaps_71 (Nat.le_of_ble_eq_true rfl) (Nat.le_of_ble_eq_true rfl) ⟨(by rw [← hR9, Nat.sub_self]; rfl), rfl, hS_q, frS.rf⟩
theorem cp_stir {Γ : gam} {D : Nat} {ro : Nat → Nat} {z0 : sto} {n k a b : Nat} {w : Int32} {K ag pa pf ch co rw bk G : row} {im : Nat → Option Nat} {lm lt lw : Value} (hC : CoAt Γ ro z0 a G im) (hR_q : SrAt Γ ro z0 (a + 14) b w (K 33) ch co rw bk) (hr_q : rS K ch co rw bk) (hQ_q : BrAt Γ D ro z0 b K ag pa pf lm lt lw) (hB_q : okB K) (hg_q : gS K) (hS_q : ScAt Γ ro z0 a) (hD : a + 113 < D) (hsb : b = a + 10 ∨ a + 113 < b) (hk : 12 ≤ k) : Sp Γ (rmk k 0 0) uX7_stir [.ref a] z0 n (qI fun v σ' n' => v = aStir K ∧ n' = n ∧ ScAt Γ ro σ' a ∧ frS Γ ro (scr a) z0 σ') := by
  have hP8 := hB_q.1.2.1
  have hH5 := hB_q.1.2.2.2.1
  have hW4 := hB_q.1.2.2.2.2.2
  refine sp_intro [some (.ref a), none, none, none, none] (by decide +kernel) rfl (Nat.le_of_ble_eq_true rfl) rfl ?_
  refine go_iconst (v := -1) (pc := 0) dX7_stir_0 (by decide) ?_
  refine go_istore_n (lw := [_, _, _, _, _]) (pc := 1) dX7_stir_1 (by decide) rfl ?_
  refine go_iconst (v := 0) (pc := 2) dX7_stir_2 (by decide) ?_
  refine go_istore_n (lw := [_, _, _, _, _]) (pc := 3) dX7_stir_3 (by decide) rfl ?_
  refine go_iconst (v := 0) (pc := 4) dX7_stir_4 (by decide) ?_
  refine go_istore_n (lw := [_, _, _, _, _]) (pc := 5) dX7_stir_5 (by decide) rfl ?_
  refine go_iter (kP K) (fun i_q lv9 s9 n9 => ∃ (b9_q : Int32), ∃ (x9_q : Int32), ∃ x4_q, lv9 = [some (.ref a), some (.int b9_q), some (.int x9_q), some (.int (nI i_q)), x4_q] ∧ (argm (stirF K) (kP K - i_q) i_q b9_q x9_q = aStir K) ∧ (0 ≤ x9_q) ∧ (frC Γ ro (a + 89) (a + 93) z0 s9) ∧ (TrAt Γ ro s9 (a + 89)) ∧ n = n9) ⟨-1, 0, none, rfl, rfl, (by decide), frC.rf, hS_q.t0, rfl⟩ ?_ ?_
  · rintro i_q lv9 σ n9 hi_q ⟨b9_q, x9_q, x4_q, rfl, hR9e, hx9, hf_q, hT9, rfl⟩ ih_q
    have hC9 := hC.fs (hf_q.toS (S := scr a) (fun q x y => by omega)) (fun q x => by omega)
    have hR9 := hR_q.fr hf_q (by omega)
    have hQ9 := hQ_q.fr hf_q (by omega) (by omega)
    have hS9 := hS_q.s0 hC.1 hf_q hT9
    refine go_iload_n (pc := 6) dX7_stir_6 rfl ?_
    refine go_aload_n (pc := 7) dX7_stir_7 rfl ?_
    refine go_getf (pc := 8) f_X7_65 dX7_stir_8 (by first | exact co0 hC | exact sr0 hR_q | exact be0 hQ_q | exact sr0 hT_q | exact be0 hQ9 | exact sr1 hR_q | exact sr2 hR_q | exact sr3 hR_q | exact sr4 hR_q | exact be1 hQ_q | exact be2 hQ_q | exact be3 hQ_q | exact sr3 hT_q | exact sr2 hT_q | exact sr1 hT_q | exact sr4 hT_q | exact co4 hC | exact co2 hC | exact co3 hC | exact co0 hC9 | exact sr0 hR9 | exact co4 hC9 | exact sr3 hR9 | exact sr2 hR9) (by rfl) ?_
    refine go_getf (pc := 11) f_X7_120 dX7_stir_11 (by first | exact co0 hC | exact sr0 hR_q | exact be0 hQ_q | exact sr0 hT_q | exact be0 hQ9 | exact sr1 hR_q | exact sr2 hR_q | exact sr3 hR_q | exact sr4 hR_q | exact be1 hQ_q | exact be2 hQ_q | exact be3 hQ_q | exact sr3 hT_q | exact sr2 hT_q | exact sr1 hT_q | exact sr4 hT_q | exact co4 hC | exact co2 hC | exact co3 hC | exact co0 hC9 | exact sr0 hR9 | exact co4 hC9 | exact sr3 hR9 | exact sr2 hR9) (by rfl) ?_
    refine go_getf (pc := 14) f_X7_263 dX7_stir_14 (by first | exact co0 hC | exact sr0 hR_q | exact be0 hQ_q | exact sr0 hT_q | exact be0 hQ9 | exact sr1 hR_q | exact sr2 hR_q | exact sr3 hR_q | exact sr4 hR_q | exact be1 hQ_q | exact be2 hQ_q | exact be3 hQ_q | exact sr3 hT_q | exact sr2 hT_q | exact sr1 hT_q | exact sr4 hT_q | exact co4 hC | exact co2 hC | exact co3 hC | exact co0 hC9 | exact sr0 hR9 | exact co4 hC9 | exact sr3 hR9 | exact sr2 hR9) (by rfl) ?_
    refine go_icmp_ge (tgt := 58) (pc := 17) dX7_stir_17 (by decide) (fun h_17 => by exfalso; rw [hB_q.1.1] at h_17; exact absurd h_17 (nI_ge (by omega) (by omega))) (fun h_17 => ?_)
    refine go_aload_n (pc := 20) dX7_stir_20 rfl ?_
    refine go_getf (pc := 21) f_X7_65 dX7_stir_21 (by first | exact co0 hC | exact sr0 hR_q | exact be0 hQ_q | exact sr0 hT_q | exact be0 hQ9 | exact sr1 hR_q | exact sr2 hR_q | exact sr3 hR_q | exact sr4 hR_q | exact be1 hQ_q | exact be2 hQ_q | exact be3 hQ_q | exact sr3 hT_q | exact sr2 hT_q | exact sr1 hT_q | exact sr4 hT_q | exact co4 hC | exact co2 hC | exact co3 hC | exact co0 hC9 | exact sr0 hR9 | exact co4 hC9 | exact sr3 hR9 | exact sr2 hR9) (by rfl) ?_
    refine go_iload_n (pc := 24) dX7_stir_24 rfl ?_
    refine go_V1P (pc := 25) v_X7_177 rfl rfl (rcv_of (ci := 5) (by first | exact co0 hC | exact sr0 hR_q | exact be0 hQ_q | exact sr0 hT_q | exact be0 hQ9 | exact sr1 hR_q | exact sr2 hR_q | exact sr3 hR_q | exact sr4 hR_q | exact be1 hQ_q | exact be2 hQ_q | exact be3 hQ_q | exact sr3 hT_q | exact sr2 hT_q | exact sr1 hT_q | exact sr4 hT_q | exact co4 hC | exact co2 hC | exact co3 hC | exact co0 hC9 | exact sr0 hR9 | exact co4 hC9 | exact sr3 hR9 | exact sr2 hR9) rfl) dX7_stir_25 (cp_whyNotLeave (k := k - 1) hR9 hr_q hQ9 (by omega) hB_q _) ?_
    refine go_if_ne (tgt := 52) (pc := 28) dX7_stir_28 (by decide) (fun h_28 => ?_) (fun h_28 => ?_)
    · refine go_iinc (v := 1) (lw := [_, _, _, _, _]) (pc := 52) dX7_stir_52 rfl (by decide) (by decide) rfl ?_
      refine go_goto (tgt := 6) (pc := 55) dX7_stir_55 (by decide) ?_
      rw [nI_1]
      first
        | (have g9_q : ¬ whyR K (nI i_q).toInt = 0 := h_28
           have f9 : stirF K i_q = 0 := by rw [stirF, ← nI_toInt (show i_q < 2 ^ 31 by omega), if_neg g9_q]
           refine ih_q _ _ _ ⟨_, _, _, rfl, ?_, hx9, hf_q, hT9, rfl⟩
           rw [← hR9e, argm_step hi_q, f9, if_neg (Int32.not_lt.mpr hx9)])
        | (have g9_q : ¬ x9_q < nI (riseK K i_q (-1)).2 := Int32.not_lt.mpr h_44
           have f9 : stirF K i_q = nI (riseK K i_q (-1)).2 := by rw [stirF, ← nI_toInt (show i_q < 2 ^ 31 by omega), if_pos g28]
           refine ih_q _ _ _ ⟨_, _, _, rfl, ?_, hx9, hf_q, hT9, rfl⟩
           rw [← hR9e, argm_step hi_q, f9, if_neg g9_q])
        | (have g9_q : x9_q < nI (riseK K i_q (-1)).2 := Int32.not_le.mp h_44
           have f9 : stirF K i_q = nI (riseK K i_q (-1)).2 := by rw [stirF, ← nI_toInt (show i_q < 2 ^ 31 by omega), if_pos g28]
           refine ih_q _ _ _ ⟨_, _, _, rfl, ?_, nI_pos' (by have := rise_cnt (K := K) (p := i_q) (s := -1) hH5; omega), hf_q, hT9, rfl⟩
           rw [← hR9e, argm_step hi_q, f9, if_pos g9_q])
    · have g28 : whyR K (nI i_q).toInt = 0 := h_28
      refine go_aload_n (pc := 31) dX7_stir_31 rfl ?_
      refine go_V0A (pc := 32) v_X7_223 rfl rfl (rcv_of (ci := 7) (by first | exact co0 hC | exact sr0 hR_q | exact be0 hQ_q | exact sr0 hT_q | exact be0 hQ9 | exact sr1 hR_q | exact sr2 hR_q | exact sr3 hR_q | exact sr4 hR_q | exact be1 hQ_q | exact be2 hQ_q | exact be3 hQ_q | exact sr3 hT_q | exact sr2 hT_q | exact sr1 hT_q | exact sr4 hT_q | exact co4 hC | exact co2 hC | exact co3 hC | exact co0 hC9 | exact sr0 hR9 | exact co4 hC9 | exact sr3 hR9 | exact sr2 hR9) rfl) dX7_stir_32 (cp_trial (k := k - 1) hC9 hR9 hr_q hQ9 hB_q hg_q hS9 hD hsb (by omega)) (fun v_32 σ n h_q => ?_)
      obtain ⟨rfl, rfl, ⟨ch9, co9, rw9, bk9, hT_q, hr9_q⟩, hf1⟩ := h_q
      rw [show goK 0 K = K from rfl] at hT_q hr9_q
      have hQ9 := hQ9.fr hf1 (by omega) (by omega)
      have hf_q := hf_q.tr hf1
      obtain ⟨j9, hj9, hu9, ha9⟩ := whyR_0 g28
      have ej9 : j9 = i_q := by rw [nI_toInt (by omega), pN_nat hi_q] at hj9; exact (Option.some.inj hj9).symm
      rw [ej9] at hu9
      refine go_iload_n (pc := 35) dX7_stir_35 rfl ?_
      refine go_V1I (pc := 36) v_X7_183 rfl rfl (rcv_of (ci := 5) (by first | exact co0 hC | exact sr0 hR_q | exact be0 hQ_q | exact sr0 hT_q | exact be0 hQ9 | exact sr1 hR_q | exact sr2 hR_q | exact sr3 hR_q | exact sr4 hR_q | exact be1 hQ_q | exact be2 hQ_q | exact be3 hQ_q | exact sr3 hT_q | exact sr2 hT_q | exact sr1 hT_q | exact sr4 hT_q | exact co4 hC | exact co2 hC | exact co3 hC | exact co0 hC9 | exact sr0 hR9 | exact co4 hC9 | exact sr3 hR9 | exact sr2 hR9) rfl) dX7_stir_36 (cp_leave (k := k - 1) hT_q hr9_q hQ9 hB_q hg_q (by omega) (by omega) (by omega) hi_q hu9) (fun v_36 σ n h_q => ?_)
      obtain ⟨rfl, rfl, hT9, hf1⟩ := h_q
      have hf_q := hf_q.tr hf1
      have hT9 := hT9.T
      refine go_istore (lw := [_, _, _, _, _]) (pc := 39) dX7_stir_39 (by decide) rfl ?_
      refine go_iload (pc := 41) dX7_stir_41 rfl ?_
      refine go_iload_n (pc := 43) dX7_stir_43 rfl ?_
      refine go_icmp_le (tgt := 52) (pc := 44) dX7_stir_44 (by decide) (fun h_44 => ?_) (fun h_44 => ?_)
      · refine go_iinc (v := 1) (lw := [_, _, _, _, _]) (pc := 52) dX7_stir_52 rfl (by decide) (by decide) rfl ?_
        refine go_goto (tgt := 6) (pc := 55) dX7_stir_55 (by decide) ?_
        rw [nI_1]
        first
          | (have g9_q : ¬ whyR K (nI i_q).toInt = 0 := h_28
             have f9 : stirF K i_q = 0 := by rw [stirF, ← nI_toInt (show i_q < 2 ^ 31 by omega), if_neg g9_q]
             refine ih_q _ _ _ ⟨_, _, _, rfl, ?_, hx9, hf_q, hT9, rfl⟩
             rw [← hR9e, argm_step hi_q, f9, if_neg (Int32.not_lt.mpr hx9)])
          | (have g9_q : ¬ x9_q < nI (riseK K i_q (-1)).2 := Int32.not_lt.mpr h_44
             have f9 : stirF K i_q = nI (riseK K i_q (-1)).2 := by rw [stirF, ← nI_toInt (show i_q < 2 ^ 31 by omega), if_pos g28]
             refine ih_q _ _ _ ⟨_, _, _, rfl, ?_, hx9, hf_q, hT9, rfl⟩
             rw [← hR9e, argm_step hi_q, f9, if_neg g9_q])
          | (have g9_q : x9_q < nI (riseK K i_q (-1)).2 := Int32.not_le.mp h_44
             have f9 : stirF K i_q = nI (riseK K i_q (-1)).2 := by rw [stirF, ← nI_toInt (show i_q < 2 ^ 31 by omega), if_pos g28]
             refine ih_q _ _ _ ⟨_, _, _, rfl, ?_, nI_pos' (by have := rise_cnt (K := K) (p := i_q) (s := -1) hH5; omega), hf_q, hT9, rfl⟩
             rw [← hR9e, argm_step hi_q, f9, if_pos g9_q])
      · refine go_iload (pc := 47) dX7_stir_47 rfl ?_
        refine go_istore_n (lw := [_, _, _, _, _]) (pc := 49) dX7_stir_49 (by decide) rfl ?_
        refine go_iload_n (pc := 50) dX7_stir_50 rfl ?_
        refine go_istore_n (lw := [_, _, _, _, _]) (pc := 51) dX7_stir_51 (by decide) rfl ?_
        refine go_iinc (v := 1) (lw := [_, _, _, _, _]) (pc := 52) dX7_stir_52 rfl (by decide) (by decide) rfl ?_
        refine go_goto (tgt := 6) (pc := 55) dX7_stir_55 (by decide) ?_
        rw [nI_1]
        first
          | (have g9_q : ¬ whyR K (nI i_q).toInt = 0 := h_28
             have f9 : stirF K i_q = 0 := by rw [stirF, ← nI_toInt (show i_q < 2 ^ 31 by omega), if_neg g9_q]
             refine ih_q _ _ _ ⟨_, _, _, rfl, ?_, hx9, hf_q, hT9, rfl⟩
             rw [← hR9e, argm_step hi_q, f9, if_neg (Int32.not_lt.mpr hx9)])
          | (have g9_q : ¬ x9_q < nI (riseK K i_q (-1)).2 := Int32.not_lt.mpr h_44
             have f9 : stirF K i_q = nI (riseK K i_q (-1)).2 := by rw [stirF, ← nI_toInt (show i_q < 2 ^ 31 by omega), if_pos g28]
             refine ih_q _ _ _ ⟨_, _, _, rfl, ?_, hx9, hf_q, hT9, rfl⟩
             rw [← hR9e, argm_step hi_q, f9, if_neg g9_q])
          | (have g9_q : x9_q < nI (riseK K i_q (-1)).2 := Int32.not_le.mp h_44
             have f9 : stirF K i_q = nI (riseK K i_q (-1)).2 := by rw [stirF, ← nI_toInt (show i_q < 2 ^ 31 by omega), if_pos g28]
             refine ih_q _ _ _ ⟨_, _, _, rfl, ?_, nI_pos' (by have := rise_cnt (K := K) (p := i_q) (s := -1) hH5; omega), hf_q, hT9, rfl⟩
             rw [← hR9e, argm_step hi_q, f9, if_pos g9_q])
  · rintro lv9 σ n9 ⟨b9_q, x9_q, x4_q, rfl, hR9e, hx9, hf_q, hT9, rfl⟩
    have hC9 := hC.fs (hf_q.toS (S := scr a) (fun q x y => by omega)) (fun q x => by omega)
    have hR9 := hR_q.fr hf_q (by omega)
    have hQ9 := hQ_q.fr hf_q (by omega) (by omega)
    have hS9 := hS_q.s0 hC.1 hf_q hT9
    refine go_iload_n (pc := 6) dX7_stir_6 rfl ?_
    refine go_aload_n (pc := 7) dX7_stir_7 rfl ?_
    refine go_getf (pc := 8) f_X7_65 dX7_stir_8 (by first | exact co0 hC | exact sr0 hR_q | exact be0 hQ_q | exact sr0 hT_q | exact be0 hQ9 | exact sr1 hR_q | exact sr2 hR_q | exact sr3 hR_q | exact sr4 hR_q | exact be1 hQ_q | exact be2 hQ_q | exact be3 hQ_q | exact sr3 hT_q | exact sr2 hT_q | exact sr1 hT_q | exact sr4 hT_q | exact co4 hC | exact co2 hC | exact co3 hC | exact co0 hC9 | exact sr0 hR9 | exact co4 hC9 | exact sr3 hR9 | exact sr2 hR9) (by rfl) ?_
    refine go_getf (pc := 11) f_X7_120 dX7_stir_11 (by first | exact co0 hC | exact sr0 hR_q | exact be0 hQ_q | exact sr0 hT_q | exact be0 hQ9 | exact sr1 hR_q | exact sr2 hR_q | exact sr3 hR_q | exact sr4 hR_q | exact be1 hQ_q | exact be2 hQ_q | exact be3 hQ_q | exact sr3 hT_q | exact sr2 hT_q | exact sr1 hT_q | exact sr4 hT_q | exact co4 hC | exact co2 hC | exact co3 hC | exact co0 hC9 | exact sr0 hR9 | exact co4 hC9 | exact sr3 hR9 | exact sr2 hR9) (by rfl) ?_
    refine go_getf (pc := 14) f_X7_263 dX7_stir_14 (by first | exact co0 hC | exact sr0 hR_q | exact be0 hQ_q | exact sr0 hT_q | exact be0 hQ9 | exact sr1 hR_q | exact sr2 hR_q | exact sr3 hR_q | exact sr4 hR_q | exact be1 hQ_q | exact be2 hQ_q | exact be3 hQ_q | exact sr3 hT_q | exact sr2 hT_q | exact sr1 hT_q | exact sr4 hT_q | exact co4 hC | exact co2 hC | exact co3 hC | exact co0 hC9 | exact sr0 hR9 | exact co4 hC9 | exact sr3 hR9 | exact sr2 hR9) (by rfl) ?_
    refine go_icmp_ge (tgt := 58) (pc := 17) dX7_stir_17 (by decide) (fun h_17 => ?_) (fun h_17 => by exfalso; rw [hB_q.1.1] at h_17; exact h_17 (nI_le (by omega) (by omega)))
    refine go_iload_n (pc := 58) dX7_stir_58 rfl ?_
    exact go_iretI (pc := 59) rfl dX7_stir_59 (Nat.le_of_ble_eq_true rfl) (Nat.le_of_ble_eq_true rfl) ⟨(by rw [← hR9e, Nat.sub_self]; rfl), rfl, hS_q.s0 hC.1 hf_q hT9, hf_q.toS (fun q x y => by omega)⟩
