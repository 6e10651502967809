/-! ===== the class: two who changed ===== -/
theorem cp_needTwos {Γ : gam} {D : Nat} {ro : Nat → Nat} {z0 : sto} {n k a b : Nat} {w : Int32} {K ag pa pf ch co rw bk G : row} {im : Nat → Option Nat} {lm lt lw : Value} (hC : CoAt Γ ro z0 a G im) (hR_q : SrAt Γ ro z0 (a + 14) b w (K 33) ch co rw bk) (hr_q : rS K ch co rw bk) (hQ_q : BrAt Γ D ro z0 b K ag pa pf lm lt lw) (hB_q : okB K) (hk : 8 ≤ k) (s z : Int32) : Sp Γ (rmk k 2 12) uX7_needTwosAsked [.ref a, .int s, .int z] z0 n (qT (qV fun σ' n' => (∃ j1_q, chT K s z.toInt = 0 ∧ z = nI j1_q ∧ 1 ≤ j1_q ∧ j1_q ≤ 60) ∧ z0 = σ' ∧ n = n') (fun x σ' n' => chT K s z.toInt = 1 ∧ x = eIA ∧ σ' = z0 ∧ n ≤ n')) := by
  have hP8 := hB_q.1.2.1
  have hH5 := hB_q.1.2.2.2.1
  have hW4 := hB_q.1.2.2.2.2.2
  refine sp_intro [some (.ref a), some (.int s), some (.int z)] (by decide +kernel) rfl (Nat.le_of_ble_eq_true rfl) rfl ?_
  refine go_iload_n (pc := 0) dX7_needTwosAsked_0 rfl ?_
  refine go_aload_n (pc := 1) dX7_needTwosAsked_1 rfl ?_
  refine go_getf (pc := 2) f_X7_65 dX7_needTwosAsked_2 (by first | exact co0 hC | exact sr0 hR_q | exact be0 hQ_q | exact sr0 hT_q | exact be0 hQ9 | exact sr1 hR_q | exact sr2 hR_q | exact sr3 hR_q | exact sr4 hR_q | exact be1 hQ_q | exact be2 hQ_q | exact be3 hQ_q | exact sr3 hT_q | exact sr2 hT_q | exact sr1 hT_q | exact sr4 hT_q | exact co4 hC | exact co2 hC | exact co3 hC | exact co0 hC9 | exact sr0 hR9 | exact co4 hC9 | exact sr3 hR9 | exact sr2 hR9) (by rfl) ?_
  refine go_getf (pc := 5) f_X7_120 dX7_needTwosAsked_5 (by first | exact co0 hC | exact sr0 hR_q | exact be0 hQ_q | exact sr0 hT_q | exact be0 hQ9 | exact sr1 hR_q | exact sr2 hR_q | exact sr3 hR_q | exact sr4 hR_q | exact be1 hQ_q | exact be2 hQ_q | exact be3 hQ_q | exact sr3 hT_q | exact sr2 hT_q | exact sr1 hT_q | exact sr4 hT_q | exact co4 hC | exact co2 hC | exact co3 hC | exact co0 hC9 | exact sr0 hR9 | exact co4 hC9 | exact sr3 hR9 | exact sr2 hR9) (by rfl) ?_
  refine go_V0P (pc := 8) v_X7_304 rfl rfl (rcv_of (ci := 0) (by first | exact co0 hC | exact sr0 hR_q | exact be0 hQ_q | exact sr0 hT_q | exact be0 hQ9 | exact sr1 hR_q | exact sr2 hR_q | exact sr3 hR_q | exact sr4 hR_q | exact be1 hQ_q | exact be2 hQ_q | exact be3 hQ_q | exact sr3 hT_q | exact sr2 hT_q | exact sr1 hT_q | exact sr4 hT_q | exact co4 hC | exact co2 hC | exact co3 hC | exact co0 hC9 | exact sr0 hR9 | exact co4 hC9 | exact sr3 hR9 | exact sr2 hR9) rfl) dX7_needTwosAsked_8 (cp_everybody (k := k - 1) hQ_q) ?_
  refine go_iconst (v := -1) (pc := 11) dX7_needTwosAsked_11 (by decide) ?_
  refine go_ixor (pc := 12) dX7_needTwosAsked_12 ?_
  refine go_iand (pc := 13) dX7_needTwosAsked_13 ?_
  refine go_if_eq (tgt := 28) (pc := 14) dX7_needTwosAsked_14 (by decide) (fun h_14 => ?_) (fun h_14 => ?_)
  · refine go_aload_n (pc := 28) dX7_needTwosAsked_28 rfl ?_
    refine go_iload_n (pc := 29) dX7_needTwosAsked_29 rfl ?_
    refine go_iconst (v := 1) (pc := 30) dX7_needTwosAsked_30 (by decide) ?_
    refine go_bipush (v := 60) (pc := 31) dX7_needTwosAsked_31 (by decide) ?_
    refine go_V3Vx (pc := 33) v_X7_90 rfl rfl (rcv_of (ci := 7) (by first | exact co0 hC | exact sr0 hR_q | exact be0 hQ_q | exact sr0 hT_q | exact be0 hQ9 | exact sr1 hR_q | exact sr2 hR_q | exact sr3 hR_q | exact sr4 hR_q | exact be1 hQ_q | exact be2 hQ_q | exact be3 hQ_q | exact sr3 hT_q | exact sr2 hT_q | exact sr1 hT_q | exact sr4 hT_q | exact co4 hC | exact co2 hC | exact co3 hC | exact co0 hC9 | exact sr0 hR9 | exact co4 hC9 | exact sr3 hR9 | exact sr2 hR9) rfl) dX7_needTwosAsked_33 (cp_nW (k := k - 1) (lo := 1) (hi_q := 60) (by omega) (by decide) (by decide) _) (fun x σx nx hx_q => by obtain ⟨h9_q, rfl, rfl, h8_q⟩ := hx_q; exact Or.inr ⟨_, rfl, (by rw [chT, if_pos h_14, h9_q]), rfl, rfl, h8_q⟩) (fun σ n h_q => ?_)
    obtain ⟨⟨j1_q, hj1, rfl, hj1a, hj1b⟩, rfl, rfl⟩ := h_q
    exact go_vretT (pc := 36) rfl dX7_needTwosAsked_36 (Nat.le_of_ble_eq_true rfl) (Nat.le_of_ble_eq_true rfl) ⟨⟨j1_q, (by rw [chT, if_pos h_14, hj1]), rfl, hj1a, hj1b⟩, rfl, rfl⟩
  · exact go_throwW (si := 27) (pc := 17) th_IA rfl rfl rfl dX7_needTwosAsked_17 dX7_needTwosAsked_20 dX7_needTwosAsked_21 dX7_needTwosAsked_24 dX7_needTwosAsked_27 (fun n2 hn2 => Or.inr ⟨_, rfl, (by rw [chT, if_neg h_14]), rfl, rfl, hn2⟩)
theorem cp_exchangedAhead {Γ : gam} {D : Nat} {ro : Nat → Nat} {z0 : sto} {n k a b : Nat} {w : Int32} {K ag pa pf ch co rw bk G : row} {im : Nat → Option Nat} {lm lt lw : Value} (hC : CoAt Γ ro z0 a G im) (hR_q : SrAt Γ ro z0 (a + 14) b w (K 33) ch co rw bk) (hr_q : rS K ch co rw bk) (hQ_q : BrAt Γ D ro z0 b K ag pa pf lm lt lw) (hB_q : okB K) (hg_q : gS K) (hS_q : ScAt Γ ro z0 a) (hD : a + 113 < D) (hsb : b = a + 10 ∨ a + 113 < b) (hw_q : w = K 32) (hk : 10 ≤ k) {p q m : Nat} (hp_q : p < kP K) (hq_q : q < kP K) (hne : p ≠ q) (hup : K (16 + p) ≠ -1) (huq : K (16 + q) ≠ -1) (hm_q : m ≤ 60) {lv : row} (h7_q : z0 (a + 7) = some (cI Γ 60 lv)) (hlv : ∀ i_q, i_q < m → lv i_q = tideK K (K 33 + nI i_q)) : Sp Γ (rmk k 0 0) uX7_exchangedAhead [.ref a, .int (nI p), .int (nI q), .int (nI m)] z0 n (qA fun v σ' n' => v = a + 89 ∧ n' = n ∧ SeAt Γ ro σ' (a + 89) b (goK m (swapK K p q) 32) (goK m (swapK K p q)) ∧ frC Γ ro (a + 89) (a + 93) z0 σ') := by
  have hP8 := hB_q.1.2.1
  have hH5 := hB_q.1.2.2.2.1
  have hW4 := hB_q.1.2.2.2.2.2
  refine sp_intro [some (.ref a), some (.int (nI p)), some (.int (nI q)), some (.int (nI m)), none, none] (by decide +kernel) rfl (Nat.le_of_ble_eq_true rfl) rfl ?_
  refine go_aload_n (pc := 0) dX7_exchangedAhead_0 rfl ?_
  refine go_V0A (pc := 1) v_X7_223 rfl rfl (rcv_of (ci := 7) (by first | exact co0 hC | exact h79 | exact sr0 hR_q | exact be0 hQ_q | exact sr0 hT_q | exact be0 hQ9 | exact sr1 hR_q | exact sr2 hR_q | exact sr3 hR_q | exact sr4 hR_q | exact be1 hQ_q | exact be2 hQ_q | exact be3 hQ_q | exact sr3 hT_q | exact sr2 hT_q | exact sr1 hT_q | exact sr4 hT_q | exact co4 hC | exact co2 hC | exact co3 hC | exact co0 hC9 | exact sr0 hR9 | exact co4 hC9 | exact sr3 hR9 | exact sr2 hR9) rfl) dX7_exchangedAhead_1 (cp_trial (k := k - 1) hC hR_q hr_q hQ_q hB_q hg_q hS_q hD hsb (by omega)) (fun v_1 σ n h_q => ?_)
  obtain ⟨rfl, rfl, ⟨ch9, co9, rw9, bk9, hT_q, hr9_q⟩, hf_q⟩ := h_q
  have hQ9 := hQ_q.fr hf_q (by omega) (by omega)
  refine go_astore (lw := [_, _, _, _, _, _]) (pc := 4) dX7_exchangedAhead_4 (by decide) rfl ?_
  rw [show goK 0 K = K from rfl] at hT_q hr9_q
  refine go_aload (pc := 6) dX7_exchangedAhead_6 rfl ?_
  refine go_iload_n (pc := 8) dX7_exchangedAhead_8 rfl ?_
  refine go_iload_n (pc := 9) dX7_exchangedAhead_9 rfl ?_
  refine go_V2V (pc := 10) v_X7_195 rfl rfl (rcv_of (ci := 5) (by first | exact co0 hC | exact h79 | exact sr0 hR_q | exact be0 hQ_q | exact sr0 hT_q | exact be0 hQ9 | exact sr1 hR_q | exact sr2 hR_q | exact sr3 hR_q | exact sr4 hR_q | exact be1 hQ_q | exact be2 hQ_q | exact be3 hQ_q | exact sr3 hT_q | exact sr2 hT_q | exact sr1 hT_q | exact sr4 hT_q | exact co4 hC | exact co2 hC | exact co3 hC | exact co0 hC9 | exact sr0 hR9 | exact co4 hC9 | exact sr3 hR9 | exact sr2 hR9) rfl) dX7_exchangedAhead_10 (cp_exchange (k := k - 1) hT_q hr9_q hQ9 hB_q hg_q (by omega) (by omega) (by omega) hp_q hq_q hne hup huq) (fun σ n h_q => ?_)
  obtain ⟨rfl, ⟨ch9, co9, rw9, bk9, hT_q, hr9_q⟩, hf1⟩ := h_q
  have hf_q := hf_q.tr hf1
  have hQ9 := hQ9.fr hf1 (by omega) (by omega)
  have hs0 : sameB K (swapK K p q) := swapK_same (by omega) (by omega)
  have hg0 : gS (swapK K p q) := gS_sw hP8 hp_q hq_q hg_q hup huq
  have eP0 := hs0.P
  have eH0 := hs0.H
  refine go_iconst (v := 0) (pc := 13) dX7_exchangedAhead_13 (by decide) ?_
  refine go_istore (lw := [_, _, _, _, _, _]) (pc := 14) dX7_exchangedAhead_14 (by decide) rfl ?_
  refine go_iter (m) (fun i_q lv9 s9 n9 => ∃ (ch9 : row), ∃ (co9 : row), ∃ (rw9 : row), ∃ (bk9 : row), lv9 = [some (.ref a), some (.int (nI p)), some (.int (nI q)), some (.int (nI m)), some (.ref (a + 89)), some (.int (nI i_q))] ∧ (SrAt Γ ro s9 (a + 89) b (goK i_q (swapK K p q) 32) (goK i_q (swapK K p q) 33) ch9 co9 rw9 bk9) ∧ (rS (goK i_q (swapK K p q)) ch9 co9 rw9 bk9) ∧ (BrAt Γ D ro s9 b K ag pa pf lm lt lw) ∧ (frC Γ ro (a + 89) (a + 93) z0 s9) ∧ n = n9) ⟨_, _, _, _, rfl, (by show SrAt Γ ro _ (a + 89) b (swapK K p q 32) (swapK K p q 33) _ _ _ _; rw [sw_32 (by omega) (by omega), ← hw_q]; exact hT_q), hr9_q, hQ9, hf_q, rfl⟩ ?_ ?_
  · rintro i_q lv9 σ n9 hi_q ⟨ch9, co9, rw9, bk9, rfl, hT_q, hr9_q, hQ9, hf_q, rfl⟩ ih_q
    have hs9 : sameB (swapK K p q) (goK i_q (swapK K p q)) := goK_same (by omega)
    have hB9_q := (hs0.tr hs9).okB hB_q
    have hg9_q : gS (goK i_q (swapK K p q)) := gS_go hg0 (by omega) (by omega)
    have eP_q := hs9.P
    have eH_q := hs9.H
    have hC9 := hC.fs (hf_q.toS (S := scr a) (fun q x y => by omega)) (fun q x => by omega)
    have h79 := (hf_q.1 _ (by omega) (hC.1 (a + 7) (by omega) (by omega))).trans h7_q
    refine go_iload (pc := 16) dX7_exchangedAhead_16 rfl ?_
    refine go_iload_n (pc := 18) dX7_exchangedAhead_18 rfl ?_
    refine go_icmp_ge (tgt := 47) (pc := 19) dX7_exchangedAhead_19 (by decide) (fun h_19 => by exfalso; exact absurd h_19 (nI_ge (by omega) (by omega))) (fun h_19 => ?_)
    refine go_iload (pc := 22) dX7_exchangedAhead_22 rfl ?_
    refine go_bipush (v := 60) (pc := 24) dX7_exchangedAhead_24 (by decide) ?_
    refine go_icmp_ge (tgt := 47) (pc := 26) dX7_exchangedAhead_26 (by decide) (fun h_26 => by exfalso; exact absurd h_26 (nI_ge (b := 60) (by omega) (by decide))) (fun h_26 => ?_)
    refine go_aload (pc := 29) dX7_exchangedAhead_29 rfl ?_
    refine go_aload_n (pc := 31) dX7_exchangedAhead_31 rfl ?_
    refine go_getf (pc := 32) f_X7_47 dX7_exchangedAhead_32 (by first | exact co0 hC | exact h79 | exact sr0 hR_q | exact be0 hQ_q | exact sr0 hT_q | exact be0 hQ9 | exact sr1 hR_q | exact sr2 hR_q | exact sr3 hR_q | exact sr4 hR_q | exact be1 hQ_q | exact be2 hQ_q | exact be3 hQ_q | exact sr3 hT_q | exact sr2 hT_q | exact sr1 hT_q | exact sr4 hT_q | exact co4 hC | exact co2 hC | exact co3 hC | exact co0 hC9 | exact sr0 hR9 | exact co4 hC9 | exact sr3 hR9 | exact sr2 hR9) (by rfl) ?_
    refine go_iload (pc := 35) dX7_exchangedAhead_35 rfl ?_
    refine go_iald (pc := 37) dX7_exchangedAhead_37 (by first | exact co0 hC | exact h79 | exact sr0 hR_q | exact be0 hQ_q | exact sr0 hT_q | exact be0 hQ9 | exact sr1 hR_q | exact sr2 hR_q | exact sr3 hR_q | exact sr4 hR_q | exact be1 hQ_q | exact be2 hQ_q | exact be3 hQ_q | exact sr3 hT_q | exact sr2 hT_q | exact sr1 hT_q | exact sr4 hT_q | exact co4 hC | exact co2 hC | exact co3 hC | exact co0 hC9 | exact sr0 hR9 | exact co4 hC9 | exact sr3 hR9 | exact sr2 hR9) (by exact ⟨rfl, by omega⟩) ?_
    refine go_V1V (pc := 38) v_X7_207 rfl rfl (rcv_of (ci := 5) (by first | exact co0 hC | exact h79 | exact sr0 hR_q | exact be0 hQ_q | exact sr0 hT_q | exact be0 hQ9 | exact sr1 hR_q | exact sr2 hR_q | exact sr3 hR_q | exact sr4 hR_q | exact be1 hQ_q | exact be2 hQ_q | exact be3 hQ_q | exact sr3 hT_q | exact sr2 hT_q | exact sr1 hT_q | exact sr4 hT_q | exact co4 hC | exact co2 hC | exact co3 hC | exact co0 hC9 | exact sr0 hR9 | exact co4 hC9 | exact sr3 hR9 | exact sr2 hR9) rfl) dX7_exchangedAhead_38 (cp_pass (k := k - 1) hT_q hr9_q (hQ9.sm (hs0.tr hs9)) hB9_q hg9_q (by omega) (by omega) (by omega) _) (fun σ n h_q => ?_)
    obtain ⟨rfl, ⟨ch9, co9, rw9, bk9, hT_q, hr9_q⟩, hf1⟩ := h_q
    have hf_q := hf_q.tr hf1
    have hQ9 := hQ9.fr hf1 (by omega) (by omega)
    rw [hlv i_q hi_q, show tideK K (K 33 + nI i_q) = tideK (goK i_q (swapK K p q)) (goK i_q (swapK K p q) 33) from by rw [go_33 (by omega), swap_hi (by omega) (by omega) (by omega), tide_same (hs0.tr hs9)], ← minK_32 (by omega)] at hT_q
    refine go_iinc (v := 1) (lw := [_, _, _, _, _, _]) (pc := 41) dX7_exchangedAhead_41 rfl (by decide) (by decide) rfl ?_
    refine go_goto (tgt := 16) (pc := 44) dX7_exchangedAhead_44 (by decide) ?_
    rw [nI_1]
    exact ih_q _ _ _ ⟨_, _, _, _, rfl, (by rw [goK_s]; exact hT_q), (by rw [goK_s]; exact hr9_q), hQ9, hf_q, rfl⟩
  · rintro lv9 σ n9 ⟨ch9, co9, rw9, bk9, rfl, hT_q, hr9_q, hQ9, hf_q, rfl⟩
    refine go_iload (pc := 16) dX7_exchangedAhead_16 rfl ?_
    refine go_iload_n (pc := 18) dX7_exchangedAhead_18 rfl ?_
    refine go_icmp_ge (tgt := 47) (pc := 19) dX7_exchangedAhead_19 (by decide) (fun h_19 => ?_) (fun h_19 => by exfalso; exact h_19 (nI_le (by omega) (by omega)))
    refine go_aload (pc := 47) dX7_exchangedAhead_47 rfl ?_
    exact go_aretA (pc := 49) rfl (Or.inl ⟨_, rfl⟩) dX7_exchangedAhead_49 (Nat.le_of_ble_eq_true rfl) (Nat.le_of_ble_eq_true rfl) ⟨rfl, rfl, ⟨_, _, _, _, hT_q, hr9_q⟩, hf_q⟩
theorem cp_keepEnds {Γ : gam} {D : Nat} {ro : Nat → Nat} {z0 : sto} {n k a b t : Nat} {w : Int32} {K ag pa pf ch co rw bk G g : row} {im : Nat → Option Nat} {lm lt lw : Value} (hC : CoAt Γ ro z0 a G im) (hT_q : SrAt Γ ro z0 (a + 89) b w (K 33) ch co rw bk) (hr_q : rS K ch co rw bk) (hQ9 : BrAt Γ D ro z0 b K ag pa pf lm lt lw) (hB_q : okB K) (hD : a + 113 < D) (hsb : b = a + 10 ∨ a + 113 < b) (h9_q : z0 (a + 9) = some (cI Γ 224 g)) (ht_q : t < 28) (hk : 4 ≤ k) : Sp Γ (rmk k 0 0) uX7_keepEnds [.ref a, .ref (a + 89), .int (nI t)] z0 n (qV fun σ' n' => n' = n ∧ (∃ g', σ' (a + 9) = some (cI Γ 224 g') ∧ (∀ p, p < kP K → g' (8 * t + p) = placeK K p) ∧ ∀ q, q < 8 * t → g' q = g q) ∧ ∀ q, q ≠ a + 9 → σ' q = z0 q) := by
  have hP8 := hB_q.1.2.1
  have hH5 := hB_q.1.2.2.2.1
  have hW4 := hB_q.1.2.2.2.2.2
  refine sp_intro [some (.ref a), some (.ref (a + 89)), some (.int (nI t)), none] (by decide +kernel) rfl (Nat.le_of_ble_eq_true rfl) rfl ?_
  refine go_iconst (v := 0) (pc := 0) dX7_keepEnds_0 (by decide) ?_
  refine go_istore_n (lw := [_, _, _, _]) (pc := 1) dX7_keepEnds_1 (by decide) rfl ?_
  refine go_iter (kP K) (fun i_q lv9 s9 n9 => ∃ (g9_q : row), lv9 = [some (.ref a), some (.ref (a + 89)), some (.int (nI t)), some (.int (nI i_q))] ∧ (SrAt Γ ro s9 (a + 89) b w (K 33) ch co rw bk) ∧ (BrAt Γ D ro s9 b K ag pa pf lm lt lw) ∧ (s9 (a + 9) = some (cI Γ 224 g9_q)) ∧ (∀ p, p < i_q → g9_q (8 * t + p) = placeK K p) ∧ (∀ q, q < 8 * t → g9_q q = g q) ∧ (∀ q, q ≠ a + 9 → s9 q = z0 q) ∧ n = n9) ⟨_, rfl, hT_q, hQ9, h9_q, (fun p hp_q => by omega), (fun q _ => rfl), (fun q _ => rfl), rfl⟩ ?_ ?_
  · rintro i_q lv9 σ n9 hi_q ⟨g9_q, rfl, hT_q, hQ9, h9_q, hg1, hg2, hqq, rfl⟩ ih_q
    have hC9 := hC.fs (frS.one (Γ := Γ) (ro := ro) hqq) (fun q x z => by omega)
    refine go_iload_n (pc := 2) dX7_keepEnds_2 rfl ?_
    refine go_aload_n (pc := 3) dX7_keepEnds_3 rfl ?_
    refine go_getf (pc := 4) f_X7_120 dX7_keepEnds_4 (by first | exact sr0 hT_q | exact be0 hQ9 | exact co0 hC9 | exact h9_q) (by rfl) ?_
    refine go_getf (pc := 7) f_X7_263 dX7_keepEnds_7 (by first | exact sr0 hT_q | exact be0 hQ9 | exact co0 hC9 | exact h9_q) (by rfl) ?_
    refine go_icmp_ge (tgt := 35) (pc := 10) dX7_keepEnds_10 (by decide) (fun h_10 => by exfalso; rw [hB_q.1.1] at h_10; exact absurd h_10 (nI_ge (by omega) (by omega))) (fun h_10 => ?_)
    refine go_aload_n (pc := 13) dX7_keepEnds_13 rfl ?_
    refine go_getf (pc := 14) f_X7_53 dX7_keepEnds_14 (by first | exact sr0 hT_q | exact be0 hQ9 | exact co0 hC9 | exact h9_q) (by rfl) ?_
    refine go_iload_n (pc := 17) dX7_keepEnds_17 rfl ?_
    refine go_bipush (v := 8) (pc := 18) dX7_keepEnds_18 (by decide) ?_
    refine go_imul (pc := 20) dX7_keepEnds_20 ?_
    refine go_iload_n (pc := 21) dX7_keepEnds_21 rfl ?_
    refine go_iadd (pc := 22) dX7_keepEnds_22 ?_
    rw [ix8]
    refine go_aload_n (pc := 23) dX7_keepEnds_23 rfl ?_
    refine go_iload_n (pc := 24) dX7_keepEnds_24 rfl ?_
    refine go_V1P (pc := 25) v_X7_256 rfl rfl (rcv_of (ci := 5) (by first | exact sr0 hT_q | exact be0 hQ9 | exact co0 hC9 | exact h9_q) rfl) dX7_keepEnds_25 (cp_place (k := k - 1) hT_q hr_q hQ9 hB_q hi_q) ?_
    refine go_iastF (pc := 28) dX7_keepEnds_28 (by first | exact sr0 hT_q | exact be0 hQ9 | exact co0 hC9 | exact h9_q) (by exact ⟨rfl, by omega⟩) (fun σ ho9 hq9 => ?_)
    have hu := frS.one (Γ := Γ) (ro := ro) hq9
    have hT_q := hT_q.fs hu (fun q x y z => by omega)
    have hQ9 := hQ9.fs hu (fun q x z => by omega) (fun q x y z => by omega)
    have hqq : ∀ q, q ≠ a + 9 → σ q = z0 q := fun q hq_q => (hq9 q hq_q).trans (hqq q hq_q)
    have h9_q := ho9
    refine go_iinc (v := 1) (lw := [_, _, _, _]) (pc := 29) dX7_keepEnds_29 rfl (by decide) (by decide) rfl ?_
    refine go_goto (tgt := 2) (pc := 32) dX7_keepEnds_32 (by decide) ?_
    rw [nI_1]
    exact ih_q _ _ _ ⟨_, rfl, hT_q, hQ9, h9_q, (fun p hp_q => (Nat.lt_or_ge p i_q).elim (fun h_q => by rw [pk_un (by omega)]; exact hg1 p h_q) (fun h_q => by rw [show p = i_q by omega, pk_us])), (fun q hq_q => by rw [pk_un (by omega)]; exact hg2 q hq_q), hqq, rfl⟩
  · rintro lv9 σ n9 ⟨g9_q, rfl, hT_q, hQ9, h9_q, hg1, hg2, hqq, rfl⟩
    have hC9 := hC.fs (frS.one (Γ := Γ) (ro := ro) hqq) (fun q x z => by omega)
    refine go_iload_n (pc := 2) dX7_keepEnds_2 rfl ?_
    refine go_aload_n (pc := 3) dX7_keepEnds_3 rfl ?_
    refine go_getf (pc := 4) f_X7_120 dX7_keepEnds_4 (by first | exact sr0 hT_q | exact be0 hQ9 | exact co0 hC9 | exact h9_q) (by rfl) ?_
    refine go_getf (pc := 7) f_X7_263 dX7_keepEnds_7 (by first | exact sr0 hT_q | exact be0 hQ9 | exact co0 hC9 | exact h9_q) (by rfl) ?_
    refine go_icmp_ge (tgt := 35) (pc := 10) dX7_keepEnds_10 (by decide) (fun h_10 => ?_) (fun h_10 => by exfalso; rw [hB_q.1.1] at h_10; exact h_10 (nI_le (by omega) (by omega)))
    exact go_vretV (pc := 35) rfl dX7_keepEnds_35 (Nat.le_of_ble_eq_true rfl) (Nat.le_of_ble_eq_true rfl) ⟨rfl, ⟨_, h9_q, hg1, hg2⟩, hqq⟩
theorem cp_collect {Γ : gam} {D : Nat} {ro : Nat → Nat} {z0 : sto} {n k a b : Nat} {w : Int32} {K ag pa pf ch co rw bk G : row} {im : Nat → Option Nat} {lm lt lw : Value} (hC : CoAt Γ ro z0 a G im) (hR_q : SrAt Γ ro z0 (a + 14) b w (K 33) ch co rw bk) (hr_q : rS K ch co rw bk) (hQ_q : BrAt Γ D ro z0 b K ag pa pf lm lt lw) (hB_q : okB K) (hg_q : gS K) (hS_q : ScAt Γ ro z0 a) (hD : a + 113 < D) (hsb : b = a + 10 ∨ a + 113 < b) (hw_q : w = K 32) (hk : 12 ≤ k) (s : Int32) {m : Nat} (hm_q : m ≤ 60) : Sp Γ (rmk k 0 0) uX7_collectTwos [.ref a, .int s, .int (nI m)] z0 n (qI fun v σ' n' => v = nI (twK K s m).length ∧ n' = n ∧ ScAt Γ ro σ' a ∧ frS Γ ro (scr a) z0 σ' ∧ ∃ f' g', σ' (a + 8) = some (cI Γ 28 f') ∧ σ' (a + 9) = some (cI Γ 224 g') ∧ twJ K m (twK K s m) f' g') := by
  have hP8 := hB_q.1.2.1
  have hH5 := hB_q.1.2.2.2.1
  have hW4 := hB_q.1.2.2.2.2.2
  obtain ⟨lv7, h7_q⟩ := hS_q.2.2.1
  obtain ⟨f8, h8_q⟩ := hS_q.2.2.2.1
  obtain ⟨g8_q, h9_q⟩ := hS_q.2.2.2.2.1
  refine sp_intro [some (.ref a), some (.int s), some (.int (nI m)), none, none, none, none] (by decide +kernel) rfl (Nat.le_of_ble_eq_true rfl) rfl ?_
  refine go_iconst (v := 0) (pc := 0) dX7_collectTwos_0 (by decide) ?_
  refine go_istore_n (lw := [_, _, _, _, _, _, _]) (pc := 1) dX7_collectTwos_1 (by decide) rfl ?_
  refine go_iter (m) (fun i_q lv9 s9 n9 => ∃ (lv7 : row), lv9 = [some (.ref a), some (.int s), some (.int (nI m)), some (.int (nI i_q)), none, none, none] ∧ (frS Γ ro (fun q => (a + 7 ≤ q ∧ q ≤ a + 9) ∨ (a + 89 ≤ q ∧ q ≤ a + 93)) z0 s9) ∧ (s9 (a + 7) = some (cI Γ 60 lv7)) ∧ (s9 (a + 8) = some (cI Γ 28 f8)) ∧ (s9 (a + 9) = some (cI Γ 224 g8_q)) ∧ (TrAt Γ ro s9 (a + 89)) ∧ (∀ j, j < i_q → lv7 j = tideK K (K 33 + nI j)) ∧ n = n9) ⟨_, rfl, frS.rf, h7_q, h8_q, h9_q, hS_q.t0, (fun j hj_q => by omega), rfl⟩ ?_ ?_
  · rintro i_q lv9 σ n9 hi_q ⟨lv7, rfl, hfX, h7_q, h8_q, h9_q, hT0, hlv, rfl⟩ ih_q
    have hC9 := hC.fs hfX (fun q x z => by omega)
    have hR9 := hR_q.fs hfX (fun q x y z => by omega)
    have hQ9 := hQ_q.fs hfX (fun q x z => by omega) (fun q x y z => by omega)
    refine go_iload_n (pc := 2) dX7_collectTwos_2 rfl ?_
    refine go_iload_n (pc := 3) dX7_collectTwos_3 rfl ?_
    refine go_icmp_ge (tgt := 44) (pc := 4) dX7_collectTwos_4 (by decide) (fun h_4 => by exfalso; exact absurd h_4 (nI_ge (by omega) (by omega))) (fun h_4 => ?_)
    refine go_iload_n (pc := 7) dX7_collectTwos_7 rfl ?_
    refine go_bipush (v := 60) (pc := 8) dX7_collectTwos_8 (by decide) ?_
    refine go_icmp_ge (tgt := 44) (pc := 10) dX7_collectTwos_10 (by decide) (fun h_10 => by exfalso; exact absurd h_10 (nI_ge (b := 60) (by omega) (by decide))) (fun h_10 => ?_)
    refine go_aload_n (pc := 13) dX7_collectTwos_13 rfl ?_
    refine go_getf (pc := 14) f_X7_47 dX7_collectTwos_14 (by first | exact co0 hC9 | exact sr0 hR9 | exact be0 hQ9 | exact h7_q | exact h8_q | exact sr0 hT_q) (by rfl) ?_
    refine go_iload_n (pc := 17) dX7_collectTwos_17 rfl ?_
    refine go_aload_n (pc := 18) dX7_collectTwos_18 rfl ?_
    refine go_getf (pc := 19) f_X7_65 dX7_collectTwos_19 (by first | exact co0 hC9 | exact sr0 hR9 | exact be0 hQ9 | exact h7_q | exact h8_q | exact sr0 hT_q) (by rfl) ?_
    refine go_getf (pc := 22) f_X7_120 dX7_collectTwos_22 (by first | exact co0 hC9 | exact sr0 hR9 | exact be0 hQ9 | exact h7_q | exact h8_q | exact sr0 hT_q) (by rfl) ?_
    refine go_aload_n (pc := 25) dX7_collectTwos_25 rfl ?_
    refine go_getf (pc := 26) f_X7_65 dX7_collectTwos_26 (by first | exact co0 hC9 | exact sr0 hR9 | exact be0 hQ9 | exact h7_q | exact h8_q | exact sr0 hT_q) (by rfl) ?_
    refine go_getf (pc := 29) f_X7_162 dX7_collectTwos_29 (by first | exact co0 hC9 | exact sr0 hR9 | exact be0 hQ9 | exact h7_q | exact h8_q | exact sr0 hT_q) (by rfl) ?_
    refine go_iload_n (pc := 32) dX7_collectTwos_32 rfl ?_
    refine go_iadd (pc := 33) dX7_collectTwos_33 ?_
    refine go_V1I (pc := 34) v_X7_165 rfl rfl (rcv_of (ci := 0) (by first | exact co0 hC9 | exact sr0 hR9 | exact be0 hQ9 | exact h7_q | exact h8_q | exact sr0 hT_q) rfl) dX7_collectTwos_34 (cp_tideIn (k := k - 1) hQ9 (by omega) hB_q _) (fun v_34 σ n h_q => ?_)
    obtain ⟨rfl, rfl, hf1⟩ := h_q
    have hu := hf1.toS (S := fun _ => False) (fun q x y => by omega)
    have hfX := hfX.tr (hu.wk (fun q z => z.elim))
    have h7_q := hu.at (fun z => z) (hC.1 _ (by omega) (by omega)) h7_q
    have h8_q := hu.at (fun z => z) (hC.1 _ (by omega) (by omega)) h8_q
    have h9_q := hu.at (fun z => z) (hC.1 _ (by omega) (by omega)) h9_q
    have hT0 := hT0.fs hu (fun q x y z => z)
    have hC9 := hC.fs hfX (fun q x z => by omega)
    have hR9 := hR_q.fs hfX (fun q x y z => by omega)
    have hQ9 := hQ_q.fs hfX (fun q x z => by omega) (fun q x y z => by omega)
    refine go_iastF (pc := 37) dX7_collectTwos_37 (by first | exact co0 hC9 | exact sr0 hR9 | exact be0 hQ9 | exact h7_q | exact h8_q | exact sr0 hT_q) (by exact ⟨rfl, by omega⟩) (fun σ ho9 hq9 => ?_)
    have hu := frS.one (Γ := Γ) (ro := ro) hq9
    have hfX := hfX.ot (S := (fun q => (a + 7 ≤ q ∧ q ≤ a + 9) ∨ (a + 89 ≤ q ∧ q ≤ a + 93))) hq9 (Or.inl ⟨by omega, by omega⟩)
    have h7_q := ho9
    have h8_q := (hq9 _ (by omega)).trans h8_q
    have h9_q := (hq9 _ (by omega)).trans h9_q
    have hT0 := hT0.fs hu (fun q x y z => by omega)
    have hC9 := hC.fs hfX (fun q x z => by omega)
    have hR9 := hR_q.fs hfX (fun q x y z => by omega)
    have hQ9 := hQ_q.fs hfX (fun q x z => by omega) (fun q x y z => by omega)
    refine go_iinc (v := 1) (lw := [_, _, _, _, _, _, _]) (pc := 38) dX7_collectTwos_38 rfl (by decide) (by decide) rfl ?_
    refine go_goto (tgt := 2) (pc := 41) dX7_collectTwos_41 (by decide) ?_
    rw [nI_1]
    exact ih_q _ _ _ ⟨_, rfl, hfX, h7_q, h8_q, h9_q, hT0, (fun j hj_q => (Nat.lt_or_ge j i_q).elim (fun h_q => by rw [pk_un (by omega)]; exact hlv j h_q) (fun h_q => by rw [show j = i_q by omega, pk_us])), rfl⟩
  · rintro lv9 σ n9 ⟨lv7, rfl, hfX, h7_q, h8_q, h9_q, hT0, hlv, rfl⟩
    have hC9 := hC.fs hfX (fun q x z => by omega)
    have hR9 := hR_q.fs hfX (fun q x y z => by omega)
    have hQ9 := hQ_q.fs hfX (fun q x z => by omega) (fun q x y z => by omega)
    refine go_iload_n (pc := 2) dX7_collectTwos_2 rfl ?_
    refine go_iload_n (pc := 3) dX7_collectTwos_3 rfl ?_
    refine go_icmp_ge (tgt := 44) (pc := 4) dX7_collectTwos_4 (by decide) (fun h_4 => ?_) (fun h_4 => by exfalso; exact h_4 (nI_le (by omega) (by omega)))
    refine go_iconst (v := 0) (pc := 44) dX7_collectTwos_44 (by decide) ?_
    refine go_istore_n (lw := [_, _, _, _, _, _, _]) (pc := 45) dX7_collectTwos_45 (by decide) rfl ?_
    refine go_iconst (v := 0) (pc := 46) dX7_collectTwos_46 (by decide) ?_
    refine go_istore (lw := [_, _, _, _, _, _, _]) (pc := 47) dX7_collectTwos_47 (by decide) rfl ?_
    refine go_iter (kP K) (fun i_q lv9 s9 n9 => ∃ (l9_q : List Nat), ∃ (f8 : row), ∃ (g8_q : row), ∃ x5_q, ∃ x6_q, lv9 = [some (.ref a), some (.int s), some (.int (nI m)), some (.int (nI l9_q.length)), some (.int (nI i_q)), x5_q, x6_q] ∧ (frS Γ ro (fun q => (a + 7 ≤ q ∧ q ≤ a + 9) ∨ (a + 89 ≤ q ∧ q ≤ a + 93)) z0 s9) ∧ (s9 (a + 7) = some (cI Γ 60 lv7)) ∧ (s9 (a + 8) = some (cI Γ 28 f8)) ∧ (s9 (a + 9) = some (cI Γ 224 g8_q)) ∧ (TrAt Γ ro s9 (a + 89)) ∧ (twJ K m l9_q f8 g8_q) ∧ (l9_q ++ twL (twS K s m) (100 - 10 * i_q) (10 * i_q) = twK K s m) ∧ n = n9) ⟨[], _, _, none, none, rfl, hfX, h7_q, h8_q, h9_q, hT0, (fun i_q hi_q => absurd hi_q (by simp)), rfl, rfl⟩ ?_ ?_
    · rintro i_q lv9 σ n9 hi_q ⟨l9_q, f8, g8_q, x5_q, x6_q, rfl, hfX, h7_q, h8_q, h9_q, hT0, hJ, hA9, rfl⟩ ih_q
      have hC9 := hC.fs hfX (fun q x z => by omega)
      have hR9 := hR_q.fs hfX (fun q x y z => by omega)
      have hQ9 := hQ_q.fs hfX (fun q x z => by omega) (fun q x y z => by omega)
      refine go_iload (pc := 49) dX7_collectTwos_49 rfl ?_
      refine go_aload_n (pc := 51) dX7_collectTwos_51 rfl ?_
      refine go_getf (pc := 52) f_X7_65 dX7_collectTwos_52 (by first | exact co0 hC9 | exact sr0 hR9 | exact be0 hQ9 | exact h7_q | exact h8_q | exact sr0 hT_q) (by rfl) ?_
      refine go_getf (pc := 55) f_X7_120 dX7_collectTwos_55 (by first | exact co0 hC9 | exact sr0 hR9 | exact be0 hQ9 | exact h7_q | exact h8_q | exact sr0 hT_q) (by rfl) ?_
      refine go_getf (pc := 58) f_X7_263 dX7_collectTwos_58 (by first | exact co0 hC9 | exact sr0 hR9 | exact be0 hQ9 | exact h7_q | exact h8_q | exact sr0 hT_q) (by rfl) ?_
      refine go_icmp_ge (tgt := 171) (pc := 61) dX7_collectTwos_61 (by decide) (fun h_61 => by exfalso; rw [hB_q.1.1] at h_61; exact absurd h_61 (nI_ge (by omega) (by omega))) (fun h_61 => ?_)
      refine go_iload (pc := 64) dX7_collectTwos_64 rfl ?_
      refine go_iconst (v := 1) (pc := 66) dX7_collectTwos_66 (by decide) ?_
      refine go_iadd (pc := 67) dX7_collectTwos_67 ?_
      rw [nI_1]
      refine go_istore (lw := [_, _, _, _, _, _, _]) (pc := 68) dX7_collectTwos_68 (by decide) rfl ?_
      refine go_iter (kP K - (i_q + 1)) (fun i2_q lv9 s9 n9 => ∃ (l9_q : List Nat), ∃ (f8 : row), ∃ (g8_q : row), ∃ x6_q, lv9 = [some (.ref a), some (.int s), some (.int (nI m)), some (.int (nI l9_q.length)), some (.int (nI i_q)), some (.int (nI (i_q + 1 + i2_q))), x6_q] ∧ (frS Γ ro (fun q => (a + 7 ≤ q ∧ q ≤ a + 9) ∨ (a + 89 ≤ q ∧ q ≤ a + 93)) z0 s9) ∧ (s9 (a + 7) = some (cI Γ 60 lv7)) ∧ (s9 (a + 8) = some (cI Γ 28 f8)) ∧ (s9 (a + 9) = some (cI Γ 224 g8_q)) ∧ (TrAt Γ ro s9 (a + 89)) ∧ (twJ K m l9_q f8 g8_q) ∧ (l9_q ++ twL (twS K s m) (100 - (10 * i_q + (i_q + 1 + i2_q))) (10 * i_q + (i_q + 1 + i2_q)) = twK K s m) ∧ n = n9) ⟨_, _, _, _, rfl, hfX, h7_q, h8_q, h9_q, hT0, hJ, (by rw [twL_skip (f := twS K s m) (b := 10 * i_q + (i_q + 1)) (by omega) (i_q + 1) (10 * i_q) (by omega) (fun v h1_q h2_q => twS_f (by omega))] at hA9; exact hA9), rfl⟩ ?_ ?_
      · rintro i2_q lv9 σ n9 hi2_q ⟨l9_q, f8, g8_q, x6_q, rfl, hfX, h7_q, h8_q, h9_q, hT0, hJ, hA8, rfl⟩ ih2_q
        have hC9 := hC.fs hfX (fun q x z => by omega)
        have hR9 := hR_q.fs hfX (fun q x y z => by omega)
        have hQ9 := hQ_q.fs hfX (fun q x z => by omega) (fun q x y z => by omega)
        refine go_iload (pc := 70) dX7_collectTwos_70 rfl ?_
        refine go_aload_n (pc := 72) dX7_collectTwos_72 rfl ?_
        refine go_getf (pc := 73) f_X7_65 dX7_collectTwos_73 (by first | exact co0 hC9 | exact sr0 hR9 | exact be0 hQ9 | exact h7_q | exact h8_q | exact sr0 hT_q) (by rfl) ?_
        refine go_getf (pc := 76) f_X7_120 dX7_collectTwos_76 (by first | exact co0 hC9 | exact sr0 hR9 | exact be0 hQ9 | exact h7_q | exact h8_q | exact sr0 hT_q) (by rfl) ?_
        refine go_getf (pc := 79) f_X7_263 dX7_collectTwos_79 (by first | exact co0 hC9 | exact sr0 hR9 | exact be0 hQ9 | exact h7_q | exact h8_q | exact sr0 hT_q) (by rfl) ?_
        refine go_icmp_ge (tgt := 165) (pc := 82) dX7_collectTwos_82 (by decide) (fun h_82 => by exfalso; rw [hB_q.1.1] at h_82; exact absurd h_82 (nI_ge (by omega) (by omega))) (fun h_82 => ?_)
        refine go_aload_n (pc := 85) dX7_collectTwos_85 rfl ?_
        refine go_getf (pc := 86) f_X7_65 dX7_collectTwos_86 (by first | exact co0 hC9 | exact sr0 hR9 | exact be0 hQ9 | exact h7_q | exact h8_q | exact sr0 hT_q) (by rfl) ?_
        refine go_iload (pc := 89) dX7_collectTwos_89 rfl ?_
        refine go_iload (pc := 91) dX7_collectTwos_91 rfl ?_
        refine go_V2P (pc := 93) v_X7_192 rfl rfl (rcv_of (ci := 5) (by first | exact co0 hC9 | exact sr0 hR9 | exact be0 hQ9 | exact h7_q | exact h8_q | exact sr0 hT_q) rfl) dX7_collectTwos_93 (cp_whyNotExchange (k := k - 1) hR9 hr_q hQ9 (by omega) hB_q _ _) ?_
        refine go_if_ne (tgt := 159) (pc := 96) dX7_collectTwos_96 (by decide) (fun h_96 => ?_) (fun h_96 => ?_)
        · refine go_iinc (v := 1) (lw := [_, _, _, _, _, _, _]) (pc := 159) dX7_collectTwos_159 rfl (by decide) (by decide) rfl ?_
          refine go_goto (tgt := 70) (pc := 162) dX7_collectTwos_162 (by decide) ?_
          rw [show nI (i_q + 1 + i2_q) + 1 = nI (i_q + 1 + (i2_q + 1)) from nI_1 _]
          first
            | (have g9_q : ¬ whyX K (nI i_q).toInt (nI (i_q + 1 + i2_q)).toInt = 0 := h_96
               have hfv : ¬ twS K s m (10 * i_q + (i_q + 1 + i2_q)) = true := (by simp only [twS, decide_eq_true_eq, (tw_dec (p := i_q) (q := (i_q + 1 + i2_q)) (by omega)).1, (tw_dec (p := i_q) (q := (i_q + 1 + i2_q)) (by omega)).2]; exact fun hc_q => g9_q (by rw [nI_toInt (by omega), nI_toInt (by omega)]; exact hc_q.2.1))
               rw [twL_n (by omega) hfv] at hA8
               exact ih2_q _ _ _ ⟨_, _, _, _, rfl, hfX, h7_q, h8_q, h9_q, hT0, hJ, hA8, rfl⟩)
            | (have g9_q : (28 : Int32) ≤ nI l9_q.length := h_102
               have hfv : ¬ twS K s m (10 * i_q + (i_q + 1 + i2_q)) = true := fun hc_q => by
                 have h28 := twK_28 (K := K) (s := s) (j := m) hP8
                 rw [← hA8, twL_y (by omega) hc_q, List.length_append, List.length_cons] at h28
                 have := (nI_leI (a := 28) (b := l9_q.length) (by decide) (by omega)).mp g9_q
                 omega
               rw [twL_n (by omega) hfv] at hA8
               exact ih2_q _ _ _ ⟨_, _, _, _, rfl, hfX, h7_q, h8_q, h9_q, hT0, hJ, hA8, rfl⟩)
            | (have g9_q : ¬ goK m (swapK K i_q (i_q + 1 + i2_q)) 32 &&& (w ^^^ (-1)) = s := h_132
               have hfv : ¬ twS K s m (10 * i_q + (i_q + 1 + i2_q)) = true := (by simp only [twS, decide_eq_true_eq, (tw_dec (p := i_q) (q := (i_q + 1 + i2_q)) (by omega)).1, (tw_dec (p := i_q) (q := (i_q + 1 + i2_q)) (by omega)).2]; exact fun hc_q => g9_q (by rw [hw_q]; exact hc_q.2.2))
               rw [twL_n (by omega) hfv] at hA8
               exact ih2_q _ _ _ ⟨_, _, _, _, rfl, hfX, h7_q, h8_q, h9_q, hT0, hJ, hA8, rfl⟩)
            | (have g9_q : goK m (swapK K i_q (i_q + 1 + i2_q)) 32 &&& (w ^^^ (-1)) = s := h_132
               have hfv : twS K s m (10 * i_q + (i_q + 1 + i2_q)) = true := (by simp only [twS, decide_eq_true_eq, (tw_dec (p := i_q) (q := (i_q + 1 + i2_q)) (by omega)).1, (tw_dec (p := i_q) (q := (i_q + 1 + i2_q)) (by omega)).2]; exact ⟨by omega, hwx, by rw [← hw_q]; exact g9_q⟩)
               rw [twL_y (by omega) hfv, List.append_cons] at hA8
               have hJ2 := twJ_add (v := 10 * i_q + (i_q + 1 + i2_q)) (f' := upd f8 l9_q.length (nI (10 * i_q + (i_q + 1 + i2_q)))) (g' := g7_q) hJ rfl (fun p hp_q => by rw [hg1 p (by rw [hs9.P]; exact hp_q), twP, (tw_dec (p := i_q) (q := (i_q + 1 + i2_q)) (by omega)).1, (tw_dec (p := i_q) (q := (i_q + 1 + i2_q)) (by omega)).2]) hg2 hP8
               rw [show nI l9_q.length + 1 = nI (l9_q ++ [10 * i_q + (i_q + 1 + i2_q)]).length from by rw [nI_1]; simp]
               exact ih2_q _ _ _ ⟨_, _, _, _, rfl, hfX, h7_q, h8_q, h9_q, hT0, hJ2, hA8, rfl⟩)
        · have hwx : whyX K (i_q : Int) (((i_q + 1 + i2_q) : Nat) : Int) = 0 := by
            have h_q := h_96
            rw [nI_toInt (show i_q < 2 ^ 31 by omega), nI_toInt (show (i_q + 1 + i2_q) < 2 ^ 31 by omega)] at h_q
            exact h_q
          obtain ⟨a8, b8, ga, gb, hne, hua, hub⟩ := whyX_0 hwx
          rw [pN_nat (by omega)] at ga
          rw [pN_nat (by omega)] at gb
          cases ga
          cases gb
          refine go_iload_n (pc := 99) dX7_collectTwos_99 rfl ?_
          refine go_bipush (v := 28) (pc := 100) dX7_collectTwos_100 (by decide) ?_
          refine go_icmp_ge (tgt := 159) (pc := 102) dX7_collectTwos_102 (by decide) (fun h_102 => ?_) (fun h_102 => ?_)
          · refine go_iinc (v := 1) (lw := [_, _, _, _, _, _, _]) (pc := 159) dX7_collectTwos_159 rfl (by decide) (by decide) rfl ?_
            refine go_goto (tgt := 70) (pc := 162) dX7_collectTwos_162 (by decide) ?_
            rw [show nI (i_q + 1 + i2_q) + 1 = nI (i_q + 1 + (i2_q + 1)) from nI_1 _]
            first
              | (have g9_q : ¬ whyX K (nI i_q).toInt (nI (i_q + 1 + i2_q)).toInt = 0 := h_96
                 have hfv : ¬ twS K s m (10 * i_q + (i_q + 1 + i2_q)) = true := (by simp only [twS, decide_eq_true_eq, (tw_dec (p := i_q) (q := (i_q + 1 + i2_q)) (by omega)).1, (tw_dec (p := i_q) (q := (i_q + 1 + i2_q)) (by omega)).2]; exact fun hc_q => g9_q (by rw [nI_toInt (by omega), nI_toInt (by omega)]; exact hc_q.2.1))
                 rw [twL_n (by omega) hfv] at hA8
                 exact ih2_q _ _ _ ⟨_, _, _, _, rfl, hfX, h7_q, h8_q, h9_q, hT0, hJ, hA8, rfl⟩)
              | (have g9_q : (28 : Int32) ≤ nI l9_q.length := h_102
                 have hfv : ¬ twS K s m (10 * i_q + (i_q + 1 + i2_q)) = true := fun hc_q => by
                   have h28 := twK_28 (K := K) (s := s) (j := m) hP8
                   rw [← hA8, twL_y (by omega) hc_q, List.length_append, List.length_cons] at h28
                   have := (nI_leI (a := 28) (b := l9_q.length) (by decide) (by omega)).mp g9_q
                   omega
                 rw [twL_n (by omega) hfv] at hA8
                 exact ih2_q _ _ _ ⟨_, _, _, _, rfl, hfX, h7_q, h8_q, h9_q, hT0, hJ, hA8, rfl⟩)
              | (have g9_q : ¬ goK m (swapK K i_q (i_q + 1 + i2_q)) 32 &&& (w ^^^ (-1)) = s := h_132
                 have hfv : ¬ twS K s m (10 * i_q + (i_q + 1 + i2_q)) = true := (by simp only [twS, decide_eq_true_eq, (tw_dec (p := i_q) (q := (i_q + 1 + i2_q)) (by omega)).1, (tw_dec (p := i_q) (q := (i_q + 1 + i2_q)) (by omega)).2]; exact fun hc_q => g9_q (by rw [hw_q]; exact hc_q.2.2))
                 rw [twL_n (by omega) hfv] at hA8
                 exact ih2_q _ _ _ ⟨_, _, _, _, rfl, hfX, h7_q, h8_q, h9_q, hT0, hJ, hA8, rfl⟩)
              | (have g9_q : goK m (swapK K i_q (i_q + 1 + i2_q)) 32 &&& (w ^^^ (-1)) = s := h_132
                 have hfv : twS K s m (10 * i_q + (i_q + 1 + i2_q)) = true := (by simp only [twS, decide_eq_true_eq, (tw_dec (p := i_q) (q := (i_q + 1 + i2_q)) (by omega)).1, (tw_dec (p := i_q) (q := (i_q + 1 + i2_q)) (by omega)).2]; exact ⟨by omega, hwx, by rw [← hw_q]; exact g9_q⟩)
                 rw [twL_y (by omega) hfv, List.append_cons] at hA8
                 have hJ2 := twJ_add (v := 10 * i_q + (i_q + 1 + i2_q)) (f' := upd f8 l9_q.length (nI (10 * i_q + (i_q + 1 + i2_q)))) (g' := g7_q) hJ rfl (fun p hp_q => by rw [hg1 p (by rw [hs9.P]; exact hp_q), twP, (tw_dec (p := i_q) (q := (i_q + 1 + i2_q)) (by omega)).1, (tw_dec (p := i_q) (q := (i_q + 1 + i2_q)) (by omega)).2]) hg2 hP8
                 rw [show nI l9_q.length + 1 = nI (l9_q ++ [10 * i_q + (i_q + 1 + i2_q)]).length from by rw [nI_1]; simp]
                 exact ih2_q _ _ _ ⟨_, _, _, _, rfl, hfX, h7_q, h8_q, h9_q, hT0, hJ2, hA8, rfl⟩)
          · have hl28 : l9_q.length < 28 := Nat.lt_of_not_le (fun hc_q => h_102 (nI_le (a := 28) hc_q (by have := congrArg List.length hA8; have h28 := twK_28 (K := K) (s := s) (j := m) hP8; rw [List.length_append] at this; omega)))
            refine go_aload_n (pc := 105) dX7_collectTwos_105 rfl ?_
            refine go_iload (pc := 106) dX7_collectTwos_106 rfl ?_
            refine go_iload (pc := 108) dX7_collectTwos_108 rfl ?_
            refine go_iload_n (pc := 110) dX7_collectTwos_110 rfl ?_
            refine go_V3A (pc := 111) v_X7_403 rfl rfl (rcv_of (ci := 7) (by first | exact co0 hC9 | exact sr0 hR9 | exact be0 hQ9 | exact h7_q | exact h8_q | exact sr0 hT_q) rfl) dX7_collectTwos_111 (cp_exchangedAhead (k := k - 1) hC9 hR9 hr_q hQ9 hB_q hg_q (hS_q.x7 hC.1 hfX ⟨_, h7_q⟩ ⟨_, h8_q⟩ ⟨_, h9_q⟩ hT0) hD hsb hw_q (by omega) (by omega) (by omega) hne hua hub hm_q h7_q (fun j hj_q => hlv j hj_q)) (fun v_111 σ n h_q => ?_)
            obtain ⟨rfl, rfl, ⟨ch9, co9, rw9, bk9, hT_q, hr9_q⟩, hf1⟩ := h_q
            have hfX := hfX.tr (hf1.toS (S := (fun q => (a + 7 ≤ q ∧ q ≤ a + 9) ∨ (a + 89 ≤ q ∧ q ≤ a + 93))) (fun q x y => by omega))
            have h7_q := (hf1.1 _ (by omega) (hC.1 _ (by omega) (by omega))).trans h7_q
            have h8_q := (hf1.1 _ (by omega) (hC.1 _ (by omega) (by omega))).trans h8_q
            have h9_q := (hf1.1 _ (by omega) (hC.1 _ (by omega) (by omega))).trans h9_q
            have hT0 := hT_q.T
            have hs9 : sameB K (goK m (swapK K i_q (i_q + 1 + i2_q))) := (swapK_same (by omega) (by omega)).tr (goK_same (by rw [(swapK_same (K := K) (p := i_q) (q := (i_q + 1 + i2_q)) (by omega) (by omega)).P]; exact hP8))
            have hC9 := hC.fs hfX (fun q x z => by omega)
            have hR9 := hR_q.fs hfX (fun q x y z => by omega)
            have hQ9 := hQ_q.fs hfX (fun q x z => by omega) (fun q x y z => by omega)
            refine go_astore (lw := [_, _, _, _, _, _, _]) (pc := 114) dX7_collectTwos_114 (by decide) rfl ?_
            refine go_aload (pc := 116) dX7_collectTwos_116 rfl ?_
            refine go_getf (pc := 118) f_X7_150 dX7_collectTwos_118 (by first | exact co0 hC9 | exact sr0 hR9 | exact be0 hQ9 | exact h7_q | exact h8_q | exact sr0 hT_q) (by rfl) ?_
            refine go_aload_n (pc := 121) dX7_collectTwos_121 rfl ?_
            refine go_getf (pc := 122) f_X7_65 dX7_collectTwos_122 (by first | exact co0 hC9 | exact sr0 hR9 | exact be0 hQ9 | exact h7_q | exact h8_q | exact sr0 hT_q) (by rfl) ?_
            refine go_getf (pc := 125) f_X7_150 dX7_collectTwos_125 (by first | exact co0 hC9 | exact sr0 hR9 | exact be0 hQ9 | exact h7_q | exact h8_q | exact sr0 hT_q) (by rfl) ?_
            refine go_iconst (v := -1) (pc := 128) dX7_collectTwos_128 (by decide) ?_
            refine go_ixor (pc := 129) dX7_collectTwos_129 ?_
            refine go_iand (pc := 130) dX7_collectTwos_130 ?_
            refine go_iload_n (pc := 131) dX7_collectTwos_131 rfl ?_
            refine go_icmp_ne (tgt := 159) (pc := 132) dX7_collectTwos_132 (by decide) (fun h_132 => ?_) (fun h_132 => ?_)
            · refine go_iinc (v := 1) (lw := [_, _, _, _, _, _, _]) (pc := 159) dX7_collectTwos_159 rfl (by decide) (by decide) rfl ?_
              refine go_goto (tgt := 70) (pc := 162) dX7_collectTwos_162 (by decide) ?_
              rw [show nI (i_q + 1 + i2_q) + 1 = nI (i_q + 1 + (i2_q + 1)) from nI_1 _]
              first
                | (have g9_q : ¬ whyX K (nI i_q).toInt (nI (i_q + 1 + i2_q)).toInt = 0 := h_96
                   have hfv : ¬ twS K s m (10 * i_q + (i_q + 1 + i2_q)) = true := (by simp only [twS, decide_eq_true_eq, (tw_dec (p := i_q) (q := (i_q + 1 + i2_q)) (by omega)).1, (tw_dec (p := i_q) (q := (i_q + 1 + i2_q)) (by omega)).2]; exact fun hc_q => g9_q (by rw [nI_toInt (by omega), nI_toInt (by omega)]; exact hc_q.2.1))
                   rw [twL_n (by omega) hfv] at hA8
                   exact ih2_q _ _ _ ⟨_, _, _, _, rfl, hfX, h7_q, h8_q, h9_q, hT0, hJ, hA8, rfl⟩)
                | (have g9_q : (28 : Int32) ≤ nI l9_q.length := h_102
                   have hfv : ¬ twS K s m (10 * i_q + (i_q + 1 + i2_q)) = true := fun hc_q => by
                     have h28 := twK_28 (K := K) (s := s) (j := m) hP8
                     rw [← hA8, twL_y (by omega) hc_q, List.length_append, List.length_cons] at h28
                     have := (nI_leI (a := 28) (b := l9_q.length) (by decide) (by omega)).mp g9_q
                     omega
                   rw [twL_n (by omega) hfv] at hA8
                   exact ih2_q _ _ _ ⟨_, _, _, _, rfl, hfX, h7_q, h8_q, h9_q, hT0, hJ, hA8, rfl⟩)
                | (have g9_q : ¬ goK m (swapK K i_q (i_q + 1 + i2_q)) 32 &&& (w ^^^ (-1)) = s := h_132
                   have hfv : ¬ twS K s m (10 * i_q + (i_q + 1 + i2_q)) = true := (by simp only [twS, decide_eq_true_eq, (tw_dec (p := i_q) (q := (i_q + 1 + i2_q)) (by omega)).1, (tw_dec (p := i_q) (q := (i_q + 1 + i2_q)) (by omega)).2]; exact fun hc_q => g9_q (by rw [hw_q]; exact hc_q.2.2))
                   rw [twL_n (by omega) hfv] at hA8
                   exact ih2_q _ _ _ ⟨_, _, _, _, rfl, hfX, h7_q, h8_q, h9_q, hT0, hJ, hA8, rfl⟩)
                | (have g9_q : goK m (swapK K i_q (i_q + 1 + i2_q)) 32 &&& (w ^^^ (-1)) = s := h_132
                   have hfv : twS K s m (10 * i_q + (i_q + 1 + i2_q)) = true := (by simp only [twS, decide_eq_true_eq, (tw_dec (p := i_q) (q := (i_q + 1 + i2_q)) (by omega)).1, (tw_dec (p := i_q) (q := (i_q + 1 + i2_q)) (by omega)).2]; exact ⟨by omega, hwx, by rw [← hw_q]; exact g9_q⟩)
                   rw [twL_y (by omega) hfv, List.append_cons] at hA8
                   have hJ2 := twJ_add (v := 10 * i_q + (i_q + 1 + i2_q)) (f' := upd f8 l9_q.length (nI (10 * i_q + (i_q + 1 + i2_q)))) (g' := g7_q) hJ rfl (fun p hp_q => by rw [hg1 p (by rw [hs9.P]; exact hp_q), twP, (tw_dec (p := i_q) (q := (i_q + 1 + i2_q)) (by omega)).1, (tw_dec (p := i_q) (q := (i_q + 1 + i2_q)) (by omega)).2]) hg2 hP8
                   rw [show nI l9_q.length + 1 = nI (l9_q ++ [10 * i_q + (i_q + 1 + i2_q)]).length from by rw [nI_1]; simp]
                   exact ih2_q _ _ _ ⟨_, _, _, _, rfl, hfX, h7_q, h8_q, h9_q, hT0, hJ2, hA8, rfl⟩)
            · refine go_aload_n (pc := 135) dX7_collectTwos_135 rfl ?_
              refine go_getf (pc := 136) f_X7_50 dX7_collectTwos_136 (by first | exact co0 hC9 | exact sr0 hR9 | exact be0 hQ9 | exact h7_q | exact h8_q | exact sr0 hT_q) (by rfl) ?_
              refine go_iload_n (pc := 139) dX7_collectTwos_139 rfl ?_
              refine go_bipush (v := 10) (pc := 140) dX7_collectTwos_140 (by decide) ?_
              refine go_iload (pc := 142) dX7_collectTwos_142 rfl ?_
              refine go_imul (pc := 144) dX7_collectTwos_144 ?_
              refine go_iload (pc := 145) dX7_collectTwos_145 rfl ?_
              refine go_iadd (pc := 147) dX7_collectTwos_147 ?_
              rw [ix10]
              refine go_iastF (pc := 148) dX7_collectTwos_148 (by first | exact co0 hC9 | exact sr0 hR9 | exact be0 hQ9 | exact h7_q | exact h8_q | exact sr0 hT_q) (by exact ⟨rfl, by omega⟩) (fun σ ho9 hq9 => ?_)
              have hu := frS.one (Γ := Γ) (ro := ro) hq9
              have hfX := hfX.ot (S := (fun q => (a + 7 ≤ q ∧ q ≤ a + 9) ∨ (a + 89 ≤ q ∧ q ≤ a + 93))) hq9 (Or.inl ⟨by omega, by omega⟩)
              have h7_q := (hq9 _ (by omega)).trans h7_q
              have h8_q := ho9
              have h9_q := (hq9 _ (by omega)).trans h9_q
              have hT_q := hT_q.fs hu (fun q x y z => by omega)
              have hC9 := hC.fs hfX (fun q x z => by omega)
              have hR9 := hR_q.fs hfX (fun q x y z => by omega)
              have hQ9 := hQ_q.fs hfX (fun q x z => by omega) (fun q x y z => by omega)
              refine go_aload_n (pc := 149) dX7_collectTwos_149 rfl ?_
              refine go_aload (pc := 150) dX7_collectTwos_150 rfl ?_
              refine go_iload_n (pc := 152) dX7_collectTwos_152 rfl ?_
              refine go_V2V (pc := 153) v_X7_407 rfl rfl (rcv_of (ci := 7) (by first | exact co0 hC9 | exact sr0 hR9 | exact be0 hQ9 | exact h7_q | exact h8_q | exact sr0 hT_q) rfl) dX7_collectTwos_153 (cp_keepEnds (k := k - 1) hC9 hT_q hr9_q (hQ9.sm hs9) (hs9.okB hB_q) hD hsb h9_q hl28 (by omega)) (fun σ n h_q => ?_)
              obtain ⟨rfl, ⟨g7_q, h9_q, hg1, hg2⟩, hq9⟩ := h_q
              have hu := frS.one (Γ := Γ) (ro := ro) hq9
              have hfX := hfX.ot (S := (fun q => (a + 7 ≤ q ∧ q ≤ a + 9) ∨ (a + 89 ≤ q ∧ q ≤ a + 93))) hq9 (Or.inl ⟨by omega, by omega⟩)
              have h7_q := (hq9 _ (by omega)).trans h7_q
              have h8_q := (hq9 _ (by omega)).trans h8_q
              have hT_q := hT_q.fs hu (fun q x y z => by omega)
              have hT0 := hT_q.T
              refine go_iinc (v := 1) (lw := [_, _, _, _, _, _, _]) (pc := 156) dX7_collectTwos_156 rfl (by decide) (by decide) rfl ?_
              refine go_iinc (v := 1) (lw := [_, _, _, _, _, _, _]) (pc := 159) dX7_collectTwos_159 rfl (by decide) (by decide) rfl ?_
              refine go_goto (tgt := 70) (pc := 162) dX7_collectTwos_162 (by decide) ?_
              rw [show nI (i_q + 1 + i2_q) + 1 = nI (i_q + 1 + (i2_q + 1)) from nI_1 _]
              first
                | (have g9_q : ¬ whyX K (nI i_q).toInt (nI (i_q + 1 + i2_q)).toInt = 0 := h_96
                   have hfv : ¬ twS K s m (10 * i_q + (i_q + 1 + i2_q)) = true := (by simp only [twS, decide_eq_true_eq, (tw_dec (p := i_q) (q := (i_q + 1 + i2_q)) (by omega)).1, (tw_dec (p := i_q) (q := (i_q + 1 + i2_q)) (by omega)).2]; exact fun hc_q => g9_q (by rw [nI_toInt (by omega), nI_toInt (by omega)]; exact hc_q.2.1))
                   rw [twL_n (by omega) hfv] at hA8
                   exact ih2_q _ _ _ ⟨_, _, _, _, rfl, hfX, h7_q, h8_q, h9_q, hT0, hJ, hA8, rfl⟩)
                | (have g9_q : (28 : Int32) ≤ nI l9_q.length := h_102
                   have hfv : ¬ twS K s m (10 * i_q + (i_q + 1 + i2_q)) = true := fun hc_q => by
                     have h28 := twK_28 (K := K) (s := s) (j := m) hP8
                     rw [← hA8, twL_y (by omega) hc_q, List.length_append, List.length_cons] at h28
                     have := (nI_leI (a := 28) (b := l9_q.length) (by decide) (by omega)).mp g9_q
                     omega
                   rw [twL_n (by omega) hfv] at hA8
                   exact ih2_q _ _ _ ⟨_, _, _, _, rfl, hfX, h7_q, h8_q, h9_q, hT0, hJ, hA8, rfl⟩)
                | (have g9_q : ¬ goK m (swapK K i_q (i_q + 1 + i2_q)) 32 &&& (w ^^^ (-1)) = s := h_132
                   have hfv : ¬ twS K s m (10 * i_q + (i_q + 1 + i2_q)) = true := (by simp only [twS, decide_eq_true_eq, (tw_dec (p := i_q) (q := (i_q + 1 + i2_q)) (by omega)).1, (tw_dec (p := i_q) (q := (i_q + 1 + i2_q)) (by omega)).2]; exact fun hc_q => g9_q (by rw [hw_q]; exact hc_q.2.2))
                   rw [twL_n (by omega) hfv] at hA8
                   exact ih2_q _ _ _ ⟨_, _, _, _, rfl, hfX, h7_q, h8_q, h9_q, hT0, hJ, hA8, rfl⟩)
                | (have g9_q : goK m (swapK K i_q (i_q + 1 + i2_q)) 32 &&& (w ^^^ (-1)) = s := h_132
                   have hfv : twS K s m (10 * i_q + (i_q + 1 + i2_q)) = true := (by simp only [twS, decide_eq_true_eq, (tw_dec (p := i_q) (q := (i_q + 1 + i2_q)) (by omega)).1, (tw_dec (p := i_q) (q := (i_q + 1 + i2_q)) (by omega)).2]; exact ⟨by omega, hwx, by rw [← hw_q]; exact g9_q⟩)
                   rw [twL_y (by omega) hfv, List.append_cons] at hA8
                   have hJ2 := twJ_add (v := 10 * i_q + (i_q + 1 + i2_q)) (f' := upd f8 l9_q.length (nI (10 * i_q + (i_q + 1 + i2_q)))) (g' := g7_q) hJ rfl (fun p hp_q => by rw [hg1 p (by rw [hs9.P]; exact hp_q), twP, (tw_dec (p := i_q) (q := (i_q + 1 + i2_q)) (by omega)).1, (tw_dec (p := i_q) (q := (i_q + 1 + i2_q)) (by omega)).2]) hg2 hP8
                   rw [show nI l9_q.length + 1 = nI (l9_q ++ [10 * i_q + (i_q + 1 + i2_q)]).length from by rw [nI_1]; simp]
                   exact ih2_q _ _ _ ⟨_, _, _, _, rfl, hfX, h7_q, h8_q, h9_q, hT0, hJ2, hA8, rfl⟩)
      · rintro lv9 σ n9 ⟨l9_q, f8, g8_q, x6_q, rfl, hfX, h7_q, h8_q, h9_q, hT0, hJ, hA8, rfl⟩
        have hC9 := hC.fs hfX (fun q x z => by omega)
        have hR9 := hR_q.fs hfX (fun q x y z => by omega)
        have hQ9 := hQ_q.fs hfX (fun q x z => by omega) (fun q x y z => by omega)
        refine go_iload (pc := 70) dX7_collectTwos_70 rfl ?_
        refine go_aload_n (pc := 72) dX7_collectTwos_72 rfl ?_
        refine go_getf (pc := 73) f_X7_65 dX7_collectTwos_73 (by first | exact co0 hC9 | exact sr0 hR9 | exact be0 hQ9 | exact h7_q | exact h8_q | exact sr0 hT_q) (by rfl) ?_
        refine go_getf (pc := 76) f_X7_120 dX7_collectTwos_76 (by first | exact co0 hC9 | exact sr0 hR9 | exact be0 hQ9 | exact h7_q | exact h8_q | exact sr0 hT_q) (by rfl) ?_
        refine go_getf (pc := 79) f_X7_263 dX7_collectTwos_79 (by first | exact co0 hC9 | exact sr0 hR9 | exact be0 hQ9 | exact h7_q | exact h8_q | exact sr0 hT_q) (by rfl) ?_
        refine go_icmp_ge (tgt := 165) (pc := 82) dX7_collectTwos_82 (by decide) (fun h_82 => ?_) (fun h_82 => by exfalso; rw [hB_q.1.1] at h_82; exact h_82 (nI_le (by omega) (by omega)))
        rw [show 10 * i_q + (i_q + 1 + (kP K - (i_q + 1))) = 10 * i_q + kP K by omega] at hA8
        refine go_iinc (v := 1) (lw := [_, _, _, _, _, _, _]) (pc := 165) dX7_collectTwos_165 rfl (by decide) (by decide) rfl ?_
        refine go_goto (tgt := 49) (pc := 168) dX7_collectTwos_168 (by decide) ?_
        rw [nI_1]
        exact ih_q _ _ _ ⟨_, _, _, _, _, rfl, hfX, h7_q, h8_q, h9_q, hT0, hJ, (by rw [twL_skip (f := twS K s m) (b := 10 * (i_q + 1)) (by omega) (10 * (i_q + 1) - (10 * i_q + kP K)) (10 * i_q + kP K) (by omega) (fun v h1_q h2_q => twS_f (by omega))] at hA8; exact hA8), rfl⟩
    · rintro lv9 σ n9 ⟨l9_q, f8, g8_q, x5_q, x6_q, rfl, hfX, h7_q, h8_q, h9_q, hT0, hJ, hA9, rfl⟩
      have hC9 := hC.fs hfX (fun q x z => by omega)
      have hR9 := hR_q.fs hfX (fun q x y z => by omega)
      have hQ9 := hQ_q.fs hfX (fun q x z => by omega) (fun q x y z => by omega)
      refine go_iload (pc := 49) dX7_collectTwos_49 rfl ?_
      refine go_aload_n (pc := 51) dX7_collectTwos_51 rfl ?_
      refine go_getf (pc := 52) f_X7_65 dX7_collectTwos_52 (by first | exact co0 hC9 | exact sr0 hR9 | exact be0 hQ9 | exact h7_q | exact h8_q | exact sr0 hT_q) (by rfl) ?_
      refine go_getf (pc := 55) f_X7_120 dX7_collectTwos_55 (by first | exact co0 hC9 | exact sr0 hR9 | exact be0 hQ9 | exact h7_q | exact h8_q | exact sr0 hT_q) (by rfl) ?_
      refine go_getf (pc := 58) f_X7_263 dX7_collectTwos_58 (by first | exact co0 hC9 | exact sr0 hR9 | exact be0 hQ9 | exact h7_q | exact h8_q | exact sr0 hT_q) (by rfl) ?_
      refine go_icmp_ge (tgt := 171) (pc := 61) dX7_collectTwos_61 (by decide) (fun h_61 => ?_) (fun h_61 => by exfalso; rw [hB_q.1.1] at h_61; exact h_61 (nI_le (by omega) (by omega)))
      refine go_iload_n (pc := 171) dX7_collectTwos_171 rfl ?_
      exact go_iretI (pc := 172) rfl dX7_collectTwos_172 (Nat.le_of_ble_eq_true rfl) (Nat.le_of_ble_eq_true rfl) (by
  have e9_q : l9_q = twK K s m := by
    rw [twL_skip (f := twS K s m) (b := 100) (by omega) (100 - 10 * kP K) (10 * kP K) (by omega) (fun v h1_q h2_q => twS_f (by omega))] at hA9
    simpa [twL] using hA9
  subst e9_q
  exact ⟨rfl, rfl, hS_q.x7 hC.1 hfX ⟨_, h7_q⟩ ⟨_, h8_q⟩ ⟨_, h9_q⟩ hT0, hfX.wk (fun q x => by omega), _, _, h8_q, h9_q, hJ⟩)
theorem cp_changed {Γ : gam} {D : Nat} {ro : Nat → Nat} {z0 : sto} {n k a b : Nat} {w : Int32} {K ag pa pf ch co rw bk G : row} {im : Nat → Option Nat} {lm lt lw : Value} (hC : CoAt Γ ro z0 a G im) (hR_q : SrAt Γ ro z0 (a + 14) b w (K 33) ch co rw bk) (hr_q : rS K ch co rw bk) (hQ_q : BrAt Γ D ro z0 b K ag pa pf lm lt lw) (hB_q : okB K) (hg_q : gS K) (hS_q : ScAt Γ ro z0 a) (hD : a + 113 < D) (hsb : b = a + 10 ∨ a + 113 < b) (hw_q : w = K 32) (hk : 14 ≤ k) (s z : Int32) : Sp Γ (rmk k 4 24) uX7_changed [.ref a, .int s, .int z] z0 n (qT (qI fun v σ' n' => (aChanged K s z.toInt).1 = 0 ∧ v = (aChanged K s z.toInt).2 ∧ n' = n ∧ ScAt Γ ro σ' a ∧ frS Γ ro (scr a) z0 σ') (fun x σ' n' => exL [eIA] (aChanged K s z.toInt).1 x ∧ σ' = z0 ∧ n ≤ n')) := by
  have hP8 := hB_q.1.2.1
  have hH5 := hB_q.1.2.2.2.1
  have hW4 := hB_q.1.2.2.2.2.2
  refine sp_intro [some (.ref a), some (.int s), some (.int z)] (by decide +kernel) rfl (Nat.le_of_ble_eq_true rfl) rfl ?_
  refine go_aload_n (pc := 0) dX7_changed_0 rfl ?_
  refine go_iload_n (pc := 1) dX7_changed_1 rfl ?_
  refine go_iload_n (pc := 2) dX7_changed_2 rfl ?_
  refine go_V2Vx (pc := 3) v_X7_327 rfl rfl (rcv_of (ci := 7) (by first | exact co0 hC | exact sr0 hR_q | exact be0 hQ_q | exact sr0 hT_q | exact be0 hQ9 | exact sr1 hR_q | exact sr2 hR_q | exact sr3 hR_q | exact sr4 hR_q | exact be1 hQ_q | exact be2 hQ_q | exact be3 hQ_q | exact sr3 hT_q | exact sr2 hT_q | exact sr1 hT_q | exact sr4 hT_q | exact co4 hC | exact co2 hC | exact co3 hC | exact co0 hC9 | exact sr0 hR9 | exact co4 hC9 | exact sr3 hR9 | exact sr2 hR9) rfl) dX7_changed_3 (cp_needTwos (k := k - 1) hC hR_q hr_q hQ_q hB_q (by omega) _ _) (fun x σx nx hx_q => by obtain ⟨h9_q, rfl, rfl, h8_q⟩ := hx_q; exact Or.inr ⟨_, rfl, ⟨0, (by rw [show aChanged K s z.toInt = (1, 0) from by rw [aChanged, h9_q, if_pos (by decide)]]; rfl), rfl⟩, rfl, h8_q⟩) (fun σ n h_q => ?_)
  obtain ⟨⟨j1_q, h0_q, rfl, hj1a, hj1b⟩, rfl, rfl⟩ := h_q
  have e1_q : (nI j1_q).toInt.toNat = j1_q := by rw [nI_toInt (by omega)]; rfl
  refine go_aload_n (pc := 6) dX7_changed_6 rfl ?_
  refine go_iload_n (pc := 7) dX7_changed_7 rfl ?_
  refine go_iload_n (pc := 8) dX7_changed_8 rfl ?_
  refine go_V2I (pc := 9) v_X7_330 rfl rfl (rcv_of (ci := 7) (by first | exact co0 hC | exact sr0 hR_q | exact be0 hQ_q | exact sr0 hT_q | exact be0 hQ9 | exact sr1 hR_q | exact sr2 hR_q | exact sr3 hR_q | exact sr4 hR_q | exact be1 hQ_q | exact be2 hQ_q | exact be3 hQ_q | exact sr3 hT_q | exact sr2 hT_q | exact sr1 hT_q | exact sr4 hT_q | exact co4 hC | exact co2 hC | exact co3 hC | exact co0 hC9 | exact sr0 hR9 | exact co4 hC9 | exact sr3 hR9 | exact sr2 hR9) rfl) dX7_changed_9 (cp_collect (k := k - 1) hC hR_q hr_q hQ_q hB_q hg_q hS_q hD hsb hw_q (by omega) _ hj1b) (fun v_9 σ n h_q => ?_)
  obtain ⟨rfl, rfl, hS9, hfX, f8, g8_q, h8_q, h9_q, hJ⟩ := h_q
  have hC9 := hC.fs hfX (fun q x z => by omega)
  have hR9 := hR_q.fs hfX (fun q x y z => by omega)
  have hQ9 := hQ_q.fs hfX (fun q x z => by omega) (fun q x y z => by omega)
  have hl28 := twK_28 (K := K) (s := s) (j := j1_q) hP8
  exact go_iretT (pc := 12) rfl dX7_changed_12 (Nat.le_of_ble_eq_true rfl) (Nat.le_of_ble_eq_true rfl) ⟨by rw [aChanged, if_neg (fun hc_q => hc_q h0_q)], by rw [aChanged, if_neg (fun hc_q => hc_q h0_q), e1_q], rfl, hS9, hfX⟩
theorem cp_changedAt {Γ : gam} {D : Nat} {ro : Nat → Nat} {z0 : sto} {n k a b : Nat} {w : Int32} {K ag pa pf ch co rw bk G : row} {im : Nat → Option Nat} {lm lt lw : Value} (hC : CoAt Γ ro z0 a G im) (hR_q : SrAt Γ ro z0 (a + 14) b w (K 33) ch co rw bk) (hr_q : rS K ch co rw bk) (hQ_q : BrAt Γ D ro z0 b K ag pa pf lm lt lw) (hB_q : okB K) (hg_q : gS K) (hS_q : ScAt Γ ro z0 a) (hD : a + 113 < D) (hsb : b = a + 10 ∨ a + 113 < b) (hw_q : w = K 32) (hk : 14 ≤ k) (s z y : Int32) : Sp Γ (rmk k 4 24) uX7_changedAt [.ref a, .int s, .int z, .int y] z0 n (qT (qI fun v σ' n' => (aChangedAt K s z.toInt y).1 = 0 ∧ v = (aChangedAt K s z.toInt y).2 ∧ n' = n ∧ ScAt Γ ro σ' a ∧ frS Γ ro (scr a) z0 σ') (fun x σ' n' => exL [eIA] (aChangedAt K s z.toInt y).1 x ∧ σ' = z0 ∧ n ≤ n')) := by
  have hP8 := hB_q.1.2.1
  have hH5 := hB_q.1.2.2.2.1
  have hW4 := hB_q.1.2.2.2.2.2
  refine sp_intro [some (.ref a), some (.int s), some (.int z), some (.int y)] (by decide +kernel) rfl (Nat.le_of_ble_eq_true rfl) rfl ?_
  refine go_aload_n (pc := 0) dX7_changedAt_0 rfl ?_
  refine go_iload_n (pc := 1) dX7_changedAt_1 rfl ?_
  refine go_iload_n (pc := 2) dX7_changedAt_2 rfl ?_
  refine go_V2Vx (pc := 3) v_X7_327 rfl rfl (rcv_of (ci := 7) (by first | exact co0 hC | exact h8_q | exact h9_q | exact sr0 hR_q | exact be0 hQ_q | exact sr0 hT_q | exact be0 hQ9 | exact sr1 hR_q | exact sr2 hR_q | exact sr3 hR_q | exact sr4 hR_q | exact be1 hQ_q | exact be2 hQ_q | exact be3 hQ_q | exact sr3 hT_q | exact sr2 hT_q | exact sr1 hT_q | exact sr4 hT_q | exact co4 hC | exact co2 hC | exact co3 hC | exact co0 hC9 | exact sr0 hR9 | exact co4 hC9 | exact sr3 hR9 | exact sr2 hR9) rfl) dX7_changedAt_3 (cp_needTwos (k := k - 1) hC hR_q hr_q hQ_q hB_q (by omega) _ _) (fun x σx nx hx_q => by obtain ⟨h9_q, rfl, rfl, h8_q⟩ := hx_q; exact Or.inr ⟨_, rfl, ⟨0, (by rw [show aChangedAt K s z.toInt y = (1, 0) from by rw [aChangedAt, h9_q, if_pos (by decide)]]; rfl), rfl⟩, rfl, h8_q⟩) (fun σ n h_q => ?_)
  obtain ⟨⟨j1_q, h0_q, rfl, hj1a, hj1b⟩, rfl, rfl⟩ := h_q
  have e1_q : (nI j1_q).toInt.toNat = j1_q := by rw [nI_toInt (by omega)]; rfl
  refine go_iload_n (pc := 6) dX7_changedAt_6 rfl ?_
  refine go_if_ge (tgt := 21) (pc := 7) dX7_changedAt_7 (by decide) (fun h_7 => ?_) (fun h_7 => ?_)
  · have hA9 : aChangedAt K s (nI j1_q).toInt y = (0, if y < nI (twK K s j1_q).length then nI ((twK K s j1_q).getD y.toNatClampNeg 0) else -1) := by rw [aChangedAt, if_neg (fun hc_q => hc_q h0_q), if_neg (Int32.not_lt.mpr h_7), e1_q]
    obtain ⟨y1_q, hy1, rfl⟩ := nI_of (Int32.not_lt.mpr h_7)
    rw [nI_clamp hy1] at hA9
    rw [hA9]
    refine go_iload_n (pc := 21) dX7_changedAt_21 rfl ?_
    refine go_aload_n (pc := 22) dX7_changedAt_22 rfl ?_
    refine go_iload_n (pc := 23) dX7_changedAt_23 rfl ?_
    refine go_iload_n (pc := 24) dX7_changedAt_24 rfl ?_
    refine go_V2I (pc := 25) v_X7_330 rfl rfl (rcv_of (ci := 7) (by first | exact co0 hC | exact h8_q | exact h9_q | exact sr0 hR_q | exact be0 hQ_q | exact sr0 hT_q | exact be0 hQ9 | exact sr1 hR_q | exact sr2 hR_q | exact sr3 hR_q | exact sr4 hR_q | exact be1 hQ_q | exact be2 hQ_q | exact be3 hQ_q | exact sr3 hT_q | exact sr2 hT_q | exact sr1 hT_q | exact sr4 hT_q | exact co4 hC | exact co2 hC | exact co3 hC | exact co0 hC9 | exact sr0 hR9 | exact co4 hC9 | exact sr3 hR9 | exact sr2 hR9) rfl) dX7_changedAt_25 (cp_collect (k := k - 1) hC hR_q hr_q hQ_q hB_q hg_q hS_q hD hsb hw_q (by omega) _ hj1b) (fun v_25 σ n h_q => ?_)
    obtain ⟨rfl, rfl, hS9, hfX, f8, g8_q, h8_q, h9_q, hJ⟩ := h_q
    have hC9 := hC.fs hfX (fun q x z => by omega)
    have hR9 := hR_q.fs hfX (fun q x y z => by omega)
    have hQ9 := hQ_q.fs hfX (fun q x z => by omega) (fun q x y z => by omega)
    have hl28 := twK_28 (K := K) (s := s) (j := j1_q) hP8
    refine go_icmp_ge (tgt := 49) (pc := 28) dX7_changedAt_28 (by decide) (fun h_28 => ?_) (fun h_28 => ?_)
    · refine go_iconst (v := -1) (pc := 49) dX7_changedAt_49 (by decide) ?_
      exact go_iretT (pc := 50) rfl dX7_changedAt_50 (Nat.le_of_ble_eq_true rfl) (Nat.le_of_ble_eq_true rfl) (by
  first
    | (have g9_q : ¬ nI y1_q < nI (twK K s j1_q).length := Int32.not_lt.mpr h_28
       exact ⟨rfl, (if_neg g9_q).symm, rfl, hS9, hfX⟩)
    | (have g9_q : nI y1_q < nI (twK K s j1_q).length := Int32.not_le.mp h_28
       exact ⟨rfl, (hJ y1_q ((nI_ltI (by omega) (by omega)).mp g9_q)).1.trans (if_pos g9_q).symm, rfl, hS9, hfX⟩))
    · refine go_iload_n (pc := 31) dX7_changedAt_31 rfl ?_
      refine go_aload_n (pc := 32) dX7_changedAt_32 rfl ?_
      refine go_getf (pc := 33) f_X7_50 dX7_changedAt_33 (by first | exact co0 hC | exact h8_q | exact h9_q | exact sr0 hR_q | exact be0 hQ_q | exact sr0 hT_q | exact be0 hQ9 | exact sr1 hR_q | exact sr2 hR_q | exact sr3 hR_q | exact sr4 hR_q | exact be1 hQ_q | exact be2 hQ_q | exact be3 hQ_q | exact sr3 hT_q | exact sr2 hT_q | exact sr1 hT_q | exact sr4 hT_q | exact co4 hC | exact co2 hC | exact co3 hC | exact co0 hC9 | exact sr0 hR9 | exact co4 hC9 | exact sr3 hR9 | exact sr2 hR9) (by rfl) ?_
      refine go_alen (pc := 36) dX7_changedAt_36 (by first | exact co0 hC | exact h8_q | exact h9_q | exact sr0 hR_q | exact be0 hQ_q | exact sr0 hT_q | exact be0 hQ9 | exact sr1 hR_q | exact sr2 hR_q | exact sr3 hR_q | exact sr4 hR_q | exact be1 hQ_q | exact be2 hQ_q | exact be3 hQ_q | exact sr3 hT_q | exact sr2 hT_q | exact sr1 hT_q | exact sr4 hT_q | exact co4 hC | exact co2 hC | exact co3 hC | exact co0 hC9 | exact sr0 hR9 | exact co4 hC9 | exact sr3 hR9 | exact sr2 hR9) (t0 := 0) rfl rfl ?_
      refine go_icmp_ge (tgt := 49) (pc := 37) dX7_changedAt_37 (by decide) (fun h_37 => by exfalso; exact absurd h_37 (nI_ge (b := 28) (by have := Nat.lt_of_not_le (fun hc_q => h_28 (nI_le hc_q (by omega))); omega) (by decide))) (fun h_37 => ?_)
      refine go_aload_n (pc := 40) dX7_changedAt_40 rfl ?_
      refine go_getf (pc := 41) f_X7_50 dX7_changedAt_41 (by first | exact co0 hC | exact h8_q | exact h9_q | exact sr0 hR_q | exact be0 hQ_q | exact sr0 hT_q | exact be0 hQ9 | exact sr1 hR_q | exact sr2 hR_q | exact sr3 hR_q | exact sr4 hR_q | exact be1 hQ_q | exact be2 hQ_q | exact be3 hQ_q | exact sr3 hT_q | exact sr2 hT_q | exact sr1 hT_q | exact sr4 hT_q | exact co4 hC | exact co2 hC | exact co3 hC | exact co0 hC9 | exact sr0 hR9 | exact co4 hC9 | exact sr3 hR9 | exact sr2 hR9) (by rfl) ?_
      refine go_iload_n (pc := 44) dX7_changedAt_44 rfl ?_
      refine go_iald (pc := 45) dX7_changedAt_45 (by first | exact co0 hC | exact h8_q | exact h9_q | exact sr0 hR_q | exact be0 hQ_q | exact sr0 hT_q | exact be0 hQ9 | exact sr1 hR_q | exact sr2 hR_q | exact sr3 hR_q | exact sr4 hR_q | exact be1 hQ_q | exact be2 hQ_q | exact be3 hQ_q | exact sr3 hT_q | exact sr2 hT_q | exact sr1 hT_q | exact sr4 hT_q | exact co4 hC | exact co2 hC | exact co3 hC | exact co0 hC9 | exact sr0 hR9 | exact co4 hC9 | exact sr3 hR9 | exact sr2 hR9) (by exact ⟨rfl, by have := Nat.lt_of_not_le (fun hc_q => h_28 (nI_le hc_q (by omega))); omega⟩) ?_
      refine go_goto (tgt := 50) (pc := 46) dX7_changedAt_46 (by decide) ?_
      exact go_iretT (pc := 50) rfl dX7_changedAt_50 (Nat.le_of_ble_eq_true rfl) (Nat.le_of_ble_eq_true rfl) (by
  first
    | (have g9_q : ¬ nI y1_q < nI (twK K s j1_q).length := Int32.not_lt.mpr h_28
       exact ⟨rfl, (if_neg g9_q).symm, rfl, hS9, hfX⟩)
    | (have g9_q : nI y1_q < nI (twK K s j1_q).length := Int32.not_le.mp h_28
       exact ⟨rfl, (hJ y1_q ((nI_ltI (by omega) (by omega)).mp g9_q)).1.trans (if_pos g9_q).symm, rfl, hS9, hfX⟩))
  · exact go_throwW (si := 28) (pc := 10) th_IA rfl rfl rfl dX7_changedAt_10 dX7_changedAt_13 dX7_changedAt_14 dX7_changedAt_17 dX7_changedAt_20 (fun n2 hn2 => Or.inr ⟨_, rfl, ⟨0, (by rw [show aChangedAt K s (nI j1_q).toInt y = (1, 0) from by rw [aChangedAt, if_neg (fun hc_q => hc_q h0_q), if_pos (Int32.not_le.mp h_7)]]; rfl), rfl⟩, rfl, hn2⟩)
theorem cp_sure {Γ : gam} {D : Nat} {ro : Nat → Nat} {z0 : sto} {n k a b : Nat} {w : Int32} {K ag pa pf ch co rw bk G : row} {im : Nat → Option Nat} {lm lt lw : Value} (hC : CoAt Γ ro z0 a G im) (hR_q : SrAt Γ ro z0 (a + 14) b w (K 33) ch co rw bk) (hr_q : rS K ch co rw bk) (hQ_q : BrAt Γ D ro z0 b K ag pa pf lm lt lw) (hB_q : okB K) (hg_q : gS K) (hS_q : ScAt Γ ro z0 a) (hD : a + 113 < D) (hsb : b = a + 10 ∨ a + 113 < b) (hw_q : w = K 32) (hk : 14 ≤ k) (s z : Int32) : Sp Γ (rmk k 4 24) uX7_sure [.ref a, .int s, .int z] z0 n (qT (qI fun v σ' n' => (aSure K s z.toInt).1 = 0 ∧ v = (aSure K s z.toInt).2 ∧ n' = n ∧ ScAt Γ ro σ' a ∧ frS Γ ro (scr a) z0 σ') (fun x σ' n' => exL [eIA] (aSure K s z.toInt).1 x ∧ σ' = z0 ∧ n ≤ n')) := by
  have hP8 := hB_q.1.2.1
  have hH5 := hB_q.1.2.2.2.1
  have hW4 := hB_q.1.2.2.2.2.2
  refine sp_intro [some (.ref a), some (.int s), some (.int z), none, none, none] (by decide +kernel) rfl (Nat.le_of_ble_eq_true rfl) rfl ?_
  refine go_aload_n (pc := 0) dX7_sure_0 rfl ?_
  refine go_iload_n (pc := 1) dX7_sure_1 rfl ?_
  refine go_iload_n (pc := 2) dX7_sure_2 rfl ?_
  refine go_V2Vx (pc := 3) v_X7_327 rfl rfl (rcv_of (ci := 7) (by first | exact co0 hC | exact h8_q | exact h9_q | exact sr0 hR_q | exact be0 hQ_q | exact sr0 hT_q | exact be0 hQ9 | exact sr1 hR_q | exact sr2 hR_q | exact sr3 hR_q | exact sr4 hR_q | exact be1 hQ_q | exact be2 hQ_q | exact be3 hQ_q | exact sr3 hT_q | exact sr2 hT_q | exact sr1 hT_q | exact sr4 hT_q | exact co4 hC | exact co2 hC | exact co3 hC | exact co0 hC9 | exact sr0 hR9 | exact co4 hC9 | exact sr3 hR9 | exact sr2 hR9) rfl) dX7_sure_3 (cp_needTwos (k := k - 1) hC hR_q hr_q hQ_q hB_q (by omega) _ _) (fun x σx nx hx_q => by obtain ⟨h9_q, rfl, rfl, h8_q⟩ := hx_q; exact Or.inr ⟨_, rfl, ⟨0, (by rw [show aSure K s z.toInt = (1, 0) from by rw [aSure, h9_q, if_pos (by decide)]]; rfl), rfl⟩, rfl, h8_q⟩) (fun σ n h_q => ?_)
  obtain ⟨⟨j1_q, h0_q, rfl, hj1a, hj1b⟩, rfl, rfl⟩ := h_q
  have e1_q : (nI j1_q).toInt.toNat = j1_q := by rw [nI_toInt (by omega)]; rfl
  refine go_aload_n (pc := 6) dX7_sure_6 rfl ?_
  refine go_iload_n (pc := 7) dX7_sure_7 rfl ?_
  refine go_iload_n (pc := 8) dX7_sure_8 rfl ?_
  refine go_V2I (pc := 9) v_X7_330 rfl rfl (rcv_of (ci := 7) (by first | exact co0 hC | exact h8_q | exact h9_q | exact sr0 hR_q | exact be0 hQ_q | exact sr0 hT_q | exact be0 hQ9 | exact sr1 hR_q | exact sr2 hR_q | exact sr3 hR_q | exact sr4 hR_q | exact be1 hQ_q | exact be2 hQ_q | exact be3 hQ_q | exact sr3 hT_q | exact sr2 hT_q | exact sr1 hT_q | exact sr4 hT_q | exact co4 hC | exact co2 hC | exact co3 hC | exact co0 hC9 | exact sr0 hR9 | exact co4 hC9 | exact sr3 hR9 | exact sr2 hR9) rfl) dX7_sure_9 (cp_collect (k := k - 1) hC hR_q hr_q hQ_q hB_q hg_q hS_q hD hsb hw_q (by omega) _ hj1b) (fun v_9 σ n h_q => ?_)
  obtain ⟨rfl, rfl, hS9, hfX, f8, g8_q, h8_q, h9_q, hJ⟩ := h_q
  have hC9 := hC.fs hfX (fun q x z => by omega)
  have hR9 := hR_q.fs hfX (fun q x y z => by omega)
  have hQ9 := hQ_q.fs hfX (fun q x z => by omega) (fun q x y z => by omega)
  have hl28 := twK_28 (K := K) (s := s) (j := j1_q) hP8
  refine go_istore_n (lw := [_, _, _, _, _, _]) (pc := 12) dX7_sure_12 (by decide) rfl ?_
  refine go_iload_n (pc := 13) dX7_sure_13 rfl ?_
  refine go_if_ne (tgt := 21) (pc := 14) dX7_sure_14 (by decide) (fun h_14 => ?_) (fun h_14 => ?_)
  · refine go_aload_n (pc := 21) dX7_sure_21 rfl ?_
    refine go_getf (pc := 22) f_X7_65 dX7_sure_22 (by first | exact co0 hC | exact h8_q | exact h9_q | exact sr0 hR_q | exact be0 hQ_q | exact sr0 hT_q | exact be0 hQ9 | exact sr1 hR_q | exact sr2 hR_q | exact sr3 hR_q | exact sr4 hR_q | exact be1 hQ_q | exact be2 hQ_q | exact be3 hQ_q | exact sr3 hT_q | exact sr2 hT_q | exact sr1 hT_q | exact sr4 hT_q | exact co4 hC | exact co2 hC | exact co3 hC | exact co0 hC9 | exact sr0 hR9 | exact co4 hC9 | exact sr3 hR9 | exact sr2 hR9) (by rfl) ?_
    refine go_getf (pc := 25) f_X7_120 dX7_sure_25 (by first | exact co0 hC | exact h8_q | exact h9_q | exact sr0 hR_q | exact be0 hQ_q | exact sr0 hT_q | exact be0 hQ9 | exact sr1 hR_q | exact sr2 hR_q | exact sr3 hR_q | exact sr4 hR_q | exact be1 hQ_q | exact be2 hQ_q | exact be3 hQ_q | exact sr3 hT_q | exact sr2 hT_q | exact sr1 hT_q | exact sr4 hT_q | exact co4 hC | exact co2 hC | exact co3 hC | exact co0 hC9 | exact sr0 hR9 | exact co4 hC9 | exact sr3 hR9 | exact sr2 hR9) (by rfl) ?_
    refine go_V0P (pc := 28) v_X7_304 rfl rfl (rcv_of (ci := 0) (by first | exact co0 hC | exact h8_q | exact h9_q | exact sr0 hR_q | exact be0 hQ_q | exact sr0 hT_q | exact be0 hQ9 | exact sr1 hR_q | exact sr2 hR_q | exact sr3 hR_q | exact sr4 hR_q | exact be1 hQ_q | exact be2 hQ_q | exact be3 hQ_q | exact sr3 hT_q | exact sr2 hT_q | exact sr1 hT_q | exact sr4 hT_q | exact co4 hC | exact co2 hC | exact co3 hC | exact co0 hC9 | exact sr0 hR9 | exact co4 hC9 | exact sr3 hR9 | exact sr2 hR9) rfl) dX7_sure_28 (cp_everybody (k := k - 1) hQ9) ?_
    refine go_istore (lw := [_, _, _, _, _, _]) (pc := 31) dX7_sure_31 (by decide) rfl ?_
    refine go_iconst (v := 0) (pc := 33) dX7_sure_33 (by decide) ?_
    refine go_istore (lw := [_, _, _, _, _, _]) (pc := 34) dX7_sure_34 (by decide) rfl ?_
    refine go_iter ((twK K s j1_q).length) (fun i_q lv9 s9 n9 => ∃ (x9_q : Int32), lv9 = [some (.ref a), some (.int s), some (.int (nI j1_q)), some (.int (nI (twK K s j1_q).length)), some (.int x9_q), some (.int (nI i_q))] ∧ (surI (twK K s j1_q) ((twK K s j1_q).length - i_q) i_q x9_q = surK K (twK K s j1_q)) ∧ (σ = s9) ∧ n = n9) ⟨_, rfl, (by rw [surK]; first | (have g9_q : nI (twK K s j1_q).length = 0 := h_14; rw [if_pos ((nI_eq (b := 0) (by omega) (by omega)).mp g9_q)]; rfl) | (have g9_q : ¬ nI (twK K s j1_q).length = 0 := h_14; rw [if_neg (fun hc_q => g9_q (by rw [hc_q]; rfl))]; rfl)), rfl, rfl⟩ ?_ ?_
    · rintro i_q lv9 σ n9 hi_q ⟨x9_q, rfl, hR9e, rfl, rfl⟩ ih_q
      refine go_iload (pc := 36) dX7_sure_36 rfl ?_
      refine go_iload_n (pc := 38) dX7_sure_38 rfl ?_
      refine go_icmp_ge (tgt := 88) (pc := 39) dX7_sure_39 (by decide) (fun h_39 => by exfalso; exact absurd h_39 (nI_ge (by omega) (by omega))) (fun h_39 => ?_)
      have hat := twK_at (K := K) (s := s) (j := j1_q) hP8 hi_q
      refine go_iload (pc := 42) dX7_sure_42 rfl ?_
      refine go_aload_n (pc := 44) dX7_sure_44 rfl ?_
      refine go_getf (pc := 45) f_X7_50 dX7_sure_45 (by first | exact co0 hC | exact h8_q | exact h9_q | exact sr0 hR_q | exact be0 hQ_q | exact sr0 hT_q | exact be0 hQ9 | exact sr1 hR_q | exact sr2 hR_q | exact sr3 hR_q | exact sr4 hR_q | exact be1 hQ_q | exact be2 hQ_q | exact be3 hQ_q | exact sr3 hT_q | exact sr2 hT_q | exact sr1 hT_q | exact sr4 hT_q | exact co4 hC | exact co2 hC | exact co3 hC | exact co0 hC9 | exact sr0 hR9 | exact co4 hC9 | exact sr3 hR9 | exact sr2 hR9) (by rfl) ?_
      refine go_alen (pc := 48) dX7_sure_48 (by first | exact co0 hC | exact h8_q | exact h9_q | exact sr0 hR_q | exact be0 hQ_q | exact sr0 hT_q | exact be0 hQ9 | exact sr1 hR_q | exact sr2 hR_q | exact sr3 hR_q | exact sr4 hR_q | exact be1 hQ_q | exact be2 hQ_q | exact be3 hQ_q | exact sr3 hT_q | exact sr2 hT_q | exact sr1 hT_q | exact sr4 hT_q | exact co4 hC | exact co2 hC | exact co3 hC | exact co0 hC9 | exact sr0 hR9 | exact co4 hC9 | exact sr3 hR9 | exact sr2 hR9) (t0 := 0) rfl rfl ?_
      refine go_icmp_ge (tgt := 88) (pc := 49) dX7_sure_49 (by decide) (fun h_49 => by exfalso; exact absurd h_49 (nI_ge (b := 28) (by omega) (by decide))) (fun h_49 => ?_)
      refine go_iload (pc := 52) dX7_sure_52 rfl ?_
      refine go_iconst (v := 1) (pc := 54) dX7_sure_54 (by decide) ?_
      refine go_aload_n (pc := 55) dX7_sure_55 rfl ?_
      refine go_getf (pc := 56) f_X7_50 dX7_sure_56 (by first | exact co0 hC | exact h8_q | exact h9_q | exact sr0 hR_q | exact be0 hQ_q | exact sr0 hT_q | exact be0 hQ9 | exact sr1 hR_q | exact sr2 hR_q | exact sr3 hR_q | exact sr4 hR_q | exact be1 hQ_q | exact be2 hQ_q | exact be3 hQ_q | exact sr3 hT_q | exact sr2 hT_q | exact sr1 hT_q | exact sr4 hT_q | exact co4 hC | exact co2 hC | exact co3 hC | exact co0 hC9 | exact sr0 hR9 | exact co4 hC9 | exact sr3 hR9 | exact sr2 hR9) (by rfl) ?_
      refine go_iload (pc := 59) dX7_sure_59 rfl ?_
      refine go_iald (pc := 61) dX7_sure_61 (by first | exact co0 hC | exact h8_q | exact h9_q | exact sr0 hR_q | exact be0 hQ_q | exact sr0 hT_q | exact be0 hQ9 | exact sr1 hR_q | exact sr2 hR_q | exact sr3 hR_q | exact sr4 hR_q | exact be1 hQ_q | exact be2 hQ_q | exact be3 hQ_q | exact sr3 hT_q | exact sr2 hT_q | exact sr1 hT_q | exact sr4 hT_q | exact co4 hC | exact co2 hC | exact co3 hC | exact co0 hC9 | exact sr0 hR9 | exact co4 hC9 | exact sr3 hR9 | exact sr2 hR9) (by exact ⟨rfl, by omega⟩) ?_
      rw [(hJ i_q hi_q).1]
      refine go_bipush (v := 10) (pc := 62) dX7_sure_62 (by decide) ?_
      refine go_idiv (pc := 64) dX7_sure_64 (by decide) ?_
      rw [tw_div hat.1]
      refine go_ishl (pc := 65) dX7_sure_65 ?_
      refine go_iconst (v := 1) (pc := 66) dX7_sure_66 (by decide) ?_
      refine go_aload_n (pc := 67) dX7_sure_67 rfl ?_
      refine go_getf (pc := 68) f_X7_50 dX7_sure_68 (by first | exact co0 hC | exact h8_q | exact h9_q | exact sr0 hR_q | exact be0 hQ_q | exact sr0 hT_q | exact be0 hQ9 | exact sr1 hR_q | exact sr2 hR_q | exact sr3 hR_q | exact sr4 hR_q | exact be1 hQ_q | exact be2 hQ_q | exact be3 hQ_q | exact sr3 hT_q | exact sr2 hT_q | exact sr1 hT_q | exact sr4 hT_q | exact co4 hC | exact co2 hC | exact co3 hC | exact co0 hC9 | exact sr0 hR9 | exact co4 hC9 | exact sr3 hR9 | exact sr2 hR9) (by rfl) ?_
      refine go_iload (pc := 71) dX7_sure_71 rfl ?_
      refine go_iald (pc := 73) dX7_sure_73 (by first | exact co0 hC | exact h8_q | exact h9_q | exact sr0 hR_q | exact be0 hQ_q | exact sr0 hT_q | exact be0 hQ9 | exact sr1 hR_q | exact sr2 hR_q | exact sr3 hR_q | exact sr4 hR_q | exact be1 hQ_q | exact be2 hQ_q | exact be3 hQ_q | exact sr3 hT_q | exact sr2 hT_q | exact sr1 hT_q | exact sr4 hT_q | exact co4 hC | exact co2 hC | exact co3 hC | exact co0 hC9 | exact sr0 hR9 | exact co4 hC9 | exact sr3 hR9 | exact sr2 hR9) (by exact ⟨rfl, by omega⟩) ?_
      rw [(hJ i_q hi_q).1]
      refine go_bipush (v := 10) (pc := 74) dX7_sure_74 (by decide) ?_
      refine go_irem (pc := 76) dX7_sure_76 (by decide) ?_
      rw [tw_rem hat.1]
      refine go_ishl (pc := 77) dX7_sure_77 ?_
      refine go_ior (pc := 78) dX7_sure_78 ?_
      refine go_iand (pc := 79) dX7_sure_79 ?_
      refine go_istore (lw := [_, _, _, _, _, _]) (pc := 80) dX7_sure_80 (by decide) rfl ?_
      refine go_iinc (v := 1) (lw := [_, _, _, _, _, _]) (pc := 82) dX7_sure_82 rfl (by decide) (by decide) rfl ?_
      refine go_goto (tgt := 36) (pc := 85) dX7_sure_85 (by decide) ?_
      rw [nI_1]
      exact ih_q _ _ _ ⟨_, rfl, (by rw [← hR9e, surI_step hi_q]; rfl), rfl, rfl⟩
    · rintro lv9 σ n9 ⟨x9_q, rfl, hR9e, rfl, rfl⟩
      refine go_iload (pc := 36) dX7_sure_36 rfl ?_
      refine go_iload_n (pc := 38) dX7_sure_38 rfl ?_
      refine go_icmp_ge (tgt := 88) (pc := 39) dX7_sure_39 (by decide) (fun h_39 => ?_) (fun h_39 => by exfalso; exact h_39 (nI_le (by omega) (by omega)))
      refine go_iload (pc := 88) dX7_sure_88 rfl ?_
      exact go_iretT (pc := 90) rfl dX7_sure_90 (Nat.le_of_ble_eq_true rfl) (Nat.le_of_ble_eq_true rfl) ⟨by rw [aSure, if_neg (fun hc_q => hc_q h0_q)], by rw [aSure, if_neg (fun hc_q => hc_q h0_q), e1_q]; rw [Nat.sub_self] at hR9e; exact hR9e, rfl, hS9, hfX⟩
  · refine go_iconst (v := 0) (pc := 17) dX7_sure_17 (by decide) ?_
    refine go_goto (tgt := 31) (pc := 18) dX7_sure_18 (by decide) ?_
    refine go_istore (lw := [_, _, _, _, _, _]) (pc := 31) dX7_sure_31 (by decide) rfl ?_
    refine go_iconst (v := 0) (pc := 33) dX7_sure_33 (by decide) ?_
    refine go_istore (lw := [_, _, _, _, _, _]) (pc := 34) dX7_sure_34 (by decide) rfl ?_
    refine go_iter ((twK K s j1_q).length) (fun i_q lv9 s9 n9 => ∃ (x9_q : Int32), lv9 = [some (.ref a), some (.int s), some (.int (nI j1_q)), some (.int (nI (twK K s j1_q).length)), some (.int x9_q), some (.int (nI i_q))] ∧ (surI (twK K s j1_q) ((twK K s j1_q).length - i_q) i_q x9_q = surK K (twK K s j1_q)) ∧ (σ = s9) ∧ n = n9) ⟨_, rfl, (by rw [surK]; first | (have g9_q : nI (twK K s j1_q).length = 0 := h_14; rw [if_pos ((nI_eq (b := 0) (by omega) (by omega)).mp g9_q)]; rfl) | (have g9_q : ¬ nI (twK K s j1_q).length = 0 := h_14; rw [if_neg (fun hc_q => g9_q (by rw [hc_q]; rfl))]; rfl)), rfl, rfl⟩ ?_ ?_
    · rintro i_q lv9 σ n9 hi_q ⟨x9_q, rfl, hR9e, rfl, rfl⟩ ih_q
      refine go_iload (pc := 36) dX7_sure_36 rfl ?_
      refine go_iload_n (pc := 38) dX7_sure_38 rfl ?_
      refine go_icmp_ge (tgt := 88) (pc := 39) dX7_sure_39 (by decide) (fun h_39 => by exfalso; exact absurd h_39 (nI_ge (by omega) (by omega))) (fun h_39 => ?_)
      have hat := twK_at (K := K) (s := s) (j := j1_q) hP8 hi_q
      refine go_iload (pc := 42) dX7_sure_42 rfl ?_
      refine go_aload_n (pc := 44) dX7_sure_44 rfl ?_
      refine go_getf (pc := 45) f_X7_50 dX7_sure_45 (by first | exact co0 hC | exact h8_q | exact h9_q | exact sr0 hR_q | exact be0 hQ_q | exact sr0 hT_q | exact be0 hQ9 | exact sr1 hR_q | exact sr2 hR_q | exact sr3 hR_q | exact sr4 hR_q | exact be1 hQ_q | exact be2 hQ_q | exact be3 hQ_q | exact sr3 hT_q | exact sr2 hT_q | exact sr1 hT_q | exact sr4 hT_q | exact co4 hC | exact co2 hC | exact co3 hC | exact co0 hC9 | exact sr0 hR9 | exact co4 hC9 | exact sr3 hR9 | exact sr2 hR9) (by rfl) ?_
      refine go_alen (pc := 48) dX7_sure_48 (by first | exact co0 hC | exact h8_q | exact h9_q | exact sr0 hR_q | exact be0 hQ_q | exact sr0 hT_q | exact be0 hQ9 | exact sr1 hR_q | exact sr2 hR_q | exact sr3 hR_q | exact sr4 hR_q | exact be1 hQ_q | exact be2 hQ_q | exact be3 hQ_q | exact sr3 hT_q | exact sr2 hT_q | exact sr1 hT_q | exact sr4 hT_q | exact co4 hC | exact co2 hC | exact co3 hC | exact co0 hC9 | exact sr0 hR9 | exact co4 hC9 | exact sr3 hR9 | exact sr2 hR9) (t0 := 0) rfl rfl ?_
      refine go_icmp_ge (tgt := 88) (pc := 49) dX7_sure_49 (by decide) (fun h_49 => by exfalso; exact absurd h_49 (nI_ge (b := 28) (by omega) (by decide))) (fun h_49 => ?_)
      refine go_iload (pc := 52) dX7_sure_52 rfl ?_
      refine go_iconst (v := 1) (pc := 54) dX7_sure_54 (by decide) ?_
      refine go_aload_n (pc := 55) dX7_sure_55 rfl ?_
      refine go_getf (pc := 56) f_X7_50 dX7_sure_56 (by first | exact co0 hC | exact h8_q | exact h9_q | exact sr0 hR_q | exact be0 hQ_q | exact sr0 hT_q | exact be0 hQ9 | exact sr1 hR_q | exact sr2 hR_q | exact sr3 hR_q | exact sr4 hR_q | exact be1 hQ_q | exact be2 hQ_q | exact be3 hQ_q | exact sr3 hT_q | exact sr2 hT_q | exact sr1 hT_q | exact sr4 hT_q | exact co4 hC | exact co2 hC | exact co3 hC | exact co0 hC9 | exact sr0 hR9 | exact co4 hC9 | exact sr3 hR9 | exact sr2 hR9) (by rfl) ?_
      refine go_iload (pc := 59) dX7_sure_59 rfl ?_
      refine go_iald (pc := 61) dX7_sure_61 (by first | exact co0 hC | exact h8_q | exact h9_q | exact sr0 hR_q | exact be0 hQ_q | exact sr0 hT_q | exact be0 hQ9 | exact sr1 hR_q | exact sr2 hR_q | exact sr3 hR_q | exact sr4 hR_q | exact be1 hQ_q | exact be2 hQ_q | exact be3 hQ_q | exact sr3 hT_q | exact sr2 hT_q | exact sr1 hT_q | exact sr4 hT_q | exact co4 hC | exact co2 hC | exact co3 hC | exact co0 hC9 | exact sr0 hR9 | exact co4 hC9 | exact sr3 hR9 | exact sr2 hR9) (by exact ⟨rfl, by omega⟩) ?_
      rw [(hJ i_q hi_q).1]
      refine go_bipush (v := 10) (pc := 62) dX7_sure_62 (by decide) ?_
      refine go_idiv (pc := 64) dX7_sure_64 (by decide) ?_
      rw [tw_div hat.1]
      refine go_ishl (pc := 65) dX7_sure_65 ?_
      refine go_iconst (v := 1) (pc := 66) dX7_sure_66 (by decide) ?_
      refine go_aload_n (pc := 67) dX7_sure_67 rfl ?_
      refine go_getf (pc := 68) f_X7_50 dX7_sure_68 (by first | exact co0 hC | exact h8_q | exact h9_q | exact sr0 hR_q | exact be0 hQ_q | exact sr0 hT_q | exact be0 hQ9 | exact sr1 hR_q | exact sr2 hR_q | exact sr3 hR_q | exact sr4 hR_q | exact be1 hQ_q | exact be2 hQ_q | exact be3 hQ_q | exact sr3 hT_q | exact sr2 hT_q | exact sr1 hT_q | exact sr4 hT_q | exact co4 hC | exact co2 hC | exact co3 hC | exact co0 hC9 | exact sr0 hR9 | exact co4 hC9 | exact sr3 hR9 | exact sr2 hR9) (by rfl) ?_
      refine go_iload (pc := 71) dX7_sure_71 rfl ?_
      refine go_iald (pc := 73) dX7_sure_73 (by first | exact co0 hC | exact h8_q | exact h9_q | exact sr0 hR_q | exact be0 hQ_q | exact sr0 hT_q | exact be0 hQ9 | exact sr1 hR_q | exact sr2 hR_q | exact sr3 hR_q | exact sr4 hR_q | exact be1 hQ_q | exact be2 hQ_q | exact be3 hQ_q | exact sr3 hT_q | exact sr2 hT_q | exact sr1 hT_q | exact sr4 hT_q | exact co4 hC | exact co2 hC | exact co3 hC | exact co0 hC9 | exact sr0 hR9 | exact co4 hC9 | exact sr3 hR9 | exact sr2 hR9) (by exact ⟨rfl, by omega⟩) ?_
      rw [(hJ i_q hi_q).1]
      refine go_bipush (v := 10) (pc := 74) dX7_sure_74 (by decide) ?_
      refine go_irem (pc := 76) dX7_sure_76 (by decide) ?_
      rw [tw_rem hat.1]
      refine go_ishl (pc := 77) dX7_sure_77 ?_
      refine go_ior (pc := 78) dX7_sure_78 ?_
      refine go_iand (pc := 79) dX7_sure_79 ?_
      refine go_istore (lw := [_, _, _, _, _, _]) (pc := 80) dX7_sure_80 (by decide) rfl ?_
      refine go_iinc (v := 1) (lw := [_, _, _, _, _, _]) (pc := 82) dX7_sure_82 rfl (by decide) (by decide) rfl ?_
      refine go_goto (tgt := 36) (pc := 85) dX7_sure_85 (by decide) ?_
      rw [nI_1]
      exact ih_q _ _ _ ⟨_, rfl, (by rw [← hR9e, surI_step hi_q]; rfl), rfl, rfl⟩
    · rintro lv9 σ n9 ⟨x9_q, rfl, hR9e, rfl, rfl⟩
      refine go_iload (pc := 36) dX7_sure_36 rfl ?_
      refine go_iload_n (pc := 38) dX7_sure_38 rfl ?_
      refine go_icmp_ge (tgt := 88) (pc := 39) dX7_sure_39 (by decide) (fun h_39 => ?_) (fun h_39 => by exfalso; exact h_39 (nI_le (by omega) (by omega)))
      refine go_iload (pc := 88) dX7_sure_88 rfl ?_
      exact go_iretT (pc := 90) rfl dX7_sure_90 (Nat.le_of_ble_eq_true rfl) (Nat.le_of_ble_eq_true rfl) ⟨by rw [aSure, if_neg (fun hc_q => hc_q h0_q)], by rw [aSure, if_neg (fun hc_q => hc_q h0_q), e1_q]; rw [Nat.sub_self] at hR9e; exact hR9e, rfl, hS9, hfX⟩
theorem cp_mostAlike {Γ : gam} {ro : Nat → Nat} {z0 : sto} {n k a p j : Nat} {K G f g : row} {im : Nat → Option Nat} {l : List Nat} (hC : CoAt Γ ro z0 a G im) (h9_q : z0 (a + 9) = some (cI Γ 224 g)) (hJ : twJ K j l f g) (hl : l.length ≤ 28) (h8_q : kP K ≤ 8) (hp_q : p < kP K) (hk : 1 ≤ k) : Sp Γ (rmk k 0 0) uX7_mostAlike [.ref a, .int (nI p), .int (nI l.length)] z0 n (qP (mosK K j l p) z0 n) := by
  refine sp_intro [some (.ref a), some (.int (nI p)), some (.int (nI l.length)), none, none, none, none] (by decide +kernel) rfl (Nat.le_of_ble_eq_true rfl) rfl ?_
  refine go_iconst (v := 0) (pc := 0) dX7_mostAlike_0 (by decide) ?_
  refine go_istore_n (lw := [_, _, _, _, _, _, _]) (pc := 1) dX7_mostAlike_1 (by decide) rfl ?_
  refine go_iconst (v := 0) (pc := 2) dX7_mostAlike_2 (by decide) ?_
  refine go_istore (lw := [_, _, _, _, _, _, _]) (pc := 3) dX7_mostAlike_3 (by decide) rfl ?_
  refine go_iter (l.length) (fun i_q lv9 s9 n9 => ∃ (x9_q : Int32), ∃ x5_q, ∃ x6_q, lv9 = [some (.ref a), some (.int (nI p)), some (.int (nI l.length)), some (.int x9_q), some (.int (nI i_q)), x5_q, x6_q] ∧ (mosI (fun i_q => twP K j (l.getD i_q 0) p) l.length (l.length - i_q) i_q x9_q = mosK K j l p) ∧ (z0 = s9) ∧ n = n9) ⟨0, none, none, rfl, rfl, rfl, rfl⟩ ?_ ?_
  · rintro i_q lv9 σ n9 hi_q ⟨x9_q, x5_q, x6_q, rfl, hR1, rfl, rfl⟩ ih_q
    refine go_iload (pc := 5) dX7_mostAlike_5 rfl ?_
    refine go_iload_n (pc := 7) dX7_mostAlike_7 rfl ?_
    refine go_icmp_ge (tgt := 72) (pc := 8) dX7_mostAlike_8 (by decide) (fun h_8 => by exfalso; exact absurd h_8 (nI_ge (by omega) (by omega))) (fun h_8 => ?_)
    refine go_iconst (v := 0) (pc := 11) dX7_mostAlike_11 (by decide) ?_
    refine go_istore (lw := [_, _, _, _, _, _, _]) (pc := 12) dX7_mostAlike_12 (by decide) rfl ?_
    refine go_iconst (v := 0) (pc := 14) dX7_mostAlike_14 (by decide) ?_
    refine go_istore (lw := [_, _, _, _, _, _, _]) (pc := 15) dX7_mostAlike_15 (by decide) rfl ?_
    refine go_iter (l.length) (fun i2_q lv9 s9 n9 => ∃ (y9 : Int32), lv9 = [some (.ref a), some (.int (nI p)), some (.int (nI l.length)), some (.int x9_q), some (.int (nI i_q)), some (.int y9), some (.int (nI i2_q))] ∧ (alkI (fun i_q => twP K j (l.getD i_q 0) p) ((fun i_q => twP K j (l.getD i_q 0) p) i_q) (l.length - i2_q) i2_q y9 = alkI (fun i_q => twP K j (l.getD i_q 0) p) ((fun i_q => twP K j (l.getD i_q 0) p) i_q) l.length 0 0) ∧ (z0 = s9) ∧ n = n9) ⟨0, rfl, rfl, rfl, rfl⟩ ?_ ?_
    · rintro i2_q lv9 σ n9 hi2_q ⟨y9, rfl, hR2, rfl, rfl⟩ ih2_q
      refine go_iload (pc := 17) dX7_mostAlike_17 rfl ?_
      refine go_iload_n (pc := 19) dX7_mostAlike_19 rfl ?_
      refine go_icmp_ge (tgt := 59) (pc := 20) dX7_mostAlike_20 (by decide) (fun h_20 => by exfalso; exact absurd h_20 (nI_ge (by omega) (by omega))) (fun h_20 => ?_)
      refine go_aload_n (pc := 23) dX7_mostAlike_23 rfl ?_
      refine go_getf (pc := 24) f_X7_53 dX7_mostAlike_24 (by first | exact co0 hC | exact h9_q) (by rfl) ?_
      refine go_iload (pc := 27) dX7_mostAlike_27 rfl ?_
      refine go_bipush (v := 8) (pc := 29) dX7_mostAlike_29 (by decide) ?_
      refine go_imul (pc := 31) dX7_mostAlike_31 ?_
      refine go_iload_n (pc := 32) dX7_mostAlike_32 rfl ?_
      refine go_iadd (pc := 33) dX7_mostAlike_33 ?_
      rw [ix8]
      refine go_iald (pc := 34) dX7_mostAlike_34 (by first | exact co0 hC | exact h9_q) (by exact ⟨rfl, by omega⟩) ?_
      rw [(hJ i2_q hi2_q).2 p hp_q]
      refine go_aload_n (pc := 35) dX7_mostAlike_35 rfl ?_
      refine go_getf (pc := 36) f_X7_53 dX7_mostAlike_36 (by first | exact co0 hC | exact h9_q) (by rfl) ?_
      refine go_iload (pc := 39) dX7_mostAlike_39 rfl ?_
      refine go_bipush (v := 8) (pc := 41) dX7_mostAlike_41 (by decide) ?_
      refine go_imul (pc := 43) dX7_mostAlike_43 ?_
      refine go_iload_n (pc := 44) dX7_mostAlike_44 rfl ?_
      refine go_iadd (pc := 45) dX7_mostAlike_45 ?_
      rw [ix8]
      refine go_iald (pc := 46) dX7_mostAlike_46 (by first | exact co0 hC | exact h9_q) (by exact ⟨rfl, by omega⟩) ?_
      rw [(hJ i_q hi_q).2 p hp_q]
      refine go_icmp_ne (tgt := 53) (pc := 47) dX7_mostAlike_47 (by decide) (fun h_47 => ?_) (fun h_47 => ?_)
      · refine go_iinc (v := 1) (lw := [_, _, _, _, _, _, _]) (pc := 53) dX7_mostAlike_53 rfl (by decide) (by decide) rfl ?_
        refine go_goto (tgt := 17) (pc := 56) dX7_mostAlike_56 (by decide) ?_
        rw [nI_1]
        first
          | (have g9_q : ¬ twP K j (l.getD i2_q 0) p = twP K j (l.getD i_q 0) p := h_47
             refine ih2_q _ _ _ ⟨_, rfl, ?_, rfl, rfl⟩
             rw [← hR2, alkI_step hi2_q, if_neg g9_q]; simp)
          | (have g9_q : twP K j (l.getD i2_q 0) p = twP K j (l.getD i_q 0) p := h_47
             refine ih2_q _ _ _ ⟨_, rfl, ?_, rfl, rfl⟩
             rw [← hR2, alkI_step hi2_q, if_pos g9_q])
      · refine go_iinc (v := 1) (lw := [_, _, _, _, _, _, _]) (pc := 50) dX7_mostAlike_50 rfl (by decide) (by decide) rfl ?_
        refine go_iinc (v := 1) (lw := [_, _, _, _, _, _, _]) (pc := 53) dX7_mostAlike_53 rfl (by decide) (by decide) rfl ?_
        refine go_goto (tgt := 17) (pc := 56) dX7_mostAlike_56 (by decide) ?_
        rw [nI_1]
        first
          | (have g9_q : ¬ twP K j (l.getD i2_q 0) p = twP K j (l.getD i_q 0) p := h_47
             refine ih2_q _ _ _ ⟨_, rfl, ?_, rfl, rfl⟩
             rw [← hR2, alkI_step hi2_q, if_neg g9_q]; simp)
          | (have g9_q : twP K j (l.getD i2_q 0) p = twP K j (l.getD i_q 0) p := h_47
             refine ih2_q _ _ _ ⟨_, rfl, ?_, rfl, rfl⟩
             rw [← hR2, alkI_step hi2_q, if_pos g9_q])
    · rintro lv9 σ n9 ⟨y9, rfl, hR2, rfl, rfl⟩
      refine go_iload (pc := 17) dX7_mostAlike_17 rfl ?_
      refine go_iload_n (pc := 19) dX7_mostAlike_19 rfl ?_
      refine go_icmp_ge (tgt := 59) (pc := 20) dX7_mostAlike_20 (by decide) (fun h_20 => ?_) (fun h_20 => by exfalso; exact h_20 (nI_le (by omega) (by omega)))
      refine go_iload_n (pc := 59) dX7_mostAlike_59 rfl ?_
      refine go_iload (pc := 60) dX7_mostAlike_60 rfl ?_
      refine go_mmax (pc := 62) s_X7_411 dX7_mostAlike_62 ?_
      refine go_istore_n (lw := [_, _, _, _, _, _, _]) (pc := 65) dX7_mostAlike_65 (by decide) rfl ?_
      refine go_iinc (v := 1) (lw := [_, _, _, _, _, _, _]) (pc := 66) dX7_mostAlike_66 rfl (by decide) (by decide) rfl ?_
      refine go_goto (tgt := 5) (pc := 69) dX7_mostAlike_69 (by decide) ?_
      rw [nI_1]
      exact ih_q _ _ _ ⟨_, _, _, rfl, (by rw [Nat.sub_self] at hR2; rw [← hR1, mosI_step hi_q, ← hR2]; rfl), rfl, rfl⟩
  · rintro lv9 σ n9 ⟨x9_q, x5_q, x6_q, rfl, hR1, rfl, rfl⟩
    refine go_iload (pc := 5) dX7_mostAlike_5 rfl ?_
    refine go_iload_n (pc := 7) dX7_mostAlike_7 rfl ?_
    refine go_icmp_ge (tgt := 72) (pc := 8) dX7_mostAlike_8 (by decide) (fun h_8 => ?_) (fun h_8 => by exfalso; exact h_8 (nI_le (by omega) (by omega)))
    refine go_iload_n (pc := 72) dX7_mostAlike_72 rfl ?_
    exact go_iretP (pc := 73) rfl dX7_mostAlike_73 (Nat.le_of_ble_eq_true rfl) (Nat.le_of_ble_eq_true rfl) (by rw [Nat.sub_self] at hR1; exact hR1)
theorem cp_look {Γ : gam} {D : Nat} {ro : Nat → Nat} {z0 : sto} {n k a b : Nat} {w : Int32} {K ag pa pf ch co rw bk G : row} {im : Nat → Option Nat} {lm lt lw : Value} (hC : CoAt Γ ro z0 a G im) (hR_q : SrAt Γ ro z0 (a + 14) b w (K 33) ch co rw bk) (hr_q : rS K ch co rw bk) (hQ_q : BrAt Γ D ro z0 b K ag pa pf lm lt lw) (hB_q : okB K) (hg_q : gS K) (hS_q : ScAt Γ ro z0 a) (hD : a + 113 < D) (hsb : b = a + 10 ∨ a + 113 < b) (hw_q : w = K 32) (hk : 14 ≤ k) (s z : Int32) : Sp Γ (rmk k 4 24) uX7_look [.ref a, .int s, .int z] z0 n (qT (qI fun v σ' n' => (aLook K s z.toInt).1 = 0 ∧ v = (aLook K s z.toInt).2 ∧ n' = n ∧ ScAt Γ ro σ' a ∧ frS Γ ro (scr a) z0 σ') (fun x σ' n' => exL [eIA] (aLook K s z.toInt).1 x ∧ σ' = z0 ∧ n ≤ n')) := by
  have hP8 := hB_q.1.2.1
  have hH5 := hB_q.1.2.2.2.1
  have hW4 := hB_q.1.2.2.2.2.2
  refine sp_intro [some (.ref a), some (.int s), some (.int z), none, none, none, none, none] (by decide +kernel) rfl (Nat.le_of_ble_eq_true rfl) rfl ?_
  refine go_aload_n (pc := 0) dX7_look_0 rfl ?_
  refine go_iload_n (pc := 1) dX7_look_1 rfl ?_
  refine go_iload_n (pc := 2) dX7_look_2 rfl ?_
  refine go_V2Vx (pc := 3) v_X7_327 rfl rfl (rcv_of (ci := 7) (by first | exact co0 hC | exact h8_q | exact h9_q | exact sr0 hR_q | exact be0 hQ_q | exact sr0 hT_q | exact be0 hQ9 | exact sr1 hR_q | exact sr2 hR_q | exact sr3 hR_q | exact sr4 hR_q | exact be1 hQ_q | exact be2 hQ_q | exact be3 hQ_q | exact sr3 hT_q | exact sr2 hT_q | exact sr1 hT_q | exact sr4 hT_q | exact co4 hC | exact co2 hC | exact co3 hC | exact co0 hC9 | exact sr0 hR9 | exact co4 hC9 | exact sr3 hR9 | exact sr2 hR9) rfl) dX7_look_3 (cp_needTwos (k := k - 1) hC hR_q hr_q hQ_q hB_q (by omega) _ _) (fun x σx nx hx_q => by obtain ⟨h9_q, rfl, rfl, h8_q⟩ := hx_q; exact Or.inr ⟨_, rfl, ⟨0, (by rw [show aLook K s z.toInt = (1, 0) from by rw [aLook, h9_q, if_pos (by decide)]]; rfl), rfl⟩, rfl, h8_q⟩) (fun σ n h_q => ?_)
  obtain ⟨⟨j1_q, h0_q, rfl, hj1a, hj1b⟩, rfl, rfl⟩ := h_q
  have e1_q : (nI j1_q).toInt.toNat = j1_q := by rw [nI_toInt (by omega)]; rfl
  refine go_aload_n (pc := 6) dX7_look_6 rfl ?_
  refine go_iload_n (pc := 7) dX7_look_7 rfl ?_
  refine go_iload_n (pc := 8) dX7_look_8 rfl ?_
  refine go_V2I (pc := 9) v_X7_330 rfl rfl (rcv_of (ci := 7) (by first | exact co0 hC | exact h8_q | exact h9_q | exact sr0 hR_q | exact be0 hQ_q | exact sr0 hT_q | exact be0 hQ9 | exact sr1 hR_q | exact sr2 hR_q | exact sr3 hR_q | exact sr4 hR_q | exact be1 hQ_q | exact be2 hQ_q | exact be3 hQ_q | exact sr3 hT_q | exact sr2 hT_q | exact sr1 hT_q | exact sr4 hT_q | exact co4 hC | exact co2 hC | exact co3 hC | exact co0 hC9 | exact sr0 hR9 | exact co4 hC9 | exact sr3 hR9 | exact sr2 hR9) rfl) dX7_look_9 (cp_collect (k := k - 1) hC hR_q hr_q hQ_q hB_q hg_q hS_q hD hsb hw_q (by omega) _ hj1b) (fun v_9 σ n h_q => ?_)
  obtain ⟨rfl, rfl, hS9, hfX, f8, g8_q, h8_q, h9_q, hJ⟩ := h_q
  have hC9 := hC.fs hfX (fun q x z => by omega)
  have hR9 := hR_q.fs hfX (fun q x y z => by omega)
  have hQ9 := hQ_q.fs hfX (fun q x z => by omega) (fun q x y z => by omega)
  have hl28 := twK_28 (K := K) (s := s) (j := j1_q) hP8
  refine go_istore_n (lw := [_, _, _, _, _, _, _, _]) (pc := 12) dX7_look_12 (by decide) rfl ?_
  refine go_iconst (v := -1) (pc := 13) dX7_look_13 (by decide) ?_
  refine go_istore (lw := [_, _, _, _, _, _, _, _]) (pc := 14) dX7_look_14 (by decide) rfl ?_
  refine go_bipush (v := 29) (pc := 16) dX7_look_16 (by decide) ?_
  refine go_istore (lw := [_, _, _, _, _, _, _, _]) (pc := 18) dX7_look_18 (by decide) rfl ?_
  refine go_iconst (v := 0) (pc := 20) dX7_look_20 (by decide) ?_
  refine go_istore (lw := [_, _, _, _, _, _, _, _]) (pc := 21) dX7_look_21 (by decide) rfl ?_
  have hA9 : aLook K s (nI j1_q).toInt = (0, lokK K j1_q (twK K s j1_q)) := by rw [aLook, if_neg (fun hc_q => hc_q h0_q), e1_q]
  rw [hA9]
  by_cases hz_q : (twK K s j1_q).length = 0
  · refine go_iload_n (pc := 23) dX7_look_23 rfl ?_
    refine go_if_le (tgt := 72) (pc := 24) dX7_look_24 (by decide) (fun h_24 => ?_) (fun h_24 => by exfalso; exact h_24 (by rw [hz_q]; decide))
    refine go_iload (pc := 72) dX7_look_72 rfl ?_
    exact go_iretT (pc := 74) rfl dX7_look_74 (Nat.le_of_ble_eq_true rfl) (Nat.le_of_ble_eq_true rfl) ⟨rfl, by rw [lokK, if_pos hz_q], rfl, hS9, hfX⟩
  · have hkp : 0 < kP K := by have h3_q : (twK K s j1_q).getD 0 0 ∈ twK K s j1_q := (by rw [List.getD_eq_getElem?_getD, List.getElem?_eq_getElem (by omega)]; exact List.getElem_mem _); have := twS_lt (twL_mem h3_q).2.2; omega
    refine go_iter (kP K) (fun i_q lv9 s9 n9 => ∃ (b9_q : Int32), ∃ (x9_q : Int32), ∃ x7_q, lv9 = [some (.ref a), some (.int s), some (.int (nI j1_q)), some (.int (nI (twK K s j1_q).length)), some (.int b9_q), some (.int x9_q), some (.int (nI i_q)), x7_q] ∧ (argn (mosK K j1_q (twK K s j1_q)) (kP K - i_q) i_q b9_q x9_q = lokK K j1_q (twK K s j1_q)) ∧ (σ = s9) ∧ n = n9) ⟨-1, 29, none, rfl, (lok_29 hl28 hz_q hkp).symm, rfl, rfl⟩ ?_ ?_
    · rintro i_q lv9 σ n9 hi_q ⟨b9_q, x9_q, x7_q, rfl, hR9e, rfl, rfl⟩ ih_q
      refine go_iload_n (pc := 23) dX7_look_23 rfl ?_
      refine go_if_le (tgt := 72) (pc := 24) dX7_look_24 (by decide) (fun h_24 => by exfalso; exact absurd h_24 (nI_nle (by omega) (by omega))) (fun h_24 => ?_)
      refine go_iload (pc := 27) dX7_look_27 rfl ?_
      refine go_aload_n (pc := 29) dX7_look_29 rfl ?_
      refine go_getf (pc := 30) f_X7_65 dX7_look_30 (by first | exact co0 hC | exact h8_q | exact h9_q | exact sr0 hR_q | exact be0 hQ_q | exact sr0 hT_q | exact be0 hQ9 | exact sr1 hR_q | exact sr2 hR_q | exact sr3 hR_q | exact sr4 hR_q | exact be1 hQ_q | exact be2 hQ_q | exact be3 hQ_q | exact sr3 hT_q | exact sr2 hT_q | exact sr1 hT_q | exact sr4 hT_q | exact co4 hC | exact co2 hC | exact co3 hC | exact co0 hC9 | exact sr0 hR9 | exact co4 hC9 | exact sr3 hR9 | exact sr2 hR9) (by rfl) ?_
      refine go_getf (pc := 33) f_X7_120 dX7_look_33 (by first | exact co0 hC | exact h8_q | exact h9_q | exact sr0 hR_q | exact be0 hQ_q | exact sr0 hT_q | exact be0 hQ9 | exact sr1 hR_q | exact sr2 hR_q | exact sr3 hR_q | exact sr4 hR_q | exact be1 hQ_q | exact be2 hQ_q | exact be3 hQ_q | exact sr3 hT_q | exact sr2 hT_q | exact sr1 hT_q | exact sr4 hT_q | exact co4 hC | exact co2 hC | exact co3 hC | exact co0 hC9 | exact sr0 hR9 | exact co4 hC9 | exact sr3 hR9 | exact sr2 hR9) (by rfl) ?_
      refine go_getf (pc := 36) f_X7_263 dX7_look_36 (by first | exact co0 hC | exact h8_q | exact h9_q | exact sr0 hR_q | exact be0 hQ_q | exact sr0 hT_q | exact be0 hQ9 | exact sr1 hR_q | exact sr2 hR_q | exact sr3 hR_q | exact sr4 hR_q | exact be1 hQ_q | exact be2 hQ_q | exact be3 hQ_q | exact sr3 hT_q | exact sr2 hT_q | exact sr1 hT_q | exact sr4 hT_q | exact co4 hC | exact co2 hC | exact co3 hC | exact co0 hC9 | exact sr0 hR9 | exact co4 hC9 | exact sr3 hR9 | exact sr2 hR9) (by rfl) ?_
      refine go_icmp_ge (tgt := 72) (pc := 39) dX7_look_39 (by decide) (fun h_39 => by exfalso; rw [hB_q.1.1] at h_39; exact absurd h_39 (nI_ge (by omega) (by omega))) (fun h_39 => ?_)
      refine go_aload_n (pc := 42) dX7_look_42 rfl ?_
      refine go_iload (pc := 43) dX7_look_43 rfl ?_
      refine go_iload_n (pc := 45) dX7_look_45 rfl ?_
      refine go_V2P (pc := 46) v_X7_338 rfl rfl (rcv_of (ci := 7) (by first | exact co0 hC | exact h8_q | exact h9_q | exact sr0 hR_q | exact be0 hQ_q | exact sr0 hT_q | exact be0 hQ9 | exact sr1 hR_q | exact sr2 hR_q | exact sr3 hR_q | exact sr4 hR_q | exact be1 hQ_q | exact be2 hQ_q | exact be3 hQ_q | exact sr3 hT_q | exact sr2 hT_q | exact sr1 hT_q | exact sr4 hT_q | exact co4 hC | exact co2 hC | exact co3 hC | exact co0 hC9 | exact sr0 hR9 | exact co4 hC9 | exact sr3 hR9 | exact sr2 hR9) rfl) dX7_look_46 (cp_mostAlike (k := k - 1) hC9 h9_q hJ hl28 hP8 hi_q (by omega)) ?_
      refine go_istore (lw := [_, _, _, _, _, _, _, _]) (pc := 49) dX7_look_49 (by decide) rfl ?_
      refine go_iload (pc := 51) dX7_look_51 rfl ?_
      refine go_iload (pc := 53) dX7_look_53 rfl ?_
      refine go_icmp_ge (tgt := 66) (pc := 55) dX7_look_55 (by decide) (fun h_55 => ?_) (fun h_55 => ?_)
      · refine go_iinc (v := 1) (lw := [_, _, _, _, _, _, _, _]) (pc := 66) dX7_look_66 rfl (by decide) (by decide) rfl ?_
        refine go_goto (tgt := 23) (pc := 69) dX7_look_69 (by decide) ?_
        rw [nI_1]
        first
          | (have g9_q : ¬ mosK K j1_q (twK K s j1_q) i_q < x9_q := Int32.not_lt.mpr h_55
             refine ih_q _ _ _ ⟨_, _, _, rfl, ?_, rfl, rfl⟩
             rw [← hR9e, argn_step hi_q, if_neg g9_q])
          | (have g9_q : mosK K j1_q (twK K s j1_q) i_q < x9_q := Int32.not_le.mp h_55
             refine ih_q _ _ _ ⟨_, _, _, rfl, ?_, rfl, rfl⟩
             rw [← hR9e, argn_step hi_q, if_pos g9_q])
      · refine go_iload (pc := 58) dX7_look_58 rfl ?_
        refine go_istore (lw := [_, _, _, _, _, _, _, _]) (pc := 60) dX7_look_60 (by decide) rfl ?_
        refine go_iload (pc := 62) dX7_look_62 rfl ?_
        refine go_istore (lw := [_, _, _, _, _, _, _, _]) (pc := 64) dX7_look_64 (by decide) rfl ?_
        refine go_iinc (v := 1) (lw := [_, _, _, _, _, _, _, _]) (pc := 66) dX7_look_66 rfl (by decide) (by decide) rfl ?_
        refine go_goto (tgt := 23) (pc := 69) dX7_look_69 (by decide) ?_
        rw [nI_1]
        first
          | (have g9_q : ¬ mosK K j1_q (twK K s j1_q) i_q < x9_q := Int32.not_lt.mpr h_55
             refine ih_q _ _ _ ⟨_, _, _, rfl, ?_, rfl, rfl⟩
             rw [← hR9e, argn_step hi_q, if_neg g9_q])
          | (have g9_q : mosK K j1_q (twK K s j1_q) i_q < x9_q := Int32.not_le.mp h_55
             refine ih_q _ _ _ ⟨_, _, _, rfl, ?_, rfl, rfl⟩
             rw [← hR9e, argn_step hi_q, if_pos g9_q])
    · rintro lv9 σ n9 ⟨b9_q, x9_q, x7_q, rfl, hR9e, rfl, rfl⟩
      refine go_iload_n (pc := 23) dX7_look_23 rfl ?_
      refine go_if_le (tgt := 72) (pc := 24) dX7_look_24 (by decide) (fun h_24 => by exfalso; exact absurd h_24 (nI_nle (by omega) (by omega))) (fun h_24 => ?_)
      refine go_iload (pc := 27) dX7_look_27 rfl ?_
      refine go_aload_n (pc := 29) dX7_look_29 rfl ?_
      refine go_getf (pc := 30) f_X7_65 dX7_look_30 (by first | exact co0 hC | exact h8_q | exact h9_q | exact sr0 hR_q | exact be0 hQ_q | exact sr0 hT_q | exact be0 hQ9 | exact sr1 hR_q | exact sr2 hR_q | exact sr3 hR_q | exact sr4 hR_q | exact be1 hQ_q | exact be2 hQ_q | exact be3 hQ_q | exact sr3 hT_q | exact sr2 hT_q | exact sr1 hT_q | exact sr4 hT_q | exact co4 hC | exact co2 hC | exact co3 hC | exact co0 hC9 | exact sr0 hR9 | exact co4 hC9 | exact sr3 hR9 | exact sr2 hR9) (by rfl) ?_
      refine go_getf (pc := 33) f_X7_120 dX7_look_33 (by first | exact co0 hC | exact h8_q | exact h9_q | exact sr0 hR_q | exact be0 hQ_q | exact sr0 hT_q | exact be0 hQ9 | exact sr1 hR_q | exact sr2 hR_q | exact sr3 hR_q | exact sr4 hR_q | exact be1 hQ_q | exact be2 hQ_q | exact be3 hQ_q | exact sr3 hT_q | exact sr2 hT_q | exact sr1 hT_q | exact sr4 hT_q | exact co4 hC | exact co2 hC | exact co3 hC | exact co0 hC9 | exact sr0 hR9 | exact co4 hC9 | exact sr3 hR9 | exact sr2 hR9) (by rfl) ?_
      refine go_getf (pc := 36) f_X7_263 dX7_look_36 (by first | exact co0 hC | exact h8_q | exact h9_q | exact sr0 hR_q | exact be0 hQ_q | exact sr0 hT_q | exact be0 hQ9 | exact sr1 hR_q | exact sr2 hR_q | exact sr3 hR_q | exact sr4 hR_q | exact be1 hQ_q | exact be2 hQ_q | exact be3 hQ_q | exact sr3 hT_q | exact sr2 hT_q | exact sr1 hT_q | exact sr4 hT_q | exact co4 hC | exact co2 hC | exact co3 hC | exact co0 hC9 | exact sr0 hR9 | exact co4 hC9 | exact sr3 hR9 | exact sr2 hR9) (by rfl) ?_
      refine go_icmp_ge (tgt := 72) (pc := 39) dX7_look_39 (by decide) (fun h_39 => ?_) (fun h_39 => by exfalso; rw [hB_q.1.1] at h_39; exact h_39 (nI_le (by omega) (by omega)))
      refine go_iload (pc := 72) dX7_look_72 rfl ?_
      exact go_iretT (pc := 74) rfl dX7_look_74 (Nat.le_of_ble_eq_true rfl) (Nat.le_of_ble_eq_true rfl) ⟨rfl, by rw [Nat.sub_self] at hR9e; exact hR9e, rfl, hS9, hfX⟩
