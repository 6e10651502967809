/-! ===== the reference: laws read behind a fault; units and atoms ===== -/
def RefB (Γ : gam) (r_q N w : Nat) (K : row) (Nm : Nat → Int64) (t_q d_q : Nat) (s : ps) : Prop := ∀ (z0 : sto) (n k : Nat) (F : row) (A : Nat → row), MoAt Γ z0 r_q F K A Nm → rfR (A 5) N F s → rsR F (A 2) w d_q s → 8 + rk t_q ≤ k → Sp Γ (rmk k 0 0) (mtR t_q) [.ref r_q] z0 n (qV fun σ' n' => n' = n ∧ RfP Γ z0 r_q N w d_q F K A Nm s σ')
theorem rsR_of {F F2 A2 : row} {w d_q d2 : Nat} {s s2 : ps} (h_q : rsR F A2 w d_q s) (hs : s2.st = s.st) (hb_q : s2.bad = 0 → s.bad = 0) (h17 : F2 17 = F 17) (h18 : F2 18 = F 18) (h16 : F2 16 = nI d2) : rsR F2 A2 w d2 s2 := ⟨h17.trans h_q.1, h18.trans h_q.2.1, h16, fun e_q => by rw [hs]; exact h_q.2.2.2 (hb_q e_q)⟩
theorem needP_st {N : Nat} {c_q : Int32} {s : ps} : (needP N c_q s).st = s.st := by
  unfold needP failP
  split
  · rfl
  · split <;> rfl
theorem needP_b {N : Nat} {c_q : Int32} {s : ps} (h_q : (needP N c_q s).bad = 0) : s.bad = 0 := by
  by_cases hb_q : s.bad = 0
  · exact hb_q
  · rw [needP, if_neg (fun x_q => hb_q x_q.1), failP_bad hb_q] at h_q
    exact h_q
theorem needP_bd {N : Nat} {c_q : Int32} {s : ps} (hb_q : s.bad ≠ 0) : needP N c_q s = s := by rw [needP, if_neg (fun x_q => hb_q x_q.1), failP_bad hb_q]
theorem emitP_bd {c_q : Int32} {s : ps} (hb_q : s.bad ≠ 0) : emitP c_q s = s := by rw [emitP, if_neg hb_q]
theorem numP_st {N : Nat} {lo hi_q : Int32} {s : ps} : (numP N lo hi_q s).2.st = s.st := by
  unfold numP failP
  split
  · split
    · rfl
    · show (if _ then _ else _ : ps).st = _
      split <;> rfl
  · show (if _ then _ else _ : ps).st = _
    split <;> rfl
theorem numP_ok {N : Nat} {lo hi_q : Int32} {s : ps} (h_q : (numP N lo hi_q s).2.bad = 0) : s.bad = 0 ∧ kd s.l = 2 ∧ lo ≤ tvl s.l ∧ tvl s.l ≤ hi_q ∧ numP N lo hi_q s = (tvl s.l, nextP s) := by
  by_cases c_q : s.bad = 0 ∧ kd s.l = 2
  · by_cases c2 : lo ≤ tvl s.l ∧ tvl s.l ≤ hi_q
    · exact ⟨c_q.1, c_q.2, c2.1, c2.2, by rw [numP, if_pos c_q, if_pos c2]⟩
    · rw [numP, if_pos c_q, if_neg c2] at h_q
      exact absurd h_q (failP_ne (by decide) c_q.1)
  · rw [numP, if_neg c_q] at h_q
    by_cases hb_q : s.bad = 0
    · exact absurd h_q (failP_ne (by decide) hb_q)
    · rw [show (lo, failP N 2 s).2 = failP N 2 s from rfl, failP_bad hb_q] at h_q
      exact absurd h_q hb_q
theorem nmP_r {w : Nat} {k c_q : Int32} (h_q : nmP w k = some c_q) : (c_q = 0 ∨ c_q = 1 ∨ c_q = 2 ∨ c_q = 3 ∨ c_q = 4) ∧ k ≠ 0 ∧ k ≠ 40 := by
  unfold nmP at h_q
  repeat' (split at h_q)
  all_goals first | (cases h_q; done) | (rename_i e_q; subst e_q; cases h_q; decide) | (rename_i e_q _ ; subst e_q; cases h_q; decide)
theorem nmP_m1 {w : Nat} {k c_q : Int32} (h_q : nmP w k = some c_q) : c_q ≠ -1 := by
  rcases (nmP_r h_q).1 with e_q | e_q | e_q | e_q | e_q <;> rw [e_q] <;> decide
theorem refb_9 {Γ : gam} {r_q N w d_q : Nat} {K : row} {Nm : Nat → Int64} {s : ps} (hw_q : 4 ≤ w ∧ w ≤ 6) (hN_q : N ≤ 900) (hb_q : s.bad ≠ 0) : RefB Γ r_q N w K Nm 9 d_q s := by
  intro z0 n k F A hM_q hS_q hW hk
  have r7 : rk 9 = 1 := rfl
  have hb0 : ∀ c_q : Int32, bI (s.bad = 0 ∧ kd s.l = c_q) = 0 := fun c_q => bI_f (fun x_q => hb_q x_q.1)
  show Sp Γ (rmk k 0 0) uX8_readAtom [.ref r_q] z0 n (qV fun σ' n' => n' = n ∧ RfP Γ z0 r_q N w d_q F K A Nm (s) σ')
  refine sp_intro [some (.ref r_q), none, none] (by decide +kernel) rfl (Nat.le_of_ble_eq_true rfl) rfl ?_
  refine go_aload_n (pc := 0) dX8_readAtom_0 rfl ?_
  refine go_getf (pc := 1) f_X8_99 dX8_readAtom_1 (by first | exact mo0 hM_q | exact mo2 hM_q) (by rfl) ?_
  rw [hS_q.2.1]
  refine go_if_eq (tgt := 8) (pc := 4) dX8_readAtom_4 (by decide) (fun h_4 => by exfalso; exact hb_q h_4) (fun h_4 => ?_)
  exact go_vretV (pc := 7) rfl dX8_readAtom_7 (Nat.le_of_ble_eq_true rfl) (Nat.le_of_ble_eq_true rfl) ⟨rfl, RfP.rf hM_q hS_q hW⟩
theorem refb_4 {Γ : gam} {r_q N w d_q : Nat} {K : row} {Nm : Nat → Int64} {s : ps} (hw_q : 4 ≤ w ∧ w ≤ 6) (hN_q : N ≤ 900) (hb_q : s.bad ≠ 0) : RefB Γ r_q N w K Nm 4 d_q s := by
  intro z0 n k F A hM_q hS_q hW hk
  have r7 : rk 4 = 4 := rfl
  have hb0 : ∀ c_q : Int32, bI (s.bad = 0 ∧ kd s.l = c_q) = 0 := fun c_q => bI_f (fun x_q => hb_q x_q.1)
  show Sp Γ (rmk k 0 0) uX8_readUnit [.ref r_q] z0 n (qV fun σ' n' => n' = n ∧ RfP Γ z0 r_q N w d_q F K A Nm (s) σ')
  refine sp_intro [some (.ref r_q), none] (by decide +kernel) rfl (Nat.le_of_ble_eq_true rfl) rfl ?_
  refine go_aload_n (pc := 0) dX8_readUnit_0 rfl ?_
  refine go_getf (pc := 1) f_X8_99 dX8_readUnit_1 (by first | exact mo0 hM_q | exact mo2 hM_q) (by rfl) ?_
  rw [hS_q.2.1]
  refine go_if_eq (tgt := 8) (pc := 4) dX8_readUnit_4 (by decide) (fun h_4 => by exfalso; exact hb_q h_4) (fun h_4 => ?_)
  exact go_vretV (pc := 7) rfl dX8_readUnit_7 (Nat.le_of_ble_eq_true rfl) (Nat.le_of_ble_eq_true rfl) ⟨rfl, RfP.rf hM_q hS_q hW⟩
theorem refb_7 {Γ : gam} {r_q N w d_q : Nat} {K : row} {Nm : Nat → Int64} {s : ps} (hw_q : 4 ≤ w ∧ w ≤ 6) (hN_q : N ≤ 900) (hb_q : s.bad ≠ 0) : RefB Γ r_q N w K Nm 7 d_q s := by
  intro z0 n k F A hM_q hS_q hW hk
  have r7 : rk 7 = 2 := rfl
  have hb0 : ∀ c_q : Int32, bI (s.bad = 0 ∧ kd s.l = c_q) = 0 := fun c_q => bI_f (fun x_q => hb_q x_q.1)
  show Sp Γ (rmk k 0 0) uX8_readTerm [.ref r_q] z0 n (qV fun σ' n' => n' = n ∧ RfP Γ z0 r_q N w d_q F K A Nm (s) σ')
  refine sp_intro [some (.ref r_q)] (by decide +kernel) rfl (Nat.le_of_ble_eq_true rfl) rfl ?_
  refine go_aload_n (pc := 0) dX8_readTerm_0 rfl ?_
  refine go_V0V (pc := 1) v_X8_174 rfl rfl (rcv_of (ci := 8) (by first | exact mo0 hM_q | exact mo2 hM_q) rfl) dX8_readTerm_1 (refb_9 hw_q hN_q hb_q z0 n (k - 1) F A hM_q hS_q hW (by rw [r7] at hk; show 9 ≤ k - 1; omega)) (fun σ n h_q => ?_)
  obtain ⟨rfl, hR_q⟩ := h_q
  obtain ⟨F9, A9_q, hM_q, hS_q, hW, hF9, hA9, hB9_q, hf9⟩ := hR_q
  rw [← hA9 5 (by decide)] at hS_q
  refine go_aload_n (pc := 4) dX8_readTerm_4 rfl ?_
  refine go_bipush (v := 42) (pc := 5) dX8_readTerm_5 (by decide) ?_
  refine go_V1P (pc := 7) v_X8_162 rfl rfl (rcv_of (ci := 8) (by first | exact mo0 hM_q | exact mo2 hM_q) rfl) dX8_readTerm_7 (sp_isSign (k := k - 1) hM_q hS_q (c_q := 42) (by decide)) ?_
  refine go_if_eq (tgt := 30) (pc := 10) dX8_readTerm_10 (by decide) (fun h_10 => ?_) (fun h_10 => by exfalso; exact h_10 (hb0 _))
  exact go_vretV (pc := 30) rfl dX8_readTerm_30 (Nat.le_of_ble_eq_true rfl) (Nat.le_of_ble_eq_true rfl) ⟨rfl, F9, A9_q, hM_q, (by rw [hA9 5 (by decide)] at hS_q; exact hS_q), hW, hF9, hA9, hB9_q, hf9⟩
theorem refb_5 {Γ : gam} {r_q N w d_q : Nat} {K : row} {Nm : Nat → Int64} {s : ps} (hw_q : 4 ≤ w ∧ w ≤ 6) (hN_q : N ≤ 900) (hb_q : s.bad ≠ 0) : RefB Γ r_q N w K Nm 5 d_q s := by
  intro z0 n k F A hM_q hS_q hW hk
  have r7 : rk 5 = 3 := rfl
  have hb0 : ∀ c_q : Int32, bI (s.bad = 0 ∧ kd s.l = c_q) = 0 := fun c_q => bI_f (fun x_q => hb_q x_q.1)
  show Sp Γ (rmk k 0 0) uX8_readSum [.ref r_q] z0 n (qV fun σ' n' => n' = n ∧ RfP Γ z0 r_q N w d_q F K A Nm (s) σ')
  refine sp_intro [some (.ref r_q), none] (by decide +kernel) rfl (Nat.le_of_ble_eq_true rfl) rfl ?_
  refine go_aload_n (pc := 0) dX8_readSum_0 rfl ?_
  refine go_V0V (pc := 1) v_X8_171 rfl rfl (rcv_of (ci := 8) (by first | exact mo0 hM_q | exact mo2 hM_q) rfl) dX8_readSum_1 (refb_7 hw_q hN_q hb_q z0 n (k - 1) F A hM_q hS_q hW (by rw [r7] at hk; show 10 ≤ k - 1; omega)) (fun σ n h_q => ?_)
  obtain ⟨rfl, hR_q⟩ := h_q
  obtain ⟨F9, A9_q, hM_q, hS_q, hW, hF9, hA9, hB9_q, hf9⟩ := hR_q
  rw [← hA9 5 (by decide)] at hS_q
  refine go_aload_n (pc := 4) dX8_readSum_4 rfl ?_
  refine go_bipush (v := 43) (pc := 5) dX8_readSum_5 (by decide) ?_
  refine go_V1P (pc := 7) v_X8_162 rfl rfl (rcv_of (ci := 8) (by first | exact mo0 hM_q | exact mo2 hM_q) rfl) dX8_readSum_7 (sp_isSign (k := k - 1) hM_q hS_q (c_q := 43) (by decide)) ?_
  refine go_if_ne (tgt := 22) (pc := 10) dX8_readSum_10 (by decide) (fun h_10 => by exfalso; exact h_10 (hb0 _)) (fun h_10 => ?_)
  refine go_aload_n (pc := 13) dX8_readSum_13 rfl ?_
  refine go_bipush (v := 45) (pc := 14) dX8_readSum_14 (by decide) ?_
  refine go_V1P (pc := 16) v_X8_162 rfl rfl (rcv_of (ci := 8) (by first | exact mo0 hM_q | exact mo2 hM_q) rfl) dX8_readSum_16 (sp_isSign (k := k - 1) hM_q hS_q (c_q := 45) (by decide)) ?_
  refine go_if_eq (tgt := 55) (pc := 19) dX8_readSum_19 (by decide) (fun h_19 => ?_) (fun h_19 => by exfalso; exact h_19 (hb0 _))
  exact go_vretV (pc := 55) rfl dX8_readSum_55 (Nat.le_of_ble_eq_true rfl) (Nat.le_of_ble_eq_true rfl) ⟨rfl, F9, A9_q, hM_q, (by rw [hA9 5 (by decide)] at hS_q; exact hS_q), hW, hF9, hA9, hB9_q, hf9⟩
theorem refb_2 {Γ : gam} {r_q N w d_q : Nat} {K : row} {Nm : Nat → Int64} {s : ps} (hw_q : 4 ≤ w ∧ w ≤ 6) (hN_q : N ≤ 900) (hb_q : s.bad ≠ 0) : RefB Γ r_q N w K Nm 2 d_q s := by
  intro z0 n k F A hM_q hS_q hW hk
  have r7 : rk 2 = 5 := rfl
  have hb0 : ∀ c_q : Int32, bI (s.bad = 0 ∧ kd s.l = c_q) = 0 := fun c_q => bI_f (fun x_q => hb_q x_q.1)
  show Sp Γ (rmk k 0 0) uX8_readBoth [.ref r_q] z0 n (qV fun σ' n' => n' = n ∧ RfP Γ z0 r_q N w d_q F K A Nm (s) σ')
  refine sp_intro [some (.ref r_q)] (by decide +kernel) rfl (Nat.le_of_ble_eq_true rfl) rfl ?_
  refine go_aload_n (pc := 0) dX8_readBoth_0 rfl ?_
  refine go_V0V (pc := 1) v_X8_152 rfl rfl (rcv_of (ci := 8) (by first | exact mo0 hM_q | exact mo2 hM_q) rfl) dX8_readBoth_1 (refb_4 hw_q hN_q hb_q z0 n (k - 1) F A hM_q hS_q hW (by rw [r7] at hk; show 12 ≤ k - 1; omega)) (fun σ n h_q => ?_)
  obtain ⟨rfl, hR_q⟩ := h_q
  obtain ⟨F9, A9_q, hM_q, hS_q, hW, hF9, hA9, hB9_q, hf9⟩ := hR_q
  rw [← hA9 5 (by decide)] at hS_q
  refine go_aload_n (pc := 4) dX8_readBoth_4 rfl ?_
  refine go_ldcS (si := 45) (pc := 5) rfl dX8_readBoth_5 ?_
  refine go_V1I (pc := 7) v_X8_129 rfl rfl (rcv_of (ci := 8) (by first | exact mo0 hM_q | exact mo2 hM_q) rfl) dX8_readBoth_7 (sp_took (k := k - 1) hM_q hS_q (si := 45) (q := ("FrontChairsModel", 155, "and")) (cw := 16) rfl (by decide) wk_16 (by decide) (by decide) hN_q (by omega)) (fun v_7 σ n h_q => ?_)
  obtain ⟨rfl, rfl, F2, hM_q, hS_q, hF2, hf2⟩ := h_q
  rw [if_neg (fun x_q => hb_q x_q.1)] at hS_q
  refine go_if_eq (tgt := 26) (pc := 10) dX8_readBoth_10 (by decide) (fun h_10 => ?_) (fun h_10 => by exfalso; exact h_10 (hb0 _))
  exact go_vretV (pc := 26) rfl dX8_readBoth_26 (Nat.le_of_ble_eq_true rfl) (Nat.le_of_ble_eq_true rfl) ⟨rfl, F2, A9_q, hM_q, (by rw [hA9 5 (by decide)] at hS_q; exact hS_q), rsR_of hW rfl id (hF2 17 (by omega)) (hF2 18 (by omega)) ((hF2 16 (by omega)).trans hW.2.2.1), fun j h1_q h2_q => (hF2 j h1_q).trans (hF9 j h1_q h2_q), hA9, hB9_q, hf9.tr hf2⟩
theorem refb_0 {Γ : gam} {r_q N w d_q : Nat} {K : row} {Nm : Nat → Int64} {s : ps} (hw_q : 4 ≤ w ∧ w ≤ 6) (hN_q : N ≤ 900) (hb_q : s.bad ≠ 0) : RefB Γ r_q N w K Nm 0 d_q s := by
  intro z0 n k F A hM_q hS_q hW hk
  have r7 : rk 0 = 6 := rfl
  have hb0 : ∀ c_q : Int32, bI (s.bad = 0 ∧ kd s.l = c_q) = 0 := fun c_q => bI_f (fun x_q => hb_q x_q.1)
  show Sp Γ (rmk k 0 0) uX8_readTruth [.ref r_q] z0 n (qV fun σ' n' => n' = n ∧ RfP Γ z0 r_q N w d_q F K A Nm (s) σ')
  refine sp_intro [some (.ref r_q)] (by decide +kernel) rfl (Nat.le_of_ble_eq_true rfl) rfl ?_
  refine go_aload_n (pc := 0) dX8_readTruth_0 rfl ?_
  refine go_V0V (pc := 1) v_X8_144 rfl rfl (rcv_of (ci := 8) (by first | exact mo0 hM_q | exact mo2 hM_q) rfl) dX8_readTruth_1 (refb_2 hw_q hN_q hb_q z0 n (k - 1) F A hM_q hS_q hW (by rw [r7] at hk; show 13 ≤ k - 1; omega)) (fun σ n h_q => ?_)
  obtain ⟨rfl, hR_q⟩ := h_q
  obtain ⟨F9, A9_q, hM_q, hS_q, hW, hF9, hA9, hB9_q, hf9⟩ := hR_q
  rw [← hA9 5 (by decide)] at hS_q
  refine go_aload_n (pc := 4) dX8_readTruth_4 rfl ?_
  refine go_ldcS (si := 46) (pc := 5) rfl dX8_readTruth_5 ?_
  refine go_V1I (pc := 7) v_X8_129 rfl rfl (rcv_of (ci := 8) (by first | exact mo0 hM_q | exact mo2 hM_q) rfl) dX8_readTruth_7 (sp_took (k := k - 1) hM_q hS_q (si := 46) (q := ("FrontChairsModel", 147, "or")) (cw := 17) rfl (by decide) wk_17 (by decide) (by decide) hN_q (by omega)) (fun v_7 σ n h_q => ?_)
  obtain ⟨rfl, rfl, F2, hM_q, hS_q, hF2, hf2⟩ := h_q
  rw [if_neg (fun x_q => hb_q x_q.1)] at hS_q
  refine go_if_eq (tgt := 26) (pc := 10) dX8_readTruth_10 (by decide) (fun h_10 => ?_) (fun h_10 => by exfalso; exact h_10 (hb0 _))
  exact go_vretV (pc := 26) rfl dX8_readTruth_26 (Nat.le_of_ble_eq_true rfl) (Nat.le_of_ble_eq_true rfl) ⟨rfl, F2, A9_q, hM_q, (by rw [hA9 5 (by decide)] at hS_q; exact hS_q), rsR_of hW rfl id (hF2 17 (by omega)) (hF2 18 (by omega)) ((hF2 16 (by omega)).trans hW.2.2.1), fun j h1_q h2_q => (hF2 j h1_q).trans (hF9 j h1_q h2_q), hA9, hB9_q, hf9.tr hf2⟩
theorem ref_in {Γ : gam} {r_q N w d_q t_q : Nat} {K : row} {Nm : Nat → Int64} {s : ps} (h1_q : d_q ≠ 6 → RefOK Γ r_q N w K Nm t_q (d_q + 1) (nextP s)) (h2_q : RefB Γ r_q N w K Nm t_q (d_q + 1) (failP N 4 s)) (hd_q : d_q ≤ 6) (ht_q : tot s ≤ 900) (z0 : sto) (n k : Nat) (F : row) (A : Nat → row) (hM_q : MoAt Γ z0 r_q F K A Nm) (hS_q : rfR (A 5) N F (if d_q = 6 then failP N 4 s else nextP s)) (hW : rsR F (A 2) w (d_q + 1) (if d_q = 6 then failP N 4 s else nextP s)) (hk : 12 * (6 - d_q) + rk t_q + 12 ≤ k) : Sp Γ (rmk k 0 0) (mtR t_q) [.ref r_q] z0 n (qV fun σ' n' => n' = n ∧ RfP Γ z0 r_q N w (d_q + 1) F K A Nm (if d_q = 6 then failP N 4 s else pP N w t_q (d_q + 1) (nextP s)) σ') := by
  by_cases c_q : d_q = 6
  · rw [if_pos c_q] at hS_q hW ⊢
    exact h2_q z0 n k F A hM_q hS_q hW (by omega)
  · rw [if_neg c_q] at hS_q hW ⊢
    have := tot_nx (s := s)
    exact h1_q c_q z0 n k F A hM_q hS_q hW (by omega) (by omega)
theorem in_bad {N w d_q t_q : Nat} {s : ps} (hb_q : s.bad = 0) (h_q : (if d_q = 6 then failP N 4 s else pP N w t_q (d_q + 1) (nextP s)).bad = 0) : d_q ≠ 6 := fun e_q => by
  rw [if_pos e_q] at h_q
  exact failP_ne (by decide) hb_q h_q
theorem sp_laysS {Γ : gam} {z0 : sto} {n k r_q N w d_q : Nat} {F K : row} {A : Nat → row} {Nm : Nat → Int64} {s : ps} (hM_q : MoAt Γ z0 r_q F K A Nm) (hS_q : rfR (A 5) N F s) (hW : rsR F (A 2) w d_q s) (hw_q : 4 ≤ w ∧ w ≤ 6) (hl : s.bad = 0 → s.st.length < 900) {c_q : Int32} : Sp Γ (rmk k 0 0) uX8_laysStep [.ref r_q, .int c_q] z0 n (qV fun σ' n' => n' = n ∧ RfP Γ z0 r_q N w d_q F K A Nm (emitP c_q s) σ') := by
  by_cases hb_q : s.bad = 0
  · exact sp_laysStep hM_q hS_q hW hw_q (hl hb_q)
  · refine sp_intro [some (.ref r_q), some (.int c_q)] (by decide +kernel) rfl (Nat.le_of_ble_eq_true rfl) rfl ?_
    refine go_aload_n (pc := 0) dX8_laysStep_0 rfl ?_
    refine go_getf (pc := 1) f_X8_99 dX8_laysStep_1 (by first | exact mo0 hM_q | exact mo2 hM_q) (by rfl) ?_
    rw [hS_q.2.1]
    refine go_if_eq (tgt := 8) (pc := 4) dX8_laysStep_4 (by decide) (fun h_4 => by exfalso; exact hb_q h_4) (fun h_4 => ?_)
    exact go_vretV (pc := 7) rfl dX8_laysStep_7 (Nat.le_of_ble_eq_true rfl) (Nat.le_of_ble_eq_true rfl) (by rw [emitP, if_neg hb_q]; exact ⟨rfl, RfP.rf hM_q hS_q hW⟩)
theorem ref_9 {Γ : gam} {r_q N w d_q : Nat} {K : row} {Nm : Nat → Int64} {s : ps} (hw_q : 4 ≤ w ∧ w ≤ 6) (hN_q : N ≤ 900) (hd_q : d_q ≤ 6) (h5_q : d_q ≠ 6 → (nextP s).l.length < s.l.length → RefOK Γ r_q N w K Nm 5 (d_q + 1) (nextP s)) : RefOK Γ r_q N w K Nm 9 d_q s := by
  intro z0 n k F A hM_q hS_q hW ht_q hk
  have r7 : rk 9 = 1 := rfl
  have r5 : rk 5 = 3 := rfl
  by_cases hb_q : s.bad = 0
  · show Sp Γ (rmk k 0 0) uX8_readAtom [.ref r_q] z0 n (qV fun σ' n' => n' = n ∧ RfP Γ z0 r_q N w d_q F K A Nm (pP N w 9 d_q s) σ')
    refine sp_intro [some (.ref r_q), none, none] (by decide +kernel) rfl (Nat.le_of_ble_eq_true rfl) rfl ?_
    refine go_aload_n (pc := 0) dX8_readAtom_0 rfl ?_
    refine go_getf (pc := 1) f_X8_99 dX8_readAtom_1 (by first | exact mo0 hM_q | exact mo2 hM_q) (by rfl) ?_
    rw [hS_q.2.1]
    refine go_if_eq (tgt := 8) (pc := 4) dX8_readAtom_4 (by decide) (fun h_4 => ?_) (fun h_4 => by exfalso; exact h_4 hb_q)
    refine go_aload_n (pc := 8) dX8_readAtom_8 rfl ?_
    refine go_V0I (pc := 9) v_X8_187 rfl rfl (rcv_of (ci := 8) (by first | exact mo0 hM_q | exact mo2 hM_q) rfl) dX8_readAtom_9 (sp_lawWord (k := k - 1) hM_q hS_q hW.1 hw_q hN_q hb_q (by omega)) (fun v_9 σ n h_q => ?_)
    obtain ⟨rfl, F1, hM_q, hV, hF1, hf_q⟩ := h_q
    refine go_istore_n (lw := [_, _, _]) (pc := 12) dX8_readAtom_12 (by decide) rfl ?_
    refine go_iload_n (pc := 13) dX8_readAtom_13 rfl ?_
    refine go_iconst (v := -1) (pc := 14) dX8_readAtom_14 (by decide) ?_
    refine go_icmp_eq (tgt := 29) (pc := 15) dX8_readAtom_15 (by decide) (fun h_15 => ?_) (fun h_15 => ?_)
    · obtain ⟨hn, e1_q, hS_q⟩ := hV.resolve_left (fun x_q => x_q.elim fun c9_q x_q => nmP_m1 x_q.1 (x_q.2.1.symm.trans h_15))
      have hW : rsR F1 (A 2) w d_q s := rsR_of hW rfl id (hF1 17 (by omega)) (hF1 18 (by omega)) ((hF1 16 (by omega)).trans hW.2.2.1)
      refine go_aload_n (pc := 29) dX8_readAtom_29 rfl ?_
      refine go_bipush (v := 40) (pc := 30) dX8_readAtom_30 (by decide) ?_
      refine go_V1P (pc := 32) v_X8_162 rfl rfl (rcv_of (ci := 8) (by first | exact mo0 hM_q | exact mo2 hM_q) rfl) dX8_readAtom_32 (sp_isSign (k := k - 1) hM_q hS_q (c_q := 40) (by decide)) ?_
      refine go_if_eq (tgt := 65) (pc := 35) dX8_readAtom_35 (by decide) (fun h_35 => ?_) (fun h_35 => ?_)
      · have n35 : kd s.l ≠ 40 := fun e_q => bI_0.mp h_35 ⟨hb_q, e_q⟩
        have hE := pP_9v (N := N) (d := d_q) hb_q hn n35
        refine go_aload_n (pc := 65) dX8_readAtom_65 rfl ?_
        refine go_iconst (v := 0) (pc := 66) dX8_readAtom_66 (by decide) ?_
        refine go_sipush (v := 999) (pc := 67) dX8_readAtom_67 (by decide) ?_
        refine go_V2I (pc := 70) v_X8_190 rfl rfl (rcv_of (ci := 8) (by first | exact mo0 hM_q | exact mo2 hM_q) rfl) dX8_readAtom_70 (sp_number (k := k - 1) hM_q hS_q hN_q 0 999 (by omega)) (fun v_70 σ n h_q => ?_)
        obtain ⟨rfl, rfl, F4, hM_q, hS_q, hF4, hf4⟩ := h_q
        have hf_q := hf_q.tr hf4
        have hW : rsR F4 (A 2) w d_q (numP N 0 999 s).2 := rsR_of hW numP_st (fun e_q => (numP_ok e_q).1) (hF4 17 (by omega)) (hF4 18 (by omega)) ((hF4 16 (by omega)).trans hW.2.2.1)
        refine go_istore_n (lw := [_, _, _]) (pc := 73) dX8_readAtom_73 (by decide) rfl ?_
        refine go_aload_n (pc := 74) dX8_readAtom_74 rfl ?_
        refine go_sipush (v := 1000) (pc := 75) dX8_readAtom_75 (by decide) ?_
        refine go_iload_n (pc := 78) dX8_readAtom_78 rfl ?_
        refine go_iadd (pc := 79) dX8_readAtom_79 ?_
        refine go_V1V (pc := 80) v_X8_149 rfl rfl (rcv_of (ci := 8) (by first | exact mo0 hM_q | exact mo2 hM_q) rfl) dX8_readAtom_80 (sp_laysS (k := k - 1) hM_q hS_q hW hw_q (fun e_q => by
    have n1 := tot_nk (s := s) (by rw [(numP_ok e_q).2.1]; decide)
    have n2 := st_tot (Nat.le_refl (tot (nextP s)))
    rw [(numP_ok e_q).2.2.2.2]
    show (nextP s).st.length < 900
    omega)) (fun σ n h_q => ?_)
        obtain ⟨rfl, hR_q⟩ := h_q
        have hR_q := RfP.tr (F := F) (A := A) (z0 := z0) (fun j h1_q h2_q => (hF4 j h1_q).trans (hF1 j h1_q)) (fun _ _ => rfl) (fun _ _ _ => rfl) hf_q hR_q
        exact go_vretV (pc := 83) rfl dX8_readAtom_83 (Nat.le_of_ble_eq_true rfl) (Nat.le_of_ble_eq_true rfl) (by rw [hE]; exact ⟨rfl, hR_q⟩)
      · have g35 : s.bad = 0 ∧ kd s.l = 40 := Decidable.not_not.mp (fun hc_q => h_35 (bI_0.mpr hc_q))
        have n1 := nx_lt g35.2 (by decide)
        have hE := pP_9p (N := N) (d := d_q) hb_q hn g35.2
        have hE : pP N w 9 d_q s = needP N 41 (if d_q = 6 then failP N 4 s else pP N w 5 (d_q + 1) (nextP s)) := by
          rw [hE]
          by_cases c_q : d_q = 6
          · rw [if_pos c_q, if_pos c_q, needP_bd (failP_ne (by decide) hb_q)]
          · rw [if_neg c_q, if_neg c_q]
        refine go_aload_n (pc := 38) dX8_readAtom_38 rfl ?_
        refine go_V0V (pc := 39) v_X8_159 rfl rfl (rcv_of (ci := 8) (by first | exact mo0 hM_q | exact mo2 hM_q) rfl) dX8_readAtom_39 (sp_goesIn (k := k - 1) hM_q hS_q hW hw_q hN_q hb_q (kd_ne g35.2 (by decide)) hd_q (by omega)) (fun σ n h_q => ?_)
        obtain ⟨rfl, hR_q⟩ := h_q
        have hR_q := RfP.tr (F := F) (A := A) (z0 := z0) (fun j h1_q h2_q => hF1 j h1_q) (fun _ _ => rfl) (fun _ _ _ => rfl) hf_q hR_q
        obtain ⟨F2, A2, hM_q, hS_q, hW, hF2, hA2, hB2, hf2⟩ := hR_q
        rw [← hA2 5 (by decide)] at hS_q
        refine go_aload_n (pc := 42) dX8_readAtom_42 rfl ?_
        refine go_V0V (pc := 43) v_X8_168 rfl rfl (rcv_of (ci := 8) (by first | exact mo0 hM_q | exact mo2 hM_q) rfl) dX8_readAtom_43 (ref_in (t_q := 5) (fun e_q => h5_q e_q (by omega)) (refb_5 hw_q hN_q (failP_ne (by decide) hb_q)) hd_q ht_q _ _ (k - 1) F2 A2 hM_q hS_q hW (by omega)) (fun σ n h_q => ?_)
        obtain ⟨rfl, hR_q⟩ := h_q
        have hR_q := RfP.tr (F := F) (A := A) (z0 := z0) hF2 hA2 hB2 hf2 hR_q
        obtain ⟨F3, A3, hM_q, hS_q, hW, hF3, hA3, hB3, hf3⟩ := hR_q
        rw [← hA3 5 (by decide)] at hS_q
        refine go_aload_n (pc := 46) dX8_readAtom_46 rfl ?_
        refine go_bipush (v := 41) (pc := 47) dX8_readAtom_47 (by decide) ?_
        refine go_V1V (pc := 49) v_X8_138 rfl rfl (rcv_of (ci := 8) (by first | exact mo0 hM_q | exact mo2 hM_q) rfl) dX8_readAtom_49 (sp_mustSign (k := k - 1) hM_q hS_q hN_q (c_q := 41) (by decide) (by omega)) (fun σ n h_q => ?_)
        obtain ⟨rfl, F4, hM_q, hS_q, hF4, hf4⟩ := h_q
        have hf_q := hf3.tr hf4
        refine go_aload_n (pc := 52) dX8_readAtom_52 rfl ?_
        refine go_dup (pc := 53) dX8_readAtom_53 rfl ?_
        refine go_getf (pc := 54) f_X8_141 dX8_readAtom_54 (by first | exact mo0 hM_q | exact mo2 hM_q) (by rfl) ?_
        refine go_iconst (v := 1) (pc := 57) dX8_readAtom_57 (by decide) ?_
        refine go_isub (pc := 58) dX8_readAtom_58 ?_
        rw [hF4 16 (by omega), hW.2.2.1, nI_pred]
        refine go_mpf16 (pc := 59) hM_q dX8_readAtom_59 (fun σ hM_q hf9 => ?_)
        have hf_q := hf_q.tr hf9
        have hR_q : RfP Γ z0 r_q N w d_q F K A Nm (needP N 41 (if d_q = 6 then failP N 4 s else pP N w 5 (d_q + 1) (nextP s))) σ := ⟨_, A3, hM_q, (by rw [hA3 5 (by decide)] at hS_q; exact rfR_cg hS_q (fun j h1_q h2_q => pk_un (by omega))), rsR_of hW needP_st needP_b ((pk_un (by decide)).trans (hF4 17 (by omega))) ((pk_un (by decide)).trans (hF4 18 (by omega))) pk_us, fun j h1_q h2_q => (pk_un h2_q).trans ((hF4 j h1_q).trans (hF3 j h1_q h2_q)), hA3, hB3, hf_q⟩
        refine go_goto (tgt := 83) (pc := 62) dX8_readAtom_62 (by decide) ?_
        exact go_vretV (pc := 83) rfl dX8_readAtom_83 (Nat.le_of_ble_eq_true rfl) (Nat.le_of_ble_eq_true rfl) (by rw [hE]; exact ⟨rfl, hR_q⟩)
    · obtain ⟨c9_q, hc_q, e1_q, hS_q⟩ := hV.resolve_right (fun x_q => h_15 x_q.2.1)
      subst e1_q
      have n1 := tot_nk (nmP_r hc_q).2.1
      have n2 := st_tot (Nat.le_refl (tot (nextP s)))
      have hW : rsR F1 (A 2) w d_q (nextP s) := rsR_of hW rfl id (hF1 17 (by omega)) (hF1 18 (by omega)) ((hF1 16 (by omega)).trans hW.2.2.1)
      have hE := pP_9n (N := N) (d := d_q) hb_q hc_q
      refine go_aload_n (pc := 18) dX8_readAtom_18 rfl ?_
      refine go_bipush (v := 100) (pc := 19) dX8_readAtom_19 (by decide) ?_
      refine go_iload_n (pc := 21) dX8_readAtom_21 rfl ?_
      refine go_iadd (pc := 22) dX8_readAtom_22 ?_
      refine go_V1V (pc := 23) v_X8_149 rfl rfl (rcv_of (ci := 8) (by first | exact mo0 hM_q | exact mo2 hM_q) rfl) dX8_readAtom_23 (sp_laysStep (k := k - 1) hM_q hS_q hW hw_q (by omega)) (fun σ n h_q => ?_)
      obtain ⟨rfl, hR_q⟩ := h_q
      have hR_q := RfP.tr (F := F) (A := A) (z0 := z0) (fun j h1_q h2_q => hF1 j h1_q) (fun _ _ => rfl) (fun _ _ _ => rfl) hf_q hR_q
      refine go_goto (tgt := 83) (pc := 26) dX8_readAtom_26 (by decide) ?_
      exact go_vretV (pc := 83) rfl dX8_readAtom_83 (Nat.le_of_ble_eq_true rfl) (Nat.le_of_ble_eq_true rfl) (by rw [hE]; exact ⟨rfl, hR_q⟩)
  · rw [pP_9b hb_q]
    exact refb_9 hw_q hN_q hb_q z0 n k F A hM_q hS_q hW (by omega)
theorem ref_4 {Γ : gam} {r_q N w d_q : Nat} {K : row} {Nm : Nat → Int64} {s : ps} (hw_q : 4 ≤ w ∧ w ≤ 6) (hN_q : N ≤ 900) (hd_q : d_q ≤ 6) (h5_q : ∀ s' : ps, s'.l.length ≤ s.l.length → RefOK Γ r_q N w K Nm 5 d_q s') (h4_q : d_q ≠ 6 → (nextP s).l.length < s.l.length → RefOK Γ r_q N w K Nm 4 (d_q + 1) (nextP s)) (h0_q : d_q ≠ 6 → (nextP s).l.length < s.l.length → RefOK Γ r_q N w K Nm 0 (d_q + 1) (nextP s)) : RefOK Γ r_q N w K Nm 4 d_q s := by
  intro z0 n k F A hM_q hS_q hW ht_q hk
  have r7 : rk 4 = 4 := rfl
  have r5 : rk 5 = 3 := rfl
  have r0 : rk 0 = 6 := rfl
  by_cases hb_q : s.bad = 0
  · show Sp Γ (rmk k 0 0) uX8_readUnit [.ref r_q] z0 n (qV fun σ' n' => n' = n ∧ RfP Γ z0 r_q N w d_q F K A Nm (pP N w 4 d_q s) σ')
    refine sp_intro [some (.ref r_q), none] (by decide +kernel) rfl (Nat.le_of_ble_eq_true rfl) rfl ?_
    refine go_aload_n (pc := 0) dX8_readUnit_0 rfl ?_
    refine go_getf (pc := 1) f_X8_99 dX8_readUnit_1 (by first | exact mo0 hM_q | exact mo2 hM_q) (by rfl) ?_
    rw [hS_q.2.1]
    refine go_if_eq (tgt := 8) (pc := 4) dX8_readUnit_4 (by decide) (fun h_4 => ?_) (fun h_4 => by exfalso; exact h_4 hb_q)
    refine go_aload_n (pc := 8) dX8_readUnit_8 rfl ?_
    refine go_ldcS (si := 41) (pc := 9) rfl dX8_readUnit_9 ?_
    refine go_V1P (pc := 11) v_X8_114 rfl rfl (rcv_of (ci := 8) (by first | exact mo0 hM_q | exact mo2 hM_q) rfl) dX8_readUnit_11 (sp_isWord (k := k - 1) hM_q hS_q (si := 41) (q := ("FrontChairsModel", 157, "not")) (cw := 15) rfl (by decide) wk_15 (by decide) (by decide) hN_q (by omega)) ?_
    refine go_if_eq (tgt := 44) (pc := 14) dX8_readUnit_14 (by decide) (fun h_14 => ?_) (fun h_14 => ?_)
    · have n14 : kd s.l ≠ 15 := fun e_q => bI_0.mp h_14 ⟨hb_q, e_q⟩
      refine go_aload_n (pc := 44) dX8_readUnit_44 rfl ?_
      refine go_bipush (v := 91) (pc := 45) dX8_readUnit_45 (by decide) ?_
      refine go_V1P (pc := 47) v_X8_162 rfl rfl (rcv_of (ci := 8) (by first | exact mo0 hM_q | exact mo2 hM_q) rfl) dX8_readUnit_47 (sp_isSign (k := k - 1) hM_q hS_q (c_q := 91) (by decide)) ?_
      refine go_if_eq (tgt := 80) (pc := 50) dX8_readUnit_50 (by decide) (fun h_50 => ?_) (fun h_50 => ?_)
      · have n50 : kd s.l ≠ 91 := fun e_q => bI_0.mp h_50 ⟨hb_q, e_q⟩
        have hE := pP_4s (N := N) (w := w) (d := d_q) hb_q n14 n50
        have n1 := pP_len (N := N) (w := w) (d := d_q) (s := s) (t := 5) (by omega)
        have n2 := pP_tot (N := N) (w := w) (d := d_q) (s := s) (t := 5) (by omega)
        refine go_aload_n (pc := 80) dX8_readUnit_80 rfl ?_
        refine go_V0V (pc := 81) v_X8_168 rfl rfl (rcv_of (ci := 8) (by first | exact mo0 hM_q | exact mo2 hM_q) rfl) dX8_readUnit_81 (h5_q s (Nat.le_refl _) _ _ (k - 1) F A hM_q hS_q hW ht_q (by omega)) (fun σ n h_q => ?_)
        obtain ⟨rfl, hR_q⟩ := h_q
        obtain ⟨F2, A2, hM_q, hS_q, hW, hF2, hA2, hB2, hf2⟩ := hR_q
        rw [← hA2 5 (by decide)] at hS_q
        have hf_q := hf2
        by_cases hb1 : (pP N w 5 d_q s).bad = 0
        · by_cases k1 : kd (pP N w 5 d_q s).l = 61
          · have e10 : F2 10 = 61 := (tok_sg (hS_q.2.2.1 hb1) (by decide)).mpr k1
            have hE : pP N w 4 d_q s = emitP 13 (pP N w 5 d_q (nextP (pP N w 5 d_q s))) := by
              rw [hE, k1]
              show (if _ then _ else _) = _
              rw [if_pos hb1]
            have n3 := nx_lt k1 (by decide)
            have n4 := tot_ne k1 (by decide)
            have n5 := pP_tot (N := N) (w := w) (d := d_q) (s := nextP (pP N w 5 d_q s)) (t := 5) (by omega)
            have n6 := st_tot n5
            refine go_aload_n (pc := 84) dX8_readUnit_84 rfl ?_
            refine go_getf (pc := 85) f_X8_79 dX8_readUnit_85 (by first | exact mo0 hM_q | exact mo2 hM_q) (by rfl) ?_
            rw [e10]
            refine go_istore_n (lw := [_, _]) (pc := 88) dX8_readUnit_88 (by decide) rfl ?_
            refine go_iload_n (pc := 89) dX8_readUnit_89 rfl ?_
            refine go_bipush (v := 61) (pc := 90) dX8_readUnit_90 (by decide) ?_
            refine go_icmp_eq (tgt := 112) (pc := 92) dX8_readUnit_92 (by decide) (fun h_92 => ?_) (fun h_92 => by exfalso; exact h_92 rfl)
            refine go_aload_n (pc := 112) dX8_readUnit_112 rfl ?_
            refine go_getf (pc := 113) f_X8_99 dX8_readUnit_113 (by first | exact mo0 hM_q | exact mo2 hM_q) (by rfl) ?_
            rw [hS_q.2.1]
            refine go_if_ne (tgt := 123) (pc := 116) dX8_readUnit_116 (by decide) (fun h_116 => by exfalso; exact h_116 hb1) (fun h_116 => ?_)
            refine go_aload_n (pc := 119) dX8_readUnit_119 rfl ?_
            refine go_V0V (pc := 120) v_X8_118 rfl rfl (rcv_of (ci := 8) (by first | exact mo0 hM_q | exact mo2 hM_q) rfl) dX8_readUnit_120 (sp_rdN (k := k - 1) hM_q hS_q hN_q hb1 (kd_ne k1 (by decide)) (by omega)) (fun σ n h_q => ?_)
            obtain ⟨rfl, F3, hM_q, hS_q, hF3, hf3⟩ := h_q
            have hW : rsR F3 (A2 2) w d_q (nextP (pP N w 5 d_q s)) := rsR_of hW rfl id (hF3 17 (by omega)) (hF3 18 (by omega)) ((hF3 16 (by omega)).trans hW.2.2.1)
            refine go_aload_n (pc := 123) dX8_readUnit_123 rfl ?_
            refine go_V0V (pc := 124) v_X8_168 rfl rfl (rcv_of (ci := 8) (by first | exact mo0 hM_q | exact mo2 hM_q) rfl) dX8_readUnit_124 (h5_q (nextP (pP N w 5 d_q s)) (by omega) _ _ (k - 1) F3 A2 hM_q hS_q hW (by omega) (by omega)) (fun σ n h_q => ?_)
            obtain ⟨rfl, hR_q⟩ := h_q
            have hR_q := RfP.tr (F := F) (A := A) (z0 := z0) (fun j h1_q h2_q => (hF3 j h1_q).trans (hF2 j h1_q h2_q)) hA2 hB2 (hf2.tr hf3) hR_q
            obtain ⟨F5, A5, hM_q, hS_q, hW, hF5, hA5, hB5, hf5⟩ := hR_q
            rw [← hA5 5 (by decide)] at hS_q
            refine go_aload_n (pc := 127) dX8_readUnit_127 rfl ?_
            refine go_iload_n (pc := 128) dX8_readUnit_128 rfl ?_
            refine go_bipush (v := 61) (pc := 129) dX8_readUnit_129 (by decide) ?_
            refine go_icmp_ne (tgt := 139) (pc := 131) dX8_readUnit_131 (by decide) (fun h_131 => by exfalso; exact h_131 rfl) (fun h_131 => ?_)
            refine go_bipush (v := 13) (pc := 134) dX8_readUnit_134 (by decide) ?_
            refine go_goto (tgt := 152) (pc := 136) dX8_readUnit_136 (by decide) ?_
            refine go_V1V (pc := 152) v_X8_149 rfl rfl (rcv_of (ci := 8) (by first | exact mo0 hM_q | exact mo2 hM_q) rfl) dX8_readUnit_152 (sp_laysStep (k := k - 1) hM_q hS_q hW hw_q (by omega)) (fun σ n h_q => ?_)
            obtain ⟨rfl, hR_q⟩ := h_q
            have hR_q := RfP.tr (F := F) (A := A) (z0 := z0) hF5 hA5 hB5 hf5 hR_q
            exact go_vretV (pc := 155) rfl dX8_readUnit_155 (Nat.le_of_ble_eq_true rfl) (Nat.le_of_ble_eq_true rfl) (by rw [hE]; exact ⟨rfl, hR_q⟩)
          · by_cases k2 : kd (pP N w 5 d_q s).l = 60
            · have e10 : F2 10 = 60 := (tok_sg (hS_q.2.2.1 hb1) (by decide)).mpr k2
              have hE : pP N w 4 d_q s = emitP 14 (pP N w 5 d_q (nextP (pP N w 5 d_q s))) := by
                rw [hE, k2]
                show (if _ then _ else _) = _
                rw [if_pos hb1]
              have n3 := nx_lt k2 (by decide)
              have n4 := tot_ne k2 (by decide)
              have n5 := pP_tot (N := N) (w := w) (d := d_q) (s := nextP (pP N w 5 d_q s)) (t := 5) (by omega)
              have n6 := st_tot n5
              refine go_aload_n (pc := 84) dX8_readUnit_84 rfl ?_
              refine go_getf (pc := 85) f_X8_79 dX8_readUnit_85 (by first | exact mo0 hM_q | exact mo2 hM_q) (by rfl) ?_
              rw [e10]
              refine go_istore_n (lw := [_, _]) (pc := 88) dX8_readUnit_88 (by decide) rfl ?_
              refine go_iload_n (pc := 89) dX8_readUnit_89 rfl ?_
              refine go_bipush (v := 61) (pc := 90) dX8_readUnit_90 (by decide) ?_
              refine go_icmp_eq (tgt := 112) (pc := 92) dX8_readUnit_92 (by decide) (fun h_92 => by exfalso; exact absurd h_92 (by decide)) (fun h_92 => ?_)
              refine go_iload_n (pc := 95) dX8_readUnit_95 rfl ?_
              refine go_bipush (v := 60) (pc := 96) dX8_readUnit_96 (by decide) ?_
              refine go_icmp_eq (tgt := 112) (pc := 98) dX8_readUnit_98 (by decide) (fun h_98 => ?_) (fun h_98 => by exfalso; exact h_98 rfl)
              refine go_aload_n (pc := 112) dX8_readUnit_112 rfl ?_
              refine go_getf (pc := 113) f_X8_99 dX8_readUnit_113 (by first | exact mo0 hM_q | exact mo2 hM_q) (by rfl) ?_
              rw [hS_q.2.1]
              refine go_if_ne (tgt := 123) (pc := 116) dX8_readUnit_116 (by decide) (fun h_116 => by exfalso; exact h_116 hb1) (fun h_116 => ?_)
              refine go_aload_n (pc := 119) dX8_readUnit_119 rfl ?_
              refine go_V0V (pc := 120) v_X8_118 rfl rfl (rcv_of (ci := 8) (by first | exact mo0 hM_q | exact mo2 hM_q) rfl) dX8_readUnit_120 (sp_rdN (k := k - 1) hM_q hS_q hN_q hb1 (kd_ne k2 (by decide)) (by omega)) (fun σ n h_q => ?_)
              obtain ⟨rfl, F3, hM_q, hS_q, hF3, hf3⟩ := h_q
              have hW : rsR F3 (A2 2) w d_q (nextP (pP N w 5 d_q s)) := rsR_of hW rfl id (hF3 17 (by omega)) (hF3 18 (by omega)) ((hF3 16 (by omega)).trans hW.2.2.1)
              refine go_aload_n (pc := 123) dX8_readUnit_123 rfl ?_
              refine go_V0V (pc := 124) v_X8_168 rfl rfl (rcv_of (ci := 8) (by first | exact mo0 hM_q | exact mo2 hM_q) rfl) dX8_readUnit_124 (h5_q (nextP (pP N w 5 d_q s)) (by omega) _ _ (k - 1) F3 A2 hM_q hS_q hW (by omega) (by omega)) (fun σ n h_q => ?_)
              obtain ⟨rfl, hR_q⟩ := h_q
              have hR_q := RfP.tr (F := F) (A := A) (z0 := z0) (fun j h1_q h2_q => (hF3 j h1_q).trans (hF2 j h1_q h2_q)) hA2 hB2 (hf2.tr hf3) hR_q
              obtain ⟨F5, A5, hM_q, hS_q, hW, hF5, hA5, hB5, hf5⟩ := hR_q
              rw [← hA5 5 (by decide)] at hS_q
              refine go_aload_n (pc := 127) dX8_readUnit_127 rfl ?_
              refine go_iload_n (pc := 128) dX8_readUnit_128 rfl ?_
              refine go_bipush (v := 61) (pc := 129) dX8_readUnit_129 (by decide) ?_
              refine go_icmp_ne (tgt := 139) (pc := 131) dX8_readUnit_131 (by decide) (fun h_131 => ?_) (fun h_131 => by exfalso; exact absurd h_131 (by decide))
              refine go_iload_n (pc := 139) dX8_readUnit_139 rfl ?_
              refine go_bipush (v := 60) (pc := 140) dX8_readUnit_140 (by decide) ?_
              refine go_icmp_ne (tgt := 150) (pc := 142) dX8_readUnit_142 (by decide) (fun h_142 => by exfalso; exact h_142 rfl) (fun h_142 => ?_)
              refine go_bipush (v := 14) (pc := 145) dX8_readUnit_145 (by decide) ?_
              refine go_goto (tgt := 152) (pc := 147) dX8_readUnit_147 (by decide) ?_
              refine go_V1V (pc := 152) v_X8_149 rfl rfl (rcv_of (ci := 8) (by first | exact mo0 hM_q | exact mo2 hM_q) rfl) dX8_readUnit_152 (sp_laysStep (k := k - 1) hM_q hS_q hW hw_q (by omega)) (fun σ n h_q => ?_)
              obtain ⟨rfl, hR_q⟩ := h_q
              have hR_q := RfP.tr (F := F) (A := A) (z0 := z0) hF5 hA5 hB5 hf5 hR_q
              exact go_vretV (pc := 155) rfl dX8_readUnit_155 (Nat.le_of_ble_eq_true rfl) (Nat.le_of_ble_eq_true rfl) (by rw [hE]; exact ⟨rfl, hR_q⟩)
            · by_cases k3 : kd (pP N w 5 d_q s).l = 62
              · have e10 : F2 10 = 62 := (tok_sg (hS_q.2.2.1 hb1) (by decide)).mpr k3
                have hE : pP N w 4 d_q s = emitP 15 (pP N w 5 d_q (nextP (pP N w 5 d_q s))) := by
                  rw [hE, k3]
                  show (if _ then _ else _) = _
                  rw [if_pos hb1]
                have n3 := nx_lt k3 (by decide)
                have n4 := tot_ne k3 (by decide)
                have n5 := pP_tot (N := N) (w := w) (d := d_q) (s := nextP (pP N w 5 d_q s)) (t := 5) (by omega)
                have n6 := st_tot n5
                refine go_aload_n (pc := 84) dX8_readUnit_84 rfl ?_
                refine go_getf (pc := 85) f_X8_79 dX8_readUnit_85 (by first | exact mo0 hM_q | exact mo2 hM_q) (by rfl) ?_
                rw [e10]
                refine go_istore_n (lw := [_, _]) (pc := 88) dX8_readUnit_88 (by decide) rfl ?_
                refine go_iload_n (pc := 89) dX8_readUnit_89 rfl ?_
                refine go_bipush (v := 61) (pc := 90) dX8_readUnit_90 (by decide) ?_
                refine go_icmp_eq (tgt := 112) (pc := 92) dX8_readUnit_92 (by decide) (fun h_92 => by exfalso; exact absurd h_92 (by decide)) (fun h_92 => ?_)
                refine go_iload_n (pc := 95) dX8_readUnit_95 rfl ?_
                refine go_bipush (v := 60) (pc := 96) dX8_readUnit_96 (by decide) ?_
                refine go_icmp_eq (tgt := 112) (pc := 98) dX8_readUnit_98 (by decide) (fun h_98 => by exfalso; exact absurd h_98 (by decide)) (fun h_98 => ?_)
                refine go_iload_n (pc := 101) dX8_readUnit_101 rfl ?_
                refine go_bipush (v := 62) (pc := 102) dX8_readUnit_102 (by decide) ?_
                refine go_icmp_eq (tgt := 112) (pc := 104) dX8_readUnit_104 (by decide) (fun h_104 => ?_) (fun h_104 => by exfalso; exact h_104 rfl)
                refine go_aload_n (pc := 112) dX8_readUnit_112 rfl ?_
                refine go_getf (pc := 113) f_X8_99 dX8_readUnit_113 (by first | exact mo0 hM_q | exact mo2 hM_q) (by rfl) ?_
                rw [hS_q.2.1]
                refine go_if_ne (tgt := 123) (pc := 116) dX8_readUnit_116 (by decide) (fun h_116 => by exfalso; exact h_116 hb1) (fun h_116 => ?_)
                refine go_aload_n (pc := 119) dX8_readUnit_119 rfl ?_
                refine go_V0V (pc := 120) v_X8_118 rfl rfl (rcv_of (ci := 8) (by first | exact mo0 hM_q | exact mo2 hM_q) rfl) dX8_readUnit_120 (sp_rdN (k := k - 1) hM_q hS_q hN_q hb1 (kd_ne k3 (by decide)) (by omega)) (fun σ n h_q => ?_)
                obtain ⟨rfl, F3, hM_q, hS_q, hF3, hf3⟩ := h_q
                have hW : rsR F3 (A2 2) w d_q (nextP (pP N w 5 d_q s)) := rsR_of hW rfl id (hF3 17 (by omega)) (hF3 18 (by omega)) ((hF3 16 (by omega)).trans hW.2.2.1)
                refine go_aload_n (pc := 123) dX8_readUnit_123 rfl ?_
                refine go_V0V (pc := 124) v_X8_168 rfl rfl (rcv_of (ci := 8) (by first | exact mo0 hM_q | exact mo2 hM_q) rfl) dX8_readUnit_124 (h5_q (nextP (pP N w 5 d_q s)) (by omega) _ _ (k - 1) F3 A2 hM_q hS_q hW (by omega) (by omega)) (fun σ n h_q => ?_)
                obtain ⟨rfl, hR_q⟩ := h_q
                have hR_q := RfP.tr (F := F) (A := A) (z0 := z0) (fun j h1_q h2_q => (hF3 j h1_q).trans (hF2 j h1_q h2_q)) hA2 hB2 (hf2.tr hf3) hR_q
                obtain ⟨F5, A5, hM_q, hS_q, hW, hF5, hA5, hB5, hf5⟩ := hR_q
                rw [← hA5 5 (by decide)] at hS_q
                refine go_aload_n (pc := 127) dX8_readUnit_127 rfl ?_
                refine go_iload_n (pc := 128) dX8_readUnit_128 rfl ?_
                refine go_bipush (v := 61) (pc := 129) dX8_readUnit_129 (by decide) ?_
                refine go_icmp_ne (tgt := 139) (pc := 131) dX8_readUnit_131 (by decide) (fun h_131 => ?_) (fun h_131 => by exfalso; exact absurd h_131 (by decide))
                refine go_iload_n (pc := 139) dX8_readUnit_139 rfl ?_
                refine go_bipush (v := 60) (pc := 140) dX8_readUnit_140 (by decide) ?_
                refine go_icmp_ne (tgt := 150) (pc := 142) dX8_readUnit_142 (by decide) (fun h_142 => ?_) (fun h_142 => by exfalso; exact absurd h_142 (by decide))
                refine go_bipush (v := 15) (pc := 150) dX8_readUnit_150 (by decide) ?_
                refine go_V1V (pc := 152) v_X8_149 rfl rfl (rcv_of (ci := 8) (by first | exact mo0 hM_q | exact mo2 hM_q) rfl) dX8_readUnit_152 (sp_laysStep (k := k - 1) hM_q hS_q hW hw_q (by omega)) (fun σ n h_q => ?_)
                obtain ⟨rfl, hR_q⟩ := h_q
                have hR_q := RfP.tr (F := F) (A := A) (z0 := z0) hF5 hA5 hB5 hf5 hR_q
                exact go_vretV (pc := 155) rfl dX8_readUnit_155 (Nat.le_of_ble_eq_true rfl) (Nat.le_of_ble_eq_true rfl) (by rw [hE]; exact ⟨rfl, hR_q⟩)
              · have hbF : (failP N 2 (pP N w 5 d_q s)).bad ≠ 0 := failP_ne (by decide) hb1
                have hE : pP N w 4 d_q s = emitP 15 (failP N 2 (pP N w 5 d_q s)) := by
                  rw [emitP_bd hbF, hE, cmP, if_neg k1, if_neg k2, if_neg k3]
                have e1_q : F2 10 ≠ 61 := fun e_q => k1 ((tok_sg (hS_q.2.2.1 hb1) (by decide)).mp e_q)
                have e2_q : F2 10 ≠ 60 := fun e_q => k2 ((tok_sg (hS_q.2.2.1 hb1) (by decide)).mp e_q)
                have e3_q : F2 10 ≠ 62 := fun e_q => k3 ((tok_sg (hS_q.2.2.1 hb1) (by decide)).mp e_q)
                refine go_aload_n (pc := 84) dX8_readUnit_84 rfl ?_
                refine go_getf (pc := 85) f_X8_79 dX8_readUnit_85 (by first | exact mo0 hM_q | exact mo2 hM_q) (by rfl) ?_
                refine go_istore_n (lw := [_, _]) (pc := 88) dX8_readUnit_88 (by decide) rfl ?_
                refine go_iload_n (pc := 89) dX8_readUnit_89 rfl ?_
                refine go_bipush (v := 61) (pc := 90) dX8_readUnit_90 (by decide) ?_
                refine go_icmp_eq (tgt := 112) (pc := 92) dX8_readUnit_92 (by decide) (fun h_92 => by exfalso; exact e1_q h_92) (fun h_92 => ?_)
                refine go_iload_n (pc := 95) dX8_readUnit_95 rfl ?_
                refine go_bipush (v := 60) (pc := 96) dX8_readUnit_96 (by decide) ?_
                refine go_icmp_eq (tgt := 112) (pc := 98) dX8_readUnit_98 (by decide) (fun h_98 => by exfalso; exact e2_q h_98) (fun h_98 => ?_)
                refine go_iload_n (pc := 101) dX8_readUnit_101 rfl ?_
                refine go_bipush (v := 62) (pc := 102) dX8_readUnit_102 (by decide) ?_
                refine go_icmp_eq (tgt := 112) (pc := 104) dX8_readUnit_104 (by decide) (fun h_104 => by exfalso; exact e3_q h_104) (fun h_104 => ?_)
                refine go_aload_n (pc := 107) dX8_readUnit_107 rfl ?_
                refine go_iconst (v := 2) (pc := 108) dX8_readUnit_108 (by decide) ?_
                refine go_V1V (pc := 109) v_X8_121 rfl rfl (rcv_of (ci := 8) (by first | exact mo0 hM_q | exact mo2 hM_q) rfl) dX8_readUnit_109 (sp_blames (k := k - 1) hM_q hS_q (c_q := 2) (by decide)) (fun σ n h_q => ?_)
                obtain ⟨rfl, F3, hM_q, hS_q, hF3, hf3⟩ := h_q
                have hW : rsR F3 (A2 2) w d_q (failP N 2 (pP N w 5 d_q s)) := ⟨(hF3 17 (by omega)).trans hW.1, (hF3 18 (by omega)).trans hW.2.1, (hF3 16 (by omega)).trans hW.2.2.1, fun e_q => absurd e_q hbF⟩
                refine go_aload_n (pc := 112) dX8_readUnit_112 rfl ?_
                refine go_getf (pc := 113) f_X8_99 dX8_readUnit_113 (by first | exact mo0 hM_q | exact mo2 hM_q) (by rfl) ?_
                rw [hS_q.2.1]
                refine go_if_ne (tgt := 123) (pc := 116) dX8_readUnit_116 (by decide) (fun h_116 => ?_) (fun h_116 => by exfalso; exact hbF h_116)
                refine go_aload_n (pc := 123) dX8_readUnit_123 rfl ?_
                refine go_V0V (pc := 124) v_X8_168 rfl rfl (rcv_of (ci := 8) (by first | exact mo0 hM_q | exact mo2 hM_q) rfl) dX8_readUnit_124 (refb_5 hw_q hN_q hbF _ _ (k - 1) F3 A2 hM_q hS_q hW (by omega)) (fun σ n h_q => ?_)
                obtain ⟨rfl, hR_q⟩ := h_q
                have hR_q := RfP.tr (F := F) (A := A) (z0 := z0) (fun j h1_q h2_q => (hF3 j h1_q).trans (hF2 j h1_q h2_q)) hA2 hB2 (hf2.tr hf3) hR_q
                obtain ⟨F5, A5, hM_q, hS_q, hW, hF5, hA5, hB5, hf5⟩ := hR_q
                rw [← hA5 5 (by decide)] at hS_q
                refine go_aload_n (pc := 127) dX8_readUnit_127 rfl ?_
                refine go_iload_n (pc := 128) dX8_readUnit_128 rfl ?_
                refine go_bipush (v := 61) (pc := 129) dX8_readUnit_129 (by decide) ?_
                refine go_icmp_ne (tgt := 139) (pc := 131) dX8_readUnit_131 (by decide) (fun h_131 => ?_) (fun h_131 => by exfalso; exact e1_q h_131)
                refine go_iload_n (pc := 139) dX8_readUnit_139 rfl ?_
                refine go_bipush (v := 60) (pc := 140) dX8_readUnit_140 (by decide) ?_
                refine go_icmp_ne (tgt := 150) (pc := 142) dX8_readUnit_142 (by decide) (fun h_142 => ?_) (fun h_142 => by exfalso; exact e2_q h_142)
                refine go_bipush (v := 15) (pc := 150) dX8_readUnit_150 (by decide) ?_
                refine go_V1V (pc := 152) v_X8_149 rfl rfl (rcv_of (ci := 8) (by first | exact mo0 hM_q | exact mo2 hM_q) rfl) dX8_readUnit_152 (sp_laysS (k := k - 1) hM_q hS_q hW hw_q (fun e_q => absurd e_q hbF)) (fun σ n h_q => ?_)
                obtain ⟨rfl, hR_q⟩ := h_q
                have hR_q := RfP.tr (F := F) (A := A) (z0 := z0) hF5 hA5 hB5 hf5 hR_q
                exact go_vretV (pc := 155) rfl dX8_readUnit_155 (Nat.le_of_ble_eq_true rfl) (Nat.le_of_ble_eq_true rfl) (by rw [hE]; exact ⟨rfl, hR_q⟩)
        · have hE : pP N w 4 d_q s = (pP N w 5 d_q s) := by
            rw [hE]
            cases cmP (kd (pP N w 5 d_q s).l) with
            | none => exact failP_bad hb1
            | some c_q => exact if_neg hb1
          refine go_aload_n (pc := 84) dX8_readUnit_84 rfl ?_
          refine go_getf (pc := 85) f_X8_79 dX8_readUnit_85 (by first | exact mo0 hM_q | exact mo2 hM_q) (by rfl) ?_
          refine go_istore_n (lw := [_, _]) (pc := 88) dX8_readUnit_88 (by decide) rfl ?_
          refine go_iload_n (pc := 89) dX8_readUnit_89 rfl ?_
          refine go_bipush (v := 61) (pc := 90) dX8_readUnit_90 (by decide) ?_
          refine go_icmp_eq (tgt := 112) (pc := 92) dX8_readUnit_92 (by decide) (fun h_92 => ?_) (fun h_92 => ?_)
          · refine go_aload_n (pc := 112) dX8_readUnit_112 rfl ?_
            refine go_getf (pc := 113) f_X8_99 dX8_readUnit_113 (by first | exact mo0 hM_q | exact mo2 hM_q) (by rfl) ?_
            rw [hS_q.2.1]
            refine go_if_ne (tgt := 123) (pc := 116) dX8_readUnit_116 (by decide) (fun h_116 => ?_) (fun h_116 => by exfalso; exact hb1 h_116)
            refine go_aload_n (pc := 123) dX8_readUnit_123 rfl ?_
            refine go_V0V (pc := 124) v_X8_168 rfl rfl (rcv_of (ci := 8) (by first | exact mo0 hM_q | exact mo2 hM_q) rfl) dX8_readUnit_124 (refb_5 hw_q hN_q hb1 _ _ (k - 1) F2 A2 hM_q hS_q hW (by omega)) (fun σ n h_q => ?_)
            obtain ⟨rfl, hR_q⟩ := h_q
            have hR_q := RfP.tr (F := F) (A := A) (z0 := z0) hF2 hA2 hB2 hf2 hR_q
            obtain ⟨F5, A5, hM_q, hS_q, hW, hF5, hA5, hB5, hf5⟩ := hR_q
            rw [← hA5 5 (by decide)] at hS_q
            refine go_aload_n (pc := 127) dX8_readUnit_127 rfl ?_
            refine go_iload_n (pc := 128) dX8_readUnit_128 rfl ?_
            refine go_bipush (v := 61) (pc := 129) dX8_readUnit_129 (by decide) ?_
            refine go_icmp_ne (tgt := 139) (pc := 131) dX8_readUnit_131 (by decide) (fun h_131 => ?_) (fun h_131 => ?_)
            · refine go_iload_n (pc := 139) dX8_readUnit_139 rfl ?_
              refine go_bipush (v := 60) (pc := 140) dX8_readUnit_140 (by decide) ?_
              refine go_icmp_ne (tgt := 150) (pc := 142) dX8_readUnit_142 (by decide) (fun h_142 => ?_) (fun h_142 => ?_)
              · refine go_bipush (v := 15) (pc := 150) dX8_readUnit_150 (by decide) ?_
                refine go_V1V (pc := 152) v_X8_149 rfl rfl (rcv_of (ci := 8) (by first | exact mo0 hM_q | exact mo2 hM_q) rfl) dX8_readUnit_152 (sp_laysS (k := k - 1) hM_q hS_q hW hw_q (fun e_q => absurd e_q hb1)) (fun σ n h_q => ?_)
                obtain ⟨rfl, hR_q⟩ := h_q
                have hR_q := RfP.tr (F := F) (A := A) (z0 := z0) hF5 hA5 hB5 hf5 hR_q
                have hR_q : RfP Γ z0 r_q N w d_q F K A Nm (pP N w 5 d_q s) σ := by
                  rw [emitP_bd hb1] at hR_q
                  exact hR_q
                exact go_vretV (pc := 155) rfl dX8_readUnit_155 (Nat.le_of_ble_eq_true rfl) (Nat.le_of_ble_eq_true rfl) (by rw [hE]; exact ⟨rfl, hR_q⟩)
              · refine go_bipush (v := 14) (pc := 145) dX8_readUnit_145 (by decide) ?_
                refine go_goto (tgt := 152) (pc := 147) dX8_readUnit_147 (by decide) ?_
                refine go_V1V (pc := 152) v_X8_149 rfl rfl (rcv_of (ci := 8) (by first | exact mo0 hM_q | exact mo2 hM_q) rfl) dX8_readUnit_152 (sp_laysS (k := k - 1) hM_q hS_q hW hw_q (fun e_q => absurd e_q hb1)) (fun σ n h_q => ?_)
                obtain ⟨rfl, hR_q⟩ := h_q
                have hR_q := RfP.tr (F := F) (A := A) (z0 := z0) hF5 hA5 hB5 hf5 hR_q
                have hR_q : RfP Γ z0 r_q N w d_q F K A Nm (pP N w 5 d_q s) σ := by
                  rw [emitP_bd hb1] at hR_q
                  exact hR_q
                exact go_vretV (pc := 155) rfl dX8_readUnit_155 (Nat.le_of_ble_eq_true rfl) (Nat.le_of_ble_eq_true rfl) (by rw [hE]; exact ⟨rfl, hR_q⟩)
            · refine go_bipush (v := 13) (pc := 134) dX8_readUnit_134 (by decide) ?_
              refine go_goto (tgt := 152) (pc := 136) dX8_readUnit_136 (by decide) ?_
              refine go_V1V (pc := 152) v_X8_149 rfl rfl (rcv_of (ci := 8) (by first | exact mo0 hM_q | exact mo2 hM_q) rfl) dX8_readUnit_152 (sp_laysS (k := k - 1) hM_q hS_q hW hw_q (fun e_q => absurd e_q hb1)) (fun σ n h_q => ?_)
              obtain ⟨rfl, hR_q⟩ := h_q
              have hR_q := RfP.tr (F := F) (A := A) (z0 := z0) hF5 hA5 hB5 hf5 hR_q
              have hR_q : RfP Γ z0 r_q N w d_q F K A Nm (pP N w 5 d_q s) σ := by
                rw [emitP_bd hb1] at hR_q
                exact hR_q
              exact go_vretV (pc := 155) rfl dX8_readUnit_155 (Nat.le_of_ble_eq_true rfl) (Nat.le_of_ble_eq_true rfl) (by rw [hE]; exact ⟨rfl, hR_q⟩)
          · refine go_iload_n (pc := 95) dX8_readUnit_95 rfl ?_
            refine go_bipush (v := 60) (pc := 96) dX8_readUnit_96 (by decide) ?_
            refine go_icmp_eq (tgt := 112) (pc := 98) dX8_readUnit_98 (by decide) (fun h_98 => ?_) (fun h_98 => ?_)
            · refine go_aload_n (pc := 112) dX8_readUnit_112 rfl ?_
              refine go_getf (pc := 113) f_X8_99 dX8_readUnit_113 (by first | exact mo0 hM_q | exact mo2 hM_q) (by rfl) ?_
              rw [hS_q.2.1]
              refine go_if_ne (tgt := 123) (pc := 116) dX8_readUnit_116 (by decide) (fun h_116 => ?_) (fun h_116 => by exfalso; exact hb1 h_116)
              refine go_aload_n (pc := 123) dX8_readUnit_123 rfl ?_
              refine go_V0V (pc := 124) v_X8_168 rfl rfl (rcv_of (ci := 8) (by first | exact mo0 hM_q | exact mo2 hM_q) rfl) dX8_readUnit_124 (refb_5 hw_q hN_q hb1 _ _ (k - 1) F2 A2 hM_q hS_q hW (by omega)) (fun σ n h_q => ?_)
              obtain ⟨rfl, hR_q⟩ := h_q
              have hR_q := RfP.tr (F := F) (A := A) (z0 := z0) hF2 hA2 hB2 hf2 hR_q
              obtain ⟨F5, A5, hM_q, hS_q, hW, hF5, hA5, hB5, hf5⟩ := hR_q
              rw [← hA5 5 (by decide)] at hS_q
              refine go_aload_n (pc := 127) dX8_readUnit_127 rfl ?_
              refine go_iload_n (pc := 128) dX8_readUnit_128 rfl ?_
              refine go_bipush (v := 61) (pc := 129) dX8_readUnit_129 (by decide) ?_
              refine go_icmp_ne (tgt := 139) (pc := 131) dX8_readUnit_131 (by decide) (fun h_131 => ?_) (fun h_131 => ?_)
              · refine go_iload_n (pc := 139) dX8_readUnit_139 rfl ?_
                refine go_bipush (v := 60) (pc := 140) dX8_readUnit_140 (by decide) ?_
                refine go_icmp_ne (tgt := 150) (pc := 142) dX8_readUnit_142 (by decide) (fun h_142 => ?_) (fun h_142 => ?_)
                · refine go_bipush (v := 15) (pc := 150) dX8_readUnit_150 (by decide) ?_
                  refine go_V1V (pc := 152) v_X8_149 rfl rfl (rcv_of (ci := 8) (by first | exact mo0 hM_q | exact mo2 hM_q) rfl) dX8_readUnit_152 (sp_laysS (k := k - 1) hM_q hS_q hW hw_q (fun e_q => absurd e_q hb1)) (fun σ n h_q => ?_)
                  obtain ⟨rfl, hR_q⟩ := h_q
                  have hR_q := RfP.tr (F := F) (A := A) (z0 := z0) hF5 hA5 hB5 hf5 hR_q
                  have hR_q : RfP Γ z0 r_q N w d_q F K A Nm (pP N w 5 d_q s) σ := by
                    rw [emitP_bd hb1] at hR_q
                    exact hR_q
                  exact go_vretV (pc := 155) rfl dX8_readUnit_155 (Nat.le_of_ble_eq_true rfl) (Nat.le_of_ble_eq_true rfl) (by rw [hE]; exact ⟨rfl, hR_q⟩)
                · refine go_bipush (v := 14) (pc := 145) dX8_readUnit_145 (by decide) ?_
                  refine go_goto (tgt := 152) (pc := 147) dX8_readUnit_147 (by decide) ?_
                  refine go_V1V (pc := 152) v_X8_149 rfl rfl (rcv_of (ci := 8) (by first | exact mo0 hM_q | exact mo2 hM_q) rfl) dX8_readUnit_152 (sp_laysS (k := k - 1) hM_q hS_q hW hw_q (fun e_q => absurd e_q hb1)) (fun σ n h_q => ?_)
                  obtain ⟨rfl, hR_q⟩ := h_q
                  have hR_q := RfP.tr (F := F) (A := A) (z0 := z0) hF5 hA5 hB5 hf5 hR_q
                  have hR_q : RfP Γ z0 r_q N w d_q F K A Nm (pP N w 5 d_q s) σ := by
                    rw [emitP_bd hb1] at hR_q
                    exact hR_q
                  exact go_vretV (pc := 155) rfl dX8_readUnit_155 (Nat.le_of_ble_eq_true rfl) (Nat.le_of_ble_eq_true rfl) (by rw [hE]; exact ⟨rfl, hR_q⟩)
              · refine go_bipush (v := 13) (pc := 134) dX8_readUnit_134 (by decide) ?_
                refine go_goto (tgt := 152) (pc := 136) dX8_readUnit_136 (by decide) ?_
                refine go_V1V (pc := 152) v_X8_149 rfl rfl (rcv_of (ci := 8) (by first | exact mo0 hM_q | exact mo2 hM_q) rfl) dX8_readUnit_152 (sp_laysS (k := k - 1) hM_q hS_q hW hw_q (fun e_q => absurd e_q hb1)) (fun σ n h_q => ?_)
                obtain ⟨rfl, hR_q⟩ := h_q
                have hR_q := RfP.tr (F := F) (A := A) (z0 := z0) hF5 hA5 hB5 hf5 hR_q
                have hR_q : RfP Γ z0 r_q N w d_q F K A Nm (pP N w 5 d_q s) σ := by
                  rw [emitP_bd hb1] at hR_q
                  exact hR_q
                exact go_vretV (pc := 155) rfl dX8_readUnit_155 (Nat.le_of_ble_eq_true rfl) (Nat.le_of_ble_eq_true rfl) (by rw [hE]; exact ⟨rfl, hR_q⟩)
            · refine go_iload_n (pc := 101) dX8_readUnit_101 rfl ?_
              refine go_bipush (v := 62) (pc := 102) dX8_readUnit_102 (by decide) ?_
              refine go_icmp_eq (tgt := 112) (pc := 104) dX8_readUnit_104 (by decide) (fun h_104 => ?_) (fun h_104 => ?_)
              · refine go_aload_n (pc := 112) dX8_readUnit_112 rfl ?_
                refine go_getf (pc := 113) f_X8_99 dX8_readUnit_113 (by first | exact mo0 hM_q | exact mo2 hM_q) (by rfl) ?_
                rw [hS_q.2.1]
                refine go_if_ne (tgt := 123) (pc := 116) dX8_readUnit_116 (by decide) (fun h_116 => ?_) (fun h_116 => by exfalso; exact hb1 h_116)
                refine go_aload_n (pc := 123) dX8_readUnit_123 rfl ?_
                refine go_V0V (pc := 124) v_X8_168 rfl rfl (rcv_of (ci := 8) (by first | exact mo0 hM_q | exact mo2 hM_q) rfl) dX8_readUnit_124 (refb_5 hw_q hN_q hb1 _ _ (k - 1) F2 A2 hM_q hS_q hW (by omega)) (fun σ n h_q => ?_)
                obtain ⟨rfl, hR_q⟩ := h_q
                have hR_q := RfP.tr (F := F) (A := A) (z0 := z0) hF2 hA2 hB2 hf2 hR_q
                obtain ⟨F5, A5, hM_q, hS_q, hW, hF5, hA5, hB5, hf5⟩ := hR_q
                rw [← hA5 5 (by decide)] at hS_q
                refine go_aload_n (pc := 127) dX8_readUnit_127 rfl ?_
                refine go_iload_n (pc := 128) dX8_readUnit_128 rfl ?_
                refine go_bipush (v := 61) (pc := 129) dX8_readUnit_129 (by decide) ?_
                refine go_icmp_ne (tgt := 139) (pc := 131) dX8_readUnit_131 (by decide) (fun h_131 => ?_) (fun h_131 => ?_)
                · refine go_iload_n (pc := 139) dX8_readUnit_139 rfl ?_
                  refine go_bipush (v := 60) (pc := 140) dX8_readUnit_140 (by decide) ?_
                  refine go_icmp_ne (tgt := 150) (pc := 142) dX8_readUnit_142 (by decide) (fun h_142 => ?_) (fun h_142 => ?_)
                  · refine go_bipush (v := 15) (pc := 150) dX8_readUnit_150 (by decide) ?_
                    refine go_V1V (pc := 152) v_X8_149 rfl rfl (rcv_of (ci := 8) (by first | exact mo0 hM_q | exact mo2 hM_q) rfl) dX8_readUnit_152 (sp_laysS (k := k - 1) hM_q hS_q hW hw_q (fun e_q => absurd e_q hb1)) (fun σ n h_q => ?_)
                    obtain ⟨rfl, hR_q⟩ := h_q
                    have hR_q := RfP.tr (F := F) (A := A) (z0 := z0) hF5 hA5 hB5 hf5 hR_q
                    have hR_q : RfP Γ z0 r_q N w d_q F K A Nm (pP N w 5 d_q s) σ := by
                      rw [emitP_bd hb1] at hR_q
                      exact hR_q
                    exact go_vretV (pc := 155) rfl dX8_readUnit_155 (Nat.le_of_ble_eq_true rfl) (Nat.le_of_ble_eq_true rfl) (by rw [hE]; exact ⟨rfl, hR_q⟩)
                  · refine go_bipush (v := 14) (pc := 145) dX8_readUnit_145 (by decide) ?_
                    refine go_goto (tgt := 152) (pc := 147) dX8_readUnit_147 (by decide) ?_
                    refine go_V1V (pc := 152) v_X8_149 rfl rfl (rcv_of (ci := 8) (by first | exact mo0 hM_q | exact mo2 hM_q) rfl) dX8_readUnit_152 (sp_laysS (k := k - 1) hM_q hS_q hW hw_q (fun e_q => absurd e_q hb1)) (fun σ n h_q => ?_)
                    obtain ⟨rfl, hR_q⟩ := h_q
                    have hR_q := RfP.tr (F := F) (A := A) (z0 := z0) hF5 hA5 hB5 hf5 hR_q
                    have hR_q : RfP Γ z0 r_q N w d_q F K A Nm (pP N w 5 d_q s) σ := by
                      rw [emitP_bd hb1] at hR_q
                      exact hR_q
                    exact go_vretV (pc := 155) rfl dX8_readUnit_155 (Nat.le_of_ble_eq_true rfl) (Nat.le_of_ble_eq_true rfl) (by rw [hE]; exact ⟨rfl, hR_q⟩)
                · refine go_bipush (v := 13) (pc := 134) dX8_readUnit_134 (by decide) ?_
                  refine go_goto (tgt := 152) (pc := 136) dX8_readUnit_136 (by decide) ?_
                  refine go_V1V (pc := 152) v_X8_149 rfl rfl (rcv_of (ci := 8) (by first | exact mo0 hM_q | exact mo2 hM_q) rfl) dX8_readUnit_152 (sp_laysS (k := k - 1) hM_q hS_q hW hw_q (fun e_q => absurd e_q hb1)) (fun σ n h_q => ?_)
                  obtain ⟨rfl, hR_q⟩ := h_q
                  have hR_q := RfP.tr (F := F) (A := A) (z0 := z0) hF5 hA5 hB5 hf5 hR_q
                  have hR_q : RfP Γ z0 r_q N w d_q F K A Nm (pP N w 5 d_q s) σ := by
                    rw [emitP_bd hb1] at hR_q
                    exact hR_q
                  exact go_vretV (pc := 155) rfl dX8_readUnit_155 (Nat.le_of_ble_eq_true rfl) (Nat.le_of_ble_eq_true rfl) (by rw [hE]; exact ⟨rfl, hR_q⟩)
              · refine go_aload_n (pc := 107) dX8_readUnit_107 rfl ?_
                refine go_iconst (v := 2) (pc := 108) dX8_readUnit_108 (by decide) ?_
                refine go_V1V (pc := 109) v_X8_121 rfl rfl (rcv_of (ci := 8) (by first | exact mo0 hM_q | exact mo2 hM_q) rfl) dX8_readUnit_109 (sp_blames (k := k - 1) hM_q hS_q (c_q := 2) (by decide)) (fun σ n h_q => ?_)
                obtain ⟨rfl, F3, hM_q, hS_q, hF3, hf3⟩ := h_q
                rw [failP_bad hb1] at hS_q
                obtain ⟨F2, hM_q, hS_q, hW, hF2, hf2⟩ : ∃ F2 : row, MoAt Γ σ r_q F2 K A2 Nm ∧ rfR (A2 5) N F2 (pP N w 5 d_q s) ∧ rsR F2 (A2 2) w d_q (pP N w 5 d_q s) ∧ (∀ j, (j < 8 ∨ 13 < j) → j ≠ 16 → F2 j = F j) ∧ fr r_q (r_q + 16) z0 σ := ⟨F3, hM_q, hS_q, rsR_of hW rfl id (hF3 17 (by omega)) (hF3 18 (by omega)) ((hF3 16 (by omega)).trans hW.2.2.1), fun j h1_q h2_q => (hF3 j h1_q).trans (hF2 j h1_q h2_q), hf2.tr hf3⟩
                refine go_aload_n (pc := 112) dX8_readUnit_112 rfl ?_
                refine go_getf (pc := 113) f_X8_99 dX8_readUnit_113 (by first | exact mo0 hM_q | exact mo2 hM_q) (by rfl) ?_
                rw [hS_q.2.1]
                refine go_if_ne (tgt := 123) (pc := 116) dX8_readUnit_116 (by decide) (fun h_116 => ?_) (fun h_116 => by exfalso; exact hb1 h_116)
                refine go_aload_n (pc := 123) dX8_readUnit_123 rfl ?_
                refine go_V0V (pc := 124) v_X8_168 rfl rfl (rcv_of (ci := 8) (by first | exact mo0 hM_q | exact mo2 hM_q) rfl) dX8_readUnit_124 (refb_5 hw_q hN_q hb1 _ _ (k - 1) F2 A2 hM_q hS_q hW (by omega)) (fun σ n h_q => ?_)
                obtain ⟨rfl, hR_q⟩ := h_q
                have hR_q := RfP.tr (F := F) (A := A) (z0 := z0) hF2 hA2 hB2 hf2 hR_q
                obtain ⟨F5, A5, hM_q, hS_q, hW, hF5, hA5, hB5, hf5⟩ := hR_q
                rw [← hA5 5 (by decide)] at hS_q
                refine go_aload_n (pc := 127) dX8_readUnit_127 rfl ?_
                refine go_iload_n (pc := 128) dX8_readUnit_128 rfl ?_
                refine go_bipush (v := 61) (pc := 129) dX8_readUnit_129 (by decide) ?_
                refine go_icmp_ne (tgt := 139) (pc := 131) dX8_readUnit_131 (by decide) (fun h_131 => ?_) (fun h_131 => ?_)
                · refine go_iload_n (pc := 139) dX8_readUnit_139 rfl ?_
                  refine go_bipush (v := 60) (pc := 140) dX8_readUnit_140 (by decide) ?_
                  refine go_icmp_ne (tgt := 150) (pc := 142) dX8_readUnit_142 (by decide) (fun h_142 => ?_) (fun h_142 => ?_)
                  · refine go_bipush (v := 15) (pc := 150) dX8_readUnit_150 (by decide) ?_
                    refine go_V1V (pc := 152) v_X8_149 rfl rfl (rcv_of (ci := 8) (by first | exact mo0 hM_q | exact mo2 hM_q) rfl) dX8_readUnit_152 (sp_laysS (k := k - 1) hM_q hS_q hW hw_q (fun e_q => absurd e_q hb1)) (fun σ n h_q => ?_)
                    obtain ⟨rfl, hR_q⟩ := h_q
                    have hR_q := RfP.tr (F := F) (A := A) (z0 := z0) hF5 hA5 hB5 hf5 hR_q
                    have hR_q : RfP Γ z0 r_q N w d_q F K A Nm (pP N w 5 d_q s) σ := by
                      rw [emitP_bd hb1] at hR_q
                      exact hR_q
                    exact go_vretV (pc := 155) rfl dX8_readUnit_155 (Nat.le_of_ble_eq_true rfl) (Nat.le_of_ble_eq_true rfl) (by rw [hE]; exact ⟨rfl, hR_q⟩)
                  · refine go_bipush (v := 14) (pc := 145) dX8_readUnit_145 (by decide) ?_
                    refine go_goto (tgt := 152) (pc := 147) dX8_readUnit_147 (by decide) ?_
                    refine go_V1V (pc := 152) v_X8_149 rfl rfl (rcv_of (ci := 8) (by first | exact mo0 hM_q | exact mo2 hM_q) rfl) dX8_readUnit_152 (sp_laysS (k := k - 1) hM_q hS_q hW hw_q (fun e_q => absurd e_q hb1)) (fun σ n h_q => ?_)
                    obtain ⟨rfl, hR_q⟩ := h_q
                    have hR_q := RfP.tr (F := F) (A := A) (z0 := z0) hF5 hA5 hB5 hf5 hR_q
                    have hR_q : RfP Γ z0 r_q N w d_q F K A Nm (pP N w 5 d_q s) σ := by
                      rw [emitP_bd hb1] at hR_q
                      exact hR_q
                    exact go_vretV (pc := 155) rfl dX8_readUnit_155 (Nat.le_of_ble_eq_true rfl) (Nat.le_of_ble_eq_true rfl) (by rw [hE]; exact ⟨rfl, hR_q⟩)
                · refine go_bipush (v := 13) (pc := 134) dX8_readUnit_134 (by decide) ?_
                  refine go_goto (tgt := 152) (pc := 136) dX8_readUnit_136 (by decide) ?_
                  refine go_V1V (pc := 152) v_X8_149 rfl rfl (rcv_of (ci := 8) (by first | exact mo0 hM_q | exact mo2 hM_q) rfl) dX8_readUnit_152 (sp_laysS (k := k - 1) hM_q hS_q hW hw_q (fun e_q => absurd e_q hb1)) (fun σ n h_q => ?_)
                  obtain ⟨rfl, hR_q⟩ := h_q
                  have hR_q := RfP.tr (F := F) (A := A) (z0 := z0) hF5 hA5 hB5 hf5 hR_q
                  have hR_q : RfP Γ z0 r_q N w d_q F K A Nm (pP N w 5 d_q s) σ := by
                    rw [emitP_bd hb1] at hR_q
                    exact hR_q
                  exact go_vretV (pc := 155) rfl dX8_readUnit_155 (Nat.le_of_ble_eq_true rfl) (Nat.le_of_ble_eq_true rfl) (by rw [hE]; exact ⟨rfl, hR_q⟩)
      · have g50 : s.bad = 0 ∧ kd s.l = 91 := Decidable.not_not.mp (fun hc_q => h_50 (bI_0.mpr hc_q))
        have n1 := nx_lt g50.2 (by decide)
        have hE := pP_4t (N := N) (w := w) (d := d_q) hb_q g50.2
        have hE : pP N w 4 d_q s = needP N 93 (if d_q = 6 then failP N 4 s else pP N w 0 (d_q + 1) (nextP s)) := by
          rw [hE]
          by_cases c_q : d_q = 6
          · rw [if_pos c_q, if_pos c_q, needP_bd (failP_ne (by decide) hb_q)]
          · rw [if_neg c_q, if_neg c_q]
        refine go_aload_n (pc := 53) dX8_readUnit_53 rfl ?_
        refine go_V0V (pc := 54) v_X8_159 rfl rfl (rcv_of (ci := 8) (by first | exact mo0 hM_q | exact mo2 hM_q) rfl) dX8_readUnit_54 (sp_goesIn (k := k - 1) hM_q hS_q hW hw_q hN_q hb_q (kd_ne g50.2 (by decide)) hd_q (by omega)) (fun σ n h_q => ?_)
        obtain ⟨rfl, hR_q⟩ := h_q
        obtain ⟨F2, A2, hM_q, hS_q, hW, hF2, hA2, hB2, hf2⟩ := hR_q
        rw [← hA2 5 (by decide)] at hS_q
        refine go_aload_n (pc := 57) dX8_readUnit_57 rfl ?_
        refine go_V0V (pc := 58) v_X8_165 rfl rfl (rcv_of (ci := 8) (by first | exact mo0 hM_q | exact mo2 hM_q) rfl) dX8_readUnit_58 (ref_in (t_q := 0) (fun e_q => h0_q e_q (by omega)) (refb_0 hw_q hN_q (failP_ne (by decide) hb_q)) hd_q ht_q _ _ (k - 1) F2 A2 hM_q hS_q hW (by omega)) (fun σ n h_q => ?_)
        obtain ⟨rfl, hR_q⟩ := h_q
        have hR_q := RfP.tr (F := F) (A := A) (z0 := z0) hF2 hA2 hB2 hf2 hR_q
        obtain ⟨F3, A3, hM_q, hS_q, hW, hF3, hA3, hB3, hf3⟩ := hR_q
        rw [← hA3 5 (by decide)] at hS_q
        refine go_aload_n (pc := 61) dX8_readUnit_61 rfl ?_
        refine go_bipush (v := 93) (pc := 62) dX8_readUnit_62 (by decide) ?_
        refine go_V1V (pc := 64) v_X8_138 rfl rfl (rcv_of (ci := 8) (by first | exact mo0 hM_q | exact mo2 hM_q) rfl) dX8_readUnit_64 (sp_mustSign (k := k - 1) hM_q hS_q hN_q (c_q := 93) (by decide) (by omega)) (fun σ n h_q => ?_)
        obtain ⟨rfl, F4, hM_q, hS_q, hF4, hf4⟩ := h_q
        have hf_q := hf3.tr hf4
        refine go_aload_n (pc := 67) dX8_readUnit_67 rfl ?_
        refine go_dup (pc := 68) dX8_readUnit_68 rfl ?_
        refine go_getf (pc := 69) f_X8_141 dX8_readUnit_69 (by first | exact mo0 hM_q | exact mo2 hM_q) (by rfl) ?_
        refine go_iconst (v := 1) (pc := 72) dX8_readUnit_72 (by decide) ?_
        refine go_isub (pc := 73) dX8_readUnit_73 ?_
        rw [hF4 16 (by omega), hW.2.2.1, nI_pred]
        refine go_mpf16 (pc := 74) hM_q dX8_readUnit_74 (fun σ hM_q hf9 => ?_)
        have hf_q := hf_q.tr hf9
        have hR_q : RfP Γ z0 r_q N w d_q F K A Nm (needP N 93 (if d_q = 6 then failP N 4 s else pP N w 0 (d_q + 1) (nextP s))) σ := ⟨_, A3, hM_q, (by rw [hA3 5 (by decide)] at hS_q; exact rfR_cg hS_q (fun j h1_q h2_q => pk_un (by omega))), rsR_of hW needP_st needP_b ((pk_un (by decide)).trans (hF4 17 (by omega))) ((pk_un (by decide)).trans (hF4 18 (by omega))) pk_us, fun j h1_q h2_q => (pk_un h2_q).trans ((hF4 j h1_q).trans (hF3 j h1_q h2_q)), hA3, hB3, hf_q⟩
        refine go_goto (tgt := 155) (pc := 77) dX8_readUnit_77 (by decide) ?_
        exact go_vretV (pc := 155) rfl dX8_readUnit_155 (Nat.le_of_ble_eq_true rfl) (Nat.le_of_ble_eq_true rfl) (by rw [hE]; exact ⟨rfl, hR_q⟩)
    · have g14 : s.bad = 0 ∧ kd s.l = 15 := Decidable.not_not.mp (fun hc_q => h_14 (bI_0.mpr hc_q))
      have n1 := nx_lt g14.2 (by decide)
      have n2 := tot_ne g14.2 (by decide)
      have hE := pP_4n (N := N) (w := w) (d := d_q) hb_q g14.2
      have hE : pP N w 4 d_q s = emitP 18 (if d_q = 6 then failP N 4 s else pP N w 4 (d_q + 1) (nextP s)) := by
        rw [hE]
        by_cases c_q : d_q = 6
        · rw [if_pos c_q, if_pos c_q, emitP_bd (failP_ne (by decide) hb_q)]
        · rw [if_neg c_q, if_neg c_q]
      refine go_aload_n (pc := 17) dX8_readUnit_17 rfl ?_
      refine go_V0V (pc := 18) v_X8_159 rfl rfl (rcv_of (ci := 8) (by first | exact mo0 hM_q | exact mo2 hM_q) rfl) dX8_readUnit_18 (sp_goesIn (k := k - 1) hM_q hS_q hW hw_q hN_q hb_q (kd_ne g14.2 (by decide)) hd_q (by omega)) (fun σ n h_q => ?_)
      obtain ⟨rfl, hR_q⟩ := h_q
      obtain ⟨F2, A2, hM_q, hS_q, hW, hF2, hA2, hB2, hf2⟩ := hR_q
      rw [← hA2 5 (by decide)] at hS_q
      refine go_aload_n (pc := 21) dX8_readUnit_21 rfl ?_
      refine go_V0V (pc := 22) v_X8_152 rfl rfl (rcv_of (ci := 8) (by first | exact mo0 hM_q | exact mo2 hM_q) rfl) dX8_readUnit_22 (ref_in (t_q := 4) (fun e_q => h4_q e_q (by omega)) (refb_4 hw_q hN_q (failP_ne (by decide) hb_q)) hd_q ht_q _ _ (k - 1) F2 A2 hM_q hS_q hW (by omega)) (fun σ n h_q => ?_)
      obtain ⟨rfl, hR_q⟩ := h_q
      have hR_q := RfP.tr (F := F) (A := A) (z0 := z0) hF2 hA2 hB2 hf2 hR_q
      obtain ⟨F3, A3, hM_q, hS_q, hW, hF3, hA3, hB3, hf3⟩ := hR_q
      rw [← hA3 5 (by decide)] at hS_q
      refine go_aload_n (pc := 25) dX8_readUnit_25 rfl ?_
      refine go_bipush (v := 18) (pc := 26) dX8_readUnit_26 (by decide) ?_
      refine go_V1V (pc := 28) v_X8_149 rfl rfl (rcv_of (ci := 8) (by first | exact mo0 hM_q | exact mo2 hM_q) rfl) dX8_readUnit_28 (sp_laysS (k := k - 1) hM_q hS_q hW hw_q (fun e_q => by
    have e6_q := in_bad hb_q e_q
    have n3 := pP_tot (N := N) (w := w) (d := d_q + 1) (s := nextP s) (t := 4) (by omega)
    have n4 := st_tot n3
    rw [if_neg e6_q]
    omega)) (fun σ n h_q => ?_)
      obtain ⟨rfl, hR_q⟩ := h_q
      have hR_q := RfP.tr (F := F) (A := A) (z0 := z0) hF3 hA3 hB3 hf3 hR_q
      obtain ⟨F4, A4, hM_q, hS_q, hW, hF4, hA4, hB4, hf4⟩ := hR_q
      rw [← hA4 5 (by decide)] at hS_q
      have hf_q := hf4
      refine go_aload_n (pc := 31) dX8_readUnit_31 rfl ?_
      refine go_dup (pc := 32) dX8_readUnit_32 rfl ?_
      refine go_getf (pc := 33) f_X8_141 dX8_readUnit_33 (by first | exact mo0 hM_q | exact mo2 hM_q) (by rfl) ?_
      refine go_iconst (v := 1) (pc := 36) dX8_readUnit_36 (by decide) ?_
      refine go_isub (pc := 37) dX8_readUnit_37 ?_
      rw [hW.2.2.1, nI_pred]
      refine go_mpf16 (pc := 38) hM_q dX8_readUnit_38 (fun σ hM_q hf9 => ?_)
      have hf_q := hf_q.tr hf9
      have hR_q : RfP Γ z0 r_q N w d_q F K A Nm (emitP 18 (if d_q = 6 then failP N 4 s else pP N w 4 (d_q + 1) (nextP s))) σ := ⟨_, A4, hM_q, (by rw [hA4 5 (by decide)] at hS_q; exact rfR_cg hS_q (fun j h1_q h2_q => pk_un (by omega))), rsR_of hW rfl id (pk_un (by decide)) (pk_un (by decide)) pk_us, fun j h1_q h2_q => (pk_un h2_q).trans (hF4 j h1_q h2_q), hA4, hB4, hf_q⟩
      refine go_goto (tgt := 155) (pc := 41) dX8_readUnit_41 (by decide) ?_
      exact go_vretV (pc := 155) rfl dX8_readUnit_155 (Nat.le_of_ble_eq_true rfl) (Nat.le_of_ble_eq_true rfl) (by rw [hE]; exact ⟨rfl, hR_q⟩)
  · rw [pP_4b hb_q]
    exact refb_4 hw_q hN_q hb_q z0 n k F A hM_q hS_q hW (by omega)
theorem ref_all {Γ : gam} {r_q N w : Nat} {K : row} {Nm : Nat → Int64} (hw_q : 4 ≤ w ∧ w ≤ 6) (hN_q : N ≤ 900) : ∀ (m t_q d_q : Nat) (s : ps), (t_q = 0 ∨ t_q = 2 ∨ t_q = 4 ∨ t_q = 5 ∨ t_q = 7 ∨ t_q = 9) → d_q ≤ 6 → 7 * s.l.length + rk t_q ≤ m → RefOK Γ r_q N w K Nm t_q d_q s := by
  intro m
  induction m with
  | zero =>
    intro t_q d_q s ht_q hd_q h_q
    rcases ht_q with rfl | rfl | rfl | rfl | rfl | rfl <;> exact absurd h_q (by simp [rk])
  | succ m ih_q =>
    intro t_q d_q s ht_q hd_q h_q
    have r0 : rk 0 = 6 := rfl
    have r2 : rk 2 = 5 := rfl
    have r4 : rk 4 = 4 := rfl
    have r5 : rk 5 = 3 := rfl
    have r7 : rk 7 = 2 := rfl
    have r9 : rk 9 = 1 := rfl
    rcases ht_q with rfl | rfl | rfl | rfl | rfl | rfl
    · exact ref_0 hw_q hN_q (fun s' hs => ih_q 2 d_q s' (by omega) hd_q (by omega))
    · exact ref_2 hw_q hN_q (fun s' hs => ih_q 4 d_q s' (by omega) hd_q (by omega))
    · exact ref_4 hw_q hN_q hd_q (fun s' hs => ih_q 5 d_q s' (by omega) hd_q (by omega)) (fun h6_q hs => ih_q 4 (d_q + 1) _ (by omega) (by omega) (by omega)) (fun h6_q hs => ih_q 0 (d_q + 1) _ (by omega) (by omega) (by omega))
    · exact ref_5 hw_q hN_q (fun s' hs => ih_q 7 d_q s' (by omega) hd_q (by omega))
    · exact ref_7 hw_q hN_q (fun s' hs => ih_q 9 d_q s' (by omega) hd_q (by omega))
    · exact ref_9 hw_q hN_q hd_q (fun h6_q hs => ih_q 5 (d_q + 1) _ (by omega) (by omega) (by omega))
theorem ref_ok {Γ : gam} {r_q N w t_q : Nat} {K : row} {Nm : Nat → Int64} {s : ps} (hw_q : 4 ≤ w ∧ w ≤ 6) (hN_q : N ≤ 900) (ht_q : t_q = 0 ∨ t_q = 5) : RefOK Γ r_q N w K Nm t_q 0 s := ref_all hw_q hN_q _ t_q 0 s (by omega) (by omega) (Nat.le_refl _)
