/-! ===== the class: persons ===== -/
theorem put_ix {c_q y_q : Nat} : nI c_q * 5 + nI y_q = nI (5 * c_q + y_q) := by
  rw [show (5 : Int32) = nI 5 from rfl, pk_mul, nI_add, Nat.mul_comm]
theorem cp_putE {Γ : gam} {D : Nat} {ro : Nat → Nat} {z0 : sto} {n k a b_q : Nat} {w m : Int32} {K ag pa pf ch co rw bk : row} {lm lt lw : Value} (hR_q : SrAt Γ ro z0 a b_q w m ch co rw bk) (hQ_q : BrAt Γ D ro z0 b_q K ag pa pf lm lt lw) (hP : okP K) (hsb : b_q + 3 < a ∨ a + 4 < b_q) (hk : 2 ≤ k) {p c_q y_q : Nat} (hp_q : p < 8) (hc_q : c_q < kW K) (hy_q : y_q < kH K) : Sp Γ (rmk k 0 0) uX5_put [.ref a, .int (nI p), .int (nI c_q), .int (nI y_q)] z0 n (qV fun σ' n' => n' = n ∧ SrAt Γ ro σ' a b_q w m (upd ch (5 * c_q + y_q) (nI p)) (upd co p (nI c_q)) (upd rw p (nI y_q)) bk ∧ ∀ q, (q < a + 1 ∨ a + 3 < q) → σ' q = z0 q) := by
  have hH5 := hP.2.2.2.1
  have hW4 := hP.2.2.2.2.2
  refine sp_intro [some (.ref a), some (.int (nI p)), some (.int (nI c_q)), some (.int (nI y_q))] (by decide +kernel) rfl (Nat.le_of_ble_eq_true rfl) rfl ?_
  have c1 := sr1 hR_q
  have c2 := sr2 hR_q
  have c3 := sr3 hR_q
  refine go_aload_n (pc := 0) dX5_put_0 rfl ?_
  refine go_getf (pc := 1) f_X5_31 dX5_put_1 (by first | exact sr0 hR_q | exact be0 hQ_q | exact c1 | exact c2 | exact c3 | exact c4) (by rfl) ?_
  refine go_iload_n (pc := 4) dX5_put_4 rfl ?_
  refine go_iload_n (pc := 5) dX5_put_5 rfl ?_
  refine go_V2P (pc := 6) v_X5_47 rfl rfl (rcv_of (ci := 0) (by first | exact sr0 hR_q | exact be0 hQ_q | exact c1 | exact c2 | exact c3 | exact c4) rfl) dX5_put_6 (cp_isChair (k := k - 1) hQ_q (by omega) _ _) ?_
  refine go_if_eq (tgt := 37) (pc := 9) dX5_put_9 (by decide) (fun h_9 => by exfalso; rw [bI_t ⟨⟨nI_pos' (by omega), (by rw [hP.2.2.2.2.1]; exact nI_lt hc_q (by omega))⟩, nI_pos' (by omega), (by rw [hP.2.2.1]; exact nI_lt hy_q (by omega))⟩] at h_9; exact absurd h_9 (by decide)) (fun h_9 => ?_)
  refine go_aload_n (pc := 12) dX5_put_12 rfl ?_
  refine go_getf (pc := 13) f_X5_9 dX5_put_13 (by first | exact sr0 hR_q | exact be0 hQ_q | exact c1 | exact c2 | exact c3 | exact c4) (by rfl) ?_
  refine go_iload_n (pc := 16) dX5_put_16 rfl ?_
  refine go_iconst (v := 5) (pc := 17) dX5_put_17 (by decide) ?_
  refine go_imul (pc := 18) dX5_put_18 ?_
  refine go_iload_n (pc := 19) dX5_put_19 rfl ?_
  refine go_iadd (pc := 20) dX5_put_20 ?_
  rw [put_ix]
  refine go_iload_n (pc := 21) dX5_put_21 rfl ?_
  refine go_iast (pc := 22) dX5_put_22 (sr1 hR_q) (by exact ⟨rfl, by omega⟩) ?_
  refine go_aload_n (pc := 23) dX5_put_23 rfl ?_
  refine go_getf (pc := 24) f_X5_15 dX5_put_24 (sup_ne (by omega) (sr0 hR_q)) (by rfl) ?_
  refine go_iload_n (pc := 27) dX5_put_27 rfl ?_
  refine go_iload_n (pc := 28) dX5_put_28 rfl ?_
  refine go_iast (pc := 29) dX5_put_29 (sup_ne (by omega) (sr2 hR_q)) (by exact ⟨rfl, by omega⟩) ?_
  refine go_aload_n (pc := 30) dX5_put_30 rfl ?_
  refine go_getf (pc := 31) f_X5_18 dX5_put_31 (sup_ne (by omega) (sup_ne (by omega) (sr0 hR_q))) (by rfl) ?_
  refine go_iload_n (pc := 34) dX5_put_34 rfl ?_
  refine go_iload_n (pc := 35) dX5_put_35 rfl ?_
  refine go_iast (pc := 36) dX5_put_36 (sup_ne (by omega) (sup_ne (by omega) (sr3 hR_q))) (by exact ⟨rfl, by omega⟩) ?_
  exact go_vretV (pc := 37) rfl dX5_put_37 (Nat.le_of_ble_eq_true rfl) (Nat.le_of_ble_eq_true rfl) ⟨rfl, ⟨hR_q.1, (by repeat (first | exact sup_eq | exact sr0 hR_q | exact sr4 hR_q | refine sup_ne (by omega) ?_)), (by repeat (first | exact sup_eq | exact sr0 hR_q | exact sr4 hR_q | refine sup_ne (by omega) ?_)), (by repeat (first | exact sup_eq | exact sr0 hR_q | exact sr4 hR_q | refine sup_ne (by omega) ?_)), (by repeat (first | exact sup_eq | exact sr0 hR_q | exact sr4 hR_q | refine sup_ne (by omega) ?_)), (by repeat (first | exact sup_eq | exact sr0 hR_q | exact sr4 hR_q | refine sup_ne (by omega) ?_))⟩, fun q h1_q => sup_ne (by omega) (sup_ne (by omega) (sup_ne (by omega) rfl))⟩
theorem per_ok2 {N : Nat} {s : ps} {T : row} (h_q : lnI T) (hb_q : s.bad = 0) (h8_q : kP T ≠ 8) (g4_q : (p4 N s T).2.bad = 0) : ∃ c_q r_q, c_q < kW T ∧ r_q < kH T ∧ (p2 N s T).1 = nI c_q ∧ (p4 N s T).1 = nI r_q ∧ sitK T (nI c_q) (nI r_q) = none := by
  obtain ⟨⟨hP, -, -, -⟩, hgS, hH, hW, -, -⟩ := h_q
  obtain ⟨b3, k3, v0, v1, e4_q⟩ := numP_ok g4_q
  have e3_q : p3 N s T = (p2 N s T).2 := by
    unfold p3
    split
    · next c_q =>
      rw [p3, if_pos c_q] at b3
      exact absurd b3 (failP_ne (by decide) c_q.1)
    · rfl
  rw [e3_q] at b3 k3 v0 v1
  obtain ⟨b2, k2, u0, u1, e2_q⟩ := numP_ok b3
  have hn : sitK T (p2 N s T).1 (tvl (p2 N s T).2.l) = none := by
    by_cases hn : sitK T (p2 N s T).1 (tvl (p2 N s T).2.l) = none
    · exact hn
    · rw [p3, if_pos ⟨b3, k3, hn⟩] at e3_q
      rw [← e3_q] at b3
      exact absurd b3 (failP_ne (by decide) (by rw [e3_q] at b3; exact b3))
  have e4_q : (p4 N s T).1 = tvl (p2 N s T).2.l := by
    have : (p4 N s T).1 = tvl (p3 N s T).l := congrArg Prod.fst e4_q
    rw [this, e3_q]
  have e2_q : (p2 N s T).1 = tvl (needP N 6 (nextP s)).l := congrArg Prod.fst e2_q
  rw [← e2_q] at u0 u1
  rw [← e4_q] at v0 v1 hn
  obtain ⟨c_q, hc_q, ec⟩ := nI_m1 hP.2.2.2.2.1 hW (by have := hP.2.2.2.2.2; omega) u0 u1
  obtain ⟨r_q, hr_q, er⟩ := nI_m1 hP.2.2.1 hH (by have := hP.2.2.2.1; omega) v0 v1
  rw [ec, er] at hn
  exact ⟨c_q, r_q, hc_q, hr_q, ec, er, hn⟩
theorem cp_personLine {Γ : gam} {D : Nat} {ro : Nat → Nat} {z0 : sto} {n k a b_q N : Nat} {lw0 : Int32} {s : ps} {T : row} (hC : CrAt Γ z0 a N b_q lw0 s) (hG_q : ClG Γ D ro z0 a b_q T) (hab : a + 113 < b_q) (hbD : b_q + 4 ≤ D) (hI : lnI T) (hb_q : s.bad = 0) (k5 : kd s.l = 5) (hL : s.l.length ≤ 900) (hv_q : vOK s.l) (hk : 8 ≤ k) : Sp Γ (rmk k 0 0) uX4_personLine [.ref (a + 71)] z0 n (qV fun σ' n' => n' = n ∧ ClT Γ D ro σ' a b_q N (fin N (perP N s T).1) (perP N s T).2 ∧ ∀ q, q < b_q → (q < a + 71 ∨ a + 80 < q) → σ' q = z0 q) := by
  have hq_q : ∀ q, q < b_q → (q < a + 71 ∨ a + 80 < q) → z0 q = z0 q := fun _ _ _ => rfl
  have hT3 : T 3 = nI (kP T) := hI.1.1.1
  have hP8 := hI.1.1.2.1
  have n1 := nx_lt k5 (by decide)
  obtain ⟨ag, pa, pf, lm, lt, lw, ch, co, rw, bk, hQ_q, hdf, hR_q, hr_q, hbk⟩ := hG_q
  obtain ⟨tk, t_q, sz, pl, r0⟩ := hC.r0
  refine sp_intro [some (.ref (a + 71)), none, none, none, none] (by decide +kernel) rfl (Nat.le_of_ble_eq_true rfl) rfl ?_
  by_cases e8_q : kP T = 8
  · refine go_aload_n (pc := 0) dX4_personLine_0 rfl ?_
    refine go_getf (pc := 1) f_X4_53 dX4_personLine_1 (by first | exact r0 | exact be0 hQ_q | exact be1 hQ_q | exact be2 hQ_q | exact be3 hQ_q | exact sr0 hR_q) (by rfl) ?_
    refine go_getf (pc := 4) f_X4_190 dX4_personLine_4 (by first | exact r0 | exact be0 hQ_q | exact be1 hQ_q | exact be2 hQ_q | exact be3 hQ_q | exact sr0 hR_q) (by rfl) ?_
    rw [hT3]
    refine go_istore_n (lw := [_, _, _, _, _]) (pc := 7) dX4_personLine_7 (by decide) rfl ?_
    refine go_iload_n (pc := 8) dX4_personLine_8 rfl ?_
    refine go_bipush (v := 8) (pc := 9) dX4_personLine_9 (by decide) ?_
    refine go_icmp_lt (tgt := 20) (pc := 11) dX4_personLine_11 (by decide) (fun h_11 => by exfalso; rw [e8_q] at h_11; exact absurd h_11 (by decide)) (fun h_11 => ?_)
    refine go_aload_n (pc := 14) dX4_personLine_14 rfl ?_
    refine go_iconst (v := 4) (pc := 15) dX4_personLine_15 (by decide) ?_
    refine go_V1V (pc := 16) v_X4_152 rfl rfl (rcv_of (ci := 4) (by first | exact r0 | exact be0 hQ_q | exact be1 hQ_q | exact be2 hQ_q | exact be3 hQ_q | exact sr0 hR_q) rfl) dX4_personLine_16 (cp_failT (k := k - 1) hC (c_q := 4) (by decide)) (fun σ n h_q => ?_)
    obtain ⟨rfl, hC, hq1⟩ := h_q
    have hq_q : ∀ q, q < b_q → (q < a + 71 ∨ a + 80 < q) → σ q = z0 q := fun q h1_q h2_q => (hq1 q (by omega) (by omega)).trans (hq_q q h1_q h2_q)
    have hG_q : ClG Γ D ro σ a b_q T := ClG.kp ⟨ag, pa, pf, lm, lt, lw, ch, co, rw, bk, hQ_q, hdf, hR_q, hr_q, hbk⟩ hq1 hab (by omega)
    obtain ⟨tk, t_q, sz, pl, r0⟩ := hC.r0
    exact go_vretV (pc := 19) rfl dX4_personLine_19 (Nat.le_of_ble_eq_true rfl) (Nat.le_of_ble_eq_true rfl) (by rw [perP, if_pos e8_q]; show _ ∧ ClT Γ D ro _ a b_q N (fin N (failP N 4 s)) T ∧ _; rw [fin_b (failP_ne (by decide) hb_q)]; exact ⟨rfl, ⟨⟨lw0, hC⟩, T, hG_q, hP8, fun _ => rfl⟩, hq_q⟩)
  · refine go_aload_n (pc := 0) dX4_personLine_0 rfl ?_
    refine go_getf (pc := 1) f_X4_53 dX4_personLine_1 (by first | exact r0 | exact be0 hQ_q | exact be1 hQ_q | exact be2 hQ_q | exact be3 hQ_q | exact sr0 hR_q) (by rfl) ?_
    refine go_getf (pc := 4) f_X4_190 dX4_personLine_4 (by first | exact r0 | exact be0 hQ_q | exact be1 hQ_q | exact be2 hQ_q | exact be3 hQ_q | exact sr0 hR_q) (by rfl) ?_
    rw [hT3]
    refine go_istore_n (lw := [_, _, _, _, _]) (pc := 7) dX4_personLine_7 (by decide) rfl ?_
    refine go_iload_n (pc := 8) dX4_personLine_8 rfl ?_
    refine go_bipush (v := 8) (pc := 9) dX4_personLine_9 (by decide) ?_
    refine go_icmp_lt (tgt := 20) (pc := 11) dX4_personLine_11 (by decide) (fun h_11 => ?_) (fun h_11 => by exfalso; exact h_11 (nI_lt (b := 8) (by omega) (by decide)))
    obtain ⟨tk, t_q, sz, pl, r0, hop, -⟩ := hC.op (fun _ => kd_ne k5 (by decide))
    refine go_aload_n (pc := 20) dX4_personLine_20 rfl ?_
    refine go_dup (pc := 21) dX4_personLine_21 rfl ?_
    refine go_getf (pc := 22) f_X4_28 dX4_personLine_22 (by first | exact r0 | exact be0 hQ_q | exact be1 hQ_q | exact be2 hQ_q | exact be3 hQ_q | exact sr0 hR_q) (by rfl) ?_
    refine go_iconst (v := 1) (pc := 25) dX4_personLine_25 (by decide) ?_
    refine go_iadd (pc := 26) dX4_personLine_26 ?_
    refine go_putf (fs' := [_, _, _, _, _, _, _, _, _, _, _, _]) (pc := 27) f_X4_28 dX4_personLine_27 (by first | exact r0 | exact be0 hQ_q | exact be1 hQ_q | exact be2 hQ_q | exact be3 hQ_q | exact sr0 hR_q) (Nat.le_of_ble_eq_true rfl) (by rfl) rfl rfl ?_
    refine go_set (P := fun x_q => CrAt Γ x_q a N b_q lw0 (nextP (s)) ∧ ∀ q, q ≠ a + 71 → q ≠ a + 80 → x_q q = z0 q) ⟨hop hb_q, fun q h1_q h2_q => sup_ne h1_q rfl⟩ (fun σ hx_q => ?_)
    obtain ⟨hC, hq1⟩ := hx_q
    have hq_q : ∀ q, q < b_q → (q < a + 71 ∨ a + 80 < q) → σ q = z0 q := fun q h1_q h2_q => (hq1 q (by omega) (by omega)).trans (hq_q q h1_q h2_q)
    have hG_q : ClG Γ D ro σ a b_q T := ClG.kp ⟨ag, pa, pf, lm, lt, lw, ch, co, rw, bk, hQ_q, hdf, hR_q, hr_q, hbk⟩ hq1 hab (by omega)
    obtain ⟨ag, pa, pf, lm, lt, lw, ch, co, rw, bk, hQ_q, hdf, hR_q, hr_q, hbk⟩ := hG_q
    obtain ⟨tk, t_q, sz, pl, r0⟩ := hC.r0
    refine go_aload_n (pc := 30) dX4_personLine_30 rfl ?_
    refine go_bipush (v := 6) (pc := 31) dX4_personLine_31 (by decide) ?_
    refine go_V1V (pc := 33) v_X4_65 rfl rfl (rcv_of (ci := 4) (by first | exact r0 | exact be0 hQ_q | exact be1 hQ_q | exact be2 hQ_q | exact be3 hQ_q | exact sr0 hR_q) rfl) dX4_personLine_33 (cp_needT (k := k - 1) hC (c_q := 6) (by decide) (by omega)) (fun σ n h_q => ?_)
    obtain ⟨rfl, hC, hq1⟩ := h_q
    have hq_q : ∀ q, q < b_q → (q < a + 71 ∨ a + 80 < q) → σ q = z0 q := fun q h1_q h2_q => (hq1 q (by omega) (by omega)).trans (hq_q q h1_q h2_q)
    have hG_q : ClG Γ D ro σ a b_q T := ClG.kp ⟨ag, pa, pf, lm, lt, lw, ch, co, rw, bk, hQ_q, hdf, hR_q, hr_q, hbk⟩ hq1 hab (by omega)
    obtain ⟨ag, pa, pf, lm, lt, lw, ch, co, rw, bk, hQ_q, hdf, hR_q, hr_q, hbk⟩ := hG_q
    obtain ⟨tk, t_q, sz, pl, r0⟩ := hC.r0
    refine go_aload_n (pc := 36) dX4_personLine_36 rfl ?_
    refine go_iconst (v := 0) (pc := 37) dX4_personLine_37 (by decide) ?_
    refine go_aload_n (pc := 38) dX4_personLine_38 rfl ?_
    refine go_getf (pc := 39) f_X4_53 dX4_personLine_39 (by first | exact r0 | exact be0 hQ_q | exact be1 hQ_q | exact be2 hQ_q | exact be3 hQ_q | exact sr0 hR_q) (by rfl) ?_
    refine go_getf (pc := 42) f_X4_73 dX4_personLine_42 (by first | exact r0 | exact be0 hQ_q | exact be1 hQ_q | exact be2 hQ_q | exact be3 hQ_q | exact sr0 hR_q) (by rfl) ?_
    refine go_iconst (v := 1) (pc := 45) dX4_personLine_45 (by decide) ?_
    refine go_isub (pc := 46) dX4_personLine_46 ?_
    refine go_V2I (pc := 47) v_X4_69 rfl rfl (rcv_of (ci := 4) (by first | exact r0 | exact be0 hQ_q | exact be1 hQ_q | exact be2 hQ_q | exact be3 hQ_q | exact sr0 hR_q) rfl) dX4_personLine_47 (cp_numT (k := k - 1) hC 0 (T 1 - 1) (by omega)) (fun v_47 σ n h_q => ?_)
    obtain ⟨rfl, rfl, hC, hq1⟩ := h_q
    have hq_q : ∀ q, q < b_q → (q < a + 71 ∨ a + 80 < q) → σ q = z0 q := fun q h1_q h2_q => (hq1 q (by omega) (by omega)).trans (hq_q q h1_q h2_q)
    have hG_q : ClG Γ D ro σ a b_q T := ClG.kp ⟨ag, pa, pf, lm, lt, lw, ch, co, rw, bk, hQ_q, hdf, hR_q, hr_q, hbk⟩ hq1 hab (by omega)
    obtain ⟨ag, pa, pf, lm, lt, lw, ch, co, rw, bk, hQ_q, hdf, hR_q, hr_q, hbk⟩ := hG_q
    obtain ⟨tk, t_q, sz, pl, r0⟩ := hC.r0
    have hC : CrAt Γ σ a N b_q lw0 (p2 N s T).2 := hC
    rw [show (numP N 0 (T 1 - 1) (needP N 6 (nextP s))).1 = (p2 N s T).1 from rfl]
    refine go_istore_n (lw := [_, _, _, _, _]) (pc := 50) dX4_personLine_50 (by decide) rfl ?_
    refine go_aload_n (pc := 51) dX4_personLine_51 rfl ?_
    refine go_iload_n (pc := 52) dX4_personLine_52 rfl ?_
    refine go_V1I (pc := 53) v_X4_193 rfl rfl (rcv_of (ci := 4) (by first | exact r0 | exact be0 hQ_q | exact be1 hQ_q | exact be2 hQ_q | exact be3 hQ_q | exact sr0 hR_q) rfl) dX4_personLine_53 (cp_freeRow (k := k - 1) (T := T) hC ⟨ag, pa, pf, lm, lt, lw, ch, co, rw, bk, hQ_q, hdf, hR_q, hr_q, hbk⟩ hab hbD (fun e_q => by
    obtain ⟨b2, k2, u0, u1, e2_q⟩ := numP_ok e_q
    have e2_q : (p2 N s T).1 = tvl (needP N 6 (nextP s)).l := congrArg Prod.fst e2_q
    rw [← e2_q] at u0 u1
    obtain ⟨c_q, hc_q, ec⟩ := nI_m1 hI.1.1.2.2.2.2.1 hI.2.2.2.1 (by have := hI.1.1.2.2.2.2.2; omega) u0 u1
    exact ⟨c_q, hc_q, ec⟩) hI.2.1 hI.1 (fun x_q hx_q => hv_q x_q (sub_p2 hx_q)) (by omega)) (fun v_53 σ n h_q => ?_)
    obtain ⟨rfl, rfl, hC, hq1⟩ := h_q
    have hq_q : ∀ q, q < b_q → (q < a + 71 ∨ a + 80 < q) → σ q = z0 q := fun q h1_q h2_q => (hq1 q (by omega) (by omega)).trans (hq_q q h1_q h2_q)
    have hG_q : ClG Γ D ro σ a b_q T := ClG.kp ⟨ag, pa, pf, lm, lt, lw, ch, co, rw, bk, hQ_q, hdf, hR_q, hr_q, hbk⟩ hq1 hab (by omega)
    obtain ⟨ag, pa, pf, lm, lt, lw, ch, co, rw, bk, hQ_q, hdf, hR_q, hr_q, hbk⟩ := hG_q
    obtain ⟨tk, t_q, sz, pl, r0⟩ := hC.r0
    have hC : CrAt Γ σ a N b_q lw0 (p4 N s T).2 := hC
    obtain ⟨tk, t_q, sz, pl, r0⟩ := hC.r0
    rw [show (numP N 0 (T 2 - 1) (fr3 N (p2 N s T).2 (p2 N s T).1 T)).1 = (p4 N s T).1 from rfl]
    refine go_istore_n (lw := [_, _, _, _, _]) (pc := 56) dX4_personLine_56 (by decide) rfl ?_
    refine go_aload_n (pc := 57) dX4_personLine_57 rfl ?_
    refine go_getf (pc := 58) f_X4_37 dX4_personLine_58 (by first | exact r0 | exact be0 hQ_q | exact be1 hQ_q | exact be2 hQ_q | exact be3 hQ_q | exact sr0 hR_q) (by rfl) ?_
    refine go_if_eq (tgt := 65) (pc := 61) dX4_personLine_61 (by decide) (fun h_61 => ?_) (fun h_61 => ?_)
    · have g4_q : (p4 N s T).2.bad = 0 := h_61
      obtain ⟨c_q, r_q, hc_q, hr9_q, ec, er, hn⟩ := per_ok2 hI hb_q e8_q g4_q
      obtain ⟨p, ep⟩ : ∃ p, kP T = p := ⟨_, rfl⟩
      have hp_q : p < 8 := by omega
      have e5_q : p5 N s T = flG N p (p4 N s T).2 (T4 p T) := by rw [p5, ep]
      have eP_q : perP N s T = ((p5 N s T).1, T6 p (nI c_q) (nI r_q) (p5 N s T).2) := by rw [perP, if_neg e8_q, ec, er, ep]
      have n2 := len_p4 (N := N) (s := s) (T := T)
      rw [eP_q, ec, er, ep]
      refine go_aload_n (pc := 65) dX4_personLine_65 rfl ?_
      refine go_getf (pc := 66) f_X4_43 dX4_personLine_66 (by first | exact r0 | exact be0 hQ_q | exact be1 hQ_q | exact be2 hQ_q | exact be3 hQ_q | exact sr0 hR_q) (by rfl) ?_
      refine go_iload_n (pc := 69) dX4_personLine_69 rfl ?_
      refine go_iload_n (pc := 70) dX4_personLine_70 rfl ?_
      refine go_iload_n (pc := 71) dX4_personLine_71 rfl ?_
      refine go_V3V (pc := 72) v_X4_196 rfl rfl (rcv_of (ci := 5) (by first | exact r0 | exact be0 hQ_q | exact be1 hQ_q | exact be2 hQ_q | exact be3 hQ_q | exact sr0 hR_q) rfl) dX4_personLine_72 (cp_putE (k := k - 1) hR_q hQ_q hI.1.1 (by omega) (by omega) hp_q hc_q hr9_q) (fun σ n h_q => ?_)
      obtain ⟨rfl, hR1, hq1⟩ := h_q
      have hC : CrAt Γ σ a N b_q lw0 (p4 N s T).2 := hC.sg (fun q h1_q h2_q => hq1 q (by omega))
      have hq_q : ∀ q, q < b_q → (q < a + 71 ∨ a + 80 < q) → σ q = z0 q := fun q h1_q h2_q => (hq1 q (by omega)).trans (hq_q q h1_q h2_q)
      have q0 := (hq1 b_q (by omega)).trans (be0 hQ_q)
      obtain ⟨tk, t_q, sz, pl, r0⟩ := hC.r0
      refine go_aload_n (pc := 75) dX4_personLine_75 rfl ?_
      refine go_getf (pc := 76) f_X4_53 dX4_personLine_76 (by first | exact r0 | exact be0 hQ_q | exact be1 hQ_q | exact be2 hQ_q | exact be3 hQ_q | exact sr0 hR_q) (by rfl) ?_
      refine go_dup (pc := 79) dX4_personLine_79 rfl ?_
      refine go_getf (pc := 80) f_X4_190 dX4_personLine_80 q0 (by rfl) ?_
      refine go_iconst (v := 1) (pc := 83) dX4_personLine_83 (by decide) ?_
      refine go_iadd (pc := 84) dX4_personLine_84 ?_
      rw [hT3, ep, nI_1]
      refine go_putf (fs' := [_, _, _, _, _, _, _, _, _, _, _]) (pc := 85) f_X4_190 dX4_personLine_85 q0 (Nat.le_of_ble_eq_true rfl) (by rfl) rfl rfl ?_
      refine go_set (P := fun x_q => CrAt Γ x_q a N b_q lw0 (p4 N s T).2 ∧ ClG Γ D ro x_q a b_q (T6 p (nI c_q) (nI r_q) (T4 p T)) ∧ ∀ q, q < b_q → (q < a + 71 ∨ a + 80 < q) → x_q q = z0 q) ⟨hC.sg (fun q h1_q h2_q => sup_ne (by omega) rfl), clg_per hI hQ_q hdf hr_q hbk ep hp_q hc_q hr9_q hn hR1 (fun q h1_q => hq1 q (by omega)) hab hbD, fun q h1_q h2_q => sup_ne (by omega) (hq_q q h1_q h2_q)⟩ (fun σ hx_q => ?_)
      obtain ⟨hC, hG_q, hq_q⟩ := hx_q
      refine go_iconst (v := 0) (pc := 88) dX4_personLine_88 (by decide) ?_
      refine go_istore (lw := [_, _, _, _, _]) (pc := 89) dX4_personLine_89 (by decide) rfl ?_
      refine go_meas (fun m9_q lv9 s8 n9 => ∃ (s9 : ps), ∃ (T9 : row), ∃ (i_q : Nat), lv9 = [some (.ref (a + 71)), some (.int (nI p)), some (.int (nI c_q)), some (.int (nI r_q)), some (.int (nI i_q))] ∧ (CrAt Γ s8 a N b_q lw0 s9) ∧ (ClG Γ D ro s8 a b_q (T6 p (nI c_q) (nI r_q) T9)) ∧ (∀ q, q < b_q → (q < a + 71 ∨ a + 80 < q) → s8 q = z0 q) ∧ (fin N (flG N p s9 T9).1 = fin N (p5 N s T).1) ∧ (s9.bad = 0 → flG N p s9 T9 = p5 N s T) ∧ (s9.bad = 0 → i_q + s9.l.length ≤ 899) ∧ (i_q ≤ 900) ∧ m9_q = mB s9 ∧ n = n9) (mB (p4 N s T).2) ⟨(p4 N s T).2, (T4 p T), 0, rfl, hC, hG_q, hq_q, (by rw [e5_q]), (fun _ => e5_q.symm), (fun _ => by omega), (by omega), rfl, rfl⟩ ?_
      rintro m9_q lv9 σ n9 ⟨s9, T9, i_q, rfl, hC, hG_q, hq_q, hE1, hE2, hi_q, hi9, rfl, rfl⟩ ih0
      obtain ⟨tk, t_q, sz, pl, r0⟩ := hC.r0
      refine go_iload (pc := 91) dX4_personLine_91 rfl ?_
      refine go_sipush (v := 900) (pc := 93) dX4_personLine_93 (by decide) ?_
      refine go_icmp_ge (tgt := 126) (pc := 96) dX4_personLine_96 (by decide) (fun h_96 => ?_) (fun h_96 => ?_)
      · exact go_vretV (pc := 126) rfl dX4_personLine_126 (Nat.le_of_ble_eq_true rfl) (Nat.le_of_ble_eq_true rfl) (by
  show _ ∧ ClT Γ D ro _ a b_q N (fin N (p5 N s T).1) (T6 p (nI c_q) (nI r_q) (p5 N s T).2) ∧ _
  by_cases hb9 : s9.bad = 0
  · have g59 : kd s9.l = 59 := by
      first
        | (have g_q : (900 : Int32) ≤ nI i_q := h_96
           exact absurd g_q (nI_ge (b := 900) (by have := hi_q hb9; omega) (by decide)))
        | (have g_q : ¬ s9.bad = 0 := h_103
           exact absurd hb9 g_q)
        | (have g_q : kd s9.l = 59 := h_112
           exact g_q)
    have ee := hE2 hb9
    rw [flG_e (by rw [g59]; decide) (by rw [g59]; decide) (by rw [g59]; decide)] at ee
    rw [← ee]
    show _ ∧ ClT Γ D ro _ a b_q N (fin N s9) (T6 p (nI c_q) (nI r_q) T9) ∧ _
    rw [fin_e g59]
    exact ⟨rfl, ⟨⟨lw0, hC⟩, _, hG_q, (by rw [T6_P hp_q]; omega), fun _ => rfl⟩, hq_q⟩
  · rw [flG_b hb9] at hE1
    rw [← hE1]
    show _ ∧ ClT Γ D ro _ a b_q N (fin N s9) _ ∧ _
    rw [fin_b hb9]
    exact ⟨rfl, ⟨⟨lw0, hC⟩, _, hG_q, (by rw [T6_P hp_q]; omega), fun e_q => absurd e_q hb9⟩, hq_q⟩)
      · refine go_aload_n (pc := 99) dX4_personLine_99 rfl ?_
        refine go_getf (pc := 100) f_X4_37 dX4_personLine_100 (by first | exact r0 | exact be0 hQ_q | exact be1 hQ_q | exact be2 hQ_q | exact be3 hQ_q | exact sr0 hR_q) (by rfl) ?_
        refine go_if_ne (tgt := 126) (pc := 103) dX4_personLine_103 (by decide) (fun h_103 => ?_) (fun h_103 => ?_)
        · exact go_vretV (pc := 126) rfl dX4_personLine_126 (Nat.le_of_ble_eq_true rfl) (Nat.le_of_ble_eq_true rfl) (by
  show _ ∧ ClT Γ D ro _ a b_q N (fin N (p5 N s T).1) (T6 p (nI c_q) (nI r_q) (p5 N s T).2) ∧ _
  by_cases hb9 : s9.bad = 0
  · have g59 : kd s9.l = 59 := by
      first
        | (have g_q : (900 : Int32) ≤ nI i_q := h_96
           exact absurd g_q (nI_ge (b := 900) (by have := hi_q hb9; omega) (by decide)))
        | (have g_q : ¬ s9.bad = 0 := h_103
           exact absurd hb9 g_q)
        | (have g_q : kd s9.l = 59 := h_112
           exact g_q)
    have ee := hE2 hb9
    rw [flG_e (by rw [g59]; decide) (by rw [g59]; decide) (by rw [g59]; decide)] at ee
    rw [← ee]
    show _ ∧ ClT Γ D ro _ a b_q N (fin N s9) (T6 p (nI c_q) (nI r_q) T9) ∧ _
    rw [fin_e g59]
    exact ⟨rfl, ⟨⟨lw0, hC⟩, _, hG_q, (by rw [T6_P hp_q]; omega), fun _ => rfl⟩, hq_q⟩
  · rw [flG_b hb9] at hE1
    rw [← hE1]
    show _ ∧ ClT Γ D ro _ a b_q N (fin N s9) _ ∧ _
    rw [fin_b hb9]
    exact ⟨rfl, ⟨⟨lw0, hC⟩, _, hG_q, (by rw [T6_P hp_q]; omega), fun e_q => absurd e_q hb9⟩, hq_q⟩)
        · refine go_aload_n (pc := 106) dX4_personLine_106 rfl ?_
          refine go_V0I (pc := 107) v_X4_82 rfl rfl (rcv_of (ci := 4) (by first | exact r0 | exact be0 hQ_q | exact be1 hQ_q | exact be2 hQ_q | exact be3 hQ_q | exact sr0 hR_q) rfl) dX4_personLine_107 (cp_kindT (k := k - 1) hC) (fun v_107 σ n h_q => ?_)
          obtain ⟨e1_q, e2_q, hkv⟩ := h_q
          obtain rfl := e1_q.symm
          obtain rfl := e2_q.symm
          obtain rfl := hkv h_103
          refine go_bipush (v := 59) (pc := 110) dX4_personLine_110 (by decide) ?_
          refine go_icmp_eq (tgt := 126) (pc := 112) dX4_personLine_112 (by decide) (fun h_112 => ?_) (fun h_112 => ?_)
          · exact go_vretV (pc := 126) rfl dX4_personLine_126 (Nat.le_of_ble_eq_true rfl) (Nat.le_of_ble_eq_true rfl) (by
  show _ ∧ ClT Γ D ro _ a b_q N (fin N (p5 N s T).1) (T6 p (nI c_q) (nI r_q) (p5 N s T).2) ∧ _
  by_cases hb9 : s9.bad = 0
  · have g59 : kd s9.l = 59 := by
      first
        | (have g_q : (900 : Int32) ≤ nI i_q := h_96
           exact absurd g_q (nI_ge (b := 900) (by have := hi_q hb9; omega) (by decide)))
        | (have g_q : ¬ s9.bad = 0 := h_103
           exact absurd hb9 g_q)
        | (have g_q : kd s9.l = 59 := h_112
           exact g_q)
    have ee := hE2 hb9
    rw [flG_e (by rw [g59]; decide) (by rw [g59]; decide) (by rw [g59]; decide)] at ee
    rw [← ee]
    show _ ∧ ClT Γ D ro _ a b_q N (fin N s9) (T6 p (nI c_q) (nI r_q) T9) ∧ _
    rw [fin_e g59]
    exact ⟨rfl, ⟨⟨lw0, hC⟩, _, hG_q, (by rw [T6_P hp_q]; omega), fun _ => rfl⟩, hq_q⟩
  · rw [flG_b hb9] at hE1
    rw [← hE1]
    show _ ∧ ClT Γ D ro _ a b_q N (fin N s9) _ ∧ _
    rw [fin_b hb9]
    exact ⟨rfl, ⟨⟨lw0, hC⟩, _, hG_q, (by rw [T6_P hp_q]; omega), fun e_q => absurd e_q hb9⟩, hq_q⟩)
          · refine go_aload_n (pc := 115) dX4_personLine_115 rfl ?_
            refine go_iload_n (pc := 116) dX4_personLine_116 rfl ?_
            refine go_V1V (pc := 117) v_X4_199 rfl rfl (rcv_of (ci := 4) (by first | exact r0 | exact be0 hQ_q | exact be1 hQ_q | exact be2 hQ_q | exact be3 hQ_q | exact sr0 hR_q) rfl) dX4_personLine_117 (cp_flag (k := k - 1) hC hG_q hab hbD (p := p) h_103 (by rw [T6_P hp_q]; omega) (by rw [T6_P hp_q]; omega) (by omega)) (fun σ n h_q => ?_)
            obtain ⟨rfl, hC, hG_q, hq1⟩ := h_q
            have hq_q : ∀ q, q < b_q → (q < a + 71 ∨ a + 80 < q) → σ q = z0 q := fun q h1_q h2_q => (hq1 q h1_q h2_q).trans (hq_q q h1_q h2_q)
            refine go_iinc (v := 1) (lw := [_, _, _, _, _]) (pc := 120) dX4_personLine_120 rfl (by decide) (by decide) rfl ?_
            refine go_goto (tgt := 91) (pc := 123) dX4_personLine_123 (by decide) ?_
            rw [nI_1]
            exact ih0 _ _ _ _ (fl_mB h_103) ⟨_, flT N p s9 T9, i_q + 1, rfl, hC, (by rw [← T6_fl hp_q]; exact hG_q), hq_q, (fl_step h_103 h_112).1.trans hE1, (fun e_q => ((fl_step h_103 h_112).2 e_q).trans (hE2 h_103)), (fun e_q => by have := fl_len h_103 e_q; have := hi_q h_103; omega), (by have := hi_q h_103; omega), rfl, rfl⟩
    · exact go_vretV (pc := 64) rfl dX4_personLine_64 (Nat.le_of_ble_eq_true rfl) (Nat.le_of_ble_eq_true rfl) (by
  have e5_q : (p5 N s T).1 = (p4 N s T).2 := by rw [p5, flG_b h_61]
  rw [perP, if_neg e8_q]
  show _ ∧ ClT Γ D ro _ a b_q N (fin N (p5 N s T).1) _ ∧ _
  rw [e5_q, fin_b h_61]
  exact ⟨rfl, ⟨⟨lw0, hC⟩, T, ⟨ag, pa, pf, lm, lt, lw, ch, co, rw, bk, hQ_q, hdf, hR_q, hr_q, hbk⟩, hP8, fun e_q => absurd e_q h_61⟩, hq_q⟩)
