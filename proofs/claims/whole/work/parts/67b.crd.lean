/-! ===== the class: steps along the tokens ===== -/
theorem cp_kindT {Γ : gam} {z0 : sto} {n k a N b_q : Nat} {lw : Int32} {s : ps} (hC : CrAt Γ z0 a N b_q lw s)  : Sp Γ (rmk k 0 0) uX4_kind [.ref (a + 71)] z0 n (qI fun v_q σ' n' => σ' = z0 ∧ n' = n ∧ (s.bad = 0 → v_q = kd s.l)) := by
  obtain ⟨T, t_q, sz, pl, ck, cv, cp, cc, ⟨r0, r1, r2, r3, r4⟩, hT_q, hpl, hl, hst⟩ := hC
  simp only [RdC] at r0
  refine sp_intro [some (.ref (a + 71))] (by decide +kernel) rfl (Nat.le_of_ble_eq_true rfl) rfl ?_
  refine go_aload_n (pc := 0) dX4_kind_0 rfl ?_
  refine go_getf (pc := 1) f_X4_28 dX4_kind_1 (by first | exact r0 | exact r1 | exact r2 | exact r3 | exact r4) (by rfl) ?_
  refine go_if_lt (tgt := 30) (pc := 4) dX4_kind_4 (by decide) (fun h_4 => ?_) (fun h_4 => ?_)
  · refine go_iconst (v := 0) (pc := 30) dX4_kind_30 (by decide) ?_
    exact go_iretI (pc := 31) rfl dX4_kind_31 (Nat.le_of_ble_eq_true rfl) (Nat.le_of_ble_eq_true rfl) (by
  refine ⟨rfl, rfl, fun hb_q => ?_⟩
  obtain ⟨o1, et, eT, hk1, h0_q, -⟩ := hl hb_q
  first
    | (have g_q : t_q = nI j := ej
       have e1_q : o1 = j := (nI_eq (by omega) (by omega)).mp (et.symm.trans g_q)
       rw [← tkR_kd hk1 h0_q, e1_q])
    | (have g_q : t_q < 0 := h_4
       rw [et] at g_q
       exact absurd g_q (nI_pos (by omega)))
    | (have g_q : nI T ≤ t_q := h_15
       rw [et] at g_q
       have := (nI_leI (by omega) (by omega)).mp g_q
       omega))
  · refine go_aload_n (pc := 7) dX4_kind_7 rfl ?_
    refine go_getf (pc := 8) f_X4_28 dX4_kind_8 (by first | exact r0 | exact r1 | exact r2 | exact r3 | exact r4) (by rfl) ?_
    refine go_aload_n (pc := 11) dX4_kind_11 rfl ?_
    refine go_getf (pc := 12) f_X4_24 dX4_kind_12 (by first | exact r0 | exact r1 | exact r2 | exact r3 | exact r4) (by rfl) ?_
    refine go_icmp_ge (tgt := 30) (pc := 15) dX4_kind_15 (by decide) (fun h_15 => ?_) (fun h_15 => ?_)
    · refine go_iconst (v := 0) (pc := 30) dX4_kind_30 (by decide) ?_
      exact go_iretI (pc := 31) rfl dX4_kind_31 (Nat.le_of_ble_eq_true rfl) (Nat.le_of_ble_eq_true rfl) (by
  refine ⟨rfl, rfl, fun hb_q => ?_⟩
  obtain ⟨o1, et, eT, hk1, h0_q, -⟩ := hl hb_q
  first
    | (have g_q : t_q = nI j := ej
       have e1_q : o1 = j := (nI_eq (by omega) (by omega)).mp (et.symm.trans g_q)
       rw [← tkR_kd hk1 h0_q, e1_q])
    | (have g_q : t_q < 0 := h_4
       rw [et] at g_q
       exact absurd g_q (nI_pos (by omega)))
    | (have g_q : nI T ≤ t_q := h_15
       rw [et] at g_q
       have := (nI_leI (by omega) (by omega)).mp g_q
       omega))
    · obtain ⟨j, ej, hj_q⟩ : ∃ j, t_q = nI j ∧ j < T := by
        have g1_q := Int32.le_iff_toInt_le.mp (Int32.not_lt.mp h_4)
        have g2_q := Int32.lt_iff_toInt_lt.mp (Int32.not_le.mp h_15)
        rw [show (0 : Int32).toInt = 0 from rfl] at g1_q
        rw [nI_toInt (by omega)] at g2_q
        exact ⟨t_q.toInt.toNat, I_nat (by omega) (by omega), by omega⟩
      refine go_aload_n (pc := 18) dX4_kind_18 rfl ?_
      refine go_getf (pc := 19) f_X4_9 dX4_kind_19 (by first | exact r0 | exact r1 | exact r2 | exact r3 | exact r4) (by rfl) ?_
      refine go_aload_n (pc := 22) dX4_kind_22 rfl ?_
      refine go_getf (pc := 23) f_X4_28 dX4_kind_23 (by first | exact r0 | exact r1 | exact r2 | exact r3 | exact r4) (by rfl) ?_
      refine go_iald (pc := 26) dX4_kind_26 (by first | exact r0 | exact r1 | exact r2 | exact r3 | exact r4) (by exact ⟨ej, by omega⟩) ?_
      refine go_goto (tgt := 31) (pc := 27) dX4_kind_27 (by decide) ?_
      exact go_iretI (pc := 31) rfl dX4_kind_31 (Nat.le_of_ble_eq_true rfl) (Nat.le_of_ble_eq_true rfl) (by
  refine ⟨rfl, rfl, fun hb_q => ?_⟩
  obtain ⟨o1, et, eT, hk1, h0_q, -⟩ := hl hb_q
  first
    | (have g_q : t_q = nI j := ej
       have e1_q : o1 = j := (nI_eq (by omega) (by omega)).mp (et.symm.trans g_q)
       rw [← tkR_kd hk1 h0_q, e1_q])
    | (have g_q : t_q < 0 := h_4
       rw [et] at g_q
       exact absurd g_q (nI_pos (by omega)))
    | (have g_q : nI T ≤ t_q := h_15
       rw [et] at g_q
       have := (nI_leI (by omega) (by omega)).mp g_q
       omega))
theorem cp_failT {Γ : gam} {z0 : sto} {n k a N b_q : Nat} {lw : Int32} {s : ps} (hC : CrAt Γ z0 a N b_q lw s) {c_q : Int32} (hc_q : c_q ≠ 0) : Sp Γ (rmk k 0 0) uX4_fail [.ref (a + 71), .int c_q] z0 n (qV fun σ' n' => n' = n ∧ CrAt Γ σ' a N b_q lw (failP N c_q s) ∧ ∀ q, q ≠ a + 71 → q ≠ a + 80 → σ' q = z0 q) := by
  obtain ⟨T, t_q, sz, pl, ck, cv, cp, cc, ⟨r0, r1, r2, r3, r4⟩, hT_q, hpl, hl, hst⟩ := hC
  simp only [RdC] at r0
  refine sp_intro [some (.ref (a + 71)), some (.int c_q)] (by decide +kernel) rfl (Nat.le_of_ble_eq_true rfl) rfl ?_
  by_cases hb_q : s.bad = 0
  · obtain ⟨o1, et, eT, hk1, h0_q, hp1⟩ := hl hb_q
    refine go_aload_n (pc := 0) dX4_fail_0 rfl ?_
    refine go_getf (pc := 1) f_X4_37 dX4_fail_1 (by first | exact r0 | exact r1 | exact r2 | exact r3 | exact r4) (by rfl) ?_
    refine go_if_ne (tgt := 53) (pc := 4) dX4_fail_4 (by decide) (fun h_4 => by exfalso; exact h_4 hb_q) (fun h_4 => ?_)
    refine go_aload_n (pc := 7) dX4_fail_7 rfl ?_
    refine go_getf (pc := 8) f_X4_28 dX4_fail_8 (by first | exact r0 | exact r1 | exact r2 | exact r3 | exact r4) (by rfl) ?_
    refine go_aload_n (pc := 11) dX4_fail_11 rfl ?_
    refine go_getf (pc := 12) f_X4_24 dX4_fail_12 (by first | exact r0 | exact r1 | exact r2 | exact r3 | exact r4) (by rfl) ?_
    rw [et]
    refine go_icmp_ge (tgt := 53) (pc := 15) dX4_fail_15 (by decide) (fun h_15 => by exfalso; exact absurd h_15 (nI_ge (by omega) (by omega))) (fun h_15 => ?_)
    refine go_aload_n (pc := 18) dX4_fail_18 rfl ?_
    refine go_aload_n (pc := 19) dX4_fail_19 rfl ?_
    refine go_getf (pc := 20) f_X4_9 dX4_fail_20 (by first | exact r0 | exact r1 | exact r2 | exact r3 | exact r4) (by rfl) ?_
    refine go_aload_n (pc := 23) dX4_fail_23 rfl ?_
    refine go_getf (pc := 24) f_X4_28 dX4_fail_24 (by first | exact r0 | exact r1 | exact r2 | exact r3 | exact r4) (by rfl) ?_
    refine go_iald (pc := 27) dX4_fail_27 (by first | exact r0 | exact r1 | exact r2 | exact r3 | exact r4) (by exact ⟨et, by omega⟩) ?_
    refine go_iconst (v := 1) (pc := 28) dX4_fail_28 (by decide) ?_
    refine go_icmp_ne (tgt := 36) (pc := 29) dX4_fail_29 (by decide) (fun h_29 => ?_) (fun h_29 => ?_)
    · refine go_iload_n (pc := 36) dX4_fail_36 rfl ?_
      refine go_putf (fs' := [_, _, _, _, _, _, _, _, _, _, _, _]) (pc := 37) f_X4_37 dX4_fail_37 (by first | exact r0 | exact r1 | exact r2 | exact r3 | exact r4) (Nat.le_of_ble_eq_true rfl) (by rfl) rfl rfl ?_
      refine go_aload_n (pc := 40) dX4_fail_40 rfl ?_
      refine go_aload_n (pc := 41) dX4_fail_41 rfl ?_
      refine go_getf (pc := 42) f_X4_18 dX4_fail_42 sup_eq (by rfl) ?_
      refine go_aload_n (pc := 45) dX4_fail_45 rfl ?_
      refine go_getf (pc := 46) f_X4_28 dX4_fail_46 sup_eq (by rfl) ?_
      refine go_iald (pc := 49) dX4_fail_49 (sup_ne (by omega) r3) (by exact ⟨et, by omega⟩) ?_
      refine go_putf (fs' := [_, _, _, _, _, _, _, _, _, _, _, _]) (pc := 50) f_X4_40 dX4_fail_50 sup_eq (Nat.le_of_ble_eq_true rfl) (by rfl) rfl rfl ?_
      exact go_vretV (pc := 53) rfl dX4_fail_53 (Nat.le_of_ble_eq_true rfl) (Nat.le_of_ble_eq_true rfl) (by
  have e9_q : failP N c_q s = psm s.l (if kd s.l = 1 then 1 else c_q) (tpl N s.l) s.st := if_pos hb_q
  have nz := failP_ne (N := N) hc_q hb_q
  have ek := tkR_kd hk1 h0_q
  have ep := tkR_pl hk1 hp1
  rw [e9_q] at nz ⊢
  refine ⟨rfl, ⟨T, t_q, sz, _, ck, cv, cp, cc, ⟨?_, (by repeat (first | exact r1 | exact sup_eq | refine sup_ne (by omega) ?_)), (by repeat (first | exact r2 | exact sup_eq | refine sup_ne (by omega) ?_)), (by repeat (first | exact r3 | exact sup_eq | refine sup_ne (by omega) ?_)), (by repeat (first | exact r4 | exact sup_eq | refine sup_ne (by omega) ?_))⟩, hT_q, ep, fun e_q => absurd e_q nz, fun e_q => absurd e_q nz⟩, fun q h1_q h2_q => (by repeat (first | exact rfl | exact sup_eq | refine sup_ne (by omega) ?_))⟩
  first
    | (have g_q : ¬ ck o1 = 1 := h_29
       show _ = some (cO 4 (RdC a (nI T) t_q sz lw b_q (if kd s.l = 1 then 1 else c_q) _))
       rw [if_neg (fun e_q => g_q (ek.trans e_q))]
       exact sup_eq)
    | (have g_q : ck o1 = 1 := h_29
       show _ = some (cO 4 (RdC a (nI T) t_q sz lw b_q (if kd s.l = 1 then 1 else c_q) _))
       rw [if_pos (ek.symm.trans g_q)]
       exact sup_eq))
    · refine go_iconst (v := 1) (pc := 32) dX4_fail_32 (by decide) ?_
      refine go_goto (tgt := 37) (pc := 33) dX4_fail_33 (by decide) ?_
      refine go_putf (fs' := [_, _, _, _, _, _, _, _, _, _, _, _]) (pc := 37) f_X4_37 dX4_fail_37 (by first | exact r0 | exact r1 | exact r2 | exact r3 | exact r4) (Nat.le_of_ble_eq_true rfl) (by rfl) rfl rfl ?_
      refine go_aload_n (pc := 40) dX4_fail_40 rfl ?_
      refine go_aload_n (pc := 41) dX4_fail_41 rfl ?_
      refine go_getf (pc := 42) f_X4_18 dX4_fail_42 sup_eq (by rfl) ?_
      refine go_aload_n (pc := 45) dX4_fail_45 rfl ?_
      refine go_getf (pc := 46) f_X4_28 dX4_fail_46 sup_eq (by rfl) ?_
      refine go_iald (pc := 49) dX4_fail_49 (sup_ne (by omega) r3) (by exact ⟨et, by omega⟩) ?_
      refine go_putf (fs' := [_, _, _, _, _, _, _, _, _, _, _, _]) (pc := 50) f_X4_40 dX4_fail_50 sup_eq (Nat.le_of_ble_eq_true rfl) (by rfl) rfl rfl ?_
      exact go_vretV (pc := 53) rfl dX4_fail_53 (Nat.le_of_ble_eq_true rfl) (Nat.le_of_ble_eq_true rfl) (by
  have e9_q : failP N c_q s = psm s.l (if kd s.l = 1 then 1 else c_q) (tpl N s.l) s.st := if_pos hb_q
  have nz := failP_ne (N := N) hc_q hb_q
  have ek := tkR_kd hk1 h0_q
  have ep := tkR_pl hk1 hp1
  rw [e9_q] at nz ⊢
  refine ⟨rfl, ⟨T, t_q, sz, _, ck, cv, cp, cc, ⟨?_, (by repeat (first | exact r1 | exact sup_eq | refine sup_ne (by omega) ?_)), (by repeat (first | exact r2 | exact sup_eq | refine sup_ne (by omega) ?_)), (by repeat (first | exact r3 | exact sup_eq | refine sup_ne (by omega) ?_)), (by repeat (first | exact r4 | exact sup_eq | refine sup_ne (by omega) ?_))⟩, hT_q, ep, fun e_q => absurd e_q nz, fun e_q => absurd e_q nz⟩, fun q h1_q h2_q => (by repeat (first | exact rfl | exact sup_eq | refine sup_ne (by omega) ?_))⟩
  first
    | (have g_q : ¬ ck o1 = 1 := h_29
       show _ = some (cO 4 (RdC a (nI T) t_q sz lw b_q (if kd s.l = 1 then 1 else c_q) _))
       rw [if_neg (fun e_q => g_q (ek.trans e_q))]
       exact sup_eq)
    | (have g_q : ck o1 = 1 := h_29
       show _ = some (cO 4 (RdC a (nI T) t_q sz lw b_q (if kd s.l = 1 then 1 else c_q) _))
       rw [if_pos (ek.symm.trans g_q)]
       exact sup_eq))
  · refine go_aload_n (pc := 0) dX4_fail_0 rfl ?_
    refine go_getf (pc := 1) f_X4_37 dX4_fail_1 (by first | exact r0 | exact r1 | exact r2 | exact r3 | exact r4) (by rfl) ?_
    refine go_if_ne (tgt := 53) (pc := 4) dX4_fail_4 (by decide) (fun h_4 => ?_) (fun h_4 => by exfalso; exact hb_q h_4)
    exact go_vretV (pc := 53) rfl dX4_fail_53 (Nat.le_of_ble_eq_true rfl) (Nat.le_of_ble_eq_true rfl) ⟨rfl, by rw [failP_bad hb_q]; exact ⟨T, t_q, sz, pl, ck, cv, cp, cc, ⟨r0, r1, r2, r3, r4⟩, hT_q, hpl, hl, hst⟩, fun q _ _ => rfl⟩
theorem cp_needT {Γ : gam} {z0 : sto} {n k a N b_q : Nat} {lw : Int32} {s : ps} (hC : CrAt Γ z0 a N b_q lw s) {c_q : Int32} (hc_q : c_q ≠ 0) (hk : 1 ≤ k) : Sp Γ (rmk k 0 0) uX4_need [.ref (a + 71), .int c_q] z0 n (qV fun σ' n' => n' = n ∧ CrAt Γ σ' a N b_q lw (needP N c_q s) ∧ ∀ q, q ≠ a + 71 → q ≠ a + 80 → σ' q = z0 q) := by
  have hC0 := hC
  obtain ⟨T, t_q, sz, pl, ck, cv, cp, cc, ⟨r0, r1, r2, r3, r4⟩, hT_q, hpl, hl, hst⟩ := hC0
  simp only [RdC] at r0
  refine sp_intro [some (.ref (a + 71)), some (.int c_q)] (by decide +kernel) rfl (Nat.le_of_ble_eq_true rfl) rfl ?_
  by_cases hb_q : s.bad = 0
  · obtain ⟨o1, et, eT, hk1, h0_q, hp1⟩ := hl hb_q
    by_cases hkd : kd s.l = c_q
    · refine go_aload_n (pc := 0) dX4_need_0 rfl ?_
      refine go_getf (pc := 1) f_X4_37 dX4_need_1 (by first | exact r0 | exact r1 | exact r2 | exact r3 | exact r4) (by rfl) ?_
      refine go_if_ne (tgt := 28) (pc := 4) dX4_need_4 (by decide) (fun h_4 => by exfalso; exact h_4 hb_q) (fun h_4 => ?_)
      refine go_aload_n (pc := 7) dX4_need_7 rfl ?_
      refine go_V0I (pc := 8) v_X4_82 rfl rfl (rcv_of (ci := 4) (by first | exact r0 | exact r1 | exact r2 | exact r3 | exact r4) rfl) dX4_need_8 (cp_kindT (k := k - 1) hC) (fun v_8 σ n h_q => ?_)
      obtain ⟨e1_q, e2_q, hv_q⟩ := h_q
      obtain rfl := e1_q.symm
      obtain rfl := e2_q.symm
      refine go_iload_n (pc := 11) dX4_need_11 rfl ?_
      refine go_icmp_ne (tgt := 28) (pc := 12) dX4_need_12 (by decide) (fun h_12 => by exfalso; exact h_12 ((hv_q hb_q).trans hkd)) (fun h_12 => ?_)
      refine go_aload_n (pc := 15) dX4_need_15 rfl ?_
      refine go_dup (pc := 16) dX4_need_16 rfl ?_
      refine go_getf (pc := 17) f_X4_28 dX4_need_17 (by first | exact r0 | exact r1 | exact r2 | exact r3 | exact r4) (by rfl) ?_
      refine go_iconst (v := 1) (pc := 20) dX4_need_20 (by decide) ?_
      refine go_iadd (pc := 21) dX4_need_21 ?_
      rw [et, nI_1]
      refine go_putf (fs' := [_, _, _, _, _, _, _, _, _, _, _, _]) (pc := 22) f_X4_28 dX4_need_22 (by first | exact r0 | exact r1 | exact r2 | exact r3 | exact r4) (Nat.le_of_ble_eq_true rfl) (by rfl) rfl rfl ?_
      refine go_goto (tgt := 33) (pc := 25) dX4_need_25 (by decide) ?_
      exact go_vretV (pc := 33) rfl dX4_need_33 (Nat.le_of_ble_eq_true rfl) (Nat.le_of_ble_eq_true rfl) (by rw [needP, if_pos ⟨hb_q, hkd⟩]; exact ⟨rfl, cr_next hb_q (kd_ne hkd hc_q) ⟨sup_eq, (by repeat (first | exact r1 | exact sup_eq | refine sup_ne (by omega) ?_)), (by repeat (first | exact r2 | exact sup_eq | refine sup_ne (by omega) ?_)), (by repeat (first | exact r3 | exact sup_eq | refine sup_ne (by omega) ?_)), (by repeat (first | exact r4 | exact sup_eq | refine sup_ne (by omega) ?_))⟩ hT_q eT hk1 h0_q hp1 hst hpl, fun q h1_q h2_q => sup_ne h1_q rfl⟩)
    · refine go_aload_n (pc := 0) dX4_need_0 rfl ?_
      refine go_getf (pc := 1) f_X4_37 dX4_need_1 (by first | exact r0 | exact r1 | exact r2 | exact r3 | exact r4) (by rfl) ?_
      refine go_if_ne (tgt := 28) (pc := 4) dX4_need_4 (by decide) (fun h_4 => by exfalso; exact h_4 hb_q) (fun h_4 => ?_)
      refine go_aload_n (pc := 7) dX4_need_7 rfl ?_
      refine go_V0I (pc := 8) v_X4_82 rfl rfl (rcv_of (ci := 4) (by first | exact r0 | exact r1 | exact r2 | exact r3 | exact r4) rfl) dX4_need_8 (cp_kindT (k := k - 1) hC) (fun v_8 σ n h_q => ?_)
      obtain ⟨e1_q, e2_q, hv_q⟩ := h_q
      obtain rfl := e1_q.symm
      obtain rfl := e2_q.symm
      refine go_iload_n (pc := 11) dX4_need_11 rfl ?_
      refine go_icmp_ne (tgt := 28) (pc := 12) dX4_need_12 (by decide) (fun h_12 => ?_) (fun h_12 => by exfalso; exact hkd ((hv_q hb_q).symm.trans h_12))
      refine go_aload_n (pc := 28) dX4_need_28 rfl ?_
      refine go_iconst (v := 2) (pc := 29) dX4_need_29 (by decide) ?_
      refine go_V1V (pc := 30) v_X4_152 rfl rfl (rcv_of (ci := 4) (by first | exact r0 | exact r1 | exact r2 | exact r3 | exact r4) rfl) dX4_need_30 (cp_failT (k := k - 1) hC (c_q := 2) (by decide)) (fun σ n h_q => ?_)
      obtain ⟨rfl, hC1, hq1⟩ := h_q
      exact go_vretV (pc := 33) rfl dX4_need_33 (Nat.le_of_ble_eq_true rfl) (Nat.le_of_ble_eq_true rfl) (by rw [needP, if_neg (fun e_q => hkd e_q.2)]; exact ⟨rfl, hC1, hq1⟩)
  · refine go_aload_n (pc := 0) dX4_need_0 rfl ?_
    refine go_getf (pc := 1) f_X4_37 dX4_need_1 (by first | exact r0 | exact r1 | exact r2 | exact r3 | exact r4) (by rfl) ?_
    refine go_if_ne (tgt := 28) (pc := 4) dX4_need_4 (by decide) (fun h_4 => ?_) (fun h_4 => by exfalso; exact hb_q h_4)
    refine go_aload_n (pc := 28) dX4_need_28 rfl ?_
    refine go_iconst (v := 2) (pc := 29) dX4_need_29 (by decide) ?_
    refine go_V1V (pc := 30) v_X4_152 rfl rfl (rcv_of (ci := 4) (by first | exact r0 | exact r1 | exact r2 | exact r3 | exact r4) rfl) dX4_need_30 (cp_failT (k := k - 1) hC (c_q := 2) (by decide)) (fun σ n h_q => ?_)
    obtain ⟨rfl, hC1, hq1⟩ := h_q
    exact go_vretV (pc := 33) rfl dX4_need_33 (Nat.le_of_ble_eq_true rfl) (Nat.le_of_ble_eq_true rfl) (by rw [needP, if_neg (fun e_q => hb_q e_q.1)]; exact ⟨rfl, hC1, hq1⟩)
theorem cp_numT {Γ : gam} {z0 : sto} {n k a N b_q : Nat} {lw : Int32} {s : ps} (hC : CrAt Γ z0 a N b_q lw s) (lo hi_q : Int32) (hk : 1 ≤ k) : Sp Γ (rmk k 0 0) uX4_number [.ref (a + 71), .int lo, .int hi_q] z0 n (qI fun v_q σ' n' => v_q = (numP N lo hi_q s).1 ∧ n' = n ∧ CrAt Γ σ' a N b_q lw (numP N lo hi_q s).2 ∧ ∀ q, q ≠ a + 71 → q ≠ a + 80 → σ' q = z0 q) := by
  have hC0 := hC
  obtain ⟨T, t_q, sz, pl, ck, cv, cp, cc, ⟨r0, r1, r2, r3, r4⟩, hT_q, hpl, hl, hst⟩ := hC0
  simp only [RdC] at r0
  refine sp_intro [some (.ref (a + 71)), some (.int lo), some (.int hi_q), none] (by decide +kernel) rfl (Nat.le_of_ble_eq_true rfl) rfl ?_
  by_cases hb_q : s.bad = 0
  · obtain ⟨o1, et, eT, hk1, h0_q, hp1⟩ := hl hb_q
    by_cases hkd : kd s.l = 2
    · have hne := kd_ne hkd (by decide)
      have hlp : 0 < s.l.length := List.length_pos_iff.mpr hne
      have hv1 := tkR_vl hk1 hne
      by_cases hw_q : lo ≤ tvl s.l ∧ tvl s.l ≤ hi_q
      · refine go_aload_n (pc := 0) dX4_number_0 rfl ?_
        refine go_getf (pc := 1) f_X4_37 dX4_number_1 (by first | exact r0 | exact r1 | exact r2 | exact r3 | exact r4) (by rfl) ?_
        refine go_if_ne (tgt := 15) (pc := 4) dX4_number_4 (by decide) (fun h_4 => by exfalso; exact h_4 hb_q) (fun h_4 => ?_)
        refine go_aload_n (pc := 7) dX4_number_7 rfl ?_
        refine go_V0I (pc := 8) v_X4_82 rfl rfl (rcv_of (ci := 4) (by first | exact r0 | exact r1 | exact r2 | exact r3 | exact r4) rfl) dX4_number_8 (cp_kindT (k := k - 1) hC) (fun v_8 σ n h_q => ?_)
        obtain ⟨e1_q, e2_q, hv_q⟩ := h_q
        obtain rfl := e1_q.symm
        obtain rfl := e2_q.symm
        refine go_iconst (v := 2) (pc := 11) dX4_number_11 (by decide) ?_
        refine go_icmp_eq (tgt := 22) (pc := 12) dX4_number_12 (by decide) (fun h_12 => ?_) (fun h_12 => by exfalso; exact h_12 ((hv_q hb_q).trans hkd))
        refine go_aload_n (pc := 22) dX4_number_22 rfl ?_
        refine go_getf (pc := 23) f_X4_15 dX4_number_23 (by first | exact r0 | exact r1 | exact r2 | exact r3 | exact r4) (by rfl) ?_
        refine go_aload_n (pc := 26) dX4_number_26 rfl ?_
        refine go_getf (pc := 27) f_X4_28 dX4_number_27 (by first | exact r0 | exact r1 | exact r2 | exact r3 | exact r4) (by rfl) ?_
        refine go_iald (pc := 30) dX4_number_30 (by first | exact r0 | exact r1 | exact r2 | exact r3 | exact r4) (by exact ⟨et, by omega⟩) ?_
        rw [hv1]
        refine go_istore_n (lw := [_, _, _, _]) (pc := 31) dX4_number_31 (by decide) rfl ?_
        refine go_iload_n (pc := 32) dX4_number_32 rfl ?_
        refine go_iload_n (pc := 33) dX4_number_33 rfl ?_
        refine go_icmp_lt (tgt := 42) (pc := 34) dX4_number_34 (by decide) (fun h_34 => by exfalso; exact absurd hw_q.1 (Int32.not_le.mpr h_34)) (fun h_34 => ?_)
        refine go_iload_n (pc := 37) dX4_number_37 rfl ?_
        refine go_iload_n (pc := 38) dX4_number_38 rfl ?_
        refine go_icmp_le (tgt := 49) (pc := 39) dX4_number_39 (by decide) (fun h_39 => ?_) (fun h_39 => by exfalso; exact h_39 hw_q.2)
        refine go_aload_n (pc := 49) dX4_number_49 rfl ?_
        refine go_dup (pc := 50) dX4_number_50 rfl ?_
        refine go_getf (pc := 51) f_X4_28 dX4_number_51 (by first | exact r0 | exact r1 | exact r2 | exact r3 | exact r4) (by rfl) ?_
        refine go_iconst (v := 1) (pc := 54) dX4_number_54 (by decide) ?_
        refine go_iadd (pc := 55) dX4_number_55 ?_
        rw [et, nI_1]
        refine go_putf (fs' := [_, _, _, _, _, _, _, _, _, _, _, _]) (pc := 56) f_X4_28 dX4_number_56 (by first | exact r0 | exact r1 | exact r2 | exact r3 | exact r4) (Nat.le_of_ble_eq_true rfl) (by rfl) rfl rfl ?_
        refine go_iload_n (pc := 59) dX4_number_59 rfl ?_
        exact go_iretI (pc := 60) rfl dX4_number_60 (Nat.le_of_ble_eq_true rfl) (Nat.le_of_ble_eq_true rfl) (by rw [numP, if_pos ⟨hb_q, hkd⟩, if_pos hw_q]; exact ⟨rfl, rfl, cr_next hb_q hne ⟨sup_eq, (by repeat (first | exact r1 | exact sup_eq | refine sup_ne (by omega) ?_)), (by repeat (first | exact r2 | exact sup_eq | refine sup_ne (by omega) ?_)), (by repeat (first | exact r3 | exact sup_eq | refine sup_ne (by omega) ?_)), (by repeat (first | exact r4 | exact sup_eq | refine sup_ne (by omega) ?_))⟩ hT_q eT hk1 h0_q hp1 hst hpl, fun q h1_q h2_q => sup_ne h1_q rfl⟩)
      · refine go_aload_n (pc := 0) dX4_number_0 rfl ?_
        refine go_getf (pc := 1) f_X4_37 dX4_number_1 (by first | exact r0 | exact r1 | exact r2 | exact r3 | exact r4) (by rfl) ?_
        refine go_if_ne (tgt := 15) (pc := 4) dX4_number_4 (by decide) (fun h_4 => by exfalso; exact h_4 hb_q) (fun h_4 => ?_)
        refine go_aload_n (pc := 7) dX4_number_7 rfl ?_
        refine go_V0I (pc := 8) v_X4_82 rfl rfl (rcv_of (ci := 4) (by first | exact r0 | exact r1 | exact r2 | exact r3 | exact r4) rfl) dX4_number_8 (cp_kindT (k := k - 1) hC) (fun v_8 σ n h_q => ?_)
        obtain ⟨e1_q, e2_q, hv_q⟩ := h_q
        obtain rfl := e1_q.symm
        obtain rfl := e2_q.symm
        refine go_iconst (v := 2) (pc := 11) dX4_number_11 (by decide) ?_
        refine go_icmp_eq (tgt := 22) (pc := 12) dX4_number_12 (by decide) (fun h_12 => ?_) (fun h_12 => by exfalso; exact h_12 ((hv_q hb_q).trans hkd))
        refine go_aload_n (pc := 22) dX4_number_22 rfl ?_
        refine go_getf (pc := 23) f_X4_15 dX4_number_23 (by first | exact r0 | exact r1 | exact r2 | exact r3 | exact r4) (by rfl) ?_
        refine go_aload_n (pc := 26) dX4_number_26 rfl ?_
        refine go_getf (pc := 27) f_X4_28 dX4_number_27 (by first | exact r0 | exact r1 | exact r2 | exact r3 | exact r4) (by rfl) ?_
        refine go_iald (pc := 30) dX4_number_30 (by first | exact r0 | exact r1 | exact r2 | exact r3 | exact r4) (by exact ⟨et, by omega⟩) ?_
        rw [hv1]
        refine go_istore_n (lw := [_, _, _, _]) (pc := 31) dX4_number_31 (by decide) rfl ?_
        refine go_iload_n (pc := 32) dX4_number_32 rfl ?_
        refine go_iload_n (pc := 33) dX4_number_33 rfl ?_
        refine go_icmp_lt (tgt := 42) (pc := 34) dX4_number_34 (by decide) (fun h_34 => ?_) (fun h_34 => ?_)
        · refine go_aload_n (pc := 42) dX4_number_42 rfl ?_
          refine go_iconst (v := 3) (pc := 43) dX4_number_43 (by decide) ?_
          refine go_V1V (pc := 44) v_X4_152 rfl rfl (rcv_of (ci := 4) (by first | exact r0 | exact r1 | exact r2 | exact r3 | exact r4) rfl) dX4_number_44 (cp_failT (k := k - 1) hC (c_q := 3) (by decide)) (fun σ n h_q => ?_)
          obtain ⟨rfl, hC1, hq1⟩ := h_q
          refine go_iload_n (pc := 47) dX4_number_47 rfl ?_
          exact go_iretI (pc := 48) rfl dX4_number_48 (Nat.le_of_ble_eq_true rfl) (Nat.le_of_ble_eq_true rfl) (by rw [numP, if_pos ⟨hb_q, hkd⟩, if_neg hw_q]; exact ⟨rfl, rfl, hC1, hq1⟩)
        · refine go_iload_n (pc := 37) dX4_number_37 rfl ?_
          refine go_iload_n (pc := 38) dX4_number_38 rfl ?_
          refine go_icmp_le (tgt := 49) (pc := 39) dX4_number_39 (by decide) (fun h_39 => by exfalso; exact hw_q ⟨Int32.not_lt.mp h_34, h_39⟩) (fun h_39 => ?_)
          refine go_aload_n (pc := 42) dX4_number_42 rfl ?_
          refine go_iconst (v := 3) (pc := 43) dX4_number_43 (by decide) ?_
          refine go_V1V (pc := 44) v_X4_152 rfl rfl (rcv_of (ci := 4) (by first | exact r0 | exact r1 | exact r2 | exact r3 | exact r4) rfl) dX4_number_44 (cp_failT (k := k - 1) hC (c_q := 3) (by decide)) (fun σ n h_q => ?_)
          obtain ⟨rfl, hC1, hq1⟩ := h_q
          refine go_iload_n (pc := 47) dX4_number_47 rfl ?_
          exact go_iretI (pc := 48) rfl dX4_number_48 (Nat.le_of_ble_eq_true rfl) (Nat.le_of_ble_eq_true rfl) (by rw [numP, if_pos ⟨hb_q, hkd⟩, if_neg hw_q]; exact ⟨rfl, rfl, hC1, hq1⟩)
    · refine go_aload_n (pc := 0) dX4_number_0 rfl ?_
      refine go_getf (pc := 1) f_X4_37 dX4_number_1 (by first | exact r0 | exact r1 | exact r2 | exact r3 | exact r4) (by rfl) ?_
      refine go_if_ne (tgt := 15) (pc := 4) dX4_number_4 (by decide) (fun h_4 => by exfalso; exact h_4 hb_q) (fun h_4 => ?_)
      refine go_aload_n (pc := 7) dX4_number_7 rfl ?_
      refine go_V0I (pc := 8) v_X4_82 rfl rfl (rcv_of (ci := 4) (by first | exact r0 | exact r1 | exact r2 | exact r3 | exact r4) rfl) dX4_number_8 (cp_kindT (k := k - 1) hC) (fun v_8 σ n h_q => ?_)
      obtain ⟨e1_q, e2_q, hv_q⟩ := h_q
      obtain rfl := e1_q.symm
      obtain rfl := e2_q.symm
      refine go_iconst (v := 2) (pc := 11) dX4_number_11 (by decide) ?_
      refine go_icmp_eq (tgt := 22) (pc := 12) dX4_number_12 (by decide) (fun h_12 => by exfalso; exact hkd ((hv_q hb_q).symm.trans h_12)) (fun h_12 => ?_)
      refine go_aload_n (pc := 15) dX4_number_15 rfl ?_
      refine go_iconst (v := 2) (pc := 16) dX4_number_16 (by decide) ?_
      refine go_V1V (pc := 17) v_X4_152 rfl rfl (rcv_of (ci := 4) (by first | exact r0 | exact r1 | exact r2 | exact r3 | exact r4) rfl) dX4_number_17 (cp_failT (k := k - 1) hC (c_q := 2) (by decide)) (fun σ n h_q => ?_)
      obtain ⟨rfl, hC1, hq1⟩ := h_q
      refine go_iload_n (pc := 20) dX4_number_20 rfl ?_
      exact go_iretI (pc := 21) rfl dX4_number_21 (Nat.le_of_ble_eq_true rfl) (Nat.le_of_ble_eq_true rfl) (by rw [numP, if_neg (fun e_q => hkd e_q.2)]; exact ⟨rfl, rfl, hC1, hq1⟩)
  · refine go_aload_n (pc := 0) dX4_number_0 rfl ?_
    refine go_getf (pc := 1) f_X4_37 dX4_number_1 (by first | exact r0 | exact r1 | exact r2 | exact r3 | exact r4) (by rfl) ?_
    refine go_if_ne (tgt := 15) (pc := 4) dX4_number_4 (by decide) (fun h_4 => ?_) (fun h_4 => by exfalso; exact hb_q h_4)
    refine go_aload_n (pc := 15) dX4_number_15 rfl ?_
    refine go_iconst (v := 2) (pc := 16) dX4_number_16 (by decide) ?_
    refine go_V1V (pc := 17) v_X4_152 rfl rfl (rcv_of (ci := 4) (by first | exact r0 | exact r1 | exact r2 | exact r3 | exact r4) rfl) dX4_number_17 (cp_failT (k := k - 1) hC (c_q := 2) (by decide)) (fun σ n h_q => ?_)
    obtain ⟨rfl, hC1, hq1⟩ := h_q
    refine go_iload_n (pc := 20) dX4_number_20 rfl ?_
    exact go_iretI (pc := 21) rfl dX4_number_21 (Nat.le_of_ble_eq_true rfl) (Nat.le_of_ble_eq_true rfl) (by rw [numP, if_neg (fun e_q => hb_q e_q.1)]; exact ⟨rfl, rfl, hC1, hq1⟩)
theorem cp_emitT {Γ : gam} {z0 : sto} {n k a N b_q : Nat} {lw : Int32} {s : ps} (hC : CrAt Γ z0 a N b_q lw s) {c_q c2 : Int32} (hc_q : c_q = trS c2) (hsz : s.st.length < 900) : Sp Γ (rmk k 0 0) uX4_emit [.ref (a + 71), .int c_q] z0 n (qV fun σ' n' => n' = n ∧ CrAt Γ σ' a N b_q lw (emitP c2 s) ∧ ∀ q, q ≠ a + 71 → q ≠ a + 80 → σ' q = z0 q) := by
  have hC0 := hC
  obtain ⟨T, t_q, sz, pl, ck, cv, cp, cc, ⟨r0, r1, r2, r3, r4⟩, hT_q, hpl, hl, hst⟩ := hC0
  simp only [RdC] at r0
  refine sp_intro [some (.ref (a + 71)), some (.int c_q)] (by decide +kernel) rfl (Nat.le_of_ble_eq_true rfl) rfl ?_
  by_cases hb_q : s.bad = 0
  · refine go_aload_n (pc := 0) dX4_emit_0 rfl ?_
    refine go_getf (pc := 1) f_X4_37 dX4_emit_1 (by repeat (first | exact r0 | exact r4 | exact sup_eq | refine sup_ne (by omega) ?_)) (by rfl) ?_
    refine go_if_ne (tgt := 39) (pc := 4) dX4_emit_4 (by decide) (fun h_4 => by exfalso; exact h_4 hb_q) (fun h_4 => ?_)
    refine go_aload_n (pc := 7) dX4_emit_7 rfl ?_
    refine go_getf (pc := 8) f_X4_31 dX4_emit_8 (by repeat (first | exact r0 | exact r4 | exact sup_eq | refine sup_ne (by omega) ?_)) (by rfl) ?_
    refine go_aload_n (pc := 11) dX4_emit_11 rfl ?_
    refine go_getf (pc := 12) f_X4_21 dX4_emit_12 (by repeat (first | exact r0 | exact r4 | exact sup_eq | refine sup_ne (by omega) ?_)) (by rfl) ?_
    refine go_alen (pc := 15) dX4_emit_15 (by repeat (first | exact r0 | exact r4 | exact sup_eq | refine sup_ne (by omega) ?_)) (t0 := 0) rfl rfl ?_
    rw [(hst hb_q (Nat.le_of_lt hsz)).1]
    refine go_icmp_ge (tgt := 39) (pc := 16) dX4_emit_16 (by decide) (fun h_16 => by exfalso; exact absurd h_16 (nI_ge (b := 900) (by omega) (by decide))) (fun h_16 => ?_)
    refine go_aload_n (pc := 19) dX4_emit_19 rfl ?_
    refine go_getf (pc := 20) f_X4_21 dX4_emit_20 (by repeat (first | exact r0 | exact r4 | exact sup_eq | refine sup_ne (by omega) ?_)) (by rfl) ?_
    refine go_aload_n (pc := 23) dX4_emit_23 rfl ?_
    refine go_getf (pc := 24) f_X4_31 dX4_emit_24 (by repeat (first | exact r0 | exact r4 | exact sup_eq | refine sup_ne (by omega) ?_)) (by rfl) ?_
    refine go_iload_n (pc := 27) dX4_emit_27 rfl ?_
    refine go_iast (pc := 28) dX4_emit_28 (by repeat (first | exact r0 | exact r4 | exact sup_eq | refine sup_ne (by omega) ?_)) (by exact ⟨(hst hb_q (Nat.le_of_lt hsz)).1, hsz⟩) ?_
    refine go_aload_n (pc := 29) dX4_emit_29 rfl ?_
    refine go_dup (pc := 30) dX4_emit_30 rfl ?_
    refine go_getf (pc := 31) f_X4_31 dX4_emit_31 (by repeat (first | exact r0 | exact r4 | exact sup_eq | refine sup_ne (by omega) ?_)) (by rfl) ?_
    refine go_iconst (v := 1) (pc := 34) dX4_emit_34 (by decide) ?_
    refine go_iadd (pc := 35) dX4_emit_35 ?_
    rw [(hst hb_q (Nat.le_of_lt hsz)).1, nI_1]
    refine go_putf (fs' := [_, _, _, _, _, _, _, _, _, _, _, _]) (pc := 36) f_X4_31 dX4_emit_36 (by repeat (first | exact r0 | exact r4 | exact sup_eq | refine sup_ne (by omega) ?_)) (Nat.le_of_ble_eq_true rfl) (by rfl) rfl rfl ?_
    exact go_vretV (pc := 39) rfl dX4_emit_39 (Nat.le_of_ble_eq_true rfl) (Nat.le_of_ble_eq_true rfl) (by
  rw [emitP, if_pos hb_q]
  refine ⟨rfl, ⟨T, t_q, _, pl, ck, cv, cp, upd cc s.st.length c_q, ⟨sup_eq, (by repeat (first | exact r1 | exact sup_eq | refine sup_ne (by omega) ?_)), (by repeat (first | exact r2 | exact sup_eq | refine sup_ne (by omega) ?_)), (by repeat (first | exact r3 | exact sup_eq | refine sup_ne (by omega) ?_)), (by repeat (first | exact rfl | exact sup_eq | refine sup_ne (by omega) ?_))⟩, hT_q, hpl, hl, fun _ _ => ⟨?_, ?_, fun j hj_q => ?_⟩⟩, fun q h1_q h2_q => (by repeat (first | exact rfl | exact sup_eq | refine sup_ne (by omega) ?_))⟩
  · show nI (s.st.length + 1) = nI (s.st ++ [c2]).length
    rw [List.length_append, List.length_singleton]
  · show (s.st ++ [c2]).length ≤ 900
    rw [List.length_append, List.length_singleton]; omega
  · have hj_q : j < (s.st ++ [c2]).length := hj_q
    rw [List.length_append, List.length_singleton] at hj_q
    show _ = trS ((s.st ++ [c2]).getD j 0)
    by_cases e9_q : j = s.st.length
    · subst e9_q
      rw [pk_us, hc_q]
      simp [List.getD]
    · rw [pk_un e9_q, (hst hb_q (Nat.le_of_lt hsz)).2.2 j (by omega), List.getD_eq_getElem?_getD, List.getD_eq_getElem?_getD, List.getElem?_append_left (by omega)])
  · refine go_aload_n (pc := 0) dX4_emit_0 rfl ?_
    refine go_getf (pc := 1) f_X4_37 dX4_emit_1 (by first | exact r0 | exact r1 | exact r2 | exact r3 | exact r4) (by rfl) ?_
    refine go_if_ne (tgt := 39) (pc := 4) dX4_emit_4 (by decide) (fun h_4 => ?_) (fun h_4 => by exfalso; exact hb_q h_4)
    exact go_vretV (pc := 39) rfl dX4_emit_39 (Nat.le_of_ble_eq_true rfl) (Nat.le_of_ble_eq_true rfl) (by rw [emitP, if_neg hb_q]; exact ⟨rfl, hC, fun q _ _ => rfl⟩)
