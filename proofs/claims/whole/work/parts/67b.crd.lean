/-! ===== the class: steps along the tokens ===== -/
theorem cp_kindT {Γ : gam} {z0 : sto} {n k a N b_q : Nat} {lw : Int32} {s : ps} (hC : CrAt Γ z0 a N b_q lw s)  : Sp Γ (rmk k 0 0) uX4_kind [.ref (a + 71)] z0 n (qI fun v_q σ' n' => σ' = z0 ∧ n' = n ∧ (s.bad = 0 → v_q = kd s.l)) := by
  obtain ⟨T, t_q, sz, pl, ck, cv, cp, cc, ⟨r0, r1, r2, r3, r4⟩, hT_q, hpl, hl, hst⟩ := hC
  simp only [RdC] at r0
  refine sp_intro [some (.ref (a + 71))] (by decide +kernel) rfl (Nat.le_of_ble_eq_true rfl) rfl ?_
  refine go_aload_n (pc := 0) dX4_kind_0 rfl ?_
  refine go_getf (pc := 1) f_X4_28 dX4_kind_1 (by first | exact r0 | exact r1 | exact r2 | exact r3 | exact r4) (by rfl) ?_
  refine go_if_lt (tgt := 30) (pc := 4) dX4_kind_4 (by decide) (fun h_4 => ?_) (fun h_4 => ?_)
  · refine go_iconst (v := 0) (pc := 30) dX4_kind_30 (by decide) ?_
    exact go_iretI (pc := 31) rfl dX4_kind_31 (Nat.le_of_ble_eq_true rfl) (Nat.le_of_ble_eq_true rfl) (by
  refine ⟨rfl, rfl, fun hb_q => ?_⟩
  obtain ⟨o1, et, eT, hk1, h0_q, -⟩ := hl hb_q
  first
    | (have g_q : t_q = nI j := ej
       have e1_q : o1 = j := (nI_eq (by omega) (by omega)).mp (et.symm.trans g_q)
       rw [← tkR_kd hk1 h0_q, e1_q])
    | (have g_q : t_q < 0 := h_4
       rw [et] at g_q
       exact absurd g_q (nI_pos (by omega)))
    | (have g_q : nI T ≤ t_q := h_15
       rw [et] at g_q
       have := (nI_leI (by omega) (by omega)).mp g_q
       omega))
  · refine go_aload_n (pc := 7) dX4_kind_7 rfl ?_
    refine go_getf (pc := 8) f_X4_28 dX4_kind_8 (by first | exact r0 | exact r1 | exact r2 | exact r3 | exact r4) (by rfl) ?_
    refine go_aload_n (pc := 11) dX4_kind_11 rfl ?_
    refine go_getf (pc := 12) f_X4_24 dX4_kind_12 (by first | exact r0 | exact r1 | exact r2 | exact r3 | exact r4) (by rfl) ?_
    refine go_icmp_ge (tgt := 30) (pc := 15) dX4_kind_15 (by decide) (fun h_15 => ?_) (fun h_15 => ?_)
    · refine go_iconst (v := 0) (pc := 30) dX4_kind_30 (by decide) ?_
      exact go_iretI (pc := 31) rfl dX4_kind_31 (Nat.le_of_ble_eq_true rfl) (Nat.le_of_ble_eq_true rfl) (by
  refine ⟨rfl, rfl, fun hb_q => ?_⟩
  obtain ⟨o1, et, eT, hk1, h0_q, -⟩ := hl hb_q
  first
    | (have g_q : t_q = nI j := ej
       have e1_q : o1 = j := (nI_eq (by omega) (by omega)).mp (et.symm.trans g_q)
       rw [← tkR_kd hk1 h0_q, e1_q])
    | (have g_q : t_q < 0 := h_4
       rw [et] at g_q
       exact absurd g_q (nI_pos (by omega)))
    | (have g_q : nI T ≤ t_q := h_15
       rw [et] at g_q
       have := (nI_leI (by omega) (by omega)).mp g_q
       omega))
    · obtain ⟨j, ej, hj_q⟩ : ∃ j, t_q = nI j ∧ j < T := by
        have g1_q := Int32.le_iff_toInt_le.mp (Int32.not_lt.mp h_4)
        have g2_q := Int32.lt_iff_toInt_lt.mp (Int32.not_le.mp h_15)
        rw [show (0 : Int32).toInt = 0 from rfl] at g1_q
        rw [nI_toInt (by omega)] at g2_q
        exact ⟨t_q.toInt.toNat, I_nat (by omega) (by omega), by omega⟩
      refine go_aload_n (pc := 18) dX4_kind_18 rfl ?_
      refine go_getf (pc := 19) f_X4_9 dX4_kind_19 (by first | exact r0 | exact r1 | exact r2 | exact r3 | exact r4) (by rfl) ?_
      refine go_aload_n (pc := 22) dX4_kind_22 rfl ?_
      refine go_getf (pc := 23) f_X4_28 dX4_kind_23 (by first | exact r0 | exact r1 | exact r2 | exact r3 | exact r4) (by rfl) ?_
      refine go_iald (pc := 26) dX4_kind_26 (by first | exact r0 | exact r1 | exact r2 | exact r3 | exact r4) (by exact ⟨ej, by omega⟩) ?_
      refine go_goto (tgt := 31) (pc := 27) dX4_kind_27 (by decide) ?_
      exact go_iretI (pc := 31) rfl dX4_kind_31 (Nat.le_of_ble_eq_true rfl) (Nat.le_of_ble_eq_true rfl) (by
  refine ⟨rfl, rfl, fun hb_q => ?_⟩
  obtain ⟨o1, et, eT, hk1, h0_q, -⟩ := hl hb_q
  first
    | (have g_q : t_q = nI j := ej
       have e1_q : o1 = j := (nI_eq (by omega) (by omega)).mp (et.symm.trans g_q)
       rw [← tkR_kd hk1 h0_q, e1_q])
    | (have g_q : t_q < 0 := h_4
       rw [et] at g_q
       exact absurd g_q (nI_pos (by omega)))
    | (have g_q : nI T ≤ t_q := h_15
       rw [et] at g_q
       have := (nI_leI (by omega) (by omega)).mp g_q
       omega))
theorem cp_failT {Γ : gam} {z0 : sto} {n k a N b_q : Nat} {lw : Int32} {s : ps} (hC : CrAt Γ z0 a N b_q lw s) {c_q : Int32} (hc_q : c_q ≠ 0) : Sp Γ (rmk k 0 0) uX4_fail [.ref (a + 71), .int c_q] z0 n (qV fun σ' n' => n' = n ∧ CrAt Γ σ' a N b_q lw (failP N c_q s) ∧ ∀ q, q ≠ a + 71 → q ≠ a + 80 → σ' q = z0 q) := by
  obtain ⟨T, t_q, sz, pl, ck, cv, cp, cc, ⟨r0, r1, r2, r3, r4⟩, hT_q, hpl, hl, hst⟩ := hC
  simp only [RdC] at r0
  refine sp_intro [some (.ref (a + 71)), some (.int c_q)] (by decide +kernel) rfl (Nat.le_of_ble_eq_true rfl) rfl ?_
  by_cases hb_q : s.bad = 0
  · obtain ⟨o1, et, eT, hk1, h0_q, hp1⟩ := hl hb_q
    refine go_aload_n (pc := 0) dX4_fail_0 rfl ?_
    refine go_getf (pc := 1) f_X4_37 dX4_fail_1 (by first | exact r0 | exact r1 | exact r2 | exact r3 | exact r4) (by rfl) ?_
    refine go_if_ne (tgt := 53) (pc := 4) dX4_fail_4 (by decide) (fun h_4 => by exfalso; exact h_4 hb_q) (fun h_4 => ?_)
    refine go_aload_n (pc := 7) dX4_fail_7 rfl ?_
    refine go_getf (pc := 8) f_X4_28 dX4_fail_8 (by first | exact r0 | exact r1 | exact r2 | exact r3 | exact r4) (by rfl) ?_
    refine go_aload_n (pc := 11) dX4_fail_11 rfl ?_
    refine go_getf (pc := 12) f_X4_24 dX4_fail_12 (by first | exact r0 | exact r1 | exact r2 | exact r3 | exact r4) (by rfl) ?_
    rw [et]
    refine go_icmp_ge (tgt := 53) (pc := 15) dX4_fail_15 (by decide) (fun h_15 => by exfalso; exact absurd h_15 (nI_ge (by omega) (by omega))) (fun h_15 => ?_)
    refine go_aload_n (pc := 18) dX4_fail_18 rfl ?_
    refine go_aload_n (pc := 19) dX4_fail_19 rfl ?_
    refine go_getf (pc := 20) f_X4_9 dX4_fail_20 (by first | exact r0 | exact r1 | exact r2 | exact r3 | exact r4) (by rfl) ?_
    refine go_aload_n (pc := 23) dX4_fail_23 rfl ?_
    refine go_getf (pc := 24) f_X4_28 dX4_fail_24 (by first | exact r0 | exact r1 | exact r2 | exact r3 | exact r4) (by rfl) ?_
    refine go_iald (pc := 27) dX4_fail_27 (by first | exact r0 | exact r1 | exact r2 | exact r3 | exact r4) (by exact ⟨et, by omega⟩) ?_
    refine go_iconst (v := 1) (pc := 28) dX4_fail_28 (by decide) ?_
    refine go_icmp_ne (tgt := 36) (pc := 29) dX4_fail_29 (by decide) (fun h_29 => ?_) (fun h_29 => ?_)
    · refine go_iload_n (pc := 36) dX4_fail_36 rfl ?_
      refine go_putf (fs' := [_, _, _, _, _, _, _, _, _, _, _, _]) (pc := 37) f_X4_37 dX4_fail_37 (by first | exact r0 | exact r1 | exact r2 | exact r3 | exact r4) (Nat.le_of_ble_eq_true rfl) (by rfl) rfl rfl ?_
      refine go_aload_n (pc := 40) dX4_fail_40 rfl ?_
      refine go_aload_n (pc := 41) dX4_fail_41 rfl ?_
      refine go_getf (pc := 42) f_X4_18 dX4_fail_42 sup_eq (by rfl) ?_
      refine go_aload_n (pc := 45) dX4_fail_45 rfl ?_
      refine go_getf (pc := 46) f_X4_28 dX4_fail_46 sup_eq (by rfl) ?_
      refine go_iald (pc := 49) dX4_fail_49 (sup_ne (by omega) r3) (by exact ⟨et, by omega⟩) ?_
      refine go_putf (fs' := [_, _, _, _, _, _, _, _, _, _, _, _]) (pc := 50) f_X4_40 dX4_fail_50 sup_eq (Nat.le_of_ble_eq_true rfl) (by rfl) rfl rfl ?_
      exact go_vretV (pc := 53) rfl dX4_fail_53 (Nat.le_of_ble_eq_true rfl) (Nat.le_of_ble_eq_true rfl) (by
  have e9_q : failP N c_q s = psm s.l (if kd s.l = 1 then 1 else c_q) (tpl N s.l) s.st := if_pos hb_q
  have nz := failP_ne (N := N) hc_q hb_q
  have ek := tkR_kd hk1 h0_q
  have ep := tkR_pl hk1 hp1
  rw [e9_q] at nz ⊢
  refine ⟨rfl, ⟨T, t_q, sz, _, ck, cv, cp, cc, ⟨?_, (by repeat (first | exact r1 | exact sup_eq | refine sup_ne (by omega) ?_)), (by repeat (first | exact r2 | exact sup_eq | refine sup_ne (by omega) ?_)), (by repeat (first | exact r3 | exact sup_eq | refine sup_ne (by omega) ?_)), (by repeat (first | exact r4 | exact sup_eq | refine sup_ne (by omega) ?_))⟩, hT_q, fun _ => ep, fun e_q => absurd e_q nz, fun e_q => absurd e_q nz⟩, fun q h1_q h2_q => (by repeat (first | exact rfl | exact sup_eq | refine sup_ne (by omega) ?_))⟩
  first
    | (have g_q : ¬ ck o1 = 1 := h_29
       show _ = some (cO 4 (RdC a (nI T) t_q sz lw b_q (if kd s.l = 1 then 1 else c_q) _))
       rw [if_neg (fun e_q => g_q (ek.trans e_q))]
       exact sup_eq)
    | (have g_q : ck o1 = 1 := h_29
       show _ = some (cO 4 (RdC a (nI T) t_q sz lw b_q (if kd s.l = 1 then 1 else c_q) _))
       rw [if_pos (ek.symm.trans g_q)]
       exact sup_eq))
    · refine go_iconst (v := 1) (pc := 32) dX4_fail_32 (by decide) ?_
      refine go_goto (tgt := 37) (pc := 33) dX4_fail_33 (by decide) ?_
      refine go_putf (fs' := [_, _, _, _, _, _, _, _, _, _, _, _]) (pc := 37) f_X4_37 dX4_fail_37 (by first | exact r0 | exact r1 | exact r2 | exact r3 | exact r4) (Nat.le_of_ble_eq_true rfl) (by rfl) rfl rfl ?_
      refine go_aload_n (pc := 40) dX4_fail_40 rfl ?_
      refine go_aload_n (pc := 41) dX4_fail_41 rfl ?_
      refine go_getf (pc := 42) f_X4_18 dX4_fail_42 sup_eq (by rfl) ?_
      refine go_aload_n (pc := 45) dX4_fail_45 rfl ?_
      refine go_getf (pc := 46) f_X4_28 dX4_fail_46 sup_eq (by rfl) ?_
      refine go_iald (pc := 49) dX4_fail_49 (sup_ne (by omega) r3) (by exact ⟨et, by omega⟩) ?_
      refine go_putf (fs' := [_, _, _, _, _, _, _, _, _, _, _, _]) (pc := 50) f_X4_40 dX4_fail_50 sup_eq (Nat.le_of_ble_eq_true rfl) (by rfl) rfl rfl ?_
      exact go_vretV (pc := 53) rfl dX4_fail_53 (Nat.le_of_ble_eq_true rfl) (Nat.le_of_ble_eq_true rfl) (by
  have e9_q : failP N c_q s = psm s.l (if kd s.l = 1 then 1 else c_q) (tpl N s.l) s.st := if_pos hb_q
  have nz := failP_ne (N := N) hc_q hb_q
  have ek := tkR_kd hk1 h0_q
  have ep := tkR_pl hk1 hp1
  rw [e9_q] at nz ⊢
  refine ⟨rfl, ⟨T, t_q, sz, _, ck, cv, cp, cc, ⟨?_, (by repeat (first | exact r1 | exact sup_eq | refine sup_ne (by omega) ?_)), (by repeat (first | exact r2 | exact sup_eq | refine sup_ne (by omega) ?_)), (by repeat (first | exact r3 | exact sup_eq | refine sup_ne (by omega) ?_)), (by repeat (first | exact r4 | exact sup_eq | refine sup_ne (by omega) ?_))⟩, hT_q, fun _ => ep, fun e_q => absurd e_q nz, fun e_q => absurd e_q nz⟩, fun q h1_q h2_q => (by repeat (first | exact rfl | exact sup_eq | refine sup_ne (by omega) ?_))⟩
  first
    | (have g_q : ¬ ck o1 = 1 := h_29
       show _ = some (cO 4 (RdC a (nI T) t_q sz lw b_q (if kd s.l = 1 then 1 else c_q) _))
       rw [if_neg (fun e_q => g_q (ek.trans e_q))]
       exact sup_eq)
    | (have g_q : ck o1 = 1 := h_29
       show _ = some (cO 4 (RdC a (nI T) t_q sz lw b_q (if kd s.l = 1 then 1 else c_q) _))
       rw [if_pos (ek.symm.trans g_q)]
       exact sup_eq))
  · refine go_aload_n (pc := 0) dX4_fail_0 rfl ?_
    refine go_getf (pc := 1) f_X4_37 dX4_fail_1 (by first | exact r0 | exact r1 | exact r2 | exact r3 | exact r4) (by rfl) ?_
    refine go_if_ne (tgt := 53) (pc := 4) dX4_fail_4 (by decide) (fun h_4 => ?_) (fun h_4 => by exfalso; exact hb_q h_4)
    exact go_vretV (pc := 53) rfl dX4_fail_53 (Nat.le_of_ble_eq_true rfl) (Nat.le_of_ble_eq_true rfl) ⟨rfl, by rw [failP_bad hb_q]; exact ⟨T, t_q, sz, pl, ck, cv, cp, cc, ⟨r0, r1, r2, r3, r4⟩, hT_q, hpl, hl, hst⟩, fun q _ _ => rfl⟩
