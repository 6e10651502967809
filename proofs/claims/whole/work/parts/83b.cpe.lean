/-! ===== the class: persons ===== -/
def flS (N : Nat) (s : ps) : ps := if kd s.l = 11 then (numP N 0 99 (nextP s)).2 else if kd s.l = 12 then nextP s else if kd s.l = 13 then (numP N 1 99 (plP N s)).2 else failP N 2 s
def flT (N p : Nat) (s : ps) (T : row) : row := if kd s.l = 11 then upd T (34 + p) (numP N 0 99 (nextP s)).1 else if kd s.l = 12 then upd T 42 (T 42 ||| ((1 : Int32) <<< (nI p &&& 31))) else if kd s.l = 13 then upd (upd T (43 + p) (numP N 0 999 (nextP s)).1) (51 + p) (numP N 1 99 (plP N s)).1 else T
theorem CrAt.rc {Γ : gam} {σ : sto} {a N b_q n : Nat} {lw : Int32} {s : ps} (hC : CrAt Γ σ a N b_q lw s) : rcv Γ σ n (a + 71) RX4 := by
  obtain ⟨tk, t_q, sz, pl, r0⟩ := hC.r0
  exact rcv_of r0 rfl
theorem CrAt.sg {Γ : gam} {σ σ1 : sto} {a N b_q : Nat} {lw : Int32} {s : ps} (hC : CrAt Γ σ a N b_q lw s) (hq_q : ∀ q, q ≤ a + 80 → q < a + 72 ∨ a + 76 < q → σ1 q = σ q) : CrAt Γ σ1 a N b_q lw s := cr_kp hC (fun q h_q => hq_q q (by omega) (by omega))
theorem cp_flag {Γ : gam} {D : Nat} {ro : Nat → Nat} {z0 : sto} {n k a b_q N : Nat} {lw0 : Int32} {s : ps} {T : row} (hC : CrAt Γ z0 a N b_q lw0 s) (hG_q : ClG Γ D ro z0 a b_q T) (hab : a + 113 < b_q) (hbD : b_q + 4 ≤ D) {p : Nat} (hb_q : s.bad = 0) (hp_q : p < kP T) (h8_q : kP T ≤ 8) (hk : 4 ≤ k) : Sp Γ (rmk k 0 0) uX4_flag [.ref (a + 71), .int (nI p)] z0 n (qV fun σ' n' => n' = n ∧ CrAt Γ σ' a N b_q lw0 (flS N s) ∧ ClG Γ D ro σ' a b_q (flT N p s T) ∧ ∀ q, q < b_q → (q < a + 71 ∨ a + 80 < q) → σ' q = z0 q) := by
  have hq_q : ∀ q, q < b_q → (q < a + 71 ∨ a + 80 < q) → z0 q = z0 q := fun _ _ _ => rfl
  obtain ⟨ag, pa, pf, lm, lt, lw, ch, co, rw, bk, hQ_q, hdf, hR_q, hr_q, hbk⟩ := hG_q
  obtain ⟨tk, t_q, sz, pl, r0⟩ := hC.r0
  refine sp_intro [some (.ref (a + 71)), some (.int (nI p)), none] (by decide +kernel) rfl (Nat.le_of_ble_eq_true rfl) rfl ?_
  by_cases k11 : kd s.l = 11
  · refine go_aload_n (pc := 0) dX4_flag_0 rfl ?_
    refine go_V0I (pc := 1) v_X4_82 rfl rfl (rcv_of (ci := 4) (by first | exact r0 | exact be0 hQ_q | exact be1 hQ_q | exact be2 hQ_q | exact be3 hQ_q | exact sr0 hR_q) rfl) dX4_flag_1 (cp_kindT (k := k - 1) hC) (fun v_1 σ n h_q => ?_)
    obtain ⟨e1_q, e2_q, hkv⟩ := h_q
    obtain rfl := e1_q.symm
    obtain rfl := e2_q.symm
    obtain rfl := hkv hb_q
    refine go_istore_n (lw := [_, _, _]) (pc := 4) dX4_flag_4 (by decide) rfl ?_
    refine go_iload_n (pc := 5) dX4_flag_5 rfl ?_
    refine go_bipush (v := 11) (pc := 6) dX4_flag_6 (by decide) ?_
    refine go_icmp_eq (tgt := 29) (pc := 8) dX4_flag_8 (by decide) (fun h_8 => ?_) (fun h_8 => by exfalso; exact h_8 (k11))
    obtain ⟨tk, t_q, sz, pl, r0, hop, -⟩ := hC.op (fun _ => kd_ne k11 (by decide))
    refine go_aload_n (pc := 29) dX4_flag_29 rfl ?_
    refine go_dup (pc := 30) dX4_flag_30 rfl ?_
    refine go_getf (pc := 31) f_X4_28 dX4_flag_31 (by first | exact r0 | exact be0 hQ_q | exact be1 hQ_q | exact be2 hQ_q | exact be3 hQ_q | exact sr0 hR_q) (by rfl) ?_
    refine go_iconst (v := 1) (pc := 34) dX4_flag_34 (by decide) ?_
    refine go_iadd (pc := 35) dX4_flag_35 ?_
    refine go_putf (fs' := [_, _, _, _, _, _, _, _, _, _, _, _]) (pc := 36) f_X4_28 dX4_flag_36 (by first | exact r0 | exact be0 hQ_q | exact be1 hQ_q | exact be2 hQ_q | exact be3 hQ_q | exact sr0 hR_q) (Nat.le_of_ble_eq_true rfl) (by rfl) rfl rfl ?_
    refine go_set (P := fun x_q => CrAt Γ x_q a N b_q lw0 (nextP (s)) ∧ ∀ q, q ≠ a + 71 → q ≠ a + 80 → x_q q = z0 q) ⟨hop hb_q, fun q h1_q h2_q => sup_ne h1_q rfl⟩ (fun σ hx_q => ?_)
    obtain ⟨hC, hq1⟩ := hx_q
    have hq_q : ∀ q, q < b_q → (q < a + 71 ∨ a + 80 < q) → σ q = z0 q := fun q h1_q h2_q => (hq1 q (by omega) (by omega)).trans (hq_q q h1_q h2_q)
    have hG_q : ClG Γ D ro σ a b_q T := ClG.kp ⟨ag, pa, pf, lm, lt, lw, ch, co, rw, bk, hQ_q, hdf, hR_q, hr_q, hbk⟩ hq1 hab (by omega)
    obtain ⟨ag, pa, pf, lm, lt, lw, ch, co, rw, bk, hQ_q, hdf, hR_q, hr_q, hbk⟩ := hG_q
    obtain ⟨tk, t_q, sz, pl, r0⟩ := hC.r0
    refine go_iload_n (pc := 39) dX4_flag_39 rfl ?_
    refine go_bipush (v := 11) (pc := 40) dX4_flag_40 (by decide) ?_
    refine go_icmp_ne (tgt := 64) (pc := 42) dX4_flag_42 (by decide) (fun h_42 => by exfalso; exact h_42 (k11)) (fun h_42 => ?_)
    refine go_aload_n (pc := 45) dX4_flag_45 rfl ?_
    refine go_getf (pc := 46) f_X4_53 dX4_flag_46 (by first | exact r0 | exact be0 hQ_q | exact be1 hQ_q | exact be2 hQ_q | exact be3 hQ_q | exact sr0 hR_q) (by rfl) ?_
    refine go_getf (pc := 49) f_X4_205 dX4_flag_49 (by first | exact r0 | exact be0 hQ_q | exact be1 hQ_q | exact be2 hQ_q | exact be3 hQ_q | exact sr0 hR_q) (by rfl) ?_
    refine go_iload_n (pc := 52) dX4_flag_52 rfl ?_
    refine go_aload_n (pc := 53) dX4_flag_53 rfl ?_
    refine go_iconst (v := 0) (pc := 54) dX4_flag_54 (by decide) ?_
    refine go_bipush (v := 99) (pc := 55) dX4_flag_55 (by decide) ?_
    refine go_V2I (pc := 57) v_X4_69 rfl rfl (rcv_of (ci := 4) (by first | exact r0 | exact be0 hQ_q | exact be1 hQ_q | exact be2 hQ_q | exact be3 hQ_q | exact sr0 hR_q) rfl) dX4_flag_57 (cp_numT (k := k - 1) hC 0 99 (by omega)) (fun v_57 σ n h_q => ?_)
    obtain ⟨rfl, rfl, hC, hq1⟩ := h_q
    have hq_q : ∀ q, q < b_q → (q < a + 71 ∨ a + 80 < q) → σ q = z0 q := fun q h1_q h2_q => (hq1 q (by omega) (by omega)).trans (hq_q q h1_q h2_q)
    have hG_q : ClG Γ D ro σ a b_q T := ClG.kp ⟨ag, pa, pf, lm, lt, lw, ch, co, rw, bk, hQ_q, hdf, hR_q, hr_q, hbk⟩ hq1 hab (by omega)
    obtain ⟨ag, pa, pf, lm, lt, lw, ch, co, rw, bk, hQ_q, hdf, hR_q, hr_q, hbk⟩ := hG_q
    obtain ⟨tk, t_q, sz, pl, r0⟩ := hC.r0
    refine go_iast (pc := 60) dX4_flag_60 (be1 hQ_q) (by exact ⟨rfl, by omega⟩) ?_
    refine go_set (P := fun x_q => CrAt Γ x_q a N b_q lw0 (numP N 0 99 (nextP s)).2 ∧ ClG Γ D ro x_q a b_q (upd T (34 + p) (numP N 0 99 (nextP s)).1) ∧ ∀ q, q < b_q → (q < a + 71 ∨ a + 80 < q) → x_q q = z0 q) ⟨hC.sg (fun q h1_q h2_q => sup_ne (by omega) rfl), clg_age hQ_q hdf hR_q hr_q hbk h8_q hp_q hab hbD, fun q h1_q h2_q => sup_ne (by omega) (hq_q q h1_q h2_q)⟩ (fun σ hx_q => ?_)
    obtain ⟨hC, hG_q, hq_q⟩ := hx_q
    refine go_goto (tgt := 127) (pc := 61) dX4_flag_61 (by decide) ?_
    exact go_vretV (pc := 127) rfl dX4_flag_127 (Nat.le_of_ble_eq_true rfl) (Nat.le_of_ble_eq_true rfl) (by rw [flS, flT, if_pos k11, if_pos k11]; exact ⟨rfl, hC, hG_q, hq_q⟩)
  · by_cases k12 : kd s.l = 12
    · refine go_aload_n (pc := 0) dX4_flag_0 rfl ?_
      refine go_V0I (pc := 1) v_X4_82 rfl rfl (rcv_of (ci := 4) (by first | exact r0 | exact be0 hQ_q | exact be1 hQ_q | exact be2 hQ_q | exact be3 hQ_q | exact sr0 hR_q) rfl) dX4_flag_1 (cp_kindT (k := k - 1) hC) (fun v_1 σ n h_q => ?_)
      obtain ⟨e1_q, e2_q, hkv⟩ := h_q
      obtain rfl := e1_q.symm
      obtain rfl := e2_q.symm
      obtain rfl := hkv hb_q
      refine go_istore_n (lw := [_, _, _]) (pc := 4) dX4_flag_4 (by decide) rfl ?_
      refine go_iload_n (pc := 5) dX4_flag_5 rfl ?_
      refine go_bipush (v := 11) (pc := 6) dX4_flag_6 (by decide) ?_
      refine go_icmp_eq (tgt := 29) (pc := 8) dX4_flag_8 (by decide) (fun h_8 => by exfalso; exact absurd h_8 (k11)) (fun h_8 => ?_)
      refine go_iload_n (pc := 11) dX4_flag_11 rfl ?_
      refine go_bipush (v := 12) (pc := 12) dX4_flag_12 (by decide) ?_
      refine go_icmp_eq (tgt := 29) (pc := 14) dX4_flag_14 (by decide) (fun h_14 => ?_) (fun h_14 => by exfalso; exact h_14 (k12))
      obtain ⟨tk, t_q, sz, pl, r0, hop, -⟩ := hC.op (fun _ => kd_ne k12 (by decide))
      refine go_aload_n (pc := 29) dX4_flag_29 rfl ?_
      refine go_dup (pc := 30) dX4_flag_30 rfl ?_
      refine go_getf (pc := 31) f_X4_28 dX4_flag_31 (by first | exact r0 | exact be0 hQ_q | exact be1 hQ_q | exact be2 hQ_q | exact be3 hQ_q | exact sr0 hR_q) (by rfl) ?_
      refine go_iconst (v := 1) (pc := 34) dX4_flag_34 (by decide) ?_
      refine go_iadd (pc := 35) dX4_flag_35 ?_
      refine go_putf (fs' := [_, _, _, _, _, _, _, _, _, _, _, _]) (pc := 36) f_X4_28 dX4_flag_36 (by first | exact r0 | exact be0 hQ_q | exact be1 hQ_q | exact be2 hQ_q | exact be3 hQ_q | exact sr0 hR_q) (Nat.le_of_ble_eq_true rfl) (by rfl) rfl rfl ?_
      refine go_set (P := fun x_q => CrAt Γ x_q a N b_q lw0 (nextP (s)) ∧ ∀ q, q ≠ a + 71 → q ≠ a + 80 → x_q q = z0 q) ⟨hop hb_q, fun q h1_q h2_q => sup_ne h1_q rfl⟩ (fun σ hx_q => ?_)
      obtain ⟨hC, hq1⟩ := hx_q
      have hq_q : ∀ q, q < b_q → (q < a + 71 ∨ a + 80 < q) → σ q = z0 q := fun q h1_q h2_q => (hq1 q (by omega) (by omega)).trans (hq_q q h1_q h2_q)
      have hG_q : ClG Γ D ro σ a b_q T := ClG.kp ⟨ag, pa, pf, lm, lt, lw, ch, co, rw, bk, hQ_q, hdf, hR_q, hr_q, hbk⟩ hq1 hab (by omega)
      obtain ⟨ag, pa, pf, lm, lt, lw, ch, co, rw, bk, hQ_q, hdf, hR_q, hr_q, hbk⟩ := hG_q
      obtain ⟨tk, t_q, sz, pl, r0⟩ := hC.r0
      refine go_iload_n (pc := 39) dX4_flag_39 rfl ?_
      refine go_bipush (v := 11) (pc := 40) dX4_flag_40 (by decide) ?_
      refine go_icmp_ne (tgt := 64) (pc := 42) dX4_flag_42 (by decide) (fun h_42 => ?_) (fun h_42 => by exfalso; exact absurd h_42 (k11))
      refine go_iload_n (pc := 64) dX4_flag_64 rfl ?_
      refine go_bipush (v := 12) (pc := 65) dX4_flag_65 (by decide) ?_
      refine go_icmp_ne (tgt := 88) (pc := 67) dX4_flag_67 (by decide) (fun h_67 => by exfalso; exact h_67 (k12)) (fun h_67 => ?_)
      refine go_aload_n (pc := 70) dX4_flag_70 rfl ?_
      refine go_getf (pc := 71) f_X4_53 dX4_flag_71 (by first | exact r0 | exact be0 hQ_q | exact be1 hQ_q | exact be2 hQ_q | exact be3 hQ_q | exact sr0 hR_q) (by rfl) ?_
      refine go_dup (pc := 74) dX4_flag_74 rfl ?_
      refine go_getf (pc := 75) f_X4_207 dX4_flag_75 (by first | exact r0 | exact be0 hQ_q | exact be1 hQ_q | exact be2 hQ_q | exact be3 hQ_q | exact sr0 hR_q) (by rfl) ?_
      refine go_iconst (v := 1) (pc := 78) dX4_flag_78 (by decide) ?_
      refine go_iload_n (pc := 79) dX4_flag_79 rfl ?_
      refine go_ishl (pc := 80) dX4_flag_80 ?_
      refine go_ior (pc := 81) dX4_flag_81 ?_
      refine go_putf (fs' := [_, _, _, _, _, _, _, _, _, _, _]) (pc := 82) f_X4_207 dX4_flag_82 (by first | exact r0 | exact be0 hQ_q | exact be1 hQ_q | exact be2 hQ_q | exact be3 hQ_q | exact sr0 hR_q) (Nat.le_of_ble_eq_true rfl) (by rfl) rfl rfl ?_
      refine go_set (P := fun x_q => CrAt Γ x_q a N b_q lw0 (nextP s) ∧ ClG Γ D ro x_q a b_q (upd T 42 (T 42 ||| ((1 : Int32) <<< (nI p &&& 31)))) ∧ ∀ q, q < b_q → (q < a + 71 ∨ a + 80 < q) → x_q q = z0 q) ⟨hC.sg (fun q h1_q h2_q => sup_ne (by omega) rfl), clg_slp hQ_q hdf hR_q hr_q hbk h8_q hab hbD, fun q h1_q h2_q => sup_ne (by omega) (hq_q q h1_q h2_q)⟩ (fun σ hx_q => ?_)
      obtain ⟨hC, hG_q, hq_q⟩ := hx_q
      refine go_goto (tgt := 127) (pc := 85) dX4_flag_85 (by decide) ?_
      exact go_vretV (pc := 127) rfl dX4_flag_127 (Nat.le_of_ble_eq_true rfl) (Nat.le_of_ble_eq_true rfl) (by rw [flS, flT, if_neg k11, if_neg k11, if_pos k12, if_pos k12]; exact ⟨rfl, hC, hG_q, hq_q⟩)
    · by_cases k13 : kd s.l = 13
      · refine go_aload_n (pc := 0) dX4_flag_0 rfl ?_
        refine go_V0I (pc := 1) v_X4_82 rfl rfl (rcv_of (ci := 4) (by first | exact r0 | exact be0 hQ_q | exact be1 hQ_q | exact be2 hQ_q | exact be3 hQ_q | exact sr0 hR_q) rfl) dX4_flag_1 (cp_kindT (k := k - 1) hC) (fun v_1 σ n h_q => ?_)
        obtain ⟨e1_q, e2_q, hkv⟩ := h_q
        obtain rfl := e1_q.symm
        obtain rfl := e2_q.symm
        obtain rfl := hkv hb_q
        refine go_istore_n (lw := [_, _, _]) (pc := 4) dX4_flag_4 (by decide) rfl ?_
        refine go_iload_n (pc := 5) dX4_flag_5 rfl ?_
        refine go_bipush (v := 11) (pc := 6) dX4_flag_6 (by decide) ?_
        refine go_icmp_eq (tgt := 29) (pc := 8) dX4_flag_8 (by decide) (fun h_8 => by exfalso; exact absurd h_8 (k11)) (fun h_8 => ?_)
        refine go_iload_n (pc := 11) dX4_flag_11 rfl ?_
        refine go_bipush (v := 12) (pc := 12) dX4_flag_12 (by decide) ?_
        refine go_icmp_eq (tgt := 29) (pc := 14) dX4_flag_14 (by decide) (fun h_14 => by exfalso; exact absurd h_14 (k12)) (fun h_14 => ?_)
        refine go_iload_n (pc := 17) dX4_flag_17 rfl ?_
        refine go_bipush (v := 13) (pc := 18) dX4_flag_18 (by decide) ?_
        refine go_icmp_eq (tgt := 29) (pc := 20) dX4_flag_20 (by decide) (fun h_20 => ?_) (fun h_20 => by exfalso; exact h_20 (k13))
        obtain ⟨tk, t_q, sz, pl, r0, hop, -⟩ := hC.op (fun _ => kd_ne k13 (by decide))
        refine go_aload_n (pc := 29) dX4_flag_29 rfl ?_
        refine go_dup (pc := 30) dX4_flag_30 rfl ?_
        refine go_getf (pc := 31) f_X4_28 dX4_flag_31 (by first | exact r0 | exact be0 hQ_q | exact be1 hQ_q | exact be2 hQ_q | exact be3 hQ_q | exact sr0 hR_q) (by rfl) ?_
        refine go_iconst (v := 1) (pc := 34) dX4_flag_34 (by decide) ?_
        refine go_iadd (pc := 35) dX4_flag_35 ?_
        refine go_putf (fs' := [_, _, _, _, _, _, _, _, _, _, _, _]) (pc := 36) f_X4_28 dX4_flag_36 (by first | exact r0 | exact be0 hQ_q | exact be1 hQ_q | exact be2 hQ_q | exact be3 hQ_q | exact sr0 hR_q) (Nat.le_of_ble_eq_true rfl) (by rfl) rfl rfl ?_
        refine go_set (P := fun x_q => CrAt Γ x_q a N b_q lw0 (nextP (s)) ∧ ∀ q, q ≠ a + 71 → q ≠ a + 80 → x_q q = z0 q) ⟨hop hb_q, fun q h1_q h2_q => sup_ne h1_q rfl⟩ (fun σ hx_q => ?_)
        obtain ⟨hC, hq1⟩ := hx_q
        have hq_q : ∀ q, q < b_q → (q < a + 71 ∨ a + 80 < q) → σ q = z0 q := fun q h1_q h2_q => (hq1 q (by omega) (by omega)).trans (hq_q q h1_q h2_q)
        have hG_q : ClG Γ D ro σ a b_q T := ClG.kp ⟨ag, pa, pf, lm, lt, lw, ch, co, rw, bk, hQ_q, hdf, hR_q, hr_q, hbk⟩ hq1 hab (by omega)
        obtain ⟨ag, pa, pf, lm, lt, lw, ch, co, rw, bk, hQ_q, hdf, hR_q, hr_q, hbk⟩ := hG_q
        obtain ⟨tk, t_q, sz, pl, r0⟩ := hC.r0
        refine go_iload_n (pc := 39) dX4_flag_39 rfl ?_
        refine go_bipush (v := 11) (pc := 40) dX4_flag_40 (by decide) ?_
        refine go_icmp_ne (tgt := 64) (pc := 42) dX4_flag_42 (by decide) (fun h_42 => ?_) (fun h_42 => by exfalso; exact absurd h_42 (k11))
        refine go_iload_n (pc := 64) dX4_flag_64 rfl ?_
        refine go_bipush (v := 12) (pc := 65) dX4_flag_65 (by decide) ?_
        refine go_icmp_ne (tgt := 88) (pc := 67) dX4_flag_67 (by decide) (fun h_67 => ?_) (fun h_67 => by exfalso; exact absurd h_67 (k12))
        refine go_aload_n (pc := 88) dX4_flag_88 rfl ?_
        refine go_getf (pc := 89) f_X4_53 dX4_flag_89 (by first | exact r0 | exact be0 hQ_q | exact be1 hQ_q | exact be2 hQ_q | exact be3 hQ_q | exact sr0 hR_q) (by rfl) ?_
        refine go_getf (pc := 92) f_X4_209 dX4_flag_92 (by first | exact r0 | exact be0 hQ_q | exact be1 hQ_q | exact be2 hQ_q | exact be3 hQ_q | exact sr0 hR_q) (by rfl) ?_
        refine go_iload_n (pc := 95) dX4_flag_95 rfl ?_
        refine go_aload_n (pc := 96) dX4_flag_96 rfl ?_
        refine go_iconst (v := 0) (pc := 97) dX4_flag_97 (by decide) ?_
        refine go_sipush (v := 999) (pc := 98) dX4_flag_98 (by decide) ?_
        refine go_V2I (pc := 101) v_X4_69 rfl rfl (rcv_of (ci := 4) (by first | exact r0 | exact be0 hQ_q | exact be1 hQ_q | exact be2 hQ_q | exact be3 hQ_q | exact sr0 hR_q) rfl) dX4_flag_101 (cp_numT (k := k - 1) hC 0 999 (by omega)) (fun v_101 σ n h_q => ?_)
        obtain ⟨rfl, rfl, hC, hq1⟩ := h_q
        have hq_q : ∀ q, q < b_q → (q < a + 71 ∨ a + 80 < q) → σ q = z0 q := fun q h1_q h2_q => (hq1 q (by omega) (by omega)).trans (hq_q q h1_q h2_q)
        have hG_q : ClG Γ D ro σ a b_q T := ClG.kp ⟨ag, pa, pf, lm, lt, lw, ch, co, rw, bk, hQ_q, hdf, hR_q, hr_q, hbk⟩ hq1 hab (by omega)
        obtain ⟨ag, pa, pf, lm, lt, lw, ch, co, rw, bk, hQ_q, hdf, hR_q, hr_q, hbk⟩ := hG_q
        obtain ⟨tk, t_q, sz, pl, r0⟩ := hC.r0
        refine go_iast (pc := 104) dX4_flag_104 (be2 hQ_q) (by exact ⟨rfl, by omega⟩) ?_
        obtain ⟨T1, eT1⟩ : ∃ T1, T1 = upd T (43 + p) (numP N 0 999 (nextP s)).1 := ⟨_, rfl⟩
        refine go_set (P := fun x_q => CrAt Γ x_q a N b_q lw0 (numP N 0 999 (nextP s)).2 ∧ ClG Γ D ro x_q a b_q (T1) ∧ ∀ q, q < b_q → (q < a + 71 ∨ a + 80 < q) → x_q q = z0 q) ⟨hC.sg (fun q h1_q h2_q => sup_ne (by omega) rfl), (by rw [eT1]; exact clg_at hQ_q hdf hR_q hr_q hbk h8_q hp_q hab hbD), fun q h1_q h2_q => sup_ne (by omega) (hq_q q h1_q h2_q)⟩ (fun σ hx_q => ?_)
        obtain ⟨hC, hG_q, hq_q⟩ := hx_q
        have eP1 : kP T1 = kP T := by show (T1 3).toNatClampNeg = _; rw [eT1, pk_un (by omega)]
        rw [← eP1] at hp_q h8_q
        obtain ⟨ag, pa, pf, lm, lt, lw, ch, co, rw, bk, hQ_q, hdf, hR_q, hr_q, hbk⟩ := hG_q
        obtain ⟨tk, t_q, sz, pl, r0⟩ := hC.r0
        refine go_aload_n (pc := 105) dX4_flag_105 rfl ?_
        refine go_bipush (v := 14) (pc := 106) dX4_flag_106 (by decide) ?_
        refine go_V1V (pc := 108) v_X4_65 rfl rfl (rcv_of (ci := 4) (by first | exact r0 | exact be0 hQ_q | exact be1 hQ_q | exact be2 hQ_q | exact be3 hQ_q | exact sr0 hR_q) rfl) dX4_flag_108 (cp_needT (k := k - 1) hC (c_q := 14) (by decide) (by omega)) (fun σ n h_q => ?_)
        obtain ⟨rfl, hC, hq1⟩ := h_q
        have hq_q : ∀ q, q < b_q → (q < a + 71 ∨ a + 80 < q) → σ q = z0 q := fun q h1_q h2_q => (hq1 q (by omega) (by omega)).trans (hq_q q h1_q h2_q)
        have hG_q : ClG Γ D ro σ a b_q T1 := ClG.kp ⟨ag, pa, pf, lm, lt, lw, ch, co, rw, bk, hQ_q, hdf, hR_q, hr_q, hbk⟩ hq1 hab (by omega)
        obtain ⟨ag, pa, pf, lm, lt, lw, ch, co, rw, bk, hQ_q, hdf, hR_q, hr_q, hbk⟩ := hG_q
        obtain ⟨tk, t_q, sz, pl, r0⟩ := hC.r0
        refine go_aload_n (pc := 111) dX4_flag_111 rfl ?_
        refine go_getf (pc := 112) f_X4_53 dX4_flag_112 (by first | exact r0 | exact be0 hQ_q | exact be1 hQ_q | exact be2 hQ_q | exact be3 hQ_q | exact sr0 hR_q) (by rfl) ?_
        refine go_getf (pc := 115) f_X4_212 dX4_flag_115 (by first | exact r0 | exact be0 hQ_q | exact be1 hQ_q | exact be2 hQ_q | exact be3 hQ_q | exact sr0 hR_q) (by rfl) ?_
        refine go_iload_n (pc := 118) dX4_flag_118 rfl ?_
        refine go_aload_n (pc := 119) dX4_flag_119 rfl ?_
        refine go_iconst (v := 1) (pc := 120) dX4_flag_120 (by decide) ?_
        refine go_bipush (v := 99) (pc := 121) dX4_flag_121 (by decide) ?_
        refine go_V2I (pc := 123) v_X4_69 rfl rfl (rcv_of (ci := 4) (by first | exact r0 | exact be0 hQ_q | exact be1 hQ_q | exact be2 hQ_q | exact be3 hQ_q | exact sr0 hR_q) rfl) dX4_flag_123 (cp_numT (k := k - 1) hC 1 99 (by omega)) (fun v_123 σ n h_q => ?_)
        obtain ⟨rfl, rfl, hC, hq1⟩ := h_q
        have hq_q : ∀ q, q < b_q → (q < a + 71 ∨ a + 80 < q) → σ q = z0 q := fun q h1_q h2_q => (hq1 q (by omega) (by omega)).trans (hq_q q h1_q h2_q)
        have hG_q : ClG Γ D ro σ a b_q T1 := ClG.kp ⟨ag, pa, pf, lm, lt, lw, ch, co, rw, bk, hQ_q, hdf, hR_q, hr_q, hbk⟩ hq1 hab (by omega)
        obtain ⟨ag, pa, pf, lm, lt, lw, ch, co, rw, bk, hQ_q, hdf, hR_q, hr_q, hbk⟩ := hG_q
        obtain ⟨tk, t_q, sz, pl, r0⟩ := hC.r0
        refine go_iast (pc := 126) dX4_flag_126 (be3 hQ_q) (by exact ⟨rfl, by omega⟩) ?_
        refine go_set (P := fun x_q => CrAt Γ x_q a N b_q lw0 (numP N 1 99 (plP N s)).2 ∧ ClG Γ D ro x_q a b_q (upd T1 (51 + p) (numP N 1 99 (plP N s)).1) ∧ ∀ q, q < b_q → (q < a + 71 ∨ a + 80 < q) → x_q q = z0 q) ⟨hC.sg (fun q h1_q h2_q => sup_ne (by omega) rfl), clg_for hQ_q hdf hR_q hr_q hbk h8_q hp_q hab hbD, fun q h1_q h2_q => sup_ne (by omega) (hq_q q h1_q h2_q)⟩ (fun σ hx_q => ?_)
        obtain ⟨hC, hG_q, hq_q⟩ := hx_q
        exact go_vretV (pc := 127) rfl dX4_flag_127 (Nat.le_of_ble_eq_true rfl) (Nat.le_of_ble_eq_true rfl) (by rw [flS, flT, if_neg k11, if_neg k11, if_neg k12, if_neg k12, if_pos k13, if_pos k13, ← eT1]; exact ⟨rfl, hC, hG_q, hq_q⟩)
      · refine go_aload_n (pc := 0) dX4_flag_0 rfl ?_
        refine go_V0I (pc := 1) v_X4_82 rfl rfl (rcv_of (ci := 4) (by first | exact r0 | exact be0 hQ_q | exact be1 hQ_q | exact be2 hQ_q | exact be3 hQ_q | exact sr0 hR_q) rfl) dX4_flag_1 (cp_kindT (k := k - 1) hC) (fun v_1 σ n h_q => ?_)
        obtain ⟨e1_q, e2_q, hkv⟩ := h_q
        obtain rfl := e1_q.symm
        obtain rfl := e2_q.symm
        obtain rfl := hkv hb_q
        refine go_istore_n (lw := [_, _, _]) (pc := 4) dX4_flag_4 (by decide) rfl ?_
        refine go_iload_n (pc := 5) dX4_flag_5 rfl ?_
        refine go_bipush (v := 11) (pc := 6) dX4_flag_6 (by decide) ?_
        refine go_icmp_eq (tgt := 29) (pc := 8) dX4_flag_8 (by decide) (fun h_8 => by exfalso; exact absurd h_8 (k11)) (fun h_8 => ?_)
        refine go_iload_n (pc := 11) dX4_flag_11 rfl ?_
        refine go_bipush (v := 12) (pc := 12) dX4_flag_12 (by decide) ?_
        refine go_icmp_eq (tgt := 29) (pc := 14) dX4_flag_14 (by decide) (fun h_14 => by exfalso; exact absurd h_14 (k12)) (fun h_14 => ?_)
        refine go_iload_n (pc := 17) dX4_flag_17 rfl ?_
        refine go_bipush (v := 13) (pc := 18) dX4_flag_18 (by decide) ?_
        refine go_icmp_eq (tgt := 29) (pc := 20) dX4_flag_20 (by decide) (fun h_20 => by exfalso; exact absurd h_20 (k13)) (fun h_20 => ?_)
        refine go_aload_n (pc := 23) dX4_flag_23 rfl ?_
        refine go_iconst (v := 2) (pc := 24) dX4_flag_24 (by decide) ?_
        refine go_V1V (pc := 25) v_X4_152 rfl rfl (rcv_of (ci := 4) (by first | exact r0 | exact be0 hQ_q | exact be1 hQ_q | exact be2 hQ_q | exact be3 hQ_q | exact sr0 hR_q) rfl) dX4_flag_25 (cp_failT (k := k - 1) hC (c_q := 2) (by decide)) (fun σ n h_q => ?_)
        obtain ⟨rfl, hC, hq1⟩ := h_q
        have hq_q : ∀ q, q < b_q → (q < a + 71 ∨ a + 80 < q) → σ q = z0 q := fun q h1_q h2_q => (hq1 q (by omega) (by omega)).trans (hq_q q h1_q h2_q)
        have hG_q : ClG Γ D ro σ a b_q T := ClG.kp ⟨ag, pa, pf, lm, lt, lw, ch, co, rw, bk, hQ_q, hdf, hR_q, hr_q, hbk⟩ hq1 hab (by omega)
        obtain ⟨tk, t_q, sz, pl, r0⟩ := hC.r0
        exact go_vretV (pc := 28) rfl dX4_flag_28 (Nat.le_of_ble_eq_true rfl) (Nat.le_of_ble_eq_true rfl) (by rw [flS, flT, if_neg k11, if_neg k11, if_neg k12, if_neg k12, if_neg k13, if_neg k13]; exact ⟨rfl, hC, hG_q, hq_q⟩)
def fr3 (N : Nat) (s : ps) (c_q : Int32) (T : row) : ps := if s.bad = 0 ∧ kd s.l = 2 ∧ sitK T c_q (tvl s.l) ≠ none then failP N 3 s else s
theorem p3_fr {N : Nat} {s : ps} {T : row} : p3 N s T = fr3 N (p2 N s T).2 (p2 N s T).1 T := rfl
theorem cp_freeRow {Γ : gam} {D : Nat} {ro : Nat → Nat} {z0 : sto} {n k a b_q N : Nat} {lw0 : Int32} {s : ps} {T : row} (hC : CrAt Γ z0 a N b_q lw0 s) (hG_q : ClG Γ D ro z0 a b_q T) (hab : a + 113 < b_q) (hbD : b_q + 4 ≤ D) {c_q : Int32} (hc_q : s.bad = 0 → ∃ c', c' < kW T ∧ c_q = nI c') (hgS : gS T) (hB_q : okB T) (hv_q : vOK s.l) (hk : 4 ≤ k) : Sp Γ (rmk k 0 0) uX4_freeRow [.ref (a + 71), .int c_q] z0 n (qI fun v_q σ' n' => v_q = (numP N 0 (T 2 - 1) (fr3 N s c_q T)).1 ∧ n' = n ∧ CrAt Γ σ' a N b_q lw0 (numP N 0 (T 2 - 1) (fr3 N s c_q T)).2 ∧ ∀ q, q ≠ a + 71 → q ≠ a + 80 → σ' q = z0 q) := by
  have hq_q : ∀ q, q ≠ a + 71 → q ≠ a + 80 → z0 q = z0 q := fun _ _ _ => rfl
  obtain ⟨ag, pa, pf, lm, lt, lw, ch, co, rw, bk, hQ_q, hdf, hR_q, hr_q, hbk⟩ := hG_q
  obtain ⟨tk, t_q, sz, pl, r0⟩ := hC.r0
  refine sp_intro [some (.ref (a + 71)), some (.int c_q)] (by decide +kernel) rfl (Nat.le_of_ble_eq_true rfl) rfl ?_
  refine go_aload_n (pc := 0) dX4_freeRow_0 rfl ?_
  refine go_getf (pc := 1) f_X4_37 dX4_freeRow_1 (by first | exact r0 | exact be0 hQ_q | exact be1 hQ_q | exact be2 hQ_q | exact be3 hQ_q | exact sr0 hR_q) (by rfl) ?_
  refine go_if_ne (tgt := 41) (pc := 4) dX4_freeRow_4 (by decide) (fun h_4 => ?_) (fun h_4 => ?_)
  · have e3_q : fr3 N s c_q T = s := by
      unfold fr3
      first
        | (have g_q : ¬ s.bad = 0 := h_4
           exact if_neg (fun x_q => g_q x_q.1))
        | (have g_q : ¬ kd s.l = 2 := h_12
           exact if_neg (fun x_q => g_q x_q.2.1))
        | (have g_q : whoK T c_q.toInt (nI v').toInt = -1 := h_33
           exact if_neg (fun x_q => x_q.2.2 (by rw [ev]; exact hws.mp g_q)))
    rw [e3_q]
    refine go_aload_n (pc := 41) dX4_freeRow_41 rfl ?_
    refine go_iconst (v := 0) (pc := 42) dX4_freeRow_42 (by decide) ?_
    refine go_aload_n (pc := 43) dX4_freeRow_43 rfl ?_
    refine go_getf (pc := 44) f_X4_53 dX4_freeRow_44 (by first | exact r0 | exact be0 hQ_q | exact be1 hQ_q | exact be2 hQ_q | exact be3 hQ_q | exact sr0 hR_q) (by rfl) ?_
    refine go_getf (pc := 47) f_X4_76 dX4_freeRow_47 (by first | exact r0 | exact be0 hQ_q | exact be1 hQ_q | exact be2 hQ_q | exact be3 hQ_q | exact sr0 hR_q) (by rfl) ?_
    refine go_iconst (v := 1) (pc := 50) dX4_freeRow_50 (by decide) ?_
    refine go_isub (pc := 51) dX4_freeRow_51 ?_
    refine go_V2I (pc := 52) v_X4_69 rfl rfl (rcv_of (ci := 4) (by first | exact r0 | exact be0 hQ_q | exact be1 hQ_q | exact be2 hQ_q | exact be3 hQ_q | exact sr0 hR_q) rfl) dX4_freeRow_52 (cp_numT (k := k - 1) hC 0 (T 2 - 1) (by omega)) (fun v_52 σ n h_q => ?_)
    obtain ⟨rfl, rfl, hC, hq1⟩ := h_q
    have hq_q : ∀ q, q ≠ a + 71 → q ≠ a + 80 → σ q = z0 q := fun q h1_q h2_q => (hq1 q h1_q h2_q).trans (hq_q q h1_q h2_q)
    exact go_iretI (pc := 55) rfl dX4_freeRow_55 (Nat.le_of_ble_eq_true rfl) (Nat.le_of_ble_eq_true rfl) ⟨rfl, rfl, hC, hq_q⟩
  · refine go_aload_n (pc := 7) dX4_freeRow_7 rfl ?_
    refine go_V0I (pc := 8) v_X4_82 rfl rfl (rcv_of (ci := 4) (by first | exact r0 | exact be0 hQ_q | exact be1 hQ_q | exact be2 hQ_q | exact be3 hQ_q | exact sr0 hR_q) rfl) dX4_freeRow_8 (cp_kindT (k := k - 1) hC) (fun v_8 σ n h_q => ?_)
    obtain ⟨e1_q, e2_q, hkv⟩ := h_q
    obtain rfl := e1_q.symm
    obtain rfl := e2_q.symm
    obtain rfl := hkv h_4
    refine go_iconst (v := 2) (pc := 11) dX4_freeRow_11 (by decide) ?_
    refine go_icmp_ne (tgt := 41) (pc := 12) dX4_freeRow_12 (by decide) (fun h_12 => ?_) (fun h_12 => ?_)
    · have e3_q : fr3 N s c_q T = s := by
        unfold fr3
        first
          | (have g_q : ¬ s.bad = 0 := h_4
             exact if_neg (fun x_q => g_q x_q.1))
          | (have g_q : ¬ kd s.l = 2 := h_12
             exact if_neg (fun x_q => g_q x_q.2.1))
          | (have g_q : whoK T c_q.toInt (nI v').toInt = -1 := h_33
             exact if_neg (fun x_q => x_q.2.2 (by rw [ev]; exact hws.mp g_q)))
      rw [e3_q]
      refine go_aload_n (pc := 41) dX4_freeRow_41 rfl ?_
      refine go_iconst (v := 0) (pc := 42) dX4_freeRow_42 (by decide) ?_
      refine go_aload_n (pc := 43) dX4_freeRow_43 rfl ?_
      refine go_getf (pc := 44) f_X4_53 dX4_freeRow_44 (by first | exact r0 | exact be0 hQ_q | exact be1 hQ_q | exact be2 hQ_q | exact be3 hQ_q | exact sr0 hR_q) (by rfl) ?_
      refine go_getf (pc := 47) f_X4_76 dX4_freeRow_47 (by first | exact r0 | exact be0 hQ_q | exact be1 hQ_q | exact be2 hQ_q | exact be3 hQ_q | exact sr0 hR_q) (by rfl) ?_
      refine go_iconst (v := 1) (pc := 50) dX4_freeRow_50 (by decide) ?_
      refine go_isub (pc := 51) dX4_freeRow_51 ?_
      refine go_V2I (pc := 52) v_X4_69 rfl rfl (rcv_of (ci := 4) (by first | exact r0 | exact be0 hQ_q | exact be1 hQ_q | exact be2 hQ_q | exact be3 hQ_q | exact sr0 hR_q) rfl) dX4_freeRow_52 (cp_numT (k := k - 1) hC 0 (T 2 - 1) (by omega)) (fun v_52 σ n h_q => ?_)
      obtain ⟨rfl, rfl, hC, hq1⟩ := h_q
      have hq_q : ∀ q, q ≠ a + 71 → q ≠ a + 80 → σ q = z0 q := fun q h1_q h2_q => (hq1 q h1_q h2_q).trans (hq_q q h1_q h2_q)
      exact go_iretI (pc := 55) rfl dX4_freeRow_55 (Nat.le_of_ble_eq_true rfl) (Nat.le_of_ble_eq_true rfl) ⟨rfl, rfl, hC, hq_q⟩
    · have k2 : kd s.l = 2 := h_12
      obtain ⟨tk, sz, pl, o1, cv1, r0, r2, ho1, eV⟩ := hC.vl h_4 (kd_ne k2 (by decide))
      obtain ⟨c', hc', ec⟩ := hc_q h_4
      obtain ⟨v', hv', ev⟩ := nI_of2 (M := 999) (n := 999) rfl (Int32.not_lt.mpr (hv_q.hd k2).1) (hv_q.hd k2).2
      refine go_aload_n (pc := 15) dX4_freeRow_15 rfl ?_
      refine go_getf (pc := 16) f_X4_43 dX4_freeRow_16 (by first | exact r0 | exact be0 hQ_q | exact be1 hQ_q | exact be2 hQ_q | exact be3 hQ_q | exact sr0 hR_q) (by rfl) ?_
      refine go_iload_n (pc := 19) dX4_freeRow_19 rfl ?_
      refine go_aload_n (pc := 20) dX4_freeRow_20 rfl ?_
      refine go_getf (pc := 21) f_X4_15 dX4_freeRow_21 (by first | exact r0 | exact be0 hQ_q | exact be1 hQ_q | exact be2 hQ_q | exact be3 hQ_q | exact sr0 hR_q) (by rfl) ?_
      refine go_aload_n (pc := 24) dX4_freeRow_24 rfl ?_
      refine go_getf (pc := 25) f_X4_28 dX4_freeRow_25 (by first | exact r0 | exact be0 hQ_q | exact be1 hQ_q | exact be2 hQ_q | exact be3 hQ_q | exact sr0 hR_q) (by rfl) ?_
      refine go_iald (pc := 28) dX4_freeRow_28 r2 (by exact ⟨rfl, by omega⟩) ?_
      rw [eV, ev]
      refine go_V2P (pc := 29) v_X4_202 rfl rfl (rcv_of (ci := 5) (by first | exact r0 | exact be0 hQ_q | exact be1 hQ_q | exact be2 hQ_q | exact be3 hQ_q | exact sr0 hR_q) rfl) dX4_freeRow_29 (cp_whoOn (k := k - 1) hR_q hr_q hQ_q (by omega) hB_q _ _) ?_
      refine go_iconst (v := -1) (pc := 32) dX4_freeRow_32 (by decide) ?_
      have hws : whoK T c_q.toInt (nI v').toInt = -1 ↔ sitK T c_q (nI v') = none := by rw [ec]; exact who_sit hB_q.1 hgS hc' hv'
      refine go_icmp_eq (tgt := 41) (pc := 33) dX4_freeRow_33 (by decide) (fun h_33 => ?_) (fun h_33 => ?_)
      · have e3_q : fr3 N s c_q T = s := by
          unfold fr3
          first
            | (have g_q : ¬ s.bad = 0 := h_4
               exact if_neg (fun x_q => g_q x_q.1))
            | (have g_q : ¬ kd s.l = 2 := h_12
               exact if_neg (fun x_q => g_q x_q.2.1))
            | (have g_q : whoK T c_q.toInt (nI v').toInt = -1 := h_33
               exact if_neg (fun x_q => x_q.2.2 (by rw [ev]; exact hws.mp g_q)))
        rw [e3_q]
        refine go_aload_n (pc := 41) dX4_freeRow_41 rfl ?_
        refine go_iconst (v := 0) (pc := 42) dX4_freeRow_42 (by decide) ?_
        refine go_aload_n (pc := 43) dX4_freeRow_43 rfl ?_
        refine go_getf (pc := 44) f_X4_53 dX4_freeRow_44 (by first | exact r0 | exact be0 hQ_q | exact be1 hQ_q | exact be2 hQ_q | exact be3 hQ_q | exact sr0 hR_q) (by rfl) ?_
        refine go_getf (pc := 47) f_X4_76 dX4_freeRow_47 (by first | exact r0 | exact be0 hQ_q | exact be1 hQ_q | exact be2 hQ_q | exact be3 hQ_q | exact sr0 hR_q) (by rfl) ?_
        refine go_iconst (v := 1) (pc := 50) dX4_freeRow_50 (by decide) ?_
        refine go_isub (pc := 51) dX4_freeRow_51 ?_
        refine go_V2I (pc := 52) v_X4_69 rfl rfl (rcv_of (ci := 4) (by first | exact r0 | exact be0 hQ_q | exact be1 hQ_q | exact be2 hQ_q | exact be3 hQ_q | exact sr0 hR_q) rfl) dX4_freeRow_52 (cp_numT (k := k - 1) hC 0 (T 2 - 1) (by omega)) (fun v_52 σ n h_q => ?_)
        obtain ⟨rfl, rfl, hC, hq1⟩ := h_q
        have hq_q : ∀ q, q ≠ a + 71 → q ≠ a + 80 → σ q = z0 q := fun q h1_q h2_q => (hq1 q h1_q h2_q).trans (hq_q q h1_q h2_q)
        exact go_iretI (pc := 55) rfl dX4_freeRow_55 (Nat.le_of_ble_eq_true rfl) (Nat.le_of_ble_eq_true rfl) ⟨rfl, rfl, hC, hq_q⟩
      · refine go_aload_n (pc := 36) dX4_freeRow_36 rfl ?_
        refine go_iconst (v := 3) (pc := 37) dX4_freeRow_37 (by decide) ?_
        refine go_V1V (pc := 38) v_X4_152 rfl rfl (rcv_of (ci := 4) (by first | exact r0 | exact be0 hQ_q | exact be1 hQ_q | exact be2 hQ_q | exact be3 hQ_q | exact sr0 hR_q) rfl) dX4_freeRow_38 (cp_failT (k := k - 1) hC (c_q := 3) (by decide)) (fun σ n h_q => ?_)
        obtain ⟨rfl, hC, hq1⟩ := h_q
        have hq_q : ∀ q, q ≠ a + 71 → q ≠ a + 80 → σ q = z0 q := fun q h1_q h2_q => (hq1 q h1_q h2_q).trans (hq_q q h1_q h2_q)
        have hG_q : ClG Γ D ro σ a b_q T := ClG.kp ⟨ag, pa, pf, lm, lt, lw, ch, co, rw, bk, hQ_q, hdf, hR_q, hr_q, hbk⟩ hq1 hab (by omega)
        obtain ⟨ag, pa, pf, lm, lt, lw, ch, co, rw, bk, hQ_q, hdf, hR_q, hr_q, hbk⟩ := hG_q
        obtain ⟨tk, t_q, sz, pl, r0⟩ := hC.r0
        have e3_q : fr3 N s c_q T = failP N 3 s := if_pos ⟨h_4, k2, fun x_q => h_33 (hws.mpr (by rw [← ev]; exact x_q))⟩
        rw [e3_q]
        refine go_aload_n (pc := 41) dX4_freeRow_41 rfl ?_
        refine go_iconst (v := 0) (pc := 42) dX4_freeRow_42 (by decide) ?_
        refine go_aload_n (pc := 43) dX4_freeRow_43 rfl ?_
        refine go_getf (pc := 44) f_X4_53 dX4_freeRow_44 (by first | exact r0 | exact be0 hQ_q | exact be1 hQ_q | exact be2 hQ_q | exact be3 hQ_q | exact sr0 hR_q) (by rfl) ?_
        refine go_getf (pc := 47) f_X4_76 dX4_freeRow_47 (by first | exact r0 | exact be0 hQ_q | exact be1 hQ_q | exact be2 hQ_q | exact be3 hQ_q | exact sr0 hR_q) (by rfl) ?_
        refine go_iconst (v := 1) (pc := 50) dX4_freeRow_50 (by decide) ?_
        refine go_isub (pc := 51) dX4_freeRow_51 ?_
        refine go_V2I (pc := 52) v_X4_69 rfl rfl (rcv_of (ci := 4) (by first | exact r0 | exact be0 hQ_q | exact be1 hQ_q | exact be2 hQ_q | exact be3 hQ_q | exact sr0 hR_q) rfl) dX4_freeRow_52 (cp_numT (k := k - 1) hC 0 (T 2 - 1) (by omega)) (fun v_52 σ n h_q => ?_)
        obtain ⟨rfl, rfl, hC, hq1⟩ := h_q
        have hq_q : ∀ q, q ≠ a + 71 → q ≠ a + 80 → σ q = z0 q := fun q h1_q h2_q => (hq1 q h1_q h2_q).trans (hq_q q h1_q h2_q)
        exact go_iretI (pc := 55) rfl dX4_freeRow_55 (Nat.le_of_ble_eq_true rfl) (Nat.le_of_ble_eq_true rfl) ⟨rfl, rfl, hC, hq_q⟩
