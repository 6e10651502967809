/-! ===== the class: a beach ===== -/
theorem cp_hasMore {Γ : gam} {z0 : sto} {n k a b_q N : Nat} {lw : Int32} {s : ps} (hC : CrAt Γ z0 a N b_q lw s) (hk : 1 ≤ k) : Sp Γ (rmk k 0 0) uX4_hasMore [.ref (a + 71)] z0 n (qP (bI (s.bad = 0 ∧ kd s.l ≠ 0)) z0 n) := by
  obtain ⟨tk, t_q, sz, pl, r0⟩ := hC.r0
  refine sp_intro [some (.ref (a + 71))] (by decide +kernel) rfl (Nat.le_of_ble_eq_true rfl) rfl ?_
  refine go_aload_n (pc := 0) dX4_hasMore_0 rfl ?_
  refine go_getf (pc := 1) f_X4_37 dX4_hasMore_1 (by exact r0) (by rfl) ?_
  refine go_if_ne (tgt := 18) (pc := 4) dX4_hasMore_4 (by decide) (fun h_4 => ?_) (fun h_4 => ?_)
  · refine go_iconst (v := 0) (pc := 18) dX4_hasMore_18 (by decide) ?_
    exact go_zretP (pc := 19) rfl (by first | rfl | exact nb_bI) dX4_hasMore_19 (Nat.le_of_ble_eq_true rfl) (Nat.le_of_ble_eq_true rfl) (by
  first
    | (have g_q : ¬ s.bad = 0 := h_4
       exact (bI_f (fun x_q => g_q x_q.1)).symm)
    | (have g_q : kd s.l = 0 := h_11
       exact (bI_f (fun x_q => x_q.2 g_q)).symm)
    | (have g_q : ¬ kd s.l = 0 := h_11
       exact (bI_t ⟨h_4, g_q⟩).symm))
  · refine go_aload_n (pc := 7) dX4_hasMore_7 rfl ?_
    refine go_V0I (pc := 8) v_X4_82 rfl rfl (rcv_of (ci := 4) (by exact r0) rfl) dX4_hasMore_8 (cp_kindT (k := k - 1) hC) (fun v_8 σ n h_q => ?_)
    obtain ⟨e1_q, e2_q, hkv⟩ := h_q
    obtain rfl := e1_q.symm
    obtain rfl := e2_q.symm
    obtain rfl := hkv h_4
    refine go_if_eq (tgt := 18) (pc := 11) dX4_hasMore_11 (by decide) (fun h_11 => ?_) (fun h_11 => ?_)
    · refine go_iconst (v := 0) (pc := 18) dX4_hasMore_18 (by decide) ?_
      exact go_zretP (pc := 19) rfl (by first | rfl | exact nb_bI) dX4_hasMore_19 (Nat.le_of_ble_eq_true rfl) (Nat.le_of_ble_eq_true rfl) (by
  first
    | (have g_q : ¬ s.bad = 0 := h_4
       exact (bI_f (fun x_q => g_q x_q.1)).symm)
    | (have g_q : kd s.l = 0 := h_11
       exact (bI_f (fun x_q => x_q.2 g_q)).symm)
    | (have g_q : ¬ kd s.l = 0 := h_11
       exact (bI_t ⟨h_4, g_q⟩).symm))
    · refine go_iconst (v := 1) (pc := 14) dX4_hasMore_14 (by decide) ?_
      refine go_goto (tgt := 19) (pc := 15) dX4_hasMore_15 (by decide) ?_
      exact go_zretP (pc := 19) rfl (by first | rfl | exact nb_bI) dX4_hasMore_19 (Nat.le_of_ble_eq_true rfl) (Nat.le_of_ble_eq_true rfl) (by
  first
    | (have g_q : ¬ s.bad = 0 := h_4
       exact (bI_f (fun x_q => g_q x_q.1)).symm)
    | (have g_q : kd s.l = 0 := h_11
       exact (bI_f (fun x_q => x_q.2 g_q)).symm)
    | (have g_q : ¬ kd s.l = 0 := h_11
       exact (bI_t ⟨h_4, g_q⟩).symm))
/-- what a beach call may write -/
def bS (a n q : Nat) : Prop := q = a ∨ (a + 14 ≤ q ∧ q ≤ a + 19) ∨ (a + 71 ≤ q ∧ q ≤ a + 80) ∨ n ≤ q
def RdE (Γ : gam) (σ : sto) (a : Nat) : Prop := ∃ (b_q : Nat) (tk t_q sz lw fl pl : Int32) (ck cv cp cc : row), RrAt Γ σ a tk t_q sz lw b_q fl pl ck cv cp cc
def bchC (Γ : gam) (ro : Nat → Nat) (z0 : sto) (n a N : Nat) (G f_q : row) (im : Nat → Option Nat) (v_q : Int32) (σ : sto) : Prop := ∃ (ro' : Nat → Nat) (G' : row), (∀ q, q < n → ro' q = ro q) ∧ CoAt Γ ro' σ a G' im ∧ G' 1 = 0 ∧ G' 2 = (bchP N f_q).1.bad ∧ G' 3 = (bchP N f_q).1.pl ∧ (∀ j, j ≠ 1 → j ≠ 2 → j ≠ 3 → G' j = G j) ∧ RdE Γ σ a ∧ TrAt Γ ro' σ (a + 72) ∧ frS Γ ro' (bS a n) z0 σ ∧ ((bchP N f_q).1.bad ≠ 0 → v_q = -10 - (bchP N f_q).1.bad ∧ ∀ q, a + 14 ≤ q → q ≤ a + 19 → σ q = z0 q) ∧ ((bchP N f_q).1.bad = 0 → v_q = (bchP N f_q).2 0 ∧ lnI (bchP N f_q).2 ∧ BeAt Γ (n + 4) ro' σ n (bchP N f_q).2 ∧ SeAt Γ ro' σ (a + 14) n 0 (bchP N f_q).2 ∧ HiAt Γ ro' σ (a + 19) n 0 0 (bchP N f_q).2)
def rBn (ro : Nat → Nat) (n q : Nat) : Nat := if q < n then ro q else if q < n + 4 then 0 else if (q - (n + 4)) % 3 = 2 then 1 else 0
theorem rBn_lo {ro : Nat → Nat} {n q : Nat} (h_q : q < n) : rBn ro n q = ro q := if_pos h_q
theorem rBn_b {ro : Nat → Nat} {n : Nat} : rBn ro n n = 0 ∧ rBn ro n (n + 1) = 0 ∧ rBn ro n (n + 2) = 0 ∧ rBn ro n (n + 3) = 0 := by
  refine ⟨?_, ?_, ?_, ?_⟩ <;> (unfold rBn; rw [if_neg (by omega), if_pos (by omega)])
theorem rBn_l {ro : Nat → Nat} {n : Nat} (m : Nat) : rBn ro n (n + 4 + 3 * m) = 0 ∧ rBn ro n (n + 4 + 3 * m + 1) = 0 ∧ rBn ro n (n + 4 + 3 * m + 2) = 1 := by
  refine ⟨?_, ?_, ?_⟩
  · unfold rBn; rw [if_neg (by omega), if_neg (by omega), if_neg (by omega)]
  · unfold rBn; rw [if_neg (by omega), if_neg (by omega), if_neg (by omega)]
  · unfold rBn; rw [if_neg (by omega), if_neg (by omega), if_pos (by omega)]
theorem CrAt.rd {Γ : gam} {σ : sto} {a N b_q : Nat} {lw : Int32} {s : ps} (hC : CrAt Γ σ a N b_q lw s) : RdE Γ σ a := by
  obtain ⟨T, t_q, sz, pl, ck, cv, cp, cc, hR_q, hT_q, hpl, hl, hst⟩ := hC
  exact ⟨b_q, _, _, _, _, _, _, ck, cv, cp, cc, hR_q⟩
theorem RdE.fs {Γ : gam} {ro : Nat → Nat} {S : Nat → Prop} {σ σ1 : sto} {a : Nat} (h_q : RdE Γ σ a) (hf_q : frS Γ ro S σ σ1) (hr_q : ∀ q, a + 71 ≤ q → q ≤ a + 80 → ro q ≠ 1) (hS_q : ∀ q, a + 71 ≤ q → q ≤ a + 80 → (q < a + 72 ∨ a + 76 < q) → ¬ S q) : RdE Γ σ1 a := by
  obtain ⟨b_q, tk, t_q, sz, lw, fl, pl, ck, cv, cp, cc, r0, r1, r2, r3, r4⟩ := h_q
  have key : ∀ q, a + 71 ≤ q → q ≤ a + 80 → (q < a + 72 ∨ a + 76 < q) → σ1 q = σ q := fun q x_q y_q z_q => hf_q.1 q (hS_q q x_q y_q z_q) (hr_q q x_q y_q)
  exact ⟨b_q, tk, t_q, sz, lw, fl, pl, ck, cv, cp, cc, (key _ (by omega) (by omega) (by omega)).trans r0, (key _ (by omega) (by omega) (by omega)).trans r1, (key _ (by omega) (by omega) (by omega)).trans r2, (key _ (by omega) (by omega) (by omega)).trans r3, (key _ (by omega) (by omega) (by omega)).trans r4⟩
theorem CrAt.pl {Γ : gam} {σ : sto} {a N b_q : Nat} {lw : Int32} {s : ps} (hC : CrAt Γ σ a N b_q lw s) : ∃ (tk t_q sz : Int32), σ (a + 71) = some (cO 4 [.ref (a + 77), .ref (a + 78), .ref (a + 79), .ref (a + 80), .int tk, .int t_q, .int sz, .int lw, .ref b_q, .ref (a + 72), .int s.bad, .int s.pl]) := by
  obtain ⟨T, t_q, sz, pl, ck, cv, cp, cc, ⟨r0, r1, r2, r3, r4⟩, hT_q, hpl, hl, hst⟩ := hC
  rw [hpl] at r0
  exact ⟨nI T, t_q, sz, r0⟩
