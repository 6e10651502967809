/-! ===== the class: a text is_q begun ===== -/
theorem cp_clearFor {Γ : gam} {ro : Nat → Nat} {z0 : sto} {n k a b_q b0 : Nat} {w m : Int32} {ch co rw bk : row} (hR_q : SrAt Γ ro z0 a b0 w m ch co rw bk) (hk : 2 ≤ k) : Sp Γ (rmk k 0 0) uX5_clearFor [.ref a, .ref b_q] z0 n (qV fun σ' n' => n' = n ∧ (∃ ch co rw bk, SrAt Γ ro σ' a b_q 0 0 ch co rw bk ∧ (∀ j, j < 20 → ch j = -1) ∧ (∀ j, j < 8 → co j = 0) ∧ (∀ j, j < 8 → rw j = -1) ∧ ∀ j, j < 8 → bk j = -1) ∧ ∀ q, (q < a ∨ a + 4 < q) → σ' q = z0 q) := by
  refine sp_intro [some (.ref a), some (.ref b_q)] (by decide +kernel) rfl (Nat.le_of_ble_eq_true rfl) rfl ?_
  refine go_aload_n (pc := 0) dX5_clearFor_0 rfl ?_
  refine go_aload_n (pc := 1) dX5_clearFor_1 rfl ?_
  refine go_putf (fs' := [_, _, _, _, _, _, _]) (pc := 2) f_X5_31 dX5_clearFor_2 (by repeat (first | exact (sr0 hR_q) | exact sup_eq | refine sup_ne (by omega) ?_)) (Nat.le_of_ble_eq_true rfl) (by rfl) rfl rfl ?_
  refine go_aload_n (pc := 5) dX5_clearFor_5 rfl ?_
  refine go_iconst (v := 0) (pc := 6) dX5_clearFor_6 (by decide) ?_
  refine go_putf (fs' := [_, _, _, _, _, _, _]) (pc := 7) f_X5_24 dX5_clearFor_7 (by repeat (first | exact (sr0 hR_q) | exact sup_eq | refine sup_ne (by omega) ?_)) (Nat.le_of_ble_eq_true rfl) (by rfl) rfl rfl ?_
  refine go_aload_n (pc := 10) dX5_clearFor_10 rfl ?_
  refine go_iconst (v := 0) (pc := 11) dX5_clearFor_11 (by decide) ?_
  refine go_putf (fs' := [_, _, _, _, _, _, _]) (pc := 12) f_X5_28 dX5_clearFor_12 (by repeat (first | exact (sr0 hR_q) | exact sup_eq | refine sup_ne (by omega) ?_)) (Nat.le_of_ble_eq_true rfl) (by rfl) rfl rfl ?_
  refine go_set (P := fun s => s a = some (cO 5 [.ref (a + 1), .ref (a + 2), .ref (a + 3), .ref (a + 4), .ref b_q, .int 0, .int 0]) ∧ s (a + 1) = some (cI Γ 20 ch) ∧ s (a + 2) = some (cI Γ 8 co) ∧ s (a + 3) = some (cI Γ 8 rw) ∧ s (a + 4) = some (cI Γ 8 bk) ∧ ∀ q, (q < a ∨ a + 4 < q) → s q = z0 q) ⟨sup_eq, (by repeat (first | exact (sr1 hR_q) | exact sup_eq | refine sup_ne (by omega) ?_)), (by repeat (first | exact (sr2 hR_q) | exact sup_eq | refine sup_ne (by omega) ?_)), (by repeat (first | exact (sr3 hR_q) | exact sup_eq | refine sup_ne (by omega) ?_)), (by repeat (first | exact (sr4 hR_q) | exact sup_eq | refine sup_ne (by omega) ?_)), fun q hq_q => (by repeat (first | exact rfl | exact sup_eq | refine sup_ne (by omega) ?_))⟩ (fun σ hP => ?_)
  obtain ⟨c0, c1, c2, c3, c4, cq⟩ := hP
  refine go_aload_n (pc := 15) dX5_clearFor_15 rfl ?_
  refine go_getf (pc := 16) f_X5_9 dX5_clearFor_16 c0 (by rfl) ?_
  refine go_iconst (v := -1) (pc := 19) dX5_clearFor_19 (by decide) ?_
  refine go_S2V (pc := 20) s_X5_35 rfl rfl dX5_clearFor_20 (cp_fillI (k := k - 1) c1 (by decide) _) (fun σ n h_q => ?_)
  obtain ⟨rfl, ⟨f1, c1, z1⟩, hq1⟩ := h_q
  have c0 := (hq1 _ (by omega)).trans c0
  have c2 := (hq1 _ (by omega)).trans c2
  have c3 := (hq1 _ (by omega)).trans c3
  have c4 := (hq1 _ (by omega)).trans c4
  have cq : ∀ q, (q < a ∨ a + 4 < q) → σ q = z0 q := fun q h_q => (hq1 q (by omega)).trans (cq q h_q)
  refine go_aload_n (pc := 23) dX5_clearFor_23 rfl ?_
  refine go_getf (pc := 24) f_X5_15 dX5_clearFor_24 c0 (by rfl) ?_
  refine go_iconst (v := 0) (pc := 27) dX5_clearFor_27 (by decide) ?_
  refine go_S2V (pc := 28) s_X5_35 rfl rfl dX5_clearFor_28 (cp_fillI (k := k - 1) c2 (by decide) _) (fun σ n h_q => ?_)
  obtain ⟨rfl, ⟨f2, c2, z2⟩, hq2⟩ := h_q
  have c0 := (hq2 _ (by omega)).trans c0
  have c1 := (hq2 _ (by omega)).trans c1
  have c3 := (hq2 _ (by omega)).trans c3
  have c4 := (hq2 _ (by omega)).trans c4
  have cq : ∀ q, (q < a ∨ a + 4 < q) → σ q = z0 q := fun q h_q => (hq2 q (by omega)).trans (cq q h_q)
  refine go_aload_n (pc := 31) dX5_clearFor_31 rfl ?_
  refine go_getf (pc := 32) f_X5_18 dX5_clearFor_32 c0 (by rfl) ?_
  refine go_iconst (v := -1) (pc := 35) dX5_clearFor_35 (by decide) ?_
  refine go_S2V (pc := 36) s_X5_35 rfl rfl dX5_clearFor_36 (cp_fillI (k := k - 1) c3 (by decide) _) (fun σ n h_q => ?_)
  obtain ⟨rfl, ⟨f3, c3, z3⟩, hq3⟩ := h_q
  have c0 := (hq3 _ (by omega)).trans c0
  have c1 := (hq3 _ (by omega)).trans c1
  have c2 := (hq3 _ (by omega)).trans c2
  have c4 := (hq3 _ (by omega)).trans c4
  have cq : ∀ q, (q < a ∨ a + 4 < q) → σ q = z0 q := fun q h_q => (hq3 q (by omega)).trans (cq q h_q)
  refine go_aload_n (pc := 39) dX5_clearFor_39 rfl ?_
  refine go_getf (pc := 40) f_X5_21 dX5_clearFor_40 c0 (by rfl) ?_
  refine go_iconst (v := -1) (pc := 43) dX5_clearFor_43 (by decide) ?_
  refine go_S2V (pc := 44) s_X5_35 rfl rfl dX5_clearFor_44 (cp_fillI (k := k - 1) c4 (by decide) _) (fun σ n h_q => ?_)
  obtain ⟨rfl, ⟨f4, c4, z4⟩, hq4⟩ := h_q
  have c0 := (hq4 _ (by omega)).trans c0
  have c1 := (hq4 _ (by omega)).trans c1
  have c2 := (hq4 _ (by omega)).trans c2
  have c3 := (hq4 _ (by omega)).trans c3
  have cq : ∀ q, (q < a ∨ a + 4 < q) → σ q = z0 q := fun q h_q => (hq4 q (by omega)).trans (cq q h_q)
  exact go_vretV (pc := 47) rfl dX5_clearFor_47 (Nat.le_of_ble_eq_true rfl) (Nat.le_of_ble_eq_true rfl) ⟨rfl, ⟨_, _, _, _, ⟨hR_q.1, c0, c1, c2, c3, c4⟩, z1, z2, z3, z4⟩, cq⟩
theorem num_le {N : Nat} {lo hi_q : Int32} {s : ps} {m : Nat} (h1_q : hi_q.toInt = m) (h0_q : lo ≤ hi_q) : (numP N lo hi_q s).1.toNatClampNeg ≤ m := by
  have key : ∀ v_q : Int32, v_q ≤ hi_q → v_q.toNatClampNeg ≤ m := fun v_q hv_q => by
    have := Int32.le_iff_toInt_le.mp hv_q
    rw [h1_q] at this
    show v_q.toInt.toNat ≤ m
    omega
  unfold numP
  split
  · split
    · next c_q => exact key _ c_q.2
    · exact key _ h0_q
  · exact key _ h0_q
theorem op_w4 {N : Nat} {f_q : row} : kW (opP N f_q).2 ≤ 4 := by
  show (upd (opT N f_q) 0 1 1).toNatClampNeg ≤ 4
  rw [pk_un (by omega), opT, pk_un (by omega), pk_us]
  exact num_le (m := 4) rfl (by decide)
theorem op_h5 {N : Nat} {f_q : row} : kH (opP N f_q).2 ≤ 5 := by
  show (upd (opT N f_q) 0 1 2).toNatClampNeg ≤ 5
  rw [pk_un (by omega), opT, pk_us]
  exact num_le (m := 5) rfl (by decide)
theorem cp_open {Γ : gam} {ro : Nat → Nat} {z0 : sto} {n k a N b0 b1_q : Nat} {tk t_q sz lw fl pl : Int32} {ck cv cp cc f_q ch co rw bk : row} {w m : Int32} (hR_q : RrAt Γ z0 a tk t_q sz lw b0 fl pl ck cv cp cc) (hS_q : SrAt Γ ro z0 (a + 72) b1_q w m ch co rw bk) (ho : z0 (a + 1) = some (cI Γ 900 f_q)) (hN_q : N ≤ 900) (hby : ∀ j, j < N → ∃ c_q, c_q < 256 ∧ f_q j = nI c_q) (hn : a + 113 < n) (hro : ro n = 0 ∧ ro (n + 1) = 0 ∧ ro (n + 2) = 0 ∧ ro (n + 3) = 0) (hk : 12 ≤ k)  : Sp Γ (rmk k 4 35) uX4_open [.ref (a + 71), .ref (a + 1), .int (nI N)] z0 n (qV fun σ' n' => n' = n + 4 ∧ ClT Γ (n + 4) ro σ' a n N (opP N f_q).1 (opP N f_q).2 ∧ ∀ q, q < n → (q < a + 71 ∨ a + 80 < q) → σ' q = z0 q) := by
  refine sp_intro [some (.ref (a + 71)), some (.ref (a + 1)), some (.int (nI N))] (by decide +kernel) rfl (Nat.le_of_ble_eq_true rfl) rfl ?_
  have r0 := hR_q.1
  simp only [RdC] at r0
  refine go_aload_n (pc := 0) dX4_open_0 rfl ?_
  refine go_aload_n (pc := 1) dX4_open_1 rfl ?_
  refine go_iload_n (pc := 2) dX4_open_2 rfl ?_
  refine go_V2V (pc := 3) v_X4_54 rfl rfl (rcv_of (ci := 4) (by first | exact r0 | exact s0 | exact c0) rfl) dX4_open_3 (cp_scan (k := k - 1) hR_q ho (by omega) hN_q hby (by omega)) (fun σ n h_q => ?_)
  obtain ⟨rfl, k1, u1, p1, hR_q, hk1, h0_q, hp1, hlen, hq_q⟩ := h_q
  obtain ⟨r0, r1, r2, r3, r4⟩ := hR_q
  simp only [RdC] at r0
  have hS_q : SrAt Γ ro σ (a + 72) b1_q w m ch co rw bk := hS_q.kq (fun q h1_q h2_q => hq_q q (by omega) (by omega))
  have hq_q : ∀ q, q < n → (q < a + 71 ∨ a + 80 < q) → σ q = z0 q := fun q h1_q h2_q => hq_q q (by omega) (by omega)
  refine go_aload_n (pc := 6) dX4_open_6 rfl ?_
  refine go_iconst (v := 0) (pc := 7) dX4_open_7 (by decide) ?_
  refine go_putf (fs' := [_, _, _, _, _, _, _, _, _, _, _, _]) (pc := 8) f_X4_28 dX4_open_8 r0 (Nat.le_of_ble_eq_true rfl) (by rfl) rfl rfl ?_
  refine go_aload_n (pc := 11) dX4_open_11 rfl ?_
  refine go_iconst (v := 0) (pc := 12) dX4_open_12 (by decide) ?_
  refine go_putf (fs' := [_, _, _, _, _, _, _, _, _, _, _, _]) (pc := 13) f_X4_37 dX4_open_13 sup_eq (Nat.le_of_ble_eq_true rfl) (by rfl) rfl rfl ?_
  refine go_aload_n (pc := 16) dX4_open_16 rfl ?_
  refine go_iconst (v := -1) (pc := 17) dX4_open_17 (by decide) ?_
  refine go_putf (fs' := [_, _, _, _, _, _, _, _, _, _, _, _]) (pc := 18) f_X4_40 dX4_open_18 sup_eq (Nat.le_of_ble_eq_true rfl) (by rfl) rfl rfl ?_
  refine go_set (P := fun s => s (a + 71) = some (cO 4 [.ref (a + 77), .ref (a + 78), .ref (a + 79), .ref (a + 80), .int (nI ((tkn f_q N 0).length + 1)), .int (0), .int sz, .int lw, .ref b0, .ref (a + 72), .int (0), .int (-1)]) ∧ ∀ q, q ≠ a + 71 → s q = σ q) ⟨sup_eq, fun q h1_q => sup_ne h1_q (sup_ne h1_q (sup_ne h1_q rfl))⟩ (fun σ1 hP => ?_)
  obtain ⟨r0, hq2⟩ := hP
  have r1 := (hq2 _ (by omega)).trans r1
  have r2 := (hq2 _ (by omega)).trans r2
  have r3 := (hq2 _ (by omega)).trans r3
  have r4 := (hq2 _ (by omega)).trans r4
  have hS_q : SrAt Γ ro σ1 (a + 72) b1_q w m ch co rw bk := hS_q.kq (fun q h1_q h2_q => hq2 q (by omega))
  have hq_q : ∀ q, q < n → (q < a + 71 ∨ a + 80 < q) → σ1 q = z0 q := fun q h1_q h2_q => (hq2 q (by omega)).trans (hq_q q h1_q h2_q)
  refine go_aload_n (pc := 21) dX4_open_21 rfl ?_
  refine go_new (ci := 0) (fs := df0) (pc := 22) n_X4_58 rfl df0_ok dX4_open_22 (Nat.le_of_ble_eq_true rfl) (Nat.le_of_ble_eq_true rfl) ?_
  refine go_dup (pc := 25) dX4_open_25 rfl ?_
  refine go_I0V (pc := 26) i_X4_60 rfl rfl dX4_open_26 (cp_newB (k := k - 1) sup_eq (by omega)) (fun σ n h_q => ?_)
  obtain ⟨rfl, c0, c1, ⟨g2_q, c2, z2⟩, ⟨g3_q, c3, z3⟩, hq3⟩ := h_q
  have hq4 : ∀ q, q < n → σ q = σ1 q := fun q h_q => (hq3 q (by omega)).trans (sup_ne (by omega) rfl)
  have r0 := (hq4 _ (by omega)).trans r0
  have r1 := (hq4 _ (by omega)).trans r1
  have r2 := (hq4 _ (by omega)).trans r2
  have r3 := (hq4 _ (by omega)).trans r3
  have r4 := (hq4 _ (by omega)).trans r4
  have hS_q : SrAt Γ ro σ (a + 72) b1_q w m ch co rw bk := hS_q.kq (fun q h1_q h2_q => hq4 q (by omega))
  have hq_q : ∀ q, q < n → (q < a + 71 ∨ a + 80 < q) → σ q = z0 q := fun q h1_q h2_q => (hq4 q h1_q).trans (hq_q q h1_q h2_q)
  refine go_putf (fs' := [_, _, _, _, _, _, _, _, _, _, _, _]) (pc := 29) f_X4_53 dX4_open_29 r0 (Nat.le_of_ble_eq_true rfl) (by rfl) rfl rfl ?_
  refine go_set (P := fun s => s (a + 71) = some (cO 4 [.ref (a + 77), .ref (a + 78), .ref (a + 79), .ref (a + 80), .int (nI ((tkn f_q N 0).length + 1)), .int (0), .int sz, .int lw, .ref n, .ref (a + 72), .int (0), .int (-1)]) ∧ ∀ q, q ≠ a + 71 → s q = σ q) ⟨sup_eq, fun q h1_q => sup_ne h1_q rfl⟩ (fun σ2 hP => ?_)
  obtain ⟨r0, hq5⟩ := hP
  have r1 := (hq5 _ (by omega)).trans r1
  have r2 := (hq5 _ (by omega)).trans r2
  have r3 := (hq5 _ (by omega)).trans r3
  have r4 := (hq5 _ (by omega)).trans r4
  have c0 := (hq5 _ (by omega)).trans c0
  have c1 := (hq5 _ (by omega)).trans c1
  have c2 := (hq5 _ (by omega)).trans c2
  have c3 := (hq5 _ (by omega)).trans c3
  have hS_q : SrAt Γ ro σ2 (a + 72) b1_q w m ch co rw bk := hS_q.kq (fun q h1_q h2_q => hq5 q (by omega))
  have hq_q : ∀ q, q < n → (q < a + 71 ∨ a + 80 < q) → σ2 q = z0 q := fun q h1_q h2_q => (hq5 q (by omega)).trans (hq_q q h1_q h2_q)
  have s0 := sr0 hS_q
  refine go_aload_n (pc := 32) dX4_open_32 rfl ?_
  refine go_getf (pc := 33) f_X4_43 dX4_open_33 (by first | exact r0 | exact s0 | exact c0) (by rfl) ?_
  refine go_aload_n (pc := 36) dX4_open_36 rfl ?_
  refine go_getf (pc := 37) f_X4_53 dX4_open_37 (by first | exact r0 | exact s0 | exact c0) (by rfl) ?_
  refine go_V1V (pc := 40) v_X4_61 rfl rfl (rcv_of (ci := 5) (by first | exact r0 | exact s0 | exact c0) rfl) dX4_open_40 (cp_clearFor (k := k - 1) (b_q := n) hS_q (by omega)) (fun σ n h_q => ?_)
  obtain ⟨rfl, ⟨ch1, co1, rw1, bk1, hS_q, y1_q, y2_q, y3, y4⟩, hq6⟩ := h_q
  have r0 := (hq6 _ (by omega)).trans r0
  have r1 := (hq6 _ (by omega)).trans r1
  have r2 := (hq6 _ (by omega)).trans r2
  have r3 := (hq6 _ (by omega)).trans r3
  have r4 := (hq6 _ (by omega)).trans r4
  have c0 := (hq6 _ (by omega)).trans c0
  have c1 := (hq6 _ (by omega)).trans c1
  have c2 := (hq6 _ (by omega)).trans c2
  have c3 := (hq6 _ (by omega)).trans c3
  have hq_q : ∀ q, q < n → (q < a + 71 ∨ a + 80 < q) → σ q = z0 q := fun q h1_q h2_q => (hq6 q (by omega)).trans (hq_q q h1_q h2_q)
  have hC : CrAt Γ σ a N n lw (psm (tkn f_q N 0) 0 (-1) stM) := ⟨(tkn f_q N 0).length + 1, 0, sz, -1, k1, u1, p1, cc, ⟨r0, r1, r2, r3, r4⟩, by omega, rfl, fun _ => ⟨0, rfl, (by show _ = 0 + (tkn f_q N 0).length + 1; omega), hk1, (by rw [Nat.zero_add]; exact h0_q), (by rw [Nat.zero_add]; exact hp1)⟩, fun _ e_q => by have e_q : stM.length ≤ 900 := e_q; rw [stM_l] at e_q; omega⟩
  refine go_aload_n (pc := 43) dX4_open_43 rfl ?_
  refine go_iconst (v := 4) (pc := 44) dX4_open_44 (by decide) ?_
  refine go_V1V (pc := 45) v_X4_65 rfl rfl (rcv_of (ci := 4) (by first | exact r0 | exact s0 | exact c0) rfl) dX4_open_45 (cp_needT (k := k - 1) hC (c_q := 4) (by decide) (by omega)) (fun σ n h_q => ?_)
  obtain ⟨rfl, hC, hq1⟩ := h_q
  have c0 := (hq1 _ (by omega) (by omega)).trans c0
  have c1 := (hq1 _ (by omega) (by omega)).trans c1
  have c2 := (hq1 _ (by omega) (by omega)).trans c2
  have c3 := (hq1 _ (by omega) (by omega)).trans c3
  have hS_q : SrAt Γ ro σ (a + 72) n 0 0 ch1 co1 rw1 bk1 := hS_q.kq (fun q h1_q h2_q => hq1 q (by omega) (by omega))
  have hq_q : ∀ q, q < n → (q < a + 71 ∨ a + 80 < q) → σ q = z0 q := fun q h1_q h2_q => (hq1 q (by omega) (by omega)).trans (hq_q q h1_q h2_q)
  obtain ⟨tk, t_q, sz, pl, r0⟩ := hC.r0
  refine go_aload_n (pc := 48) dX4_open_48 rfl ?_
  refine go_getf (pc := 49) f_X4_53 dX4_open_49 (by first | exact r0 | exact s0 | exact c0) (by rfl) ?_
  refine go_aload_n (pc := 52) dX4_open_52 rfl ?_
  refine go_iconst (v := 1) (pc := 53) dX4_open_53 (by decide) ?_
  refine go_iconst (v := 4) (pc := 54) dX4_open_54 (by decide) ?_
  refine go_V2I (pc := 55) v_X4_69 rfl rfl (rcv_of (ci := 4) (by first | exact r0 | exact s0 | exact c0) rfl) dX4_open_55 (cp_numT (k := k - 1) hC 1 4 (by omega)) (fun v_55 σ n h_q => ?_)
  obtain ⟨rfl, rfl, hC, hq1⟩ := h_q
  have c0 := (hq1 _ (by omega) (by omega)).trans c0
  have c1 := (hq1 _ (by omega) (by omega)).trans c1
  have c2 := (hq1 _ (by omega) (by omega)).trans c2
  have c3 := (hq1 _ (by omega) (by omega)).trans c3
  have hS_q : SrAt Γ ro σ (a + 72) n 0 0 ch1 co1 rw1 bk1 := hS_q.kq (fun q h1_q h2_q => hq1 q (by omega) (by omega))
  have hq_q : ∀ q, q < n → (q < a + 71 ∨ a + 80 < q) → σ q = z0 q := fun q h1_q h2_q => (hq1 q (by omega) (by omega)).trans (hq_q q h1_q h2_q)
  obtain ⟨tk, t_q, sz, pl, r0⟩ := hC.r0
  refine go_putf (fs' := [_, _, _, _, _, _, _, _, _, _, _]) (pc := 58) f_X4_73 dX4_open_58 c0 (Nat.le_of_ble_eq_true rfl) (by rfl) rfl rfl ?_
  refine go_set (P := fun s => s n = some (cO 0 [.int ((op2 N f_q).1), .int (1), .int 0, .int (0), .int 0, .ref (n + 1), .ref (n + 2), .ref (n + 3), .null, .null, .null]) ∧ ∀ q, q ≠ n → s q = σ q) ⟨sup_eq, fun q h1_q => sup_ne h1_q rfl⟩ (fun σ2 hP => ?_)
  obtain ⟨c0, hq5⟩ := hP
  have c1 := (hq5 _ (by omega)).trans c1
  have c2 := (hq5 _ (by omega)).trans c2
  have c3 := (hq5 _ (by omega)).trans c3
  have hS_q : SrAt Γ ro σ2 (a + 72) n 0 0 ch1 co1 rw1 bk1 := hS_q.kq (fun q h1_q h2_q => hq5 q (by omega))
  have hC := hC.sg (fun q h1_q h2_q => hq5 q (by omega))
  have hq_q : ∀ q, q < n → (q < a + 71 ∨ a + 80 < q) → σ2 q = z0 q := fun q h1_q h2_q => (hq5 q (by omega)).trans (hq_q q h1_q h2_q)
  obtain ⟨tk, t_q, sz, pl, r0⟩ := hC.r0
  refine go_aload_n (pc := 61) dX4_open_61 rfl ?_
  refine go_getf (pc := 62) f_X4_53 dX4_open_62 (by first | exact r0 | exact s0 | exact c0) (by rfl) ?_
  refine go_aload_n (pc := 65) dX4_open_65 rfl ?_
  refine go_iconst (v := 1) (pc := 66) dX4_open_66 (by decide) ?_
  refine go_iconst (v := 5) (pc := 67) dX4_open_67 (by decide) ?_
  refine go_V2I (pc := 68) v_X4_69 rfl rfl (rcv_of (ci := 4) (by first | exact r0 | exact s0 | exact c0) rfl) dX4_open_68 (cp_numT (k := k - 1) hC 1 5 (by omega)) (fun v_68 σ n h_q => ?_)
  obtain ⟨rfl, rfl, hC, hq1⟩ := h_q
  have c0 := (hq1 _ (by omega) (by omega)).trans c0
  have c1 := (hq1 _ (by omega) (by omega)).trans c1
  have c2 := (hq1 _ (by omega) (by omega)).trans c2
  have c3 := (hq1 _ (by omega) (by omega)).trans c3
  have hS_q : SrAt Γ ro σ (a + 72) n 0 0 ch1 co1 rw1 bk1 := hS_q.kq (fun q h1_q h2_q => hq1 q (by omega) (by omega))
  have hq_q : ∀ q, q < n → (q < a + 71 ∨ a + 80 < q) → σ q = z0 q := fun q h1_q h2_q => (hq1 q (by omega) (by omega)).trans (hq_q q h1_q h2_q)
  obtain ⟨tk, t_q, sz, pl, r0⟩ := hC.r0
  refine go_putf (fs' := [_, _, _, _, _, _, _, _, _, _, _]) (pc := 71) f_X4_76 dX4_open_71 c0 (Nat.le_of_ble_eq_true rfl) (by rfl) rfl rfl ?_
  refine go_set (P := fun s => s n = some (cO 0 [.int ((op2 N f_q).1), .int ((op3 N f_q).1), .int 0, .int (0), .int 0, .ref (n + 1), .ref (n + 2), .ref (n + 3), .null, .null, .null]) ∧ ∀ q, q ≠ n → s q = σ q) ⟨sup_eq, fun q h1_q => sup_ne h1_q rfl⟩ (fun σ2 hP => ?_)
  obtain ⟨c0, hq5⟩ := hP
  have c1 := (hq5 _ (by omega)).trans c1
  have c2 := (hq5 _ (by omega)).trans c2
  have c3 := (hq5 _ (by omega)).trans c3
  have hS_q : SrAt Γ ro σ2 (a + 72) n 0 0 ch1 co1 rw1 bk1 := hS_q.kq (fun q h1_q h2_q => hq5 q (by omega))
  have hC := hC.sg (fun q h1_q h2_q => hq5 q (by omega))
  have hq_q : ∀ q, q < n → (q < a + 71 ∨ a + 80 < q) → σ2 q = z0 q := fun q h1_q h2_q => (hq5 q (by omega)).trans (hq_q q h1_q h2_q)
  obtain ⟨tk, t_q, sz, pl, r0⟩ := hC.r0
  refine go_aload_n (pc := 74) dX4_open_74 rfl ?_
  refine go_bipush (v := 59) (pc := 75) dX4_open_75 (by decide) ?_
  refine go_V1V (pc := 77) v_X4_65 rfl rfl (rcv_of (ci := 4) (by first | exact r0 | exact s0 | exact c0) rfl) dX4_open_77 (cp_needT (k := k - 1) hC (c_q := 59) (by decide) (by omega)) (fun σ n h_q => ?_)
  obtain ⟨rfl, hC, hq1⟩ := h_q
  have c0 := (hq1 _ (by omega) (by omega)).trans c0
  have c1 := (hq1 _ (by omega) (by omega)).trans c1
  have c2 := (hq1 _ (by omega) (by omega)).trans c2
  have c3 := (hq1 _ (by omega) (by omega)).trans c3
  have hS_q : SrAt Γ ro σ (a + 72) n 0 0 ch1 co1 rw1 bk1 := hS_q.kq (fun q h1_q h2_q => hq1 q (by omega) (by omega))
  have hq_q : ∀ q, q < n → (q < a + 71 ∨ a + 80 < q) → σ q = z0 q := fun q h1_q h2_q => (hq1 q (by omega) (by omega)).trans (hq_q q h1_q h2_q)
  obtain ⟨tk, t_q, sz, pl, r0⟩ := hC.r0
  refine go_aload_n (pc := 80) dX4_open_80 rfl ?_
  refine go_getf (pc := 81) f_X4_53 dX4_open_81 (by first | exact r0 | exact s0 | exact c0) (by rfl) ?_
  refine go_iconst (v := 1) (pc := 84) dX4_open_84 (by decide) ?_
  refine go_putf (fs' := [_, _, _, _, _, _, _, _, _, _, _]) (pc := 85) f_X4_79 dX4_open_85 c0 (Nat.le_of_ble_eq_true rfl) (by rfl) rfl rfl ?_
  refine go_set (P := fun s => s n = some (cO 0 [.int ((op2 N f_q).1), .int ((op3 N f_q).1), .int 0, .int (1), .int 0, .ref (n + 1), .ref (n + 2), .ref (n + 3), .null, .null, .null]) ∧ ∀ q, q ≠ n → s q = σ q) ⟨sup_eq, fun q h1_q => sup_ne h1_q rfl⟩ (fun σ2 hP => ?_)
  obtain ⟨c0, hq5⟩ := hP
  have c1 := (hq5 _ (by omega)).trans c1
  have c2 := (hq5 _ (by omega)).trans c2
  have c3 := (hq5 _ (by omega)).trans c3
  have hS_q : SrAt Γ ro σ2 (a + 72) n 0 0 ch1 co1 rw1 bk1 := hS_q.kq (fun q h1_q h2_q => hq5 q (by omega))
  have hC := hC.sg (fun q h1_q h2_q => hq5 q (by omega))
  have hq_q : ∀ q, q < n → (q < a + 71 ∨ a + 80 < q) → σ2 q = z0 q := fun q h1_q h2_q => (hq5 q (by omega)).trans (hq_q q h1_q h2_q)
  obtain ⟨tk, t_q, sz, pl, r0⟩ := hC.r0
  exact go_vretV (pc := 88) rfl dX4_open_88 (Nat.le_of_ble_eq_true rfl) (Nat.le_of_ble_eq_true rfl) (by
  have x1_q : (opP N f_q).2 1 = (op2 N f_q).1 := by show upd (opT N f_q) 0 1 1 = _; rw [pk_un (by omega), opT, pk_un (by omega), pk_us]
  have x2_q : (opP N f_q).2 2 = (op3 N f_q).1 := by show upd (opT N f_q) 0 1 2 = _; rw [pk_un (by omega), opT, pk_us]
  have x0 : (opP N f_q).2 0 = 1 := by show upd (opT N f_q) 0 1 0 = _; rw [pk_us]
  have xo : ∀ j, 3 ≤ j → (opP N f_q).2 j = 0 := fun j hj_q => by show upd (opT N f_q) 0 1 j = _; rw [pk_un (by omega), opT, pk_un (by omega), pk_un (by omega)]
  have yP : kP (opP N f_q).2 = 0 := by show ((opP N f_q).2 3).toNatClampNeg = 0; rw [xo 3 (by omega)]; rfl
  refine ⟨rfl, ⟨⟨_, hC⟩, (opP N f_q).2, ⟨_, _, _, .null, .null, .null, ch1, co1, rw1, bk1, ⟨hro, ?_, c1, c2, c3, Or.inl ⟨xo 4 (by omega), rfl⟩, Or.inl ⟨xo 5 (by omega), rfl⟩, Or.inl ⟨xo 6 (by omega), rfl⟩, fun p hp_q => by omega⟩, fun q h1_q h2_q => ⟨rfl, z2 q h2_q, z3 q h2_q⟩, ?_, ⟨fun p hp_q => by omega, fun c9_q w9_q hc9 hw9 => ?_⟩, y4⟩, by omega, fun _ => rfl⟩, hq_q⟩
  · rw [x1_q, x2_q, x0, xo 3 (by omega), xo 42 (by omega)]
    exact c0
  · rw [xo 33 (by omega)]
    exact hS_q
  · rw [show sitK (opP N f_q).2 (nI c9_q) (nI w9_q) = none from by unfold sitK; rw [yP]; rfl]
    have h5_q : kH (opP N f_q).2 ≤ 5 := op_h5
    have h4_q : kW (opP N f_q).2 ≤ 4 := op_w4
    exact y1_q _ (by omega))
