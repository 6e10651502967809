/-! ===== the class: a line ===== -/
def lwU (s2 : ps) : Nat × Nat := if s2.bad = 0 then (3, 50 + s2.st.length) else (0, 0)
def lnU (N : Nat) (s : ps) : Nat × Nat := if kd s.l = 7 then lwU (lwS N 4 0 s) else if kd s.l = 8 then lwU (lwS N 5 5 s) else if kd s.l = 9 then lwU (lwS N 6 5 s) else (0, 0)
theorem cr_sz {Γ : gam} {σ : sto} {a N b_q : Nat} {lw : Int32} {s : ps} {v_q : Int32} (hC : CrAt Γ σ a N b_q lw s) : ∃ (tk t_q sz pl : Int32), σ (a + 71) = some (cO 4 [.ref (a + 77), .ref (a + 78), .ref (a + 79), .ref (a + 80), .int tk, .int t_q, .int sz, .int lw, .ref b_q, .ref (a + 72), .int s.bad, .int pl]) ∧ CrAt Γ (sup (sup σ (a + 71) (cO 4 [.ref (a + 77), .ref (a + 78), .ref (a + 79), .ref (a + 80), .int tk, .int t_q, .int sz, .int v_q, .ref b_q, .ref (a + 72), .int s.bad, .int pl])) (a + 71) (cO 4 [.ref (a + 77), .ref (a + 78), .ref (a + 79), .ref (a + 80), .int tk, .int t_q, .int 0, .int v_q, .ref b_q, .ref (a + 72), .int s.bad, .int pl])) a N b_q v_q (clr s) := by
  obtain ⟨T, t_q, sz, pl, ck, cv, cp, cc, ⟨r0, r1, r2, r3, r4⟩, hT_q, hpl, hl, hst⟩ := hC
  exact ⟨nI T, t_q, sz, pl, r0, T, t_q, 0, pl, ck, cv, cp, cc, ⟨sup_eq, sup_ne (by omega) (sup_ne (by omega) r1), sup_ne (by omega) (sup_ne (by omega) r2), sup_ne (by omega) (sup_ne (by omega) r3), sup_ne (by omega) (sup_ne (by omega) r4)⟩, hT_q, hpl, hl, fun _ _ => ⟨rfl, Nat.zero_le _, fun j hj_q => absurd (show j < 0 from hj_q) (by omega)⟩⟩
theorem cl_126 {Γ : gam} {D : Nat} {ro : Nat → Nat} {z0 σ : sto} {n k a b_q N C S cells slots : Nat} {lw0 v_q : Int32} {s2 : ps} {T1 : row} {Z : ps × row} (hC : CrAt Γ σ a N b_q lw0 s2) (hG_q : ClG Γ D ro σ a b_q T1) (h81 : kP T1 ≤ 8) (hab : a + 113 < b_q) (hbD : b_q + 4 ≤ D) (hq_q : ∀ q, q < b_q → (q < a + 71 ∨ a + 80 < q) → σ q = z0 q) (hZ1 : needP N 59 s2 = Z.1) (hZ2 : Z.1.bad = 0 → Z.2 = upd T1 0 (T1 0 + 1)) (hcc : cells ≤ C) (hss : slots ≤ S) (hk : 4 ≤ k) : Go Γ (rmk k C S) uX4_line (qV fun σ' n' => n' = n ∧ ClT Γ D ro σ' a b_q N Z.1 Z.2 ∧ ∀ q, q < b_q → (q < a + 71 ∨ a + 80 < q) → σ' q = z0 q) cells slots 126 [some (.ref (a + 71)), some (.int v_q)] [] σ n := by
  obtain ⟨ag, pa, pf, lm, lt, lw, ch, co, rw, bk, hQ_q, hdf, hR_q, hr_q, hbk⟩ := hG_q
  obtain ⟨tk, t_q, sz, pl, r0⟩ := hC.r0
  refine go_aload_n (pc := 126) dX4_line_126 rfl ?_
  refine go_bipush (v := 59) (pc := 127) dX4_line_127 (by decide) ?_
  refine go_V1V (pc := 129) v_X4_65 rfl rfl (rcv_of (ci := 4) (by first | exact r0 | exact be0 hQ_q | exact be1 hQ_q | exact be2 hQ_q | exact be3 hQ_q | exact sr0 hR_q) rfl) dX4_line_129 (cp_needT (k := k - 1) hC (c_q := 59) (by decide) (by omega)) (fun σ n h_q => ?_) (hC := ⟨hcc, hss⟩)
  obtain ⟨rfl, hC, hq1⟩ := h_q
  have hq_q : ∀ q, q < b_q → (q < a + 71 ∨ a + 80 < q) → σ q = z0 q := fun q h1_q h2_q => (hq1 q (by omega) (by omega)).trans (hq_q q h1_q h2_q)
  have hG_q : ClG Γ D ro σ a b_q T1 := ClG.kp ⟨ag, pa, pf, lm, lt, lw, ch, co, rw, bk, hQ_q, hdf, hR_q, hr_q, hbk⟩ hq1 hab (by omega)
  obtain ⟨ag, pa, pf, lm, lt, lw, ch, co, rw, bk, hQ_q, hdf, hR_q, hr_q, hbk⟩ := hG_q
  obtain ⟨tk, t_q, sz, pl, r0⟩ := hC.r0
  refine go_aload_n (pc := 132) dX4_line_132 rfl ?_
  refine go_getf (pc := 133) f_X4_53 dX4_line_133 (by first | exact r0 | exact be0 hQ_q | exact be1 hQ_q | exact be2 hQ_q | exact be3 hQ_q | exact sr0 hR_q) (by rfl) ?_
  refine go_dup (pc := 136) dX4_line_136 rfl ?_
  refine go_getf (pc := 137) f_X4_79 dX4_line_137 (by first | exact r0 | exact be0 hQ_q | exact be1 hQ_q | exact be2 hQ_q | exact be3 hQ_q | exact sr0 hR_q) (by rfl) ?_
  refine go_iconst (v := 1) (pc := 140) dX4_line_140 (by decide) ?_
  refine go_iadd (pc := 141) dX4_line_141 ?_
  refine go_putf (fs' := [_, _, _, _, _, _, _, _, _, _, _]) (pc := 142) f_X4_79 dX4_line_142 (be0 hQ_q) (Nat.le_of_ble_eq_true rfl) (by rfl) rfl rfl ?_
  exact go_vretV (pc := 145) rfl dX4_line_145 hcc hss ⟨rfl, ⟨⟨lw0, (by rw [← hZ1]; exact hC.sg (fun q h1_q h2_q => sup_ne (by omega) rfl))⟩, _, clg_ln hQ_q hdf hR_q hr_q hbk h81 hab hbD, (by show (upd T1 0 (T1 0 + 1) 3).toNatClampNeg ≤ 8; rw [pk_un (by omega)]; exact h81), fun e_q => (hZ2 e_q).symm⟩, fun q h1_q h2_q => sup_ne (by omega) (hq_q q h1_q h2_q)⟩
theorem cp_line5 {Γ : gam} {D : Nat} {ro : Nat → Nat} {z0 : sto} {n k a b_q N : Nat} {lw0 : Int32} {s : ps} {T : row} (hC : CrAt Γ z0 a N b_q lw0 s) (hG_q : ClG Γ D ro z0 a b_q T) (hab : a + 113 < b_q) (hbD : b_q + 4 ≤ D) (hI : lnI T) (hb_q : s.bad = 0) (hk0 : kd s.l ≠ 0) (hL : s.l.length ≤ 900) (hv_q : vOK s.l) (hro : ∀ m, ro (b_q + 4 + 3 * m) = 0 ∧ ro (b_q + 4 + 3 * m + 1) = 0 ∧ ro (b_q + 4 + 3 * m + 2) = 1) (hn : ∃ m, n = b_q + 4 + 3 * m) (hDb : D = b_q + 4) (hk : 120 ≤ k) (k5 : kd s.l = 5) : Sp Γ (rmk k (lnU N s).1 (lnU N s).2) uX4_line [.ref (a + 71)] z0 n (qV fun σ' n' => n' = n + (lnU N s).1 ∧ ClT Γ D ro σ' a b_q N (lnP N (s, T)).1 (lnP N (s, T)).2 ∧ ∀ q, q < b_q → (q < a + 71 ∨ a + 80 < q) → σ' q = z0 q) := by
  have hq_q : ∀ q, q < b_q → (q < a + 71 ∨ a + 80 < q) → z0 q = z0 q := fun _ _ _ => rfl
  have hP8 := hI.1.1.2.1
  have r0_ : rk 0 = 6 := rfl
  have r5_ : rk 5 = 3 := rfl
  have hG0 := hG_q
  obtain ⟨ag, pa, pf, lm, lt, lw, ch, co, rw, bk, hQ_q, hdf, hR_q, hr_q, hbk⟩ := hG_q
  obtain ⟨tk, t_q, sz, pl, r0⟩ := hC.r0
  have eU : lnU N s = (0, 0) := by rw [lnU, k5]; rfl
  rw [eU]
  have e9_q : bodP N (s, T).1 (s, T).2 = perP N s T := if_pos k5
  refine sp_intro [some (.ref (a + 71)), none] (by decide +kernel) rfl (Nat.le_of_ble_eq_true rfl) rfl ?_
  refine go_aload_n (pc := 0) dX4_line_0 rfl ?_
  refine go_V0I (pc := 1) v_X4_82 rfl rfl (rcv_of (ci := 4) (by first | exact r0 | exact be0 hQ_q | exact be1 hQ_q | exact be2 hQ_q | exact be3 hQ_q | exact sr0 hR_q) rfl) dX4_line_1 (cp_kindT (k := k - 1) hC) (fun v_1 σ n h_q => ?_)
  obtain ⟨e1_q, e2_q, hkv⟩ := h_q
  obtain rfl := e1_q.symm
  obtain rfl := e2_q.symm
  obtain rfl := hkv hb_q
  refine go_istore_n (lw := [_, _]) (pc := 4) dX4_line_4 (by decide) rfl ?_
  refine go_iload_n (pc := 5) dX4_line_5 rfl ?_
  refine go_iconst (v := 5) (pc := 6) dX4_line_6 (by decide) ?_
  refine go_icmp_ne (tgt := 17) (pc := 7) dX4_line_7 (by decide) (fun h_7 => by exfalso; exact h_7 (k5)) (fun h_7 => ?_)
  refine go_aload_n (pc := 10) dX4_line_10 rfl ?_
  refine go_V0V (pc := 11) v_X4_155 rfl rfl (rcv_of (ci := 4) (by first | exact r0 | exact be0 hQ_q | exact be1 hQ_q | exact be2 hQ_q | exact be3 hQ_q | exact sr0 hR_q) rfl) dX4_line_11 (cp_personLine (k := k - 1) hC hG0 hab hbD hI hb_q k5 hL hv_q (by omega)) (fun σ n h_q => ?_)
  obtain ⟨rfl, ⟨⟨lw1, hC⟩, T1, hG_q, h81, eT⟩, hq_q⟩ := h_q
  refine go_goto (tgt := 126) (pc := 14) dX4_line_14 (by decide) ?_
  exact cl_126 hC hG_q h81 hab hbD hq_q (by rw [lnP, e9_q, fin_need]) (fun e_q => by
    have g_q : (fin N (perP N s T).1).bad = 0 := needP_b (by rw [fin_need]; rw [lnP, e9_q] at e_q; exact e_q)
    rw [lnP, e9_q, eT g_q]) (Nat.le_refl _) (Nat.le_refl _) (by omega)
theorem cp_line10 {Γ : gam} {D : Nat} {ro : Nat → Nat} {z0 : sto} {n k a b_q N : Nat} {lw0 : Int32} {s : ps} {T : row} (hC : CrAt Γ z0 a N b_q lw0 s) (hG_q : ClG Γ D ro z0 a b_q T) (hab : a + 113 < b_q) (hbD : b_q + 4 ≤ D) (hI : lnI T) (hb_q : s.bad = 0) (hk0 : kd s.l ≠ 0) (hL : s.l.length ≤ 900) (hv_q : vOK s.l) (hro : ∀ m, ro (b_q + 4 + 3 * m) = 0 ∧ ro (b_q + 4 + 3 * m + 1) = 0 ∧ ro (b_q + 4 + 3 * m + 2) = 1) (hn : ∃ m, n = b_q + 4 + 3 * m) (hDb : D = b_q + 4) (hk : 120 ≤ k) (k5 : ¬ kd s.l = 5) (k10 : kd s.l = 10) : Sp Γ (rmk k (lnU N s).1 (lnU N s).2) uX4_line [.ref (a + 71)] z0 n (qV fun σ' n' => n' = n + (lnU N s).1 ∧ ClT Γ D ro σ' a b_q N (lnP N (s, T)).1 (lnP N (s, T)).2 ∧ ∀ q, q < b_q → (q < a + 71 ∨ a + 80 < q) → σ' q = z0 q) := by
  have hq_q : ∀ q, q < b_q → (q < a + 71 ∨ a + 80 < q) → z0 q = z0 q := fun _ _ _ => rfl
  have hP8 := hI.1.1.2.1
  have r0_ : rk 0 = 6 := rfl
  have r5_ : rk 5 = 3 := rfl
  have hG0 := hG_q
  obtain ⟨ag, pa, pf, lm, lt, lw, ch, co, rw, bk, hQ_q, hdf, hR_q, hr_q, hbk⟩ := hG_q
  obtain ⟨tk, t_q, sz, pl, r0⟩ := hC.r0
  have eU : lnU N s = (0, 0) := by rw [lnU, k10]; rfl
  rw [eU]
  have e9_q : bodP N (s, T).1 (s, T).2 = ((numP N 0 999 (nextP s)).2, upd T 33 (numP N 0 999 (nextP s)).1) := by
    show bodP N s T = _
    rw [bodP, if_neg k5, if_pos k10]
  refine sp_intro [some (.ref (a + 71)), none] (by decide +kernel) rfl (Nat.le_of_ble_eq_true rfl) rfl ?_
  refine go_aload_n (pc := 0) dX4_line_0 rfl ?_
  refine go_V0I (pc := 1) v_X4_82 rfl rfl (rcv_of (ci := 4) (by first | exact r0 | exact be0 hQ_q | exact be1 hQ_q | exact be2 hQ_q | exact be3 hQ_q | exact sr0 hR_q) rfl) dX4_line_1 (cp_kindT (k := k - 1) hC) (fun v_1 σ n h_q => ?_)
  obtain ⟨e1_q, e2_q, hkv⟩ := h_q
  obtain rfl := e1_q.symm
  obtain rfl := e2_q.symm
  obtain rfl := hkv hb_q
  refine go_istore_n (lw := [_, _]) (pc := 4) dX4_line_4 (by decide) rfl ?_
  refine go_iload_n (pc := 5) dX4_line_5 rfl ?_
  refine go_iconst (v := 5) (pc := 6) dX4_line_6 (by decide) ?_
  refine go_icmp_ne (tgt := 17) (pc := 7) dX4_line_7 (by decide) (fun h_7 => ?_) (fun h_7 => by exfalso; exact absurd h_7 (k5))
  refine go_iload_n (pc := 17) dX4_line_17 rfl ?_
  refine go_bipush (v := 10) (pc := 18) dX4_line_18 (by decide) ?_
  refine go_icmp_ne (tgt := 51) (pc := 20) dX4_line_20 (by decide) (fun h_20 => by exfalso; exact h_20 (k10)) (fun h_20 => ?_)
  obtain ⟨tk, t_q, sz, pl, r0, hop, -⟩ := hC.op (fun _ => kd_ne k10 (by decide))
  refine go_aload_n (pc := 23) dX4_line_23 rfl ?_
  refine go_dup (pc := 24) dX4_line_24 rfl ?_
  refine go_getf (pc := 25) f_X4_28 dX4_line_25 (by first | exact r0 | exact be0 hQ_q | exact be1 hQ_q | exact be2 hQ_q | exact be3 hQ_q | exact sr0 hR_q) (by rfl) ?_
  refine go_iconst (v := 1) (pc := 28) dX4_line_28 (by decide) ?_
  refine go_iadd (pc := 29) dX4_line_29 ?_
  refine go_putf (fs' := [_, _, _, _, _, _, _, _, _, _, _, _]) (pc := 30) f_X4_28 dX4_line_30 (by first | exact r0 | exact be0 hQ_q | exact be1 hQ_q | exact be2 hQ_q | exact be3 hQ_q | exact sr0 hR_q) (Nat.le_of_ble_eq_true rfl) (by rfl) rfl rfl ?_
  refine go_set (P := fun x_q => CrAt Γ x_q a N b_q lw0 (nextP (s)) ∧ ∀ q, q ≠ a + 71 → q ≠ a + 80 → x_q q = z0 q) ⟨hop hb_q, fun q h1_q h2_q => sup_ne h1_q rfl⟩ (fun σ hx_q => ?_)
  obtain ⟨hC, hq1⟩ := hx_q
  have hq_q : ∀ q, q < b_q → (q < a + 71 ∨ a + 80 < q) → σ q = z0 q := fun q h1_q h2_q => (hq1 q (by omega) (by omega)).trans (hq_q q h1_q h2_q)
  have hG_q : ClG Γ D ro σ a b_q T := ClG.kp ⟨ag, pa, pf, lm, lt, lw, ch, co, rw, bk, hQ_q, hdf, hR_q, hr_q, hbk⟩ hq1 hab (by omega)
  obtain ⟨ag, pa, pf, lm, lt, lw, ch, co, rw, bk, hQ_q, hdf, hR_q, hr_q, hbk⟩ := hG_q
  obtain ⟨tk, t_q, sz, pl, r0⟩ := hC.r0
  refine go_aload_n (pc := 33) dX4_line_33 rfl ?_
  refine go_getf (pc := 34) f_X4_43 dX4_line_34 (by first | exact r0 | exact be0 hQ_q | exact be1 hQ_q | exact be2 hQ_q | exact be3 hQ_q | exact sr0 hR_q) (by rfl) ?_
  refine go_aload_n (pc := 37) dX4_line_37 rfl ?_
  refine go_iconst (v := 0) (pc := 38) dX4_line_38 (by decide) ?_
  refine go_sipush (v := 999) (pc := 39) dX4_line_39 (by decide) ?_
  refine go_V2I (pc := 42) v_X4_69 rfl rfl (rcv_of (ci := 4) (by first | exact r0 | exact be0 hQ_q | exact be1 hQ_q | exact be2 hQ_q | exact be3 hQ_q | exact sr0 hR_q) rfl) dX4_line_42 (cp_numT (k := k - 1) hC 0 999 (by omega)) (fun v_42 σ n h_q => ?_)
  obtain ⟨rfl, rfl, hC, hq1⟩ := h_q
  have hq_q : ∀ q, q < b_q → (q < a + 71 ∨ a + 80 < q) → σ q = z0 q := fun q h1_q h2_q => (hq1 q (by omega) (by omega)).trans (hq_q q h1_q h2_q)
  have hG_q : ClG Γ D ro σ a b_q T := ClG.kp ⟨ag, pa, pf, lm, lt, lw, ch, co, rw, bk, hQ_q, hdf, hR_q, hr_q, hbk⟩ hq1 hab (by omega)
  obtain ⟨ag, pa, pf, lm, lt, lw, ch, co, rw, bk, hQ_q, hdf, hR_q, hr_q, hbk⟩ := hG_q
  obtain ⟨tk, t_q, sz, pl, r0⟩ := hC.r0
  refine go_putf (fs' := [_, _, _, _, _, _, _]) (pc := 45) f_X4_158 dX4_line_45 (sr0 hR_q) (Nat.le_of_ble_eq_true rfl) (by rfl) rfl rfl ?_
  refine go_set (P := fun x_q => CrAt Γ x_q a N b_q lw0 (numP N 0 999 (nextP s)).2 ∧ ClG Γ D ro x_q a b_q (upd T 33 (numP N 0 999 (nextP s)).1) ∧ ∀ q, q < b_q → (q < a + 71 ∨ a + 80 < q) → x_q q = z0 q) ⟨hC.sg (fun q h1_q h2_q => sup_ne (by omega) rfl), clg_min hQ_q hdf hR_q hr_q hbk hP8 hab hbD, fun q h1_q h2_q => sup_ne (by omega) (hq_q q h1_q h2_q)⟩ (fun σ hx_q => ?_)
  obtain ⟨hC, hG_q, hq_q⟩ := hx_q
  refine go_goto (tgt := 126) (pc := 48) dX4_line_48 (by decide) ?_
  exact cl_126 hC hG_q (by show (upd T 33 _ 3).toNatClampNeg ≤ 8; rw [pk_un (by omega)]; exact hP8) hab hbD hq_q (by rw [lnP, e9_q]) (fun _ => by rw [lnP, e9_q]) (Nat.le_refl _) (Nat.le_refl _) (by omega)
theorem cp_line7g {Γ : gam} {D : Nat} {ro : Nat → Nat} {z0 : sto} {n k a b_q N : Nat} {lw0 : Int32} {s : ps} {T : row} (hC : CrAt Γ z0 a N b_q lw0 s) (hG_q : ClG Γ D ro z0 a b_q T) (hab : a + 113 < b_q) (hbD : b_q + 4 ≤ D) (hI : lnI T) (hb_q : s.bad = 0) (hk0 : kd s.l ≠ 0) (hL : s.l.length ≤ 900) (hv_q : vOK s.l) (hro : ∀ m, ro (b_q + 4 + 3 * m) = 0 ∧ ro (b_q + 4 + 3 * m + 1) = 0 ∧ ro (b_q + 4 + 3 * m + 2) = 1) (hn : ∃ m, n = b_q + 4 + 3 * m) (hDb : D = b_q + 4) (hk : 120 ≤ k) (k5 : ¬ kd s.l = 5) (k10 : ¬ kd s.l = 10) (k7 : kd s.l = 7) (g2_q : (lwS N 4 0 s).bad = 0) : Sp Γ (rmk k (lnU N s).1 (lnU N s).2) uX4_line [.ref (a + 71)] z0 n (qV fun σ' n' => n' = n + (lnU N s).1 ∧ ClT Γ D ro σ' a b_q N (lnP N (s, T)).1 (lnP N (s, T)).2 ∧ ∀ q, q < b_q → (q < a + 71 ∨ a + 80 < q) → σ' q = z0 q) := by
  have hq_q : ∀ q, q < b_q → (q < a + 71 ∨ a + 80 < q) → z0 q = z0 q := fun _ _ _ => rfl
  have hP8 := hI.1.1.2.1
  have r0_ : rk 0 = 6 := rfl
  have r5_ : rk 5 = 3 := rfl
  have hG0 := hG_q
  obtain ⟨ag, pa, pf, lm, lt, lw, ch, co, rw, bk, hQ_q, hdf, hR_q, hr_q, hbk⟩ := hG_q
  obtain ⟨tk, t_q, sz, pl, r0⟩ := hC.r0
  have e9_q : bodP N (s, T).1 (s, T).2 = (lwS N 4 0 s, layT 4 (lwS N 4 0 s).st T) := by
    show bodP N s T = _
    rw [bodP, if_neg k5, if_neg k10, if_pos k7]
  have hvc : vOK (clr (needP N 58 (nextP s))).l := fun x_q hx_q => hv_q x_q (sub_next (sub_need (N := N) (c := 58) (s := nextP s) hx_q))
  have eU : lnU N s = lwU (lwS N 4 0 s) := by rw [lnU, if_pos k7]
  rw [eU, lwU, if_pos g2_q]
  refine sp_intro [some (.ref (a + 71)), none] (by decide +kernel) rfl (Nat.le_of_ble_eq_true rfl) rfl ?_
  refine go_aload_n (pc := 0) dX4_line_0 rfl ?_
  refine go_V0I (pc := 1) v_X4_82 rfl rfl (rcv_of (ci := 4) (by first | exact r0 | exact be0 hQ_q | exact be1 hQ_q | exact be2 hQ_q | exact be3 hQ_q | exact sr0 hR_q) rfl) dX4_line_1 (cp_kindT (k := k - 1) hC) (fun v_1 σ n h_q => ?_) (hC := ⟨Nat.le_of_ble_eq_true rfl, by show _ ≤ 50 + _; simp only [rmk]; omega⟩)
  obtain ⟨e1_q, e2_q, hkv⟩ := h_q
  obtain rfl := e1_q.symm
  obtain rfl := e2_q.symm
  obtain rfl := hkv hb_q
  refine go_istore_n (lw := [_, _]) (pc := 4) dX4_line_4 (by decide) rfl ?_
  refine go_iload_n (pc := 5) dX4_line_5 rfl ?_
  refine go_iconst (v := 5) (pc := 6) dX4_line_6 (by decide) ?_
  refine go_icmp_ne (tgt := 17) (pc := 7) dX4_line_7 (by decide) (fun h_7 => ?_) (fun h_7 => by exfalso; exact absurd h_7 (k5))
  refine go_iload_n (pc := 17) dX4_line_17 rfl ?_
  refine go_bipush (v := 10) (pc := 18) dX4_line_18 (by decide) ?_
  refine go_icmp_ne (tgt := 51) (pc := 20) dX4_line_20 (by decide) (fun h_20 => ?_) (fun h_20 => by exfalso; exact absurd h_20 (k10))
  refine go_iload_n (pc := 51) dX4_line_51 rfl ?_
  refine go_bipush (v := 7) (pc := 52) dX4_line_52 (by decide) ?_
  refine go_icmp_eq (tgt := 69) (pc := 54) dX4_line_54 (by decide) (fun h_54 => ?_) (fun h_54 => by exfalso; exact h_54 (k7))
  obtain ⟨tk, t_q, sz, pl, r0, hop, -⟩ := hC.op (fun _ => kd_ne k7 (by decide))
  refine go_aload_n (pc := 69) dX4_line_69 rfl ?_
  refine go_dup (pc := 70) dX4_line_70 rfl ?_
  refine go_getf (pc := 71) f_X4_28 dX4_line_71 (by first | exact r0 | exact be0 hQ_q | exact be1 hQ_q | exact be2 hQ_q | exact be3 hQ_q | exact sr0 hR_q) (by rfl) ?_
  refine go_iconst (v := 1) (pc := 74) dX4_line_74 (by decide) ?_
  refine go_iadd (pc := 75) dX4_line_75 ?_
  refine go_putf (fs' := [_, _, _, _, _, _, _, _, _, _, _, _]) (pc := 76) f_X4_28 dX4_line_76 (by first | exact r0 | exact be0 hQ_q | exact be1 hQ_q | exact be2 hQ_q | exact be3 hQ_q | exact sr0 hR_q) (Nat.le_of_ble_eq_true rfl) (by rfl) rfl rfl ?_
  refine go_set (P := fun x_q => CrAt Γ x_q a N b_q lw0 (nextP (s)) ∧ ∀ q, q ≠ a + 71 → q ≠ a + 80 → x_q q = z0 q) ⟨hop hb_q, fun q h1_q h2_q => sup_ne h1_q rfl⟩ (fun σ hx_q => ?_)
  obtain ⟨hC, hq1⟩ := hx_q
  have hq_q : ∀ q, q < b_q → (q < a + 71 ∨ a + 80 < q) → σ q = z0 q := fun q h1_q h2_q => (hq1 q (by omega) (by omega)).trans (hq_q q h1_q h2_q)
  have hG_q : ClG Γ D ro σ a b_q T := ClG.kp ⟨ag, pa, pf, lm, lt, lw, ch, co, rw, bk, hQ_q, hdf, hR_q, hr_q, hbk⟩ hq1 hab (by omega)
  obtain ⟨ag, pa, pf, lm, lt, lw, ch, co, rw, bk, hQ_q, hdf, hR_q, hr_q, hbk⟩ := hG_q
  obtain ⟨tk, t_q, sz, pl, r0⟩ := hC.r0
  refine go_aload_n (pc := 79) dX4_line_79 rfl ?_
  refine go_bipush (v := 58) (pc := 80) dX4_line_80 (by decide) ?_
  refine go_V1V (pc := 82) v_X4_65 rfl rfl (rcv_of (ci := 4) (by first | exact r0 | exact be0 hQ_q | exact be1 hQ_q | exact be2 hQ_q | exact be3 hQ_q | exact sr0 hR_q) rfl) dX4_line_82 (cp_needT (k := k - 1) hC (c_q := 58) (by decide) (by omega)) (fun σ n h_q => ?_) (hC := ⟨Nat.le_of_ble_eq_true rfl, by show _ ≤ 50 + _; simp only [rmk]; omega⟩)
  obtain ⟨rfl, hC, hq1⟩ := h_q
  have hq_q : ∀ q, q < b_q → (q < a + 71 ∨ a + 80 < q) → σ q = z0 q := fun q h1_q h2_q => (hq1 q (by omega) (by omega)).trans (hq_q q h1_q h2_q)
  have hG_q : ClG Γ D ro σ a b_q T := ClG.kp ⟨ag, pa, pf, lm, lt, lw, ch, co, rw, bk, hQ_q, hdf, hR_q, hr_q, hbk⟩ hq1 hab (by omega)
  obtain ⟨ag, pa, pf, lm, lt, lw, ch, co, rw, bk, hQ_q, hdf, hR_q, hr_q, hbk⟩ := hG_q
  obtain ⟨tk, t_q, sz, pl, r0⟩ := hC.r0
  obtain ⟨tk, t_q, sz, pl, r0, hcl⟩ := cr_sz (v_q := nI (4 + 3)) hC
  refine go_aload_n (pc := 85) dX4_line_85 rfl ?_
  refine go_iload_n (pc := 86) dX4_line_86 rfl ?_
  rw [show kd s.l = nI (4 + 3) from k7]
  refine go_putf (fs' := [_, _, _, _, _, _, _, _, _, _, _, _]) (pc := 87) f_X4_34 dX4_line_87 r0 (Nat.le_of_ble_eq_true rfl) (by rfl) rfl rfl ?_
  refine go_aload_n (pc := 90) dX4_line_90 rfl ?_
  refine go_iconst (v := 0) (pc := 91) dX4_line_91 (by decide) ?_
  refine go_putf (fs' := [_, _, _, _, _, _, _, _, _, _, _, _]) (pc := 92) f_X4_31 dX4_line_92 sup_eq (Nat.le_of_ble_eq_true rfl) (by rfl) rfl rfl ?_
  refine go_set (P := fun x_q => CrAt Γ x_q a N b_q (nI (4 + 3)) (clr (needP N 58 (nextP s))) ∧ ∀ q, q ≠ a + 71 → q ≠ a + 80 → x_q q = σ q) ⟨hcl, fun q h1_q h2_q => sup_ne h1_q (sup_ne h1_q rfl)⟩ (fun σ hx_q => ?_)
  obtain ⟨hC, hq1⟩ := hx_q
  have hq_q : ∀ q, q < b_q → (q < a + 71 ∨ a + 80 < q) → σ q = z0 q := fun q h1_q h2_q => (hq1 q (by omega) (by omega)).trans (hq_q q h1_q h2_q)
  have hG_q : ClG Γ D ro σ a b_q T := ClG.kp ⟨ag, pa, pf, lm, lt, lw, ch, co, rw, bk, hQ_q, hdf, hR_q, hr_q, hbk⟩ hq1 hab (by omega)
  obtain ⟨ag, pa, pf, lm, lt, lw, ch, co, rw, bk, hQ_q, hdf, hR_q, hr_q, hbk⟩ := hG_q
  obtain ⟨tk, t_q, sz, pl, r0⟩ := hC.r0
  refine go_iload_n (pc := 95) dX4_line_95 rfl ?_
  refine go_bipush (v := 7) (pc := 96) dX4_line_96 (by decide) ?_
  refine go_icmp_ne (tgt := 109) (pc := 98) dX4_line_98 (by decide) (fun h_98 => by exfalso; exact h_98 (rfl)) (fun h_98 => ?_)
  refine go_aload_n (pc := 101) dX4_line_101 rfl ?_
  refine go_iconst (v := 0) (pc := 102) dX4_line_102 (by decide) ?_
  refine go_V1V (pc := 103) v_X4_160 rfl rfl (rcv_of (ci := 4) (by first | exact r0 | exact be0 hQ_q | exact be1 hQ_q | exact be2 hQ_q | exact be3 hQ_q | exact sr0 hR_q) rfl) dX4_line_103 (cls_go (t_q := 0) (w := 4) (by omega) (by decide) _ _ (k - 1) hC (lw_tot (N := N) (w := 4) (t := 0) (by omega) hL hk0).1 hvc (by omega)) (fun σ n h_q => ?_) (hC := ⟨Nat.le_of_ble_eq_true rfl, by show _ ≤ 50 + _; simp only [rmk]; omega⟩)
  obtain ⟨rfl, hC, hq1⟩ := h_q
  have hq_q : ∀ q, q < b_q → (q < a + 71 ∨ a + 80 < q) → σ q = z0 q := fun q h1_q h2_q => (hq1 q (by omega) (by omega)).trans (hq_q q h1_q h2_q)
  have hG_q : ClG Γ D ro σ a b_q T := ClG.kp ⟨ag, pa, pf, lm, lt, lw, ch, co, rw, bk, hQ_q, hdf, hR_q, hr_q, hbk⟩ hq1 hab (by omega)
  obtain ⟨ag, pa, pf, lm, lt, lw, ch, co, rw, bk, hQ_q, hdf, hR_q, hr_q, hbk⟩ := hG_q
  obtain ⟨tk, t_q, sz, pl, r0⟩ := hC.r0
  have hC : CrAt Γ σ a N b_q (nI (4 + 3)) (lwS N 4 0 s) := hC
  refine go_goto (tgt := 114) (pc := 106) dX4_line_106 (by decide) ?_
  have hkl := kin_law (N := N) (w := 4) (t := 0) (s := (clr (needP N 58 (nextP s)))) (by omega) (by decide) rfl g2_q
  obtain ⟨m9_q, hm9⟩ := hn
  have hro9 : ro n = 0 ∧ ro (n + 1) = 0 ∧ ro (n + 2) = 1 := by rw [hm9]; exact hro m9_q
  refine go_aload_n (pc := 114) dX4_line_114 rfl ?_
  refine go_V0V (pc := 115) v_X4_166 rfl rfl (rcv_of (ci := 4) (by first | exact r0 | exact be0 hQ_q | exact be1 hQ_q | exact be2 hQ_q | exact be3 hQ_q | exact sr0 hR_q) rfl) dX4_line_115 (cp_keepLaw (k := k - 1) (w := 4) hC ⟨ag, pa, pf, lm, lt, lw, ch, co, rw, bk, hQ_q, hdf, hR_q, hr_q, hbk⟩ (by omega) g2_q hkl.2.1 (lw_tot (N := N) (w := 4) (t := 0) (by omega) hL hk0).2 (okB_900 hI.1) hP8 hab hbD (by omega) hro9 (by omega)) (fun σ n h_q => ?_) (hC := ⟨Nat.le_of_ble_eq_true rfl, by show _ ≤ 50 + _; simp only [rmk]; omega⟩)
  obtain ⟨rfl, hC, hG_q, hq1⟩ := h_q
  have hq_q : ∀ q, q < b_q → (q < a + 71 ∨ a + 80 < q) → σ q = z0 q := fun q h1_q h2_q => (hq1 q (by omega) (by omega)).trans (hq_q q h1_q h2_q)
  refine go_goto (tgt := 126) (pc := 118) dX4_line_118 (by decide) ?_
  exact cl_126 hC hG_q (by show (layT 4 _ T 3).toNatClampNeg ≤ 8; rw [lay_o (by omega) (by have := lwA_b (w := 4); omega)]; exact hP8) hab hbD hq_q (by rw [lnP, e9_q]) (fun _ => by rw [lnP, e9_q]) (Nat.le_of_ble_eq_true rfl) (by show _ ≤ 50 + _; simp only [rmk]; omega) (by omega)
theorem cp_line7b {Γ : gam} {D : Nat} {ro : Nat → Nat} {z0 : sto} {n k a b_q N : Nat} {lw0 : Int32} {s : ps} {T : row} (hC : CrAt Γ z0 a N b_q lw0 s) (hG_q : ClG Γ D ro z0 a b_q T) (hab : a + 113 < b_q) (hbD : b_q + 4 ≤ D) (hI : lnI T) (hb_q : s.bad = 0) (hk0 : kd s.l ≠ 0) (hL : s.l.length ≤ 900) (hv_q : vOK s.l) (hro : ∀ m, ro (b_q + 4 + 3 * m) = 0 ∧ ro (b_q + 4 + 3 * m + 1) = 0 ∧ ro (b_q + 4 + 3 * m + 2) = 1) (hn : ∃ m, n = b_q + 4 + 3 * m) (hDb : D = b_q + 4) (hk : 120 ≤ k) (k5 : ¬ kd s.l = 5) (k10 : ¬ kd s.l = 10) (k7 : kd s.l = 7) (g2_q : (lwS N 4 0 s).bad ≠ 0) : Sp Γ (rmk k (lnU N s).1 (lnU N s).2) uX4_line [.ref (a + 71)] z0 n (qV fun σ' n' => n' = n + (lnU N s).1 ∧ ClT Γ D ro σ' a b_q N (lnP N (s, T)).1 (lnP N (s, T)).2 ∧ ∀ q, q < b_q → (q < a + 71 ∨ a + 80 < q) → σ' q = z0 q) := by
  have hq_q : ∀ q, q < b_q → (q < a + 71 ∨ a + 80 < q) → z0 q = z0 q := fun _ _ _ => rfl
  have hP8 := hI.1.1.2.1
  have r0_ : rk 0 = 6 := rfl
  have r5_ : rk 5 = 3 := rfl
  have hG0 := hG_q
  obtain ⟨ag, pa, pf, lm, lt, lw, ch, co, rw, bk, hQ_q, hdf, hR_q, hr_q, hbk⟩ := hG_q
  obtain ⟨tk, t_q, sz, pl, r0⟩ := hC.r0
  have e9_q : bodP N (s, T).1 (s, T).2 = (lwS N 4 0 s, layT 4 (lwS N 4 0 s).st T) := by
    show bodP N s T = _
    rw [bodP, if_neg k5, if_neg k10, if_pos k7]
  have hvc : vOK (clr (needP N 58 (nextP s))).l := fun x_q hx_q => hv_q x_q (sub_next (sub_need (N := N) (c := 58) (s := nextP s) hx_q))
  have eU : lnU N s = lwU (lwS N 4 0 s) := by rw [lnU, if_pos k7]
  rw [eU, lwU, if_neg g2_q]
  refine sp_intro [some (.ref (a + 71)), none] (by decide +kernel) rfl (Nat.le_of_ble_eq_true rfl) rfl ?_
  refine go_aload_n (pc := 0) dX4_line_0 rfl ?_
  refine go_V0I (pc := 1) v_X4_82 rfl rfl (rcv_of (ci := 4) (by first | exact r0 | exact be0 hQ_q | exact be1 hQ_q | exact be2 hQ_q | exact be3 hQ_q | exact sr0 hR_q) rfl) dX4_line_1 (cp_kindT (k := k - 1) hC) (fun v_1 σ n h_q => ?_)
  obtain ⟨e1_q, e2_q, hkv⟩ := h_q
  obtain rfl := e1_q.symm
  obtain rfl := e2_q.symm
  obtain rfl := hkv hb_q
  refine go_istore_n (lw := [_, _]) (pc := 4) dX4_line_4 (by decide) rfl ?_
  refine go_iload_n (pc := 5) dX4_line_5 rfl ?_
  refine go_iconst (v := 5) (pc := 6) dX4_line_6 (by decide) ?_
  refine go_icmp_ne (tgt := 17) (pc := 7) dX4_line_7 (by decide) (fun h_7 => ?_) (fun h_7 => by exfalso; exact absurd h_7 (k5))
  refine go_iload_n (pc := 17) dX4_line_17 rfl ?_
  refine go_bipush (v := 10) (pc := 18) dX4_line_18 (by decide) ?_
  refine go_icmp_ne (tgt := 51) (pc := 20) dX4_line_20 (by decide) (fun h_20 => ?_) (fun h_20 => by exfalso; exact absurd h_20 (k10))
  refine go_iload_n (pc := 51) dX4_line_51 rfl ?_
  refine go_bipush (v := 7) (pc := 52) dX4_line_52 (by decide) ?_
  refine go_icmp_eq (tgt := 69) (pc := 54) dX4_line_54 (by decide) (fun h_54 => ?_) (fun h_54 => by exfalso; exact h_54 (k7))
  obtain ⟨tk, t_q, sz, pl, r0, hop, -⟩ := hC.op (fun _ => kd_ne k7 (by decide))
  refine go_aload_n (pc := 69) dX4_line_69 rfl ?_
  refine go_dup (pc := 70) dX4_line_70 rfl ?_
  refine go_getf (pc := 71) f_X4_28 dX4_line_71 (by first | exact r0 | exact be0 hQ_q | exact be1 hQ_q | exact be2 hQ_q | exact be3 hQ_q | exact sr0 hR_q) (by rfl) ?_
  refine go_iconst (v := 1) (pc := 74) dX4_line_74 (by decide) ?_
  refine go_iadd (pc := 75) dX4_line_75 ?_
  refine go_putf (fs' := [_, _, _, _, _, _, _, _, _, _, _, _]) (pc := 76) f_X4_28 dX4_line_76 (by first | exact r0 | exact be0 hQ_q | exact be1 hQ_q | exact be2 hQ_q | exact be3 hQ_q | exact sr0 hR_q) (Nat.le_of_ble_eq_true rfl) (by rfl) rfl rfl ?_
  refine go_set (P := fun x_q => CrAt Γ x_q a N b_q lw0 (nextP (s)) ∧ ∀ q, q ≠ a + 71 → q ≠ a + 80 → x_q q = z0 q) ⟨hop hb_q, fun q h1_q h2_q => sup_ne h1_q rfl⟩ (fun σ hx_q => ?_)
  obtain ⟨hC, hq1⟩ := hx_q
  have hq_q : ∀ q, q < b_q → (q < a + 71 ∨ a + 80 < q) → σ q = z0 q := fun q h1_q h2_q => (hq1 q (by omega) (by omega)).trans (hq_q q h1_q h2_q)
  have hG_q : ClG Γ D ro σ a b_q T := ClG.kp ⟨ag, pa, pf, lm, lt, lw, ch, co, rw, bk, hQ_q, hdf, hR_q, hr_q, hbk⟩ hq1 hab (by omega)
  obtain ⟨ag, pa, pf, lm, lt, lw, ch, co, rw, bk, hQ_q, hdf, hR_q, hr_q, hbk⟩ := hG_q
  obtain ⟨tk, t_q, sz, pl, r0⟩ := hC.r0
  refine go_aload_n (pc := 79) dX4_line_79 rfl ?_
  refine go_bipush (v := 58) (pc := 80) dX4_line_80 (by decide) ?_
  refine go_V1V (pc := 82) v_X4_65 rfl rfl (rcv_of (ci := 4) (by first | exact r0 | exact be0 hQ_q | exact be1 hQ_q | exact be2 hQ_q | exact be3 hQ_q | exact sr0 hR_q) rfl) dX4_line_82 (cp_needT (k := k - 1) hC (c_q := 58) (by decide) (by omega)) (fun σ n h_q => ?_)
  obtain ⟨rfl, hC, hq1⟩ := h_q
  have hq_q : ∀ q, q < b_q → (q < a + 71 ∨ a + 80 < q) → σ q = z0 q := fun q h1_q h2_q => (hq1 q (by omega) (by omega)).trans (hq_q q h1_q h2_q)
  have hG_q : ClG Γ D ro σ a b_q T := ClG.kp ⟨ag, pa, pf, lm, lt, lw, ch, co, rw, bk, hQ_q, hdf, hR_q, hr_q, hbk⟩ hq1 hab (by omega)
  obtain ⟨ag, pa, pf, lm, lt, lw, ch, co, rw, bk, hQ_q, hdf, hR_q, hr_q, hbk⟩ := hG_q
  obtain ⟨tk, t_q, sz, pl, r0⟩ := hC.r0
  obtain ⟨tk, t_q, sz, pl, r0, hcl⟩ := cr_sz (v_q := nI (4 + 3)) hC
  refine go_aload_n (pc := 85) dX4_line_85 rfl ?_
  refine go_iload_n (pc := 86) dX4_line_86 rfl ?_
  rw [show kd s.l = nI (4 + 3) from k7]
  refine go_putf (fs' := [_, _, _, _, _, _, _, _, _, _, _, _]) (pc := 87) f_X4_34 dX4_line_87 r0 (Nat.le_of_ble_eq_true rfl) (by rfl) rfl rfl ?_
  refine go_aload_n (pc := 90) dX4_line_90 rfl ?_
  refine go_iconst (v := 0) (pc := 91) dX4_line_91 (by decide) ?_
  refine go_putf (fs' := [_, _, _, _, _, _, _, _, _, _, _, _]) (pc := 92) f_X4_31 dX4_line_92 sup_eq (Nat.le_of_ble_eq_true rfl) (by rfl) rfl rfl ?_
  refine go_set (P := fun x_q => CrAt Γ x_q a N b_q (nI (4 + 3)) (clr (needP N 58 (nextP s))) ∧ ∀ q, q ≠ a + 71 → q ≠ a + 80 → x_q q = σ q) ⟨hcl, fun q h1_q h2_q => sup_ne h1_q (sup_ne h1_q rfl)⟩ (fun σ hx_q => ?_)
  obtain ⟨hC, hq1⟩ := hx_q
  have hq_q : ∀ q, q < b_q → (q < a + 71 ∨ a + 80 < q) → σ q = z0 q := fun q h1_q h2_q => (hq1 q (by omega) (by omega)).trans (hq_q q h1_q h2_q)
  have hG_q : ClG Γ D ro σ a b_q T := ClG.kp ⟨ag, pa, pf, lm, lt, lw, ch, co, rw, bk, hQ_q, hdf, hR_q, hr_q, hbk⟩ hq1 hab (by omega)
  obtain ⟨ag, pa, pf, lm, lt, lw, ch, co, rw, bk, hQ_q, hdf, hR_q, hr_q, hbk⟩ := hG_q
  obtain ⟨tk, t_q, sz, pl, r0⟩ := hC.r0
  refine go_iload_n (pc := 95) dX4_line_95 rfl ?_
  refine go_bipush (v := 7) (pc := 96) dX4_line_96 (by decide) ?_
  refine go_icmp_ne (tgt := 109) (pc := 98) dX4_line_98 (by decide) (fun h_98 => by exfalso; exact h_98 (rfl)) (fun h_98 => ?_)
  refine go_aload_n (pc := 101) dX4_line_101 rfl ?_
  refine go_iconst (v := 0) (pc := 102) dX4_line_102 (by decide) ?_
  refine go_V1V (pc := 103) v_X4_160 rfl rfl (rcv_of (ci := 4) (by first | exact r0 | exact be0 hQ_q | exact be1 hQ_q | exact be2 hQ_q | exact be3 hQ_q | exact sr0 hR_q) rfl) dX4_line_103 (cls_go (t_q := 0) (w := 4) (by omega) (by decide) _ _ (k - 1) hC (lw_tot (N := N) (w := 4) (t := 0) (by omega) hL hk0).1 hvc (by omega)) (fun σ n h_q => ?_)
  obtain ⟨rfl, hC, hq1⟩ := h_q
  have hq_q : ∀ q, q < b_q → (q < a + 71 ∨ a + 80 < q) → σ q = z0 q := fun q h1_q h2_q => (hq1 q (by omega) (by omega)).trans (hq_q q h1_q h2_q)
  have hG_q : ClG Γ D ro σ a b_q T := ClG.kp ⟨ag, pa, pf, lm, lt, lw, ch, co, rw, bk, hQ_q, hdf, hR_q, hr_q, hbk⟩ hq1 hab (by omega)
  obtain ⟨ag, pa, pf, lm, lt, lw, ch, co, rw, bk, hQ_q, hdf, hR_q, hr_q, hbk⟩ := hG_q
  obtain ⟨tk, t_q, sz, pl, r0⟩ := hC.r0
  have hC : CrAt Γ σ a N b_q (nI (4 + 3)) (lwS N 4 0 s) := hC
  refine go_goto (tgt := 114) (pc := 106) dX4_line_106 (by decide) ?_
  refine go_aload_n (pc := 114) dX4_line_114 rfl ?_
  refine go_V0V (pc := 115) v_X4_166 rfl rfl (rcv_of (ci := 4) (by first | exact r0 | exact be0 hQ_q | exact be1 hQ_q | exact be2 hQ_q | exact be3 hQ_q | exact sr0 hR_q) rfl) dX4_line_115 (cp_keepLawB (k := k - 1) hC g2_q) (fun σ n h_q => ?_)
  obtain ⟨en7, es7⟩ := h_q
  obtain rfl := en7.symm
  obtain rfl := es7.symm
  refine go_goto (tgt := 126) (pc := 118) dX4_line_118 (by decide) ?_
  exact cl_126 hC ⟨ag, pa, pf, lm, lt, lw, ch, co, rw, bk, hQ_q, hdf, hR_q, hr_q, hbk⟩ hP8 hab hbD hq_q (by rw [lnP, e9_q]) (fun e_q => absurd (needP_b (by rw [lnP, e9_q] at e_q; exact e_q)) g2_q) (Nat.le_refl _) (Nat.le_refl _) (by omega)
theorem cp_line8g {Γ : gam} {D : Nat} {ro : Nat → Nat} {z0 : sto} {n k a b_q N : Nat} {lw0 : Int32} {s : ps} {T : row} (hC : CrAt Γ z0 a N b_q lw0 s) (hG_q : ClG Γ D ro z0 a b_q T) (hab : a + 113 < b_q) (hbD : b_q + 4 ≤ D) (hI : lnI T) (hb_q : s.bad = 0) (hk0 : kd s.l ≠ 0) (hL : s.l.length ≤ 900) (hv_q : vOK s.l) (hro : ∀ m, ro (b_q + 4 + 3 * m) = 0 ∧ ro (b_q + 4 + 3 * m + 1) = 0 ∧ ro (b_q + 4 + 3 * m + 2) = 1) (hn : ∃ m, n = b_q + 4 + 3 * m) (hDb : D = b_q + 4) (hk : 120 ≤ k) (k5 : ¬ kd s.l = 5) (k10 : ¬ kd s.l = 10) (k7 : ¬ kd s.l = 7) (k8 : kd s.l = 8) (g2_q : (lwS N 5 5 s).bad = 0) : Sp Γ (rmk k (lnU N s).1 (lnU N s).2) uX4_line [.ref (a + 71)] z0 n (qV fun σ' n' => n' = n + (lnU N s).1 ∧ ClT Γ D ro σ' a b_q N (lnP N (s, T)).1 (lnP N (s, T)).2 ∧ ∀ q, q < b_q → (q < a + 71 ∨ a + 80 < q) → σ' q = z0 q) := by
  have hq_q : ∀ q, q < b_q → (q < a + 71 ∨ a + 80 < q) → z0 q = z0 q := fun _ _ _ => rfl
  have hP8 := hI.1.1.2.1
  have r0_ : rk 0 = 6 := rfl
  have r5_ : rk 5 = 3 := rfl
  have hG0 := hG_q
  obtain ⟨ag, pa, pf, lm, lt, lw, ch, co, rw, bk, hQ_q, hdf, hR_q, hr_q, hbk⟩ := hG_q
  obtain ⟨tk, t_q, sz, pl, r0⟩ := hC.r0
  have e9_q : bodP N (s, T).1 (s, T).2 = (lwS N 5 5 s, layT 5 (lwS N 5 5 s).st T) := by
    show bodP N s T = _
    rw [bodP, if_neg k5, if_neg k10, if_neg k7, if_pos k8]
  have hvc : vOK (clr (needP N 58 (nextP s))).l := fun x_q hx_q => hv_q x_q (sub_next (sub_need (N := N) (c := 58) (s := nextP s) hx_q))
  have eU : lnU N s = lwU (lwS N 5 5 s) := by rw [lnU, if_neg k7, if_pos k8]
  rw [eU, lwU, if_pos g2_q]
  refine sp_intro [some (.ref (a + 71)), none] (by decide +kernel) rfl (Nat.le_of_ble_eq_true rfl) rfl ?_
  refine go_aload_n (pc := 0) dX4_line_0 rfl ?_
  refine go_V0I (pc := 1) v_X4_82 rfl rfl (rcv_of (ci := 4) (by first | exact r0 | exact be0 hQ_q | exact be1 hQ_q | exact be2 hQ_q | exact be3 hQ_q | exact sr0 hR_q) rfl) dX4_line_1 (cp_kindT (k := k - 1) hC) (fun v_1 σ n h_q => ?_) (hC := ⟨Nat.le_of_ble_eq_true rfl, by show _ ≤ 50 + _; simp only [rmk]; omega⟩)
  obtain ⟨e1_q, e2_q, hkv⟩ := h_q
  obtain rfl := e1_q.symm
  obtain rfl := e2_q.symm
  obtain rfl := hkv hb_q
  refine go_istore_n (lw := [_, _]) (pc := 4) dX4_line_4 (by decide) rfl ?_
  refine go_iload_n (pc := 5) dX4_line_5 rfl ?_
  refine go_iconst (v := 5) (pc := 6) dX4_line_6 (by decide) ?_
  refine go_icmp_ne (tgt := 17) (pc := 7) dX4_line_7 (by decide) (fun h_7 => ?_) (fun h_7 => by exfalso; exact absurd h_7 (k5))
  refine go_iload_n (pc := 17) dX4_line_17 rfl ?_
  refine go_bipush (v := 10) (pc := 18) dX4_line_18 (by decide) ?_
  refine go_icmp_ne (tgt := 51) (pc := 20) dX4_line_20 (by decide) (fun h_20 => ?_) (fun h_20 => by exfalso; exact absurd h_20 (k10))
  refine go_iload_n (pc := 51) dX4_line_51 rfl ?_
  refine go_bipush (v := 7) (pc := 52) dX4_line_52 (by decide) ?_
  refine go_icmp_eq (tgt := 69) (pc := 54) dX4_line_54 (by decide) (fun h_54 => by exfalso; exact absurd h_54 (k7)) (fun h_54 => ?_)
  refine go_iload_n (pc := 57) dX4_line_57 rfl ?_
  refine go_bipush (v := 8) (pc := 58) dX4_line_58 (by decide) ?_
  refine go_icmp_eq (tgt := 69) (pc := 60) dX4_line_60 (by decide) (fun h_60 => ?_) (fun h_60 => by exfalso; exact h_60 (k8))
  obtain ⟨tk, t_q, sz, pl, r0, hop, -⟩ := hC.op (fun _ => kd_ne k8 (by decide))
  refine go_aload_n (pc := 69) dX4_line_69 rfl ?_
  refine go_dup (pc := 70) dX4_line_70 rfl ?_
  refine go_getf (pc := 71) f_X4_28 dX4_line_71 (by first | exact r0 | exact be0 hQ_q | exact be1 hQ_q | exact be2 hQ_q | exact be3 hQ_q | exact sr0 hR_q) (by rfl) ?_
  refine go_iconst (v := 1) (pc := 74) dX4_line_74 (by decide) ?_
  refine go_iadd (pc := 75) dX4_line_75 ?_
  refine go_putf (fs' := [_, _, _, _, _, _, _, _, _, _, _, _]) (pc := 76) f_X4_28 dX4_line_76 (by first | exact r0 | exact be0 hQ_q | exact be1 hQ_q | exact be2 hQ_q | exact be3 hQ_q | exact sr0 hR_q) (Nat.le_of_ble_eq_true rfl) (by rfl) rfl rfl ?_
  refine go_set (P := fun x_q => CrAt Γ x_q a N b_q lw0 (nextP (s)) ∧ ∀ q, q ≠ a + 71 → q ≠ a + 80 → x_q q = z0 q) ⟨hop hb_q, fun q h1_q h2_q => sup_ne h1_q rfl⟩ (fun σ hx_q => ?_)
  obtain ⟨hC, hq1⟩ := hx_q
  have hq_q : ∀ q, q < b_q → (q < a + 71 ∨ a + 80 < q) → σ q = z0 q := fun q h1_q h2_q => (hq1 q (by omega) (by omega)).trans (hq_q q h1_q h2_q)
  have hG_q : ClG Γ D ro σ a b_q T := ClG.kp ⟨ag, pa, pf, lm, lt, lw, ch, co, rw, bk, hQ_q, hdf, hR_q, hr_q, hbk⟩ hq1 hab (by omega)
  obtain ⟨ag, pa, pf, lm, lt, lw, ch, co, rw, bk, hQ_q, hdf, hR_q, hr_q, hbk⟩ := hG_q
  obtain ⟨tk, t_q, sz, pl, r0⟩ := hC.r0
  refine go_aload_n (pc := 79) dX4_line_79 rfl ?_
  refine go_bipush (v := 58) (pc := 80) dX4_line_80 (by decide) ?_
  refine go_V1V (pc := 82) v_X4_65 rfl rfl (rcv_of (ci := 4) (by first | exact r0 | exact be0 hQ_q | exact be1 hQ_q | exact be2 hQ_q | exact be3 hQ_q | exact sr0 hR_q) rfl) dX4_line_82 (cp_needT (k := k - 1) hC (c_q := 58) (by decide) (by omega)) (fun σ n h_q => ?_) (hC := ⟨Nat.le_of_ble_eq_true rfl, by show _ ≤ 50 + _; simp only [rmk]; omega⟩)
  obtain ⟨rfl, hC, hq1⟩ := h_q
  have hq_q : ∀ q, q < b_q → (q < a + 71 ∨ a + 80 < q) → σ q = z0 q := fun q h1_q h2_q => (hq1 q (by omega) (by omega)).trans (hq_q q h1_q h2_q)
  have hG_q : ClG Γ D ro σ a b_q T := ClG.kp ⟨ag, pa, pf, lm, lt, lw, ch, co, rw, bk, hQ_q, hdf, hR_q, hr_q, hbk⟩ hq1 hab (by omega)
  obtain ⟨ag, pa, pf, lm, lt, lw, ch, co, rw, bk, hQ_q, hdf, hR_q, hr_q, hbk⟩ := hG_q
  obtain ⟨tk, t_q, sz, pl, r0⟩ := hC.r0
  obtain ⟨tk, t_q, sz, pl, r0, hcl⟩ := cr_sz (v_q := nI (5 + 3)) hC
  refine go_aload_n (pc := 85) dX4_line_85 rfl ?_
  refine go_iload_n (pc := 86) dX4_line_86 rfl ?_
  rw [show kd s.l = nI (5 + 3) from k8]
  refine go_putf (fs' := [_, _, _, _, _, _, _, _, _, _, _, _]) (pc := 87) f_X4_34 dX4_line_87 r0 (Nat.le_of_ble_eq_true rfl) (by rfl) rfl rfl ?_
  refine go_aload_n (pc := 90) dX4_line_90 rfl ?_
  refine go_iconst (v := 0) (pc := 91) dX4_line_91 (by decide) ?_
  refine go_putf (fs' := [_, _, _, _, _, _, _, _, _, _, _, _]) (pc := 92) f_X4_31 dX4_line_92 sup_eq (Nat.le_of_ble_eq_true rfl) (by rfl) rfl rfl ?_
  refine go_set (P := fun x_q => CrAt Γ x_q a N b_q (nI (5 + 3)) (clr (needP N 58 (nextP s))) ∧ ∀ q, q ≠ a + 71 → q ≠ a + 80 → x_q q = σ q) ⟨hcl, fun q h1_q h2_q => sup_ne h1_q (sup_ne h1_q rfl)⟩ (fun σ hx_q => ?_)
  obtain ⟨hC, hq1⟩ := hx_q
  have hq_q : ∀ q, q < b_q → (q < a + 71 ∨ a + 80 < q) → σ q = z0 q := fun q h1_q h2_q => (hq1 q (by omega) (by omega)).trans (hq_q q h1_q h2_q)
  have hG_q : ClG Γ D ro σ a b_q T := ClG.kp ⟨ag, pa, pf, lm, lt, lw, ch, co, rw, bk, hQ_q, hdf, hR_q, hr_q, hbk⟩ hq1 hab (by omega)
  obtain ⟨ag, pa, pf, lm, lt, lw, ch, co, rw, bk, hQ_q, hdf, hR_q, hr_q, hbk⟩ := hG_q
  obtain ⟨tk, t_q, sz, pl, r0⟩ := hC.r0
  refine go_iload_n (pc := 95) dX4_line_95 rfl ?_
  refine go_bipush (v := 7) (pc := 96) dX4_line_96 (by decide) ?_
  refine go_icmp_ne (tgt := 109) (pc := 98) dX4_line_98 (by decide) (fun h_98 => ?_) (fun h_98 => by exfalso; exact absurd h_98 (by decide))
  refine go_aload_n (pc := 109) dX4_line_109 rfl ?_
  refine go_iconst (v := 0) (pc := 110) dX4_line_110 (by decide) ?_
  refine go_V1V (pc := 111) v_X4_163 rfl rfl (rcv_of (ci := 4) (by first | exact r0 | exact be0 hQ_q | exact be1 hQ_q | exact be2 hQ_q | exact be3 hQ_q | exact sr0 hR_q) rfl) dX4_line_111 (cls_go (t_q := 5) (w := 5) (by omega) (by decide) _ _ (k - 1) hC (lw_tot (N := N) (w := 5) (t := 5) (by omega) hL hk0).1 hvc (by omega)) (fun σ n h_q => ?_) (hC := ⟨Nat.le_of_ble_eq_true rfl, by show _ ≤ 50 + _; simp only [rmk]; omega⟩)
  obtain ⟨rfl, hC, hq1⟩ := h_q
  have hq_q : ∀ q, q < b_q → (q < a + 71 ∨ a + 80 < q) → σ q = z0 q := fun q h1_q h2_q => (hq1 q (by omega) (by omega)).trans (hq_q q h1_q h2_q)
  have hG_q : ClG Γ D ro σ a b_q T := ClG.kp ⟨ag, pa, pf, lm, lt, lw, ch, co, rw, bk, hQ_q, hdf, hR_q, hr_q, hbk⟩ hq1 hab (by omega)
  obtain ⟨ag, pa, pf, lm, lt, lw, ch, co, rw, bk, hQ_q, hdf, hR_q, hr_q, hbk⟩ := hG_q
  obtain ⟨tk, t_q, sz, pl, r0⟩ := hC.r0
  have hC : CrAt Γ σ a N b_q (nI (5 + 3)) (lwS N 5 5 s) := hC
  have hkl := kin_law (N := N) (w := 5) (t := 5) (s := (clr (needP N 58 (nextP s)))) (by omega) (by decide) rfl g2_q
  obtain ⟨m9_q, hm9⟩ := hn
  have hro9 : ro n = 0 ∧ ro (n + 1) = 0 ∧ ro (n + 2) = 1 := by rw [hm9]; exact hro m9_q
  refine go_aload_n (pc := 114) dX4_line_114 rfl ?_
  refine go_V0V (pc := 115) v_X4_166 rfl rfl (rcv_of (ci := 4) (by first | exact r0 | exact be0 hQ_q | exact be1 hQ_q | exact be2 hQ_q | exact be3 hQ_q | exact sr0 hR_q) rfl) dX4_line_115 (cp_keepLaw (k := k - 1) (w := 5) hC ⟨ag, pa, pf, lm, lt, lw, ch, co, rw, bk, hQ_q, hdf, hR_q, hr_q, hbk⟩ (by omega) g2_q hkl.2.1 (lw_tot (N := N) (w := 5) (t := 5) (by omega) hL hk0).2 (okB_900 hI.1) hP8 hab hbD (by omega) hro9 (by omega)) (fun σ n h_q => ?_) (hC := ⟨Nat.le_of_ble_eq_true rfl, by show _ ≤ 50 + _; simp only [rmk]; omega⟩)
  obtain ⟨rfl, hC, hG_q, hq1⟩ := h_q
  have hq_q : ∀ q, q < b_q → (q < a + 71 ∨ a + 80 < q) → σ q = z0 q := fun q h1_q h2_q => (hq1 q (by omega) (by omega)).trans (hq_q q h1_q h2_q)
  refine go_goto (tgt := 126) (pc := 118) dX4_line_118 (by decide) ?_
  exact cl_126 hC hG_q (by show (layT 5 _ T 3).toNatClampNeg ≤ 8; rw [lay_o (by omega) (by have := lwA_b (w := 5); omega)]; exact hP8) hab hbD hq_q (by rw [lnP, e9_q]) (fun _ => by rw [lnP, e9_q]) (Nat.le_of_ble_eq_true rfl) (by show _ ≤ 50 + _; simp only [rmk]; omega) (by omega)
theorem cp_line8b {Γ : gam} {D : Nat} {ro : Nat → Nat} {z0 : sto} {n k a b_q N : Nat} {lw0 : Int32} {s : ps} {T : row} (hC : CrAt Γ z0 a N b_q lw0 s) (hG_q : ClG Γ D ro z0 a b_q T) (hab : a + 113 < b_q) (hbD : b_q + 4 ≤ D) (hI : lnI T) (hb_q : s.bad = 0) (hk0 : kd s.l ≠ 0) (hL : s.l.length ≤ 900) (hv_q : vOK s.l) (hro : ∀ m, ro (b_q + 4 + 3 * m) = 0 ∧ ro (b_q + 4 + 3 * m + 1) = 0 ∧ ro (b_q + 4 + 3 * m + 2) = 1) (hn : ∃ m, n = b_q + 4 + 3 * m) (hDb : D = b_q + 4) (hk : 120 ≤ k) (k5 : ¬ kd s.l = 5) (k10 : ¬ kd s.l = 10) (k7 : ¬ kd s.l = 7) (k8 : kd s.l = 8) (g2_q : (lwS N 5 5 s).bad ≠ 0) : Sp Γ (rmk k (lnU N s).1 (lnU N s).2) uX4_line [.ref (a + 71)] z0 n (qV fun σ' n' => n' = n + (lnU N s).1 ∧ ClT Γ D ro σ' a b_q N (lnP N (s, T)).1 (lnP N (s, T)).2 ∧ ∀ q, q < b_q → (q < a + 71 ∨ a + 80 < q) → σ' q = z0 q) := by
  have hq_q : ∀ q, q < b_q → (q < a + 71 ∨ a + 80 < q) → z0 q = z0 q := fun _ _ _ => rfl
  have hP8 := hI.1.1.2.1
  have r0_ : rk 0 = 6 := rfl
  have r5_ : rk 5 = 3 := rfl
  have hG0 := hG_q
  obtain ⟨ag, pa, pf, lm, lt, lw, ch, co, rw, bk, hQ_q, hdf, hR_q, hr_q, hbk⟩ := hG_q
  obtain ⟨tk, t_q, sz, pl, r0⟩ := hC.r0
  have e9_q : bodP N (s, T).1 (s, T).2 = (lwS N 5 5 s, layT 5 (lwS N 5 5 s).st T) := by
    show bodP N s T = _
    rw [bodP, if_neg k5, if_neg k10, if_neg k7, if_pos k8]
  have hvc : vOK (clr (needP N 58 (nextP s))).l := fun x_q hx_q => hv_q x_q (sub_next (sub_need (N := N) (c := 58) (s := nextP s) hx_q))
  have eU : lnU N s = lwU (lwS N 5 5 s) := by rw [lnU, if_neg k7, if_pos k8]
  rw [eU, lwU, if_neg g2_q]
  refine sp_intro [some (.ref (a + 71)), none] (by decide +kernel) rfl (Nat.le_of_ble_eq_true rfl) rfl ?_
  refine go_aload_n (pc := 0) dX4_line_0 rfl ?_
  refine go_V0I (pc := 1) v_X4_82 rfl rfl (rcv_of (ci := 4) (by first | exact r0 | exact be0 hQ_q | exact be1 hQ_q | exact be2 hQ_q | exact be3 hQ_q | exact sr0 hR_q) rfl) dX4_line_1 (cp_kindT (k := k - 1) hC) (fun v_1 σ n h_q => ?_)
  obtain ⟨e1_q, e2_q, hkv⟩ := h_q
  obtain rfl := e1_q.symm
  obtain rfl := e2_q.symm
  obtain rfl := hkv hb_q
  refine go_istore_n (lw := [_, _]) (pc := 4) dX4_line_4 (by decide) rfl ?_
  refine go_iload_n (pc := 5) dX4_line_5 rfl ?_
  refine go_iconst (v := 5) (pc := 6) dX4_line_6 (by decide) ?_
  refine go_icmp_ne (tgt := 17) (pc := 7) dX4_line_7 (by decide) (fun h_7 => ?_) (fun h_7 => by exfalso; exact absurd h_7 (k5))
  refine go_iload_n (pc := 17) dX4_line_17 rfl ?_
  refine go_bipush (v := 10) (pc := 18) dX4_line_18 (by decide) ?_
  refine go_icmp_ne (tgt := 51) (pc := 20) dX4_line_20 (by decide) (fun h_20 => ?_) (fun h_20 => by exfalso; exact absurd h_20 (k10))
  refine go_iload_n (pc := 51) dX4_line_51 rfl ?_
  refine go_bipush (v := 7) (pc := 52) dX4_line_52 (by decide) ?_
  refine go_icmp_eq (tgt := 69) (pc := 54) dX4_line_54 (by decide) (fun h_54 => by exfalso; exact absurd h_54 (k7)) (fun h_54 => ?_)
  refine go_iload_n (pc := 57) dX4_line_57 rfl ?_
  refine go_bipush (v := 8) (pc := 58) dX4_line_58 (by decide) ?_
  refine go_icmp_eq (tgt := 69) (pc := 60) dX4_line_60 (by decide) (fun h_60 => ?_) (fun h_60 => by exfalso; exact h_60 (k8))
  obtain ⟨tk, t_q, sz, pl, r0, hop, -⟩ := hC.op (fun _ => kd_ne k8 (by decide))
  refine go_aload_n (pc := 69) dX4_line_69 rfl ?_
  refine go_dup (pc := 70) dX4_line_70 rfl ?_
  refine go_getf (pc := 71) f_X4_28 dX4_line_71 (by first | exact r0 | exact be0 hQ_q | exact be1 hQ_q | exact be2 hQ_q | exact be3 hQ_q | exact sr0 hR_q) (by rfl) ?_
  refine go_iconst (v := 1) (pc := 74) dX4_line_74 (by decide) ?_
  refine go_iadd (pc := 75) dX4_line_75 ?_
  refine go_putf (fs' := [_, _, _, _, _, _, _, _, _, _, _, _]) (pc := 76) f_X4_28 dX4_line_76 (by first | exact r0 | exact be0 hQ_q | exact be1 hQ_q | exact be2 hQ_q | exact be3 hQ_q | exact sr0 hR_q) (Nat.le_of_ble_eq_true rfl) (by rfl) rfl rfl ?_
  refine go_set (P := fun x_q => CrAt Γ x_q a N b_q lw0 (nextP (s)) ∧ ∀ q, q ≠ a + 71 → q ≠ a + 80 → x_q q = z0 q) ⟨hop hb_q, fun q h1_q h2_q => sup_ne h1_q rfl⟩ (fun σ hx_q => ?_)
  obtain ⟨hC, hq1⟩ := hx_q
  have hq_q : ∀ q, q < b_q → (q < a + 71 ∨ a + 80 < q) → σ q = z0 q := fun q h1_q h2_q => (hq1 q (by omega) (by omega)).trans (hq_q q h1_q h2_q)
  have hG_q : ClG Γ D ro σ a b_q T := ClG.kp ⟨ag, pa, pf, lm, lt, lw, ch, co, rw, bk, hQ_q, hdf, hR_q, hr_q, hbk⟩ hq1 hab (by omega)
  obtain ⟨ag, pa, pf, lm, lt, lw, ch, co, rw, bk, hQ_q, hdf, hR_q, hr_q, hbk⟩ := hG_q
  obtain ⟨tk, t_q, sz, pl, r0⟩ := hC.r0
  refine go_aload_n (pc := 79) dX4_line_79 rfl ?_
  refine go_bipush (v := 58) (pc := 80) dX4_line_80 (by decide) ?_
  refine go_V1V (pc := 82) v_X4_65 rfl rfl (rcv_of (ci := 4) (by first | exact r0 | exact be0 hQ_q | exact be1 hQ_q | exact be2 hQ_q | exact be3 hQ_q | exact sr0 hR_q) rfl) dX4_line_82 (cp_needT (k := k - 1) hC (c_q := 58) (by decide) (by omega)) (fun σ n h_q => ?_)
  obtain ⟨rfl, hC, hq1⟩ := h_q
  have hq_q : ∀ q, q < b_q → (q < a + 71 ∨ a + 80 < q) → σ q = z0 q := fun q h1_q h2_q => (hq1 q (by omega) (by omega)).trans (hq_q q h1_q h2_q)
  have hG_q : ClG Γ D ro σ a b_q T := ClG.kp ⟨ag, pa, pf, lm, lt, lw, ch, co, rw, bk, hQ_q, hdf, hR_q, hr_q, hbk⟩ hq1 hab (by omega)
  obtain ⟨ag, pa, pf, lm, lt, lw, ch, co, rw, bk, hQ_q, hdf, hR_q, hr_q, hbk⟩ := hG_q
  obtain ⟨tk, t_q, sz, pl, r0⟩ := hC.r0
  obtain ⟨tk, t_q, sz, pl, r0, hcl⟩ := cr_sz (v_q := nI (5 + 3)) hC
  refine go_aload_n (pc := 85) dX4_line_85 rfl ?_
  refine go_iload_n (pc := 86) dX4_line_86 rfl ?_
  rw [show kd s.l = nI (5 + 3) from k8]
  refine go_putf (fs' := [_, _, _, _, _, _, _, _, _, _, _, _]) (pc := 87) f_X4_34 dX4_line_87 r0 (Nat.le_of_ble_eq_true rfl) (by rfl) rfl rfl ?_
  refine go_aload_n (pc := 90) dX4_line_90 rfl ?_
  refine go_iconst (v := 0) (pc := 91) dX4_line_91 (by decide) ?_
  refine go_putf (fs' := [_, _, _, _, _, _, _, _, _, _, _, _]) (pc := 92) f_X4_31 dX4_line_92 sup_eq (Nat.le_of_ble_eq_true rfl) (by rfl) rfl rfl ?_
  refine go_set (P := fun x_q => CrAt Γ x_q a N b_q (nI (5 + 3)) (clr (needP N 58 (nextP s))) ∧ ∀ q, q ≠ a + 71 → q ≠ a + 80 → x_q q = σ q) ⟨hcl, fun q h1_q h2_q => sup_ne h1_q (sup_ne h1_q rfl)⟩ (fun σ hx_q => ?_)
  obtain ⟨hC, hq1⟩ := hx_q
  have hq_q : ∀ q, q < b_q → (q < a + 71 ∨ a + 80 < q) → σ q = z0 q := fun q h1_q h2_q => (hq1 q (by omega) (by omega)).trans (hq_q q h1_q h2_q)
  have hG_q : ClG Γ D ro σ a b_q T := ClG.kp ⟨ag, pa, pf, lm, lt, lw, ch, co, rw, bk, hQ_q, hdf, hR_q, hr_q, hbk⟩ hq1 hab (by omega)
  obtain ⟨ag, pa, pf, lm, lt, lw, ch, co, rw, bk, hQ_q, hdf, hR_q, hr_q, hbk⟩ := hG_q
  obtain ⟨tk, t_q, sz, pl, r0⟩ := hC.r0
  refine go_iload_n (pc := 95) dX4_line_95 rfl ?_
  refine go_bipush (v := 7) (pc := 96) dX4_line_96 (by decide) ?_
  refine go_icmp_ne (tgt := 109) (pc := 98) dX4_line_98 (by decide) (fun h_98 => ?_) (fun h_98 => by exfalso; exact absurd h_98 (by decide))
  refine go_aload_n (pc := 109) dX4_line_109 rfl ?_
  refine go_iconst (v := 0) (pc := 110) dX4_line_110 (by decide) ?_
  refine go_V1V (pc := 111) v_X4_163 rfl rfl (rcv_of (ci := 4) (by first | exact r0 | exact be0 hQ_q | exact be1 hQ_q | exact be2 hQ_q | exact be3 hQ_q | exact sr0 hR_q) rfl) dX4_line_111 (cls_go (t_q := 5) (w := 5) (by omega) (by decide) _ _ (k - 1) hC (lw_tot (N := N) (w := 5) (t := 5) (by omega) hL hk0).1 hvc (by omega)) (fun σ n h_q => ?_)
  obtain ⟨rfl, hC, hq1⟩ := h_q
  have hq_q : ∀ q, q < b_q → (q < a + 71 ∨ a + 80 < q) → σ q = z0 q := fun q h1_q h2_q => (hq1 q (by omega) (by omega)).trans (hq_q q h1_q h2_q)
  have hG_q : ClG Γ D ro σ a b_q T := ClG.kp ⟨ag, pa, pf, lm, lt, lw, ch, co, rw, bk, hQ_q, hdf, hR_q, hr_q, hbk⟩ hq1 hab (by omega)
  obtain ⟨ag, pa, pf, lm, lt, lw, ch, co, rw, bk, hQ_q, hdf, hR_q, hr_q, hbk⟩ := hG_q
  obtain ⟨tk, t_q, sz, pl, r0⟩ := hC.r0
  have hC : CrAt Γ σ a N b_q (nI (5 + 3)) (lwS N 5 5 s) := hC
  refine go_aload_n (pc := 114) dX4_line_114 rfl ?_
  refine go_V0V (pc := 115) v_X4_166 rfl rfl (rcv_of (ci := 4) (by first | exact r0 | exact be0 hQ_q | exact be1 hQ_q | exact be2 hQ_q | exact be3 hQ_q | exact sr0 hR_q) rfl) dX4_line_115 (cp_keepLawB (k := k - 1) hC g2_q) (fun σ n h_q => ?_)
  obtain ⟨en7, es7⟩ := h_q
  obtain rfl := en7.symm
  obtain rfl := es7.symm
  refine go_goto (tgt := 126) (pc := 118) dX4_line_118 (by decide) ?_
  exact cl_126 hC ⟨ag, pa, pf, lm, lt, lw, ch, co, rw, bk, hQ_q, hdf, hR_q, hr_q, hbk⟩ hP8 hab hbD hq_q (by rw [lnP, e9_q]) (fun e_q => absurd (needP_b (by rw [lnP, e9_q] at e_q; exact e_q)) g2_q) (Nat.le_refl _) (Nat.le_refl _) (by omega)
theorem cp_line9g {Γ : gam} {D : Nat} {ro : Nat → Nat} {z0 : sto} {n k a b_q N : Nat} {lw0 : Int32} {s : ps} {T : row} (hC : CrAt Γ z0 a N b_q lw0 s) (hG_q : ClG Γ D ro z0 a b_q T) (hab : a + 113 < b_q) (hbD : b_q + 4 ≤ D) (hI : lnI T) (hb_q : s.bad = 0) (hk0 : kd s.l ≠ 0) (hL : s.l.length ≤ 900) (hv_q : vOK s.l) (hro : ∀ m, ro (b_q + 4 + 3 * m) = 0 ∧ ro (b_q + 4 + 3 * m + 1) = 0 ∧ ro (b_q + 4 + 3 * m + 2) = 1) (hn : ∃ m, n = b_q + 4 + 3 * m) (hDb : D = b_q + 4) (hk : 120 ≤ k) (k5 : ¬ kd s.l = 5) (k10 : ¬ kd s.l = 10) (k7 : ¬ kd s.l = 7) (k8 : ¬ kd s.l = 8) (k9 : kd s.l = 9) (g2_q : (lwS N 6 5 s).bad = 0) : Sp Γ (rmk k (lnU N s).1 (lnU N s).2) uX4_line [.ref (a + 71)] z0 n (qV fun σ' n' => n' = n + (lnU N s).1 ∧ ClT Γ D ro σ' a b_q N (lnP N (s, T)).1 (lnP N (s, T)).2 ∧ ∀ q, q < b_q → (q < a + 71 ∨ a + 80 < q) → σ' q = z0 q) := by
  have hq_q : ∀ q, q < b_q → (q < a + 71 ∨ a + 80 < q) → z0 q = z0 q := fun _ _ _ => rfl
  have hP8 := hI.1.1.2.1
  have r0_ : rk 0 = 6 := rfl
  have r5_ : rk 5 = 3 := rfl
  have hG0 := hG_q
  obtain ⟨ag, pa, pf, lm, lt, lw, ch, co, rw, bk, hQ_q, hdf, hR_q, hr_q, hbk⟩ := hG_q
  obtain ⟨tk, t_q, sz, pl, r0⟩ := hC.r0
  have e9_q : bodP N (s, T).1 (s, T).2 = (lwS N 6 5 s, layT 6 (lwS N 6 5 s).st T) := by
    show bodP N s T = _
    rw [bodP, if_neg k5, if_neg k10, if_neg k7, if_neg k8, if_pos k9]
  have hvc : vOK (clr (needP N 58 (nextP s))).l := fun x_q hx_q => hv_q x_q (sub_next (sub_need (N := N) (c := 58) (s := nextP s) hx_q))
  have eU : lnU N s = lwU (lwS N 6 5 s) := by rw [lnU, if_neg k7, if_neg k8, if_pos k9]
  rw [eU, lwU, if_pos g2_q]
  refine sp_intro [some (.ref (a + 71)), none] (by decide +kernel) rfl (Nat.le_of_ble_eq_true rfl) rfl ?_
  refine go_aload_n (pc := 0) dX4_line_0 rfl ?_
  refine go_V0I (pc := 1) v_X4_82 rfl rfl (rcv_of (ci := 4) (by first | exact r0 | exact be0 hQ_q | exact be1 hQ_q | exact be2 hQ_q | exact be3 hQ_q | exact sr0 hR_q) rfl) dX4_line_1 (cp_kindT (k := k - 1) hC) (fun v_1 σ n h_q => ?_) (hC := ⟨Nat.le_of_ble_eq_true rfl, by show _ ≤ 50 + _; simp only [rmk]; omega⟩)
  obtain ⟨e1_q, e2_q, hkv⟩ := h_q
  obtain rfl := e1_q.symm
  obtain rfl := e2_q.symm
  obtain rfl := hkv hb_q
  refine go_istore_n (lw := [_, _]) (pc := 4) dX4_line_4 (by decide) rfl ?_
  refine go_iload_n (pc := 5) dX4_line_5 rfl ?_
  refine go_iconst (v := 5) (pc := 6) dX4_line_6 (by decide) ?_
  refine go_icmp_ne (tgt := 17) (pc := 7) dX4_line_7 (by decide) (fun h_7 => ?_) (fun h_7 => by exfalso; exact absurd h_7 (k5))
  refine go_iload_n (pc := 17) dX4_line_17 rfl ?_
  refine go_bipush (v := 10) (pc := 18) dX4_line_18 (by decide) ?_
  refine go_icmp_ne (tgt := 51) (pc := 20) dX4_line_20 (by decide) (fun h_20 => ?_) (fun h_20 => by exfalso; exact absurd h_20 (k10))
  refine go_iload_n (pc := 51) dX4_line_51 rfl ?_
  refine go_bipush (v := 7) (pc := 52) dX4_line_52 (by decide) ?_
  refine go_icmp_eq (tgt := 69) (pc := 54) dX4_line_54 (by decide) (fun h_54 => by exfalso; exact absurd h_54 (k7)) (fun h_54 => ?_)
  refine go_iload_n (pc := 57) dX4_line_57 rfl ?_
  refine go_bipush (v := 8) (pc := 58) dX4_line_58 (by decide) ?_
  refine go_icmp_eq (tgt := 69) (pc := 60) dX4_line_60 (by decide) (fun h_60 => by exfalso; exact absurd h_60 (k8)) (fun h_60 => ?_)
  refine go_iload_n (pc := 63) dX4_line_63 rfl ?_
  refine go_bipush (v := 9) (pc := 64) dX4_line_64 (by decide) ?_
  refine go_icmp_ne (tgt := 121) (pc := 66) dX4_line_66 (by decide) (fun h_66 => by exfalso; exact h_66 (k9)) (fun h_66 => ?_)
  obtain ⟨tk, t_q, sz, pl, r0, hop, -⟩ := hC.op (fun _ => kd_ne k9 (by decide))
  refine go_aload_n (pc := 69) dX4_line_69 rfl ?_
  refine go_dup (pc := 70) dX4_line_70 rfl ?_
  refine go_getf (pc := 71) f_X4_28 dX4_line_71 (by first | exact r0 | exact be0 hQ_q | exact be1 hQ_q | exact be2 hQ_q | exact be3 hQ_q | exact sr0 hR_q) (by rfl) ?_
  refine go_iconst (v := 1) (pc := 74) dX4_line_74 (by decide) ?_
  refine go_iadd (pc := 75) dX4_line_75 ?_
  refine go_putf (fs' := [_, _, _, _, _, _, _, _, _, _, _, _]) (pc := 76) f_X4_28 dX4_line_76 (by first | exact r0 | exact be0 hQ_q | exact be1 hQ_q | exact be2 hQ_q | exact be3 hQ_q | exact sr0 hR_q) (Nat.le_of_ble_eq_true rfl) (by rfl) rfl rfl ?_
  refine go_set (P := fun x_q => CrAt Γ x_q a N b_q lw0 (nextP (s)) ∧ ∀ q, q ≠ a + 71 → q ≠ a + 80 → x_q q = z0 q) ⟨hop hb_q, fun q h1_q h2_q => sup_ne h1_q rfl⟩ (fun σ hx_q => ?_)
  obtain ⟨hC, hq1⟩ := hx_q
  have hq_q : ∀ q, q < b_q → (q < a + 71 ∨ a + 80 < q) → σ q = z0 q := fun q h1_q h2_q => (hq1 q (by omega) (by omega)).trans (hq_q q h1_q h2_q)
  have hG_q : ClG Γ D ro σ a b_q T := ClG.kp ⟨ag, pa, pf, lm, lt, lw, ch, co, rw, bk, hQ_q, hdf, hR_q, hr_q, hbk⟩ hq1 hab (by omega)
  obtain ⟨ag, pa, pf, lm, lt, lw, ch, co, rw, bk, hQ_q, hdf, hR_q, hr_q, hbk⟩ := hG_q
  obtain ⟨tk, t_q, sz, pl, r0⟩ := hC.r0
  refine go_aload_n (pc := 79) dX4_line_79 rfl ?_
  refine go_bipush (v := 58) (pc := 80) dX4_line_80 (by decide) ?_
  refine go_V1V (pc := 82) v_X4_65 rfl rfl (rcv_of (ci := 4) (by first | exact r0 | exact be0 hQ_q | exact be1 hQ_q | exact be2 hQ_q | exact be3 hQ_q | exact sr0 hR_q) rfl) dX4_line_82 (cp_needT (k := k - 1) hC (c_q := 58) (by decide) (by omega)) (fun σ n h_q => ?_) (hC := ⟨Nat.le_of_ble_eq_true rfl, by show _ ≤ 50 + _; simp only [rmk]; omega⟩)
  obtain ⟨rfl, hC, hq1⟩ := h_q
  have hq_q : ∀ q, q < b_q → (q < a + 71 ∨ a + 80 < q) → σ q = z0 q := fun q h1_q h2_q => (hq1 q (by omega) (by omega)).trans (hq_q q h1_q h2_q)
  have hG_q : ClG Γ D ro σ a b_q T := ClG.kp ⟨ag, pa, pf, lm, lt, lw, ch, co, rw, bk, hQ_q, hdf, hR_q, hr_q, hbk⟩ hq1 hab (by omega)
  obtain ⟨ag, pa, pf, lm, lt, lw, ch, co, rw, bk, hQ_q, hdf, hR_q, hr_q, hbk⟩ := hG_q
  obtain ⟨tk, t_q, sz, pl, r0⟩ := hC.r0
  obtain ⟨tk, t_q, sz, pl, r0, hcl⟩ := cr_sz (v_q := nI (6 + 3)) hC
  refine go_aload_n (pc := 85) dX4_line_85 rfl ?_
  refine go_iload_n (pc := 86) dX4_line_86 rfl ?_
  rw [show kd s.l = nI (6 + 3) from k9]
  refine go_putf (fs' := [_, _, _, _, _, _, _, _, _, _, _, _]) (pc := 87) f_X4_34 dX4_line_87 r0 (Nat.le_of_ble_eq_true rfl) (by rfl) rfl rfl ?_
  refine go_aload_n (pc := 90) dX4_line_90 rfl ?_
  refine go_iconst (v := 0) (pc := 91) dX4_line_91 (by decide) ?_
  refine go_putf (fs' := [_, _, _, _, _, _, _, _, _, _, _, _]) (pc := 92) f_X4_31 dX4_line_92 sup_eq (Nat.le_of_ble_eq_true rfl) (by rfl) rfl rfl ?_
  refine go_set (P := fun x_q => CrAt Γ x_q a N b_q (nI (6 + 3)) (clr (needP N 58 (nextP s))) ∧ ∀ q, q ≠ a + 71 → q ≠ a + 80 → x_q q = σ q) ⟨hcl, fun q h1_q h2_q => sup_ne h1_q (sup_ne h1_q rfl)⟩ (fun σ hx_q => ?_)
  obtain ⟨hC, hq1⟩ := hx_q
  have hq_q : ∀ q, q < b_q → (q < a + 71 ∨ a + 80 < q) → σ q = z0 q := fun q h1_q h2_q => (hq1 q (by omega) (by omega)).trans (hq_q q h1_q h2_q)
  have hG_q : ClG Γ D ro σ a b_q T := ClG.kp ⟨ag, pa, pf, lm, lt, lw, ch, co, rw, bk, hQ_q, hdf, hR_q, hr_q, hbk⟩ hq1 hab (by omega)
  obtain ⟨ag, pa, pf, lm, lt, lw, ch, co, rw, bk, hQ_q, hdf, hR_q, hr_q, hbk⟩ := hG_q
  obtain ⟨tk, t_q, sz, pl, r0⟩ := hC.r0
  refine go_iload_n (pc := 95) dX4_line_95 rfl ?_
  refine go_bipush (v := 7) (pc := 96) dX4_line_96 (by decide) ?_
  refine go_icmp_ne (tgt := 109) (pc := 98) dX4_line_98 (by decide) (fun h_98 => ?_) (fun h_98 => by exfalso; exact absurd h_98 (by decide))
  refine go_aload_n (pc := 109) dX4_line_109 rfl ?_
  refine go_iconst (v := 0) (pc := 110) dX4_line_110 (by decide) ?_
  refine go_V1V (pc := 111) v_X4_163 rfl rfl (rcv_of (ci := 4) (by first | exact r0 | exact be0 hQ_q | exact be1 hQ_q | exact be2 hQ_q | exact be3 hQ_q | exact sr0 hR_q) rfl) dX4_line_111 (cls_go (t_q := 5) (w := 6) (by omega) (by decide) _ _ (k - 1) hC (lw_tot (N := N) (w := 6) (t := 5) (by omega) hL hk0).1 hvc (by omega)) (fun σ n h_q => ?_) (hC := ⟨Nat.le_of_ble_eq_true rfl, by show _ ≤ 50 + _; simp only [rmk]; omega⟩)
  obtain ⟨rfl, hC, hq1⟩ := h_q
  have hq_q : ∀ q, q < b_q → (q < a + 71 ∨ a + 80 < q) → σ q = z0 q := fun q h1_q h2_q => (hq1 q (by omega) (by omega)).trans (hq_q q h1_q h2_q)
  have hG_q : ClG Γ D ro σ a b_q T := ClG.kp ⟨ag, pa, pf, lm, lt, lw, ch, co, rw, bk, hQ_q, hdf, hR_q, hr_q, hbk⟩ hq1 hab (by omega)
  obtain ⟨ag, pa, pf, lm, lt, lw, ch, co, rw, bk, hQ_q, hdf, hR_q, hr_q, hbk⟩ := hG_q
  obtain ⟨tk, t_q, sz, pl, r0⟩ := hC.r0
  have hC : CrAt Γ σ a N b_q (nI (6 + 3)) (lwS N 6 5 s) := hC
  have hkl := kin_law (N := N) (w := 6) (t := 5) (s := (clr (needP N 58 (nextP s)))) (by omega) (by decide) rfl g2_q
  obtain ⟨m9_q, hm9⟩ := hn
  have hro9 : ro n = 0 ∧ ro (n + 1) = 0 ∧ ro (n + 2) = 1 := by rw [hm9]; exact hro m9_q
  refine go_aload_n (pc := 114) dX4_line_114 rfl ?_
  refine go_V0V (pc := 115) v_X4_166 rfl rfl (rcv_of (ci := 4) (by first | exact r0 | exact be0 hQ_q | exact be1 hQ_q | exact be2 hQ_q | exact be3 hQ_q | exact sr0 hR_q) rfl) dX4_line_115 (cp_keepLaw (k := k - 1) (w := 6) hC ⟨ag, pa, pf, lm, lt, lw, ch, co, rw, bk, hQ_q, hdf, hR_q, hr_q, hbk⟩ (by omega) g2_q hkl.2.1 (lw_tot (N := N) (w := 6) (t := 5) (by omega) hL hk0).2 (okB_900 hI.1) hP8 hab hbD (by omega) hro9 (by omega)) (fun σ n h_q => ?_) (hC := ⟨Nat.le_of_ble_eq_true rfl, by show _ ≤ 50 + _; simp only [rmk]; omega⟩)
  obtain ⟨rfl, hC, hG_q, hq1⟩ := h_q
  have hq_q : ∀ q, q < b_q → (q < a + 71 ∨ a + 80 < q) → σ q = z0 q := fun q h1_q h2_q => (hq1 q (by omega) (by omega)).trans (hq_q q h1_q h2_q)
  refine go_goto (tgt := 126) (pc := 118) dX4_line_118 (by decide) ?_
  exact cl_126 hC hG_q (by show (layT 6 _ T 3).toNatClampNeg ≤ 8; rw [lay_o (by omega) (by have := lwA_b (w := 6); omega)]; exact hP8) hab hbD hq_q (by rw [lnP, e9_q]) (fun _ => by rw [lnP, e9_q]) (Nat.le_of_ble_eq_true rfl) (by show _ ≤ 50 + _; simp only [rmk]; omega) (by omega)
theorem cp_line9b {Γ : gam} {D : Nat} {ro : Nat → Nat} {z0 : sto} {n k a b_q N : Nat} {lw0 : Int32} {s : ps} {T : row} (hC : CrAt Γ z0 a N b_q lw0 s) (hG_q : ClG Γ D ro z0 a b_q T) (hab : a + 113 < b_q) (hbD : b_q + 4 ≤ D) (hI : lnI T) (hb_q : s.bad = 0) (hk0 : kd s.l ≠ 0) (hL : s.l.length ≤ 900) (hv_q : vOK s.l) (hro : ∀ m, ro (b_q + 4 + 3 * m) = 0 ∧ ro (b_q + 4 + 3 * m + 1) = 0 ∧ ro (b_q + 4 + 3 * m + 2) = 1) (hn : ∃ m, n = b_q + 4 + 3 * m) (hDb : D = b_q + 4) (hk : 120 ≤ k) (k5 : ¬ kd s.l = 5) (k10 : ¬ kd s.l = 10) (k7 : ¬ kd s.l = 7) (k8 : ¬ kd s.l = 8) (k9 : kd s.l = 9) (g2_q : (lwS N 6 5 s).bad ≠ 0) : Sp Γ (rmk k (lnU N s).1 (lnU N s).2) uX4_line [.ref (a + 71)] z0 n (qV fun σ' n' => n' = n + (lnU N s).1 ∧ ClT Γ D ro σ' a b_q N (lnP N (s, T)).1 (lnP N (s, T)).2 ∧ ∀ q, q < b_q → (q < a + 71 ∨ a + 80 < q) → σ' q = z0 q) := by
  have hq_q : ∀ q, q < b_q → (q < a + 71 ∨ a + 80 < q) → z0 q = z0 q := fun _ _ _ => rfl
  have hP8 := hI.1.1.2.1
  have r0_ : rk 0 = 6 := rfl
  have r5_ : rk 5 = 3 := rfl
  have hG0 := hG_q
  obtain ⟨ag, pa, pf, lm, lt, lw, ch, co, rw, bk, hQ_q, hdf, hR_q, hr_q, hbk⟩ := hG_q
  obtain ⟨tk, t_q, sz, pl, r0⟩ := hC.r0
  have e9_q : bodP N (s, T).1 (s, T).2 = (lwS N 6 5 s, layT 6 (lwS N 6 5 s).st T) := by
    show bodP N s T = _
    rw [bodP, if_neg k5, if_neg k10, if_neg k7, if_neg k8, if_pos k9]
  have hvc : vOK (clr (needP N 58 (nextP s))).l := fun x_q hx_q => hv_q x_q (sub_next (sub_need (N := N) (c := 58) (s := nextP s) hx_q))
  have eU : lnU N s = lwU (lwS N 6 5 s) := by rw [lnU, if_neg k7, if_neg k8, if_pos k9]
  rw [eU, lwU, if_neg g2_q]
  refine sp_intro [some (.ref (a + 71)), none] (by decide +kernel) rfl (Nat.le_of_ble_eq_true rfl) rfl ?_
  refine go_aload_n (pc := 0) dX4_line_0 rfl ?_
  refine go_V0I (pc := 1) v_X4_82 rfl rfl (rcv_of (ci := 4) (by first | exact r0 | exact be0 hQ_q | exact be1 hQ_q | exact be2 hQ_q | exact be3 hQ_q | exact sr0 hR_q) rfl) dX4_line_1 (cp_kindT (k := k - 1) hC) (fun v_1 σ n h_q => ?_)
  obtain ⟨e1_q, e2_q, hkv⟩ := h_q
  obtain rfl := e1_q.symm
  obtain rfl := e2_q.symm
  obtain rfl := hkv hb_q
  refine go_istore_n (lw := [_, _]) (pc := 4) dX4_line_4 (by decide) rfl ?_
  refine go_iload_n (pc := 5) dX4_line_5 rfl ?_
  refine go_iconst (v := 5) (pc := 6) dX4_line_6 (by decide) ?_
  refine go_icmp_ne (tgt := 17) (pc := 7) dX4_line_7 (by decide) (fun h_7 => ?_) (fun h_7 => by exfalso; exact absurd h_7 (k5))
  refine go_iload_n (pc := 17) dX4_line_17 rfl ?_
  refine go_bipush (v := 10) (pc := 18) dX4_line_18 (by decide) ?_
  refine go_icmp_ne (tgt := 51) (pc := 20) dX4_line_20 (by decide) (fun h_20 => ?_) (fun h_20 => by exfalso; exact absurd h_20 (k10))
  refine go_iload_n (pc := 51) dX4_line_51 rfl ?_
  refine go_bipush (v := 7) (pc := 52) dX4_line_52 (by decide) ?_
  refine go_icmp_eq (tgt := 69) (pc := 54) dX4_line_54 (by decide) (fun h_54 => by exfalso; exact absurd h_54 (k7)) (fun h_54 => ?_)
  refine go_iload_n (pc := 57) dX4_line_57 rfl ?_
  refine go_bipush (v := 8) (pc := 58) dX4_line_58 (by decide) ?_
  refine go_icmp_eq (tgt := 69) (pc := 60) dX4_line_60 (by decide) (fun h_60 => by exfalso; exact absurd h_60 (k8)) (fun h_60 => ?_)
  refine go_iload_n (pc := 63) dX4_line_63 rfl ?_
  refine go_bipush (v := 9) (pc := 64) dX4_line_64 (by decide) ?_
  refine go_icmp_ne (tgt := 121) (pc := 66) dX4_line_66 (by decide) (fun h_66 => by exfalso; exact h_66 (k9)) (fun h_66 => ?_)
  obtain ⟨tk, t_q, sz, pl, r0, hop, -⟩ := hC.op (fun _ => kd_ne k9 (by decide))
  refine go_aload_n (pc := 69) dX4_line_69 rfl ?_
  refine go_dup (pc := 70) dX4_line_70 rfl ?_
  refine go_getf (pc := 71) f_X4_28 dX4_line_71 (by first | exact r0 | exact be0 hQ_q | exact be1 hQ_q | exact be2 hQ_q | exact be3 hQ_q | exact sr0 hR_q) (by rfl) ?_
  refine go_iconst (v := 1) (pc := 74) dX4_line_74 (by decide) ?_
  refine go_iadd (pc := 75) dX4_line_75 ?_
  refine go_putf (fs' := [_, _, _, _, _, _, _, _, _, _, _, _]) (pc := 76) f_X4_28 dX4_line_76 (by first | exact r0 | exact be0 hQ_q | exact be1 hQ_q | exact be2 hQ_q | exact be3 hQ_q | exact sr0 hR_q) (Nat.le_of_ble_eq_true rfl) (by rfl) rfl rfl ?_
  refine go_set (P := fun x_q => CrAt Γ x_q a N b_q lw0 (nextP (s)) ∧ ∀ q, q ≠ a + 71 → q ≠ a + 80 → x_q q = z0 q) ⟨hop hb_q, fun q h1_q h2_q => sup_ne h1_q rfl⟩ (fun σ hx_q => ?_)
  obtain ⟨hC, hq1⟩ := hx_q
  have hq_q : ∀ q, q < b_q → (q < a + 71 ∨ a + 80 < q) → σ q = z0 q := fun q h1_q h2_q => (hq1 q (by omega) (by omega)).trans (hq_q q h1_q h2_q)
  have hG_q : ClG Γ D ro σ a b_q T := ClG.kp ⟨ag, pa, pf, lm, lt, lw, ch, co, rw, bk, hQ_q, hdf, hR_q, hr_q, hbk⟩ hq1 hab (by omega)
  obtain ⟨ag, pa, pf, lm, lt, lw, ch, co, rw, bk, hQ_q, hdf, hR_q, hr_q, hbk⟩ := hG_q
  obtain ⟨tk, t_q, sz, pl, r0⟩ := hC.r0
  refine go_aload_n (pc := 79) dX4_line_79 rfl ?_
  refine go_bipush (v := 58) (pc := 80) dX4_line_80 (by decide) ?_
  refine go_V1V (pc := 82) v_X4_65 rfl rfl (rcv_of (ci := 4) (by first | exact r0 | exact be0 hQ_q | exact be1 hQ_q | exact be2 hQ_q | exact be3 hQ_q | exact sr0 hR_q) rfl) dX4_line_82 (cp_needT (k := k - 1) hC (c_q := 58) (by decide) (by omega)) (fun σ n h_q => ?_)
  obtain ⟨rfl, hC, hq1⟩ := h_q
  have hq_q : ∀ q, q < b_q → (q < a + 71 ∨ a + 80 < q) → σ q = z0 q := fun q h1_q h2_q => (hq1 q (by omega) (by omega)).trans (hq_q q h1_q h2_q)
  have hG_q : ClG Γ D ro σ a b_q T := ClG.kp ⟨ag, pa, pf, lm, lt, lw, ch, co, rw, bk, hQ_q, hdf, hR_q, hr_q, hbk⟩ hq1 hab (by omega)
  obtain ⟨ag, pa, pf, lm, lt, lw, ch, co, rw, bk, hQ_q, hdf, hR_q, hr_q, hbk⟩ := hG_q
  obtain ⟨tk, t_q, sz, pl, r0⟩ := hC.r0
  obtain ⟨tk, t_q, sz, pl, r0, hcl⟩ := cr_sz (v_q := nI (6 + 3)) hC
  refine go_aload_n (pc := 85) dX4_line_85 rfl ?_
  refine go_iload_n (pc := 86) dX4_line_86 rfl ?_
  rw [show kd s.l = nI (6 + 3) from k9]
  refine go_putf (fs' := [_, _, _, _, _, _, _, _, _, _, _, _]) (pc := 87) f_X4_34 dX4_line_87 r0 (Nat.le_of_ble_eq_true rfl) (by rfl) rfl rfl ?_
  refine go_aload_n (pc := 90) dX4_line_90 rfl ?_
  refine go_iconst (v := 0) (pc := 91) dX4_line_91 (by decide) ?_
  refine go_putf (fs' := [_, _, _, _, _, _, _, _, _, _, _, _]) (pc := 92) f_X4_31 dX4_line_92 sup_eq (Nat.le_of_ble_eq_true rfl) (by rfl) rfl rfl ?_
  refine go_set (P := fun x_q => CrAt Γ x_q a N b_q (nI (6 + 3)) (clr (needP N 58 (nextP s))) ∧ ∀ q, q ≠ a + 71 → q ≠ a + 80 → x_q q = σ q) ⟨hcl, fun q h1_q h2_q => sup_ne h1_q (sup_ne h1_q rfl)⟩ (fun σ hx_q => ?_)
  obtain ⟨hC, hq1⟩ := hx_q
  have hq_q : ∀ q, q < b_q → (q < a + 71 ∨ a + 80 < q) → σ q = z0 q := fun q h1_q h2_q => (hq1 q (by omega) (by omega)).trans (hq_q q h1_q h2_q)
  have hG_q : ClG Γ D ro σ a b_q T := ClG.kp ⟨ag, pa, pf, lm, lt, lw, ch, co, rw, bk, hQ_q, hdf, hR_q, hr_q, hbk⟩ hq1 hab (by omega)
  obtain ⟨ag, pa, pf, lm, lt, lw, ch, co, rw, bk, hQ_q, hdf, hR_q, hr_q, hbk⟩ := hG_q
  obtain ⟨tk, t_q, sz, pl, r0⟩ := hC.r0
  refine go_iload_n (pc := 95) dX4_line_95 rfl ?_
  refine go_bipush (v := 7) (pc := 96) dX4_line_96 (by decide) ?_
  refine go_icmp_ne (tgt := 109) (pc := 98) dX4_line_98 (by decide) (fun h_98 => ?_) (fun h_98 => by exfalso; exact absurd h_98 (by decide))
  refine go_aload_n (pc := 109) dX4_line_109 rfl ?_
  refine go_iconst (v := 0) (pc := 110) dX4_line_110 (by decide) ?_
  refine go_V1V (pc := 111) v_X4_163 rfl rfl (rcv_of (ci := 4) (by first | exact r0 | exact be0 hQ_q | exact be1 hQ_q | exact be2 hQ_q | exact be3 hQ_q | exact sr0 hR_q) rfl) dX4_line_111 (cls_go (t_q := 5) (w := 6) (by omega) (by decide) _ _ (k - 1) hC (lw_tot (N := N) (w := 6) (t := 5) (by omega) hL hk0).1 hvc (by omega)) (fun σ n h_q => ?_)
  obtain ⟨rfl, hC, hq1⟩ := h_q
  have hq_q : ∀ q, q < b_q → (q < a + 71 ∨ a + 80 < q) → σ q = z0 q := fun q h1_q h2_q => (hq1 q (by omega) (by omega)).trans (hq_q q h1_q h2_q)
  have hG_q : ClG Γ D ro σ a b_q T := ClG.kp ⟨ag, pa, pf, lm, lt, lw, ch, co, rw, bk, hQ_q, hdf, hR_q, hr_q, hbk⟩ hq1 hab (by omega)
  obtain ⟨ag, pa, pf, lm, lt, lw, ch, co, rw, bk, hQ_q, hdf, hR_q, hr_q, hbk⟩ := hG_q
  obtain ⟨tk, t_q, sz, pl, r0⟩ := hC.r0
  have hC : CrAt Γ σ a N b_q (nI (6 + 3)) (lwS N 6 5 s) := hC
  refine go_aload_n (pc := 114) dX4_line_114 rfl ?_
  refine go_V0V (pc := 115) v_X4_166 rfl rfl (rcv_of (ci := 4) (by first | exact r0 | exact be0 hQ_q | exact be1 hQ_q | exact be2 hQ_q | exact be3 hQ_q | exact sr0 hR_q) rfl) dX4_line_115 (cp_keepLawB (k := k - 1) hC g2_q) (fun σ n h_q => ?_)
  obtain ⟨en7, es7⟩ := h_q
  obtain rfl := en7.symm
  obtain rfl := es7.symm
  refine go_goto (tgt := 126) (pc := 118) dX4_line_118 (by decide) ?_
  exact cl_126 hC ⟨ag, pa, pf, lm, lt, lw, ch, co, rw, bk, hQ_q, hdf, hR_q, hr_q, hbk⟩ hP8 hab hbD hq_q (by rw [lnP, e9_q]) (fun e_q => absurd (needP_b (by rw [lnP, e9_q] at e_q; exact e_q)) g2_q) (Nat.le_refl _) (Nat.le_refl _) (by omega)
theorem cp_line0 {Γ : gam} {D : Nat} {ro : Nat → Nat} {z0 : sto} {n k a b_q N : Nat} {lw0 : Int32} {s : ps} {T : row} (hC : CrAt Γ z0 a N b_q lw0 s) (hG_q : ClG Γ D ro z0 a b_q T) (hab : a + 113 < b_q) (hbD : b_q + 4 ≤ D) (hI : lnI T) (hb_q : s.bad = 0) (hk0 : kd s.l ≠ 0) (hL : s.l.length ≤ 900) (hv_q : vOK s.l) (hro : ∀ m, ro (b_q + 4 + 3 * m) = 0 ∧ ro (b_q + 4 + 3 * m + 1) = 0 ∧ ro (b_q + 4 + 3 * m + 2) = 1) (hn : ∃ m, n = b_q + 4 + 3 * m) (hDb : D = b_q + 4) (hk : 120 ≤ k) (k5 : ¬ kd s.l = 5) (k10 : ¬ kd s.l = 10) (k7 : ¬ kd s.l = 7) (k8 : ¬ kd s.l = 8) (k9 : ¬ kd s.l = 9) : Sp Γ (rmk k (lnU N s).1 (lnU N s).2) uX4_line [.ref (a + 71)] z0 n (qV fun σ' n' => n' = n + (lnU N s).1 ∧ ClT Γ D ro σ' a b_q N (lnP N (s, T)).1 (lnP N (s, T)).2 ∧ ∀ q, q < b_q → (q < a + 71 ∨ a + 80 < q) → σ' q = z0 q) := by
  have hq_q : ∀ q, q < b_q → (q < a + 71 ∨ a + 80 < q) → z0 q = z0 q := fun _ _ _ => rfl
  have hP8 := hI.1.1.2.1
  have r0_ : rk 0 = 6 := rfl
  have r5_ : rk 5 = 3 := rfl
  have hG0 := hG_q
  obtain ⟨ag, pa, pf, lm, lt, lw, ch, co, rw, bk, hQ_q, hdf, hR_q, hr_q, hbk⟩ := hG_q
  obtain ⟨tk, t_q, sz, pl, r0⟩ := hC.r0
  have eU : lnU N s = (0, 0) := by rw [lnU, if_neg k7, if_neg k8, if_neg k9]
  rw [eU]
  have e9_q : bodP N (s, T).1 (s, T).2 = (failP N 2 s, T) := by
    show bodP N s T = _
    rw [bodP, if_neg k5, if_neg k10, if_neg k7, if_neg k8, if_neg k9]
  refine sp_intro [some (.ref (a + 71)), none] (by decide +kernel) rfl (Nat.le_of_ble_eq_true rfl) rfl ?_
  refine go_aload_n (pc := 0) dX4_line_0 rfl ?_
  refine go_V0I (pc := 1) v_X4_82 rfl rfl (rcv_of (ci := 4) (by first | exact r0 | exact be0 hQ_q | exact be1 hQ_q | exact be2 hQ_q | exact be3 hQ_q | exact sr0 hR_q) rfl) dX4_line_1 (cp_kindT (k := k - 1) hC) (fun v_1 σ n h_q => ?_)
  obtain ⟨e1_q, e2_q, hkv⟩ := h_q
  obtain rfl := e1_q.symm
  obtain rfl := e2_q.symm
  obtain rfl := hkv hb_q
  refine go_istore_n (lw := [_, _]) (pc := 4) dX4_line_4 (by decide) rfl ?_
  refine go_iload_n (pc := 5) dX4_line_5 rfl ?_
  refine go_iconst (v := 5) (pc := 6) dX4_line_6 (by decide) ?_
  refine go_icmp_ne (tgt := 17) (pc := 7) dX4_line_7 (by decide) (fun h_7 => ?_) (fun h_7 => by exfalso; exact absurd h_7 (k5))
  refine go_iload_n (pc := 17) dX4_line_17 rfl ?_
  refine go_bipush (v := 10) (pc := 18) dX4_line_18 (by decide) ?_
  refine go_icmp_ne (tgt := 51) (pc := 20) dX4_line_20 (by decide) (fun h_20 => ?_) (fun h_20 => by exfalso; exact absurd h_20 (k10))
  refine go_iload_n (pc := 51) dX4_line_51 rfl ?_
  refine go_bipush (v := 7) (pc := 52) dX4_line_52 (by decide) ?_
  refine go_icmp_eq (tgt := 69) (pc := 54) dX4_line_54 (by decide) (fun h_54 => by exfalso; exact absurd h_54 (k7)) (fun h_54 => ?_)
  refine go_iload_n (pc := 57) dX4_line_57 rfl ?_
  refine go_bipush (v := 8) (pc := 58) dX4_line_58 (by decide) ?_
  refine go_icmp_eq (tgt := 69) (pc := 60) dX4_line_60 (by decide) (fun h_60 => by exfalso; exact absurd h_60 (k8)) (fun h_60 => ?_)
  refine go_iload_n (pc := 63) dX4_line_63 rfl ?_
  refine go_bipush (v := 9) (pc := 64) dX4_line_64 (by decide) ?_
  refine go_icmp_ne (tgt := 121) (pc := 66) dX4_line_66 (by decide) (fun h_66 => ?_) (fun h_66 => by exfalso; exact absurd h_66 (k9))
  refine go_aload_n (pc := 121) dX4_line_121 rfl ?_
  refine go_iconst (v := 2) (pc := 122) dX4_line_122 (by decide) ?_
  refine go_V1V (pc := 123) v_X4_152 rfl rfl (rcv_of (ci := 4) (by first | exact r0 | exact be0 hQ_q | exact be1 hQ_q | exact be2 hQ_q | exact be3 hQ_q | exact sr0 hR_q) rfl) dX4_line_123 (cp_failT (k := k - 1) hC (c_q := 2) (by decide)) (fun σ n h_q => ?_)
  obtain ⟨rfl, hC, hq1⟩ := h_q
  have hq_q : ∀ q, q < b_q → (q < a + 71 ∨ a + 80 < q) → σ q = z0 q := fun q h1_q h2_q => (hq1 q (by omega) (by omega)).trans (hq_q q h1_q h2_q)
  have hG_q : ClG Γ D ro σ a b_q T := ClG.kp ⟨ag, pa, pf, lm, lt, lw, ch, co, rw, bk, hQ_q, hdf, hR_q, hr_q, hbk⟩ hq1 hab (by omega)
  obtain ⟨tk, t_q, sz, pl, r0⟩ := hC.r0
  exact cl_126 hC hG_q hP8 hab hbD hq_q (by rw [lnP, e9_q]) (fun e_q => absurd (needP_b (by rw [lnP, e9_q] at e_q; exact e_q)) (failP_ne (by decide) hb_q)) (Nat.le_refl _) (Nat.le_refl _) (by omega)
theorem cp_line {Γ : gam} {D : Nat} {ro : Nat → Nat} {z0 : sto} {n k a b_q N : Nat} {lw0 : Int32} {s : ps} {T : row} (hC : CrAt Γ z0 a N b_q lw0 s) (hG_q : ClG Γ D ro z0 a b_q T) (hab : a + 113 < b_q) (hbD : b_q + 4 ≤ D) (hI : lnI T) (hb_q : s.bad = 0) (hk0 : kd s.l ≠ 0) (hL : s.l.length ≤ 900) (hv_q : vOK s.l) (hro : ∀ m, ro (b_q + 4 + 3 * m) = 0 ∧ ro (b_q + 4 + 3 * m + 1) = 0 ∧ ro (b_q + 4 + 3 * m + 2) = 1) (hn : ∃ m, n = b_q + 4 + 3 * m) (hDb : D = b_q + 4) (hk : 120 ≤ k) : Sp Γ (rmk k (lnU N s).1 (lnU N s).2) uX4_line [.ref (a + 71)] z0 n (qV fun σ' n' => n' = n + (lnU N s).1 ∧ ClT Γ D ro σ' a b_q N (lnP N (s, T)).1 (lnP N (s, T)).2 ∧ ∀ q, q < b_q → (q < a + 71 ∨ a + 80 < q) → σ' q = z0 q) := by
  by_cases k5 : kd s.l = 5
  · exact cp_line5 hC hG_q hab hbD hI hb_q hk0 hL hv_q hro hn hDb hk k5
  · by_cases k10 : kd s.l = 10
    · exact cp_line10 hC hG_q hab hbD hI hb_q hk0 hL hv_q hro hn hDb hk k5 k10
    · by_cases k7 : kd s.l = 7
      · by_cases g2_q : (lwS N 4 0 s).bad = 0
        · exact cp_line7g hC hG_q hab hbD hI hb_q hk0 hL hv_q hro hn hDb hk k5 k10 k7 g2_q
        · exact cp_line7b hC hG_q hab hbD hI hb_q hk0 hL hv_q hro hn hDb hk k5 k10 k7 g2_q
      · by_cases k8 : kd s.l = 8
        · by_cases g2_q : (lwS N 5 5 s).bad = 0
          · exact cp_line8g hC hG_q hab hbD hI hb_q hk0 hL hv_q hro hn hDb hk k5 k10 k7 k8 g2_q
          · exact cp_line8b hC hG_q hab hbD hI hb_q hk0 hL hv_q hro hn hDb hk k5 k10 k7 k8 g2_q
        · by_cases k9 : kd s.l = 9
          · by_cases g2_q : (lwS N 6 5 s).bad = 0
            · exact cp_line9g hC hG_q hab hbD hI hb_q hk0 hL hv_q hro hn hDb hk k5 k10 k7 k8 k9 g2_q
            · exact cp_line9b hC hG_q hab hbD hI hb_q hk0 hL hv_q hro hn hDb hk k5 k10 k7 k8 k9 g2_q
          · exact cp_line0 hC hG_q hab hbD hI hb_q hk0 hL hv_q hro hn hDb hk k5 k10 k7 k8 k9
