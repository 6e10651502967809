/-! ===== the class: a beach ===== -/
theorem cp_hasMore {Γ : gam} {z0 : sto} {n k a b_q N : Nat} {lw : Int32} {s : ps} (hC : CrAt Γ z0 a N b_q lw s) : Sp Γ (rmk k 0 0) uX4_hasMore [.ref (a + 71)] z0 n (qP (bI (s.bad = 0 ∧ kd s.l ≠ 0)) z0 n) := by
  obtain ⟨tk, t_q, sz, pl, r0⟩ := hC.r0
  refine sp_intro [some (.ref (a + 71))] (by decide +kernel) rfl (Nat.le_of_ble_eq_true rfl) rfl ?_
  refine go_aload_n (pc := 0) dX4_hasMore_0 rfl ?_
  refine go_getf (pc := 1) f_X4_37 dX4_hasMore_1 (by exact r0) (by rfl) ?_
  refine go_if_ne (tgt := 18) (pc := 4) dX4_hasMore_4 (by decide) (fun h_4 => ?_) (fun h_4 => ?_)
  · refine go_iconst (v := 0) (pc := 18) dX4_hasMore_18 (by decide) ?_
    exact go_zretP (pc := 19) rfl (by first | rfl | exact nb_bI) dX4_hasMore_19 (Nat.le_of_ble_eq_true rfl) (Nat.le_of_ble_eq_true rfl) (by
  first
    | (have g_q : ¬ s.bad = 0 := h_4
       exact (bI_f (fun x_q => g_q x_q.1)).symm)
    | (have g_q : kd s.l = 0 := h_11
       exact (bI_f (fun x_q => x_q.2 g_q)).symm)
    | (have g_q : ¬ kd s.l = 0 := h_11
       exact (bI_t ⟨h_4, g_q⟩).symm))
  · refine go_aload_n (pc := 7) dX4_hasMore_7 rfl ?_
    refine go_V0I (pc := 8) v_X4_82 rfl rfl (rcv_of (ci := 4) (by exact r0) rfl) dX4_hasMore_8 (cp_kindT (k := k - 1) hC) (fun v_8 σ n h_q => ?_)
    obtain ⟨e1_q, e2_q, hkv⟩ := h_q
    obtain rfl := e1_q.symm
    obtain rfl := e2_q.symm
    obtain rfl := hkv h_4
    refine go_if_eq (tgt := 18) (pc := 11) dX4_hasMore_11 (by decide) (fun h_11 => ?_) (fun h_11 => ?_)
    · refine go_iconst (v := 0) (pc := 18) dX4_hasMore_18 (by decide) ?_
      exact go_zretP (pc := 19) rfl (by first | rfl | exact nb_bI) dX4_hasMore_19 (Nat.le_of_ble_eq_true rfl) (Nat.le_of_ble_eq_true rfl) (by
  first
    | (have g_q : ¬ s.bad = 0 := h_4
       exact (bI_f (fun x_q => g_q x_q.1)).symm)
    | (have g_q : kd s.l = 0 := h_11
       exact (bI_f (fun x_q => x_q.2 g_q)).symm)
    | (have g_q : ¬ kd s.l = 0 := h_11
       exact (bI_t ⟨h_4, g_q⟩).symm))
    · refine go_iconst (v := 1) (pc := 14) dX4_hasMore_14 (by decide) ?_
      refine go_goto (tgt := 19) (pc := 15) dX4_hasMore_15 (by decide) ?_
      exact go_zretP (pc := 19) rfl (by first | rfl | exact nb_bI) dX4_hasMore_19 (Nat.le_of_ble_eq_true rfl) (Nat.le_of_ble_eq_true rfl) (by
  first
    | (have g_q : ¬ s.bad = 0 := h_4
       exact (bI_f (fun x_q => g_q x_q.1)).symm)
    | (have g_q : kd s.l = 0 := h_11
       exact (bI_f (fun x_q => x_q.2 g_q)).symm)
    | (have g_q : ¬ kd s.l = 0 := h_11
       exact (bI_t ⟨h_4, g_q⟩).symm))
/-- what a beach call may write -/
def bS (a n q : Nat) : Prop := q = a ∨ (a + 14 ≤ q ∧ q ≤ a + 19) ∨ (a + 71 ≤ q ∧ q ≤ a + 80) ∨ n ≤ q
def rdA (Γ : gam) (σ : sto) (a : Nat) : Prop := ∃ (b_q : Nat) (tk t_q sz lw fl pl : Int32) (ck cv cp cc : row), RrAt Γ σ a tk t_q sz lw b_q fl pl ck cv cp cc
def bchC (Γ : gam) (ro : Nat → Nat) (z0 : sto) (n a N : Nat) (G f_q : row) (im : Nat → Option Nat) (v_q : Int32) (σ : sto) : Prop := ∃ (ro' : Nat → Nat) (G' : row), (∀ q, q < n → ro' q = ro q) ∧ CoAt Γ ro' σ a G' im ∧ G' 1 = 0 ∧ G' 2 = (bchP N f_q).1.bad ∧ G' 3 = (bchP N f_q).1.pl ∧ (∀ j, j ≠ 1 → j ≠ 2 → j ≠ 3 → G' j = G j) ∧ rdA Γ σ a ∧ TrAt Γ ro' σ (a + 72) ∧ frS Γ ro' (bS a n) z0 σ ∧ ((bchP N f_q).1.bad ≠ 0 → v_q = -10 - (bchP N f_q).1.bad ∧ ∀ q, a + 14 ≤ q → q ≤ a + 19 → σ q = z0 q) ∧ ((bchP N f_q).1.bad = 0 → v_q = (bchP N f_q).2 0 ∧ lnI (bchP N f_q).2 ∧ BeAt Γ (n + 4) ro' σ n (bchP N f_q).2 ∧ SeAt Γ ro' σ (a + 14) n 0 (bchP N f_q).2 ∧ HiAt Γ ro' σ (a + 19) n 0 0 (bchP N f_q).2)
def rBn (ro : Nat → Nat) (n q : Nat) : Nat := if q < n then ro q else if q < n + 4 then 0 else if (q - (n + 4)) % 3 = 2 then 1 else 0
theorem rBn_lo {ro : Nat → Nat} {n q : Nat} (h_q : q < n) : rBn ro n q = ro q := if_pos h_q
theorem rBn_b {ro : Nat → Nat} {n : Nat} : rBn ro n n = 0 ∧ rBn ro n (n + 1) = 0 ∧ rBn ro n (n + 2) = 0 ∧ rBn ro n (n + 3) = 0 := by
  refine ⟨?_, ?_, ?_, ?_⟩ <;> (unfold rBn; rw [if_neg (by omega), if_pos (by omega)])
theorem rBn_l {ro : Nat → Nat} {n : Nat} (m : Nat) : rBn ro n (n + 4 + 3 * m) = 0 ∧ rBn ro n (n + 4 + 3 * m + 1) = 0 ∧ rBn ro n (n + 4 + 3 * m + 2) = 1 := by
  refine ⟨?_, ?_, ?_⟩
  · unfold rBn; rw [if_neg (by omega), if_neg (by omega), if_neg (by omega)]
  · unfold rBn; rw [if_neg (by omega), if_neg (by omega), if_neg (by omega)]
  · unfold rBn; rw [if_neg (by omega), if_neg (by omega), if_pos (by omega)]
theorem CrAt.rd {Γ : gam} {σ : sto} {a N b_q : Nat} {lw : Int32} {s : ps} (hC : CrAt Γ σ a N b_q lw s) : rdA Γ σ a := by
  obtain ⟨T, t_q, sz, pl, ck, cv, cp, cc, hR_q, hT_q, hpl, hl, hst⟩ := hC
  exact ⟨b_q, _, _, _, _, _, _, ck, cv, cp, cc, hR_q⟩
theorem rdA.fs {Γ : gam} {ro : Nat → Nat} {S : Nat → Prop} {σ σ1 : sto} {a : Nat} (h_q : rdA Γ σ a) (hf_q : frS Γ ro S σ σ1) (hr_q : ∀ q, a + 71 ≤ q → q ≤ a + 80 → ro q ≠ 1) (hS_q : ∀ q, a + 71 ≤ q → q ≤ a + 80 → (q < a + 72 ∨ a + 76 < q) → ¬ S q) : rdA Γ σ1 a := by
  obtain ⟨b_q, tk, t_q, sz, lw, fl, pl, ck, cv, cp, cc, r0, r1, r2, r3, r4⟩ := h_q
  have key : ∀ q, a + 71 ≤ q → q ≤ a + 80 → (q < a + 72 ∨ a + 76 < q) → σ1 q = σ q := fun q x_q y_q z_q => hf_q.1 q (hS_q q x_q y_q z_q) (hr_q q x_q y_q)
  exact ⟨b_q, tk, t_q, sz, lw, fl, pl, ck, cv, cp, cc, (key _ (by omega) (by omega) (by omega)).trans r0, (key _ (by omega) (by omega) (by omega)).trans r1, (key _ (by omega) (by omega) (by omega)).trans r2, (key _ (by omega) (by omega) (by omega)).trans r3, (key _ (by omega) (by omega) (by omega)).trans r4⟩
theorem CrAt.pl {Γ : gam} {σ : sto} {a N b_q : Nat} {lw : Int32} {s : ps} (hC : CrAt Γ σ a N b_q lw s) : ∃ (tk t_q sz : Int32), σ (a + 71) = some (cO 4 [.ref (a + 77), .ref (a + 78), .ref (a + 79), .ref (a + 80), .int tk, .int t_q, .int sz, .int lw, .ref b_q, .ref (a + 72), .int s.bad, .int s.pl]) := by
  obtain ⟨T, t_q, sz, pl, ck, cv, cp, cc, ⟨r0, r1, r2, r3, r4⟩, hT_q, hpl, hl, hst⟩ := hC
  rw [hpl] at r0
  exact ⟨nI T, t_q, sz, r0⟩
theorem cb_54 {Γ : gam} {ro : Nat → Nat} {z0 σ : sto} {n n9 k a N cells slots i_q : Nat} {G f_q : row} {im : Nat → Option Nat} {x9_q : ps × row} (hC : CoAt Γ (rBn ro n) σ a G im) (hT_q : ClT Γ (n + 4) (rBn ro n) σ a n N x9_q.1 x9_q.2) (hI : x9_q.1.bad = 0 → lnI x9_q.2) (eX : bchP N f_q = x9_q) (h14 : TrAt Γ (rBn ro n) σ (a + 14)) (hs : HsAt Γ (rBn ro n) σ (a + 19)) (hq_q : ∀ q, q < n → (q < a + 71 ∨ a + 80 < q) → σ q = z0 q) (hn : a + 113 < n) (hn9 : n ≤ n9) (hcc : cells ≤ 910) (hss : slots ≤ 12700) (hk : 4 ≤ k) : Go Γ (rmk k 910 12700) uX7_beach (qT (qI fun v_q σ' n' => ∃ N2, some N = some N2 ∧ n ≤ n' ∧ bchC Γ ro z0 n a N2 G f_q im v_q σ') (fun x_q σ' n' => some N = none ∧ x_q = eIA ∧ σ' = z0 ∧ n ≤ n')) cells slots 54 [some (.ref a), some (.int (nI N)), some (.int (nI i_q))] [] σ n9 := by
  obtain ⟨⟨lw0, hCr⟩, T1, hGl, h81, eT1⟩ := hT_q
  obtain ⟨tk, t_q, sz, r0⟩ := hCr.pl
  refine go_aload_n (pc := 54) dX7_beach_54 rfl ?_
  refine go_iconst (v := 0) (pc := 55) dX7_beach_55 (by decide) ?_
  refine go_putf (fs' := cfs _ (upd _ 1 _)) (pc := 56) f_X7_13 dX7_beach_56 (co0 hC) (Nat.le_of_ble_eq_true rfl) (by exact cf1) rfl rfl ?_
  skip
  refine go_set (P := fun s => CoAt Γ (rBn ro n) s a (upd (G) 1 (0)) im ∧ ∀ q, q ≠ a → s q = σ q) ⟨hC.setG, fun q h1_q => sup_ne h1_q rfl⟩ (fun σ1 hP => ?_)
  obtain ⟨hC, hq1⟩ := hP
  have r0 := (hq1 _ (by omega)).trans r0
  refine go_aload_n (pc := 59) dX7_beach_59 rfl ?_
  refine go_aload_n (pc := 60) dX7_beach_60 rfl ?_
  refine go_getf (pc := 61) f_X7_81 dX7_beach_61 (by first | exact co0 hC | exact r0 | exact sr0 hR14 | exact sr0 hR72 | exact be0 hQ_q) (by rfl) ?_
  refine go_getf (pc := 64) f_X7_105 dX7_beach_64 (by first | exact co0 hC | exact r0 | exact sr0 hR14 | exact sr0 hR72 | exact be0 hQ_q) (by rfl) ?_
  refine go_putf (fs' := cfs _ (upd _ 2 _)) (pc := 67) f_X7_17 dX7_beach_67 (co0 hC) (Nat.le_of_ble_eq_true rfl) (by exact cf2) rfl rfl ?_
  skip
  refine go_set (P := fun s => CoAt Γ (rBn ro n) s a (upd (upd G 1 0) 2 (x9_q.1.bad)) im ∧ ∀ q, q ≠ a → s q = σ1 q) ⟨hC.setG, fun q h1_q => sup_ne h1_q rfl⟩ (fun σ2 hP => ?_)
  obtain ⟨hC, hq2⟩ := hP
  have r0 := (hq2 _ (by omega)).trans r0
  refine go_aload_n (pc := 70) dX7_beach_70 rfl ?_
  refine go_aload_n (pc := 71) dX7_beach_71 rfl ?_
  refine go_getf (pc := 72) f_X7_81 dX7_beach_72 (by first | exact co0 hC | exact r0 | exact sr0 hR14 | exact sr0 hR72 | exact be0 hQ_q) (by rfl) ?_
  refine go_getf (pc := 75) f_X7_108 dX7_beach_75 (by first | exact co0 hC | exact r0 | exact sr0 hR14 | exact sr0 hR72 | exact be0 hQ_q) (by rfl) ?_
  refine go_putf (fs' := cfs _ (upd _ 3 _)) (pc := 78) f_X7_20 dX7_beach_78 (co0 hC) (Nat.le_of_ble_eq_true rfl) (by exact cf3) rfl rfl ?_
  skip
  refine go_set (P := fun s => CoAt Γ (rBn ro n) s a (upd (upd (upd G 1 0) 2 x9_q.1.bad) 3 (x9_q.1.pl)) im ∧ ∀ q, q ≠ a → s q = σ2 q) ⟨hC.setG, fun q h1_q => sup_ne h1_q rfl⟩ (fun σ3 hP => ?_)
  obtain ⟨hC, hq3⟩ := hP
  have r0 := (hq3 _ (by omega)).trans r0
  have hqA : ∀ q, q ≠ a → σ3 q = σ q := fun q h_q => (hq3 q h_q).trans ((hq2 q h_q).trans (hq1 q h_q))
  obtain ⟨G3, hG3⟩ : ∃ G3, G3 = upd (upd (upd G 1 0) 2 x9_q.1.bad) 3 x9_q.1.pl := ⟨_, rfl⟩
  rw [← hG3] at hC
  have gg1 : G3 1 = 0 := by rw [hG3]; rfl
  have gg2 : G3 2 = x9_q.1.bad := by rw [hG3]; rfl
  have gg3 : G3 3 = x9_q.1.pl := by rw [hG3]; rfl
  have ggo : ∀ j, j ≠ 1 → j ≠ 2 → j ≠ 3 → G3 j = G j := fun j h1_q h2_q h3_q => by rw [hG3, pk_un h3_q, pk_un h2_q, pk_un h1_q]
  have hCr := hCr.sg (fun q h1_q h2_q => hqA q (by omega))
  have hGl : ClG Γ (n + 4) (rBn ro n) σ3 a n T1 := hGl.kq (fun q h1_q => hqA q (by omega)) (by omega) (fun q h1_q h2_q => hqA q (by omega))
  have hfs : frS Γ (rBn ro n) (bS a n) z0 σ3 := frS.pt (fun q h1_q => by
    have h3_q : q ≠ a := fun e_q => h1_q (Or.inl e_q)
    have h4_q : q < n := Nat.lt_of_not_le (fun e_q => h1_q (Or.inr (Or.inr (Or.inr e_q))))
    have h5_q : q < a + 71 ∨ a + 80 < q := by
      rcases Nat.lt_or_ge q (a + 71) with e_q | e_q
      · exact Or.inl e_q
      · rcases Nat.lt_or_ge (a + 80) q with e2_q | e2_q
        · exact Or.inr e2_q
        · exact absurd (Or.inr (Or.inr (Or.inl ⟨e_q, e2_q⟩))) h1_q
    exact (hqA q h3_q).trans (hq_q q h4_q h5_q))
  refine go_aload_n (pc := 81) dX7_beach_81 rfl ?_
  refine go_getf (pc := 82) f_X7_17 dX7_beach_82 (by first | exact co0 hC | exact r0 | exact sr0 hR14 | exact sr0 hR72 | exact be0 hQ_q) (by rfl) ?_
  rw [gg2]
  refine go_if_eq (tgt := 96) (pc := 85) dX7_beach_85 (by decide) (fun h_85 => ?_) (fun h_85 => ?_)
  · have hb9 : x9_q.1.bad = 0 := h_85
    have hI9 := hI hb9
    have eT2 := eT1 hb9
    subst eT2
    obtain ⟨ag, pa, pf, lm, lt, lw, ch, co, rw, bk, hQ_q, hdf, hR72, hr_q, hbk⟩ := hGl
    obtain ⟨b14, w14, m14, ch14, co14, rw14, bk14, hR14⟩ := h14
    have hR14 := hR14.kq (fun q h1_q h2_q => hqA q (by omega))
    refine go_aload_n (pc := 96) dX7_beach_96 rfl ?_
    refine go_getf (pc := 97) f_X7_65 dX7_beach_97 (by first | exact co0 hC | exact r0 | exact sr0 hR14 | exact sr0 hR72 | exact be0 hQ_q) (by rfl) ?_
    refine go_aload_n (pc := 100) dX7_beach_100 rfl ?_
    refine go_getf (pc := 101) f_X7_81 dX7_beach_101 (by first | exact co0 hC | exact r0 | exact sr0 hR14 | exact sr0 hR72 | exact be0 hQ_q) (by rfl) ?_
    refine go_getf (pc := 104) f_X7_111 dX7_beach_104 (by first | exact co0 hC | exact r0 | exact sr0 hR14 | exact sr0 hR72 | exact be0 hQ_q) (by rfl) ?_
    refine go_V1V (pc := 107) v_X7_114 rfl rfl (rcv_of (ci := 5) (by first | exact co0 hC | exact r0 | exact sr0 hR14 | exact sr0 hR72 | exact be0 hQ_q) rfl) dX7_beach_107 (cp_copyFrom (k := k - 1) hR14 hR72 (by omega) (by omega)) (fun σ n h_q => ?_) (hC := ⟨hcc, hss⟩)
    obtain ⟨rfl, ⟨ch15, co15, rw15, bk15, hR14, z1, z2, z3, z4⟩, hf1⟩ := h_q
    have hf1 : frS Γ (rBn ro n) (fun q => a + 14 ≤ q ∧ q ≤ a + 18) σ3 σ := hf1.toS (fun q x_q y_q => ⟨x_q, by omega⟩)
    have hQ_q := hQ_q.fs hf1 (fun q h1_q h2_q => by omega) (fun q h1_q h2_q h3_q => by omega)
    have hR72 := hR72.fs hf1 (fun q h1_q h2_q h3_q => by omega)
    have hC := hC.fs hf1 (fun q h1_q h3_q => by omega)
    have hr_q := rS_cong hI9.1 hr_q z1 z2 z3 z4
    have hs1_q : HsAt Γ (rBn ro n) σ (a + 19) := (hs.fs (frS.pt (S := fun q => q = a) hqA) (fun q h1_q h2_q h3_q => by omega)).fs hf1 (fun q h1_q h2_q h3_q => by omega)
    have hCr : rdA Γ σ a := hCr.rd.fs hf1 (fun q h1_q h2_q => hC.1 q (by omega) (by omega)) (fun q h1_q h2_q h3_q => by omega)
    obtain ⟨b9_q, tk, t_q, sz, lw9, fl9, pl9, ck9, cv9, cp9, cc9, rr9⟩ := id hCr
    have r0 := rr9.1
    simp only [RdC] at r0
    refine go_aload_n (pc := 110) dX7_beach_110 rfl ?_
    refine go_getf (pc := 111) f_X7_72 dX7_beach_111 (by first | exact co0 hC | exact r0 | exact sr0 hR14 | exact sr0 hR72 | exact be0 hQ_q) (by rfl) ?_
    refine go_V0V (pc := 114) v_X7_117 rfl rfl (rcv_of (ci := 1) (by first | exact co0 hC | exact r0 | exact sr0 hR14 | exact sr0 hR72 | exact be0 hQ_q) rfl) dX7_beach_114 (cp_forget (k := k - 1) (K := x9_q.2) (b_q := n) hs1_q (by rw [hI9.2.2.2.2.1]; rfl)) (fun σ n h_q => ?_) (hC := ⟨hcc, hss⟩)
    obtain ⟨rfl, hH, hf2⟩ := h_q
    have hQ_q := hQ_q.fs hf2 (fun q h1_q h2_q => by omega) (fun q h1_q h2_q h3_q => by omega)
    have hR72 := hR72.fs hf2 (fun q h1_q h2_q h3_q => by omega)
    have hR14 := hR14.fs hf2 (fun q h1_q h2_q h3_q => by omega)
    have hC := hC.fs hf2 (fun q h1_q h3_q => by omega)
    have hCr : rdA Γ σ a := hCr.fs hf2 (fun q h1_q h2_q => hC.1 q (by omega) (by omega)) (fun q h1_q h2_q h3_q => by omega)
    refine go_aload_n (pc := 117) dX7_beach_117 rfl ?_
    refine go_getf (pc := 118) f_X7_65 dX7_beach_118 (by first | exact co0 hC | exact r0 | exact sr0 hR14 | exact sr0 hR72 | exact be0 hQ_q) (by rfl) ?_
    refine go_getf (pc := 121) f_X7_120 dX7_beach_121 (by first | exact co0 hC | exact r0 | exact sr0 hR14 | exact sr0 hR72 | exact be0 hQ_q) (by rfl) ?_
    refine go_getf (pc := 124) f_X7_124 dX7_beach_124 (by first | exact co0 hC | exact r0 | exact sr0 hR14 | exact sr0 hR72 | exact be0 hQ_q) (by rfl) ?_
    exact go_iretT (pc := 127) rfl dX7_beach_127 hcc hss ⟨N, rfl, hn9, rBn ro n, G3, fun q h_q => rBn_lo h_q, hC, gg1, (by rw [eX]; exact gg2), (by rw [eX]; exact gg3), ggo, hCr, hR72.T, (hfs.tr (frS.wk hf1 (fun q h_q => Or.inr (Or.inl ⟨h_q.1, by have := h_q.2; omega⟩)))).tr (frS.wk hf2 (fun q h_q => Or.inr (Or.inl ⟨by omega, by omega⟩))), (fun e_q => by rw [eX] at e_q; exact absurd hb9 e_q), fun _ => by
  rw [eX]
  exact ⟨rfl, hI9, ⟨_, _, _, _, _, _, hQ_q⟩, ⟨_, _, _, _, hR14, hr_q⟩, hH⟩⟩
  · refine go_bipush (v := -10) (pc := 88) dX7_beach_88 (by decide) ?_
    refine go_aload_n (pc := 90) dX7_beach_90 rfl ?_
    refine go_getf (pc := 91) f_X7_17 dX7_beach_91 (by first | exact co0 hC | exact r0 | exact sr0 hR14 | exact sr0 hR72 | exact be0 hQ_q) (by rfl) ?_
    rw [gg2]
    refine go_isub (pc := 94) dX7_beach_94 ?_
    exact go_iretT (pc := 95) rfl dX7_beach_95 hcc hss (by
  obtain ⟨ag, pa, pf, lm, lt, lw, ch, co, rw, bk, hQ_q, hdf, hR72, hr_q, hbk⟩ := hGl
  refine ⟨N, rfl, hn9, rBn ro n, G3, fun q h_q => rBn_lo h_q, hC, gg1, (by rw [eX]; exact gg2), (by rw [eX]; exact gg3), ggo, hCr.rd, hR72.T, hfs, fun e_q => ⟨(by rw [eX]), fun q h1_q h2_q => (hqA q (by omega)).trans (hq_q q (by omega) (by omega))⟩, fun e_q => ?_⟩
  rw [eX] at e_q
  exact absurd e_q h_85)
theorem cp_beach {Γ : gam} {ro : Nat → Nat} {z0 : sto} {n k a t_q : Nat} {G f_q : row} {im : Nat → Option Nat} (hC : CoAt Γ ro z0 a G im) (ho : z0 (a + 1) = some (cI Γ 900 f_q)) (hG1 : G 1 = nI t_q) (ht_q : t_q ≤ 900) (hby : ∀ j, j < t_q → ∃ c_q, c_q < 256 ∧ f_q j = nI c_q) (hrd : rdA Γ z0 a) (h72 : TrAt Γ ro z0 (a + 72)) (h14 : TrAt Γ ro z0 (a + 14)) (hs : HsAt Γ ro z0 (a + 19)) (hn : a + 113 < n) (z_q : Int32) (hk : 130 ≤ k) : Sp Γ (rmk k 910 12700) uX7_beach [.ref a, .int z_q] z0 n (qT (qI fun v_q σ' n' => ∃ N, rN 0 (t_q + 1) z_q.toInt = some N ∧ n ≤ n' ∧ bchC Γ ro z0 n a N G f_q im v_q σ') (fun x_q σ' n' => rN 0 (t_q + 1) z_q.toInt = none ∧ x_q = eIA ∧ σ' = z0 ∧ n ≤ n')) := by
  refine sp_intro [some (.ref a), some (.int z_q), none] (by decide +kernel) rfl (Nat.le_of_ble_eq_true rfl) rfl ?_
  refine go_low (fun hlow => ?_)
  refine go_aload_n (pc := 0) dX7_beach_0 rfl ?_
  refine go_iload_n (pc := 1) dX7_beach_1 rfl ?_
  refine go_iconst (v := 0) (pc := 2) dX7_beach_2 (by decide) ?_
  refine go_aload_n (pc := 3) dX7_beach_3 rfl ?_
  refine go_getf (pc := 4) f_X7_13 dX7_beach_4 (by first | exact co0 hC | exact a0) (by rfl) ?_
  rw [hG1]
  refine go_V3Vx (pc := 7) v_X7_90 rfl rfl (rcv_of (ci := 7) (by first | exact co0 hC | exact a0) rfl) dX7_beach_7 (cp_nW (k := k - 1) (lo := 0) (hi_q := t_q) (by omega) (by decide) (by omega) _) (fun x_q σx nx hx_q => by obtain ⟨h9_q, rfl, rfl, h8_q⟩ := hx_q; exact Or.inr ⟨_, rfl, h9_q, rfl, rfl, h8_q⟩) (fun σ n h_q => ?_)
  obtain ⟨⟨N, hz_q, rfl, -, hNt⟩, rfl, rfl⟩ := h_q
  have hN_q : N ≤ 900 := by omega
  have hCn : CoAt Γ (rBn ro n) z0 a G im := hC.rol hn (fun q h_q => rBn_lo h_q)
  have h72n : TrAt Γ (rBn ro n) z0 (a + 72) := h72.rol hlow (fun q h_q => rBn_lo h_q)
  have h14n : TrAt Γ (rBn ro n) z0 (a + 14) := h14.rol hlow (fun q h_q => rBn_lo h_q)
  have hsn : HsAt Γ (rBn ro n) z0 (a + 19) := hs.rol hlow (fun q h_q => rBn_lo h_q)
  obtain ⟨b72, w72, m72, ch72, co72, rw72, bk72, hR72⟩ := h72n
  obtain ⟨b9_q, tk, t9, sz, lw9, fl9, pl9, ck9, cv9, cp9, cc9, rr9⟩ := hrd
  rw [hz_q]
  refine go_aload_n (pc := 10) dX7_beach_10 rfl ?_
  refine go_getf (pc := 11) f_X7_81 dX7_beach_11 (by first | exact co0 hC | exact a0) (by rfl) ?_
  refine go_aload_n (pc := 14) dX7_beach_14 rfl ?_
  refine go_getf (pc := 15) f_X7_9 dX7_beach_15 (by first | exact co0 hC | exact a0) (by rfl) ?_
  refine go_iload_n (pc := 18) dX7_beach_18 rfl ?_
  refine go_V2V (pc := 19) v_X7_94 rfl rfl (rcv_of (ci := 4) (by first | exact co0 hC | exact a0) rfl) dX7_beach_19 (cp_open (k := k - 1) rr9 hR72 ho hN_q (fun j hj_q => hby j (by omega)) hn rBn_b (by omega)) (fun σ n h_q => ?_)
  obtain ⟨rfl, hT_q, hq_q⟩ := h_q
  have a0 := (hq_q a (by omega) (by omega)).trans (co0 hC)
  refine go_iconst (v := 0) (pc := 22) dX7_beach_22 (by decide) ?_
  refine go_istore_n (lw := [_, _, _]) (pc := 23) dX7_beach_23 (by decide) rfl ?_
  refine go_measC (fun m9_q c9_q e9_q lv9 s8 n9 => ∃ (x9_q : ps × row), ∃ (i_q : Nat), ∃ (mm : Nat), lv9 = [some (.ref a), some (.int (nI N)), some (.int (nI i_q))] ∧ (ClT Γ (n + 4) (rBn ro n) s8 a n N x9_q.1 x9_q.2) ∧ (x9_q.1.bad = 0 → lnI x9_q.2) ∧ (rdG N x9_q = bchP N f_q) ∧ (x9_q.1.bad = 0 → i_q + x9_q.1.l.length ≤ 900) ∧ (i_q ≤ 900) ∧ (∀ q, q < n → (q < a + 71 ∨ a + 80 < q) → s8 q = z0 q) ∧ (x9_q.1.l.length ≤ 900) ∧ (vOK x9_q.1.l) ∧ (x9_q.1.bad = 0 → c9_q + x9_q.1.l.length ≤ 905 ∧ e9_q + 14 * x9_q.1.l.length ≤ 12641) ∧ (c9_q ≤ 908 ∧ e9_q ≤ 12691) ∧ (n9 = n + 4 + 3 * mm) ∧ m9_q = mB x9_q.1 ∧ True) (mB (opP N f_q).1) ⟨(opP N f_q), 0, 0, rfl, hT_q, lnI_op, rfl, (fun _ => by have := len_op (N := N) (f := f_q); omega), (by omega), hq_q, (Nat.le_trans len_op hN_q), vOK_op, (fun _ => by have := len_op (N := N) (f := f_q); show 0 + 1 + 4 + _ ≤ 905 ∧ 0 + 6 + 35 + _ ≤ 12641; omega), (by show 0 + 1 + 4 ≤ 908 ∧ 0 + 6 + 35 ≤ 12691; omega), rfl, rfl, trivial⟩ ?_
  rintro m9_q c9_q e9_q lv9 σ n9 ⟨x9_q, i_q, mm, rfl, hT_q, hI, hE, hi_q, hi9, hq_q, hl9, hv9_q, hc9, hc8, rfl, rfl, -⟩ ih0
  have a0 := (hq_q a (by omega) (by omega)).trans (co0 hC)
  obtain ⟨⟨lw0, hCr⟩, T1, hGl, h81, eT1⟩ := id hT_q
  refine go_iload_n (pc := 24) dX7_beach_24 rfl ?_
  refine go_sipush (v := 900) (pc := 25) dX7_beach_25 (by decide) ?_
  refine go_icmp_ge (tgt := 54) (pc := 28) dX7_beach_28 (by decide) (fun h_28 => ?_) (fun h_28 => ?_)
  · have eX : bchP N f_q = x9_q := by
      rw [← hE]
      first
        | (have g_q : (900 : Int32) ≤ nI i_q := h_28
           have g2_q := (nI_leI (a := 900) (b := i_q) (by decide) (by omega)).mp g_q
           refine rdG_done (fun c_q => c_q.2 ?_)
           have n5 := hi_q c_q.1
           have e_q : x9_q.1.l = [] := List.length_eq_zero_iff.mp (by omega)
           rw [e_q]
           rfl)
        | (have g_q : bI (x9_q.1.bad = 0 ∧ kd x9_q.1.l ≠ 0) = 0 := h_38
           exact rdG_done (bI_0.mp g_q))
    exact cb_54 (hCn.fs (frS.pt (S := fun q => n ≤ q ∨ (a + 71 ≤ q ∧ q ≤ a + 80)) (fun q h_q => hq_q q (by omega) (by omega))) (fun q h1_q h2_q => by omega)) hT_q hI eX (h14n.fs (frS.pt (S := fun q => n ≤ q ∨ (a + 71 ≤ q ∧ q ≤ a + 80)) (fun q h_q => hq_q q (by omega) (by omega))) (fun q h1_q h2_q h3_q => by omega)) (hsn.fs (frS.pt (S := fun q => n ≤ q ∨ (a + 71 ≤ q ∧ q ≤ a + 80)) (fun q h_q => hq_q q (by omega) (by omega))) (fun q h1_q h2_q h3_q => by omega)) hq_q hn (by omega) (by show c9_q + _ ≤ 910; simp only [rmk]; omega) (by show e9_q + _ ≤ 12700; simp only [rmk]; omega) (by omega)
  · refine go_aload_n (pc := 31) dX7_beach_31 rfl ?_
    refine go_getf (pc := 32) f_X7_81 dX7_beach_32 (by first | exact co0 hC | exact a0) (by rfl) ?_
    refine go_V0P (pc := 35) v_X7_98 rfl rfl (rcv_of (ci := 4) (by first | exact co0 hC | exact a0) rfl) dX7_beach_35 (cp_hasMore (k := k - 1) hCr) ?_ (hC := ⟨by show c9_q + 0 ≤ 910; omega, by show e9_q + 0 ≤ 12700; omega⟩)
    refine go_if_eq (tgt := 54) (pc := 38) dX7_beach_38 (by decide) (fun h_38 => ?_) (fun h_38 => ?_)
    · have eX : bchP N f_q = x9_q := by
        rw [← hE]
        first
          | (have g_q : (900 : Int32) ≤ nI i_q := h_28
             have g2_q := (nI_leI (a := 900) (b := i_q) (by decide) (by omega)).mp g_q
             refine rdG_done (fun c_q => c_q.2 ?_)
             have n5 := hi_q c_q.1
             have e_q : x9_q.1.l = [] := List.length_eq_zero_iff.mp (by omega)
             rw [e_q]
             rfl)
          | (have g_q : bI (x9_q.1.bad = 0 ∧ kd x9_q.1.l ≠ 0) = 0 := h_38
             exact rdG_done (bI_0.mp g_q))
      exact cb_54 (hCn.fs (frS.pt (S := fun q => n ≤ q ∨ (a + 71 ≤ q ∧ q ≤ a + 80)) (fun q h_q => hq_q q (by omega) (by omega))) (fun q h1_q h2_q => by omega)) hT_q hI eX (h14n.fs (frS.pt (S := fun q => n ≤ q ∨ (a + 71 ≤ q ∧ q ≤ a + 80)) (fun q h_q => hq_q q (by omega) (by omega))) (fun q h1_q h2_q h3_q => by omega)) (hsn.fs (frS.pt (S := fun q => n ≤ q ∨ (a + 71 ≤ q ∧ q ≤ a + 80)) (fun q h_q => hq_q q (by omega) (by omega))) (fun q h1_q h2_q h3_q => by omega)) hq_q hn (by omega) (by show c9_q + _ ≤ 910; simp only [rmk]; omega) (by show e9_q + _ ≤ 12700; simp only [rmk]; omega) (by omega)
    · have g38 : x9_q.1.bad = 0 ∧ kd x9_q.1.l ≠ 0 := Decidable.not_not.mp (fun hc_q => h_38 (bI_0.mpr hc_q))
      obtain ⟨u1, u2⟩ := lnU_any (N := N) (s := x9_q.1)
      have hc7 := hc9 g38.1
      have eT2 := eT1 g38.1
      subst eT2
      have n5 := hi_q g38.1
      refine go_aload_n (pc := 41) dX7_beach_41 rfl ?_
      refine go_getf (pc := 42) f_X7_81 dX7_beach_42 (by first | exact co0 hC | exact a0) (by rfl) ?_
      refine go_V0V (pc := 45) v_X7_102 rfl rfl (rcv_of (ci := 4) (by first | exact co0 hC | exact a0) rfl) dX7_beach_45 (cp_line (k := k - 1) hCr hGl (by omega) (by omega) (hI g38.1) g38.1 g38.2 hl9 hv9_q (fun m => rBn_l m) ⟨mm, rfl⟩ rfl (by omega)) (fun σ n h_q => ?_) (hC := ⟨by show c9_q + 0 + (lnU N x9_q.1).1 ≤ 910; omega, by show e9_q + 0 + (lnU N x9_q.1).2 ≤ 12700; omega⟩)
      obtain ⟨rfl, hT_q, hq1⟩ := h_q
      have hT_q : ClT Γ (n + 4) (rBn ro n) σ a n N (lnP N x9_q).1 (lnP N x9_q).2 := hT_q
      have hq_q : ∀ q, q < n → (q < a + 71 ∨ a + 80 < q) → σ q = z0 q := fun q h1_q h2_q => (hq1 q h1_q h2_q).trans (hq_q q h1_q h2_q)
      refine go_iinc (v := 1) (lw := [_, _, _]) (pc := 48) dX7_beach_48 rfl (by decide) (by decide) rfl ?_
      refine go_goto (tgt := 24) (pc := 51) dX7_beach_51 (by decide) ?_
      rw [nI_1]
      obtain ⟨mm2, hmm⟩ : ∃ mm2, n + 4 + 3 * mm + (lnU N x9_q.1).1 = n + 4 + 3 * mm2 := by
        rcases lnU_03 (N := N) (s := x9_q.1) with e_q | e_q
        · exact ⟨mm, by omega⟩
        · exact ⟨mm + 1, by omega⟩
      exact ih0 _ _ _ _ _ _ (ln_mB g38.1 g38.2) ⟨lnP N x9_q, i_q + 1, mm2, rfl, hT_q, (fun e_q => lnI_ln (hI g38.1) g38.1 g38.2 hl9 e_q), (by rw [← hE]; exact (rdG_step g38).symm), (fun e_q => by have := len_ln (N := N) (s := x9_q.1) (T := x9_q.2) g38.2 e_q; have : (lnP N x9_q).1.l.length + 1 ≤ x9_q.1.l.length := this; omega), (by have : 0 < x9_q.1.l.length := List.length_pos_iff.mpr (kd_ne rfl g38.2); omega), hq_q, Nat.le_trans ln_le hl9, vOK.ln hv9_q, (fun e_q => by have g_q := lnU_good (N := N) (T := x9_q.2) g38.2 e_q; have g_q : (lnU N x9_q.1).1 + (lnP N x9_q).1.l.length ≤ x9_q.1.l.length ∧ (lnU N x9_q.1).2 + 14 * (lnP N x9_q).1.l.length ≤ 14 * x9_q.1.l.length := g_q; show c9_q + 0 + (lnU N x9_q.1).1 + _ ≤ 905 ∧ e9_q + 0 + (lnU N x9_q.1).2 + _ ≤ 12641; omega), (by show c9_q + 0 + (lnU N x9_q.1).1 ≤ 908 ∧ e9_q + 0 + (lnU N x9_q.1).2 ≤ 12691; omega), hmm, rfl, trivial⟩
