theorem cb_54 {Γ : gam} {ro : Nat → Nat} {z0 σ : sto} {nB n k a N cells slots i_q : Nat} {G f_q : row} {im : Nat → Option Nat} {x9_q : ps × row} (hC : CoAt Γ (rBn ro nB) σ a G im) (hT_q : ClT Γ (nB + 4) (rBn ro nB) σ a nB N x9_q.1 x9_q.2) (hI : x9_q.1.bad = 0 → lnI x9_q.2) (eX : bchP N f_q = x9_q) (h14 : TrAt Γ (rBn ro nB) σ (a + 14)) (hs : HsAt Γ (rBn ro nB) σ (a + 19)) (hq_q : ∀ q, q < nB → (q < a + 71 ∨ a + 80 < q) → σ q = z0 q) (hn : a + 113 < nB) (hn9 : nB ≤ n) (hcc : cells ≤ 910) (hss : slots ≤ 12700) (hk : 4 ≤ k) : Go Γ (rmk k 910 12700) uX7_beach (qT (qI fun v_q σ' n' => ∃ N2, some N = some N2 ∧ nB ≤ n' ∧ bchC Γ ro z0 nB a N2 G f_q im v_q σ') (fun x_q σ' n' => some N = none ∧ x_q = eIA ∧ σ' = z0 ∧ nB ≤ n')) cells slots 54 [some (.ref a), some (.int (nI N)), some (.int (nI i_q))] [] σ n := by
  obtain ⟨⟨lw0, hCr⟩, T1, hGl, h81, eT1⟩ := hT_q
  obtain ⟨tk, t_q, sz, r0⟩ := hCr.pl
  refine go_aload_n (pc := 54) dX7_beach_54 rfl ?_
  refine go_iconst (v := 0) (pc := 55) dX7_beach_55 (by decide) ?_
  refine go_putf (fs' := cfs _ (upd _ 1 _)) (pc := 56) f_X7_13 dX7_beach_56 (co0 hC) (Nat.le_of_ble_eq_true rfl) (by exact cf1) rfl rfl ?_
  skip
  refine go_set (P := fun s => CoAt Γ (rBn ro nB) s a (upd (G) 1 (0)) im ∧ ∀ q, q ≠ a → s q = σ q) ⟨hC.setG, fun q h1_q => sup_ne h1_q rfl⟩ (fun σ1 hP => ?_)
  obtain ⟨hC, hq1⟩ := hP
  have r0 := (hq1 _ (by omega)).trans r0
  refine go_aload_n (pc := 59) dX7_beach_59 rfl ?_
  refine go_aload_n (pc := 60) dX7_beach_60 rfl ?_
  refine go_getf (pc := 61) f_X7_81 dX7_beach_61 (by first | exact co0 hC | exact r0 | exact sr0 hR14 | exact sr0 hR72 | exact be0 hQ_q | exact s19) (by rfl) ?_
  refine go_getf (pc := 64) f_X7_105 dX7_beach_64 (by first | exact co0 hC | exact r0 | exact sr0 hR14 | exact sr0 hR72 | exact be0 hQ_q | exact s19) (by rfl) ?_
  refine go_putf (fs' := cfs _ (upd _ 2 _)) (pc := 67) f_X7_17 dX7_beach_67 (co0 hC) (Nat.le_of_ble_eq_true rfl) (by exact cf2) rfl rfl ?_
  skip
  refine go_set (P := fun s => CoAt Γ (rBn ro nB) s a (upd (upd G 1 0) 2 (x9_q.1.bad)) im ∧ ∀ q, q ≠ a → s q = σ1 q) ⟨hC.setG, fun q h1_q => sup_ne h1_q rfl⟩ (fun σ2 hP => ?_)
  obtain ⟨hC, hq2⟩ := hP
  have r0 := (hq2 _ (by omega)).trans r0
  refine go_aload_n (pc := 70) dX7_beach_70 rfl ?_
  refine go_aload_n (pc := 71) dX7_beach_71 rfl ?_
  refine go_getf (pc := 72) f_X7_81 dX7_beach_72 (by first | exact co0 hC | exact r0 | exact sr0 hR14 | exact sr0 hR72 | exact be0 hQ_q | exact s19) (by rfl) ?_
  refine go_getf (pc := 75) f_X7_108 dX7_beach_75 (by first | exact co0 hC | exact r0 | exact sr0 hR14 | exact sr0 hR72 | exact be0 hQ_q | exact s19) (by rfl) ?_
  refine go_putf (fs' := cfs _ (upd _ 3 _)) (pc := 78) f_X7_20 dX7_beach_78 (co0 hC) (Nat.le_of_ble_eq_true rfl) (by exact cf3) rfl rfl ?_
  skip
  refine go_set (P := fun s => CoAt Γ (rBn ro nB) s a (upd (upd (upd G 1 0) 2 x9_q.1.bad) 3 (x9_q.1.pl)) im ∧ ∀ q, q ≠ a → s q = σ2 q) ⟨hC.setG, fun q h1_q => sup_ne h1_q rfl⟩ (fun σ3 hP => ?_)
  obtain ⟨hC, hq3⟩ := hP
  have r0 := (hq3 _ (by omega)).trans r0
  have hqA : ∀ q, q ≠ a → σ3 q = σ q := fun q h_q => (hq3 q h_q).trans ((hq2 q h_q).trans (hq1 q h_q))
  obtain ⟨G3, hG3⟩ : ∃ G3, G3 = upd (upd (upd G 1 0) 2 x9_q.1.bad) 3 x9_q.1.pl := ⟨_, rfl⟩
  rw [← hG3] at hC
  have gg1 : G3 1 = 0 := by rw [hG3]; rfl
  have gg2 : G3 2 = x9_q.1.bad := by rw [hG3]; rfl
  have gg3 : G3 3 = x9_q.1.pl := by rw [hG3]; rfl
  have ggo : ∀ j, j ≠ 1 → j ≠ 2 → j ≠ 3 → G3 j = G j := fun j h1_q h2_q h3_q => by rw [hG3, pk_un h3_q, pk_un h2_q, pk_un h1_q]
  have hCr := cr_kp hCr (fun q h_q => hqA q (by omega))
  have hGl : ClG Γ (nB + 4) (rBn ro nB) σ3 a nB T1 := hGl.kq (fun q h1_q => hqA q (by omega)) (by omega) (fun q h1_q h2_q => hqA q (by omega))
  have hfs : frS Γ (rBn ro nB) (bS a nB) z0 σ3 := frS.pt (fun q h1_q => by
    have h3_q : q ≠ a := fun e_q => h1_q (Or.inl e_q)
    have h4_q : q < nB := Nat.lt_of_not_le (fun e_q => h1_q (Or.inr (Or.inr (Or.inr e_q))))
    have h5_q : q < a + 71 ∨ a + 80 < q := by
      rcases Nat.lt_or_ge q (a + 71) with e_q | e_q
      · exact Or.inl e_q
      · rcases Nat.lt_or_ge (a + 80) q with e2_q | e2_q
        · exact Or.inr e2_q
        · exact absurd (Or.inr (Or.inr (Or.inl ⟨e_q, e2_q⟩))) h1_q
    exact (hqA q h3_q).trans (hq_q q h4_q h5_q))
  refine go_aload_n (pc := 81) dX7_beach_81 rfl ?_
  refine go_getf (pc := 82) f_X7_17 dX7_beach_82 (by first | exact co0 hC | exact r0 | exact sr0 hR14 | exact sr0 hR72 | exact be0 hQ_q | exact s19) (by rfl) ?_
  rw [gg2]
  refine go_if_eq (tgt := 96) (pc := 85) dX7_beach_85 (by decide) (fun h_85 => ?_) (fun h_85 => ?_)
  · have hb9 : x9_q.1.bad = 0 := h_85
    have hI9 := hI hb9
    have eT2 := eT1 hb9
    subst eT2
    obtain ⟨ag, pa, pf, lm, lt, lw, ch, co, rw, bk, hQ_q, hdf, hR72, hr_q, hbk⟩ := hGl
    obtain ⟨b14, wx14, m14, ch14, co14, rw14, bk14, hR14⟩ := h14
    have hR14 := hR14.kq (fun q h1_q h2_q => hqA q (by omega))
    refine go_aload_n (pc := 96) dX7_beach_96 rfl ?_
    refine go_getf (pc := 97) f_X7_65 dX7_beach_97 (by first | exact co0 hC | exact r0 | exact sr0 hR14 | exact sr0 hR72 | exact be0 hQ_q | exact s19) (by rfl) ?_
    refine go_aload_n (pc := 100) dX7_beach_100 rfl ?_
    refine go_getf (pc := 101) f_X7_81 dX7_beach_101 (by first | exact co0 hC | exact r0 | exact sr0 hR14 | exact sr0 hR72 | exact be0 hQ_q | exact s19) (by rfl) ?_
    refine go_getf (pc := 104) f_X7_111 dX7_beach_104 (by first | exact co0 hC | exact r0 | exact sr0 hR14 | exact sr0 hR72 | exact be0 hQ_q | exact s19) (by rfl) ?_
    refine go_V1V (pc := 107) v_X7_114 rfl rfl (rcv_of (ci := 5) (by first | exact co0 hC | exact r0 | exact sr0 hR14 | exact sr0 hR72 | exact be0 hQ_q | exact s19) rfl) dX7_beach_107 (cp_copyFrom (k := k - 1) hR14 hR72 (by omega) (by omega)) (fun σ n h_q => ?_) (hC := ⟨hcc, hss⟩)
    obtain ⟨rfl, ⟨ch15, co15, rw15, bk15, hR14, z1, z2, z3, z4⟩, hf1⟩ := h_q
    have hf1 : frS Γ (rBn ro nB) (fun q => a + 14 ≤ q ∧ q ≤ a + 18) σ3 σ := hf1.toS (fun q x_q y_q => ⟨x_q, by omega⟩)
    have hQ_q := hQ_q.fs hf1 (fun q h1_q h2_q => by omega) (fun q h1_q h2_q h3_q => by omega)
    have hR72 := hR72.fs hf1 (fun q h1_q h2_q h3_q => by omega)
    have hC := hC.fs hf1 (fun q h1_q h3_q => by omega)
    have hr_q := rS_cong hI9.1 hr_q z1 z2 z3 z4
    have hs1_q : HsAt Γ (rBn ro nB) σ (a + 19) := (hs.fs (frS.pt (S := fun q => q = a) hqA) (fun q h1_q h2_q h3_q => by omega)).fs hf1 (fun q h1_q h2_q h3_q => by omega)
    have hCr : RdE Γ σ a := hCr.rd.fs hf1 (fun q h1_q h2_q => hC.1 q (by omega) (by omega)) (fun q h1_q h2_q h3_q => by omega)
    obtain ⟨b9_q, tk, t_q, sz, lw9, fl9, pl9, ck9, cv9, cp9, cc9, rr9⟩ := id hCr
    have r0 := rr9.1
    simp only [RdC] at r0
    obtain ⟨hx19, hy19, s19⟩ := id hs1_q.2.1
    refine go_aload_n (pc := 110) dX7_beach_110 rfl ?_
    refine go_getf (pc := 111) f_X7_72 dX7_beach_111 (by first | exact co0 hC | exact r0 | exact sr0 hR14 | exact sr0 hR72 | exact be0 hQ_q | exact s19) (by rfl) ?_
    refine go_V0V (pc := 114) v_X7_117 rfl rfl (rcv_of (ci := 1) (by first | exact co0 hC | exact r0 | exact sr0 hR14 | exact sr0 hR72 | exact be0 hQ_q | exact s19) rfl) dX7_beach_114 (cp_forget (k := k - 1) (K := x9_q.2) (b_q := nB) hs1_q (by rw [hI9.2.2.2.2.1]; rfl)) (fun σ n h_q => ?_) (hC := ⟨hcc, hss⟩)
    obtain ⟨rfl, hH, hf2⟩ := h_q
    have hQ_q := hQ_q.fs hf2 (fun q h1_q h2_q => by omega) (fun q h1_q h2_q h3_q => by omega)
    have hR72 := hR72.fs hf2 (fun q h1_q h2_q h3_q => by omega)
    have hR14 := hR14.fs hf2 (fun q h1_q h2_q h3_q => by omega)
    have hC := hC.fs hf2 (fun q h1_q h3_q => by omega)
    have hCr : RdE Γ σ a := hCr.fs hf2 (fun q h1_q h2_q => hC.1 q (by omega) (by omega)) (fun q h1_q h2_q h3_q => by omega)
    refine go_aload_n (pc := 117) dX7_beach_117 rfl ?_
    refine go_getf (pc := 118) f_X7_65 dX7_beach_118 (by first | exact co0 hC | exact r0 | exact sr0 hR14 | exact sr0 hR72 | exact be0 hQ_q | exact s19) (by rfl) ?_
    refine go_getf (pc := 121) f_X7_120 dX7_beach_121 (by first | exact co0 hC | exact r0 | exact sr0 hR14 | exact sr0 hR72 | exact be0 hQ_q | exact s19) (by rfl) ?_
    refine go_getf (pc := 124) f_X7_124 dX7_beach_124 (by first | exact co0 hC | exact r0 | exact sr0 hR14 | exact sr0 hR72 | exact be0 hQ_q | exact s19) (by rfl) ?_
    exact go_iretT (pc := 127) rfl dX7_beach_127 hcc hss ⟨N, rfl, hn9, rBn ro nB, G3, fun q h_q => rBn_lo h_q, hC, gg1, (by rw [eX]; exact gg2), (by rw [eX]; exact gg3), ggo, hCr, hR72.T, (hfs.tr (frS.wk hf1 (fun q h_q => Or.inr (Or.inl ⟨h_q.1, by have := h_q.2; omega⟩)))).tr (frS.wk hf2 (fun q h_q => Or.inr (Or.inl ⟨by omega, by omega⟩))), (fun e_q => by rw [eX] at e_q; exact absurd hb9 e_q), fun _ => by
  rw [eX]
  exact ⟨rfl, hI9, ⟨_, _, _, _, _, _, hQ_q⟩, ⟨_, _, _, _, hR14, hr_q⟩, hH⟩⟩
  · refine go_bipush (v := -10) (pc := 88) dX7_beach_88 (by decide) ?_
    refine go_aload_n (pc := 90) dX7_beach_90 rfl ?_
    refine go_getf (pc := 91) f_X7_17 dX7_beach_91 (by first | exact co0 hC | exact r0 | exact sr0 hR14 | exact sr0 hR72 | exact be0 hQ_q | exact s19) (by rfl) ?_
    rw [gg2]
    refine go_isub (pc := 94) dX7_beach_94 ?_
    exact go_iretT (pc := 95) rfl dX7_beach_95 hcc hss (by
  obtain ⟨ag, pa, pf, lm, lt, lw, ch, co, rw, bk, hQ_q, hdf, hR72, hr_q, hbk⟩ := hGl
  refine ⟨N, rfl, hn9, rBn ro nB, G3, fun q h_q => rBn_lo h_q, hC, gg1, (by rw [eX]; exact gg2), (by rw [eX]; exact gg3), ggo, hCr.rd, hR72.T, hfs, fun e_q => ⟨(by rw [eX]), fun q h1_q h2_q => (hqA q (by omega)).trans (hq_q q (by omega) (by omega))⟩, fun e_q => ?_⟩
  rw [eX] at e_q
  exact absurd e_q h_85)
