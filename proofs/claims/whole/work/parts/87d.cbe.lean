theorem cp_beach {Γ : gam} {ro : Nat → Nat} {z0 : sto} {n k a t_q : Nat} {G f_q : row} {im : Nat → Option Nat} (hC : CoAt Γ ro z0 a G im) (ho : z0 (a + 1) = some (cI Γ 900 f_q)) (hG1 : G 1 = nI t_q) (ht_q : t_q ≤ 900) (hby : ∀ j, j < t_q → ∃ c_q, c_q < 256 ∧ f_q j = nI c_q) (hrd : RdE Γ z0 a) (h72 : TrAt Γ ro z0 (a + 72)) (h14 : TrAt Γ ro z0 (a + 14)) (hs : HsAt Γ ro z0 (a + 19)) (hn : a + 113 < n) (z_q : Int32) (hk : 130 ≤ k) : Sp Γ (rmk k 910 12700) uX7_beach [.ref a, .int z_q] z0 n (qT (qI fun v_q σ' n' => ∃ N, rN 0 (t_q + 1) z_q.toInt = some N ∧ n ≤ n' ∧ bchC Γ ro z0 n a N G f_q im v_q σ') (fun x_q σ' n' => rN 0 (t_q + 1) z_q.toInt = none ∧ x_q = eIA ∧ σ' = z0 ∧ n ≤ n')) := by
  refine sp_intro [some (.ref a), some (.int z_q), none] (by decide +kernel) rfl (Nat.le_of_ble_eq_true rfl) rfl ?_
  refine go_low (fun hlow => ?_)
  refine go_aload_n (pc := 0) dX7_beach_0 rfl ?_
  refine go_iload_n (pc := 1) dX7_beach_1 rfl ?_
  refine go_iconst (v := 0) (pc := 2) dX7_beach_2 (by decide) ?_
  refine go_aload_n (pc := 3) dX7_beach_3 rfl ?_
  refine go_getf (pc := 4) f_X7_13 dX7_beach_4 (by first | exact co0 hC | exact cA0 | exact r0 | exact rr9.1) (by rfl) ?_
  rw [hG1]
  refine go_V3Vx (pc := 7) v_X7_90 rfl rfl (rcv_of (ci := 7) (by first | exact co0 hC | exact cA0 | exact r0 | exact rr9.1) rfl) dX7_beach_7 (cp_nW (k := k - 1) (lo := 0) (hi_q := t_q) (by omega) (by decide) (by omega) _) (fun x_q σx nx hx_q => by obtain ⟨h9_q, rfl, rfl, h8_q⟩ := hx_q; exact Or.inr ⟨_, rfl, h9_q, rfl, rfl, h8_q⟩) (fun σ n h_q => ?_)
  obtain ⟨⟨N, hz_q, rfl, -, hNt⟩, rfl, rfl⟩ := h_q
  have hN_q : N ≤ 900 := by omega
  have hCn : CoAt Γ (rBn ro n) z0 a G im := hC.rol hn (fun q h_q => rBn_lo h_q)
  have h72n : TrAt Γ (rBn ro n) z0 (a + 72) := h72.rol hlow (fun q h_q => rBn_lo h_q)
  have h14n : TrAt Γ (rBn ro n) z0 (a + 14) := h14.rol hlow (fun q h_q => rBn_lo h_q)
  have hsn : HsAt Γ (rBn ro n) z0 (a + 19) := hs.rol hlow (fun q h_q => rBn_lo h_q)
  obtain ⟨b72, w72, m72, ch72, co72, rw72, bk72, hR72⟩ := h72n
  obtain ⟨b9_q, tk, t9, sz, lw9, fl9, pl9, ck9, cv9, cp9, cc9, rr9⟩ := hrd
  rw [hz_q]
  refine go_aload_n (pc := 10) dX7_beach_10 rfl ?_
  refine go_getf (pc := 11) f_X7_81 dX7_beach_11 (by first | exact co0 hC | exact cA0 | exact r0 | exact rr9.1) (by rfl) ?_
  refine go_aload_n (pc := 14) dX7_beach_14 rfl ?_
  refine go_getf (pc := 15) f_X7_9 dX7_beach_15 (by first | exact co0 hC | exact cA0 | exact r0 | exact rr9.1) (by rfl) ?_
  refine go_iload_n (pc := 18) dX7_beach_18 rfl ?_
  refine go_V2V (pc := 19) v_X7_94 rfl rfl (rcv_of (ci := 4) (by first | exact co0 hC | exact cA0 | exact r0 | exact rr9.1) rfl) dX7_beach_19 (cp_open (k := k - 1) rr9 hR72 ho hN_q (fun j hj_q => hby j (by omega)) hn rBn_b (by omega)) (fun σ n h_q => ?_)
  obtain ⟨rfl, hT_q, hq_q⟩ := h_q
  have cA0 := (hq_q a (by omega) (by omega)).trans (co0 hC)
  refine go_iconst (v := 0) (pc := 22) dX7_beach_22 (by decide) ?_
  refine go_istore_n (lw := [_, _, _]) (pc := 23) dX7_beach_23 (by decide) rfl ?_
  refine go_measC (fun m9_q c9_q e9_q lv9 s8 n9 => ∃ (x9_q : ps × row), ∃ (i_q : Nat), ∃ (mm : Nat), lv9 = [some (.ref a), some (.int (nI N)), some (.int (nI i_q))] ∧ (ClT Γ (n + 4) (rBn ro n) s8 a n N x9_q.1 x9_q.2) ∧ (x9_q.1.bad = 0 → lnI x9_q.2) ∧ (rdG N x9_q = bchP N f_q) ∧ (x9_q.1.bad = 0 → i_q + x9_q.1.l.length ≤ 900) ∧ (i_q ≤ 900) ∧ (∀ q, q < n → (q < a + 71 ∨ a + 80 < q) → s8 q = z0 q) ∧ (x9_q.1.l.length ≤ 900) ∧ (vOK x9_q.1.l) ∧ (x9_q.1.bad = 0 → c9_q + x9_q.1.l.length ≤ 905 ∧ e9_q + 14 * x9_q.1.l.length ≤ 12641) ∧ (c9_q ≤ 908 ∧ e9_q ≤ 12691) ∧ (n9 = n + 4 + 3 * mm) ∧ m9_q = mB x9_q.1 ∧ True) (mB (opP N f_q).1) ⟨(opP N f_q), 0, 0, rfl, hT_q, lnI_op, rfl, (fun _ => by have := len_op (N := N) (f := f_q); omega), (by omega), hq_q, (Nat.le_trans len_op hN_q), vOK_op, (fun _ => by have := len_op (N := N) (f := f_q); show 0 + 1 + 4 + _ ≤ 905 ∧ 0 + 6 + 35 + _ ≤ 12641; omega), (by show 0 + 1 + 4 ≤ 908 ∧ 0 + 6 + 35 ≤ 12691; omega), rfl, rfl, trivial⟩ ?_
  rintro m9_q c9_q e9_q lv9 σ n9 ⟨x9_q, i_q, mm, rfl, hT_q, hI, hE, hi_q, hi9, hq_q, hl9, hv9_q, hc9, hc8, rfl, rfl, -⟩ ih0
  have cA0 := (hq_q a (by omega) (by omega)).trans (co0 hC)
  obtain ⟨⟨lw0, hCr⟩, T1, hGl, h81, eT1⟩ := id hT_q
  obtain ⟨tk, t9, sz, pl, r0⟩ := hCr.r0
  refine go_iload_n (pc := 24) dX7_beach_24 rfl ?_
  refine go_sipush (v := 900) (pc := 25) dX7_beach_25 (by decide) ?_
  refine go_icmp_ge (tgt := 54) (pc := 28) dX7_beach_28 (by decide) (fun h_28 => ?_) (fun h_28 => ?_)
  · have eX : bchP N f_q = x9_q := by
      rw [← hE]
      first
        | (have g_q : (900 : Int32) ≤ nI i_q := h_28
           have g2_q := (nI_leI (a := 900) (b := i_q) (by decide) (by omega)).mp g_q
           refine rdG_done (fun c_q => c_q.2 ?_)
           have n5 := hi_q c_q.1
           have e_q : x9_q.1.l = [] := List.length_eq_zero_iff.mp (by omega)
           rw [e_q]
           rfl)
        | (have g_q : bI (x9_q.1.bad = 0 ∧ kd x9_q.1.l ≠ 0) = 0 := h_38
           exact rdG_done (bI_0.mp g_q))
    exact cb_54 (hCn.fs (frS.pt (S := fun q => n ≤ q ∨ (a + 71 ≤ q ∧ q ≤ a + 80)) (fun q h_q => hq_q q (by omega) (by omega))) (fun q h1_q h2_q => by omega)) hT_q hI eX (h14n.fs (frS.pt (S := fun q => n ≤ q ∨ (a + 71 ≤ q ∧ q ≤ a + 80)) (fun q h_q => hq_q q (by omega) (by omega))) (fun q h1_q h2_q h3_q => by omega)) (hsn.fs (frS.pt (S := fun q => n ≤ q ∨ (a + 71 ≤ q ∧ q ≤ a + 80)) (fun q h_q => hq_q q (by omega) (by omega))) (fun q h1_q h2_q h3_q => by omega)) hq_q hn (by omega) (by first | omega | (simp only [rmk]; omega)) (by first | omega | (simp only [rmk]; omega)) (by omega)
  · refine go_aload_n (pc := 31) dX7_beach_31 rfl ?_
    refine go_getf (pc := 32) f_X7_81 dX7_beach_32 (by first | exact co0 hC | exact cA0 | exact r0 | exact rr9.1) (by rfl) ?_
    refine go_V0P (pc := 35) v_X7_98 rfl rfl (rcv_of (ci := 4) (by first | exact co0 hC | exact cA0 | exact r0 | exact rr9.1) rfl) dX7_beach_35 (cp_hasMore (k := k - 1) hCr (by omega)) ?_ (hC := ⟨by show c9_q + 0 ≤ 910; omega, by show e9_q + 0 ≤ 12700; omega⟩)
    refine go_if_eq (tgt := 54) (pc := 38) dX7_beach_38 (by decide) (fun h_38 => ?_) (fun h_38 => ?_)
    · have eX : bchP N f_q = x9_q := by
        rw [← hE]
        first
          | (have g_q : (900 : Int32) ≤ nI i_q := h_28
             have g2_q := (nI_leI (a := 900) (b := i_q) (by decide) (by omega)).mp g_q
             refine rdG_done (fun c_q => c_q.2 ?_)
             have n5 := hi_q c_q.1
             have e_q : x9_q.1.l = [] := List.length_eq_zero_iff.mp (by omega)
             rw [e_q]
             rfl)
          | (have g_q : bI (x9_q.1.bad = 0 ∧ kd x9_q.1.l ≠ 0) = 0 := h_38
             exact rdG_done (bI_0.mp g_q))
      exact cb_54 (hCn.fs (frS.pt (S := fun q => n ≤ q ∨ (a + 71 ≤ q ∧ q ≤ a + 80)) (fun q h_q => hq_q q (by omega) (by omega))) (fun q h1_q h2_q => by omega)) hT_q hI eX (h14n.fs (frS.pt (S := fun q => n ≤ q ∨ (a + 71 ≤ q ∧ q ≤ a + 80)) (fun q h_q => hq_q q (by omega) (by omega))) (fun q h1_q h2_q h3_q => by omega)) (hsn.fs (frS.pt (S := fun q => n ≤ q ∨ (a + 71 ≤ q ∧ q ≤ a + 80)) (fun q h_q => hq_q q (by omega) (by omega))) (fun q h1_q h2_q h3_q => by omega)) hq_q hn (by omega) (by first | omega | (simp only [rmk]; omega)) (by first | omega | (simp only [rmk]; omega)) (by omega)
    · have g38 : x9_q.1.bad = 0 ∧ kd x9_q.1.l ≠ 0 := Decidable.not_not.mp (fun hc_q => h_38 (bI_0.mpr hc_q))
      obtain ⟨u1, u2⟩ := lnU_any (N := N) (s := x9_q.1)
      have hc7 := hc9 g38.1
      have eT2 := eT1 g38.1
      subst eT2
      have n5 := hi_q g38.1
      refine go_aload_n (pc := 41) dX7_beach_41 rfl ?_
      refine go_getf (pc := 42) f_X7_81 dX7_beach_42 (by first | exact co0 hC | exact cA0 | exact r0 | exact rr9.1) (by rfl) ?_
      refine go_V0V (pc := 45) v_X7_102 rfl rfl (rcv_of (ci := 4) (by first | exact co0 hC | exact cA0 | exact r0 | exact rr9.1) rfl) dX7_beach_45 (cp_line (k := k - 1) hCr hGl (by omega) (by omega) (hI g38.1) g38.1 g38.2 hl9 hv9_q (fun m => rBn_l m) ⟨mm, rfl⟩ rfl (by omega)) (fun σ n h_q => ?_) (hC := ⟨by show c9_q + 0 + (lnU N x9_q.1).1 ≤ 910; omega, by show e9_q + 0 + (lnU N x9_q.1).2 ≤ 12700; omega⟩)
      obtain ⟨rfl, hT_q, hq1⟩ := h_q
      have hT_q : ClT Γ (n + 4) (rBn ro n) σ a n N (lnP N x9_q).1 (lnP N x9_q).2 := hT_q
      have hq_q : ∀ q, q < n → (q < a + 71 ∨ a + 80 < q) → σ q = z0 q := fun q h1_q h2_q => (hq1 q h1_q h2_q).trans (hq_q q h1_q h2_q)
      refine go_iinc (v := 1) (lw := [_, _, _]) (pc := 48) dX7_beach_48 rfl (by decide) (by decide) rfl ?_
      refine go_goto (tgt := 24) (pc := 51) dX7_beach_51 (by decide) ?_
      rw [nI_1]
      obtain ⟨mm2, hmm⟩ : ∃ mm2, n + 4 + 3 * mm + (lnU N x9_q.1).1 = n + 4 + 3 * mm2 := by
        rcases lnU_03 (N := N) (s := x9_q.1) with e_q | e_q
        · exact ⟨mm, by omega⟩
        · exact ⟨mm + 1, by omega⟩
      exact ih0 _ _ _ _ _ _ (ln_mB g38.1 g38.2) ⟨lnP N x9_q, i_q + 1, mm2, rfl, hT_q, (fun e_q => lnI_ln (hI g38.1) g38.1 g38.2 hl9 e_q), (by rw [← hE]; exact (rdG_step g38).symm), (fun e_q => by have := len_ln (N := N) (s := x9_q.1) (T := x9_q.2) g38.2 e_q; have : (lnP N x9_q).1.l.length + 1 ≤ x9_q.1.l.length := this; omega), (by have : 0 < x9_q.1.l.length := List.length_pos_iff.mpr (kd_ne rfl g38.2); omega), hq_q, Nat.le_trans ln_le hl9, vOK.ln hv9_q, (fun e_q => by have g_q := lnU_good (N := N) (T := x9_q.2) g38.2 e_q; have g_q : (lnU N x9_q.1).1 + (lnP N x9_q).1.l.length ≤ x9_q.1.l.length ∧ (lnU N x9_q.1).2 + 14 * (lnP N x9_q).1.l.length ≤ 14 * x9_q.1.l.length := g_q; show c9_q + 0 + (lnU N x9_q.1).1 + _ ≤ 905 ∧ e9_q + 0 + (lnU N x9_q.1).2 + _ ≤ 12641; omega), (by show c9_q + 0 + (lnU N x9_q.1).1 ≤ 908 ∧ e9_q + 0 + (lnU N x9_q.1).2 ≤ 12691; omega), hmm, rfl, trivial⟩
