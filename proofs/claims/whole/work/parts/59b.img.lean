/-! ===== the class: images made and gone back to ===== -/
theorem cp_restore {Γ : gam} {ro : Nat → Nat} {z0 : sto} {n k a : Nat} {G g_q : row} {im : Nat → Option Nat} {bI : Nat → Nat} {KI : Nat → row} (hC : CoAt Γ ro z0 a G im) (hT_q : TrAt Γ ro z0 (a + 14)) (hs : HsAt Γ ro z0 (a + 19)) (hg_q : ∀ j, j < 3 → (g_q j = 0 ↔ im j = none)) (hI : ∀ j x_q, j < 3 → im j = some x_q → a + 113 < x_q ∧ ImT Γ ro z0 x_q (bI j) (KI j) ∧ okB (KI j)) (hk : 8 ≤ k) (z_q : Int32) : Sp Γ (rmk k 4 24) uX7_restore [.ref a, .int z_q] z0 n (qT (qV fun σ' n' => rsT g_q z_q.toInt = 0 ∧ n' = n ∧ StAt Γ ro σ' a (bI z_q.toInt.toNat) (KI z_q.toInt.toNat) ∧ frS Γ ro (dS a) z0 σ') (fun x_q σ' n' => exL [eNS, eIS] (rsT g_q z_q.toInt) x_q ∧ σ' = z0 ∧ n ≤ n')) := by
  refine sp_intro [some (.ref a), some (.int z_q)] (by decide +kernel) rfl (Nat.le_of_ble_eq_true rfl) rfl ?_
  refine go_aload_n (pc := 0) dX7_restore_0 rfl ?_
  refine go_iload_n (pc := 1) dX7_restore_1 rfl ?_
  refine go_V1Vx (pc := 2) v_X7_353 rfl rfl (rcv_of (ci := 7) (by first | exact co0 hC | exact co3 hC | exact hx0 | exact co0 hC9 | exact co3 hC9 | exact hx9 | exact sr0 hT1) rfl) dX7_restore_2 (cp_needImage (k := k - 1) (by omega) _) (fun x_q σx nx hx_q => by obtain ⟨h9_q, rfl, rfl, h8_q⟩ := hx_q; exact Or.inr ⟨_, rfl, ⟨0, rsT_1 h9_q, rfl⟩, rfl, h8_q⟩) (fun σ n h_q => ?_)
  obtain ⟨⟨j1_q, hj1, rfl, hj1a⟩, rfl, rfl⟩ := h_q
  have e1_q : (nI j1_q).toInt.toNat = j1_q := by rw [nI_toInt (by omega)]; rfl
  rcases him : im j1_q with _ | x_q
  · refine go_aload_n (pc := 5) dX7_restore_5 rfl ?_
    refine go_getf (pc := 6) f_X7_31 dX7_restore_6 (by first | exact co0 hC | exact co3 hC | exact hx0 | exact co0 hC9 | exact co3 hC9 | exact hx9 | exact sr0 hT1) (by rfl) ?_
    refine go_iload_n (pc := 9) dX7_restore_9 rfl ?_
    refine go_aaloadN (pc := 10) dX7_restore_10 (by first | exact co0 hC | exact co3 hC | exact hx0 | exact co0 hC9 | exact co3 hC9 | exact hx9 | exact sr0 hT1) rfl (vp_in_nI (n := j1_q) (N := 3) (by omega) (by decide)) (by rw [nI_clamp (by omega)]; exact him) ?_
    refine go_ifnonnullN (pc := 11) dX7_restore_11 ?_
    exact go_throwW (si := 31) (pc := 14) th_IS rfl rfl rfl dX7_restore_14 dX7_restore_17 dX7_restore_18 dX7_restore_21 dX7_restore_24 (fun n2 hn2 => Or.inr ⟨_, rfl, ⟨1, (by rw [rsT_s hj1, if_pos ((hg_q j1_q hj1a).mpr him)]; rfl), rfl⟩, rfl, hn2⟩)
  · obtain ⟨hax, ⟨hro, hx0, ⟨chx, cox, rwx, bkx, hSx, hrx⟩, fx, dx, hHx⟩, hBx⟩ := hI j1_q x_q hj1a him
    obtain ⟨b8, w8, m8, c8, o8, r8, k8, hT1⟩ := hT_q
    refine go_aload_n (pc := 5) dX7_restore_5 rfl ?_
    refine go_getf (pc := 6) f_X7_31 dX7_restore_6 (by first | exact co0 hC | exact co3 hC | exact hx0 | exact co0 hC9 | exact co3 hC9 | exact hx9 | exact sr0 hT1 | exact (hs9.2.1.choose_spec.choose_spec)) (by rfl) ?_
    refine go_iload_n (pc := 9) dX7_restore_9 rfl ?_
    refine go_aaload (pc := 10) dX7_restore_10 (by first | exact co0 hC | exact co3 hC | exact hx0 | exact co0 hC9 | exact co3 hC9 | exact hx9 | exact sr0 hT1 | exact (hs9.2.1.choose_spec.choose_spec)) rfl (vp_in_nI (n := j1_q) (N := 3) (by omega) (by decide)) (by rw [nI_clamp (by omega)]; exact him) ?_
    refine go_ifnonnull (tgt := 25) (pc := 11) dX7_restore_11 (by decide) ?_
    refine go_aload_n (pc := 25) dX7_restore_25 rfl ?_
    refine go_getf (pc := 26) f_X7_65 dX7_restore_26 (by first | exact co0 hC | exact co3 hC | exact hx0 | exact co0 hC9 | exact co3 hC9 | exact hx9 | exact sr0 hT1 | exact (hs9.2.1.choose_spec.choose_spec)) (by rfl) ?_
    refine go_aload_n (pc := 29) dX7_restore_29 rfl ?_
    refine go_getf (pc := 30) f_X7_31 dX7_restore_30 (by first | exact co0 hC | exact co3 hC | exact hx0 | exact co0 hC9 | exact co3 hC9 | exact hx9 | exact sr0 hT1 | exact (hs9.2.1.choose_spec.choose_spec)) (by rfl) ?_
    refine go_iload_n (pc := 33) dX7_restore_33 rfl ?_
    refine go_aaload (pc := 34) dX7_restore_34 (by first | exact co0 hC | exact co3 hC | exact hx0 | exact co0 hC9 | exact co3 hC9 | exact hx9 | exact sr0 hT1 | exact (hs9.2.1.choose_spec.choose_spec)) rfl (vp_in_nI (n := j1_q) (N := 3) (by omega) (by decide)) (by rw [nI_clamp (by omega)]; exact him) ?_
    refine go_getf (pc := 35) f_X7_357 dX7_restore_35 (by first | exact co0 hC | exact co3 hC | exact hx0 | exact co0 hC9 | exact co3 hC9 | exact hx9 | exact sr0 hT1 | exact (hs9.2.1.choose_spec.choose_spec)) (by rfl) ?_
    refine go_V1V (pc := 38) v_X7_114 rfl rfl (rcv_of (ci := 5) (by first | exact co0 hC | exact co3 hC | exact hx0 | exact co0 hC9 | exact co3 hC9 | exact hx9 | exact sr0 hT1 | exact (hs9.2.1.choose_spec.choose_spec)) rfl) dX7_restore_38 (cp_copyFrom (k := k - 1) hT1 hSx (by omega) (by omega)) (fun σ n h_q => ?_)
    obtain ⟨rfl, ⟨ch1, co1, rw1, bk1, hT2, q1_q, q2, q3, q4⟩, hf1⟩ := h_q
    have hu : frS Γ ro (fun q => a + 14 ≤ q ∧ q ≤ a + 18) z0 σ := hf1.toS (fun q x_q y_q => ⟨x_q, y_q⟩)
    have hC9 := hC.fs hu (fun q x_q z_q => by omega)
    have hx9 := hu.at (by omega) (by rw [hro x_q (by omega) (by omega)]; decide) hx0
    have hs9 := hs.fs hu (fun q x_q y_q z_q => by omega)
    have hHx9 := hHx.fs hu (fun q x_q y_q z_q => by omega)
    refine go_aload_n (pc := 41) dX7_restore_41 rfl ?_
    refine go_getf (pc := 42) f_X7_72 dX7_restore_42 (by first | exact co0 hC | exact co3 hC | exact hx0 | exact co0 hC9 | exact co3 hC9 | exact hx9 | exact sr0 hT1 | exact (hs9.2.1.choose_spec.choose_spec)) (by rfl) ?_
    refine go_aload_n (pc := 45) dX7_restore_45 rfl ?_
    refine go_getf (pc := 46) f_X7_31 dX7_restore_46 (by first | exact co0 hC | exact co3 hC | exact hx0 | exact co0 hC9 | exact co3 hC9 | exact hx9 | exact sr0 hT1 | exact (hs9.2.1.choose_spec.choose_spec)) (by rfl) ?_
    refine go_iload_n (pc := 49) dX7_restore_49 rfl ?_
    refine go_aaload (pc := 50) dX7_restore_50 (by first | exact co0 hC | exact co3 hC | exact hx0 | exact co0 hC9 | exact co3 hC9 | exact hx9 | exact sr0 hT1 | exact (hs9.2.1.choose_spec.choose_spec)) rfl (vp_in_nI (n := j1_q) (N := 3) (by omega) (by decide)) (by rw [nI_clamp (by omega)]; exact him) ?_
    refine go_getf (pc := 51) f_X7_358 dX7_restore_51 (by first | exact co0 hC | exact co3 hC | exact hx0 | exact co0 hC9 | exact co3 hC9 | exact hx9 | exact sr0 hT1 | exact (hs9.2.1.choose_spec.choose_spec)) (by rfl) ?_
    refine go_V1V (pc := 54) v_X7_359 rfl rfl (rcv_of (ci := 1) (by first | exact co0 hC | exact co3 hC | exact hx0 | exact co0 hC9 | exact co3 hC9 | exact hx9 | exact sr0 hT1 | exact (hs9.2.1.choose_spec.choose_spec)) rfl) dX7_restore_54 (cp_hcopy (k := k - 1) hs9 hHx9 hBx (by omega) (by omega)) (fun σ n h_q => ?_)
    obtain ⟨rfl, hH2, hf2⟩ := h_q
    have hT3 := hT2.fs hf2 (fun q x_q y_q z_q => by omega)
    exact go_vretT (pc := 57) rfl dX7_restore_57 (Nat.le_of_ble_eq_true rfl) (Nat.le_of_ble_eq_true rfl) (by
  refine ⟨by rw [rsT_s hj1, if_neg (fun hc_q => by rw [(hg_q j1_q hj1a).mp hc_q] at him; cases him)], rfl, ?_, (hu.wk (S' := dS a) (fun q x_q => by omega)).tr (hf2.wk (fun q x_q => by omega))⟩
  rw [e1_q]
  exact ⟨⟨_, _, _, _, hT3, rS_cong hBx hrx q1_q q2 q3 q4⟩, _, _, hH2⟩)
theorem cp_image {Γ : gam} {ro : Nat → Nat} {z0 : sto} {n k a b_q f_q d_q : Nat} {w : Int32} {G K ch co rw bk : row} {im : Nat → Option Nat} (hC : CoAt Γ ro z0 a G im) (ha_q : a + 113 < n) (hR_q : SrAt Γ ro z0 (a + 14) b_q w (K 33) ch co rw bk) (hr_q : rS K ch co rw bk) (hw_q : w = K 32) (hB_q : okB K) (hH : HiAt Γ ro z0 (a + 19) b_q f_q d_q K) (hI : ∀ j x_q, j < 3 → im j = some x_q → a + 113 < x_q ∧ ImAt Γ ro z0 x_q) (hk : 12 ≤ k) (z_q : Int32) : Sp Γ (rmk k 60 600) uX7_image [.ref a, .int z_q] z0 n (qT (qV fun σ' n' => imT z_q.toInt = 0 ∧ ∃ (ro' : Nat → Nat) (x_q : Nat) (im' : Nat → Option Nat), (∀ q, q < n → ro' q = ro q) ∧ ((im z_q.toInt.toNat = some x_q ∧ n' = n ∧ ro' = ro) ∨ (im z_q.toInt.toNat = none ∧ x_q = n ∧ n' = n + 58 ∧ ∀ q, n ≤ q → ro' q = 2)) ∧ im' z_q.toInt.toNat = some x_q ∧ (∀ i_q, i_q ≠ z_q.toInt.toNat → im' i_q = im i_q) ∧ CoAt Γ ro' σ' a G im' ∧ ImT Γ ro' σ' x_q b_q K ∧ frS Γ ro' (fun q => q = a + 3 ∨ (x_q ≤ q ∧ q ≤ x_q + 57)) z0 σ') (fun x_q σ' n' => exL [eNS] (imT z_q.toInt) x_q ∧ σ' = z0 ∧ n ≤ n')) := by
  refine sp_intro [some (.ref a), some (.int z_q)] (by decide +kernel) rfl (Nat.le_of_ble_eq_true rfl) rfl ?_
  refine go_low (fun hlow => ?_)
  refine go_aload_n (pc := 0) dX7_image_0 rfl ?_
  refine go_iload_n (pc := 1) dX7_image_1 rfl ?_
  refine go_V1Vx (pc := 2) v_X7_353 rfl rfl (rcv_of (ci := 7) (by exact co0 hC) rfl) dX7_image_2 (cp_needImage (k := k - 1) (by omega) _) (fun x_q σx nx hx_q => by obtain ⟨h9_q, rfl, rfl, h8_q⟩ := hx_q; exact Or.inr ⟨_, rfl, ⟨0, imT_1 h9_q, rfl⟩, rfl, h8_q⟩) (fun σ n h_q => ?_)
  obtain ⟨⟨j1_q, hj1, rfl, hj1a⟩, rfl, rfl⟩ := h_q
  have e1_q : (nI j1_q).toInt.toNat = j1_q := by rw [nI_toInt (by omega)]; rfl
  subst hw_q
  rw [e1_q]
  rcases him : im j1_q with _ | x_q
  · have hxa : ∀ q, n ≤ q → q ≤ n + 57 → (fun q => if n ≤ q then 2 else ro q) q = 2 := fun q x_q y_q => if_pos x_q
    have hro : ∀ q, q < n → (fun q => if n ≤ q then 2 else ro q) q = ro q := fun q hq_q => if_neg (by omega)
    refine go_aload_n (pc := 5) dX7_image_5 rfl ?_
    refine go_getf (pc := 6) f_X7_31 dX7_image_6 (by first | exact co0 hC | exact co3 hC | exact sr0 hR_q | exact g0 | exact g3_q) (by rfl) ?_
    refine go_iload_n (pc := 9) dX7_image_9 rfl ?_
    refine go_aaloadN (pc := 10) dX7_image_10 (by first | exact co0 hC | exact co3 hC | exact sr0 hR_q | exact g0 | exact g3_q) rfl (vp_in_nI (n := j1_q) (N := 3) (by omega) (by decide)) (by rw [nI_clamp (by omega)]; exact him) ?_
    refine go_ifnonnullN (pc := 11) dX7_image_11 ?_
    refine go_aload_n (pc := 14) dX7_image_14 rfl ?_
    refine go_getf (pc := 15) f_X7_31 dX7_image_15 (by first | exact co0 hC | exact co3 hC | exact sr0 hR_q | exact g0 | exact g3_q) (by rfl) ?_
    refine go_iload_n (pc := 18) dX7_image_18 rfl ?_
    refine go_new (ci := 2) (fs := df2) (pc := 19) n_X7_29 rfl df2_ok dX7_image_19 (by show (0 + 1 + 1 : Nat) ≤ 60; decide) (by show (0 + 6 + 2 : Nat) ≤ 600; decide) ?_
    refine go_set (P := fun s => s n = some (cO 2 df2) ∧ ∀ q, q ≠ n → s q = z0 q) ⟨sup_eq, fun q hq_q => sup_ne hq_q rfl⟩ (fun σ hP => ?_)
    obtain ⟨gn, gq⟩ := hP
    have g0 := (gq a (by omega)).trans (co0 hC)
    have g14 := (gq (a + 14) (by omega)).trans (sr0 hR_q)
    refine go_dup (pc := 22) dX7_image_22 rfl ?_
    refine go_aload_n (pc := 23) dX7_image_23 rfl ?_
    refine go_getf (pc := 24) f_X7_65 dX7_image_24 g0 (by rfl) ?_
    refine go_getf (pc := 27) f_X7_120 dX7_image_27 g14 (by rfl) ?_
    refine go_I1V (pc := 30) i_X7_356 rfl rfl dX7_image_30 (hC := ⟨by show (0 + 1 + 1 + 57 : Nat) ≤ 60; decide, by show (0 + 6 + 2 + 574 : Nat) ≤ 600; decide⟩) (cp_newI (k := k - 1) gn (by omega)) (fun σ n h_q => ?_)
    obtain ⟨rfl, gn, gS, gH, hq5⟩ := h_q
    have g3_q := (hq5 (a + 3) (by omega)).trans ((gq (a + 3) (by omega)).trans (co3 hC))
    refine go_aastore (r := (RX2, TX2, 2)) (pc := 33) dX7_image_33 g3_q rfl gn rfl (vp_in_nI (n := j1_q) (N := 3) (by omega) (by decide)) ?_
    refine go_cast (c2 := 59) (s2 := 582) (show (0 + 1 + 1 + 57 : Nat) = 59 from rfl) (show (0 + 6 + 2 + 574 : Nat) = 582 from rfl) ?_
    refine go_set (P := fun s => s n = some (cO 2 [.ref (n + 1), .ref (n + 6)]) ∧ NeAt Γ s (n + 1) b_q ∧ NhAt Γ s (n + 6) b_q ∧ s (a + 3) = some (cR Γ 5 3 (va_up im j1_q (some n))) ∧ ∀ q, (q < n ∨ n + 57 < q) → q ≠ a + 3 → s q = z0 q) ⟨sup_ne (by omega) gn, gS.kp (fun q x_q y_q => sup_ne (by omega) rfl), gH.kp (fun q x_q y_q => sup_ne (by omega) rfl), (by rw [nI_clamp (by omega)]; exact sup_eq), fun q h1_q h2_q => sup_ne h2_q ((hq5 q (by omega)).trans (gq q (by omega)))⟩ (fun σ2 hP => ?_)
    obtain ⟨hx1, hn5, hn6, h33, hq6⟩ := hP
    have f0 : frS Γ (fun q => if n ≤ q then 2 else ro q) (fun q => q = a + 3 ∨ (n ≤ q ∧ q ≤ n + 57)) z0 σ2 := frS.pt (fun q hq_q => hq6 q (by omega) (by omega))
    have hxr : (fun q => if n ≤ q then 2 else ro q) n ≠ 1 := by rw [hxa n (by omega) (by omega)]; decide
    obtain ⟨b8, w8, m8, c8, o8, r8, k8, hT1⟩ := hn5.T (ro := (fun q => if n ≤ q then 2 else ro q)) (fun q x_q y_q hc_q => absurd ((hxa q (by omega) (by omega)).symm.trans hc_q) (by decide))
    have hs1_q := hn6.hs (ro := (fun q => if n ≤ q then 2 else ro q)) (fun q x_q y_q hc_q => absurd ((hxa q (by omega) (by omega)).symm.trans hc_q) (by decide))
    have hR1 := (hR_q.rol hlow hro).fs f0 (fun q x_q y_q z_q => by omega)
    have hH1 := (hH.rol hlow hro).fs f0 (fun q x_q y_q z_q => by omega)
    have hC0 := hC.rol ha_q hro
    have hC1 : CoAt Γ (fun q => if n ≤ q then 2 else ro q) σ2 a G (va_up im j1_q (some n)) := ⟨hC0.1, (hq6 _ (by omega) (by omega)).trans (co0 hC), (hq6 _ (by omega) (by omega)).trans (co2 hC), h33, (hq6 _ (by omega) (by omega)).trans (co4 hC)⟩
    have him1 : (va_up im j1_q (some n)) j1_q = some n := by simp [va_up]
    refine go_aload_n (pc := 34) dX7_image_34 rfl ?_
    refine go_getf (pc := 35) f_X7_31 dX7_image_35 (by first | exact co0 hC1 | exact co3 hC1 | exact hx1 | exact co0 hC2 | exact co3 hC2 | exact hx2 | exact sr0 hT1 | exact hi0 hH2 | exact hsc) (by rfl) ?_
    refine go_iload_n (pc := 38) dX7_image_38 rfl ?_
    refine go_aaload (pc := 39) dX7_image_39 (by first | exact co0 hC1 | exact co3 hC1 | exact hx1 | exact co0 hC2 | exact co3 hC2 | exact hx2 | exact sr0 hT1 | exact hi0 hH2 | exact hsc) rfl (vp_in_nI (n := j1_q) (N := 3) (by omega) (by decide)) (by rw [nI_clamp (by omega)]; exact him1) ?_
    refine go_getf (pc := 40) f_X7_357 dX7_image_40 (by first | exact co0 hC1 | exact co3 hC1 | exact hx1 | exact co0 hC2 | exact co3 hC2 | exact hx2 | exact sr0 hT1 | exact hi0 hH2 | exact hsc) (by rfl) ?_
    refine go_aload_n (pc := 43) dX7_image_43 rfl ?_
    refine go_getf (pc := 44) f_X7_65 dX7_image_44 (by first | exact co0 hC1 | exact co3 hC1 | exact hx1 | exact co0 hC2 | exact co3 hC2 | exact hx2 | exact sr0 hT1 | exact hi0 hH2 | exact hsc) (by rfl) ?_
    refine go_V1V (pc := 47) v_X7_114 rfl rfl (rcv_of (ci := 5) (by first | exact co0 hC1 | exact co3 hC1 | exact hx1 | exact co0 hC2 | exact co3 hC2 | exact hx2 | exact sr0 hT1 | exact hi0 hH2 | exact hsc) rfl) dX7_image_47 (hC := ⟨by show (59 : Nat) ≤ 60; decide, by show (582 : Nat) ≤ 600; decide⟩) (cp_copyFrom (k := k - 1) hT1 hR1 (by omega) (by omega)) (fun σ n h_q => ?_)
    obtain ⟨rfl, ⟨ch1, co1, rw1, bk1, hT2, q1_q, q2, q3, q4⟩, hf1⟩ := h_q
    have hu : frS Γ (fun q => if n ≤ q then 2 else ro q) (fun q => n + 1 ≤ q ∧ q ≤ n + 5) _ σ := hf1.toS (fun q x_q y_q => by omega)
    have hC2 := hC1.fs hu (fun q x_q z_q => by omega)
    have hx2 := hu.at (by omega) hxr hx1
    have hs2 := hs1_q.fs hu (fun q x_q y_q z_q => by omega)
    obtain ⟨x9_q, y9, hsc⟩ := hs2.2.1
    have hH2 := hH1.fs hu (fun q x_q y_q z_q => by omega)
    have f2 := f0.tr (hu.wk (S' := (fun q => q = a + 3 ∨ (n ≤ q ∧ q ≤ n + 57))) (fun q x_q => by omega))
    refine go_aload_n (pc := 50) dX7_image_50 rfl ?_
    refine go_getf (pc := 51) f_X7_31 dX7_image_51 (by first | exact co0 hC1 | exact co3 hC1 | exact hx1 | exact co0 hC2 | exact co3 hC2 | exact hx2 | exact sr0 hT1 | exact hi0 hH2 | exact hsc) (by rfl) ?_
    refine go_iload_n (pc := 54) dX7_image_54 rfl ?_
    refine go_aaload (pc := 55) dX7_image_55 (by first | exact co0 hC1 | exact co3 hC1 | exact hx1 | exact co0 hC2 | exact co3 hC2 | exact hx2 | exact sr0 hT1 | exact hi0 hH2 | exact hsc) rfl (vp_in_nI (n := j1_q) (N := 3) (by omega) (by decide)) (by rw [nI_clamp (by omega)]; exact him1) ?_
    refine go_getf (pc := 56) f_X7_358 dX7_image_56 (by first | exact co0 hC1 | exact co3 hC1 | exact hx1 | exact co0 hC2 | exact co3 hC2 | exact hx2 | exact sr0 hT1 | exact hi0 hH2 | exact hsc) (by rfl) ?_
    refine go_aload_n (pc := 59) dX7_image_59 rfl ?_
    refine go_getf (pc := 60) f_X7_72 dX7_image_60 (by first | exact co0 hC1 | exact co3 hC1 | exact hx1 | exact co0 hC2 | exact co3 hC2 | exact hx2 | exact sr0 hT1 | exact hi0 hH2 | exact hsc) (by rfl) ?_
    refine go_V1V (pc := 63) v_X7_359 rfl rfl (rcv_of (ci := 1) (by first | exact co0 hC1 | exact co3 hC1 | exact hx1 | exact co0 hC2 | exact co3 hC2 | exact hx2 | exact sr0 hT1 | exact hi0 hH2 | exact hsc) rfl) dX7_image_63 (hC := ⟨by show (59 : Nat) ≤ 60; decide, by show (582 : Nat) ≤ 600; decide⟩) (cp_hcopy (k := k - 1) hs2 hH2 hB_q (by omega) (by omega)) (fun σ n h_q => ?_)
    obtain ⟨rfl, hH3, hf2⟩ := h_q
    have hT3 := hT2.fs hf2 (fun q x_q y_q z_q => by omega)
    have hC3 := hC2.fs hf2 (fun q x_q z_q => by omega)
    have hx3 := hf2.at (by omega) hxr hx2
    have f3 := f2.tr (hf2.wk (S' := (fun q => q = a + 3 ∨ (n ≤ q ∧ q ≤ n + 57))) (fun q x_q => by omega))
    exact go_vretT (pc := 66) rfl dX7_image_66 (Nat.le_of_ble_eq_true rfl) (Nat.le_of_ble_eq_true rfl) ⟨imT_0 hj1, (fun q => if n ≤ q then 2 else ro q), n, (va_up im j1_q (some n)), hro, Or.inr ⟨rfl, rfl, rfl, fun q hq_q => if_pos hq_q⟩, him1, (fun i_q hi_q => by simp [va_up, hi_q]), hC3, ⟨hxa, hx3, ⟨_, _, _, _, hT3, rS_cong hB_q hr_q q1_q q2 q3 q4⟩, _, _, hH3⟩, f3⟩
  · obtain ⟨hax, hxa, hx1, ⟨b8, w8, m8, c8, o8, r8, k8, hT1⟩, hs1_q⟩ := hI j1_q x_q hj1a him
    have hxr : ro x_q ≠ 1 := by rw [hxa x_q (by omega) (by omega)]; decide
    refine go_aload_n (pc := 5) dX7_image_5 rfl ?_
    refine go_getf (pc := 6) f_X7_31 dX7_image_6 (by first | exact co0 hC | exact co3 hC) (by rfl) ?_
    refine go_iload_n (pc := 9) dX7_image_9 rfl ?_
    refine go_aaload (pc := 10) dX7_image_10 (by first | exact co0 hC | exact co3 hC) rfl (vp_in_nI (n := j1_q) (N := 3) (by omega) (by decide)) (by rw [nI_clamp (by omega)]; exact him) ?_
    refine go_ifnonnull (tgt := 34) (pc := 11) dX7_image_11 (by decide) ?_
    have hC1 := hC
    have hR1 := hR_q
    have hH1 := hH
    have f0 : frS Γ ro (fun q => q = a + 3 ∨ (x_q ≤ q ∧ q ≤ x_q + 57)) z0 z0 := frS.rf
    refine go_cast (c2 := 1) (s2 := 6) (show (0 + 1 : Nat) = 1 from rfl) (show (0 + 6 : Nat) = 6 from rfl) ?_
    refine go_aload_n (pc := 34) dX7_image_34 rfl ?_
    refine go_getf (pc := 35) f_X7_31 dX7_image_35 (by first | exact co0 hC1 | exact co3 hC1 | exact hx1 | exact co0 hC2 | exact co3 hC2 | exact hx2 | exact sr0 hT1 | exact hi0 hH2 | exact hsc) (by rfl) ?_
    refine go_iload_n (pc := 38) dX7_image_38 rfl ?_
    refine go_aaload (pc := 39) dX7_image_39 (by first | exact co0 hC1 | exact co3 hC1 | exact hx1 | exact co0 hC2 | exact co3 hC2 | exact hx2 | exact sr0 hT1 | exact hi0 hH2 | exact hsc) rfl (vp_in_nI (n := j1_q) (N := 3) (by omega) (by decide)) (by rw [nI_clamp (by omega)]; exact him) ?_
    refine go_getf (pc := 40) f_X7_357 dX7_image_40 (by first | exact co0 hC1 | exact co3 hC1 | exact hx1 | exact co0 hC2 | exact co3 hC2 | exact hx2 | exact sr0 hT1 | exact hi0 hH2 | exact hsc) (by rfl) ?_
    refine go_aload_n (pc := 43) dX7_image_43 rfl ?_
    refine go_getf (pc := 44) f_X7_65 dX7_image_44 (by first | exact co0 hC1 | exact co3 hC1 | exact hx1 | exact co0 hC2 | exact co3 hC2 | exact hx2 | exact sr0 hT1 | exact hi0 hH2 | exact hsc) (by rfl) ?_
    refine go_V1V (pc := 47) v_X7_114 rfl rfl (rcv_of (ci := 5) (by first | exact co0 hC1 | exact co3 hC1 | exact hx1 | exact co0 hC2 | exact co3 hC2 | exact hx2 | exact sr0 hT1 | exact hi0 hH2 | exact hsc) rfl) dX7_image_47 (hC := ⟨by show (1 : Nat) ≤ 60; decide, by show (6 : Nat) ≤ 600; decide⟩) (cp_copyFrom (k := k - 1) hT1 hR1 (by omega) (by omega)) (fun σ n h_q => ?_)
    obtain ⟨rfl, ⟨ch1, co1, rw1, bk1, hT2, q1_q, q2, q3, q4⟩, hf1⟩ := h_q
    have hu : frS Γ ro (fun q => x_q + 1 ≤ q ∧ q ≤ x_q + 5) _ σ := hf1.toS (fun q x_q y_q => by omega)
    have hC2 := hC1.fs hu (fun q x_q z_q => by omega)
    have hx2 := hu.at (by omega) hxr hx1
    have hs2 := hs1_q.fs hu (fun q x_q y_q z_q => by omega)
    obtain ⟨x9_q, y9, hsc⟩ := hs2.2.1
    have hH2 := hH1.fs hu (fun q x_q y_q z_q => by omega)
    have f2 := f0.tr (hu.wk (S' := (fun q => q = a + 3 ∨ (x_q ≤ q ∧ q ≤ x_q + 57))) (fun q x_q => by omega))
    refine go_aload_n (pc := 50) dX7_image_50 rfl ?_
    refine go_getf (pc := 51) f_X7_31 dX7_image_51 (by first | exact co0 hC1 | exact co3 hC1 | exact hx1 | exact co0 hC2 | exact co3 hC2 | exact hx2 | exact sr0 hT1 | exact hi0 hH2 | exact hsc) (by rfl) ?_
    refine go_iload_n (pc := 54) dX7_image_54 rfl ?_
    refine go_aaload (pc := 55) dX7_image_55 (by first | exact co0 hC1 | exact co3 hC1 | exact hx1 | exact co0 hC2 | exact co3 hC2 | exact hx2 | exact sr0 hT1 | exact hi0 hH2 | exact hsc) rfl (vp_in_nI (n := j1_q) (N := 3) (by omega) (by decide)) (by rw [nI_clamp (by omega)]; exact him) ?_
    refine go_getf (pc := 56) f_X7_358 dX7_image_56 (by first | exact co0 hC1 | exact co3 hC1 | exact hx1 | exact co0 hC2 | exact co3 hC2 | exact hx2 | exact sr0 hT1 | exact hi0 hH2 | exact hsc) (by rfl) ?_
    refine go_aload_n (pc := 59) dX7_image_59 rfl ?_
    refine go_getf (pc := 60) f_X7_72 dX7_image_60 (by first | exact co0 hC1 | exact co3 hC1 | exact hx1 | exact co0 hC2 | exact co3 hC2 | exact hx2 | exact sr0 hT1 | exact hi0 hH2 | exact hsc) (by rfl) ?_
    refine go_V1V (pc := 63) v_X7_359 rfl rfl (rcv_of (ci := 1) (by first | exact co0 hC1 | exact co3 hC1 | exact hx1 | exact co0 hC2 | exact co3 hC2 | exact hx2 | exact sr0 hT1 | exact hi0 hH2 | exact hsc) rfl) dX7_image_63 (hC := ⟨by show (1 : Nat) ≤ 60; decide, by show (6 : Nat) ≤ 600; decide⟩) (cp_hcopy (k := k - 1) hs2 hH2 hB_q (by omega) (by omega)) (fun σ n h_q => ?_)
    obtain ⟨rfl, hH3, hf2⟩ := h_q
    have hT3 := hT2.fs hf2 (fun q x_q y_q z_q => by omega)
    have hC3 := hC2.fs hf2 (fun q x_q z_q => by omega)
    have hx3 := hf2.at (by omega) hxr hx2
    have f3 := f2.tr (hf2.wk (S' := (fun q => q = a + 3 ∨ (x_q ≤ q ∧ q ≤ x_q + 57))) (fun q x_q => by omega))
    exact go_vretT (pc := 66) rfl dX7_image_66 (Nat.le_of_ble_eq_true rfl) (Nat.le_of_ble_eq_true rfl) ⟨imT_0 hj1, ro, x_q, im, (fun _ _ => rfl), Or.inl ⟨rfl, rfl, rfl⟩, him, (fun _ _ => rfl), hC3, ⟨hxa, hx3, ⟨_, _, _, _, hT3, rS_cong hB_q hr_q q1_q q2 q3 q4⟩, _, _, hH3⟩, f3⟩
