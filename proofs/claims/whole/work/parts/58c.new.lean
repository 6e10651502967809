/-! ===== the class: new seats, histories, images ===== -/
theorem cp_newS {Γ : gam} {z0 : sto} {k x_q b_q : Nat} (ho : z0 x_q = some (cO 5 df5)) (hk : 3 ≤ k) : Sp Γ (rmk k 4 44) uX5_init [.ref x_q, .ref b_q] z0 (x_q + 1) (qV fun σ' n' => n' = x_q + 5 ∧ NeAt Γ σ' x_q b_q ∧ ∀ q, (q < x_q ∨ x_q + 4 < q) → σ' q = z0 q) := by
  refine sp_intro [some (.ref x_q), some (.ref b_q)] (by decide +kernel) rfl (Nat.le_of_ble_eq_true rfl) rfl ?_
  refine go_aload_n (pc := 0) dX5_init_0 rfl ?_
  refine go_obj (pc := 1) kw1_111 kw1_32 (by exact kw1_33) dX5_init_1 (by show 1 ≤ k; omega) (by show 12 ≤ 40 * k; omega) ?_
  refine go_aload_n (pc := 4) dX5_init_4 rfl ?_
  refine go_bipush (v := 20) (pc := 5) dX5_init_5 (by decide) ?_
  refine go_newI (pc := 7) dX5_init_7 (by decide) rfl (by decide) (Nat.le_of_ble_eq_true rfl) (Nat.le_of_ble_eq_true rfl) ?_
  refine go_putF (fs' := [_, _, _, _, _, _, _]) (pc := 9) f_X5_9 rfl (by intro K T N h_q; cases h_q; rfl) dX5_init_9 (by repeat (first | exact ho | exact sup_eq | refine sup_ne (by omega) ?_)) (Nat.le_of_ble_eq_true rfl) (by rfl) rfl rfl ?_
  refine go_aload_n (pc := 12) dX5_init_12 rfl ?_
  refine go_bipush (v := 8) (pc := 13) dX5_init_13 (by decide) ?_
  refine go_newI (pc := 15) dX5_init_15 (by decide) rfl (by decide) (Nat.le_of_ble_eq_true rfl) (Nat.le_of_ble_eq_true rfl) ?_
  refine go_putF (fs' := [_, _, _, _, _, _, _]) (pc := 17) f_X5_15 rfl (by intro K T N h_q; cases h_q; rfl) dX5_init_17 (by repeat (first | exact ho | exact sup_eq | refine sup_ne (by omega) ?_)) (Nat.le_of_ble_eq_true rfl) (by rfl) rfl rfl ?_
  refine go_aload_n (pc := 20) dX5_init_20 rfl ?_
  refine go_bipush (v := 8) (pc := 21) dX5_init_21 (by decide) ?_
  refine go_newI (pc := 23) dX5_init_23 (by decide) rfl (by decide) (Nat.le_of_ble_eq_true rfl) (Nat.le_of_ble_eq_true rfl) ?_
  refine go_putF (fs' := [_, _, _, _, _, _, _]) (pc := 25) f_X5_18 rfl (by intro K T N h_q; cases h_q; rfl) dX5_init_25 (by repeat (first | exact ho | exact sup_eq | refine sup_ne (by omega) ?_)) (Nat.le_of_ble_eq_true rfl) (by rfl) rfl rfl ?_
  refine go_aload_n (pc := 28) dX5_init_28 rfl ?_
  refine go_bipush (v := 8) (pc := 29) dX5_init_29 (by decide) ?_
  refine go_newI (pc := 31) dX5_init_31 (by decide) rfl (by decide) (Nat.le_of_ble_eq_true rfl) (Nat.le_of_ble_eq_true rfl) ?_
  refine go_putF (fs' := [_, _, _, _, _, _, _]) (pc := 33) f_X5_21 rfl (by intro K T N h_q; cases h_q; rfl) dX5_init_33 (by repeat (first | exact ho | exact sup_eq | refine sup_ne (by omega) ?_)) (Nat.le_of_ble_eq_true rfl) (by rfl) rfl rfl ?_
  refine go_aload_n (pc := 36) dX5_init_36 rfl ?_
  refine go_iconst (v := 0) (pc := 37) dX5_init_37 (by decide) ?_
  refine go_putf (fs' := [_, _, _, _, _, _, _]) (pc := 38) f_X5_24 dX5_init_38 (by repeat (first | exact ho | exact sup_eq | refine sup_ne (by omega) ?_)) (Nat.le_of_ble_eq_true rfl) (by rfl) rfl rfl ?_
  refine go_aload_n (pc := 41) dX5_init_41 rfl ?_
  refine go_iconst (v := 0) (pc := 42) dX5_init_42 (by decide) ?_
  refine go_putf (fs' := [_, _, _, _, _, _, _]) (pc := 43) f_X5_28 dX5_init_43 (by repeat (first | exact ho | exact sup_eq | refine sup_ne (by omega) ?_)) (Nat.le_of_ble_eq_true rfl) (by rfl) rfl rfl ?_
  refine go_aload_n (pc := 46) dX5_init_46 rfl ?_
  refine go_aload_n (pc := 47) dX5_init_47 rfl ?_
  refine go_putf (fs' := [_, _, _, _, _, _, _]) (pc := 48) f_X5_31 dX5_init_48 (by repeat (first | exact ho | exact sup_eq | refine sup_ne (by omega) ?_)) (Nat.le_of_ble_eq_true rfl) (by rfl) rfl rfl ?_
  refine go_set (P := fun s => s x_q = some (cO 5 [.ref (x_q + 1), .ref (x_q + 2), .ref (x_q + 3), .ref (x_q + 4), .ref b_q, .int 0, .int 0]) ∧ s (x_q + 1) = some (cI Γ 20 (fun _ => 0)) ∧ s (x_q + 2) = some (cI Γ 8 (fun _ => 0)) ∧ s (x_q + 3) = some (cI Γ 8 (fun _ => 0)) ∧ s (x_q + 4) = some (cI Γ 8 (fun _ => 0)) ∧ ∀ q, (q < x_q ∨ x_q + 4 < q) → s q = z0 q) ⟨sup_eq, (by repeat (first | exact rfl | exact sup_eq | refine sup_ne (by omega) ?_)), (by repeat (first | exact rfl | exact sup_eq | refine sup_ne (by omega) ?_)), (by repeat (first | exact rfl | exact sup_eq | refine sup_ne (by omega) ?_)), (by repeat (first | exact rfl | exact sup_eq | refine sup_ne (by omega) ?_)), fun q hq_q => (by repeat (first | exact rfl | exact sup_eq | refine sup_ne (by omega) ?_))⟩ (fun σ hP => ?_)
  obtain ⟨c0, c1, c2, c3, c4, cq⟩ := hP
  refine go_aload_n (pc := 51) dX5_init_51 rfl ?_
  refine go_getf (pc := 52) f_X5_9 dX5_init_52 c0 (by rfl) ?_
  refine go_iconst (v := -1) (pc := 55) dX5_init_55 (by decide) ?_
  refine go_S2V (pc := 56) s_X5_35 rfl rfl dX5_init_56 (cp_fillI (k := k - 1) c1 (by decide) _) (fun σ n h_q => ?_)
  obtain ⟨rfl, ⟨f1, c1, z1⟩, hq1⟩ := h_q
  have c0 := (hq1 _ (by omega)).trans c0
  have c2 := (hq1 _ (by omega)).trans c2
  have c3 := (hq1 _ (by omega)).trans c3
  have c4 := (hq1 _ (by omega)).trans c4
  refine go_aload_n (pc := 59) dX5_init_59 rfl ?_
  refine go_getf (pc := 60) f_X5_18 dX5_init_60 c0 (by rfl) ?_
  refine go_iconst (v := -1) (pc := 63) dX5_init_63 (by decide) ?_
  refine go_S2V (pc := 64) s_X5_35 rfl rfl dX5_init_64 (cp_fillI (k := k - 1) c3 (by decide) _) (fun σ n h_q => ?_)
  obtain ⟨rfl, ⟨f3, c3, z3⟩, hq3⟩ := h_q
  have c0 := (hq3 _ (by omega)).trans c0
  have c1 := (hq3 _ (by omega)).trans c1
  have c2 := (hq3 _ (by omega)).trans c2
  have c4 := (hq3 _ (by omega)).trans c4
  refine go_aload_n (pc := 67) dX5_init_67 rfl ?_
  refine go_getf (pc := 68) f_X5_21 dX5_init_68 c0 (by rfl) ?_
  refine go_iconst (v := -1) (pc := 71) dX5_init_71 (by decide) ?_
  refine go_S2V (pc := 72) s_X5_35 rfl rfl dX5_init_72 (cp_fillI (k := k - 1) c4 (by decide) _) (fun σ n h_q => ?_)
  obtain ⟨rfl, ⟨f4, c4, z4⟩, hq4⟩ := h_q
  have c0 := (hq4 _ (by omega)).trans c0
  have c1 := (hq4 _ (by omega)).trans c1
  have c2 := (hq4 _ (by omega)).trans c2
  have c3 := (hq4 _ (by omega)).trans c3
  exact go_vretV (pc := 75) rfl dX5_init_75 (Nat.le_of_ble_eq_true rfl) (Nat.le_of_ble_eq_true rfl) ⟨rfl, ⟨f1, _, f3, f4, c0, c1, c2, c3, c4, z1, fun _ _ => rfl, z3, z4⟩, fun q hq_q => (hq4 q (by omega)).trans ((hq3 q (by omega)).trans ((hq1 q (by omega)).trans (cq q hq_q)))⟩
theorem cp_newH {Γ : gam} {z0 : sto} {k h_q b_q : Nat} (ho : z0 h_q = some (cO 1 df1)) (hk : 5 ≤ k) : Sp Γ (rmk k 51 520) uX1_init [.ref h_q, .ref b_q] z0 (h_q + 1) (qV fun σ' n' => n' = h_q + 52 ∧ NhAt Γ σ' h_q b_q ∧ ∀ q, (q < h_q ∨ h_q + 51 < q) → σ' q = z0 q) := by
  refine sp_intro [some (.ref h_q), some (.ref b_q), none] (by decide +kernel) rfl (Nat.le_of_ble_eq_true rfl) rfl ?_
  refine go_aload_n (pc := 0) dX1_init_0 rfl ?_
  refine go_obj (pc := 1) kw1_148 kw1_32 (by exact kw1_33) dX1_init_1 (by show 1 ≤ k; omega) (by show 12 ≤ 40 * k; omega) ?_
  refine go_aload_n (pc := 4) dX1_init_4 rfl ?_
  refine go_bipush (v := 10) (pc := 5) dX1_init_5 (by decide) ?_
  refine go_newQ (k := 3) (pc := 7) kw1_149 rfl (fun U hK => hK.2.2.2.2.2.2.1) dX1_init_7 (by decide) rfl (by decide) (Nat.le_of_ble_eq_true rfl) (Nat.le_of_ble_eq_true rfl) ?_
  refine go_putF (fs' := [_, _, _]) (pc := 10) f_X1_11 rfl (by intro K T N h_q; cases h_q; rfl) dX1_init_10 (by repeat (first | exact ho | exact sup_eq | refine sup_ne (by omega) ?_)) (Nat.le_of_ble_eq_true rfl) (by rfl) rfl rfl ?_
  refine go_aload_n (pc := 13) dX1_init_13 rfl ?_
  refine go_iconst (v := 0) (pc := 14) dX1_init_14 (by decide) ?_
  refine go_putf (fs' := [_, _, _]) (pc := 15) f_X1_17 dX1_init_15 (by repeat (first | exact ho | exact sup_eq | refine sup_ne (by omega) ?_)) (Nat.le_of_ble_eq_true rfl) (by rfl) rfl rfl ?_
  refine go_aload_n (pc := 18) dX1_init_18 rfl ?_
  refine go_iconst (v := 0) (pc := 19) dX1_init_19 (by decide) ?_
  refine go_putf (fs' := [_, _, _]) (pc := 20) f_X1_21 dX1_init_20 (by repeat (first | exact ho | exact sup_eq | refine sup_ne (by omega) ?_)) (Nat.le_of_ble_eq_true rfl) (by rfl) rfl rfl ?_
  refine go_iconst (v := 0) (pc := 23) dX1_init_23 (by decide) ?_
  refine go_istore_n (lw := [_, _, _]) (pc := 24) dX1_init_24 (by decide) rfl ?_
  refine go_iterC (10) 1 5 10 51 (fun i_q lv9 s9 n9 => lv9 = [some (.ref h_q), some (.ref b_q), some (.int (nI i_q))] ∧ (s9 h_q = some (cO 1 [.ref (h_q + 1), .int 0, .int 0])) ∧ (s9 (h_q + 1) = some (cR Γ 3 10 (fun j => if j < i_q then some (h_q + 2 + 5 * j) else none))) ∧ (∀ j, j < i_q → NeAt Γ s9 (h_q + 2 + 5 * j) b_q) ∧ (∀ q, (q < h_q ∨ h_q + 51 < q) → s9 q = z0 q) ∧ h_q + 2 + 5 * i_q = n9) ⟨rfl, sup_eq, (by repeat (first | exact rfl | exact sup_eq | refine sup_ne (by omega) ?_)), (fun j hj_q => by omega), (fun q hq_q => (by repeat (first | exact rfl | exact sup_eq | refine sup_ne (by omega) ?_))), rfl⟩ ?_ ?_
  · rintro i_q lv9 σ n9 hi_q ⟨rfl, c0, c1, c2, cq, rfl⟩ ih_q
    refine go_iload_n (pc := 25) dX1_init_25 rfl ?_
    refine go_bipush (v := 10) (pc := 26) dX1_init_26 (by decide) ?_
    refine go_icmp_ge (tgt := 51) (pc := 28) dX1_init_28 (by decide) (fun h_28 => by exfalso; exact absurd h_28 (nI_ge (b := 10) (by omega) (by decide))) (fun h_28 => ?_)
    refine go_aload_n (pc := 31) dX1_init_31 rfl ?_
    refine go_getf (pc := 32) f_X1_11 dX1_init_32 c0 (by rfl) ?_
    refine go_iload_n (pc := 35) dX1_init_35 rfl ?_
    refine go_new (ci := 5) (fs := df5) (pc := 36) n_X1_9 rfl df5_ok dX1_init_36 (by show 1 + 5 * i_q + 1 ≤ 51; omega) (by show 10 + 51 * i_q + 7 ≤ 520; omega) ?_
    refine go_set (P := fun s => s h_q = some (cO 1 [.ref (h_q + 1), .int 0, .int 0]) ∧ s (h_q + 1) = some (cR Γ 3 10 (fun j => if j < i_q then some (h_q + 2 + 5 * j) else none)) ∧ (∀ j, j < i_q → NeAt Γ s (h_q + 2 + 5 * j) b_q) ∧ s (h_q + 2 + 5 * i_q) = some (cO 5 df5) ∧ ∀ q, (q < h_q ∨ h_q + 51 < q) → s q = z0 q) ⟨(by repeat (first | exact c0 | exact sup_eq | refine sup_ne (by omega) ?_)), (by repeat (first | exact c1 | exact sup_eq | refine sup_ne (by omega) ?_)), fun j hj_q => (c2 j hj_q).kp (fun q x_q y_q => (by repeat (first | exact rfl | exact sup_eq | refine sup_ne (by omega) ?_))), sup_eq, fun q hq_q => (by repeat (first | exact cq q hq_q | exact sup_eq | refine sup_ne (by omega) ?_))⟩ (fun σ hP => ?_)
    obtain ⟨c0, c1, c2, c3, cq⟩ := hP
    refine go_dup (pc := 39) dX1_init_39 rfl ?_
    refine go_aload_n (pc := 40) dX1_init_40 rfl ?_
    refine go_I1V (pc := 41) i_X1_24 rfl rfl dX1_init_41 (hC := ⟨by show 1 + 5 * i_q + 1 + 4 ≤ 51; omega, by show 10 + 51 * i_q + 7 + 44 ≤ 520; omega⟩) (cp_newS (k := k - 1) c3 (by omega)) (fun σ n h_q => ?_)
    obtain ⟨rfl, c3, hq5⟩ := h_q
    have c0 := (hq5 _ (by omega)).trans c0
    have c1 := (hq5 _ (by omega)).trans c1
    have c2 : ∀ j, j < i_q → NeAt Γ σ (h_q + 2 + 5 * j) b_q := fun j hj_q => (c2 j hj_q).kp (fun q x_q y_q => hq5 q (by omega))
    have cq : ∀ q, (q < h_q ∨ h_q + 51 < q) → σ q = z0 q := fun q hq_q => (hq5 q (by omega)).trans (cq q hq_q)
    refine go_aastore (r := (RX5, TX5, 7)) (pc := 44) dX1_init_44 c1 rfl c3.choose_spec.choose_spec.choose_spec.choose_spec.1 rfl (vp_in_nI (n := i_q) (N := 10) (by omega) (by decide)) ?_
    refine go_iinc (v := 1) (lw := [_, _, _]) (pc := 45) dX1_init_45 rfl (by decide) (by decide) rfl ?_
    refine go_goto (tgt := 25) (pc := 48) dX1_init_48 (by decide) ?_
    rw [nI_1]
    refine go_cast (c2 := 1 + 5 * (i_q + 1)) (s2 := 10 + 51 * (i_q + 1)) (by show 1 + 5 * i_q + 1 + 4 = _; omega) (by show 10 + 51 * i_q + 7 + 44 = _; omega) ?_
    refine go_eqR (fun j => if j < i_q + 1 then some (h_q + 2 + 5 * j) else none) sup_eq (fun j hj_q => ?_) ?_
    · rw [nI_clamp (by omega)]
      unfold va_up
      by_cases e9_q : j = i_q
      · subst e9_q; simp
      · have e8_q : (j < i_q + 1) = (j < i_q) := by simp; omega
        simp [e9_q, e8_q]
    exact ih_q _ _ _ ⟨rfl, (by repeat (first | exact c0 | exact sup_eq | refine sup_ne (by omega) ?_)), sup_eq, fun j hj_q => by
      by_cases e9_q : j = i_q
      · rw [e9_q]; exact c3.kp (fun q x_q y_q => (by repeat (first | exact rfl | exact sup_eq | refine sup_ne (by omega) ?_)))
      · exact (c2 j (by omega)).kp (fun q x_q y_q => (by repeat (first | exact rfl | exact sup_eq | refine sup_ne (by omega) ?_))), fun q hq_q => (by repeat (first | exact cq q hq_q | exact sup_eq | refine sup_ne (by omega) ?_)), by omega⟩
  · rintro lv9 σ n9 ⟨rfl, c0, c1, c2, cq, rfl⟩
    refine go_iload_n (pc := 25) dX1_init_25 rfl ?_
    refine go_bipush (v := 10) (pc := 26) dX1_init_26 (by decide) ?_
    refine go_icmp_ge (tgt := 51) (pc := 28) dX1_init_28 (by decide) (fun h_28 => ?_) (fun h_28 => by exfalso; exact h_28 (by decide))
    refine go_eqR (fun i_q => some (h_q + 2 + 5 * i_q)) c1 (fun j hj_q => by rw [if_pos hj_q]) ?_
    exact go_vretV (pc := 51) rfl dX1_init_51 (Nat.le_of_ble_eq_true rfl) (Nat.le_of_ble_eq_true rfl) ⟨rfl, ⟨(by repeat (first | exact c0 | exact sup_eq | refine sup_ne (by omega) ?_)), sup_eq, fun j hj_q => (c2 j hj_q).kp (fun q x_q y_q => (by repeat (first | exact rfl | exact sup_eq | refine sup_ne (by omega) ?_)))⟩, fun q hq_q => (by repeat (first | exact cq q hq_q | exact sup_eq | refine sup_ne (by omega) ?_))⟩
theorem cp_newI {Γ : gam} {z0 : sto} {k x_q b_q : Nat} (ho : z0 x_q = some (cO 2 df2)) (hk : 7 ≤ k) : Sp Γ (rmk k 57 574) uX2_init [.ref x_q, .ref b_q] z0 (x_q + 1) (qV fun σ' n' => n' = x_q + 58 ∧ σ' x_q = some (cO 2 [.ref (x_q + 1), .ref (x_q + 6)]) ∧ NeAt Γ σ' (x_q + 1) b_q ∧ NhAt Γ σ' (x_q + 6) b_q ∧ ∀ q, (q < x_q ∨ x_q + 57 < q) → σ' q = z0 q) := by
  refine sp_intro [some (.ref x_q), some (.ref b_q)] (by decide +kernel) rfl (Nat.le_of_ble_eq_true rfl) rfl ?_
  refine go_aload_n (pc := 0) dX2_init_0 rfl ?_
  refine go_obj (pc := 1) kw6_21 kw1_32 (by exact kw1_33) dX2_init_1 (by show 1 ≤ k; omega) (by show 12 ≤ 40 * k; omega) ?_
  refine go_aload_n (pc := 4) dX2_init_4 rfl ?_
  refine go_new (ci := 5) (fs := df5) (pc := 5) n_X2_7 rfl df5_ok dX2_init_5 (Nat.le_of_ble_eq_true rfl) (Nat.le_of_ble_eq_true rfl) ?_
  refine go_set (P := fun s => s x_q = some (cO 2 df2) ∧ s (x_q + 1) = some (cO 5 df5) ∧ ∀ q, (q < x_q ∨ x_q + 57 < q) → s q = z0 q) ⟨(by repeat (first | exact ho | exact sup_eq | refine sup_ne (by omega) ?_)), sup_eq, fun q hq_q => (by repeat (first | exact rfl | exact sup_eq | refine sup_ne (by omega) ?_))⟩ (fun σ hP => ?_)
  obtain ⟨d0, d1, dq⟩ := hP
  refine go_dup (pc := 8) dX2_init_8 rfl ?_
  refine go_aload_n (pc := 9) dX2_init_9 rfl ?_
  refine go_I1V (pc := 10) i_X2_9 rfl rfl dX2_init_10 (cp_newS (k := k - 1) d1 (by omega)) (fun σ n h_q => ?_)
  obtain ⟨rfl, d1, hq5⟩ := h_q
  have d0 := (hq5 _ (by omega)).trans d0
  have dq : ∀ q, (q < x_q ∨ x_q + 57 < q) → σ q = z0 q := fun q hq_q => (hq5 q (by omega)).trans (dq q hq_q)
  refine go_putF (fs' := [_, _]) (pc := 13) f_X2_12 rfl (by intro K T N h_q; cases h_q; rfl) dX2_init_13 d0 (Nat.le_of_ble_eq_true rfl) (by rfl) rfl rfl ?_
  refine go_aload_n (pc := 16) dX2_init_16 rfl ?_
  refine go_new (ci := 1) (fs := df1) (pc := 17) n_X2_18 rfl df1_ok dX2_init_17 (Nat.le_of_ble_eq_true rfl) (Nat.le_of_ble_eq_true rfl) ?_
  refine go_set (P := fun s => s x_q = some (cO 2 [.ref (x_q + 1), .null]) ∧ NeAt Γ s (x_q + 1) b_q ∧ s (x_q + 6) = some (cO 1 df1) ∧ ∀ q, (q < x_q ∨ x_q + 57 < q) → s q = z0 q) ⟨(by repeat (first | exact rfl | exact sup_eq | refine sup_ne (by omega) ?_)), d1.kp (fun q x_q y_q => (by repeat (first | exact rfl | exact sup_eq | refine sup_ne (by omega) ?_))), sup_eq, fun q hq_q => (by repeat (first | exact dq q hq_q | exact sup_eq | refine sup_ne (by omega) ?_))⟩ (fun σ hP => ?_)
  obtain ⟨d0, d1, d2, dq⟩ := hP
  refine go_dup (pc := 20) dX2_init_20 rfl ?_
  refine go_aload_n (pc := 21) dX2_init_21 rfl ?_
  refine go_I1V (pc := 22) i_X2_20 rfl rfl dX2_init_22 (hC := ⟨by show (0 + 1 + 4 + 1 + 51 : Nat) ≤ 57; decide, by show (0 + 7 + 44 + 3 + 520 : Nat) ≤ 574; decide⟩) (cp_newH (k := k - 1) d2 (by omega)) (fun σ n h_q => ?_)
  obtain ⟨rfl, d2, hq6⟩ := h_q
  have d0 := (hq6 _ (by omega)).trans d0
  have d1 := d1.kp (fun q x_q y_q => hq6 q (by omega))
  have dq : ∀ q, (q < x_q ∨ x_q + 57 < q) → σ q = z0 q := fun q hq_q => (hq6 q (by omega)).trans (dq q hq_q)
  refine go_putF (fs' := [_, _]) (pc := 25) f_X2_21 rfl (by intro K T N h_q; cases h_q; rfl) dX2_init_25 d0 (Nat.le_of_ble_eq_true rfl) (by rfl) rfl rfl ?_
  refine go_cast (c2 := 57) (s2 := 574) (show (0 + 1 + 4 + 1 + 51 : Nat) = 57 from rfl) (show (0 + 7 + 44 + 3 + 520 : Nat) = 574 from rfl) ?_
  exact go_vretV (pc := 28) rfl dX2_init_28 (Nat.le_of_ble_eq_true rfl) (Nat.le_of_ble_eq_true rfl) ⟨rfl, sup_eq, d1.kp (fun q x_q y_q => (by repeat (first | exact rfl | exact sup_eq | refine sup_ne (by omega) ?_))), d2.kp (fun q x_q y_q => (by repeat (first | exact rfl | exact sup_eq | refine sup_ne (by omega) ?_))), fun q hq_q => (by repeat (first | exact dq q hq_q | exact sup_eq | refine sup_ne (by omega) ?_))⟩
