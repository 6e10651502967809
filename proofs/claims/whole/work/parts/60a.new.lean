/-! ===== the class: new trays, beaches, readers ===== -/
theorem go_newT {Γ : gam} {R R' : Room} {Q : qp} {cells slots pc : Nat} {lv : List (Option Value)} {rest : List Value} {σ : sto} {n b_q : Nat} {X : sto → Nat → Prop} (hd_q : decode cX7_init pc = .ok (.invokespecial 85, 3)) (sp : Sp Γ R' uX6_init [.ref b_q] σ n (qV X)) (kk : ∀ σ' n', X σ' n' → Go Γ R uX7_init Q (cells + R'.cells) (slots + R'.slots) (pc + 3) lv rest σ' n') (hR_q : R'.frames + 1 ≤ R.frames ∧ 8 + (1 + 11) + R'.locals ≤ R.locals) (hC : cells + R'.cells ≤ R.cells ∧ slots + R'.slots ≤ R.slots) (hst : (rest.map fun v_q => v_q.category).sum ≤ 8) : Go Γ R uX7_init Q cells slots pc lv (.ref b_q :: rest) σ n := by
  refine go_ranP (R' := R') (Q' := qV X) (As := [.ref b_q]) (rest := rest) ?_ (fun r_q σ' n' h_q => ?_)
  · intro p e_q s m args below meth c_q H locs ls C W0 L0
    obtain ⟨⟨hx_q, hb_q, hml, hown, hts⟩, hr_q, hlk, hnm, htb, htr, hK, hlo⟩ := id C
    exact va_runIN (Ts := tb) (own := RX7) (As := []) ⟨hx_q, hb_q, hml, hown, hts⟩ (sp_met sp (fun E σ n h_q => by cases h_q.1)) ⟨va_cnB (bytes := cX6_init) (maxL := 1) (ret := none) (ws' := tb) 0 hts (gi_tb kw1_211) rfl rfl rfl hK.2.2.2.2.2.2.2.2.2 (hts _ kw1_7) ⟨by decide +kernel, by decide +kernel, by decide +kernel⟩ hR_q, rfl, hts _ kw1_210⟩ ⟨fb_Pc, fun U hU hW => ⟨rfl, by rw [hU]; exact W0, hK.warm hW, htr⟩⟩ rfl rfl L0.1 rfl (lv_room hst) hd_q hC
  · obtain ⟨e_q, h_q⟩ := h_q
    cases e_q
    exact kk σ' n' h_q
theorem cp_newT {Γ : gam} {z0 : sto} {k x_q : Nat} (ho : z0 x_q = some (cO 6 df6)) (hk : 1 ≤ k) : Sp Γ (rmk k 1 30) uX6_init [.ref x_q] z0 (x_q + 1) (qV fun σ' n' => n' = x_q + 2 ∧ σ' x_q = some (cO 6 [.int (-1), .int 0, .ref (x_q + 1)]) ∧ σ' (x_q + 1) = some (cJ Γ 30 (fun _ => 0)) ∧ ∀ q, (q < x_q ∨ x_q + 1 < q) → σ' q = z0 q) := by
  refine sp_intro [some (.ref x_q)] (by decide +kernel) rfl (Nat.le_of_ble_eq_true rfl) rfl ?_
  refine go_aload_n (pc := 0) dX6_init_0 rfl ?_
  refine go_obj (pc := 1) kw1_212 kw1_32 (by exact kw1_33) dX6_init_1 (by show 1 ≤ k; omega) (by show 12 ≤ 40 * k; omega) ?_
  refine go_aload_n (pc := 4) dX6_init_4 rfl ?_
  refine go_iconst (v := -1) (pc := 5) dX6_init_5 (by decide) ?_
  refine go_putf (fs' := [_, _, _]) (pc := 6) f_X6_9 dX6_init_6 (by repeat (first | exact ho | exact sup_eq | refine sup_ne (by omega) ?_)) (Nat.le_of_ble_eq_true rfl) (by rfl) rfl rfl ?_
  refine go_aload_n (pc := 9) dX6_init_9 rfl ?_
  refine go_iconst (v := 0) (pc := 10) dX6_init_10 (by decide) ?_
  refine go_putf (fs' := [_, _, _]) (pc := 11) f_X6_15 dX6_init_11 (by repeat (first | exact ho | exact sup_eq | refine sup_ne (by omega) ?_)) (Nat.le_of_ble_eq_true rfl) (by rfl) rfl rfl ?_
  refine go_aload_n (pc := 14) dX6_init_14 rfl ?_
  refine go_bipush (v := 30) (pc := 15) dX6_init_15 (by decide) ?_
  refine go_newJ (pc := 17) dX6_init_17 (by decide) rfl (by decide) (Nat.le_of_ble_eq_true rfl) (Nat.le_of_ble_eq_true rfl) ?_
  refine go_putF (fs' := [_, _, _]) (pc := 19) f_X6_18 rfl (by intro K T N h_q; cases h_q; rfl) dX6_init_19 (by repeat (first | exact ho | exact sup_eq | refine sup_ne (by omega) ?_)) (Nat.le_of_ble_eq_true rfl) (by rfl) rfl rfl ?_
  exact go_vretV (pc := 22) rfl dX6_init_22 (Nat.le_of_ble_eq_true rfl) (Nat.le_of_ble_eq_true rfl) ⟨rfl, sup_eq, (by repeat (first | exact rfl | exact sup_eq | refine sup_ne (by omega) ?_)), fun q hq_q => (by repeat (first | exact rfl | exact sup_eq | refine sup_ne (by omega) ?_))⟩
theorem cp_newB {Γ : gam} {z0 : sto} {k x_q : Nat} (ho : z0 x_q = some (cO 0 df0)) (hk : 3 ≤ k) : Sp Γ (rmk k 3 24) uX0_init [.ref x_q] z0 (x_q + 1) (qV fun σ' n' => n' = x_q + 4 ∧ σ' x_q = some (cO 0 [.int 1, .int 1, .int 0, .int 0, .int 0, .ref (x_q + 1), .ref (x_q + 2), .ref (x_q + 3), .null, .null, .null]) ∧ σ' (x_q + 1) = some (cI Γ 8 (fun _ => 0)) ∧ (∃ f_q, σ' (x_q + 2) = some (cI Γ 8 f_q) ∧ ∀ j, j < 8 → f_q j = -1) ∧ (∃ f_q, σ' (x_q + 3) = some (cI Γ 8 f_q) ∧ ∀ j, j < 8 → f_q j = -1) ∧ ∀ q, (q < x_q ∨ x_q + 3 < q) → σ' q = z0 q) := by
  refine sp_intro [some (.ref x_q)] (by decide +kernel) rfl (Nat.le_of_ble_eq_true rfl) rfl ?_
  refine go_aload_n (pc := 0) dX0_init_0 rfl ?_
  refine go_obj (pc := 1) kw1_45 kw1_32 (by exact kw1_33) dX0_init_1 (by show 1 ≤ k; omega) (by show 12 ≤ 40 * k; omega) ?_
  refine go_aload_n (pc := 4) dX0_init_4 rfl ?_
  refine go_iconst (v := 1) (pc := 5) dX0_init_5 (by decide) ?_
  refine go_putf (fs' := [_, _, _, _, _, _, _, _, _, _, _]) (pc := 6) f_X0_9 dX0_init_6 (by repeat (first | exact ho | exact sup_eq | refine sup_ne (by omega) ?_)) (Nat.le_of_ble_eq_true rfl) (by rfl) rfl rfl ?_
  refine go_aload_n (pc := 9) dX0_init_9 rfl ?_
  refine go_iconst (v := 1) (pc := 10) dX0_init_10 (by decide) ?_
  refine go_putf (fs' := [_, _, _, _, _, _, _, _, _, _, _]) (pc := 11) f_X0_15 dX0_init_11 (by repeat (first | exact ho | exact sup_eq | refine sup_ne (by omega) ?_)) (Nat.le_of_ble_eq_true rfl) (by rfl) rfl rfl ?_
  refine go_aload_n (pc := 14) dX0_init_14 rfl ?_
  refine go_iconst (v := 0) (pc := 15) dX0_init_15 (by decide) ?_
  refine go_putf (fs' := [_, _, _, _, _, _, _, _, _, _, _]) (pc := 16) f_X0_18 dX0_init_16 (by repeat (first | exact ho | exact sup_eq | refine sup_ne (by omega) ?_)) (Nat.le_of_ble_eq_true rfl) (by rfl) rfl rfl ?_
  refine go_aload_n (pc := 19) dX0_init_19 rfl ?_
  refine go_iconst (v := 0) (pc := 20) dX0_init_20 (by decide) ?_
  refine go_putf (fs' := [_, _, _, _, _, _, _, _, _, _, _]) (pc := 21) f_X0_21 dX0_init_21 (by repeat (first | exact ho | exact sup_eq | refine sup_ne (by omega) ?_)) (Nat.le_of_ble_eq_true rfl) (by rfl) rfl rfl ?_
  refine go_aload_n (pc := 24) dX0_init_24 rfl ?_
  refine go_iconst (v := 0) (pc := 25) dX0_init_25 (by decide) ?_
  refine go_putf (fs' := [_, _, _, _, _, _, _, _, _, _, _]) (pc := 26) f_X0_24 dX0_init_26 (by repeat (first | exact ho | exact sup_eq | refine sup_ne (by omega) ?_)) (Nat.le_of_ble_eq_true rfl) (by rfl) rfl rfl ?_
  refine go_aload_n (pc := 29) dX0_init_29 rfl ?_
  refine go_bipush (v := 8) (pc := 30) dX0_init_30 (by decide) ?_
  refine go_newI (pc := 32) dX0_init_32 (by decide) rfl (by decide) (Nat.le_of_ble_eq_true rfl) (Nat.le_of_ble_eq_true rfl) ?_
  refine go_putF (fs' := [_, _, _, _, _, _, _, _, _, _, _]) (pc := 34) f_X0_27 rfl (by intro K T N h_q; cases h_q; rfl) dX0_init_34 (by repeat (first | exact ho | exact sup_eq | refine sup_ne (by omega) ?_)) (Nat.le_of_ble_eq_true rfl) (by rfl) rfl rfl ?_
  refine go_aload_n (pc := 37) dX0_init_37 rfl ?_
  refine go_bipush (v := 8) (pc := 38) dX0_init_38 (by decide) ?_
  refine go_newI (pc := 40) dX0_init_40 (by decide) rfl (by decide) (Nat.le_of_ble_eq_true rfl) (Nat.le_of_ble_eq_true rfl) ?_
  refine go_putF (fs' := [_, _, _, _, _, _, _, _, _, _, _]) (pc := 42) f_X0_31 rfl (by intro K T N h_q; cases h_q; rfl) dX0_init_42 (by repeat (first | exact ho | exact sup_eq | refine sup_ne (by omega) ?_)) (Nat.le_of_ble_eq_true rfl) (by rfl) rfl rfl ?_
  refine go_aload_n (pc := 45) dX0_init_45 rfl ?_
  refine go_bipush (v := 8) (pc := 46) dX0_init_46 (by decide) ?_
  refine go_newI (pc := 48) dX0_init_48 (by decide) rfl (by decide) (Nat.le_of_ble_eq_true rfl) (Nat.le_of_ble_eq_true rfl) ?_
  refine go_putF (fs' := [_, _, _, _, _, _, _, _, _, _, _]) (pc := 50) f_X0_34 rfl (by intro K T N h_q; cases h_q; rfl) dX0_init_50 (by repeat (first | exact ho | exact sup_eq | refine sup_ne (by omega) ?_)) (Nat.le_of_ble_eq_true rfl) (by rfl) rfl rfl ?_
  refine go_aload_n (pc := 53) dX0_init_53 rfl ?_
  refine go_null (pc := 54) dX0_init_54 ?_
  refine go_putf (fs' := [_, _, _, _, _, _, _, _, _, _, _]) (pc := 55) f_X0_37 dX0_init_55 (by repeat (first | exact ho | exact sup_eq | refine sup_ne (by omega) ?_)) (Nat.le_of_ble_eq_true rfl) (by rfl) rfl rfl ?_
  refine go_aload_n (pc := 58) dX0_init_58 rfl ?_
  refine go_null (pc := 59) dX0_init_59 ?_
  refine go_putf (fs' := [_, _, _, _, _, _, _, _, _, _, _]) (pc := 60) f_X0_41 dX0_init_60 (by repeat (first | exact ho | exact sup_eq | refine sup_ne (by omega) ?_)) (Nat.le_of_ble_eq_true rfl) (by rfl) rfl rfl ?_
  refine go_aload_n (pc := 63) dX0_init_63 rfl ?_
  refine go_null (pc := 64) dX0_init_64 ?_
  refine go_putf (fs' := [_, _, _, _, _, _, _, _, _, _, _]) (pc := 65) f_X0_44 dX0_init_65 (by repeat (first | exact ho | exact sup_eq | refine sup_ne (by omega) ?_)) (Nat.le_of_ble_eq_true rfl) (by rfl) rfl rfl ?_
  refine go_set (P := fun s => s x_q = some (cO 0 [.int 1, .int 1, .int 0, .int 0, .int 0, .ref (x_q + 1), .ref (x_q + 2), .ref (x_q + 3), .null, .null, .null]) ∧ s (x_q + 1) = some (cI Γ 8 (fun _ => 0)) ∧ s (x_q + 2) = some (cI Γ 8 (fun _ => 0)) ∧ s (x_q + 3) = some (cI Γ 8 (fun _ => 0)) ∧ ∀ q, (q < x_q ∨ x_q + 3 < q) → s q = z0 q) ⟨sup_eq, (by repeat (first | exact rfl | exact sup_eq | refine sup_ne (by omega) ?_)), (by repeat (first | exact rfl | exact sup_eq | refine sup_ne (by omega) ?_)), (by repeat (first | exact rfl | exact sup_eq | refine sup_ne (by omega) ?_)), fun q hq_q => (by repeat (first | exact rfl | exact sup_eq | refine sup_ne (by omega) ?_))⟩ (fun σ hP => ?_)
  obtain ⟨c0, c1, c2, c3, cq⟩ := hP
  refine go_aload_n (pc := 68) dX0_init_68 rfl ?_
  refine go_getf (pc := 69) f_X0_31 dX0_init_69 c0 (by rfl) ?_
  refine go_iconst (v := -1) (pc := 72) dX0_init_72 (by decide) ?_
  refine go_S2V (pc := 73) s_X0_47 rfl rfl dX0_init_73 (cp_fillI (k := k - 1) c2 (by decide) _) (fun σ n h_q => ?_)
  obtain ⟨rfl, ⟨f2, c2, z2⟩, hq2⟩ := h_q
  have c0 := (hq2 _ (by omega)).trans c0
  have c1 := (hq2 _ (by omega)).trans c1
  have c3 := (hq2 _ (by omega)).trans c3
  refine go_aload_n (pc := 76) dX0_init_76 rfl ?_
  refine go_getf (pc := 77) f_X0_34 dX0_init_77 c0 (by rfl) ?_
  refine go_iconst (v := -1) (pc := 80) dX0_init_80 (by decide) ?_
  refine go_S2V (pc := 81) s_X0_47 rfl rfl dX0_init_81 (cp_fillI (k := k - 1) c3 (by decide) _) (fun σ n h_q => ?_)
  obtain ⟨rfl, ⟨f3, c3, z3⟩, hq3⟩ := h_q
  have c0 := (hq3 _ (by omega)).trans c0
  have c1 := (hq3 _ (by omega)).trans c1
  have c2 := (hq3 _ (by omega)).trans c2
  exact go_vretV (pc := 84) rfl dX0_init_84 (Nat.le_of_ble_eq_true rfl) (Nat.le_of_ble_eq_true rfl) ⟨rfl, c0, c1, ⟨_, c2, z2⟩, ⟨_, c3, z3⟩, fun q hq_q => (hq3 q (by omega)).trans ((hq2 q (by omega)).trans (cq q hq_q))⟩
theorem cp_newR {Γ : gam} {z0 : sto} {n k x_q m b_q : Nat} {v1 v2 v3 v4 v5 v6 : Value} (ho : z0 x_q = some (cO 4 df4)) (hm_q : z0 m = some (cO 5 [v1, v2, v3, v4, .ref b_q, v5, v6])) (hx_q : x_q < n) (hm0 : m < n) (hmx : m ≠ x_q) (hk : 1 ≤ k) : Sp Γ (rmk k 4 3603) uX4_init [.ref x_q, .ref m] z0 (n) (qV fun σ' n' => n' = n + 4 ∧ σ' x_q = some (cO 4 [.ref n, .ref (n + 1), .ref (n + 2), .ref (n + 3), .int 0, .int 0, .int 0, .int 8, .ref b_q, .ref m, .int 0, .int (-1)]) ∧ σ' n = some (cI Γ 901 (fun _ => 0)) ∧ σ' (n + 1) = some (cI Γ 901 (fun _ => 0)) ∧ σ' (n + 2) = some (cI Γ 901 (fun _ => 0)) ∧ σ' (n + 3) = some (cI Γ 900 (fun _ => 0)) ∧ ∀ q, q ≠ x_q → (q < n ∨ n + 3 < q) → σ' q = z0 q) := by
  refine sp_intro [some (.ref x_q), some (.ref m)] (by decide +kernel) rfl (Nat.le_of_ble_eq_true rfl) rfl ?_
  refine go_aload_n (pc := 0) dX4_init_0 rfl ?_
  refine go_obj (pc := 1) kw1_167 kw1_32 (by exact kw1_33) dX4_init_1 (by show 1 ≤ k; omega) (by show 12 ≤ 40 * k; omega) ?_
  refine go_aload_n (pc := 4) dX4_init_4 rfl ?_
  refine go_sipush (v := 901) (pc := 5) dX4_init_5 (by decide) ?_
  refine go_newI (pc := 8) dX4_init_8 (by decide) rfl (by decide) (Nat.le_of_ble_eq_true rfl) (Nat.le_of_ble_eq_true rfl) ?_
  refine go_putF (fs' := [_, _, _, _, _, _, _, _, _, _, _, _]) (pc := 10) f_X4_9 rfl (by intro K T N h_q; cases h_q; rfl) dX4_init_10 (by repeat (first | exact ho | exact hm_q | exact sup_eq | refine sup_ne (by omega) ?_)) (Nat.le_of_ble_eq_true rfl) (by rfl) rfl rfl ?_
  refine go_aload_n (pc := 13) dX4_init_13 rfl ?_
  refine go_sipush (v := 901) (pc := 14) dX4_init_14 (by decide) ?_
  refine go_newI (pc := 17) dX4_init_17 (by decide) rfl (by decide) (Nat.le_of_ble_eq_true rfl) (Nat.le_of_ble_eq_true rfl) ?_
  refine go_putF (fs' := [_, _, _, _, _, _, _, _, _, _, _, _]) (pc := 19) f_X4_15 rfl (by intro K T N h_q; cases h_q; rfl) dX4_init_19 (by repeat (first | exact ho | exact hm_q | exact sup_eq | refine sup_ne (by omega) ?_)) (Nat.le_of_ble_eq_true rfl) (by rfl) rfl rfl ?_
  refine go_aload_n (pc := 22) dX4_init_22 rfl ?_
  refine go_sipush (v := 901) (pc := 23) dX4_init_23 (by decide) ?_
  refine go_newI (pc := 26) dX4_init_26 (by decide) rfl (by decide) (Nat.le_of_ble_eq_true rfl) (Nat.le_of_ble_eq_true rfl) ?_
  refine go_putF (fs' := [_, _, _, _, _, _, _, _, _, _, _, _]) (pc := 28) f_X4_18 rfl (by intro K T N h_q; cases h_q; rfl) dX4_init_28 (by repeat (first | exact ho | exact hm_q | exact sup_eq | refine sup_ne (by omega) ?_)) (Nat.le_of_ble_eq_true rfl) (by rfl) rfl rfl ?_
  refine go_aload_n (pc := 31) dX4_init_31 rfl ?_
  refine go_sipush (v := 900) (pc := 32) dX4_init_32 (by decide) ?_
  refine go_newI (pc := 35) dX4_init_35 (by decide) rfl (by decide) (Nat.le_of_ble_eq_true rfl) (Nat.le_of_ble_eq_true rfl) ?_
  refine go_putF (fs' := [_, _, _, _, _, _, _, _, _, _, _, _]) (pc := 37) f_X4_21 rfl (by intro K T N h_q; cases h_q; rfl) dX4_init_37 (by repeat (first | exact ho | exact hm_q | exact sup_eq | refine sup_ne (by omega) ?_)) (Nat.le_of_ble_eq_true rfl) (by rfl) rfl rfl ?_
  refine go_aload_n (pc := 40) dX4_init_40 rfl ?_
  refine go_iconst (v := 0) (pc := 41) dX4_init_41 (by decide) ?_
  refine go_putf (fs' := [_, _, _, _, _, _, _, _, _, _, _, _]) (pc := 42) f_X4_24 dX4_init_42 (by repeat (first | exact ho | exact hm_q | exact sup_eq | refine sup_ne (by omega) ?_)) (Nat.le_of_ble_eq_true rfl) (by rfl) rfl rfl ?_
  refine go_aload_n (pc := 45) dX4_init_45 rfl ?_
  refine go_iconst (v := 0) (pc := 46) dX4_init_46 (by decide) ?_
  refine go_putf (fs' := [_, _, _, _, _, _, _, _, _, _, _, _]) (pc := 47) f_X4_28 dX4_init_47 (by repeat (first | exact ho | exact hm_q | exact sup_eq | refine sup_ne (by omega) ?_)) (Nat.le_of_ble_eq_true rfl) (by rfl) rfl rfl ?_
  refine go_aload_n (pc := 50) dX4_init_50 rfl ?_
  refine go_iconst (v := 0) (pc := 51) dX4_init_51 (by decide) ?_
  refine go_putf (fs' := [_, _, _, _, _, _, _, _, _, _, _, _]) (pc := 52) f_X4_31 dX4_init_52 (by repeat (first | exact ho | exact hm_q | exact sup_eq | refine sup_ne (by omega) ?_)) (Nat.le_of_ble_eq_true rfl) (by rfl) rfl rfl ?_
  refine go_aload_n (pc := 55) dX4_init_55 rfl ?_
  refine go_bipush (v := 8) (pc := 56) dX4_init_56 (by decide) ?_
  refine go_putf (fs' := [_, _, _, _, _, _, _, _, _, _, _, _]) (pc := 58) f_X4_34 dX4_init_58 (by repeat (first | exact ho | exact hm_q | exact sup_eq | refine sup_ne (by omega) ?_)) (Nat.le_of_ble_eq_true rfl) (by rfl) rfl rfl ?_
  refine go_aload_n (pc := 61) dX4_init_61 rfl ?_
  refine go_iconst (v := 0) (pc := 62) dX4_init_62 (by decide) ?_
  refine go_putf (fs' := [_, _, _, _, _, _, _, _, _, _, _, _]) (pc := 63) f_X4_37 dX4_init_63 (by repeat (first | exact ho | exact hm_q | exact sup_eq | refine sup_ne (by omega) ?_)) (Nat.le_of_ble_eq_true rfl) (by rfl) rfl rfl ?_
  refine go_aload_n (pc := 66) dX4_init_66 rfl ?_
  refine go_iconst (v := -1) (pc := 67) dX4_init_67 (by decide) ?_
  refine go_putf (fs' := [_, _, _, _, _, _, _, _, _, _, _, _]) (pc := 68) f_X4_40 dX4_init_68 (by repeat (first | exact ho | exact hm_q | exact sup_eq | refine sup_ne (by omega) ?_)) (Nat.le_of_ble_eq_true rfl) (by rfl) rfl rfl ?_
  refine go_aload_n (pc := 71) dX4_init_71 rfl ?_
  refine go_aload_n (pc := 72) dX4_init_72 rfl ?_
  refine go_putF (fs' := [_, _, _, _, _, _, _, _, _, _, _, _]) (pc := 73) f_X4_43 rfl (by intro K T N h_q; cases h_q; rfl) dX4_init_73 (by repeat (first | exact ho | exact hm_q | exact sup_eq | refine sup_ne (by omega) ?_)) (Nat.le_of_ble_eq_true rfl) (by rfl) rfl rfl ?_
  refine go_aload_n (pc := 76) dX4_init_76 rfl ?_
  refine go_aload_n (pc := 77) dX4_init_77 rfl ?_
  refine go_getf (pc := 78) f_X4_47 dX4_init_78 (by repeat (first | exact ho | exact hm_q | exact sup_eq | refine sup_ne (by omega) ?_)) (by rfl) ?_
  refine go_putf (fs' := [_, _, _, _, _, _, _, _, _, _, _, _]) (pc := 81) f_X4_53 dX4_init_81 (by repeat (first | exact ho | exact hm_q | exact sup_eq | refine sup_ne (by omega) ?_)) (Nat.le_of_ble_eq_true rfl) (by rfl) rfl rfl ?_
  exact go_vretV (pc := 84) rfl dX4_init_84 (Nat.le_of_ble_eq_true rfl) (Nat.le_of_ble_eq_true rfl) ⟨rfl, sup_eq, (by repeat (first | exact rfl | exact sup_eq | refine sup_ne (by omega) ?_)), (by repeat (first | exact rfl | exact sup_eq | refine sup_ne (by omega) ?_)), (by repeat (first | exact rfl | exact sup_eq | refine sup_ne (by omega) ?_)), (by repeat (first | exact rfl | exact sup_eq | refine sup_ne (by omega) ?_)), fun q h1_q h2_q => (by repeat (first | exact rfl | exact sup_eq | refine sup_ne (by omega) ?_))⟩
