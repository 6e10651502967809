/-! ===== the class: its constructor ===== -/
theorem cp_newF {Γ : gam} {z0 : sto} {k a : Nat} (ho : z0 a = some (cO 7 df7)) (hk : 8 ≤ k) : Sp Γ (rmk k 113 5899) uX7_init [.ref a] z0 (a + 1) (qV fun σ' n' => n' = a + 114 ∧ FcN Γ σ' a ∧ ∀ q, (q < a ∨ a + 113 < q) → σ' q = z0 q) := by
  refine sp_intro [some (.ref a), none, none] (by decide +kernel) rfl (Nat.le_of_ble_eq_true rfl) rfl ?_
  refine go_aload_n (pc := 0) dX7_init_0 rfl ?_
  refine go_obj (pc := 1) kw1_31 kw1_32 (by exact kw1_33) dX7_init_1 (by show 1 ≤ k; omega) (by show 12 ≤ 40 * k; omega) ?_
  refine go_aload_n (pc := 4) dX7_init_4 rfl ?_
  refine go_sipush (v := 900) (pc := 5) dX7_init_5 (by decide) ?_
  refine go_newI (pc := 8) dX7_init_8 (by decide) rfl (by decide) (Nat.le_of_ble_eq_true rfl) (Nat.le_of_ble_eq_true rfl) ?_
  refine go_putF (fs' := [_, _, _, _, _, _, _, _, _, _, _, _, _, _, _, _]) (pc := 10) f_X7_9 rfl (by intro K T N h_q; cases h_q; rfl) dX7_init_10 (by repeat (first | exact ho | exact sup_eq | refine sup_ne (by omega) ?_)) (Nat.le_of_ble_eq_true rfl) (by rfl) rfl rfl ?_
  refine go_aload_n (pc := 13) dX7_init_13 rfl ?_
  refine go_iconst (v := 0) (pc := 14) dX7_init_14 (by decide) ?_
  refine go_putf (fs' := [_, _, _, _, _, _, _, _, _, _, _, _, _, _, _, _]) (pc := 15) f_X7_13 dX7_init_15 (by repeat (first | exact ho | exact sup_eq | refine sup_ne (by omega) ?_)) (Nat.le_of_ble_eq_true rfl) (by rfl) rfl rfl ?_
  refine go_aload_n (pc := 18) dX7_init_18 rfl ?_
  refine go_iconst (v := 0) (pc := 19) dX7_init_19 (by decide) ?_
  refine go_putf (fs' := [_, _, _, _, _, _, _, _, _, _, _, _, _, _, _, _]) (pc := 20) f_X7_17 dX7_init_20 (by repeat (first | exact ho | exact sup_eq | refine sup_ne (by omega) ?_)) (Nat.le_of_ble_eq_true rfl) (by rfl) rfl rfl ?_
  refine go_aload_n (pc := 23) dX7_init_23 rfl ?_
  refine go_iconst (v := -1) (pc := 24) dX7_init_24 (by decide) ?_
  refine go_putf (fs' := [_, _, _, _, _, _, _, _, _, _, _, _, _, _, _, _]) (pc := 25) f_X7_20 dX7_init_25 (by repeat (first | exact ho | exact sup_eq | refine sup_ne (by omega) ?_)) (Nat.le_of_ble_eq_true rfl) (by rfl) rfl rfl ?_
  refine go_aload_n (pc := 28) dX7_init_28 rfl ?_
  refine go_iconst (v := 4) (pc := 29) dX7_init_29 (by decide) ?_
  refine go_newQ (k := 4) (pc := 30) kw1_34 rfl (fun U hK => hK.2.2.2.2.2.2.2.1) dX7_init_30 (by decide) rfl (by decide) (Nat.le_of_ble_eq_true rfl) (Nat.le_of_ble_eq_true rfl) ?_
  refine go_putF (fs' := [_, _, _, _, _, _, _, _, _, _, _, _, _, _, _, _]) (pc := 33) f_X7_25 rfl (by intro K T N h_q; cases h_q; rfl) dX7_init_33 (by repeat (first | exact ho | exact sup_eq | refine sup_ne (by omega) ?_)) (Nat.le_of_ble_eq_true rfl) (by rfl) rfl rfl ?_
  refine go_aload_n (pc := 36) dX7_init_36 rfl ?_
  refine go_iconst (v := 3) (pc := 37) dX7_init_37 (by decide) ?_
  refine go_newQ (k := 5) (pc := 38) kw1_36 rfl (fun U hK => hK.2.2.2.2.2.2.2.2.1) dX7_init_38 (by decide) rfl (by decide) (Nat.le_of_ble_eq_true rfl) (Nat.le_of_ble_eq_true rfl) ?_
  refine go_putF (fs' := [_, _, _, _, _, _, _, _, _, _, _, _, _, _, _, _]) (pc := 41) f_X7_31 rfl (by intro K T N h_q; cases h_q; rfl) dX7_init_41 (by repeat (first | exact ho | exact sup_eq | refine sup_ne (by omega) ?_)) (Nat.le_of_ble_eq_true rfl) (by rfl) rfl rfl ?_
  refine go_aload_n (pc := 44) dX7_init_44 rfl ?_
  refine go_iconst (v := 5) (pc := 45) dX7_init_45 (by decide) ?_
  refine go_newQ (k := 3) (pc := 46) kw1_38 rfl (fun U hK => hK.2.2.2.2.2.2.1) dX7_init_46 (by decide) rfl (by decide) (Nat.le_of_ble_eq_true rfl) (Nat.le_of_ble_eq_true rfl) ?_
  refine go_putF (fs' := [_, _, _, _, _, _, _, _, _, _, _, _, _, _, _, _]) (pc := 49) f_X7_37 rfl (by intro K T N h_q; cases h_q; rfl) dX7_init_49 (by repeat (first | exact ho | exact sup_eq | refine sup_ne (by omega) ?_)) (Nat.le_of_ble_eq_true rfl) (by rfl) rfl rfl ?_
  refine go_aload_n (pc := 52) dX7_init_52 rfl ?_
  refine go_iconst (v := 5) (pc := 53) dX7_init_53 (by decide) ?_
  refine go_newI (pc := 54) dX7_init_54 (by decide) rfl (by decide) (Nat.le_of_ble_eq_true rfl) (Nat.le_of_ble_eq_true rfl) ?_
  refine go_putF (fs' := [_, _, _, _, _, _, _, _, _, _, _, _, _, _, _, _]) (pc := 56) f_X7_41 rfl (by intro K T N h_q; cases h_q; rfl) dX7_init_56 (by repeat (first | exact ho | exact sup_eq | refine sup_ne (by omega) ?_)) (Nat.le_of_ble_eq_true rfl) (by rfl) rfl rfl ?_
  refine go_aload_n (pc := 59) dX7_init_59 rfl ?_
  refine go_bipush (v := 8) (pc := 60) dX7_init_60 (by decide) ?_
  refine go_newI (pc := 62) dX7_init_62 (by decide) rfl (by decide) (Nat.le_of_ble_eq_true rfl) (Nat.le_of_ble_eq_true rfl) ?_
  refine go_putF (fs' := [_, _, _, _, _, _, _, _, _, _, _, _, _, _, _, _]) (pc := 64) f_X7_44 rfl (by intro K T N h_q; cases h_q; rfl) dX7_init_64 (by repeat (first | exact ho | exact sup_eq | refine sup_ne (by omega) ?_)) (Nat.le_of_ble_eq_true rfl) (by rfl) rfl rfl ?_
  refine go_aload_n (pc := 67) dX7_init_67 rfl ?_
  refine go_bipush (v := 60) (pc := 68) dX7_init_68 (by decide) ?_
  refine go_newI (pc := 70) dX7_init_70 (by decide) rfl (by decide) (Nat.le_of_ble_eq_true rfl) (Nat.le_of_ble_eq_true rfl) ?_
  refine go_putF (fs' := [_, _, _, _, _, _, _, _, _, _, _, _, _, _, _, _]) (pc := 72) f_X7_47 rfl (by intro K T N h_q; cases h_q; rfl) dX7_init_72 (by repeat (first | exact ho | exact sup_eq | refine sup_ne (by omega) ?_)) (Nat.le_of_ble_eq_true rfl) (by rfl) rfl rfl ?_
  refine go_aload_n (pc := 75) dX7_init_75 rfl ?_
  refine go_bipush (v := 28) (pc := 76) dX7_init_76 (by decide) ?_
  refine go_newI (pc := 78) dX7_init_78 (by decide) rfl (by decide) (Nat.le_of_ble_eq_true rfl) (Nat.le_of_ble_eq_true rfl) ?_
  refine go_putF (fs' := [_, _, _, _, _, _, _, _, _, _, _, _, _, _, _, _]) (pc := 80) f_X7_50 rfl (by intro K T N h_q; cases h_q; rfl) dX7_init_80 (by repeat (first | exact ho | exact sup_eq | refine sup_ne (by omega) ?_)) (Nat.le_of_ble_eq_true rfl) (by rfl) rfl rfl ?_
  refine go_aload_n (pc := 83) dX7_init_83 rfl ?_
  refine go_sipush (v := 224) (pc := 84) dX7_init_84 (by decide) ?_
  refine go_newI (pc := 87) dX7_init_87 (by decide) rfl (by decide) (Nat.le_of_ble_eq_true rfl) (Nat.le_of_ble_eq_true rfl) ?_
  refine go_putF (fs' := [_, _, _, _, _, _, _, _, _, _, _, _, _, _, _, _]) (pc := 89) f_X7_53 rfl (by intro K T N h_q; cases h_q; rfl) dX7_init_89 (by repeat (first | exact ho | exact sup_eq | refine sup_ne (by omega) ?_)) (Nat.le_of_ble_eq_true rfl) (by rfl) rfl rfl ?_
  refine go_aload_n (pc := 92) dX7_init_92 rfl ?_
  refine go_iconst (v := 0) (pc := 93) dX7_init_93 (by decide) ?_
  refine go_putf (fs' := [_, _, _, _, _, _, _, _, _, _, _, _, _, _, _, _]) (pc := 94) f_X7_56 dX7_init_94 (by repeat (first | exact ho | exact sup_eq | refine sup_ne (by omega) ?_)) (Nat.le_of_ble_eq_true rfl) (by rfl) rfl rfl ?_
  refine go_cast (c2 := 9) (s2 := 1237) rfl rfl ?_
  refine go_set (P := fun s => (FcA Γ s a .null .null .null (fun _ => none) (fun _ => none)) ∧ ∀ q, (q < a ∨ a + 113 < q) → s q = z0 q) ⟨⟨sup_eq, (by repeat (first | exact rfl | exact sup_eq | refine sup_ne (by omega) ?_)), (by repeat (first | exact rfl | exact sup_eq | refine sup_ne (by omega) ?_)), (by repeat (first | exact rfl | exact sup_eq | refine sup_ne (by omega) ?_)), (by repeat (first | exact rfl | exact sup_eq | refine sup_ne (by omega) ?_)), (by repeat (first | exact rfl | exact sup_eq | refine sup_ne (by omega) ?_)), (by repeat (first | exact rfl | exact sup_eq | refine sup_ne (by omega) ?_)), (by repeat (first | exact rfl | exact sup_eq | refine sup_ne (by omega) ?_)), (by repeat (first | exact rfl | exact sup_eq | refine sup_ne (by omega) ?_)), (by repeat (first | exact rfl | exact sup_eq | refine sup_ne (by omega) ?_))⟩, fun q hq9 => (by repeat (first | exact rfl | exact sup_eq | refine sup_ne (by omega) ?_))⟩ (fun σ hP => ?_)
  obtain ⟨hA_q, hq_q⟩ := hP
  refine go_new (ci := 0) (fs := df0) (pc := 97) n_X7_59 rfl df0_ok dX7_init_97 (Nat.le_of_ble_eq_true rfl) (Nat.le_of_ble_eq_true rfl) ?_
  refine go_set (P := fun s => (FcA Γ s a .null .null .null (fun _ => none) (fun _ => none)) ∧ (s (a + 10) = some (cO 0 df0)) ∧ (∀ q, (q < a ∨ a + 113 < q) → s q = z0 q)) ⟨hA_q.kp (fun q x_q y_q => (by repeat (first | exact rfl | exact sup_eq | refine sup_ne (by omega) ?_))), sup_eq, fun q hq9 => (by repeat (first | exact hq_q q hq9 | exact sup_eq | refine sup_ne (by omega) ?_))⟩ (fun σ hP => ?_)
  obtain ⟨hA_q, hn, hq_q⟩ := hP
  refine go_dup (pc := 100) dX7_init_100 rfl ?_
  refine go_I0V (pc := 101) i_X7_61 rfl rfl dX7_init_101 (hC := ⟨by show (10 + 3 : Nat) ≤ 113; decide, by show (1248 + 24 : Nat) ≤ 5899; decide⟩) (cp_newB (k := k - 1) hn (by omega)) (fun σ n h_q => ?_)
  obtain ⟨rfl, b0, b1_q, b2, b3, hf9⟩ := h_q
  have hA_q := hA_q.kp (σ1 := σ) (fun q x_q y_q => hf9 q (by omega))
  have hq_q : ∀ q, (q < a ∨ a + 113 < q) → σ q = z0 q := fun q h9_q => (hf9 q (by omega)).trans (hq_q q h9_q)
  have hb_q : NbAt Γ σ (a + 10) := ⟨b0, b1_q, b2, b3⟩
  refine go_cast (c2 := 13) (s2 := 1272) rfl rfl ?_
  refine go_astore_n (lw := [_, _, _]) (pc := 104) dX7_init_104 (by decide) rfl ?_
  refine go_aload_n (pc := 105) dX7_init_105 rfl ?_
  refine go_new (ci := 5) (fs := df5) (pc := 106) n_X7_35 rfl df5_ok dX7_init_106 (Nat.le_of_ble_eq_true rfl) (Nat.le_of_ble_eq_true rfl) ?_
  refine go_set (P := fun s => (FcA Γ s a .null .null .null (fun _ => none) (fun _ => none)) ∧ (NbAt Γ s (a + 10)) ∧ (s (a + 14) = some (cO 5 df5)) ∧ (∀ q, (q < a ∨ a + 113 < q) → s q = z0 q)) ⟨hA_q.kp (fun q x_q y_q => (by repeat (first | exact rfl | exact sup_eq | refine sup_ne (by omega) ?_))), hb_q.kp (fun q x_q y_q => (by repeat (first | exact rfl | exact sup_eq | refine sup_ne (by omega) ?_))), sup_eq, fun q hq9 => (by repeat (first | exact hq_q q hq9 | exact sup_eq | refine sup_ne (by omega) ?_))⟩ (fun σ hP => ?_)
  obtain ⟨hA_q, hb_q, hn, hq_q⟩ := hP
  refine go_dup (pc := 109) dX7_init_109 rfl ?_
  refine go_aload_n (pc := 110) dX7_init_110 rfl ?_
  refine go_I1V (pc := 111) i_X7_62 rfl rfl dX7_init_111 (hC := ⟨by show (14 + 4 : Nat) ≤ 113; decide, by show (1279 + 44 : Nat) ≤ 5899; decide⟩) (cp_newS (k := k - 1) hn (by omega)) (fun σ n h_q => ?_)
  obtain ⟨rfl, hS_q, hf9⟩ := h_q
  have hA_q := hA_q.kp (σ1 := σ) (fun q x_q y_q => hf9 q (by omega))
  have hb_q := hb_q.kp (σ1 := σ) (fun q x_q y_q => hf9 q (by omega))
  have hq_q : ∀ q, (q < a ∨ a + 113 < q) → σ q = z0 q := fun q h9_q => (hf9 q (by omega)).trans (hq_q q h9_q)
  refine go_cast (c2 := 18) (s2 := 1323) rfl rfl ?_
  refine go_putF (fs' := [_, _, _, _, _, _, _, _, _, _, _, _, _, _, _, _]) (pc := 114) f_X7_65 rfl (by intro K T N h_q; cases h_q; rfl) dX7_init_114 hA_q.1 (Nat.le_of_ble_eq_true rfl) (by rfl) rfl rfl ?_
  refine go_set (P := fun s => (FcA Γ s a (.ref (a + 14)) .null .null (fun _ => none) (fun _ => none)) ∧ (NbAt Γ s (a + 10)) ∧ (NeAt Γ s (a + 14) (a + 10)) ∧ (∀ q, (q < a ∨ a + 113 < q) → s q = z0 q)) ⟨hA_q.put (by repeat (first | exact rfl | exact sup_eq | refine sup_ne (by omega) ?_)) (fun q x_q y_q => (by repeat (first | exact rfl | exact sup_eq | refine sup_ne (by omega) ?_))), hb_q.kp (fun q x_q y_q => (by repeat (first | exact rfl | exact sup_eq | refine sup_ne (by omega) ?_))), hS_q.kp (fun q x_q y_q => (by repeat (first | exact rfl | exact sup_eq | refine sup_ne (by omega) ?_))), fun q hq9 => (by repeat (first | exact hq_q q hq9 | exact sup_eq | refine sup_ne (by omega) ?_))⟩ (fun σ hP => ?_)
  obtain ⟨hA_q, hb_q, hS_q, hq_q⟩ := hP
  refine go_aload_n (pc := 117) dX7_init_117 rfl ?_
  refine go_new (ci := 1) (fs := df1) (pc := 118) n_X7_69 rfl df1_ok dX7_init_118 (Nat.le_of_ble_eq_true rfl) (Nat.le_of_ble_eq_true rfl) ?_
  refine go_set (P := fun s => (FcA Γ s a (.ref (a + 14)) .null .null (fun _ => none) (fun _ => none)) ∧ (NbAt Γ s (a + 10)) ∧ (NeAt Γ s (a + 14) (a + 10)) ∧ (s (a + 19) = some (cO 1 df1)) ∧ (∀ q, (q < a ∨ a + 113 < q) → s q = z0 q)) ⟨hA_q.kp (fun q x_q y_q => (by repeat (first | exact rfl | exact sup_eq | refine sup_ne (by omega) ?_))), hb_q.kp (fun q x_q y_q => (by repeat (first | exact rfl | exact sup_eq | refine sup_ne (by omega) ?_))), hS_q.kp (fun q x_q y_q => (by repeat (first | exact rfl | exact sup_eq | refine sup_ne (by omega) ?_))), sup_eq, fun q hq9 => (by repeat (first | exact hq_q q hq9 | exact sup_eq | refine sup_ne (by omega) ?_))⟩ (fun σ hP => ?_)
  obtain ⟨hA_q, hb_q, hS_q, hn, hq_q⟩ := hP
  refine go_dup (pc := 121) dX7_init_121 rfl ?_
  refine go_aload_n (pc := 122) dX7_init_122 rfl ?_
  refine go_I1V (pc := 123) i_X7_71 rfl rfl dX7_init_123 (hC := ⟨by show (19 + 51 : Nat) ≤ 113; decide, by show (1326 + 520 : Nat) ≤ 5899; decide⟩) (cp_newH (k := k - 1) hn (by omega)) (fun σ n h_q => ?_)
  obtain ⟨rfl, hH, hf9⟩ := h_q
  have hA_q := hA_q.kp (σ1 := σ) (fun q x_q y_q => hf9 q (by omega))
  have hb_q := hb_q.kp (σ1 := σ) (fun q x_q y_q => hf9 q (by omega))
  have hS_q := hS_q.kp (σ1 := σ) (fun q x_q y_q => hf9 q (by omega))
  have hq_q : ∀ q, (q < a ∨ a + 113 < q) → σ q = z0 q := fun q h9_q => (hf9 q (by omega)).trans (hq_q q h9_q)
  refine go_cast (c2 := 70) (s2 := 1846) rfl rfl ?_
  refine go_putF (fs' := [_, _, _, _, _, _, _, _, _, _, _, _, _, _, _, _]) (pc := 126) f_X7_72 rfl (by intro K T N h_q; cases h_q; rfl) dX7_init_126 hA_q.1 (Nat.le_of_ble_eq_true rfl) (by rfl) rfl rfl ?_
  refine go_set (P := fun s => (FcA Γ s a (.ref (a + 14)) (.ref (a + 19)) .null (fun _ => none) (fun _ => none)) ∧ (NbAt Γ s (a + 10)) ∧ (NeAt Γ s (a + 14) (a + 10)) ∧ (NhAt Γ s (a + 19) (a + 10)) ∧ (∀ q, (q < a ∨ a + 113 < q) → s q = z0 q)) ⟨hA_q.put (by repeat (first | exact rfl | exact sup_eq | refine sup_ne (by omega) ?_)) (fun q x_q y_q => (by repeat (first | exact rfl | exact sup_eq | refine sup_ne (by omega) ?_))), hb_q.kp (fun q x_q y_q => (by repeat (first | exact rfl | exact sup_eq | refine sup_ne (by omega) ?_))), hS_q.kp (fun q x_q y_q => (by repeat (first | exact rfl | exact sup_eq | refine sup_ne (by omega) ?_))), hH.kp (fun q x_q y_q => (by repeat (first | exact rfl | exact sup_eq | refine sup_ne (by omega) ?_))), fun q hq9 => (by repeat (first | exact hq_q q hq9 | exact sup_eq | refine sup_ne (by omega) ?_))⟩ (fun σ hP => ?_)
  obtain ⟨hA_q, hb_q, hS_q, hH, hq_q⟩ := hP
  refine go_aload_n (pc := 129) dX7_init_129 rfl ?_
  refine go_new (ci := 4) (fs := df4) (pc := 130) n_X7_76 rfl df4_ok dX7_init_130 (Nat.le_of_ble_eq_true rfl) (Nat.le_of_ble_eq_true rfl) ?_
  refine go_set (P := fun s => (FcA Γ s a (.ref (a + 14)) (.ref (a + 19)) .null (fun _ => none) (fun _ => none)) ∧ (NbAt Γ s (a + 10)) ∧ (NeAt Γ s (a + 14) (a + 10)) ∧ (NhAt Γ s (a + 19) (a + 10)) ∧ (s (a + 71) = some (cO 4 df4)) ∧ (∀ q, (q < a ∨ a + 113 < q) → s q = z0 q)) ⟨hA_q.kp (fun q x_q y_q => (by repeat (first | exact rfl | exact sup_eq | refine sup_ne (by omega) ?_))), hb_q.kp (fun q x_q y_q => (by repeat (first | exact rfl | exact sup_eq | refine sup_ne (by omega) ?_))), hS_q.kp (fun q x_q y_q => (by repeat (first | exact rfl | exact sup_eq | refine sup_ne (by omega) ?_))), hH.kp (fun q x_q y_q => (by repeat (first | exact rfl | exact sup_eq | refine sup_ne (by omega) ?_))), sup_eq, fun q hq9 => (by repeat (first | exact hq_q q hq9 | exact sup_eq | refine sup_ne (by omega) ?_))⟩ (fun σ hP => ?_)
  obtain ⟨hA_q, hb_q, hS_q, hH, hn, hq_q⟩ := hP
  refine go_dup (pc := 133) dX7_init_133 rfl ?_
  refine go_new (ci := 5) (fs := df5) (pc := 134) n_X7_35 rfl df5_ok dX7_init_134 (Nat.le_of_ble_eq_true rfl) (Nat.le_of_ble_eq_true rfl) ?_
  refine go_set (P := fun s => (FcA Γ s a (.ref (a + 14)) (.ref (a + 19)) .null (fun _ => none) (fun _ => none)) ∧ (NbAt Γ s (a + 10)) ∧ (NeAt Γ s (a + 14) (a + 10)) ∧ (NhAt Γ s (a + 19) (a + 10)) ∧ (s (a + 71) = some (cO 4 df4)) ∧ (s (a + 72) = some (cO 5 df5)) ∧ (∀ q, (q < a ∨ a + 113 < q) → s q = z0 q)) ⟨hA_q.kp (fun q x_q y_q => (by repeat (first | exact rfl | exact sup_eq | refine sup_ne (by omega) ?_))), hb_q.kp (fun q x_q y_q => (by repeat (first | exact rfl | exact sup_eq | refine sup_ne (by omega) ?_))), hS_q.kp (fun q x_q y_q => (by repeat (first | exact rfl | exact sup_eq | refine sup_ne (by omega) ?_))), hH.kp (fun q x_q y_q => (by repeat (first | exact rfl | exact sup_eq | refine sup_ne (by omega) ?_))), (by repeat (first | exact hn | exact sup_eq | refine sup_ne (by omega) ?_)), sup_eq, fun q hq9 => (by repeat (first | exact hq_q q hq9 | exact sup_eq | refine sup_ne (by omega) ?_))⟩ (fun σ hP => ?_)
  obtain ⟨hA_q, hb_q, hS_q, hH, hn, ht_q, hq_q⟩ := hP
  refine go_dup (pc := 137) dX7_init_137 rfl ?_
  refine go_aload_n (pc := 138) dX7_init_138 rfl ?_
  refine go_I1V (pc := 139) i_X7_62 rfl rfl dX7_init_139 (hC := ⟨by show (72 + 4 : Nat) ≤ 113; decide, by show (1865 + 44 : Nat) ≤ 5899; decide⟩) (cp_newS (k := k - 1) ht_q (by omega)) (fun σ n h_q => ?_)
  obtain ⟨rfl, hm_q, hf9⟩ := h_q
  have hA_q := hA_q.kp (σ1 := σ) (fun q x_q y_q => hf9 q (by omega))
  have hb_q := hb_q.kp (σ1 := σ) (fun q x_q y_q => hf9 q (by omega))
  have hS_q := hS_q.kp (σ1 := σ) (fun q x_q y_q => hf9 q (by omega))
  have hH := hH.kp (σ1 := σ) (fun q x_q y_q => hf9 q (by omega))
  have hq_q : ∀ q, (q < a ∨ a + 113 < q) → σ q = z0 q := fun q h9_q => (hf9 q (by omega)).trans (hq_q q h9_q)
  have hn := (hf9 (a + 71) (by omega)).trans hn
  obtain ⟨mc, mo, mr, mb, m0, m9_q⟩ := hm_q
  have hm_q : NeAt Γ σ (a + 72) (a + 10) := ⟨mc, mo, mr, mb, m0, m9_q⟩
  refine go_cast (c2 := 76) (s2 := 1909) rfl rfl ?_
  refine go_I1V (pc := 142) i_X7_78 rfl rfl dX7_init_142 (hC := ⟨by show (76 + 4 : Nat) ≤ 113; decide, by show (1909 + 3603 : Nat) ≤ 5899; decide⟩) (cp_newR (k := k - 1) hn m0 (by omega) (by omega) (by omega) (by omega)) (fun σ n h_q => ?_)
  obtain ⟨rfl, r0, r1, r2, r3, r4, hf9⟩ := h_q
  have hf9 : ∀ q, (q < a + 71 ∨ (a + 71 < q ∧ q < a + 77) ∨ a + 80 < q) → σ q = _ := fun q h9_q => hf9 q (by omega) (by omega)
  have hA_q := hA_q.kp (σ1 := σ) (fun q x_q y_q => hf9 q (by omega))
  have hb_q := hb_q.kp (σ1 := σ) (fun q x_q y_q => hf9 q (by omega))
  have hS_q := hS_q.kp (σ1 := σ) (fun q x_q y_q => hf9 q (by omega))
  have hH := hH.kp (σ1 := σ) (fun q x_q y_q => hf9 q (by omega))
  have hm_q := hm_q.kp (σ1 := σ) (fun q x_q y_q => hf9 q (by omega))
  have hq_q : ∀ q, (q < a ∨ a + 113 < q) → σ q = z0 q := fun q h9_q => (hf9 q (by omega)).trans (hq_q q h9_q)
  have hr_q : NrAt Γ σ (a + 71) (a + 77) (a + 10) (a + 72) := ⟨r0, r1, r2, r3, r4⟩
  refine go_cast (c2 := 80) (s2 := 5512) rfl rfl ?_
  refine go_putF (fs' := [_, _, _, _, _, _, _, _, _, _, _, _, _, _, _, _]) (pc := 145) f_X7_81 rfl (by intro K T N h_q; cases h_q; rfl) dX7_init_145 hA_q.1 (Nat.le_of_ble_eq_true rfl) (by rfl) rfl rfl ?_
  refine go_set (P := fun s => (FcA Γ s a (.ref (a + 14)) (.ref (a + 19)) (.ref (a + 71)) (fun _ => none) (fun _ => none)) ∧ (NbAt Γ s (a + 10)) ∧ (NeAt Γ s (a + 14) (a + 10)) ∧ (NhAt Γ s (a + 19) (a + 10)) ∧ (NeAt Γ s (a + 72) (a + 10)) ∧ (NrAt Γ s (a + 71) (a + 77) (a + 10) (a + 72)) ∧ (∀ q, (q < a ∨ a + 113 < q) → s q = z0 q)) ⟨hA_q.put (by repeat (first | exact rfl | exact sup_eq | refine sup_ne (by omega) ?_)) (fun q x_q y_q => (by repeat (first | exact rfl | exact sup_eq | refine sup_ne (by omega) ?_))), hb_q.kp (fun q x_q y_q => (by repeat (first | exact rfl | exact sup_eq | refine sup_ne (by omega) ?_))), hS_q.kp (fun q x_q y_q => (by repeat (first | exact rfl | exact sup_eq | refine sup_ne (by omega) ?_))), hH.kp (fun q x_q y_q => (by repeat (first | exact rfl | exact sup_eq | refine sup_ne (by omega) ?_))), hm_q.kp (fun q x_q y_q => (by repeat (first | exact rfl | exact sup_eq | refine sup_ne (by omega) ?_))), hr_q.kp (by repeat (first | exact rfl | exact sup_eq | refine sup_ne (by omega) ?_)) (fun q x_q y_q => (by repeat (first | exact rfl | exact sup_eq | refine sup_ne (by omega) ?_))), fun q hq9 => (by repeat (first | exact hq_q q hq9 | exact sup_eq | refine sup_ne (by omega) ?_))⟩ (fun σ hP => ?_)
  obtain ⟨hA_q, hb_q, hS_q, hH, hm_q, hr_q, hq_q⟩ := hP
  refine go_iconst (v := 0) (pc := 148) dX7_init_148 (by decide) ?_
  refine go_istore_n (lw := [_, _, _]) (pc := 149) dX7_init_149 (by decide) rfl ?_
  refine go_iterC (4) 80 2 5512 33 (fun i_q lv9 s9 n9 => lv9 = [some (.ref a), some (.ref (a + 10)), some (.int (nI i_q))] ∧ (FcA Γ s9 a (.ref (a + 14)) (.ref (a + 19)) (.ref (a + 71)) (fun j => if j < i_q then some (a + 81 + 2 * j) else none) (fun _ => none)) ∧ (NbAt Γ s9 (a + 10)) ∧ (NeAt Γ s9 (a + 14) (a + 10)) ∧ (NhAt Γ s9 (a + 19) (a + 10)) ∧ (NeAt Γ s9 (a + 72) (a + 10)) ∧ (NrAt Γ s9 (a + 71) (a + 77) (a + 10) (a + 72)) ∧ (∀ j, j < i_q → NtAt Γ s9 (a + 81 + 2 * j)) ∧ (∀ q, (q < a ∨ a + 113 < q) → s9 q = z0 q) ∧ a + 81 + 2 * i_q = n9) ⟨rfl, hA_q, hb_q, hS_q, hH, hm_q, hr_q, (fun j hj_q => by omega), hq_q, rfl⟩ ?_ ?_
  · rintro i_q lv9 σ n9 hi_q ⟨rfl, hA_q, hb_q, hS_q, hH, hm_q, hr_q, hx_q, hq_q, rfl⟩ ih_q
    refine go_iload_n (pc := 150) dX7_init_150 rfl ?_
    refine go_iconst (v := 4) (pc := 151) dX7_init_151 (by decide) ?_
    refine go_icmp_ge (tgt := 174) (pc := 152) dX7_init_152 (by decide) (fun h_152 => by exfalso; exact absurd h_152 (nI_ge (b := 4) (by omega) (by decide))) (fun h_152 => ?_)
    refine go_aload_n (pc := 155) dX7_init_155 rfl ?_
    refine go_getf (pc := 156) f_X7_25 dX7_init_156 hA_q.1 (by rfl) ?_
    refine go_iload_n (pc := 159) dX7_init_159 rfl ?_
    refine go_new (ci := 6) (fs := df6) (pc := 160) n_X7_23 rfl df6_ok dX7_init_160 (by show 80 + 2 * i_q + 1 ≤ 113; omega) (by show 5512 + 33 * i_q + 3 ≤ 5899; omega) ?_
    refine go_set (P := fun s => (FcA Γ s a (.ref (a + 14)) (.ref (a + 19)) (.ref (a + 71)) (fun j => if j < i_q then some (a + 81 + 2 * j) else none) (fun _ => none)) ∧ (NbAt Γ s (a + 10)) ∧ (NeAt Γ s (a + 14) (a + 10)) ∧ (NhAt Γ s (a + 19) (a + 10)) ∧ (NeAt Γ s (a + 72) (a + 10)) ∧ (NrAt Γ s (a + 71) (a + 77) (a + 10) (a + 72)) ∧ (∀ j, j < i_q → NtAt Γ s (a + 81 + 2 * j)) ∧ (s (a + 81 + 2 * i_q) = some (cO 6 df6)) ∧ (∀ q, (q < a ∨ a + 113 < q) → s q = z0 q)) ⟨hA_q.kp (fun q x_q y_q => (by repeat (first | exact rfl | exact sup_eq | refine sup_ne (by omega) ?_))), hb_q.kp (fun q x_q y_q => (by repeat (first | exact rfl | exact sup_eq | refine sup_ne (by omega) ?_))), hS_q.kp (fun q x_q y_q => (by repeat (first | exact rfl | exact sup_eq | refine sup_ne (by omega) ?_))), hH.kp (fun q x_q y_q => (by repeat (first | exact rfl | exact sup_eq | refine sup_ne (by omega) ?_))), hm_q.kp (fun q x_q y_q => (by repeat (first | exact rfl | exact sup_eq | refine sup_ne (by omega) ?_))), hr_q.kp (by repeat (first | exact rfl | exact sup_eq | refine sup_ne (by omega) ?_)) (fun q x_q y_q => (by repeat (first | exact rfl | exact sup_eq | refine sup_ne (by omega) ?_))), fun j hj_q => (hx_q j hj_q).kp (fun q x_q y_q => (by repeat (first | exact rfl | exact sup_eq | refine sup_ne (by omega) ?_))), sup_eq, fun q hq9 => (by repeat (first | exact hq_q q hq9 | exact sup_eq | refine sup_ne (by omega) ?_))⟩ (fun σ hP => ?_)
    obtain ⟨hA_q, hb_q, hS_q, hH, hm_q, hr_q, hx_q, hn, hq_q⟩ := hP
    refine go_dup (pc := 163) dX7_init_163 rfl ?_
    refine go_newT (pc := 164) dX7_init_164 (cp_newT (k := k - 1) hn (by omega)) (fun σ n h_q => ?_) (rm_ok (Nat.le_of_ble_eq_true rfl) (by omega)) ⟨by show 80 + 2 * i_q + 1 + 1 ≤ 113; omega, by show 5512 + 33 * i_q + 3 + 30 ≤ 5899; omega⟩ (Nat.le_of_ble_eq_true rfl)
    obtain ⟨rfl, t0, t1_q, hf9⟩ := h_q
    have hA_q := hA_q.kp (σ1 := σ) (fun q x_q y_q => hf9 q (by omega))
    have hb_q := hb_q.kp (σ1 := σ) (fun q x_q y_q => hf9 q (by omega))
    have hS_q := hS_q.kp (σ1 := σ) (fun q x_q y_q => hf9 q (by omega))
    have hH := hH.kp (σ1 := σ) (fun q x_q y_q => hf9 q (by omega))
    have hm_q := hm_q.kp (σ1 := σ) (fun q x_q y_q => hf9 q (by omega))
    have hr_q := hr_q.kp (σ1 := σ) (hf9 _ (by omega)) (fun q x_q y_q => hf9 q (by omega))
    have hq_q : ∀ q, (q < a ∨ a + 113 < q) → σ q = z0 q := fun q h9_q => (hf9 q (by omega)).trans (hq_q q h9_q)
    have hx_q : ∀ j, j < i_q → NtAt Γ σ (a + 81 + 2 * j) := fun j hj_q => (hx_q j hj_q).kp (fun q x_q y_q => hf9 q (by omega))
    refine go_aastore (r := (RX6, TX6, 3)) (pc := 167) dX7_init_167 hA_q.2.2.1 rfl t0 rfl (vp_in_nI (n := i_q) (N := 4) (by omega) (by decide)) ?_
    refine go_iinc (v := 1) (lw := [_, _, _]) (pc := 168) dX7_init_168 rfl (by decide) (by decide) rfl ?_
    refine go_goto (tgt := 150) (pc := 171) dX7_init_171 (by decide) ?_
    rw [nI_1]
    refine go_cast (c2 := 80 + 2 * (i_q + 1)) (s2 := 5512 + 33 * (i_q + 1)) (by show 80 + 2 * i_q + 1 + 1 = _; omega) (by show 5512 + 33 * i_q + 3 + 30 = _; omega) ?_
    refine go_eqR (fun j => if j < i_q + 1 then some (a + 81 + 2 * j) else none) sup_eq (fun j hj_q => ?_) ?_
    · rw [nI_clamp (by omega)]
      unfold va_up
      by_cases e9_q : j = i_q
      · subst e9_q; simp
      · have e8_q : (j < i_q + 1) = (j < i_q) := by simp; omega
        simp [e9_q, e8_q]
    exact ih_q _ _ _ ⟨rfl, ⟨(by repeat (first | exact hA_q.1 | exact sup_eq | refine sup_ne (by omega) ?_)), (by repeat (first | exact hA_q.2.1 | exact sup_eq | refine sup_ne (by omega) ?_)), sup_eq, (by repeat (first | exact hA_q.2.2.2.1 | exact sup_eq | refine sup_ne (by omega) ?_)), (by repeat (first | exact hA_q.2.2.2.2.1 | exact sup_eq | refine sup_ne (by omega) ?_)), (by repeat (first | exact hA_q.2.2.2.2.2.1 | exact sup_eq | refine sup_ne (by omega) ?_)), (by repeat (first | exact hA_q.2.2.2.2.2.2.1 | exact sup_eq | refine sup_ne (by omega) ?_)), (by repeat (first | exact hA_q.2.2.2.2.2.2.2.1 | exact sup_eq | refine sup_ne (by omega) ?_)), (by repeat (first | exact hA_q.2.2.2.2.2.2.2.2.1 | exact sup_eq | refine sup_ne (by omega) ?_)), (by repeat (first | exact hA_q.2.2.2.2.2.2.2.2.2 | exact sup_eq | refine sup_ne (by omega) ?_))⟩, hb_q.kp (fun q x_q y_q => (by repeat (first | exact rfl | exact sup_eq | refine sup_ne (by omega) ?_))), hS_q.kp (fun q x_q y_q => (by repeat (first | exact rfl | exact sup_eq | refine sup_ne (by omega) ?_))), hH.kp (fun q x_q y_q => (by repeat (first | exact rfl | exact sup_eq | refine sup_ne (by omega) ?_))), hm_q.kp (fun q x_q y_q => (by repeat (first | exact rfl | exact sup_eq | refine sup_ne (by omega) ?_))), hr_q.kp (by repeat (first | exact rfl | exact sup_eq | refine sup_ne (by omega) ?_)) (fun q x_q y_q => (by repeat (first | exact rfl | exact sup_eq | refine sup_ne (by omega) ?_))), fun j hj_q => by
      by_cases e9_q : j = i_q
      · rw [e9_q]; exact ⟨(by repeat (first | exact t0 | exact sup_eq | refine sup_ne (by omega) ?_)), (by repeat (first | exact t1_q | exact sup_eq | refine sup_ne (by omega) ?_))⟩
      · exact (hx_q j (by omega)).kp (fun q x_q y_q => (by repeat (first | exact rfl | exact sup_eq | refine sup_ne (by omega) ?_))), fun q h9_q => (by repeat (first | exact hq_q q h9_q | exact sup_eq | refine sup_ne (by omega) ?_)), by omega⟩
  · rintro lv9 σ n9 ⟨rfl, hA_q, hb_q, hS_q, hH, hm_q, hr_q, hx_q, hq_q, rfl⟩
    refine go_iload_n (pc := 150) dX7_init_150 rfl ?_
    refine go_iconst (v := 4) (pc := 151) dX7_init_151 (by decide) ?_
    refine go_icmp_ge (tgt := 174) (pc := 152) dX7_init_152 (by decide) (fun h_152 => ?_) (fun h_152 => by exfalso; exact h_152 (by decide))
    refine go_eqR (fun i_q => some (a + 81 + 2 * i_q)) hA_q.2.2.1 (fun j hj_q => by rw [if_pos hj_q]) ?_
    refine go_cast (c2 := 88) (s2 := 5644) rfl rfl ?_
    refine go_set (P := fun s => (FcA Γ s a (.ref (a + 14)) (.ref (a + 19)) (.ref (a + 71)) (fun i_q => some (a + 81 + 2 * i_q)) (fun _ => none)) ∧ (NbAt Γ s (a + 10)) ∧ (NeAt Γ s (a + 14) (a + 10)) ∧ (NhAt Γ s (a + 19) (a + 10)) ∧ (NeAt Γ s (a + 72) (a + 10)) ∧ (NrAt Γ s (a + 71) (a + 77) (a + 10) (a + 72)) ∧ (∀ j, j < 4 → NtAt Γ s (a + 81 + 2 * j)) ∧ ∀ q, (q < a ∨ a + 113 < q) → s q = z0 q) ⟨⟨(by repeat (first | exact hA_q.1 | exact sup_eq | refine sup_ne (by omega) ?_)), (by repeat (first | exact hA_q.2.1 | exact sup_eq | refine sup_ne (by omega) ?_)), sup_eq, (by repeat (first | exact hA_q.2.2.2.1 | exact sup_eq | refine sup_ne (by omega) ?_)), (by repeat (first | exact hA_q.2.2.2.2.1 | exact sup_eq | refine sup_ne (by omega) ?_)), (by repeat (first | exact hA_q.2.2.2.2.2.1 | exact sup_eq | refine sup_ne (by omega) ?_)), (by repeat (first | exact hA_q.2.2.2.2.2.2.1 | exact sup_eq | refine sup_ne (by omega) ?_)), (by repeat (first | exact hA_q.2.2.2.2.2.2.2.1 | exact sup_eq | refine sup_ne (by omega) ?_)), (by repeat (first | exact hA_q.2.2.2.2.2.2.2.2.1 | exact sup_eq | refine sup_ne (by omega) ?_)), (by repeat (first | exact hA_q.2.2.2.2.2.2.2.2.2 | exact sup_eq | refine sup_ne (by omega) ?_))⟩, hb_q.kp (fun q x_q y_q => (by repeat (first | exact rfl | exact sup_eq | refine sup_ne (by omega) ?_))), hS_q.kp (fun q x_q y_q => (by repeat (first | exact rfl | exact sup_eq | refine sup_ne (by omega) ?_))), hH.kp (fun q x_q y_q => (by repeat (first | exact rfl | exact sup_eq | refine sup_ne (by omega) ?_))), hm_q.kp (fun q x_q y_q => (by repeat (first | exact rfl | exact sup_eq | refine sup_ne (by omega) ?_))), hr_q.kp (by repeat (first | exact rfl | exact sup_eq | refine sup_ne (by omega) ?_)) (fun q x_q y_q => (by repeat (first | exact rfl | exact sup_eq | refine sup_ne (by omega) ?_))), (fun j hj_q => (hx_q j hj_q).kp (fun q x_q y_q => (by repeat (first | exact rfl | exact sup_eq | refine sup_ne (by omega) ?_)))), fun q hq9 => (by repeat (first | exact hq_q q hq9 | exact sup_eq | refine sup_ne (by omega) ?_))⟩ (fun σ hP => ?_)
    obtain ⟨hA_q, hb_q, hS_q, hH, hm_q, hr_q, hx_q, hq_q⟩ := hP
    refine go_iconst (v := 0) (pc := 174) dX7_init_174 (by decide) ?_
    refine go_istore_n (lw := [_, _, _]) (pc := 175) dX7_init_175 (by decide) rfl ?_
    refine go_iterC (5) 88 5 5644 51 (fun i_q lv9 s9 n9 => lv9 = [some (.ref a), some (.ref (a + 10)), some (.int (nI i_q))] ∧ (FcA Γ s9 a (.ref (a + 14)) (.ref (a + 19)) (.ref (a + 71)) (fun i_q => some (a + 81 + 2 * i_q)) (fun j => if j < i_q then some (a + 89 + 5 * j) else none)) ∧ (NbAt Γ s9 (a + 10)) ∧ (NeAt Γ s9 (a + 14) (a + 10)) ∧ (NhAt Γ s9 (a + 19) (a + 10)) ∧ (NeAt Γ s9 (a + 72) (a + 10)) ∧ (NrAt Γ s9 (a + 71) (a + 77) (a + 10) (a + 72)) ∧ (∀ j, j < 4 → NtAt Γ s9 (a + 81 + 2 * j)) ∧ (∀ j, j < i_q → NeAt Γ s9 (a + 89 + 5 * j) (a + 10)) ∧ (∀ q, (q < a ∨ a + 113 < q) → s9 q = z0 q) ∧ a + 89 + 5 * i_q = n9) ⟨rfl, hA_q, hb_q, hS_q, hH, hm_q, hr_q, hx_q, (fun j hj_q => by omega), hq_q, rfl⟩ ?_ ?_
    · rintro i_q lv9 σ n9 hi_q ⟨rfl, hA_q, hb_q, hS_q, hH, hm_q, hr_q, hx_q, hy_q, hq_q, rfl⟩ ih_q
      refine go_iload_n (pc := 176) dX7_init_176 rfl ?_
      refine go_iconst (v := 5) (pc := 177) dX7_init_177 (by decide) ?_
      refine go_icmp_ge (tgt := 201) (pc := 178) dX7_init_178 (by decide) (fun h_178 => by exfalso; exact absurd h_178 (nI_ge (b := 5) (by omega) (by decide))) (fun h_178 => ?_)
      refine go_aload_n (pc := 181) dX7_init_181 rfl ?_
      refine go_getf (pc := 182) f_X7_37 dX7_init_182 hA_q.1 (by rfl) ?_
      refine go_iload_n (pc := 185) dX7_init_185 rfl ?_
      refine go_new (ci := 5) (fs := df5) (pc := 186) n_X7_35 rfl df5_ok dX7_init_186 (by show 88 + 5 * i_q + 1 ≤ 113; omega) (by show 5644 + 51 * i_q + 7 ≤ 5899; omega) ?_
      refine go_set (P := fun s => (FcA Γ s a (.ref (a + 14)) (.ref (a + 19)) (.ref (a + 71)) (fun i_q => some (a + 81 + 2 * i_q)) (fun j => if j < i_q then some (a + 89 + 5 * j) else none)) ∧ (NbAt Γ s (a + 10)) ∧ (NeAt Γ s (a + 14) (a + 10)) ∧ (NhAt Γ s (a + 19) (a + 10)) ∧ (NeAt Γ s (a + 72) (a + 10)) ∧ (NrAt Γ s (a + 71) (a + 77) (a + 10) (a + 72)) ∧ (∀ j, j < 4 → NtAt Γ s (a + 81 + 2 * j)) ∧ (∀ j, j < i_q → NeAt Γ s (a + 89 + 5 * j) (a + 10)) ∧ (s (a + 89 + 5 * i_q) = some (cO 5 df5)) ∧ (∀ q, (q < a ∨ a + 113 < q) → s q = z0 q)) ⟨hA_q.kp (fun q x_q y_q => (by repeat (first | exact rfl | exact sup_eq | refine sup_ne (by omega) ?_))), hb_q.kp (fun q x_q y_q => (by repeat (first | exact rfl | exact sup_eq | refine sup_ne (by omega) ?_))), hS_q.kp (fun q x_q y_q => (by repeat (first | exact rfl | exact sup_eq | refine sup_ne (by omega) ?_))), hH.kp (fun q x_q y_q => (by repeat (first | exact rfl | exact sup_eq | refine sup_ne (by omega) ?_))), hm_q.kp (fun q x_q y_q => (by repeat (first | exact rfl | exact sup_eq | refine sup_ne (by omega) ?_))), hr_q.kp (by repeat (first | exact rfl | exact sup_eq | refine sup_ne (by omega) ?_)) (fun q x_q y_q => (by repeat (first | exact rfl | exact sup_eq | refine sup_ne (by omega) ?_))), fun j hj_q => (hx_q j hj_q).kp (fun q x_q y_q => (by repeat (first | exact rfl | exact sup_eq | refine sup_ne (by omega) ?_))), fun j hj_q => (hy_q j hj_q).kp (fun q x_q y_q => (by repeat (first | exact rfl | exact sup_eq | refine sup_ne (by omega) ?_))), sup_eq, fun q hq9 => (by repeat (first | exact hq_q q hq9 | exact sup_eq | refine sup_ne (by omega) ?_))⟩ (fun σ hP => ?_)
      obtain ⟨hA_q, hb_q, hS_q, hH, hm_q, hr_q, hx_q, hy_q, hn, hq_q⟩ := hP
      refine go_dup (pc := 189) dX7_init_189 rfl ?_
      refine go_aload_n (pc := 190) dX7_init_190 rfl ?_
      refine go_I1V (pc := 191) i_X7_62 rfl rfl dX7_init_191 (hC := ⟨by show 88 + 5 * i_q + 1 + 4 ≤ 113; omega, by show 5644 + 51 * i_q + 7 + 44 ≤ 5899; omega⟩) (cp_newS (k := k - 1) hn (by omega)) (fun σ n h_q => ?_)
      obtain ⟨rfl, hz_q, hf9⟩ := h_q
      have hA_q := hA_q.kp (σ1 := σ) (fun q x_q y_q => hf9 q (by omega))
      have hb_q := hb_q.kp (σ1 := σ) (fun q x_q y_q => hf9 q (by omega))
      have hS_q := hS_q.kp (σ1 := σ) (fun q x_q y_q => hf9 q (by omega))
      have hH := hH.kp (σ1 := σ) (fun q x_q y_q => hf9 q (by omega))
      have hm_q := hm_q.kp (σ1 := σ) (fun q x_q y_q => hf9 q (by omega))
      have hr_q := hr_q.kp (σ1 := σ) (hf9 _ (by omega)) (fun q x_q y_q => hf9 q (by omega))
      have hq_q : ∀ q, (q < a ∨ a + 113 < q) → σ q = z0 q := fun q h9_q => (hf9 q (by omega)).trans (hq_q q h9_q)
      have hx_q : ∀ j, j < 4 → NtAt Γ σ (a + 81 + 2 * j) := fun j hj_q => (hx_q j hj_q).kp (fun q x_q y_q => hf9 q (by omega))
      have hy_q : ∀ j, j < i_q → NeAt Γ σ (a + 89 + 5 * j) (a + 10) := fun j hj_q => (hy_q j hj_q).kp (fun q x_q y_q => hf9 q (by omega))
      refine go_aastore (r := (RX5, TX5, 7)) (pc := 194) dX7_init_194 hA_q.2.2.2.2.1 rfl hz_q.choose_spec.choose_spec.choose_spec.choose_spec.1 rfl (vp_in_nI (n := i_q) (N := 5) (by omega) (by decide)) ?_
      refine go_iinc (v := 1) (lw := [_, _, _]) (pc := 195) dX7_init_195 rfl (by decide) (by decide) rfl ?_
      refine go_goto (tgt := 176) (pc := 198) dX7_init_198 (by decide) ?_
      rw [nI_1]
      refine go_cast (c2 := 88 + 5 * (i_q + 1)) (s2 := 5644 + 51 * (i_q + 1)) (by show 88 + 5 * i_q + 1 + 4 = _; omega) (by show 5644 + 51 * i_q + 7 + 44 = _; omega) ?_
      refine go_eqR (fun j => if j < i_q + 1 then some (a + 89 + 5 * j) else none) sup_eq (fun j hj_q => ?_) ?_
      · rw [nI_clamp (by omega)]
        unfold va_up
        by_cases e9_q : j = i_q
        · subst e9_q; simp
        · have e8_q : (j < i_q + 1) = (j < i_q) := by simp; omega
          simp [e9_q, e8_q]
      exact ih_q _ _ _ ⟨rfl, ⟨(by repeat (first | exact hA_q.1 | exact sup_eq | refine sup_ne (by omega) ?_)), (by repeat (first | exact hA_q.2.1 | exact sup_eq | refine sup_ne (by omega) ?_)), (by repeat (first | exact hA_q.2.2.1 | exact sup_eq | refine sup_ne (by omega) ?_)), (by repeat (first | exact hA_q.2.2.2.1 | exact sup_eq | refine sup_ne (by omega) ?_)), sup_eq, (by repeat (first | exact hA_q.2.2.2.2.2.1 | exact sup_eq | refine sup_ne (by omega) ?_)), (by repeat (first | exact hA_q.2.2.2.2.2.2.1 | exact sup_eq | refine sup_ne (by omega) ?_)), (by repeat (first | exact hA_q.2.2.2.2.2.2.2.1 | exact sup_eq | refine sup_ne (by omega) ?_)), (by repeat (first | exact hA_q.2.2.2.2.2.2.2.2.1 | exact sup_eq | refine sup_ne (by omega) ?_)), (by repeat (first | exact hA_q.2.2.2.2.2.2.2.2.2 | exact sup_eq | refine sup_ne (by omega) ?_))⟩, hb_q.kp (fun q x_q y_q => (by repeat (first | exact rfl | exact sup_eq | refine sup_ne (by omega) ?_))), hS_q.kp (fun q x_q y_q => (by repeat (first | exact rfl | exact sup_eq | refine sup_ne (by omega) ?_))), hH.kp (fun q x_q y_q => (by repeat (first | exact rfl | exact sup_eq | refine sup_ne (by omega) ?_))), hm_q.kp (fun q x_q y_q => (by repeat (first | exact rfl | exact sup_eq | refine sup_ne (by omega) ?_))), hr_q.kp (by repeat (first | exact rfl | exact sup_eq | refine sup_ne (by omega) ?_)) (fun q x_q y_q => (by repeat (first | exact rfl | exact sup_eq | refine sup_ne (by omega) ?_))), (fun j hj_q => (hx_q j hj_q).kp (fun q x_q y_q => (by repeat (first | exact rfl | exact sup_eq | refine sup_ne (by omega) ?_)))), fun j hj_q => by
        by_cases e9_q : j = i_q
        · rw [e9_q]; exact hz_q.kp (fun q x_q y_q => (by repeat (first | exact rfl | exact sup_eq | refine sup_ne (by omega) ?_)))
        · exact (hy_q j (by omega)).kp (fun q x_q y_q => (by repeat (first | exact rfl | exact sup_eq | refine sup_ne (by omega) ?_))), fun q h9_q => (by repeat (first | exact hq_q q h9_q | exact sup_eq | refine sup_ne (by omega) ?_)), by omega⟩
    · rintro lv9 σ n9 ⟨rfl, hA_q, hb_q, hS_q, hH, hm_q, hr_q, hx_q, hy_q, hq_q, rfl⟩
      refine go_iload_n (pc := 176) dX7_init_176 rfl ?_
      refine go_iconst (v := 5) (pc := 177) dX7_init_177 (by decide) ?_
      refine go_icmp_ge (tgt := 201) (pc := 178) dX7_init_178 (by decide) (fun h_178 => ?_) (fun h_178 => by exfalso; exact h_178 (by decide))
      refine go_eqR (fun i_q => some (a + 89 + 5 * i_q)) hA_q.2.2.2.2.1 (fun j hj_q => by rw [if_pos hj_q]) ?_
      refine go_cast (c2 := 113) (s2 := 5899) rfl rfl ?_
      exact go_vretV (pc := 201) rfl dX7_init_201 (Nat.le_of_ble_eq_true rfl) (Nat.le_of_ble_eq_true rfl) ⟨rfl, ⟨⟨(by repeat (first | exact hA_q.1 | exact sup_eq | refine sup_ne (by omega) ?_)), (by repeat (first | exact hA_q.2.1 | exact sup_eq | refine sup_ne (by omega) ?_)), (by repeat (first | exact hA_q.2.2.1 | exact sup_eq | refine sup_ne (by omega) ?_)), (by repeat (first | exact hA_q.2.2.2.1 | exact sup_eq | refine sup_ne (by omega) ?_)), sup_eq, (by repeat (first | exact hA_q.2.2.2.2.2.1 | exact sup_eq | refine sup_ne (by omega) ?_)), (by repeat (first | exact hA_q.2.2.2.2.2.2.1 | exact sup_eq | refine sup_ne (by omega) ?_)), (by repeat (first | exact hA_q.2.2.2.2.2.2.2.1 | exact sup_eq | refine sup_ne (by omega) ?_)), (by repeat (first | exact hA_q.2.2.2.2.2.2.2.2.1 | exact sup_eq | refine sup_ne (by omega) ?_)), (by repeat (first | exact hA_q.2.2.2.2.2.2.2.2.2 | exact sup_eq | refine sup_ne (by omega) ?_))⟩, hb_q.kp (fun q x_q y_q => (by repeat (first | exact rfl | exact sup_eq | refine sup_ne (by omega) ?_))), hS_q.kp (fun q x_q y_q => (by repeat (first | exact rfl | exact sup_eq | refine sup_ne (by omega) ?_))), hH.kp (fun q x_q y_q => (by repeat (first | exact rfl | exact sup_eq | refine sup_ne (by omega) ?_))), hr_q.kp (by repeat (first | exact rfl | exact sup_eq | refine sup_ne (by omega) ?_)) (fun q x_q y_q => (by repeat (first | exact rfl | exact sup_eq | refine sup_ne (by omega) ?_))), hm_q.kp (fun q x_q y_q => (by repeat (first | exact rfl | exact sup_eq | refine sup_ne (by omega) ?_))), (fun j hj_q => (hx_q j hj_q).kp (fun q x_q y_q => (by repeat (first | exact rfl | exact sup_eq | refine sup_ne (by omega) ?_)))), fun j hj_q => (hy_q j hj_q).kp (fun q x_q y_q => (by repeat (first | exact rfl | exact sup_eq | refine sup_ne (by omega) ?_)))⟩, fun q h9_q => (by repeat (first | exact hq_q q h9_q | exact sup_eq | refine sup_ne (by omega) ?_))⟩
