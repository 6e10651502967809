/-! ===== the reference: trays, images, the tape ===== -/
theorem sp_tray {Γ : gam} {z0 : sto} {n k r : Nat} {F K : row} {A : Nat → row} {Nm : Nat → Int64} (hM_q : MoAt Γ z0 r F K A Nm) (hk : 14 ≤ k) (t s m : Int32) : Sp Γ (rmk k 0 0) uX8_tray [.ref r, .int t, .int s, .int m] z0 n (qV fun σ' n' => (trT t.toInt s.toInt m.toInt ≠ 0 ∧ apG Γ r F K A Nm z0 n (trT t.toInt s.toInt m.toInt) [] (fun _ F' => F' 6 = F 6) σ' n') ∨ (trT t.toInt s.toInt m.toInt = 0 ∧ apG Γ r F K A (zerN Nm t.toInt.toNat 30) z0 n 0 [14, 15] (fun A' F' => F' 6 = F 6 ∧ A' 14 = upd (A 14) t.toInt.toNat s ∧ A' 15 = upd (A 15) t.toInt.toNat m) σ' n')) := by
  have hA_q : eqx [14, 15] A A := eqx.rf
  have hf_q : fr r (r + 16) z0 z0 := fr.rf
  refine sp_intro [some (.ref r), some (.int t), some (.int s), some (.int m), none] (by decide +kernel) rfl (Nat.le_of_ble_eq_true rfl) rfl ?_
  cases ht_q : pN 4 t.toInt with
  | none =>
    have h0_q : trT t.toInt s.toInt m.toInt = 1 := by simp only [trT, ht_q]
    refine go_aload_n (pc := 0) dX8_tray_0 rfl ?_
    refine go_iload_n (pc := 1) dX8_tray_1 rfl ?_
    refine go_S1P (pc := 2) s_X8_349 rfl rfl dX8_tray_2 (sp_isTray (k := k - 1) (by omega) _) ?_
    refine go_if_ne (tgt := 12) (pc := 5) dX8_tray_5 (by decide) (fun h_5 => by exfalso; exact h_5 (tw_no ht_q)) (fun h_5 => ?_)
    refine go_iconst (v := 1) (pc := 8) dX8_tray_8 (by decide) ?_
    refine go_goto (tgt := 41) (pc := 9) dX8_tray_9 (by decide) ?_
    refine go_mpf4 (pc := 41) hM_q dX8_tray_41 (fun σ hM_q hf9 => ?_)
    have hf_q := hf_q.tr hf9
    refine go_aload_n (pc := 44) dX8_tray_44 rfl ?_
    refine go_getf (pc := 45) f_X8_64 dX8_tray_45 (by first | exact mo0 hM_q | exact mo1 hM_q | exact mo6 hM_q | exact mo7 hM_q | exact mo8 hM_q | exact mo2 hM_q | exact mo3 hM_q | exact mo4 hM_q | exact mo5 hM_q | exact mo9 hM_q | exact mo10 hM_q | exact mo11 hM_q | exact mo12 hM_q | exact mo13 hM_q | exact mo14 hM_q | exact mo15 hM_q | exact mo16 hM_q) (by rfl) ?_
    refine go_if_le (tgt := 52) (pc := 48) dX8_tray_48 (by decide) (fun h_48 => by exfalso; exact absurd (show (1 : Int32) ≤ 0 from h_48) (by decide)) (fun h_48 => ?_)
    exact go_vretV (pc := 51) rfl dX8_tray_51 (Nat.le_of_ble_eq_true rfl) (Nat.le_of_ble_eq_true rfl) (Or.inl ⟨(by rw [h0_q]; decide), ⟨rfl, _, _, hM_q, h0_q.symm, (fun j h1_q h2_q h3_q h4_q => by simp [upd, h1_q, h2_q, h3_q, h4_q]), eqx.rf, hf_q, rfl⟩⟩)
  | some j1_q =>
    have ht1 := pN_some ht_q
    have e0 : t.toInt.toNat = j1_q := by rw [ht1.1]; rfl
    obtain rfl := I_nat ht1.1 (by omega)
    cases hs : rN 0 4 s.toInt with
    | none =>
      have h0_q : trT (nI j1_q).toInt s.toInt m.toInt = 2 := by simp only [trT, ht_q, hs]
      refine go_aload_n (pc := 0) dX8_tray_0 rfl ?_
      refine go_iload_n (pc := 1) dX8_tray_1 rfl ?_
      refine go_S1P (pc := 2) s_X8_349 rfl rfl dX8_tray_2 (sp_isTray (k := k - 1) (by omega) _) ?_
      refine go_if_ne (tgt := 12) (pc := 5) dX8_tray_5 (by decide) (fun h_5 => ?_) (fun h_5 => by exfalso; rw [tw_yes ht_q] at h_5; exact absurd h_5 (by decide))
      refine go_iload_n (pc := 12) dX8_tray_12 rfl ?_
      refine go_i2l (pc := 13) dX8_tray_13 ?_
      refine go_lconst (v := 0) (pc := 14) dX8_tray_14 rfl ?_
      refine go_ldc2 (pc := 15) kw7_223 dX8_tray_15 ?_
      refine go_S3P (pc := 18) s_X8_125 rfl rfl dX8_tray_18 (sp_within (k := k - 1) _ _ _) ?_
      refine go_if_eq (tgt := 36) (pc := 21) dX8_tray_21 (by decide) (fun h_21 => ?_) (fun h_21 => by exfalso; exact h_21 (wi_no hs (by decide) (by decide)))
      refine go_iconst (v := 2) (pc := 36) dX8_tray_36 (by decide) ?_
      refine go_goto (tgt := 41) (pc := 37) dX8_tray_37 (by decide) ?_
      refine go_mpf4 (pc := 41) hM_q dX8_tray_41 (fun σ hM_q hf9 => ?_)
      have hf_q := hf_q.tr hf9
      refine go_aload_n (pc := 44) dX8_tray_44 rfl ?_
      refine go_getf (pc := 45) f_X8_64 dX8_tray_45 (by first | exact mo0 hM_q | exact mo1 hM_q | exact mo6 hM_q | exact mo7 hM_q | exact mo8 hM_q | exact mo2 hM_q | exact mo3 hM_q | exact mo4 hM_q | exact mo5 hM_q | exact mo9 hM_q | exact mo10 hM_q | exact mo11 hM_q | exact mo12 hM_q | exact mo13 hM_q | exact mo14 hM_q | exact mo15 hM_q | exact mo16 hM_q) (by rfl) ?_
      refine go_if_le (tgt := 52) (pc := 48) dX8_tray_48 (by decide) (fun h_48 => by exfalso; exact absurd (show (2 : Int32) ≤ 0 from h_48) (by decide)) (fun h_48 => ?_)
      exact go_vretV (pc := 51) rfl dX8_tray_51 (Nat.le_of_ble_eq_true rfl) (Nat.le_of_ble_eq_true rfl) (Or.inl ⟨(by rw [h0_q]; decide), ⟨rfl, _, _, hM_q, h0_q.symm, (fun j h1_q h2_q h3_q h4_q => by simp [upd, h1_q, h2_q, h3_q, h4_q]), eqx.rf, hf_q, rfl⟩⟩)
    | some s1 =>
      cases hm_q : rN 0 31 m.toInt with
      | none =>
        have h0_q : trT (nI j1_q).toInt s.toInt m.toInt = 2 := by simp only [trT, ht_q, hs, hm_q]
        refine go_aload_n (pc := 0) dX8_tray_0 rfl ?_
        refine go_iload_n (pc := 1) dX8_tray_1 rfl ?_
        refine go_S1P (pc := 2) s_X8_349 rfl rfl dX8_tray_2 (sp_isTray (k := k - 1) (by omega) _) ?_
        refine go_if_ne (tgt := 12) (pc := 5) dX8_tray_5 (by decide) (fun h_5 => ?_) (fun h_5 => by exfalso; rw [tw_yes ht_q] at h_5; exact absurd h_5 (by decide))
        refine go_iload_n (pc := 12) dX8_tray_12 rfl ?_
        refine go_i2l (pc := 13) dX8_tray_13 ?_
        refine go_lconst (v := 0) (pc := 14) dX8_tray_14 rfl ?_
        refine go_ldc2 (pc := 15) kw7_223 dX8_tray_15 ?_
        refine go_S3P (pc := 18) s_X8_125 rfl rfl dX8_tray_18 (sp_within (k := k - 1) _ _ _) ?_
        refine go_if_eq (tgt := 36) (pc := 21) dX8_tray_21 (by decide) (fun h_21 => by exfalso; rw [wi_yes hs (by decide) (by decide)] at h_21; exact absurd h_21 (by decide)) (fun h_21 => ?_)
        refine go_iload_n (pc := 24) dX8_tray_24 rfl ?_
        refine go_i2l (pc := 25) dX8_tray_25 ?_
        refine go_lconst (v := 0) (pc := 26) dX8_tray_26 rfl ?_
        refine go_ldc2 (pc := 27) kw8_18 dX8_tray_27 ?_
        refine go_S3P (pc := 30) s_X8_125 rfl rfl dX8_tray_30 (sp_within (k := k - 1) _ _ _) ?_
        refine go_if_ne (tgt := 40) (pc := 33) dX8_tray_33 (by decide) (fun h_33 => by exfalso; exact h_33 (wi_no hm_q (by decide) (by decide))) (fun h_33 => ?_)
        refine go_iconst (v := 2) (pc := 36) dX8_tray_36 (by decide) ?_
        refine go_goto (tgt := 41) (pc := 37) dX8_tray_37 (by decide) ?_
        refine go_mpf4 (pc := 41) hM_q dX8_tray_41 (fun σ hM_q hf9 => ?_)
        have hf_q := hf_q.tr hf9
        refine go_aload_n (pc := 44) dX8_tray_44 rfl ?_
        refine go_getf (pc := 45) f_X8_64 dX8_tray_45 (by first | exact mo0 hM_q | exact mo1 hM_q | exact mo6 hM_q | exact mo7 hM_q | exact mo8 hM_q | exact mo2 hM_q | exact mo3 hM_q | exact mo4 hM_q | exact mo5 hM_q | exact mo9 hM_q | exact mo10 hM_q | exact mo11 hM_q | exact mo12 hM_q | exact mo13 hM_q | exact mo14 hM_q | exact mo15 hM_q | exact mo16 hM_q) (by rfl) ?_
        refine go_if_le (tgt := 52) (pc := 48) dX8_tray_48 (by decide) (fun h_48 => by exfalso; exact absurd (show (2 : Int32) ≤ 0 from h_48) (by decide)) (fun h_48 => ?_)
        exact go_vretV (pc := 51) rfl dX8_tray_51 (Nat.le_of_ble_eq_true rfl) (Nat.le_of_ble_eq_true rfl) (Or.inl ⟨(by rw [h0_q]; decide), ⟨rfl, _, _, hM_q, h0_q.symm, (fun j h1_q h2_q h3_q h4_q => by simp [upd, h1_q, h2_q, h3_q, h4_q]), eqx.rf, hf_q, rfl⟩⟩)
      | some m1 =>
        have h0_q : trT (nI j1_q).toInt s.toInt m.toInt = 0 := by simp only [trT, ht_q, hs, hm_q]
        rw [e0]
        refine go_aload_n (pc := 0) dX8_tray_0 rfl ?_
        refine go_iload_n (pc := 1) dX8_tray_1 rfl ?_
        refine go_S1P (pc := 2) s_X8_349 rfl rfl dX8_tray_2 (sp_isTray (k := k - 1) (by omega) _) ?_
        refine go_if_ne (tgt := 12) (pc := 5) dX8_tray_5 (by decide) (fun h_5 => ?_) (fun h_5 => by exfalso; rw [tw_yes ht_q] at h_5; exact absurd h_5 (by decide))
        refine go_iload_n (pc := 12) dX8_tray_12 rfl ?_
        refine go_i2l (pc := 13) dX8_tray_13 ?_
        refine go_lconst (v := 0) (pc := 14) dX8_tray_14 rfl ?_
        refine go_ldc2 (pc := 15) kw7_223 dX8_tray_15 ?_
        refine go_S3P (pc := 18) s_X8_125 rfl rfl dX8_tray_18 (sp_within (k := k - 1) _ _ _) ?_
        refine go_if_eq (tgt := 36) (pc := 21) dX8_tray_21 (by decide) (fun h_21 => by exfalso; rw [wi_yes hs (by decide) (by decide)] at h_21; exact absurd h_21 (by decide)) (fun h_21 => ?_)
        refine go_iload_n (pc := 24) dX8_tray_24 rfl ?_
        refine go_i2l (pc := 25) dX8_tray_25 ?_
        refine go_lconst (v := 0) (pc := 26) dX8_tray_26 rfl ?_
        refine go_ldc2 (pc := 27) kw8_18 dX8_tray_27 ?_
        refine go_S3P (pc := 30) s_X8_125 rfl rfl dX8_tray_30 (sp_within (k := k - 1) _ _ _) ?_
        refine go_if_ne (tgt := 40) (pc := 33) dX8_tray_33 (by decide) (fun h_33 => ?_) (fun h_33 => by exfalso; rw [wi_yes hm_q (by decide) (by decide)] at h_33; exact absurd h_33 (by decide))
        refine go_iconst (v := 0) (pc := 40) dX8_tray_40 (by decide) ?_
        refine go_mpf4 (pc := 41) hM_q dX8_tray_41 (fun σ hM_q hf9 => ?_)
        have hf_q := hf_q.tr hf9
        refine go_aload_n (pc := 44) dX8_tray_44 rfl ?_
        refine go_getf (pc := 45) f_X8_64 dX8_tray_45 (by first | exact mo0 hM_q | exact mo1 hM_q | exact mo6 hM_q | exact mo7 hM_q | exact mo8 hM_q | exact mo2 hM_q | exact mo3 hM_q | exact mo4 hM_q | exact mo5 hM_q | exact mo9 hM_q | exact mo10 hM_q | exact mo11 hM_q | exact mo12 hM_q | exact mo13 hM_q | exact mo14 hM_q | exact mo15 hM_q | exact mo16 hM_q) (by rfl) ?_
        refine go_if_le (tgt := 52) (pc := 48) dX8_tray_48 (by decide) (fun h_48 => ?_) (fun h_48 => by exfalso; exact h_48 (show (0 : Int32) ≤ 0 from by decide))
        refine go_aload_n (pc := 52) dX8_tray_52 rfl ?_
        refine go_getf (pc := 53) f_X8_54 dX8_tray_53 (by first | exact mo0 hM_q | exact mo1 hM_q | exact mo6 hM_q | exact mo7 hM_q | exact mo8 hM_q | exact mo2 hM_q | exact mo3 hM_q | exact mo4 hM_q | exact mo5 hM_q | exact mo9 hM_q | exact mo10 hM_q | exact mo11 hM_q | exact mo12 hM_q | exact mo13 hM_q | exact mo14 hM_q | exact mo15 hM_q | exact mo16 hM_q) (by rfl) ?_
        refine go_iload_n (pc := 56) dX8_tray_56 rfl ?_
        refine go_iload_n (pc := 57) dX8_tray_57 rfl ?_
        refine go_mst14 (pc := 58) hM_q dX8_tray_58 (by exact ⟨rfl, by omega⟩) (fun σ hM_q hf9 => ?_)
        have hf_q := hf_q.tr hf9
        refine go_aload_n (pc := 59) dX8_tray_59 rfl ?_
        refine go_getf (pc := 60) f_X8_57 dX8_tray_60 (by first | exact mo0 hM_q | exact mo1 hM_q | exact mo6 hM_q | exact mo7 hM_q | exact mo8 hM_q | exact mo2 hM_q | exact mo3 hM_q | exact mo4 hM_q | exact mo5 hM_q | exact mo9 hM_q | exact mo10 hM_q | exact mo11 hM_q | exact mo12 hM_q | exact mo13 hM_q | exact mo14 hM_q | exact mo15 hM_q | exact mo16 hM_q) (by rfl) ?_
        refine go_iload_n (pc := 63) dX8_tray_63 rfl ?_
        refine go_iload_n (pc := 64) dX8_tray_64 rfl ?_
        refine go_mst15 (pc := 65) hM_q dX8_tray_65 (by exact ⟨rfl, by omega⟩) (fun σ hM_q hf9 => ?_)
        have hf_q := hf_q.tr hf9
        refine go_iconst (v := 0) (pc := 66) dX8_tray_66 (by decide) ?_
        refine go_istore (lw := [_, _, _, _, _]) (pc := 67) dX8_tray_67 (by decide) rfl ?_
        refine go_iter (30) (fun i_q lv9 s9 n9 => ∃ A9_q, lv9 = [some (.ref r), some (.int (nI j1_q)), some (.int s), some (.int m), some (.int (nI i_q))] ∧ (MoAt Γ s9 r (upd F 4 0) K A9_q (zerN Nm j1_q i_q)) ∧ (eqx [14, 15] A A9_q) ∧ (fr r (r + 16) z0 s9) ∧ (A9_q 14 = upd (A 14) j1_q s) ∧ (A9_q 15 = upd (A 15) j1_q m) ∧ n = n9) ⟨_, rfl, (by rw [zerN_0]; exact hM_q), (by repeat (first | assumption | exact eqx.rf | refine eqx.up ?_ (by decide))), hf_q, rfl, rfl, rfl⟩ ?_ ?_
        · rintro i_q lv9 σ n9 hi_q ⟨A9_q, rfl, hM_q, hA_q, hf_q, h14, h15, rfl⟩ ih_q
          refine go_iload (pc := 69) dX8_tray_69 rfl ?_
          refine go_bipush (v := 30) (pc := 71) dX8_tray_71 (by decide) ?_
          refine go_icmp_ge (tgt := 95) (pc := 73) dX8_tray_73 (by decide) (fun h_73 => by exfalso; exact absurd h_73 (nI_ge (b := 30) (by omega) (by decide))) (fun h_73 => ?_)
          refine go_aload_n (pc := 76) dX8_tray_76 rfl ?_
          refine go_getf (pc := 77) f_X8_60 dX8_tray_77 (by first | exact mo0 hM_q | exact mo1 hM_q | exact mo6 hM_q | exact mo7 hM_q | exact mo8 hM_q | exact mo2 hM_q | exact mo3 hM_q | exact mo4 hM_q | exact mo5 hM_q | exact mo9 hM_q | exact mo10 hM_q | exact mo11 hM_q | exact mo12 hM_q | exact mo13 hM_q | exact mo14 hM_q | exact mo15 hM_q | exact mo16 hM_q) (by rfl) ?_
          refine go_bipush (v := 30) (pc := 80) dX8_tray_80 (by decide) ?_
          refine go_iload_n (pc := 82) dX8_tray_82 rfl ?_
          refine go_imul (pc := 83) dX8_tray_83 ?_
          refine go_iload (pc := 84) dX8_tray_84 rfl ?_
          refine go_iadd (pc := 86) dX8_tray_86 ?_
          refine go_lconst (v := 0) (pc := 87) dX8_tray_87 rfl ?_
          rw [num_ix]
          refine go_mstN (pc := 88) hM_q dX8_tray_88 (by exact ⟨rfl, by omega⟩) (fun σ hM_q hf9 => ?_)
          have hf_q := hf_q.tr hf9
          refine go_iinc (v := 1) (lw := [_, _, _, _, _]) (pc := 89) dX8_tray_89 rfl (by decide) (by decide) rfl ?_
          refine go_goto (tgt := 69) (pc := 92) dX8_tray_92 (by decide) ?_
          rw [nI_1]
          exact ih_q _ _ _ ⟨_, rfl, (by rw [← zerN_s]; exact hM_q), hA_q, hf_q, h14, h15, rfl⟩
        · rintro lv9 σ n9 ⟨A9_q, rfl, hM_q, hA_q, hf_q, h14, h15, rfl⟩
          refine go_iload (pc := 69) dX8_tray_69 rfl ?_
          refine go_bipush (v := 30) (pc := 71) dX8_tray_71 (by decide) ?_
          refine go_icmp_ge (tgt := 95) (pc := 73) dX8_tray_73 (by decide) (fun h_73 => ?_) (fun h_73 => by exfalso; exact h_73 (by decide))
          exact go_vretV (pc := 95) rfl dX8_tray_95 (Nat.le_of_ble_eq_true rfl) (Nat.le_of_ble_eq_true rfl) (Or.inr ⟨h0_q, ⟨rfl, _, _, hM_q, rfl, (fun j h1_q h2_q h3_q h4_q => by simp [upd, h1_q, h2_q, h3_q, h4_q]), hA_q, hf_q, rfl, h14, h15⟩⟩)
theorem sp_cutTo {Γ : gam} {z0 : sto} {n k r : Nat} {F K : row} {A : Nat → row} {Nm : Nat → Int64} (hM_q : MoAt Γ z0 r F K A Nm) {t i_q : Nat} (ht_q : t < 4) (hi_q : i_q < 30) (v : Int64) : Sp Γ (rmk k 0 0) uX8_cutTo [.ref r, .int (nI t), .int (nI i_q), .long v] z0 n (qL fun v' σ' n' => v' = cutV (A 14 t) v ∧ moJ Γ r F K A (vp_updL Nm (30 * t + i_q) (cutV (A 14 t) v)) z0 n [] σ' n') := by
  have hA_q : eqx [] A A := eqx.rf
  have hf_q : fr r (r + 16) z0 z0 := fr.rf
  refine sp_intro [some (.ref r), some (.int (nI t)), some (.int (nI i_q)), some (.long v), none, none] (by decide +kernel) rfl (Nat.le_of_ble_eq_true rfl) rfl ?_
  refine go_bipush (v := 64) (pc := 0) dX8_cutTo_0 (by decide) ?_
  refine go_bipush (v := 8) (pc := 2) dX8_cutTo_2 (by decide) ?_
  refine go_aload_n (pc := 4) dX8_cutTo_4 rfl ?_
  refine go_getf (pc := 5) f_X8_54 dX8_cutTo_5 (by first | exact mo0 hM_q | exact mo1 hM_q | exact mo6 hM_q | exact mo7 hM_q | exact mo8 hM_q | exact mo2 hM_q | exact mo3 hM_q | exact mo4 hM_q | exact mo5 hM_q | exact mo9 hM_q | exact mo10 hM_q | exact mo11 hM_q | exact mo12 hM_q | exact mo13 hM_q | exact mo14 hM_q | exact mo15 hM_q | exact mo16 hM_q) (by rfl) ?_
  refine go_iload_n (pc := 8) dX8_cutTo_8 rfl ?_
  refine go_iald (pc := 9) dX8_cutTo_9 (by first | exact mo0 hM_q | exact mo1 hM_q | exact mo6 hM_q | exact mo7 hM_q | exact mo8 hM_q | exact mo2 hM_q | exact mo3 hM_q | exact mo4 hM_q | exact mo5 hM_q | exact mo9 hM_q | exact mo10 hM_q | exact mo11 hM_q | exact mo12 hM_q | exact mo13 hM_q | exact mo14 hM_q | exact mo15 hM_q | exact mo16 hM_q) (by exact ⟨rfl, by omega⟩) ?_
  refine go_ishl (pc := 10) dX8_cutTo_10 ?_
  refine go_isub (pc := 11) dX8_cutTo_11 ?_
  refine go_istore (lw := [_, _, _, _, _, _]) (pc := 12) dX8_cutTo_12 (by decide) rfl ?_
  refine go_aload_n (pc := 14) dX8_cutTo_14 rfl ?_
  refine go_getf (pc := 15) f_X8_60 dX8_cutTo_15 (by first | exact mo0 hM_q | exact mo1 hM_q | exact mo6 hM_q | exact mo7 hM_q | exact mo8 hM_q | exact mo2 hM_q | exact mo3 hM_q | exact mo4 hM_q | exact mo5 hM_q | exact mo9 hM_q | exact mo10 hM_q | exact mo11 hM_q | exact mo12 hM_q | exact mo13 hM_q | exact mo14 hM_q | exact mo15 hM_q | exact mo16 hM_q) (by rfl) ?_
  refine go_bipush (v := 30) (pc := 18) dX8_cutTo_18 (by decide) ?_
  refine go_iload_n (pc := 20) dX8_cutTo_20 rfl ?_
  refine go_imul (pc := 21) dX8_cutTo_21 ?_
  refine go_iload_n (pc := 22) dX8_cutTo_22 rfl ?_
  refine go_iadd (pc := 23) dX8_cutTo_23 ?_
  refine go_lload_n (pc := 24) dX8_cutTo_24 rfl ?_
  refine go_iload (pc := 25) dX8_cutTo_25 rfl ?_
  refine go_lshl (pc := 27) dX8_cutTo_27 ?_
  refine go_iload (pc := 28) dX8_cutTo_28 rfl ?_
  refine go_lshr (pc := 30) dX8_cutTo_30 ?_
  rw [num_ix]
  refine go_mstN (pc := 31) hM_q dX8_cutTo_31 (by exact ⟨rfl, by omega⟩) (fun σ hM_q hf9 => ?_)
  have hf_q := hf_q.tr hf9
  refine go_aload_n (pc := 32) dX8_cutTo_32 rfl ?_
  refine go_getf (pc := 33) f_X8_60 dX8_cutTo_33 (by first | exact mo0 hM_q | exact mo1 hM_q | exact mo6 hM_q | exact mo7 hM_q | exact mo8 hM_q | exact mo2 hM_q | exact mo3 hM_q | exact mo4 hM_q | exact mo5 hM_q | exact mo9 hM_q | exact mo10 hM_q | exact mo11 hM_q | exact mo12 hM_q | exact mo13 hM_q | exact mo14 hM_q | exact mo15 hM_q | exact mo16 hM_q) (by rfl) ?_
  refine go_bipush (v := 30) (pc := 36) dX8_cutTo_36 (by decide) ?_
  refine go_iload_n (pc := 38) dX8_cutTo_38 rfl ?_
  refine go_imul (pc := 39) dX8_cutTo_39 ?_
  refine go_iload_n (pc := 40) dX8_cutTo_40 rfl ?_
  refine go_iadd (pc := 41) dX8_cutTo_41 ?_
  rw [num_ix]
  refine go_lald (pc := 42) dX8_cutTo_42 (by first | exact mo0 hM_q | exact mo1 hM_q | exact mo6 hM_q | exact mo7 hM_q | exact mo8 hM_q | exact mo2 hM_q | exact mo3 hM_q | exact mo4 hM_q | exact mo5 hM_q | exact mo9 hM_q | exact mo10 hM_q | exact mo11 hM_q | exact mo12 hM_q | exact mo13 hM_q | exact mo14 hM_q | exact mo15 hM_q | exact mo16 hM_q) (by exact ⟨rfl, by omega⟩) ?_
  exact go_lretI (pc := 43) rfl dX8_cutTo_43 (Nat.le_of_ble_eq_true rfl) (Nat.le_of_ble_eq_true rfl) ⟨pk_uLs, rfl, _, hM_q, hA_q, hf_q⟩
theorem sp_write {Γ : gam} {z0 : sto} {n k r : Nat} {F K : row} {A : Nat → row} {Nm : Nat → Int64} (hM_q : MoAt Γ z0 r F K A Nm) (hk : 14 ≤ k) (hT0 : okT (A 14) (A 15)) (t z : Int32) (v : Int64) : Sp Γ (rmk k 0 0) uX8_write [.ref r, .int t, .int z, .long v] z0 n (qL fun v' σ' n' => (wrT (A 14) (A 15) t.toInt z.toInt ≠ 0 ∧ v' = 0 ∧ apG Γ r F K A Nm z0 n (wrT (A 14) (A 15) t.toInt z.toInt) [] (fun _ F' => F' 6 = F 6) σ' n') ∨ (wrT (A 14) (A 15) t.toInt z.toInt = 0 ∧ v' = cutV (A 14 t.toInt.toNat) v ∧ apG Γ r F K A (vp_updL Nm (30 * t.toInt.toNat + z.toInt.toNat) (cutV (A 14 t.toInt.toNat) v)) z0 n 0 [] (fun _ F' => F' 6 = F 6) σ' n')) := by
  have hA_q : eqx [] A A := eqx.rf
  have hf_q : fr r (r + 16) z0 z0 := fr.rf
  refine sp_intro [some (.ref r), some (.int t), some (.int z), some (.long v), none] (by decide +kernel) rfl (Nat.le_of_ble_eq_true rfl) rfl ?_
  rcases tyF_c (g := A 14) (t := t.toInt) with h1_q | h1_q | ⟨h1_q, j1_q, hj1, ej1, hg⟩
  · have h0_q : wrT (A 14) (A 15) t.toInt z.toInt = 1 := by rw [wrT, h1_q]; rfl
    refine go_aload_n (pc := 0) dX8_write_0 rfl ?_
    refine go_aload_n (pc := 1) dX8_write_1 rfl ?_
    refine go_iload_n (pc := 2) dX8_write_2 rfl ?_
    refine go_V1P (pc := 3) v_X8_364 rfl rfl (rcv_of (ci := 8) (by first | exact mo0 hM_q | exact mo1 hM_q | exact mo6 hM_q | exact mo7 hM_q | exact mo8 hM_q | exact mo2 hM_q | exact mo3 hM_q | exact mo4 hM_q | exact mo5 hM_q | exact mo9 hM_q | exact mo10 hM_q | exact mo11 hM_q | exact mo12 hM_q | exact mo13 hM_q | exact mo14 hM_q | exact mo15 hM_q | exact mo16 hM_q) rfl) dX8_write_3 (sp_trayFault (k := k - 1) hM_q (by omega) _) ?_
    rw [h1_q]
    refine go_mpf4 (pc := 6) hM_q dX8_write_6 (fun σ hM_q hf9 => ?_)
    have hf_q := hf_q.tr hf9
    refine go_aload_n (pc := 9) dX8_write_9 rfl ?_
    refine go_getf (pc := 10) f_X8_64 dX8_write_10 (by first | exact mo0 hM_q | exact mo1 hM_q | exact mo6 hM_q | exact mo7 hM_q | exact mo8 hM_q | exact mo2 hM_q | exact mo3 hM_q | exact mo4 hM_q | exact mo5 hM_q | exact mo9 hM_q | exact mo10 hM_q | exact mo11 hM_q | exact mo12 hM_q | exact mo13 hM_q | exact mo14 hM_q | exact mo15 hM_q | exact mo16 hM_q) (by rfl) ?_
    refine go_if_le (tgt := 18) (pc := 13) dX8_write_13 (by decide) (fun h_13 => by exfalso; exact absurd (show (1 : Int32) ≤ 0 from h_13) (by decide)) (fun h_13 => ?_)
    refine go_lconst (v := 0) (pc := 16) dX8_write_16 rfl ?_
    exact go_lretI (pc := 17) rfl dX8_write_17 (Nat.le_of_ble_eq_true rfl) (Nat.le_of_ble_eq_true rfl) (Or.inl ⟨(by rw [h0_q]; decide), rfl, ⟨rfl, _, _, hM_q, (by rw [h0_q]; rfl), (fun j h1_q h2_q h3_q h4_q => by simp [upd, h1_q, h2_q, h3_q, h4_q]), eqx.rf, hf_q, rfl⟩⟩)
  · have h0_q : wrT (A 14) (A 15) t.toInt z.toInt = 2 := by rw [wrT, h1_q]; rfl
    refine go_aload_n (pc := 0) dX8_write_0 rfl ?_
    refine go_aload_n (pc := 1) dX8_write_1 rfl ?_
    refine go_iload_n (pc := 2) dX8_write_2 rfl ?_
    refine go_V1P (pc := 3) v_X8_364 rfl rfl (rcv_of (ci := 8) (by first | exact mo0 hM_q | exact mo1 hM_q | exact mo6 hM_q | exact mo7 hM_q | exact mo8 hM_q | exact mo2 hM_q | exact mo3 hM_q | exact mo4 hM_q | exact mo5 hM_q | exact mo9 hM_q | exact mo10 hM_q | exact mo11 hM_q | exact mo12 hM_q | exact mo13 hM_q | exact mo14 hM_q | exact mo15 hM_q | exact mo16 hM_q) rfl) dX8_write_3 (sp_trayFault (k := k - 1) hM_q (by omega) _) ?_
    rw [h1_q]
    refine go_mpf4 (pc := 6) hM_q dX8_write_6 (fun σ hM_q hf9 => ?_)
    have hf_q := hf_q.tr hf9
    refine go_aload_n (pc := 9) dX8_write_9 rfl ?_
    refine go_getf (pc := 10) f_X8_64 dX8_write_10 (by first | exact mo0 hM_q | exact mo1 hM_q | exact mo6 hM_q | exact mo7 hM_q | exact mo8 hM_q | exact mo2 hM_q | exact mo3 hM_q | exact mo4 hM_q | exact mo5 hM_q | exact mo9 hM_q | exact mo10 hM_q | exact mo11 hM_q | exact mo12 hM_q | exact mo13 hM_q | exact mo14 hM_q | exact mo15 hM_q | exact mo16 hM_q) (by rfl) ?_
    refine go_if_le (tgt := 18) (pc := 13) dX8_write_13 (by decide) (fun h_13 => by exfalso; exact absurd (show (2 : Int32) ≤ 0 from h_13) (by decide)) (fun h_13 => ?_)
    refine go_lconst (v := 0) (pc := 16) dX8_write_16 rfl ?_
    exact go_lretI (pc := 17) rfl dX8_write_17 (Nat.le_of_ble_eq_true rfl) (Nat.le_of_ble_eq_true rfl) (Or.inl ⟨(by rw [h0_q]; decide), rfl, ⟨rfl, _, _, hM_q, (by rw [h0_q]; rfl), (fun j h1_q h2_q h3_q h4_q => by simp [upd, h1_q, h2_q, h3_q, h4_q]), eqx.rf, hf_q, rfl⟩⟩)
  · have e0 : t.toInt.toNat = j1_q := by rw [ej1]; rfl
    obtain rfl := I_nat ej1 (by omega)
    obtain ⟨M, hM30, eM_q⟩ := (hT0 j1_q hj1).1
    have eMc : (A 15 j1_q).toNatClampNeg = M := by rw [eM_q, nI_clamp (by omega)]
    cases hz_q : pN M z.toInt with
    | none =>
      have h0_q : wrT (A 14) (A 15) (nI j1_q).toInt z.toInt = 3 := by rw [wrT, h1_q, e0, eMc, hz_q]; rfl
      refine go_aload_n (pc := 0) dX8_write_0 rfl ?_
      refine go_aload_n (pc := 1) dX8_write_1 rfl ?_
      refine go_iload_n (pc := 2) dX8_write_2 rfl ?_
      refine go_V1P (pc := 3) v_X8_364 rfl rfl (rcv_of (ci := 8) (by first | exact mo0 hM_q | exact mo1 hM_q | exact mo6 hM_q | exact mo7 hM_q | exact mo8 hM_q | exact mo2 hM_q | exact mo3 hM_q | exact mo4 hM_q | exact mo5 hM_q | exact mo9 hM_q | exact mo10 hM_q | exact mo11 hM_q | exact mo12 hM_q | exact mo13 hM_q | exact mo14 hM_q | exact mo15 hM_q | exact mo16 hM_q) rfl) dX8_write_3 (sp_trayFault (k := k - 1) hM_q (by omega) _) ?_
      rw [h1_q]
      refine go_mpf4 (pc := 6) hM_q dX8_write_6 (fun σ hM_q hf9 => ?_)
      have hf_q := hf_q.tr hf9
      refine go_aload_n (pc := 9) dX8_write_9 rfl ?_
      refine go_getf (pc := 10) f_X8_64 dX8_write_10 (by first | exact mo0 hM_q | exact mo1 hM_q | exact mo6 hM_q | exact mo7 hM_q | exact mo8 hM_q | exact mo2 hM_q | exact mo3 hM_q | exact mo4 hM_q | exact mo5 hM_q | exact mo9 hM_q | exact mo10 hM_q | exact mo11 hM_q | exact mo12 hM_q | exact mo13 hM_q | exact mo14 hM_q | exact mo15 hM_q | exact mo16 hM_q) (by rfl) ?_
      refine go_if_le (tgt := 18) (pc := 13) dX8_write_13 (by decide) (fun h_13 => ?_) (fun h_13 => by exfalso; exact h_13 (show (0 : Int32) ≤ 0 from by decide))
      refine go_iload_n (pc := 18) dX8_write_18 rfl ?_
      refine go_i2l (pc := 19) dX8_write_19 ?_
      refine go_lconst (v := 0) (pc := 20) dX8_write_20 rfl ?_
      refine go_aload_n (pc := 21) dX8_write_21 rfl ?_
      refine go_getf (pc := 22) f_X8_57 dX8_write_22 (by first | exact mo0 hM_q | exact mo1 hM_q | exact mo6 hM_q | exact mo7 hM_q | exact mo8 hM_q | exact mo2 hM_q | exact mo3 hM_q | exact mo4 hM_q | exact mo5 hM_q | exact mo9 hM_q | exact mo10 hM_q | exact mo11 hM_q | exact mo12 hM_q | exact mo13 hM_q | exact mo14 hM_q | exact mo15 hM_q | exact mo16 hM_q) (by rfl) ?_
      refine go_iload_n (pc := 25) dX8_write_25 rfl ?_
      refine go_iald (pc := 26) dX8_write_26 (by first | exact mo0 hM_q | exact mo1 hM_q | exact mo6 hM_q | exact mo7 hM_q | exact mo8 hM_q | exact mo2 hM_q | exact mo3 hM_q | exact mo4 hM_q | exact mo5 hM_q | exact mo9 hM_q | exact mo10 hM_q | exact mo11 hM_q | exact mo12 hM_q | exact mo13 hM_q | exact mo14 hM_q | exact mo15 hM_q | exact mo16 hM_q) (by exact ⟨rfl, by omega⟩) ?_
      refine go_iconst (v := 1) (pc := 27) dX8_write_27 (by decide) ?_
      refine go_isub (pc := 28) dX8_write_28 ?_
      refine go_i2l (pc := 29) dX8_write_29 ?_
      refine go_S3P (pc := 30) s_X8_125 rfl rfl dX8_write_30 (sp_within (k := k - 1) _ _ _) ?_
      refine go_if_eq (tgt := 46) (pc := 33) dX8_write_33 (by decide) (fun h_33 => ?_) (fun h_33 => by exfalso; exact h_33 (pi_no eM_q (by omega) hz_q))
      refine go_aload_n (pc := 46) dX8_write_46 rfl ?_
      refine go_iconst (v := 3) (pc := 47) dX8_write_47 (by decide) ?_
      refine go_V1I (pc := 48) v_X8_231 rfl rfl (rcv_of (ci := 8) (by first | exact mo0 hM_q | exact mo1 hM_q | exact mo6 hM_q | exact mo7 hM_q | exact mo8 hM_q | exact mo2 hM_q | exact mo3 hM_q | exact mo4 hM_q | exact mo5 hM_q | exact mo9 hM_q | exact mo10 hM_q | exact mo11 hM_q | exact mo12 hM_q | exact mo13 hM_q | exact mo14 hM_q | exact mo15 hM_q | exact mo16 hM_q) rfl) dX8_write_48 (sp_fails (k := k - 1) hM_q _) (fun v_48 σ n h_q => ?_)
      obtain ⟨rfl, rfl, A1, hM_q, hA1, hf1⟩ := h_q
      have hA_q := eqx.tr (A := A) (L := []) (by repeat (first | assumption | exact eqx.rf | refine eqx.up ?_ (by decide))) (hA1.wk (by decide))
      have hf_q := hf_q.tr hf1
      refine go_i2l (pc := 51) dX8_write_51 ?_
      exact go_lretI (pc := 52) rfl dX8_write_52 (Nat.le_of_ble_eq_true rfl) (Nat.le_of_ble_eq_true rfl) (Or.inl ⟨(by rw [h0_q]; decide), rfl, ⟨rfl, _, _, hM_q, (by rw [h0_q]; rfl), (fun j h1_q h2_q h3_q h4_q => by simp [upd, h1_q, h2_q, h3_q, h4_q]), (by repeat (first | assumption | exact eqx.rf)), hf_q, rfl⟩⟩)
    | some i1 =>
      have hz1 := pN_some hz_q
      have e3_q : z.toInt.toNat = i1 := by rw [hz1.1]; rfl
      have h0_q : wrT (A 14) (A 15) (nI j1_q).toInt z.toInt = 0 := by rw [wrT, h1_q, e0, eMc, hz_q]; rfl
      obtain rfl := I_nat hz1.1 (by omega)
      rw [e0, e3_q]
      refine go_aload_n (pc := 0) dX8_write_0 rfl ?_
      refine go_aload_n (pc := 1) dX8_write_1 rfl ?_
      refine go_iload_n (pc := 2) dX8_write_2 rfl ?_
      refine go_V1P (pc := 3) v_X8_364 rfl rfl (rcv_of (ci := 8) (by first | exact mo0 hM_q | exact mo1 hM_q | exact mo6 hM_q | exact mo7 hM_q | exact mo8 hM_q | exact mo2 hM_q | exact mo3 hM_q | exact mo4 hM_q | exact mo5 hM_q | exact mo9 hM_q | exact mo10 hM_q | exact mo11 hM_q | exact mo12 hM_q | exact mo13 hM_q | exact mo14 hM_q | exact mo15 hM_q | exact mo16 hM_q) rfl) dX8_write_3 (sp_trayFault (k := k - 1) hM_q (by omega) _) ?_
      rw [h1_q]
      refine go_mpf4 (pc := 6) hM_q dX8_write_6 (fun σ hM_q hf9 => ?_)
      have hf_q := hf_q.tr hf9
      refine go_aload_n (pc := 9) dX8_write_9 rfl ?_
      refine go_getf (pc := 10) f_X8_64 dX8_write_10 (by first | exact mo0 hM_q | exact mo1 hM_q | exact mo6 hM_q | exact mo7 hM_q | exact mo8 hM_q | exact mo2 hM_q | exact mo3 hM_q | exact mo4 hM_q | exact mo5 hM_q | exact mo9 hM_q | exact mo10 hM_q | exact mo11 hM_q | exact mo12 hM_q | exact mo13 hM_q | exact mo14 hM_q | exact mo15 hM_q | exact mo16 hM_q) (by rfl) ?_
      refine go_if_le (tgt := 18) (pc := 13) dX8_write_13 (by decide) (fun h_13 => ?_) (fun h_13 => by exfalso; exact h_13 (show (0 : Int32) ≤ 0 from by decide))
      refine go_iload_n (pc := 18) dX8_write_18 rfl ?_
      refine go_i2l (pc := 19) dX8_write_19 ?_
      refine go_lconst (v := 0) (pc := 20) dX8_write_20 rfl ?_
      refine go_aload_n (pc := 21) dX8_write_21 rfl ?_
      refine go_getf (pc := 22) f_X8_57 dX8_write_22 (by first | exact mo0 hM_q | exact mo1 hM_q | exact mo6 hM_q | exact mo7 hM_q | exact mo8 hM_q | exact mo2 hM_q | exact mo3 hM_q | exact mo4 hM_q | exact mo5 hM_q | exact mo9 hM_q | exact mo10 hM_q | exact mo11 hM_q | exact mo12 hM_q | exact mo13 hM_q | exact mo14 hM_q | exact mo15 hM_q | exact mo16 hM_q) (by rfl) ?_
      refine go_iload_n (pc := 25) dX8_write_25 rfl ?_
      refine go_iald (pc := 26) dX8_write_26 (by first | exact mo0 hM_q | exact mo1 hM_q | exact mo6 hM_q | exact mo7 hM_q | exact mo8 hM_q | exact mo2 hM_q | exact mo3 hM_q | exact mo4 hM_q | exact mo5 hM_q | exact mo9 hM_q | exact mo10 hM_q | exact mo11 hM_q | exact mo12 hM_q | exact mo13 hM_q | exact mo14 hM_q | exact mo15 hM_q | exact mo16 hM_q) (by exact ⟨rfl, by omega⟩) ?_
      refine go_iconst (v := 1) (pc := 27) dX8_write_27 (by decide) ?_
      refine go_isub (pc := 28) dX8_write_28 ?_
      refine go_i2l (pc := 29) dX8_write_29 ?_
      refine go_S3P (pc := 30) s_X8_125 rfl rfl dX8_write_30 (sp_within (k := k - 1) _ _ _) ?_
      refine go_if_eq (tgt := 46) (pc := 33) dX8_write_33 (by decide) (fun h_33 => by exfalso; rw [pi_yes eM_q (by omega) hz_q] at h_33; exact absurd h_33 (by decide)) (fun h_33 => ?_)
      refine go_aload_n (pc := 36) dX8_write_36 rfl ?_
      refine go_iload_n (pc := 37) dX8_write_37 rfl ?_
      refine go_iload_n (pc := 38) dX8_write_38 rfl ?_
      refine go_lload_n (pc := 39) dX8_write_39 rfl ?_
      refine go_V3L (pc := 40) v_X8_471 rfl rfl (rcv_of (ci := 8) (by first | exact mo0 hM_q | exact mo1 hM_q | exact mo6 hM_q | exact mo7 hM_q | exact mo8 hM_q | exact mo2 hM_q | exact mo3 hM_q | exact mo4 hM_q | exact mo5 hM_q | exact mo9 hM_q | exact mo10 hM_q | exact mo11 hM_q | exact mo12 hM_q | exact mo13 hM_q | exact mo14 hM_q | exact mo15 hM_q | exact mo16 hM_q) rfl) dX8_write_40 (sp_cutTo (k := k - 1) hM_q (by omega) (by omega) _) (fun v_40 σ n h_q => ?_)
      obtain ⟨rfl, rfl, A1, hM_q, hA1, hf1⟩ := h_q
      have hA_q := eqx.tr (A := A) (L := []) (by repeat (first | assumption | exact eqx.rf | refine eqx.up ?_ (by decide))) (hA1.wk (by decide))
      have hf_q := hf_q.tr hf1
      refine go_goto (tgt := 52) (pc := 43) dX8_write_43 (by decide) ?_
      exact go_lretI (pc := 52) rfl dX8_write_52 (Nat.le_of_ble_eq_true rfl) (Nat.le_of_ble_eq_true rfl) (Or.inr ⟨h0_q, rfl, ⟨rfl, _, _, hM_q, rfl, (fun j h1_q h2_q h3_q h4_q => by simp [upd, h1_q, h2_q, h3_q, h4_q]), hA_q, hf_q, rfl⟩⟩)
theorem sp_copy {Γ : gam} {z0 : sto} {n k r : Nat} {F K : row} {A : Nat → row} {Nm : Nat → Int64} (hM_q : MoAt Γ z0 r F K A Nm) (hk : 14 ≤ k) (hB_q : okB K) (hv_q : vS K) (hT0 : okT (A 14) (A 15)) (t p : Int32) : Sp Γ (rmk k 0 0) uX8_copy [.ref r, .int t, .int p] z0 n (qI fun v' σ' n' => (cpT K (A 14) t.toInt p.toInt ≠ 0 ∧ v' = 0 ∧ apG Γ r F K A Nm z0 n (cpT K (A 14) t.toInt p.toInt) [] (fun _ F' => F' 6 = F 6) σ' n') ∨ (cpT K (A 14) t.toInt p.toInt = 0 ∧ v' = A 15 t.toInt.toNat ∧ apG Γ r F K A (cpF (A 14 t.toInt.toNat) t.toInt.toNat p.toInt.toNat (A 15 t.toInt.toNat).toNatClampNeg 0 K Nm) z0 n 0 [6, 7, 8, 9, 10, 11, 12, 13] (fun _ F' => F' 6 = F 6) σ' n')) := by
  have hP8 := hB_q.1.2.1
  have hH5 := hB_q.1.2.2.2.1
  have hA_q : eqx [6, 7, 8, 9, 10, 11, 12, 13] A A := eqx.rf
  have hf_q : fr r (r + 16) z0 z0 := fr.rf
  refine sp_intro [some (.ref r), some (.int t), some (.int p), none] (by decide +kernel) rfl (Nat.le_of_ble_eq_true rfl) rfl ?_
  cases ht_q : pN 4 t.toInt with
  | none =>
    have h0_q : cpT K (A 14) t.toInt p.toInt = 1 := by simp only [cpT, ht_q]
    refine go_aload_n (pc := 0) dX8_copy_0 rfl ?_
    refine go_iload_n (pc := 1) dX8_copy_1 rfl ?_
    refine go_S1P (pc := 2) s_X8_349 rfl rfl dX8_copy_2 (sp_isTray (k := k - 1) (by omega) _) ?_
    refine go_if_eq (tgt := 17) (pc := 5) dX8_copy_5 (by decide) (fun h_5 => ?_) (fun h_5 => by exfalso; exact h_5 (tw_no ht_q))
    refine go_iconst (v := 1) (pc := 17) dX8_copy_17 (by decide) ?_
    refine go_goto (tgt := 36) (pc := 18) dX8_copy_18 (by decide) ?_
    refine go_mpf4 (pc := 36) hM_q dX8_copy_36 (fun σ hM_q hf9 => ?_)
    have hf_q := hf_q.tr hf9
    refine go_aload_n (pc := 39) dX8_copy_39 rfl ?_
    refine go_getf (pc := 40) f_X8_64 dX8_copy_40 (by first | exact mo0 hM_q | exact mo1 hM_q | exact mo6 hM_q | exact mo7 hM_q | exact mo8 hM_q | exact mo2 hM_q | exact mo3 hM_q | exact mo4 hM_q | exact mo5 hM_q | exact mo9 hM_q | exact mo10 hM_q | exact mo11 hM_q | exact mo12 hM_q | exact mo13 hM_q | exact mo14 hM_q | exact mo15 hM_q | exact mo16 hM_q) (by rfl) ?_
    refine go_if_le (tgt := 48) (pc := 43) dX8_copy_43 (by decide) (fun h_43 => by exfalso; exact absurd (show (1 : Int32) ≤ 0 from h_43) (by decide)) (fun h_43 => ?_)
    refine go_iconst (v := 0) (pc := 46) dX8_copy_46 (by decide) ?_
    exact go_iretI (pc := 47) rfl dX8_copy_47 (Nat.le_of_ble_eq_true rfl) (Nat.le_of_ble_eq_true rfl) (Or.inl ⟨(by rw [h0_q]; decide), rfl, ⟨rfl, _, _, hM_q, (by rw [h0_q]; rfl), (fun j h1_q h2_q h3_q h4_q => by simp [upd, h1_q, h2_q, h3_q, h4_q]), eqx.rf, hf_q, rfl⟩⟩)
  | some j1_q =>
    have ht1 := pN_some ht_q
    have e0 : t.toInt.toNat = j1_q := by rw [ht1.1]; rfl
    obtain rfl := I_nat ht1.1 (by omega)
    cases hp_q : pN (kP K) p.toInt with
    | none =>
      have h0_q : cpT K (A 14) (nI j1_q).toInt p.toInt = 1 := by simp only [cpT, ht_q, hp_q]
      refine go_aload_n (pc := 0) dX8_copy_0 rfl ?_
      refine go_iload_n (pc := 1) dX8_copy_1 rfl ?_
      refine go_S1P (pc := 2) s_X8_349 rfl rfl dX8_copy_2 (sp_isTray (k := k - 1) (by omega) _) ?_
      refine go_if_eq (tgt := 17) (pc := 5) dX8_copy_5 (by decide) (fun h_5 => by exfalso; rw [tw_yes ht_q] at h_5; exact absurd h_5 (by decide)) (fun h_5 => ?_)
      refine go_aload_n (pc := 8) dX8_copy_8 rfl ?_
      refine go_iload_n (pc := 9) dX8_copy_9 rfl ?_
      refine go_i2l (pc := 10) dX8_copy_10 ?_
      refine go_V1P (pc := 11) v_X8_310 rfl rfl (rcv_of (ci := 8) (by first | exact mo0 hM_q | exact mo1 hM_q | exact mo6 hM_q | exact mo7 hM_q | exact mo8 hM_q | exact mo2 hM_q | exact mo3 hM_q | exact mo4 hM_q | exact mo5 hM_q | exact mo9 hM_q | exact mo10 hM_q | exact mo11 hM_q | exact mo12 hM_q | exact mo13 hM_q | exact mo14 hM_q | exact mo15 hM_q | exact mo16 hM_q) rfl) dX8_copy_11 (sp_isPerson (k := k - 1) hM_q (by omega) _) ?_
      refine go_if_ne (tgt := 21) (pc := 14) dX8_copy_14 (by decide) (fun h_14 => by exfalso; exact h_14 (pi_no hB_q.1.1 (by omega) hp_q)) (fun h_14 => ?_)
      refine go_iconst (v := 1) (pc := 17) dX8_copy_17 (by decide) ?_
      refine go_goto (tgt := 36) (pc := 18) dX8_copy_18 (by decide) ?_
      refine go_mpf4 (pc := 36) hM_q dX8_copy_36 (fun σ hM_q hf9 => ?_)
      have hf_q := hf_q.tr hf9
      refine go_aload_n (pc := 39) dX8_copy_39 rfl ?_
      refine go_getf (pc := 40) f_X8_64 dX8_copy_40 (by first | exact mo0 hM_q | exact mo1 hM_q | exact mo6 hM_q | exact mo7 hM_q | exact mo8 hM_q | exact mo2 hM_q | exact mo3 hM_q | exact mo4 hM_q | exact mo5 hM_q | exact mo9 hM_q | exact mo10 hM_q | exact mo11 hM_q | exact mo12 hM_q | exact mo13 hM_q | exact mo14 hM_q | exact mo15 hM_q | exact mo16 hM_q) (by rfl) ?_
      refine go_if_le (tgt := 48) (pc := 43) dX8_copy_43 (by decide) (fun h_43 => by exfalso; exact absurd (show (1 : Int32) ≤ 0 from h_43) (by decide)) (fun h_43 => ?_)
      refine go_iconst (v := 0) (pc := 46) dX8_copy_46 (by decide) ?_
      exact go_iretI (pc := 47) rfl dX8_copy_47 (Nat.le_of_ble_eq_true rfl) (Nat.le_of_ble_eq_true rfl) (Or.inl ⟨(by rw [h0_q]; decide), rfl, ⟨rfl, _, _, hM_q, (by rw [h0_q]; rfl), (fun j h1_q h2_q h3_q h4_q => by simp [upd, h1_q, h2_q, h3_q, h4_q]), eqx.rf, hf_q, rfl⟩⟩)
    | some p1 =>
      have hp1 := pN_some hp_q
      have e1_q : p.toInt.toNat = p1 := by rw [hp1.1]; rfl
      obtain rfl := I_nat hp1.1 (by omega)
      by_cases hg : A 14 j1_q = -1
      · have h0_q : cpT K (A 14) (nI j1_q).toInt (nI p1).toInt = 2 := by simp only [cpT, ht_q, hp_q]; exact if_pos hg
        refine go_aload_n (pc := 0) dX8_copy_0 rfl ?_
        refine go_iload_n (pc := 1) dX8_copy_1 rfl ?_
        refine go_S1P (pc := 2) s_X8_349 rfl rfl dX8_copy_2 (sp_isTray (k := k - 1) (by omega) _) ?_
        refine go_if_eq (tgt := 17) (pc := 5) dX8_copy_5 (by decide) (fun h_5 => by exfalso; rw [tw_yes ht_q] at h_5; exact absurd h_5 (by decide)) (fun h_5 => ?_)
        refine go_aload_n (pc := 8) dX8_copy_8 rfl ?_
        refine go_iload_n (pc := 9) dX8_copy_9 rfl ?_
        refine go_i2l (pc := 10) dX8_copy_10 ?_
        refine go_V1P (pc := 11) v_X8_310 rfl rfl (rcv_of (ci := 8) (by first | exact mo0 hM_q | exact mo1 hM_q | exact mo6 hM_q | exact mo7 hM_q | exact mo8 hM_q | exact mo2 hM_q | exact mo3 hM_q | exact mo4 hM_q | exact mo5 hM_q | exact mo9 hM_q | exact mo10 hM_q | exact mo11 hM_q | exact mo12 hM_q | exact mo13 hM_q | exact mo14 hM_q | exact mo15 hM_q | exact mo16 hM_q) rfl) dX8_copy_11 (sp_isPerson (k := k - 1) hM_q (by omega) _) ?_
        refine go_if_ne (tgt := 21) (pc := 14) dX8_copy_14 (by decide) (fun h_14 => ?_) (fun h_14 => by exfalso; rw [pi_yes hB_q.1.1 (by omega) hp_q] at h_14; exact absurd h_14 (by decide))
        refine go_aload_n (pc := 21) dX8_copy_21 rfl ?_
        refine go_getf (pc := 22) f_X8_54 dX8_copy_22 (by first | exact mo0 hM_q | exact mo1 hM_q | exact mo6 hM_q | exact mo7 hM_q | exact mo8 hM_q | exact mo2 hM_q | exact mo3 hM_q | exact mo4 hM_q | exact mo5 hM_q | exact mo9 hM_q | exact mo10 hM_q | exact mo11 hM_q | exact mo12 hM_q | exact mo13 hM_q | exact mo14 hM_q | exact mo15 hM_q | exact mo16 hM_q) (by rfl) ?_
        refine go_iload_n (pc := 25) dX8_copy_25 rfl ?_
        refine go_iald (pc := 26) dX8_copy_26 (by first | exact mo0 hM_q | exact mo1 hM_q | exact mo6 hM_q | exact mo7 hM_q | exact mo8 hM_q | exact mo2 hM_q | exact mo3 hM_q | exact mo4 hM_q | exact mo5 hM_q | exact mo9 hM_q | exact mo10 hM_q | exact mo11 hM_q | exact mo12 hM_q | exact mo13 hM_q | exact mo14 hM_q | exact mo15 hM_q | exact mo16 hM_q) (by exact ⟨rfl, by omega⟩) ?_
        refine go_iconst (v := -1) (pc := 27) dX8_copy_27 (by decide) ?_
        refine go_icmp_ne (tgt := 35) (pc := 28) dX8_copy_28 (by decide) (fun h_28 => by exfalso; exact h_28 hg) (fun h_28 => ?_)
        refine go_iconst (v := 2) (pc := 31) dX8_copy_31 (by decide) ?_
        refine go_goto (tgt := 36) (pc := 32) dX8_copy_32 (by decide) ?_
        refine go_mpf4 (pc := 36) hM_q dX8_copy_36 (fun σ hM_q hf9 => ?_)
        have hf_q := hf_q.tr hf9
        refine go_aload_n (pc := 39) dX8_copy_39 rfl ?_
        refine go_getf (pc := 40) f_X8_64 dX8_copy_40 (by first | exact mo0 hM_q | exact mo1 hM_q | exact mo6 hM_q | exact mo7 hM_q | exact mo8 hM_q | exact mo2 hM_q | exact mo3 hM_q | exact mo4 hM_q | exact mo5 hM_q | exact mo9 hM_q | exact mo10 hM_q | exact mo11 hM_q | exact mo12 hM_q | exact mo13 hM_q | exact mo14 hM_q | exact mo15 hM_q | exact mo16 hM_q) (by rfl) ?_
        refine go_if_le (tgt := 48) (pc := 43) dX8_copy_43 (by decide) (fun h_43 => by exfalso; exact absurd (show (2 : Int32) ≤ 0 from h_43) (by decide)) (fun h_43 => ?_)
        refine go_iconst (v := 0) (pc := 46) dX8_copy_46 (by decide) ?_
        exact go_iretI (pc := 47) rfl dX8_copy_47 (Nat.le_of_ble_eq_true rfl) (Nat.le_of_ble_eq_true rfl) (Or.inl ⟨(by rw [h0_q]; decide), rfl, ⟨rfl, _, _, hM_q, (by rw [h0_q]; rfl), (fun j h1_q h2_q h3_q h4_q => by simp [upd, h1_q, h2_q, h3_q, h4_q]), eqx.rf, hf_q, rfl⟩⟩)
      · have h0_q : cpT K (A 14) (nI j1_q).toInt (nI p1).toInt = 0 := by simp only [cpT, ht_q, hp_q]; exact if_neg hg
        obtain ⟨M, hM30, eM_q⟩ := (hT0 j1_q ht1.2).1
        rw [e0, e1_q, eM_q, nI_clamp (by omega)]
        refine go_aload_n (pc := 0) dX8_copy_0 rfl ?_
        refine go_iload_n (pc := 1) dX8_copy_1 rfl ?_
        refine go_S1P (pc := 2) s_X8_349 rfl rfl dX8_copy_2 (sp_isTray (k := k - 1) (by omega) _) ?_
        refine go_if_eq (tgt := 17) (pc := 5) dX8_copy_5 (by decide) (fun h_5 => by exfalso; rw [tw_yes ht_q] at h_5; exact absurd h_5 (by decide)) (fun h_5 => ?_)
        refine go_aload_n (pc := 8) dX8_copy_8 rfl ?_
        refine go_iload_n (pc := 9) dX8_copy_9 rfl ?_
        refine go_i2l (pc := 10) dX8_copy_10 ?_
        refine go_V1P (pc := 11) v_X8_310 rfl rfl (rcv_of (ci := 8) (by first | exact mo0 hM_q | exact mo1 hM_q | exact mo6 hM_q | exact mo7 hM_q | exact mo8 hM_q | exact mo2 hM_q | exact mo3 hM_q | exact mo4 hM_q | exact mo5 hM_q | exact mo9 hM_q | exact mo10 hM_q | exact mo11 hM_q | exact mo12 hM_q | exact mo13 hM_q | exact mo14 hM_q | exact mo15 hM_q | exact mo16 hM_q) rfl) dX8_copy_11 (sp_isPerson (k := k - 1) hM_q (by omega) _) ?_
        refine go_if_ne (tgt := 21) (pc := 14) dX8_copy_14 (by decide) (fun h_14 => ?_) (fun h_14 => by exfalso; rw [pi_yes hB_q.1.1 (by omega) hp_q] at h_14; exact absurd h_14 (by decide))
        refine go_aload_n (pc := 21) dX8_copy_21 rfl ?_
        refine go_getf (pc := 22) f_X8_54 dX8_copy_22 (by first | exact mo0 hM_q | exact mo1 hM_q | exact mo6 hM_q | exact mo7 hM_q | exact mo8 hM_q | exact mo2 hM_q | exact mo3 hM_q | exact mo4 hM_q | exact mo5 hM_q | exact mo9 hM_q | exact mo10 hM_q | exact mo11 hM_q | exact mo12 hM_q | exact mo13 hM_q | exact mo14 hM_q | exact mo15 hM_q | exact mo16 hM_q) (by rfl) ?_
        refine go_iload_n (pc := 25) dX8_copy_25 rfl ?_
        refine go_iald (pc := 26) dX8_copy_26 (by first | exact mo0 hM_q | exact mo1 hM_q | exact mo6 hM_q | exact mo7 hM_q | exact mo8 hM_q | exact mo2 hM_q | exact mo3 hM_q | exact mo4 hM_q | exact mo5 hM_q | exact mo9 hM_q | exact mo10 hM_q | exact mo11 hM_q | exact mo12 hM_q | exact mo13 hM_q | exact mo14 hM_q | exact mo15 hM_q | exact mo16 hM_q) (by exact ⟨rfl, by omega⟩) ?_
        refine go_iconst (v := -1) (pc := 27) dX8_copy_27 (by decide) ?_
        refine go_icmp_ne (tgt := 35) (pc := 28) dX8_copy_28 (by decide) (fun h_28 => ?_) (fun h_28 => by exfalso; exact hg h_28)
        refine go_iconst (v := 0) (pc := 35) dX8_copy_35 (by decide) ?_
        refine go_mpf4 (pc := 36) hM_q dX8_copy_36 (fun σ hM_q hf9 => ?_)
        have hf_q := hf_q.tr hf9
        refine go_aload_n (pc := 39) dX8_copy_39 rfl ?_
        refine go_getf (pc := 40) f_X8_64 dX8_copy_40 (by first | exact mo0 hM_q | exact mo1 hM_q | exact mo6 hM_q | exact mo7 hM_q | exact mo8 hM_q | exact mo2 hM_q | exact mo3 hM_q | exact mo4 hM_q | exact mo5 hM_q | exact mo9 hM_q | exact mo10 hM_q | exact mo11 hM_q | exact mo12 hM_q | exact mo13 hM_q | exact mo14 hM_q | exact mo15 hM_q | exact mo16 hM_q) (by rfl) ?_
        refine go_if_le (tgt := 48) (pc := 43) dX8_copy_43 (by decide) (fun h_43 => ?_) (fun h_43 => by exfalso; exact h_43 (show (0 : Int32) ≤ 0 from by decide))
        refine go_aload_n (pc := 48) dX8_copy_48 rfl ?_
        refine go_V0V (pc := 49) v_X8_369 rfl rfl (rcv_of (ci := 8) (by first | exact mo0 hM_q | exact mo1 hM_q | exact mo6 hM_q | exact mo7 hM_q | exact mo8 hM_q | exact mo2 hM_q | exact mo3 hM_q | exact mo4 hM_q | exact mo5 hM_q | exact mo9 hM_q | exact mo10 hM_q | exact mo11 hM_q | exact mo12 hM_q | exact mo13 hM_q | exact mo14 hM_q | exact mo15 hM_q | exact mo16 hM_q) rfl) dX8_copy_49 (sp_putsAside (k := k - 1) hM_q) (fun σ n h_q => ?_)
        obtain ⟨rfl, A1, hM_q, hA1, hf1, hG_q⟩ := h_q
        have hA_q := eqx.tr (A := A) (L := [6, 7, 8, 9, 10, 11, 12, 13]) (by repeat (first | assumption | exact eqx.rf | refine eqx.up ?_ (by decide))) (hA1.wk (by decide))
        have hf_q := hf_q.tr hf1
        refine go_iconst (v := 0) (pc := 52) dX8_copy_52 (by decide) ?_
        refine go_istore_n (lw := [_, _, _, _]) (pc := 53) dX8_copy_53 (by decide) rfl ?_
        refine go_iter (M) (fun i_q lv9 s9 n9 => ∃ (N9 : Nat → Int64), ∃ A9_q, lv9 = [some (.ref r), some (.int (nI j1_q)), some (.int (nI p1)), some (.int (nI i_q))] ∧ (MoAt Γ s9 r (upd F 4 0) (goK i_q K) A9_q N9) ∧ (eqx [6, 7, 8, 9, 10, 11, 12, 13] A A9_q) ∧ (fr r (r + 16) z0 s9) ∧ (∀ j, j < 26 → A9_q 8 j = K (8 + j)) ∧ (cpF (A 14 j1_q) j1_q p1 (M - i_q) i_q (goK i_q K) N9 = cpF (A 14 j1_q) j1_q p1 M 0 K Nm) ∧ n = n9) ⟨Nm, _, rfl, hM_q, hA_q, hf_q, hG_q, rfl, rfl⟩ ?_ ?_
        · rintro i_q lv9 σ n9 hi_q ⟨N9, A9_q, rfl, hM_q, hA_q, hf_q, hG_q, hR_q, rfl⟩ ih_q
          have hS_q : sameB K (goK i_q K) := goK_same (by omega)
          have hB9_q := hS_q.okB hB_q
          have hv9_q : vS (goK i_q K) := vS_go hv_q (by omega) (by omega)
          refine go_iload_n (pc := 54) dX8_copy_54 rfl ?_
          refine go_aload_n (pc := 55) dX8_copy_55 rfl ?_
          refine go_getf (pc := 56) f_X8_57 dX8_copy_56 (by first | exact mo0 hM_q | exact mo1 hM_q | exact mo6 hM_q | exact mo7 hM_q | exact mo8 hM_q | exact mo2 hM_q | exact mo3 hM_q | exact mo4 hM_q | exact mo5 hM_q | exact mo9 hM_q | exact mo10 hM_q | exact mo11 hM_q | exact mo12 hM_q | exact mo13 hM_q | exact mo14 hM_q | exact mo15 hM_q | exact mo16 hM_q) (by rfl) ?_
          refine go_iload_n (pc := 59) dX8_copy_59 rfl ?_
          refine go_iald (pc := 60) dX8_copy_60 (by first | exact mo0 hM_q | exact mo1 hM_q | exact mo6 hM_q | exact mo7 hM_q | exact mo8 hM_q | exact mo2 hM_q | exact mo3 hM_q | exact mo4 hM_q | exact mo5 hM_q | exact mo9 hM_q | exact mo10 hM_q | exact mo11 hM_q | exact mo12 hM_q | exact mo13 hM_q | exact mo14 hM_q | exact mo15 hM_q | exact mo16 hM_q) (by exact ⟨rfl, by omega⟩) ?_
          rw [hA_q 15 (by decide), eM_q]
          refine go_icmp_ge (tgt := 87) (pc := 61) dX8_copy_61 (by decide) (fun h_61 => by exfalso; exact absurd h_61 (nI_ge (by omega) (by omega))) (fun h_61 => ?_)
          have hA14 : A9_q 14 = A 14 := hA_q 14 (by decide)
          refine go_aload_n (pc := 64) dX8_copy_64 rfl ?_
          refine go_iload_n (pc := 65) dX8_copy_65 rfl ?_
          refine go_iload_n (pc := 66) dX8_copy_66 rfl ?_
          refine go_aload_n (pc := 67) dX8_copy_67 rfl ?_
          refine go_iload_n (pc := 68) dX8_copy_68 rfl ?_
          refine go_V1P (pc := 69) v_X8_402 rfl rfl (rcv_of (ci := 8) (by first | exact mo0 hM_q | exact mo1 hM_q | exact mo6 hM_q | exact mo7 hM_q | exact mo8 hM_q | exact mo2 hM_q | exact mo3 hM_q | exact mo4 hM_q | exact mo5 hM_q | exact mo9 hM_q | exact mo10 hM_q | exact mo11 hM_q | exact mo12 hM_q | exact mo13 hM_q | exact mo14 hM_q | exact mo15 hM_q | exact mo16 hM_q) rfl) dX8_copy_69 (sp_placeOf (k := k - 1) hM_q (by omega) (by omega)) ?_
          refine go_i2l (pc := 72) dX8_copy_72 ?_
          refine go_V3L (pc := 73) v_X8_471 rfl rfl (rcv_of (ci := 8) (by first | exact mo0 hM_q | exact mo1 hM_q | exact mo6 hM_q | exact mo7 hM_q | exact mo8 hM_q | exact mo2 hM_q | exact mo3 hM_q | exact mo4 hM_q | exact mo5 hM_q | exact mo9 hM_q | exact mo10 hM_q | exact mo11 hM_q | exact mo12 hM_q | exact mo13 hM_q | exact mo14 hM_q | exact mo15 hM_q | exact mo16 hM_q) rfl) dX8_copy_73 (sp_cutTo (k := k - 1) hM_q (by omega) (by omega) _) (fun v_73 σ n h_q => ?_)
          obtain ⟨rfl, rfl, A1, hM_q, hA1, hf1⟩ := h_q
          have hA_q := eqx.tr (A := A) (L := [6, 7, 8, 9, 10, 11, 12, 13]) (by repeat (first | assumption | exact eqx.rf | refine eqx.up ?_ (by decide))) (hA1.wk (by decide))
          have hf_q := hf_q.tr hf1
          have hG_q : ∀ j, j < 26 → A1 8 j = K (8 + j) := fun j hj_q => by rw [hA1 8 (by decide)]; exact hG_q j hj_q
          refine go_pop2L (pc := 76) dX8_copy_76 rfl ?_
          refine go_aload_n (pc := 77) dX8_copy_77 rfl ?_
          refine go_V0V (pc := 78) v_X8_345 rfl rfl (rcv_of (ci := 8) (by first | exact mo0 hM_q | exact mo1 hM_q | exact mo6 hM_q | exact mo7 hM_q | exact mo8 hM_q | exact mo2 hM_q | exact mo3 hM_q | exact mo4 hM_q | exact mo5 hM_q | exact mo9 hM_q | exact mo10 hM_q | exact mo11 hM_q | exact mo12 hM_q | exact mo13 hM_q | exact mo14 hM_q | exact mo15 hM_q | exact mo16 hM_q) rfl) dX8_copy_78 (sp_minute (k := k - 1) hM_q (by omega) hB9_q hv9_q) (fun σ n h_q => ?_)
          obtain ⟨rfl, A1, hM_q, hA1, hf1⟩ := h_q
          have hA_q := eqx.tr (A := A) (L := [6, 7, 8, 9, 10, 11, 12, 13]) (by repeat (first | assumption | exact eqx.rf | refine eqx.up ?_ (by decide))) (hA1.wk (by decide))
          have hf_q := hf_q.tr hf1
          have hG_q : ∀ j, j < 26 → A1 8 j = K (8 + j) := fun j hj_q => by rw [hA1 8 (by decide)]; exact hG_q j hj_q
          refine go_iinc (v := 1) (lw := [_, _, _, _]) (pc := 81) dX8_copy_81 rfl (by decide) (by decide) rfl ?_
          refine go_goto (tgt := 54) (pc := 84) dX8_copy_84 (by decide) ?_
          rw [nI_1]
          exact ih_q _ _ _ ⟨_, _, rfl, (by rw [goK_s]; exact hM_q), hA_q, hf_q, hG_q, (by rw [← hR_q, cpF_step hi_q, goK_s, ← hA14]), rfl⟩
        · rintro lv9 σ n9 ⟨N9, A9_q, rfl, hM_q, hA_q, hf_q, hG_q, hR_q, rfl⟩
          have hS_q : sameB K (goK M K) := goK_same (by omega)
          refine go_iload_n (pc := 54) dX8_copy_54 rfl ?_
          refine go_aload_n (pc := 55) dX8_copy_55 rfl ?_
          refine go_getf (pc := 56) f_X8_57 dX8_copy_56 (by first | exact mo0 hM_q | exact mo1 hM_q | exact mo6 hM_q | exact mo7 hM_q | exact mo8 hM_q | exact mo2 hM_q | exact mo3 hM_q | exact mo4 hM_q | exact mo5 hM_q | exact mo9 hM_q | exact mo10 hM_q | exact mo11 hM_q | exact mo12 hM_q | exact mo13 hM_q | exact mo14 hM_q | exact mo15 hM_q | exact mo16 hM_q) (by rfl) ?_
          refine go_iload_n (pc := 59) dX8_copy_59 rfl ?_
          refine go_iald (pc := 60) dX8_copy_60 (by first | exact mo0 hM_q | exact mo1 hM_q | exact mo6 hM_q | exact mo7 hM_q | exact mo8 hM_q | exact mo2 hM_q | exact mo3 hM_q | exact mo4 hM_q | exact mo5 hM_q | exact mo9 hM_q | exact mo10 hM_q | exact mo11 hM_q | exact mo12 hM_q | exact mo13 hM_q | exact mo14 hM_q | exact mo15 hM_q | exact mo16 hM_q) (by exact ⟨rfl, by omega⟩) ?_
          rw [hA_q 15 (by decide), eM_q]
          refine go_icmp_ge (tgt := 87) (pc := 61) dX8_copy_61 (by decide) (fun h_61 => ?_) (fun h_61 => by exfalso; exact h_61 (nI_le (by omega) (by omega)))
          refine go_aload_n (pc := 87) dX8_copy_87 rfl ?_
          refine go_V0V (pc := 88) v_X8_381 rfl rfl (rcv_of (ci := 8) (by first | exact mo0 hM_q | exact mo1 hM_q | exact mo6 hM_q | exact mo7 hM_q | exact mo8 hM_q | exact mo2 hM_q | exact mo3 hM_q | exact mo4 hM_q | exact mo5 hM_q | exact mo9 hM_q | exact mo10 hM_q | exact mo11 hM_q | exact mo12 hM_q | exact mo13 hM_q | exact mo14 hM_q | exact mo15 hM_q | exact mo16 hM_q) rfl) dX8_copy_88 (sp_putsBack (k := k - 1) hM_q) (fun σ n h_q => ?_)
          obtain ⟨rfl, A1, hM_q, hA1, hf1⟩ := h_q
          have hA_q := eqx.tr (A := A) (L := [6, 7, 8, 9, 10, 11, 12, 13]) (by repeat (first | assumption | exact eqx.rf | refine eqx.up ?_ (by decide))) (hA1.wk (by decide))
          have hf_q := hf_q.tr hf1
          rw [setS_back hS_q hG_q] at hM_q
          refine go_aload_n (pc := 91) dX8_copy_91 rfl ?_
          refine go_getf (pc := 92) f_X8_57 dX8_copy_92 (by first | exact mo0 hM_q | exact mo1 hM_q | exact mo6 hM_q | exact mo7 hM_q | exact mo8 hM_q | exact mo2 hM_q | exact mo3 hM_q | exact mo4 hM_q | exact mo5 hM_q | exact mo9 hM_q | exact mo10 hM_q | exact mo11 hM_q | exact mo12 hM_q | exact mo13 hM_q | exact mo14 hM_q | exact mo15 hM_q | exact mo16 hM_q) (by rfl) ?_
          refine go_iload_n (pc := 95) dX8_copy_95 rfl ?_
          refine go_iald (pc := 96) dX8_copy_96 (by first | exact mo0 hM_q | exact mo1 hM_q | exact mo6 hM_q | exact mo7 hM_q | exact mo8 hM_q | exact mo2 hM_q | exact mo3 hM_q | exact mo4 hM_q | exact mo5 hM_q | exact mo9 hM_q | exact mo10 hM_q | exact mo11 hM_q | exact mo12 hM_q | exact mo13 hM_q | exact mo14 hM_q | exact mo15 hM_q | exact mo16 hM_q) (by exact ⟨rfl, by omega⟩) ?_
          rw [hA_q 15 (by decide), eM_q]
          exact go_iretI (pc := 97) rfl dX8_copy_97 (Nat.le_of_ble_eq_true rfl) (Nat.le_of_ble_eq_true rfl) (Or.inr ⟨h0_q, rfl, ⟨rfl, upd F 4 0, _, (by rw [Nat.sub_self] at hR_q; rw [← hR_q]; exact hM_q), rfl, (fun j h1_q h2_q h3_q h4_q => by simp [upd, h1_q, h2_q, h3_q, h4_q]), hA_q, hf_q, rfl⟩⟩)
theorem img_ix {d i_q : Nat} : 3020 * nI d + nI i_q = nI (3020 * d + i_q) := by
  rw [show (3020 : Int32) = nI 3020 from rfl, pk_mul, nI_add]
theorem sp_image {Γ : gam} {z0 : sto} {n k r : Nat} {F K : row} {A : Nat → row} {Nm : Nat → Int64} (hM_q : MoAt Γ z0 r F K A Nm) (hk : 14 ≤ k) (t : Int32) : Sp Γ (rmk k 0 0) uX8_image [.ref r, .int t] z0 n (qV fun σ' n' => (imT t.toInt ≠ 0 ∧ apG Γ r F K A Nm z0 n (imT t.toInt) [] (fun _ F' => F' 6 = F 6) σ' n') ∨ (imT t.toInt = 0 ∧ apG Γ r F K A Nm z0 n 0 [3, 4] (fun A' F' => F' 6 = F 6 ∧ A' 3 = imI (A 3) K t.toInt.toNat 3020 ∧ A' 4 = upd (A 4) t.toInt.toNat 1) σ' n')) := by
  have hA_q : eqx [3, 4] A A := eqx.rf
  have hf_q : fr r (r + 16) z0 z0 := fr.rf
  refine sp_intro [some (.ref r), some (.int t), none] (by decide +kernel) rfl (Nat.le_of_ble_eq_true rfl) rfl ?_
  cases ht_q : rN 0 3 t.toInt with
  | none =>
    have h0_q : imT t.toInt = 1 := by simp only [imT, ht_q]
    refine go_aload_n (pc := 0) dX8_image_0 rfl ?_
    refine go_iload_n (pc := 1) dX8_image_1 rfl ?_
    refine go_i2l (pc := 2) dX8_image_2 ?_
    refine go_lconst (v := 0) (pc := 3) dX8_image_3 rfl ?_
    refine go_ldc2 (pc := 4) kw8_217 dX8_image_4 ?_
    refine go_S3P (pc := 7) s_X8_125 rfl rfl dX8_image_7 (sp_within (k := k - 1) _ _ _) ?_
    refine go_if_eq (tgt := 17) (pc := 10) dX8_image_10 (by decide) (fun h_10 => ?_) (fun h_10 => by exfalso; exact h_10 (wi_no ht_q (by decide) (by decide)))
    refine go_iconst (v := 1) (pc := 17) dX8_image_17 (by decide) ?_
    refine go_mpf4 (pc := 18) hM_q dX8_image_18 (fun σ hM_q hf9 => ?_)
    have hf_q := hf_q.tr hf9
    refine go_aload_n (pc := 21) dX8_image_21 rfl ?_
    refine go_getf (pc := 22) f_X8_64 dX8_image_22 (by first | exact mo0 hM_q | exact mo1 hM_q | exact mo6 hM_q | exact mo7 hM_q | exact mo8 hM_q | exact mo2 hM_q | exact mo3 hM_q | exact mo4 hM_q | exact mo5 hM_q | exact mo9 hM_q | exact mo10 hM_q | exact mo11 hM_q | exact mo12 hM_q | exact mo13 hM_q | exact mo14 hM_q | exact mo15 hM_q | exact mo16 hM_q) (by rfl) ?_
    refine go_if_le (tgt := 29) (pc := 25) dX8_image_25 (by decide) (fun h_25 => by exfalso; exact absurd (show (1 : Int32) ≤ 0 from h_25) (by decide)) (fun h_25 => ?_)
    exact go_vretV (pc := 28) rfl dX8_image_28 (Nat.le_of_ble_eq_true rfl) (Nat.le_of_ble_eq_true rfl) (Or.inl ⟨(by rw [h0_q]; decide), ⟨rfl, _, _, hM_q, (by rw [h0_q]; rfl), (fun j h1_q h2_q h3_q h4_q => by simp [upd, h1_q, h2_q, h3_q, h4_q]), eqx.rf, hf_q, rfl⟩⟩)
  | some j1_q =>
    have ht1 := rN_some ht_q
    have h0_q : imT t.toInt = 0 := by simp only [imT, ht_q]
    have e0 : t.toInt.toNat = j1_q := by rw [ht1.1]; rfl
    obtain rfl := I_nat ht1.1 (by omega)
    rw [e0]
    refine go_aload_n (pc := 0) dX8_image_0 rfl ?_
    refine go_iload_n (pc := 1) dX8_image_1 rfl ?_
    refine go_i2l (pc := 2) dX8_image_2 ?_
    refine go_lconst (v := 0) (pc := 3) dX8_image_3 rfl ?_
    refine go_ldc2 (pc := 4) kw8_217 dX8_image_4 ?_
    refine go_S3P (pc := 7) s_X8_125 rfl rfl dX8_image_7 (sp_within (k := k - 1) _ _ _) ?_
    refine go_if_eq (tgt := 17) (pc := 10) dX8_image_10 (by decide) (fun h_10 => by exfalso; rw [wi_yes ht_q (by decide) (by decide)] at h_10; exact absurd h_10 (by decide)) (fun h_10 => ?_)
    refine go_iconst (v := 0) (pc := 13) dX8_image_13 (by decide) ?_
    refine go_goto (tgt := 18) (pc := 14) dX8_image_14 (by decide) ?_
    refine go_mpf4 (pc := 18) hM_q dX8_image_18 (fun σ hM_q hf9 => ?_)
    have hf_q := hf_q.tr hf9
    refine go_aload_n (pc := 21) dX8_image_21 rfl ?_
    refine go_getf (pc := 22) f_X8_64 dX8_image_22 (by first | exact mo0 hM_q | exact mo1 hM_q | exact mo6 hM_q | exact mo7 hM_q | exact mo8 hM_q | exact mo2 hM_q | exact mo3 hM_q | exact mo4 hM_q | exact mo5 hM_q | exact mo9 hM_q | exact mo10 hM_q | exact mo11 hM_q | exact mo12 hM_q | exact mo13 hM_q | exact mo14 hM_q | exact mo15 hM_q | exact mo16 hM_q) (by rfl) ?_
    refine go_if_le (tgt := 29) (pc := 25) dX8_image_25 (by decide) (fun h_25 => ?_) (fun h_25 => by exfalso; exact h_25 (show (0 : Int32) ≤ 0 from by decide))
    refine go_aload_n (pc := 29) dX8_image_29 rfl ?_
    refine go_getf (pc := 30) f_X8_19 dX8_image_30 (by first | exact mo0 hM_q | exact mo1 hM_q | exact mo6 hM_q | exact mo7 hM_q | exact mo8 hM_q | exact mo2 hM_q | exact mo3 hM_q | exact mo4 hM_q | exact mo5 hM_q | exact mo9 hM_q | exact mo10 hM_q | exact mo11 hM_q | exact mo12 hM_q | exact mo13 hM_q | exact mo14 hM_q | exact mo15 hM_q | exact mo16 hM_q) (by rfl) ?_
    refine go_iload_n (pc := 33) dX8_image_33 rfl ?_
    refine go_iconst (v := 1) (pc := 34) dX8_image_34 (by decide) ?_
    refine go_mst4 (pc := 35) hM_q dX8_image_35 (by exact ⟨rfl, by omega⟩) (fun σ hM_q hf9 => ?_)
    have hf_q := hf_q.tr hf9
    refine go_iconst (v := 0) (pc := 36) dX8_image_36 (by decide) ?_
    refine go_istore_n (lw := [_, _, _]) (pc := 37) dX8_image_37 (by decide) rfl ?_
    refine go_iter (3020) (fun i_q lv9 s9 n9 => ∃ A9_q, lv9 = [some (.ref r), some (.int (nI j1_q)), some (.int (nI i_q))] ∧ (MoAt Γ s9 r (upd F 4 0) K A9_q Nm) ∧ (eqx [3, 4] A A9_q) ∧ (fr r (r + 16) z0 s9) ∧ (A9_q 3 = imI (A 3) K j1_q i_q) ∧ (A9_q 4 = upd (A 4) j1_q 1) ∧ n = n9) ⟨_, rfl, hM_q, (by repeat (first | assumption | exact eqx.rf | refine eqx.up ?_ (by decide))), hf_q, (by rw [imI_0]; rfl), rfl, rfl⟩ ?_ ?_
    · rintro i_q lv9 σ n9 hi_q ⟨A9_q, rfl, hM_q, hA_q, hf_q, h3_q, h4_q, rfl⟩ ih_q
      refine go_iload_n (pc := 38) dX8_image_38 rfl ?_
      refine go_sipush (v := 3020) (pc := 39) dX8_image_39 (by decide) ?_
      refine go_icmp_ge (tgt := 69) (pc := 42) dX8_image_42 (by decide) (fun h_42 => by exfalso; exact absurd h_42 (nI_ge (b := 3020) (by omega) (by decide))) (fun h_42 => ?_)
      refine go_aload_n (pc := 45) dX8_image_45 rfl ?_
      refine go_getf (pc := 46) f_X8_16 dX8_image_46 (by first | exact mo0 hM_q | exact mo1 hM_q | exact mo6 hM_q | exact mo7 hM_q | exact mo8 hM_q | exact mo2 hM_q | exact mo3 hM_q | exact mo4 hM_q | exact mo5 hM_q | exact mo9 hM_q | exact mo10 hM_q | exact mo11 hM_q | exact mo12 hM_q | exact mo13 hM_q | exact mo14 hM_q | exact mo15 hM_q | exact mo16 hM_q) (by rfl) ?_
      refine go_sipush (v := 3020) (pc := 49) dX8_image_49 (by decide) ?_
      refine go_iload_n (pc := 52) dX8_image_52 rfl ?_
      refine go_imul (pc := 53) dX8_image_53 ?_
      refine go_iload_n (pc := 54) dX8_image_54 rfl ?_
      refine go_iadd (pc := 55) dX8_image_55 ?_
      refine go_aload_n (pc := 56) dX8_image_56 rfl ?_
      refine go_getf (pc := 57) f_X8_9 dX8_image_57 (by first | exact mo0 hM_q | exact mo1 hM_q | exact mo6 hM_q | exact mo7 hM_q | exact mo8 hM_q | exact mo2 hM_q | exact mo3 hM_q | exact mo4 hM_q | exact mo5 hM_q | exact mo9 hM_q | exact mo10 hM_q | exact mo11 hM_q | exact mo12 hM_q | exact mo13 hM_q | exact mo14 hM_q | exact mo15 hM_q | exact mo16 hM_q) (by rfl) ?_
      refine go_iload_n (pc := 60) dX8_image_60 rfl ?_
      refine go_iald (pc := 61) dX8_image_61 (by first | exact mo0 hM_q | exact mo1 hM_q | exact mo6 hM_q | exact mo7 hM_q | exact mo8 hM_q | exact mo2 hM_q | exact mo3 hM_q | exact mo4 hM_q | exact mo5 hM_q | exact mo9 hM_q | exact mo10 hM_q | exact mo11 hM_q | exact mo12 hM_q | exact mo13 hM_q | exact mo14 hM_q | exact mo15 hM_q | exact mo16 hM_q) (by exact ⟨rfl, by omega⟩) ?_
      rw [img_ix]
      refine go_mst3 (pc := 62) hM_q dX8_image_62 (by exact ⟨rfl, by omega⟩) (fun σ hM_q hf9 => ?_)
      have hf_q := hf_q.tr hf9
      refine go_iinc (v := 1) (lw := [_, _, _]) (pc := 63) dX8_image_63 rfl (by decide) (by decide) rfl ?_
      refine go_goto (tgt := 38) (pc := 66) dX8_image_66 (by decide) ?_
      rw [nI_1]
      exact ih_q _ _ _ ⟨_, rfl, hM_q, (by repeat (first | assumption | exact eqx.rf | refine eqx.up ?_ (by decide))), hf_q, (by simp only [updA, if_true]; rw [h3_q, imI_s]), h4_q, rfl⟩
    · rintro lv9 σ n9 ⟨A9_q, rfl, hM_q, hA_q, hf_q, h3_q, h4_q, rfl⟩
      refine go_iload_n (pc := 38) dX8_image_38 rfl ?_
      refine go_sipush (v := 3020) (pc := 39) dX8_image_39 (by decide) ?_
      refine go_icmp_ge (tgt := 69) (pc := 42) dX8_image_42 (by decide) (fun h_42 => ?_) (fun h_42 => by exfalso; exact h_42 (by decide))
      exact go_vretV (pc := 69) rfl dX8_image_69 (Nat.le_of_ble_eq_true rfl) (Nat.le_of_ble_eq_true rfl) (Or.inr ⟨h0_q, ⟨rfl, _, _, hM_q, rfl, (fun j h1_q h2_q h3_q h4_q => by simp [upd, h1_q, h2_q, h3_q, h4_q]), hA_q, hf_q, rfl, h3_q, h4_q⟩⟩)
theorem sp_restore {Γ : gam} {z0 : sto} {n k r : Nat} {F K : row} {A : Nat → row} {Nm : Nat → Int64} (hM_q : MoAt Γ z0 r F K A Nm) (hk : 14 ≤ k) (t : Int32) : Sp Γ (rmk k 0 0) uX8_restore [.ref r, .int t] z0 n (qV fun σ' n' => (rsT (A 4) t.toInt ≠ 0 ∧ apG Γ r F K A Nm z0 n (rsT (A 4) t.toInt) [] (fun _ F' => F' 6 = F 6) σ' n') ∨ (rsT (A 4) t.toInt = 0 ∧ apG Γ r F (rsI K (A 3) t.toInt.toNat 3020) A Nm z0 n 0 [] (fun _ F' => F' 6 = F 6) σ' n')) := by
  have hA_q : eqx [] A A := eqx.rf
  have hf_q : fr r (r + 16) z0 z0 := fr.rf
  refine sp_intro [some (.ref r), some (.int t), none] (by decide +kernel) rfl (Nat.le_of_ble_eq_true rfl) rfl ?_
  cases ht_q : rN 0 3 t.toInt with
  | none =>
    have h0_q : rsT (A 4) t.toInt = 1 := by simp only [rsT, ht_q]
    refine go_aload_n (pc := 0) dX8_restore_0 rfl ?_
    refine go_iload_n (pc := 1) dX8_restore_1 rfl ?_
    refine go_i2l (pc := 2) dX8_restore_2 ?_
    refine go_lconst (v := 0) (pc := 3) dX8_restore_3 rfl ?_
    refine go_ldc2 (pc := 4) kw8_217 dX8_restore_4 ?_
    refine go_S3P (pc := 7) s_X8_125 rfl rfl dX8_restore_7 (sp_within (k := k - 1) _ _ _) ?_
    refine go_if_ne (tgt := 17) (pc := 10) dX8_restore_10 (by decide) (fun h_10 => by exfalso; exact h_10 (wi_no ht_q (by decide) (by decide))) (fun h_10 => ?_)
    refine go_iconst (v := 1) (pc := 13) dX8_restore_13 (by decide) ?_
    refine go_goto (tgt := 31) (pc := 14) dX8_restore_14 (by decide) ?_
    refine go_mpf4 (pc := 31) hM_q dX8_restore_31 (fun σ hM_q hf9 => ?_)
    have hf_q := hf_q.tr hf9
    refine go_aload_n (pc := 34) dX8_restore_34 rfl ?_
    refine go_getf (pc := 35) f_X8_64 dX8_restore_35 (by first | exact mo0 hM_q | exact mo1 hM_q | exact mo6 hM_q | exact mo7 hM_q | exact mo8 hM_q | exact mo2 hM_q | exact mo3 hM_q | exact mo4 hM_q | exact mo5 hM_q | exact mo9 hM_q | exact mo10 hM_q | exact mo11 hM_q | exact mo12 hM_q | exact mo13 hM_q | exact mo14 hM_q | exact mo15 hM_q | exact mo16 hM_q) (by rfl) ?_
    refine go_if_le (tgt := 42) (pc := 38) dX8_restore_38 (by decide) (fun h_38 => by exfalso; exact absurd (show (1 : Int32) ≤ 0 from h_38) (by decide)) (fun h_38 => ?_)
    exact go_vretV (pc := 41) rfl dX8_restore_41 (Nat.le_of_ble_eq_true rfl) (Nat.le_of_ble_eq_true rfl) (Or.inl ⟨(by rw [h0_q]; decide), ⟨rfl, _, _, hM_q, (by rw [h0_q]; rfl), (fun j h1_q h2_q h3_q h4_q => by simp [upd, h1_q, h2_q, h3_q, h4_q]), eqx.rf, hf_q, rfl⟩⟩)
  | some j1_q =>
    have ht1 := rN_some ht_q
    have e0 : t.toInt.toNat = j1_q := by rw [ht1.1]; rfl
    obtain rfl := I_nat ht1.1 (by omega)
    by_cases hg : A 4 j1_q = 0
    · have h0_q : rsT (A 4) (nI j1_q).toInt = 2 := by simp only [rsT, ht_q]; exact if_pos hg
      refine go_aload_n (pc := 0) dX8_restore_0 rfl ?_
      refine go_iload_n (pc := 1) dX8_restore_1 rfl ?_
      refine go_i2l (pc := 2) dX8_restore_2 ?_
      refine go_lconst (v := 0) (pc := 3) dX8_restore_3 rfl ?_
      refine go_ldc2 (pc := 4) kw8_217 dX8_restore_4 ?_
      refine go_S3P (pc := 7) s_X8_125 rfl rfl dX8_restore_7 (sp_within (k := k - 1) _ _ _) ?_
      refine go_if_ne (tgt := 17) (pc := 10) dX8_restore_10 (by decide) (fun h_10 => ?_) (fun h_10 => by exfalso; rw [wi_yes ht_q (by decide) (by decide)] at h_10; exact absurd h_10 (by decide))
      refine go_aload_n (pc := 17) dX8_restore_17 rfl ?_
      refine go_getf (pc := 18) f_X8_19 dX8_restore_18 (by first | exact mo0 hM_q | exact mo1 hM_q | exact mo6 hM_q | exact mo7 hM_q | exact mo8 hM_q | exact mo2 hM_q | exact mo3 hM_q | exact mo4 hM_q | exact mo5 hM_q | exact mo9 hM_q | exact mo10 hM_q | exact mo11 hM_q | exact mo12 hM_q | exact mo13 hM_q | exact mo14 hM_q | exact mo15 hM_q | exact mo16 hM_q) (by rfl) ?_
      refine go_iload_n (pc := 21) dX8_restore_21 rfl ?_
      refine go_zald (pc := 22) dX8_restore_22 (by first | exact mo0 hM_q | exact mo1 hM_q | exact mo6 hM_q | exact mo7 hM_q | exact mo8 hM_q | exact mo2 hM_q | exact mo3 hM_q | exact mo4 hM_q | exact mo5 hM_q | exact mo9 hM_q | exact mo10 hM_q | exact mo11 hM_q | exact mo12 hM_q | exact mo13 hM_q | exact mo14 hM_q | exact mo15 hM_q | exact mo16 hM_q) (by exact ⟨rfl, by omega⟩) ?_
      refine go_if_ne (tgt := 30) (pc := 23) dX8_restore_23 (by decide) (fun h_23 => by exfalso; exact h_23 hg) (fun h_23 => ?_)
      refine go_iconst (v := 2) (pc := 26) dX8_restore_26 (by decide) ?_
      refine go_goto (tgt := 31) (pc := 27) dX8_restore_27 (by decide) ?_
      refine go_mpf4 (pc := 31) hM_q dX8_restore_31 (fun σ hM_q hf9 => ?_)
      have hf_q := hf_q.tr hf9
      refine go_aload_n (pc := 34) dX8_restore_34 rfl ?_
      refine go_getf (pc := 35) f_X8_64 dX8_restore_35 (by first | exact mo0 hM_q | exact mo1 hM_q | exact mo6 hM_q | exact mo7 hM_q | exact mo8 hM_q | exact mo2 hM_q | exact mo3 hM_q | exact mo4 hM_q | exact mo5 hM_q | exact mo9 hM_q | exact mo10 hM_q | exact mo11 hM_q | exact mo12 hM_q | exact mo13 hM_q | exact mo14 hM_q | exact mo15 hM_q | exact mo16 hM_q) (by rfl) ?_
      refine go_if_le (tgt := 42) (pc := 38) dX8_restore_38 (by decide) (fun h_38 => by exfalso; exact absurd (show (2 : Int32) ≤ 0 from h_38) (by decide)) (fun h_38 => ?_)
      exact go_vretV (pc := 41) rfl dX8_restore_41 (Nat.le_of_ble_eq_true rfl) (Nat.le_of_ble_eq_true rfl) (Or.inl ⟨(by rw [h0_q]; decide), ⟨rfl, _, _, hM_q, (by rw [h0_q]; rfl), (fun j h1_q h2_q h3_q h4_q => by simp [upd, h1_q, h2_q, h3_q, h4_q]), eqx.rf, hf_q, rfl⟩⟩)
    · have h0_q : rsT (A 4) (nI j1_q).toInt = 0 := by simp only [rsT, ht_q]; exact if_neg hg
      rw [e0]
      refine go_aload_n (pc := 0) dX8_restore_0 rfl ?_
      refine go_iload_n (pc := 1) dX8_restore_1 rfl ?_
      refine go_i2l (pc := 2) dX8_restore_2 ?_
      refine go_lconst (v := 0) (pc := 3) dX8_restore_3 rfl ?_
      refine go_ldc2 (pc := 4) kw8_217 dX8_restore_4 ?_
      refine go_S3P (pc := 7) s_X8_125 rfl rfl dX8_restore_7 (sp_within (k := k - 1) _ _ _) ?_
      refine go_if_ne (tgt := 17) (pc := 10) dX8_restore_10 (by decide) (fun h_10 => ?_) (fun h_10 => by exfalso; rw [wi_yes ht_q (by decide) (by decide)] at h_10; exact absurd h_10 (by decide))
      refine go_aload_n (pc := 17) dX8_restore_17 rfl ?_
      refine go_getf (pc := 18) f_X8_19 dX8_restore_18 (by first | exact mo0 hM_q | exact mo1 hM_q | exact mo6 hM_q | exact mo7 hM_q | exact mo8 hM_q | exact mo2 hM_q | exact mo3 hM_q | exact mo4 hM_q | exact mo5 hM_q | exact mo9 hM_q | exact mo10 hM_q | exact mo11 hM_q | exact mo12 hM_q | exact mo13 hM_q | exact mo14 hM_q | exact mo15 hM_q | exact mo16 hM_q) (by rfl) ?_
      refine go_iload_n (pc := 21) dX8_restore_21 rfl ?_
      refine go_zald (pc := 22) dX8_restore_22 (by first | exact mo0 hM_q | exact mo1 hM_q | exact mo6 hM_q | exact mo7 hM_q | exact mo8 hM_q | exact mo2 hM_q | exact mo3 hM_q | exact mo4 hM_q | exact mo5 hM_q | exact mo9 hM_q | exact mo10 hM_q | exact mo11 hM_q | exact mo12 hM_q | exact mo13 hM_q | exact mo14 hM_q | exact mo15 hM_q | exact mo16 hM_q) (by exact ⟨rfl, by omega⟩) ?_
      refine go_if_ne (tgt := 30) (pc := 23) dX8_restore_23 (by decide) (fun h_23 => ?_) (fun h_23 => by exfalso; exact hg h_23)
      refine go_iconst (v := 0) (pc := 30) dX8_restore_30 (by decide) ?_
      refine go_mpf4 (pc := 31) hM_q dX8_restore_31 (fun σ hM_q hf9 => ?_)
      have hf_q := hf_q.tr hf9
      refine go_aload_n (pc := 34) dX8_restore_34 rfl ?_
      refine go_getf (pc := 35) f_X8_64 dX8_restore_35 (by first | exact mo0 hM_q | exact mo1 hM_q | exact mo6 hM_q | exact mo7 hM_q | exact mo8 hM_q | exact mo2 hM_q | exact mo3 hM_q | exact mo4 hM_q | exact mo5 hM_q | exact mo9 hM_q | exact mo10 hM_q | exact mo11 hM_q | exact mo12 hM_q | exact mo13 hM_q | exact mo14 hM_q | exact mo15 hM_q | exact mo16 hM_q) (by rfl) ?_
      refine go_if_le (tgt := 42) (pc := 38) dX8_restore_38 (by decide) (fun h_38 => ?_) (fun h_38 => by exfalso; exact h_38 (show (0 : Int32) ≤ 0 from by decide))
      refine go_iconst (v := 0) (pc := 42) dX8_restore_42 (by decide) ?_
      refine go_istore_n (lw := [_, _, _]) (pc := 43) dX8_restore_43 (by decide) rfl ?_
      refine go_iter (3020) (fun i_q lv9 s9 n9 => ∃ A9_q, lv9 = [some (.ref r), some (.int (nI j1_q)), some (.int (nI i_q))] ∧ (MoAt Γ s9 r (upd F 4 0) (rsI K (A 3) j1_q i_q) A9_q Nm) ∧ (eqx [] A A9_q) ∧ (fr r (r + 16) z0 s9) ∧ n = n9) ⟨_, rfl, (by rw [rsI_0]; exact hM_q), hA_q, hf_q, rfl⟩ ?_ ?_
      · rintro i_q lv9 σ n9 hi_q ⟨A9_q, rfl, hM_q, hA_q, hf_q, rfl⟩ ih_q
        refine go_iload_n (pc := 44) dX8_restore_44 rfl ?_
        refine go_sipush (v := 3020) (pc := 45) dX8_restore_45 (by decide) ?_
        refine go_icmp_ge (tgt := 75) (pc := 48) dX8_restore_48 (by decide) (fun h_48 => by exfalso; exact absurd h_48 (nI_ge (b := 3020) (by omega) (by decide))) (fun h_48 => ?_)
        refine go_aload_n (pc := 51) dX8_restore_51 rfl ?_
        refine go_getf (pc := 52) f_X8_9 dX8_restore_52 (by first | exact mo0 hM_q | exact mo1 hM_q | exact mo6 hM_q | exact mo7 hM_q | exact mo8 hM_q | exact mo2 hM_q | exact mo3 hM_q | exact mo4 hM_q | exact mo5 hM_q | exact mo9 hM_q | exact mo10 hM_q | exact mo11 hM_q | exact mo12 hM_q | exact mo13 hM_q | exact mo14 hM_q | exact mo15 hM_q | exact mo16 hM_q) (by rfl) ?_
        refine go_iload_n (pc := 55) dX8_restore_55 rfl ?_
        refine go_aload_n (pc := 56) dX8_restore_56 rfl ?_
        refine go_getf (pc := 57) f_X8_16 dX8_restore_57 (by first | exact mo0 hM_q | exact mo1 hM_q | exact mo6 hM_q | exact mo7 hM_q | exact mo8 hM_q | exact mo2 hM_q | exact mo3 hM_q | exact mo4 hM_q | exact mo5 hM_q | exact mo9 hM_q | exact mo10 hM_q | exact mo11 hM_q | exact mo12 hM_q | exact mo13 hM_q | exact mo14 hM_q | exact mo15 hM_q | exact mo16 hM_q) (by rfl) ?_
        refine go_sipush (v := 3020) (pc := 60) dX8_restore_60 (by decide) ?_
        refine go_iload_n (pc := 63) dX8_restore_63 rfl ?_
        refine go_imul (pc := 64) dX8_restore_64 ?_
        refine go_iload_n (pc := 65) dX8_restore_65 rfl ?_
        refine go_iadd (pc := 66) dX8_restore_66 ?_
        rw [img_ix]
        refine go_iald (pc := 67) dX8_restore_67 (by first | exact mo0 hM_q | exact mo1 hM_q | exact mo6 hM_q | exact mo7 hM_q | exact mo8 hM_q | exact mo2 hM_q | exact mo3 hM_q | exact mo4 hM_q | exact mo5 hM_q | exact mo9 hM_q | exact mo10 hM_q | exact mo11 hM_q | exact mo12 hM_q | exact mo13 hM_q | exact mo14 hM_q | exact mo15 hM_q | exact mo16 hM_q) (by exact ⟨rfl, by omega⟩) ?_
        refine go_mstK (pc := 68) hM_q dX8_restore_68 (by exact ⟨rfl, by omega⟩) (fun σ hM_q hf9 => ?_)
        have hf_q := hf_q.tr hf9
        refine go_iinc (v := 1) (lw := [_, _, _]) (pc := 69) dX8_restore_69 rfl (by decide) (by decide) rfl ?_
        refine go_goto (tgt := 44) (pc := 72) dX8_restore_72 (by decide) ?_
        rw [nI_1]
        exact ih_q _ _ _ ⟨_, rfl, (by rw [hA_q 3 (by decide)] at hM_q; rw [← rsI_s]; exact hM_q), hA_q, hf_q, rfl⟩
      · rintro lv9 σ n9 ⟨A9_q, rfl, hM_q, hA_q, hf_q, rfl⟩
        refine go_iload_n (pc := 44) dX8_restore_44 rfl ?_
        refine go_sipush (v := 3020) (pc := 45) dX8_restore_45 (by decide) ?_
        refine go_icmp_ge (tgt := 75) (pc := 48) dX8_restore_48 (by decide) (fun h_48 => ?_) (fun h_48 => by exfalso; exact h_48 (by decide))
        exact go_vretV (pc := 75) rfl dX8_restore_75 (Nat.le_of_ble_eq_true rfl) (Nat.le_of_ble_eq_true rfl) (Or.inr ⟨h0_q, ⟨rfl, _, _, hM_q, rfl, (fun j h1_q h2_q h3_q h4_q => by simp [upd, h1_q, h2_q, h3_q, h4_q]), hA_q, hf_q, rfl⟩⟩)
theorem sp_feed {Γ : gam} {z0 : sto} {n k r : Nat} {F K : row} {A : Nat → row} {Nm : Nat → Int64} (hM_q : MoAt Γ z0 r F K A Nm) (hk : 14 ≤ k) {T : Nat} (hT_q : F 6 = nI T) (hT2 : T ≤ 900) (a b c d e_q : Int32) : Sp Γ (rmk k 0 0) uX8_feed [.ref r, .int a, .int b, .int c, .int d, .int e_q] z0 n (qI fun v' σ' n' => (880 < T ∧ v' = -1 ∧ apG Γ r F K A Nm z0 n 0 [] (fun _ F' => F' 6 = F 6) σ' n') ∨ (T ≤ 880 ∧ v' = nI (T + 20) ∧ apG Γ r F K A Nm z0 n 0 [5] (fun A' F' => F' 6 = nI (T + 20) ∧ A' 5 = fdI (A 5) T a b c d e_q 20) σ' n')) := by
  have hA_q : eqx [5] A A := eqx.rf
  have hf_q : fr r (r + 16) z0 z0 := fr.rf
  refine sp_intro [some (.ref r), some (.int a), some (.int b), some (.int c), some (.int d), some (.int e_q), none, none] (by decide +kernel) rfl (Nat.le_of_ble_eq_true rfl) rfl ?_
  refine go_aload_n (pc := 0) dX8_feed_0 rfl ?_
  refine go_iconst (v := 0) (pc := 1) dX8_feed_1 (by decide) ?_
  refine go_mpf4 (pc := 2) hM_q dX8_feed_2 (fun σ hM_q hf9 => ?_)
  have hf_q := hf_q.tr hf9
  refine go_aload_n (pc := 5) dX8_feed_5 rfl ?_
  refine go_getf (pc := 6) f_X8_67 dX8_feed_6 (by first | exact mo0 hM_q | exact mo1 hM_q | exact mo6 hM_q | exact mo7 hM_q | exact mo8 hM_q | exact mo2 hM_q | exact mo3 hM_q | exact mo4 hM_q | exact mo5 hM_q | exact mo9 hM_q | exact mo10 hM_q | exact mo11 hM_q | exact mo12 hM_q | exact mo13 hM_q | exact mo14 hM_q | exact mo15 hM_q | exact mo16 hM_q) (by rfl) ?_
  refine go_bipush (v := 20) (pc := 9) dX8_feed_9 (by decide) ?_
  refine go_iadd (pc := 11) dX8_feed_11 ?_
  refine go_sipush (v := 900) (pc := 12) dX8_feed_12 (by decide) ?_
  rw [show upd F 4 0 6 = nI T from hT_q, show nI T + 20 = nI (T + 20) from nI_add T 20]
  refine go_icmp_le (tgt := 20) (pc := 15) dX8_feed_15 (by decide) (fun h_15 => ?_) (fun h_15 => ?_)
  · have hT8 : T + 20 ≤ 900 := Nat.le_of_not_lt (fun hc_q => absurd h_15 (nI_ge (a := 900) hc_q (by omega)))
    refine go_iconst (v := 0) (pc := 20) dX8_feed_20 (by decide) ?_
    refine go_istore (lw := [_, _, _, _, _, _, _, _]) (pc := 21) dX8_feed_21 (by decide) rfl ?_
    refine go_iter (20) (fun i_q lv9 s9 n9 => ∃ (F9 : row), ∃ x7_q, ∃ A9_q, lv9 = [some (.ref r), some (.int a), some (.int b), some (.int c), some (.int d), some (.int e_q), some (.int (nI i_q)), x7_q] ∧ (MoAt Γ s9 r F9 K A9_q Nm) ∧ (eqx [5] A A9_q) ∧ (fr r (r + 16) z0 s9) ∧ (A9_q 5 = fdI (A 5) T a b c d e_q i_q) ∧ (F9 6 = nI (T + i_q)) ∧ (F9 4 = 0) ∧ (∀ j, j ≠ 4 → j ≠ 6 → F9 j = F j) ∧ n = n9) ⟨_, none, _, rfl, hM_q, hA_q, hf_q, (by rw [fdI_0]), hT_q, rfl, (fun j h1_q h2_q => pk_un h1_q), rfl⟩ ?_ ?_
    · rintro i_q lv9 σ n9 hi_q ⟨F9, x7_q, A9_q, rfl, hM_q, hA_q, hf_q, h5_q, h6_q, h4_q, hF, rfl⟩ ih_q
      refine go_iload (pc := 23) dX8_feed_23 rfl ?_
      refine go_bipush (v := 20) (pc := 25) dX8_feed_25 (by decide) ?_
      refine go_icmp_ge (tgt := 120) (pc := 27) dX8_feed_27 (by decide) (fun h_27 => by exfalso; exact absurd h_27 (nI_ge (b := 20) (by omega) (by decide))) (fun h_27 => ?_)
      refine go_iload (pc := 30) dX8_feed_30 rfl ?_
      refine go_iconst (v := 4) (pc := 32) dX8_feed_32 (by decide) ?_
      refine go_icmp_ge (tgt := 40) (pc := 33) dX8_feed_33 (by decide) (fun h_33 => ?_) (fun h_33 => ?_)
      · refine go_iload (pc := 40) dX8_feed_40 rfl ?_
        refine go_bipush (v := 8) (pc := 42) dX8_feed_42 (by decide) ?_
        refine go_icmp_ge (tgt := 51) (pc := 44) dX8_feed_44 (by decide) (fun h_44 => ?_) (fun h_44 => ?_)
        · refine go_iload (pc := 51) dX8_feed_51 rfl ?_
          refine go_bipush (v := 12) (pc := 53) dX8_feed_53 (by decide) ?_
          refine go_icmp_ge (tgt := 62) (pc := 55) dX8_feed_55 (by decide) (fun h_55 => ?_) (fun h_55 => ?_)
          · refine go_iload (pc := 62) dX8_feed_62 rfl ?_
            refine go_bipush (v := 16) (pc := 64) dX8_feed_64 (by decide) ?_
            refine go_icmp_ge (tgt := 74) (pc := 66) dX8_feed_66 (by decide) (fun h_66 => ?_) (fun h_66 => ?_)
            · refine go_iload (pc := 74) dX8_feed_74 rfl ?_
              refine go_istore (lw := [_, _, _, _, _, _, _, _]) (pc := 76) dX8_feed_76 (by decide) rfl ?_
              refine go_aload_n (pc := 78) dX8_feed_78 rfl ?_
              refine go_getf (pc := 79) f_X8_23 dX8_feed_79 (by first | exact mo0 hM_q | exact mo1 hM_q | exact mo6 hM_q | exact mo7 hM_q | exact mo8 hM_q | exact mo2 hM_q | exact mo3 hM_q | exact mo4 hM_q | exact mo5 hM_q | exact mo9 hM_q | exact mo10 hM_q | exact mo11 hM_q | exact mo12 hM_q | exact mo13 hM_q | exact mo14 hM_q | exact mo15 hM_q | exact mo16 hM_q) (by rfl) ?_
              refine go_aload_n (pc := 82) dX8_feed_82 rfl ?_
              refine go_getf (pc := 83) f_X8_67 dX8_feed_83 (by first | exact mo0 hM_q | exact mo1 hM_q | exact mo6 hM_q | exact mo7 hM_q | exact mo8 hM_q | exact mo2 hM_q | exact mo3 hM_q | exact mo4 hM_q | exact mo5 hM_q | exact mo9 hM_q | exact mo10 hM_q | exact mo11 hM_q | exact mo12 hM_q | exact mo13 hM_q | exact mo14 hM_q | exact mo15 hM_q | exact mo16 hM_q) (by rfl) ?_
              refine go_iload (pc := 86) dX8_feed_86 rfl ?_
              refine go_bipush (v := 24) (pc := 88) dX8_feed_88 (by decide) ?_
              refine go_bipush (v := 8) (pc := 90) dX8_feed_90 (by decide) ?_
              refine go_iload (pc := 92) dX8_feed_92 rfl ?_
              refine go_iconst (v := 3) (pc := 94) dX8_feed_94 (by decide) ?_
              refine go_iand (pc := 95) dX8_feed_95 ?_
              refine go_imul (pc := 96) dX8_feed_96 ?_
              refine go_isub (pc := 97) dX8_feed_97 ?_
              refine go_iushr (pc := 98) dX8_feed_98 ?_
              refine go_sipush (v := 255) (pc := 99) dX8_feed_99 (by decide) ?_
              refine go_iand (pc := 102) dX8_feed_102 ?_
              rw [h6_q, fd_sh ⟨i_q, hi_q⟩]
              refine go_mst5 (pc := 103) hM_q dX8_feed_103 (by exact ⟨rfl, by omega⟩) (fun σ hM_q hf9 => ?_)
              have hf_q := hf_q.tr hf9
              refine go_aload_n (pc := 104) dX8_feed_104 rfl ?_
              refine go_dup (pc := 105) dX8_feed_105 rfl ?_
              refine go_getf (pc := 106) f_X8_67 dX8_feed_106 (by first | exact mo0 hM_q | exact mo1 hM_q | exact mo6 hM_q | exact mo7 hM_q | exact mo8 hM_q | exact mo2 hM_q | exact mo3 hM_q | exact mo4 hM_q | exact mo5 hM_q | exact mo9 hM_q | exact mo10 hM_q | exact mo11 hM_q | exact mo12 hM_q | exact mo13 hM_q | exact mo14 hM_q | exact mo15 hM_q | exact mo16 hM_q) (by rfl) ?_
              refine go_iconst (v := 1) (pc := 109) dX8_feed_109 (by decide) ?_
              refine go_iadd (pc := 110) dX8_feed_110 ?_
              rw [h6_q, nI_1]
              refine go_mpf6 (pc := 111) hM_q dX8_feed_111 (fun σ hM_q hf9 => ?_)
              have hf_q := hf_q.tr hf9
              refine go_iinc (v := 1) (lw := [_, _, _, _, _, _, _, _]) (pc := 114) dX8_feed_114 rfl (by decide) (by decide) rfl ?_
              refine go_goto (tgt := 23) (pc := 117) dX8_feed_117 (by decide) ?_
              rw [nI_1]
              exact ih_q _ _ _ ⟨_, _, _, rfl, hM_q, (by repeat (first | assumption | exact eqx.rf | refine eqx.up ?_ (by decide))), hf_q, (by simp only [updA, if_true]; rw [h5_q, ← fdI_s]; congr 1; unfold fdB fdW; first | rw [if_pos (show i_q < 4 from Nat.lt_of_not_le (fun hc_q => h_33 (nI_le (a := 4) hc_q (by omega))))] | rw [if_neg (show ¬ i_q < 4 from fun hc_q => absurd h_33 (nI_ge (b := 4) hc_q (by decide))), if_pos (show i_q < 8 from Nat.lt_of_not_le (fun hc_q => h_44 (nI_le (a := 8) hc_q (by omega))))] | rw [if_neg (show ¬ i_q < 4 from fun hc_q => absurd h_33 (nI_ge (b := 4) hc_q (by decide))), if_neg (show ¬ i_q < 8 from fun hc_q => absurd h_44 (nI_ge (b := 8) hc_q (by decide))), if_pos (show i_q < 12 from Nat.lt_of_not_le (fun hc_q => h_55 (nI_le (a := 12) hc_q (by omega))))] | rw [if_neg (show ¬ i_q < 4 from fun hc_q => absurd h_33 (nI_ge (b := 4) hc_q (by decide))), if_neg (show ¬ i_q < 8 from fun hc_q => absurd h_44 (nI_ge (b := 8) hc_q (by decide))), if_neg (show ¬ i_q < 12 from fun hc_q => absurd h_55 (nI_ge (b := 12) hc_q (by decide))), if_pos (show i_q < 16 from Nat.lt_of_not_le (fun hc_q => h_66 (nI_le (a := 16) hc_q (by omega))))] | rw [if_neg (show ¬ i_q < 4 from fun hc_q => absurd h_33 (nI_ge (b := 4) hc_q (by decide))), if_neg (show ¬ i_q < 8 from fun hc_q => absurd h_44 (nI_ge (b := 8) hc_q (by decide))), if_neg (show ¬ i_q < 12 from fun hc_q => absurd h_55 (nI_ge (b := 12) hc_q (by decide))), if_neg (show ¬ i_q < 16 from fun hc_q => absurd h_66 (nI_ge (b := 16) hc_q (by decide)))]), (by rw [pk_us, Nat.add_assoc]), (by rw [pk_un (by decide)]; exact h4_q), (fun j h1_q h2_q => by rw [pk_un h2_q]; exact hF j h1_q h2_q), rfl⟩
            · refine go_iload (pc := 69) dX8_feed_69 rfl ?_
              refine go_goto (tgt := 76) (pc := 71) dX8_feed_71 (by decide) ?_
              refine go_istore (lw := [_, _, _, _, _, _, _, _]) (pc := 76) dX8_feed_76 (by decide) rfl ?_
              refine go_aload_n (pc := 78) dX8_feed_78 rfl ?_
              refine go_getf (pc := 79) f_X8_23 dX8_feed_79 (by first | exact mo0 hM_q | exact mo1 hM_q | exact mo6 hM_q | exact mo7 hM_q | exact mo8 hM_q | exact mo2 hM_q | exact mo3 hM_q | exact mo4 hM_q | exact mo5 hM_q | exact mo9 hM_q | exact mo10 hM_q | exact mo11 hM_q | exact mo12 hM_q | exact mo13 hM_q | exact mo14 hM_q | exact mo15 hM_q | exact mo16 hM_q) (by rfl) ?_
              refine go_aload_n (pc := 82) dX8_feed_82 rfl ?_
              refine go_getf (pc := 83) f_X8_67 dX8_feed_83 (by first | exact mo0 hM_q | exact mo1 hM_q | exact mo6 hM_q | exact mo7 hM_q | exact mo8 hM_q | exact mo2 hM_q | exact mo3 hM_q | exact mo4 hM_q | exact mo5 hM_q | exact mo9 hM_q | exact mo10 hM_q | exact mo11 hM_q | exact mo12 hM_q | exact mo13 hM_q | exact mo14 hM_q | exact mo15 hM_q | exact mo16 hM_q) (by rfl) ?_
              refine go_iload (pc := 86) dX8_feed_86 rfl ?_
              refine go_bipush (v := 24) (pc := 88) dX8_feed_88 (by decide) ?_
              refine go_bipush (v := 8) (pc := 90) dX8_feed_90 (by decide) ?_
              refine go_iload (pc := 92) dX8_feed_92 rfl ?_
              refine go_iconst (v := 3) (pc := 94) dX8_feed_94 (by decide) ?_
              refine go_iand (pc := 95) dX8_feed_95 ?_
              refine go_imul (pc := 96) dX8_feed_96 ?_
              refine go_isub (pc := 97) dX8_feed_97 ?_
              refine go_iushr (pc := 98) dX8_feed_98 ?_
              refine go_sipush (v := 255) (pc := 99) dX8_feed_99 (by decide) ?_
              refine go_iand (pc := 102) dX8_feed_102 ?_
              rw [h6_q, fd_sh ⟨i_q, hi_q⟩]
              refine go_mst5 (pc := 103) hM_q dX8_feed_103 (by exact ⟨rfl, by omega⟩) (fun σ hM_q hf9 => ?_)
              have hf_q := hf_q.tr hf9
              refine go_aload_n (pc := 104) dX8_feed_104 rfl ?_
              refine go_dup (pc := 105) dX8_feed_105 rfl ?_
              refine go_getf (pc := 106) f_X8_67 dX8_feed_106 (by first | exact mo0 hM_q | exact mo1 hM_q | exact mo6 hM_q | exact mo7 hM_q | exact mo8 hM_q | exact mo2 hM_q | exact mo3 hM_q | exact mo4 hM_q | exact mo5 hM_q | exact mo9 hM_q | exact mo10 hM_q | exact mo11 hM_q | exact mo12 hM_q | exact mo13 hM_q | exact mo14 hM_q | exact mo15 hM_q | exact mo16 hM_q) (by rfl) ?_
              refine go_iconst (v := 1) (pc := 109) dX8_feed_109 (by decide) ?_
              refine go_iadd (pc := 110) dX8_feed_110 ?_
              rw [h6_q, nI_1]
              refine go_mpf6 (pc := 111) hM_q dX8_feed_111 (fun σ hM_q hf9 => ?_)
              have hf_q := hf_q.tr hf9
              refine go_iinc (v := 1) (lw := [_, _, _, _, _, _, _, _]) (pc := 114) dX8_feed_114 rfl (by decide) (by decide) rfl ?_
              refine go_goto (tgt := 23) (pc := 117) dX8_feed_117 (by decide) ?_
              rw [nI_1]
              exact ih_q _ _ _ ⟨_, _, _, rfl, hM_q, (by repeat (first | assumption | exact eqx.rf | refine eqx.up ?_ (by decide))), hf_q, (by simp only [updA, if_true]; rw [h5_q, ← fdI_s]; congr 1; unfold fdB fdW; first | rw [if_pos (show i_q < 4 from Nat.lt_of_not_le (fun hc_q => h_33 (nI_le (a := 4) hc_q (by omega))))] | rw [if_neg (show ¬ i_q < 4 from fun hc_q => absurd h_33 (nI_ge (b := 4) hc_q (by decide))), if_pos (show i_q < 8 from Nat.lt_of_not_le (fun hc_q => h_44 (nI_le (a := 8) hc_q (by omega))))] | rw [if_neg (show ¬ i_q < 4 from fun hc_q => absurd h_33 (nI_ge (b := 4) hc_q (by decide))), if_neg (show ¬ i_q < 8 from fun hc_q => absurd h_44 (nI_ge (b := 8) hc_q (by decide))), if_pos (show i_q < 12 from Nat.lt_of_not_le (fun hc_q => h_55 (nI_le (a := 12) hc_q (by omega))))] | rw [if_neg (show ¬ i_q < 4 from fun hc_q => absurd h_33 (nI_ge (b := 4) hc_q (by decide))), if_neg (show ¬ i_q < 8 from fun hc_q => absurd h_44 (nI_ge (b := 8) hc_q (by decide))), if_neg (show ¬ i_q < 12 from fun hc_q => absurd h_55 (nI_ge (b := 12) hc_q (by decide))), if_pos (show i_q < 16 from Nat.lt_of_not_le (fun hc_q => h_66 (nI_le (a := 16) hc_q (by omega))))] | rw [if_neg (show ¬ i_q < 4 from fun hc_q => absurd h_33 (nI_ge (b := 4) hc_q (by decide))), if_neg (show ¬ i_q < 8 from fun hc_q => absurd h_44 (nI_ge (b := 8) hc_q (by decide))), if_neg (show ¬ i_q < 12 from fun hc_q => absurd h_55 (nI_ge (b := 12) hc_q (by decide))), if_neg (show ¬ i_q < 16 from fun hc_q => absurd h_66 (nI_ge (b := 16) hc_q (by decide)))]), (by rw [pk_us, Nat.add_assoc]), (by rw [pk_un (by decide)]; exact h4_q), (fun j h1_q h2_q => by rw [pk_un h2_q]; exact hF j h1_q h2_q), rfl⟩
          · refine go_iload_n (pc := 58) dX8_feed_58 rfl ?_
            refine go_goto (tgt := 76) (pc := 59) dX8_feed_59 (by decide) ?_
            refine go_istore (lw := [_, _, _, _, _, _, _, _]) (pc := 76) dX8_feed_76 (by decide) rfl ?_
            refine go_aload_n (pc := 78) dX8_feed_78 rfl ?_
            refine go_getf (pc := 79) f_X8_23 dX8_feed_79 (by first | exact mo0 hM_q | exact mo1 hM_q | exact mo6 hM_q | exact mo7 hM_q | exact mo8 hM_q | exact mo2 hM_q | exact mo3 hM_q | exact mo4 hM_q | exact mo5 hM_q | exact mo9 hM_q | exact mo10 hM_q | exact mo11 hM_q | exact mo12 hM_q | exact mo13 hM_q | exact mo14 hM_q | exact mo15 hM_q | exact mo16 hM_q) (by rfl) ?_
            refine go_aload_n (pc := 82) dX8_feed_82 rfl ?_
            refine go_getf (pc := 83) f_X8_67 dX8_feed_83 (by first | exact mo0 hM_q | exact mo1 hM_q | exact mo6 hM_q | exact mo7 hM_q | exact mo8 hM_q | exact mo2 hM_q | exact mo3 hM_q | exact mo4 hM_q | exact mo5 hM_q | exact mo9 hM_q | exact mo10 hM_q | exact mo11 hM_q | exact mo12 hM_q | exact mo13 hM_q | exact mo14 hM_q | exact mo15 hM_q | exact mo16 hM_q) (by rfl) ?_
            refine go_iload (pc := 86) dX8_feed_86 rfl ?_
            refine go_bipush (v := 24) (pc := 88) dX8_feed_88 (by decide) ?_
            refine go_bipush (v := 8) (pc := 90) dX8_feed_90 (by decide) ?_
            refine go_iload (pc := 92) dX8_feed_92 rfl ?_
            refine go_iconst (v := 3) (pc := 94) dX8_feed_94 (by decide) ?_
            refine go_iand (pc := 95) dX8_feed_95 ?_
            refine go_imul (pc := 96) dX8_feed_96 ?_
            refine go_isub (pc := 97) dX8_feed_97 ?_
            refine go_iushr (pc := 98) dX8_feed_98 ?_
            refine go_sipush (v := 255) (pc := 99) dX8_feed_99 (by decide) ?_
            refine go_iand (pc := 102) dX8_feed_102 ?_
            rw [h6_q, fd_sh ⟨i_q, hi_q⟩]
            refine go_mst5 (pc := 103) hM_q dX8_feed_103 (by exact ⟨rfl, by omega⟩) (fun σ hM_q hf9 => ?_)
            have hf_q := hf_q.tr hf9
            refine go_aload_n (pc := 104) dX8_feed_104 rfl ?_
            refine go_dup (pc := 105) dX8_feed_105 rfl ?_
            refine go_getf (pc := 106) f_X8_67 dX8_feed_106 (by first | exact mo0 hM_q | exact mo1 hM_q | exact mo6 hM_q | exact mo7 hM_q | exact mo8 hM_q | exact mo2 hM_q | exact mo3 hM_q | exact mo4 hM_q | exact mo5 hM_q | exact mo9 hM_q | exact mo10 hM_q | exact mo11 hM_q | exact mo12 hM_q | exact mo13 hM_q | exact mo14 hM_q | exact mo15 hM_q | exact mo16 hM_q) (by rfl) ?_
            refine go_iconst (v := 1) (pc := 109) dX8_feed_109 (by decide) ?_
            refine go_iadd (pc := 110) dX8_feed_110 ?_
            rw [h6_q, nI_1]
            refine go_mpf6 (pc := 111) hM_q dX8_feed_111 (fun σ hM_q hf9 => ?_)
            have hf_q := hf_q.tr hf9
            refine go_iinc (v := 1) (lw := [_, _, _, _, _, _, _, _]) (pc := 114) dX8_feed_114 rfl (by decide) (by decide) rfl ?_
            refine go_goto (tgt := 23) (pc := 117) dX8_feed_117 (by decide) ?_
            rw [nI_1]
            exact ih_q _ _ _ ⟨_, _, _, rfl, hM_q, (by repeat (first | assumption | exact eqx.rf | refine eqx.up ?_ (by decide))), hf_q, (by simp only [updA, if_true]; rw [h5_q, ← fdI_s]; congr 1; unfold fdB fdW; first | rw [if_pos (show i_q < 4 from Nat.lt_of_not_le (fun hc_q => h_33 (nI_le (a := 4) hc_q (by omega))))] | rw [if_neg (show ¬ i_q < 4 from fun hc_q => absurd h_33 (nI_ge (b := 4) hc_q (by decide))), if_pos (show i_q < 8 from Nat.lt_of_not_le (fun hc_q => h_44 (nI_le (a := 8) hc_q (by omega))))] | rw [if_neg (show ¬ i_q < 4 from fun hc_q => absurd h_33 (nI_ge (b := 4) hc_q (by decide))), if_neg (show ¬ i_q < 8 from fun hc_q => absurd h_44 (nI_ge (b := 8) hc_q (by decide))), if_pos (show i_q < 12 from Nat.lt_of_not_le (fun hc_q => h_55 (nI_le (a := 12) hc_q (by omega))))] | rw [if_neg (show ¬ i_q < 4 from fun hc_q => absurd h_33 (nI_ge (b := 4) hc_q (by decide))), if_neg (show ¬ i_q < 8 from fun hc_q => absurd h_44 (nI_ge (b := 8) hc_q (by decide))), if_neg (show ¬ i_q < 12 from fun hc_q => absurd h_55 (nI_ge (b := 12) hc_q (by decide))), if_pos (show i_q < 16 from Nat.lt_of_not_le (fun hc_q => h_66 (nI_le (a := 16) hc_q (by omega))))] | rw [if_neg (show ¬ i_q < 4 from fun hc_q => absurd h_33 (nI_ge (b := 4) hc_q (by decide))), if_neg (show ¬ i_q < 8 from fun hc_q => absurd h_44 (nI_ge (b := 8) hc_q (by decide))), if_neg (show ¬ i_q < 12 from fun hc_q => absurd h_55 (nI_ge (b := 12) hc_q (by decide))), if_neg (show ¬ i_q < 16 from fun hc_q => absurd h_66 (nI_ge (b := 16) hc_q (by decide)))]), (by rw [pk_us, Nat.add_assoc]), (by rw [pk_un (by decide)]; exact h4_q), (fun j h1_q h2_q => by rw [pk_un h2_q]; exact hF j h1_q h2_q), rfl⟩
        · refine go_iload_n (pc := 47) dX8_feed_47 rfl ?_
          refine go_goto (tgt := 76) (pc := 48) dX8_feed_48 (by decide) ?_
          refine go_istore (lw := [_, _, _, _, _, _, _, _]) (pc := 76) dX8_feed_76 (by decide) rfl ?_
          refine go_aload_n (pc := 78) dX8_feed_78 rfl ?_
          refine go_getf (pc := 79) f_X8_23 dX8_feed_79 (by first | exact mo0 hM_q | exact mo1 hM_q | exact mo6 hM_q | exact mo7 hM_q | exact mo8 hM_q | exact mo2 hM_q | exact mo3 hM_q | exact mo4 hM_q | exact mo5 hM_q | exact mo9 hM_q | exact mo10 hM_q | exact mo11 hM_q | exact mo12 hM_q | exact mo13 hM_q | exact mo14 hM_q | exact mo15 hM_q | exact mo16 hM_q) (by rfl) ?_
          refine go_aload_n (pc := 82) dX8_feed_82 rfl ?_
          refine go_getf (pc := 83) f_X8_67 dX8_feed_83 (by first | exact mo0 hM_q | exact mo1 hM_q | exact mo6 hM_q | exact mo7 hM_q | exact mo8 hM_q | exact mo2 hM_q | exact mo3 hM_q | exact mo4 hM_q | exact mo5 hM_q | exact mo9 hM_q | exact mo10 hM_q | exact mo11 hM_q | exact mo12 hM_q | exact mo13 hM_q | exact mo14 hM_q | exact mo15 hM_q | exact mo16 hM_q) (by rfl) ?_
          refine go_iload (pc := 86) dX8_feed_86 rfl ?_
          refine go_bipush (v := 24) (pc := 88) dX8_feed_88 (by decide) ?_
          refine go_bipush (v := 8) (pc := 90) dX8_feed_90 (by decide) ?_
          refine go_iload (pc := 92) dX8_feed_92 rfl ?_
          refine go_iconst (v := 3) (pc := 94) dX8_feed_94 (by decide) ?_
          refine go_iand (pc := 95) dX8_feed_95 ?_
          refine go_imul (pc := 96) dX8_feed_96 ?_
          refine go_isub (pc := 97) dX8_feed_97 ?_
          refine go_iushr (pc := 98) dX8_feed_98 ?_
          refine go_sipush (v := 255) (pc := 99) dX8_feed_99 (by decide) ?_
          refine go_iand (pc := 102) dX8_feed_102 ?_
          rw [h6_q, fd_sh ⟨i_q, hi_q⟩]
          refine go_mst5 (pc := 103) hM_q dX8_feed_103 (by exact ⟨rfl, by omega⟩) (fun σ hM_q hf9 => ?_)
          have hf_q := hf_q.tr hf9
          refine go_aload_n (pc := 104) dX8_feed_104 rfl ?_
          refine go_dup (pc := 105) dX8_feed_105 rfl ?_
          refine go_getf (pc := 106) f_X8_67 dX8_feed_106 (by first | exact mo0 hM_q | exact mo1 hM_q | exact mo6 hM_q | exact mo7 hM_q | exact mo8 hM_q | exact mo2 hM_q | exact mo3 hM_q | exact mo4 hM_q | exact mo5 hM_q | exact mo9 hM_q | exact mo10 hM_q | exact mo11 hM_q | exact mo12 hM_q | exact mo13 hM_q | exact mo14 hM_q | exact mo15 hM_q | exact mo16 hM_q) (by rfl) ?_
          refine go_iconst (v := 1) (pc := 109) dX8_feed_109 (by decide) ?_
          refine go_iadd (pc := 110) dX8_feed_110 ?_
          rw [h6_q, nI_1]
          refine go_mpf6 (pc := 111) hM_q dX8_feed_111 (fun σ hM_q hf9 => ?_)
          have hf_q := hf_q.tr hf9
          refine go_iinc (v := 1) (lw := [_, _, _, _, _, _, _, _]) (pc := 114) dX8_feed_114 rfl (by decide) (by decide) rfl ?_
          refine go_goto (tgt := 23) (pc := 117) dX8_feed_117 (by decide) ?_
          rw [nI_1]
          exact ih_q _ _ _ ⟨_, _, _, rfl, hM_q, (by repeat (first | assumption | exact eqx.rf | refine eqx.up ?_ (by decide))), hf_q, (by simp only [updA, if_true]; rw [h5_q, ← fdI_s]; congr 1; unfold fdB fdW; first | rw [if_pos (show i_q < 4 from Nat.lt_of_not_le (fun hc_q => h_33 (nI_le (a := 4) hc_q (by omega))))] | rw [if_neg (show ¬ i_q < 4 from fun hc_q => absurd h_33 (nI_ge (b := 4) hc_q (by decide))), if_pos (show i_q < 8 from Nat.lt_of_not_le (fun hc_q => h_44 (nI_le (a := 8) hc_q (by omega))))] | rw [if_neg (show ¬ i_q < 4 from fun hc_q => absurd h_33 (nI_ge (b := 4) hc_q (by decide))), if_neg (show ¬ i_q < 8 from fun hc_q => absurd h_44 (nI_ge (b := 8) hc_q (by decide))), if_pos (show i_q < 12 from Nat.lt_of_not_le (fun hc_q => h_55 (nI_le (a := 12) hc_q (by omega))))] | rw [if_neg (show ¬ i_q < 4 from fun hc_q => absurd h_33 (nI_ge (b := 4) hc_q (by decide))), if_neg (show ¬ i_q < 8 from fun hc_q => absurd h_44 (nI_ge (b := 8) hc_q (by decide))), if_neg (show ¬ i_q < 12 from fun hc_q => absurd h_55 (nI_ge (b := 12) hc_q (by decide))), if_pos (show i_q < 16 from Nat.lt_of_not_le (fun hc_q => h_66 (nI_le (a := 16) hc_q (by omega))))] | rw [if_neg (show ¬ i_q < 4 from fun hc_q => absurd h_33 (nI_ge (b := 4) hc_q (by decide))), if_neg (show ¬ i_q < 8 from fun hc_q => absurd h_44 (nI_ge (b := 8) hc_q (by decide))), if_neg (show ¬ i_q < 12 from fun hc_q => absurd h_55 (nI_ge (b := 12) hc_q (by decide))), if_neg (show ¬ i_q < 16 from fun hc_q => absurd h_66 (nI_ge (b := 16) hc_q (by decide)))]), (by rw [pk_us, Nat.add_assoc]), (by rw [pk_un (by decide)]; exact h4_q), (fun j h1_q h2_q => by rw [pk_un h2_q]; exact hF j h1_q h2_q), rfl⟩
      · refine go_iload_n (pc := 36) dX8_feed_36 rfl ?_
        refine go_goto (tgt := 76) (pc := 37) dX8_feed_37 (by decide) ?_
        refine go_istore (lw := [_, _, _, _, _, _, _, _]) (pc := 76) dX8_feed_76 (by decide) rfl ?_
        refine go_aload_n (pc := 78) dX8_feed_78 rfl ?_
        refine go_getf (pc := 79) f_X8_23 dX8_feed_79 (by first | exact mo0 hM_q | exact mo1 hM_q | exact mo6 hM_q | exact mo7 hM_q | exact mo8 hM_q | exact mo2 hM_q | exact mo3 hM_q | exact mo4 hM_q | exact mo5 hM_q | exact mo9 hM_q | exact mo10 hM_q | exact mo11 hM_q | exact mo12 hM_q | exact mo13 hM_q | exact mo14 hM_q | exact mo15 hM_q | exact mo16 hM_q) (by rfl) ?_
        refine go_aload_n (pc := 82) dX8_feed_82 rfl ?_
        refine go_getf (pc := 83) f_X8_67 dX8_feed_83 (by first | exact mo0 hM_q | exact mo1 hM_q | exact mo6 hM_q | exact mo7 hM_q | exact mo8 hM_q | exact mo2 hM_q | exact mo3 hM_q | exact mo4 hM_q | exact mo5 hM_q | exact mo9 hM_q | exact mo10 hM_q | exact mo11 hM_q | exact mo12 hM_q | exact mo13 hM_q | exact mo14 hM_q | exact mo15 hM_q | exact mo16 hM_q) (by rfl) ?_
        refine go_iload (pc := 86) dX8_feed_86 rfl ?_
        refine go_bipush (v := 24) (pc := 88) dX8_feed_88 (by decide) ?_
        refine go_bipush (v := 8) (pc := 90) dX8_feed_90 (by decide) ?_
        refine go_iload (pc := 92) dX8_feed_92 rfl ?_
        refine go_iconst (v := 3) (pc := 94) dX8_feed_94 (by decide) ?_
        refine go_iand (pc := 95) dX8_feed_95 ?_
        refine go_imul (pc := 96) dX8_feed_96 ?_
        refine go_isub (pc := 97) dX8_feed_97 ?_
        refine go_iushr (pc := 98) dX8_feed_98 ?_
        refine go_sipush (v := 255) (pc := 99) dX8_feed_99 (by decide) ?_
        refine go_iand (pc := 102) dX8_feed_102 ?_
        rw [h6_q, fd_sh ⟨i_q, hi_q⟩]
        refine go_mst5 (pc := 103) hM_q dX8_feed_103 (by exact ⟨rfl, by omega⟩) (fun σ hM_q hf9 => ?_)
        have hf_q := hf_q.tr hf9
        refine go_aload_n (pc := 104) dX8_feed_104 rfl ?_
        refine go_dup (pc := 105) dX8_feed_105 rfl ?_
        refine go_getf (pc := 106) f_X8_67 dX8_feed_106 (by first | exact mo0 hM_q | exact mo1 hM_q | exact mo6 hM_q | exact mo7 hM_q | exact mo8 hM_q | exact mo2 hM_q | exact mo3 hM_q | exact mo4 hM_q | exact mo5 hM_q | exact mo9 hM_q | exact mo10 hM_q | exact mo11 hM_q | exact mo12 hM_q | exact mo13 hM_q | exact mo14 hM_q | exact mo15 hM_q | exact mo16 hM_q) (by rfl) ?_
        refine go_iconst (v := 1) (pc := 109) dX8_feed_109 (by decide) ?_
        refine go_iadd (pc := 110) dX8_feed_110 ?_
        rw [h6_q, nI_1]
        refine go_mpf6 (pc := 111) hM_q dX8_feed_111 (fun σ hM_q hf9 => ?_)
        have hf_q := hf_q.tr hf9
        refine go_iinc (v := 1) (lw := [_, _, _, _, _, _, _, _]) (pc := 114) dX8_feed_114 rfl (by decide) (by decide) rfl ?_
        refine go_goto (tgt := 23) (pc := 117) dX8_feed_117 (by decide) ?_
        rw [nI_1]
        exact ih_q _ _ _ ⟨_, _, _, rfl, hM_q, (by repeat (first | assumption | exact eqx.rf | refine eqx.up ?_ (by decide))), hf_q, (by simp only [updA, if_true]; rw [h5_q, ← fdI_s]; congr 1; unfold fdB fdW; first | rw [if_pos (show i_q < 4 from Nat.lt_of_not_le (fun hc_q => h_33 (nI_le (a := 4) hc_q (by omega))))] | rw [if_neg (show ¬ i_q < 4 from fun hc_q => absurd h_33 (nI_ge (b := 4) hc_q (by decide))), if_pos (show i_q < 8 from Nat.lt_of_not_le (fun hc_q => h_44 (nI_le (a := 8) hc_q (by omega))))] | rw [if_neg (show ¬ i_q < 4 from fun hc_q => absurd h_33 (nI_ge (b := 4) hc_q (by decide))), if_neg (show ¬ i_q < 8 from fun hc_q => absurd h_44 (nI_ge (b := 8) hc_q (by decide))), if_pos (show i_q < 12 from Nat.lt_of_not_le (fun hc_q => h_55 (nI_le (a := 12) hc_q (by omega))))] | rw [if_neg (show ¬ i_q < 4 from fun hc_q => absurd h_33 (nI_ge (b := 4) hc_q (by decide))), if_neg (show ¬ i_q < 8 from fun hc_q => absurd h_44 (nI_ge (b := 8) hc_q (by decide))), if_neg (show ¬ i_q < 12 from fun hc_q => absurd h_55 (nI_ge (b := 12) hc_q (by decide))), if_pos (show i_q < 16 from Nat.lt_of_not_le (fun hc_q => h_66 (nI_le (a := 16) hc_q (by omega))))] | rw [if_neg (show ¬ i_q < 4 from fun hc_q => absurd h_33 (nI_ge (b := 4) hc_q (by decide))), if_neg (show ¬ i_q < 8 from fun hc_q => absurd h_44 (nI_ge (b := 8) hc_q (by decide))), if_neg (show ¬ i_q < 12 from fun hc_q => absurd h_55 (nI_ge (b := 12) hc_q (by decide))), if_neg (show ¬ i_q < 16 from fun hc_q => absurd h_66 (nI_ge (b := 16) hc_q (by decide)))]), (by rw [pk_us, Nat.add_assoc]), (by rw [pk_un (by decide)]; exact h4_q), (fun j h1_q h2_q => by rw [pk_un h2_q]; exact hF j h1_q h2_q), rfl⟩
    · rintro lv9 σ n9 ⟨F9, x7_q, A9_q, rfl, hM_q, hA_q, hf_q, h5_q, h6_q, h4_q, hF, rfl⟩
      refine go_iload (pc := 23) dX8_feed_23 rfl ?_
      refine go_bipush (v := 20) (pc := 25) dX8_feed_25 (by decide) ?_
      refine go_icmp_ge (tgt := 120) (pc := 27) dX8_feed_27 (by decide) (fun h_27 => ?_) (fun h_27 => by exfalso; exact h_27 (by decide))
      refine go_aload_n (pc := 120) dX8_feed_120 rfl ?_
      refine go_getf (pc := 121) f_X8_67 dX8_feed_121 (by first | exact mo0 hM_q | exact mo1 hM_q | exact mo6 hM_q | exact mo7 hM_q | exact mo8 hM_q | exact mo2 hM_q | exact mo3 hM_q | exact mo4 hM_q | exact mo5 hM_q | exact mo9 hM_q | exact mo10 hM_q | exact mo11 hM_q | exact mo12 hM_q | exact mo13 hM_q | exact mo14 hM_q | exact mo15 hM_q | exact mo16 hM_q) (by rfl) ?_
      rw [h6_q]
      exact go_iretI (pc := 124) rfl dX8_feed_124 (Nat.le_of_ble_eq_true rfl) (Nat.le_of_ble_eq_true rfl) (Or.inr ⟨by omega, rfl, ⟨rfl, _, _, hM_q, h4_q, (fun j h1_q h2_q h3_q h4_q => hF j h1_q h2_q), hA_q, hf_q, h6_q, h5_q⟩⟩)
  · refine go_iconst (v := -1) (pc := 18) dX8_feed_18 (by decide) ?_
    exact go_iretI (pc := 19) rfl dX8_feed_19 (Nat.le_of_ble_eq_true rfl) (Nat.le_of_ble_eq_true rfl) (Or.inl ⟨Nat.lt_of_not_le (fun hc_q => h_15 (nI_le (b := 900) (by omega) (by decide))), rfl, ⟨rfl, _, _, hM_q, rfl, (fun j h1_q h2_q h3_q h4_q => by simp [upd, h1_q, h2_q, h3_q, h4_q]), eqx.rf, hf_q, rfl⟩⟩)
