/-! ===== the reference: whom to have faint ===== -/
theorem sa_and (a b : Nat) : nI a &&& nI b = nI (a &&& b) := by
  apply Int32.toBitVec_inj.mp
  simp only [nI, Int32.toBitVec_and, Int32.toBitVec_ofNat', BitVec.ofNat_and]
theorem sa_xor (a b : Nat) : nI a ^^^ nI b = nI (a ^^^ b) := by
  apply Int32.toBitVec_inj.mp
  simp only [nI, Int32.toBitVec_xor, Int32.toBitVec_ofNat', BitVec.ofNat_xor]
theorem fnt_sub {s v q : Nat} (hs : s < 256) (hv_q : v < 256) (h_q : nI s &&& (nI v ^^^ (-1)) = 0) (hq_q : q < 8) (hh : hasB (nI s) (nI q) = true) : hasB (nI v) (nI q) = true := by
  rw [show (-1 : Int32) = nI (2 ^ 32 - 1) from by decide, sa_xor, sa_and] at h_q
  have h1_q : s &&& (v ^^^ (2 ^ 32 - 1)) ≤ s := Nat.and_le_left
  have h2_q := (nI_eq (a := s &&& (v ^^^ (2 ^ 32 - 1))) (b := 0) (by omega) (by omega)).mp h_q
  have h3_q := congrArg (fun x => Nat.testBit x q) h2_q
  simp only [Nat.testBit_and, Nat.testBit_xor, Nat.testBit_two_pow_sub_one, Nat.zero_testBit] at h3_q
  rw [hb_nat hs hq_q] at hh
  rw [hb_nat hv_q hq_q]
  rw [hh, show decide (q < 32) = true from decide_eq_true (by omega)] at h3_q
  revert h3_q
  cases Nat.testBit v q <;> simp
theorem sp_faints {Γ : gam} {z0 : sto} {n k r : Nat} {F K : row} {A : Nat → row} {Nm : Nat → Int64} (hM_q : MoAt Γ z0 r F K A Nm) (hk : 14 ≤ k) (hB_q : okB K) (hv_q : vS K) (p z w : Int32) : Sp Γ (rmk k 0 0) uX8_faints [.ref r, .int p, .int z, .int w] z0 n (qI fun v σ' n' => v = (aFaints K p.toInt z.toInt w.toInt).2 ∧ apJ Γ r F K A Nm z0 n (aFaints K p.toInt z.toInt w.toInt).1 σ' n') := by
  have hP8 := hB_q.1.2.1
  have hH5 := hB_q.1.2.2.2.1
  have hW4 := hB_q.1.2.2.2.2.2
  have hA_q : eqx [6, 7, 8, 9, 10, 11, 12, 13] A A := eqx.rf
  have hf_q : fr r (r + 16) z0 z0 := fr.rf
  refine sp_intro [some (.ref r), some (.int p), some (.int z), some (.int w), none, none, none, none] (by decide +kernel) rfl (Nat.le_of_ble_eq_true rfl) rfl ?_
  cases hp_q : pN (kP K) p.toInt with
  | none =>
    refine go_aload_n (pc := 0) dX8_faints_0 rfl ?_
    refine go_aload_n (pc := 1) dX8_faints_1 rfl ?_
    refine go_iload_n (pc := 2) dX8_faints_2 rfl ?_
    refine go_i2l (pc := 3) dX8_faints_3 ?_
    refine go_V1P (pc := 4) v_X8_310 rfl rfl (rcv_of (ci := 8) (by first | exact mo0 hM_q | exact mo1 hM_q | exact mo6 hM_q | exact mo7 hM_q | exact mo8 hM_q | exact mo2 hM_q | exact mo3 hM_q | exact mo4 hM_q | exact mo5 hM_q | exact mo9 hM_q | exact mo10 hM_q | exact mo11 hM_q | exact mo12 hM_q | exact mo13 hM_q | exact mo14 hM_q | exact mo15 hM_q | exact mo16 hM_q) rfl) dX8_faints_4 (sp_isPerson (k := k - 1) hM_q (by omega) _) ?_
    refine go_if_ne (tgt := 14) (pc := 7) dX8_faints_7 (by decide) (fun h_7 => by exfalso; exact h_7 (pi_no hB_q.1.1 (by omega) hp_q)) (fun h_7 => ?_)
    refine go_iconst (v := 1) (pc := 10) dX8_faints_10 (by decide) ?_
    refine go_goto (tgt := 41) (pc := 11) dX8_faints_11 (by decide) ?_
    refine go_mpf4 (pc := 41) hM_q dX8_faints_41 (fun σ hM_q hf9 => ?_)
    have hf_q := hf_q.tr hf9
    refine go_aload_n (pc := 44) dX8_faints_44 rfl ?_
    refine go_getf (pc := 45) f_X8_64 dX8_faints_45 (by first | exact mo0 hM_q | exact mo1 hM_q | exact mo6 hM_q | exact mo7 hM_q | exact mo8 hM_q | exact mo2 hM_q | exact mo3 hM_q | exact mo4 hM_q | exact mo5 hM_q | exact mo9 hM_q | exact mo10 hM_q | exact mo11 hM_q | exact mo12 hM_q | exact mo13 hM_q | exact mo14 hM_q | exact mo15 hM_q | exact mo16 hM_q) (by rfl) ?_
    refine go_if_le (tgt := 53) (pc := 48) dX8_faints_48 (by decide) (fun h_48 => by exfalso; exact absurd (show (1 : Int32) ≤ 0 from h_48) (by decide)) (fun h_48 => ?_)
    refine go_iconst (v := 0) (pc := 51) dX8_faints_51 (by decide) ?_
    exact go_iretI (pc := 52) rfl dX8_faints_52 (Nat.le_of_ble_eq_true rfl) (Nat.le_of_ble_eq_true rfl) ⟨(by simp [aFaints, fntT, hp_q]), rfl, _, _, hM_q, ⟨(by simp [upd, aFaints, fntT, hp_q]), fun j h1_q h2_q h3_q => by simp [upd, h1_q, h2_q, h3_q]⟩, (by repeat (first | assumption | exact eqx.rf | refine eqx.up ?_ (by decide))), hf_q⟩
  | some j1_q =>
    have hp1 := pN_some hp_q
    obtain rfl := I_nat hp1.1 (by omega)
    cases hz_q : rN 0 61 z.toInt with
    | none =>
      refine go_aload_n (pc := 0) dX8_faints_0 rfl ?_
      refine go_aload_n (pc := 1) dX8_faints_1 rfl ?_
      refine go_iload_n (pc := 2) dX8_faints_2 rfl ?_
      refine go_i2l (pc := 3) dX8_faints_3 ?_
      refine go_V1P (pc := 4) v_X8_310 rfl rfl (rcv_of (ci := 8) (by first | exact mo0 hM_q | exact mo1 hM_q | exact mo6 hM_q | exact mo7 hM_q | exact mo8 hM_q | exact mo2 hM_q | exact mo3 hM_q | exact mo4 hM_q | exact mo5 hM_q | exact mo9 hM_q | exact mo10 hM_q | exact mo11 hM_q | exact mo12 hM_q | exact mo13 hM_q | exact mo14 hM_q | exact mo15 hM_q | exact mo16 hM_q) rfl) dX8_faints_4 (sp_isPerson (k := k - 1) hM_q (by omega) _) ?_
      refine go_if_ne (tgt := 14) (pc := 7) dX8_faints_7 (by decide) (fun h_7 => ?_) (fun h_7 => by exfalso; rw [pi_yes hB_q.1.1 (by omega) hp_q] at h_7; exact absurd h_7 (by decide))
      refine go_iload_n (pc := 14) dX8_faints_14 rfl ?_
      refine go_i2l (pc := 15) dX8_faints_15 ?_
      refine go_lconst (v := 0) (pc := 16) dX8_faints_16 rfl ?_
      refine go_ldc2 (pc := 17) kw8_85 dX8_faints_17 ?_
      refine go_S3P (pc := 20) s_X8_125 rfl rfl dX8_faints_20 (sp_within (k := k - 1) _ _ _) ?_
      refine go_if_eq (tgt := 40) (pc := 23) dX8_faints_23 (by decide) (fun h_23 => ?_) (fun h_23 => by exfalso; exact h_23 (wi_no hz_q (by decide) (by decide)))
      refine go_iconst (v := 2) (pc := 40) dX8_faints_40 (by decide) ?_
      refine go_mpf4 (pc := 41) hM_q dX8_faints_41 (fun σ hM_q hf9 => ?_)
      have hf_q := hf_q.tr hf9
      refine go_aload_n (pc := 44) dX8_faints_44 rfl ?_
      refine go_getf (pc := 45) f_X8_64 dX8_faints_45 (by first | exact mo0 hM_q | exact mo1 hM_q | exact mo6 hM_q | exact mo7 hM_q | exact mo8 hM_q | exact mo2 hM_q | exact mo3 hM_q | exact mo4 hM_q | exact mo5 hM_q | exact mo9 hM_q | exact mo10 hM_q | exact mo11 hM_q | exact mo12 hM_q | exact mo13 hM_q | exact mo14 hM_q | exact mo15 hM_q | exact mo16 hM_q) (by rfl) ?_
      refine go_if_le (tgt := 53) (pc := 48) dX8_faints_48 (by decide) (fun h_48 => by exfalso; exact absurd (show (2 : Int32) ≤ 0 from h_48) (by decide)) (fun h_48 => ?_)
      refine go_iconst (v := 0) (pc := 51) dX8_faints_51 (by decide) ?_
      exact go_iretI (pc := 52) rfl dX8_faints_52 (Nat.le_of_ble_eq_true rfl) (Nat.le_of_ble_eq_true rfl) ⟨(by simp [aFaints, fntT, hp_q, hz_q]), rfl, _, _, hM_q, ⟨(by simp [upd, aFaints, fntT, hp_q, hz_q]), fun j h1_q h2_q h3_q => by simp [upd, h1_q, h2_q, h3_q]⟩, (by repeat (first | assumption | exact eqx.rf | refine eqx.up ?_ (by decide))), hf_q⟩
    | some x1_q =>
      have hz1 := rN_some hz_q
      obtain rfl := I_nat hz1.1 (by omega)
      cases hw_q : rN 0 2 w.toInt with
      | none =>
        refine go_aload_n (pc := 0) dX8_faints_0 rfl ?_
        refine go_aload_n (pc := 1) dX8_faints_1 rfl ?_
        refine go_iload_n (pc := 2) dX8_faints_2 rfl ?_
        refine go_i2l (pc := 3) dX8_faints_3 ?_
        refine go_V1P (pc := 4) v_X8_310 rfl rfl (rcv_of (ci := 8) (by first | exact mo0 hM_q | exact mo1 hM_q | exact mo6 hM_q | exact mo7 hM_q | exact mo8 hM_q | exact mo2 hM_q | exact mo3 hM_q | exact mo4 hM_q | exact mo5 hM_q | exact mo9 hM_q | exact mo10 hM_q | exact mo11 hM_q | exact mo12 hM_q | exact mo13 hM_q | exact mo14 hM_q | exact mo15 hM_q | exact mo16 hM_q) rfl) dX8_faints_4 (sp_isPerson (k := k - 1) hM_q (by omega) _) ?_
        refine go_if_ne (tgt := 14) (pc := 7) dX8_faints_7 (by decide) (fun h_7 => ?_) (fun h_7 => by exfalso; rw [pi_yes hB_q.1.1 (by omega) hp_q] at h_7; exact absurd h_7 (by decide))
        refine go_iload_n (pc := 14) dX8_faints_14 rfl ?_
        refine go_i2l (pc := 15) dX8_faints_15 ?_
        refine go_lconst (v := 0) (pc := 16) dX8_faints_16 rfl ?_
        refine go_ldc2 (pc := 17) kw8_85 dX8_faints_17 ?_
        refine go_S3P (pc := 20) s_X8_125 rfl rfl dX8_faints_20 (sp_within (k := k - 1) _ _ _) ?_
        refine go_if_eq (tgt := 40) (pc := 23) dX8_faints_23 (by decide) (fun h_23 => by exfalso; rw [wi_yes hz_q (by decide) (by decide)] at h_23; exact absurd h_23 (by decide)) (fun h_23 => ?_)
        refine go_iload_n (pc := 26) dX8_faints_26 rfl ?_
        refine go_i2l (pc := 27) dX8_faints_27 ?_
        refine go_lconst (v := 0) (pc := 28) dX8_faints_28 rfl ?_
        refine go_lconst (v := 1) (pc := 29) dX8_faints_29 rfl ?_
        refine go_S3P (pc := 30) s_X8_125 rfl rfl dX8_faints_30 (sp_within (k := k - 1) _ _ _) ?_
        refine go_if_eq (tgt := 40) (pc := 33) dX8_faints_33 (by decide) (fun h_33 => ?_) (fun h_33 => by exfalso; exact h_33 (wi_no hw_q (by decide) (by decide)))
        refine go_iconst (v := 2) (pc := 40) dX8_faints_40 (by decide) ?_
        refine go_mpf4 (pc := 41) hM_q dX8_faints_41 (fun σ hM_q hf9 => ?_)
        have hf_q := hf_q.tr hf9
        refine go_aload_n (pc := 44) dX8_faints_44 rfl ?_
        refine go_getf (pc := 45) f_X8_64 dX8_faints_45 (by first | exact mo0 hM_q | exact mo1 hM_q | exact mo6 hM_q | exact mo7 hM_q | exact mo8 hM_q | exact mo2 hM_q | exact mo3 hM_q | exact mo4 hM_q | exact mo5 hM_q | exact mo9 hM_q | exact mo10 hM_q | exact mo11 hM_q | exact mo12 hM_q | exact mo13 hM_q | exact mo14 hM_q | exact mo15 hM_q | exact mo16 hM_q) (by rfl) ?_
        refine go_if_le (tgt := 53) (pc := 48) dX8_faints_48 (by decide) (fun h_48 => by exfalso; exact absurd (show (2 : Int32) ≤ 0 from h_48) (by decide)) (fun h_48 => ?_)
        refine go_iconst (v := 0) (pc := 51) dX8_faints_51 (by decide) ?_
        exact go_iretI (pc := 52) rfl dX8_faints_52 (Nat.le_of_ble_eq_true rfl) (Nat.le_of_ble_eq_true rfl) ⟨(by simp [aFaints, fntT, hp_q, hz_q, hw_q]), rfl, _, _, hM_q, ⟨(by simp [upd, aFaints, fntT, hp_q, hz_q, hw_q]), fun j h1_q h2_q h3_q => by simp [upd, h1_q, h2_q, h3_q]⟩, (by repeat (first | assumption | exact eqx.rf | refine eqx.up ?_ (by decide))), hf_q⟩
      | some x2_q =>
        have hw1 := rN_some hw_q
        obtain rfl := I_nat hw1.1 (by omega)
        refine go_aload_n (pc := 0) dX8_faints_0 rfl ?_
        refine go_aload_n (pc := 1) dX8_faints_1 rfl ?_
        refine go_iload_n (pc := 2) dX8_faints_2 rfl ?_
        refine go_i2l (pc := 3) dX8_faints_3 ?_
        refine go_V1P (pc := 4) v_X8_310 rfl rfl (rcv_of (ci := 8) (by first | exact mo0 hM_q | exact mo1 hM_q | exact mo6 hM_q | exact mo7 hM_q | exact mo8 hM_q | exact mo2 hM_q | exact mo3 hM_q | exact mo4 hM_q | exact mo5 hM_q | exact mo9 hM_q | exact mo10 hM_q | exact mo11 hM_q | exact mo12 hM_q | exact mo13 hM_q | exact mo14 hM_q | exact mo15 hM_q | exact mo16 hM_q) rfl) dX8_faints_4 (sp_isPerson (k := k - 1) hM_q (by omega) _) ?_
        refine go_if_ne (tgt := 14) (pc := 7) dX8_faints_7 (by decide) (fun h_7 => ?_) (fun h_7 => by exfalso; rw [pi_yes hB_q.1.1 (by omega) hp_q] at h_7; exact absurd h_7 (by decide))
        refine go_iload_n (pc := 14) dX8_faints_14 rfl ?_
        refine go_i2l (pc := 15) dX8_faints_15 ?_
        refine go_lconst (v := 0) (pc := 16) dX8_faints_16 rfl ?_
        refine go_ldc2 (pc := 17) kw8_85 dX8_faints_17 ?_
        refine go_S3P (pc := 20) s_X8_125 rfl rfl dX8_faints_20 (sp_within (k := k - 1) _ _ _) ?_
        refine go_if_eq (tgt := 40) (pc := 23) dX8_faints_23 (by decide) (fun h_23 => by exfalso; rw [wi_yes hz_q (by decide) (by decide)] at h_23; exact absurd h_23 (by decide)) (fun h_23 => ?_)
        refine go_iload_n (pc := 26) dX8_faints_26 rfl ?_
        refine go_i2l (pc := 27) dX8_faints_27 ?_
        refine go_lconst (v := 0) (pc := 28) dX8_faints_28 rfl ?_
        refine go_lconst (v := 1) (pc := 29) dX8_faints_29 rfl ?_
        refine go_S3P (pc := 30) s_X8_125 rfl rfl dX8_faints_30 (sp_within (k := k - 1) _ _ _) ?_
        refine go_if_eq (tgt := 40) (pc := 33) dX8_faints_33 (by decide) (fun h_33 => by exfalso; rw [wi_yes hw_q (by decide) (by decide)] at h_33; exact absurd h_33 (by decide)) (fun h_33 => ?_)
        refine go_iconst (v := 0) (pc := 36) dX8_faints_36 (by decide) ?_
        refine go_goto (tgt := 41) (pc := 37) dX8_faints_37 (by decide) ?_
        refine go_mpf4 (pc := 41) hM_q dX8_faints_41 (fun σ hM_q hf9 => ?_)
        have hf_q := hf_q.tr hf9
        refine go_aload_n (pc := 44) dX8_faints_44 rfl ?_
        refine go_getf (pc := 45) f_X8_64 dX8_faints_45 (by first | exact mo0 hM_q | exact mo1 hM_q | exact mo6 hM_q | exact mo7 hM_q | exact mo8 hM_q | exact mo2 hM_q | exact mo3 hM_q | exact mo4 hM_q | exact mo5 hM_q | exact mo9 hM_q | exact mo10 hM_q | exact mo11 hM_q | exact mo12 hM_q | exact mo13 hM_q | exact mo14 hM_q | exact mo15 hM_q | exact mo16 hM_q) (by rfl) ?_
        refine go_if_le (tgt := 53) (pc := 48) dX8_faints_48 (by decide) (fun h_48 => ?_) (fun h_48 => by exfalso; exact h_48 (show (0 : Int32) ≤ 0 from by decide))
        have ht_q : fntT K (nI j1_q).toInt (nI x1_q).toInt (nI x2_q).toInt = 0 := by simp only [fntT, hp_q, hz_q, hw_q]
        have han : aFaints K (nI j1_q).toInt (nI x1_q).toInt (nI x2_q).toInt = (0, if fntK K j1_q x1_q = -1 ∨ (x2_q : Int) = 1 then fntK K j1_q x1_q else szI (fntK K j1_q x1_q)) := by rw [aFaints, ht_q, hp1.1, hz1.1, hw1.1]; rfl
        refine go_iconst (v := 0) (pc := 53) dX8_faints_53 (by decide) ?_
        refine go_istore (lw := [_, _, _, _, _, _, _, _]) (pc := 54) dX8_faints_54 (by decide) rfl ?_
        refine go_iconst (v := 0) (pc := 56) dX8_faints_56 (by decide) ?_
        refine go_istore (lw := [_, _, _, _, _, _, _, _]) (pc := 57) dX8_faints_57 (by decide) rfl ?_
        refine go_iter (kP K) (fun i_q lv9 s9 n9 => ∃ (x4_q : Int32), ∃ A9_q, lv9 = [some (.ref r), some (.int (nI j1_q)), some (.int (nI x1_q)), some (.int (nI x2_q)), some (.int x4_q), some (.int (nI i_q)), none, none] ∧ (MoAt Γ s9 r (upd F 4 0) K A9_q Nm) ∧ (eqx [6, 7, 8, 9, 10, 11, 12, 13] A A9_q) ∧ (fr r (r + 16) z0 s9) ∧ (bits (fun q => decide (q ≠ j1_q ∧ whyR K (q : Int) = 0)) (kP K - i_q) i_q x4_q = fntA K j1_q) ∧ n = n9) ⟨0, _, rfl, hM_q, hA_q, hf_q, rfl, rfl⟩ ?_ ?_
        · rintro i_q lv9 σ n9 hi_q ⟨x4_q, A9_q, rfl, hM_q, hA_q, hf_q, hR_q, rfl⟩ ih_q
          refine go_iload (pc := 59) dX8_faints_59 rfl ?_
          refine go_aload_n (pc := 61) dX8_faints_61 rfl ?_
          refine go_V0P (pc := 62) v_X8_242 rfl rfl (rcv_of (ci := 8) (by first | exact mo0 hM_q | exact mo1 hM_q | exact mo6 hM_q | exact mo7 hM_q | exact mo8 hM_q | exact mo2 hM_q | exact mo3 hM_q | exact mo4 hM_q | exact mo5 hM_q | exact mo9 hM_q | exact mo10 hM_q | exact mo11 hM_q | exact mo12 hM_q | exact mo13 hM_q | exact mo14 hM_q | exact mo15 hM_q | exact mo16 hM_q) rfl) dX8_faints_62 (sp_people (k := k - 1) hM_q) ?_
          rw [hB_q.1.1]
          refine go_icmp_ge (tgt := 103) (pc := 65) dX8_faints_65 (by decide) (fun h_65 => by exfalso; exact absurd h_65 (nI_ge (by omega) (by omega))) (fun h_65 => ?_)
          refine go_iload (pc := 68) dX8_faints_68 rfl ?_
          refine go_iload (pc := 70) dX8_faints_70 rfl ?_
          refine go_iload_n (pc := 72) dX8_faints_72 rfl ?_
          refine go_icmp_eq (tgt := 93) (pc := 73) dX8_faints_73 (by decide) (fun h_73 => ?_) (fun h_73 => ?_)
          · refine go_iconst (v := 0) (pc := 93) dX8_faints_93 (by decide) ?_
            refine go_ior (pc := 94) dX8_faints_94 ?_
            refine go_istore (lw := [_, _, _, _, _, _, _, _]) (pc := 95) dX8_faints_95 (by decide) rfl ?_
            refine go_iinc (v := 1) (lw := [_, _, _, _, _, _, _, _]) (pc := 97) dX8_faints_97 rfl (by decide) (by decide) rfl ?_
            refine go_goto (tgt := 59) (pc := 100) dX8_faints_100 (by decide) ?_
            rw [nI_1]
            exact ih_q _ _ _ ⟨_, _, rfl, hM_q, hA_q, hf_q, (by rw [← hR_q, bits_step hi_q]; congr 2; first | (rw [if_neg (by rw [decide_eq_true_eq]; exact fun hc_q => hc_q.1 ((nI_eq (by omega) (by omega)).mp h_73))]) | (rw [if_neg (by rw [decide_eq_true_eq]; exact fun hc_q => h_83 hc_q.2)]) | (rw [if_pos (by rw [decide_eq_true_eq]; exact ⟨fun hc_q => h_73 (by rw [hc_q]), h_83⟩)])), rfl⟩
          · refine go_aload_n (pc := 76) dX8_faints_76 rfl ?_
            refine go_iload (pc := 77) dX8_faints_77 rfl ?_
            refine go_i2l (pc := 79) dX8_faints_79 ?_
            refine go_V1P (pc := 80) v_X8_324 rfl rfl (rcv_of (ci := 8) (by first | exact mo0 hM_q | exact mo1 hM_q | exact mo6 hM_q | exact mo7 hM_q | exact mo8 hM_q | exact mo2 hM_q | exact mo3 hM_q | exact mo4 hM_q | exact mo5 hM_q | exact mo9 hM_q | exact mo10 hM_q | exact mo11 hM_q | exact mo12 hM_q | exact mo13 hM_q | exact mo14 hM_q | exact mo15 hM_q | exact mo16 hM_q) rfl) dX8_faints_80 (sp_whyRise (k := k - 1) hM_q (by omega) hB_q _) ?_
            rw [Int32.toInt_toInt64, nI_toInt (n := i_q) (by omega)]
            refine go_if_ne (tgt := 93) (pc := 83) dX8_faints_83 (by decide) (fun h_83 => ?_) (fun h_83 => ?_)
            · refine go_iconst (v := 0) (pc := 93) dX8_faints_93 (by decide) ?_
              refine go_ior (pc := 94) dX8_faints_94 ?_
              refine go_istore (lw := [_, _, _, _, _, _, _, _]) (pc := 95) dX8_faints_95 (by decide) rfl ?_
              refine go_iinc (v := 1) (lw := [_, _, _, _, _, _, _, _]) (pc := 97) dX8_faints_97 rfl (by decide) (by decide) rfl ?_
              refine go_goto (tgt := 59) (pc := 100) dX8_faints_100 (by decide) ?_
              rw [nI_1]
              exact ih_q _ _ _ ⟨_, _, rfl, hM_q, hA_q, hf_q, (by rw [← hR_q, bits_step hi_q]; congr 2; first | (rw [if_neg (by rw [decide_eq_true_eq]; exact fun hc_q => hc_q.1 ((nI_eq (by omega) (by omega)).mp h_73))]) | (rw [if_neg (by rw [decide_eq_true_eq]; exact fun hc_q => h_83 hc_q.2)]) | (rw [if_pos (by rw [decide_eq_true_eq]; exact ⟨fun hc_q => h_73 (by rw [hc_q]), h_83⟩)])), rfl⟩
            · refine go_iconst (v := 1) (pc := 86) dX8_faints_86 (by decide) ?_
              refine go_iload (pc := 87) dX8_faints_87 rfl ?_
              refine go_ishl (pc := 89) dX8_faints_89 ?_
              refine go_goto (tgt := 94) (pc := 90) dX8_faints_90 (by decide) ?_
              refine go_ior (pc := 94) dX8_faints_94 ?_
              refine go_istore (lw := [_, _, _, _, _, _, _, _]) (pc := 95) dX8_faints_95 (by decide) rfl ?_
              refine go_iinc (v := 1) (lw := [_, _, _, _, _, _, _, _]) (pc := 97) dX8_faints_97 rfl (by decide) (by decide) rfl ?_
              refine go_goto (tgt := 59) (pc := 100) dX8_faints_100 (by decide) ?_
              rw [nI_1]
              exact ih_q _ _ _ ⟨_, _, rfl, hM_q, hA_q, hf_q, (by rw [← hR_q, bits_step hi_q]; congr 2; first | (rw [if_neg (by rw [decide_eq_true_eq]; exact fun hc_q => hc_q.1 ((nI_eq (by omega) (by omega)).mp h_73))]) | (rw [if_neg (by rw [decide_eq_true_eq]; exact fun hc_q => h_83 hc_q.2)]) | (rw [if_pos (by rw [decide_eq_true_eq]; exact ⟨fun hc_q => h_73 (by rw [hc_q]), h_83⟩)])), rfl⟩
        · rintro lv9 σ n9 ⟨x4_q, A9_q, rfl, hM_q, hA_q, hf_q, hR_q, rfl⟩
          refine go_iload (pc := 59) dX8_faints_59 rfl ?_
          refine go_aload_n (pc := 61) dX8_faints_61 rfl ?_
          refine go_V0P (pc := 62) v_X8_242 rfl rfl (rcv_of (ci := 8) (by first | exact mo0 hM_q | exact mo1 hM_q | exact mo6 hM_q | exact mo7 hM_q | exact mo8 hM_q | exact mo2 hM_q | exact mo3 hM_q | exact mo4 hM_q | exact mo5 hM_q | exact mo9 hM_q | exact mo10 hM_q | exact mo11 hM_q | exact mo12 hM_q | exact mo13 hM_q | exact mo14 hM_q | exact mo15 hM_q | exact mo16 hM_q) rfl) dX8_faints_62 (sp_people (k := k - 1) hM_q) ?_
          rw [hB_q.1.1]
          refine go_icmp_ge (tgt := 103) (pc := 65) dX8_faints_65 (by decide) (fun h_65 => ?_) (fun h_65 => by exfalso; exact h_65 (nI_le (by omega) (by omega)))
          rw [Nat.sub_self] at hR_q
          have hR_q : x4_q = fntA K j1_q := hR_q
          subst hR_q
          obtain ⟨v9, hv9_q, ev9⟩ : setP (fntA K j1_q) := setP_bits (by omega) setP_0
          have eK : fntK K j1_q x1_q = fntF (fntO K j1_q x1_q) (fntA K j1_q) (v9 + 1) 0 (-1) := by rw [fntK, ev9, nI_clamp (by omega)]
          refine go_iconst (v := -1) (pc := 103) dX8_faints_103 (by decide) ?_
          refine go_istore (lw := [_, _, _, _, _, _, _, _]) (pc := 104) dX8_faints_104 (by decide) rfl ?_
          refine go_aload_n (pc := 106) dX8_faints_106 rfl ?_
          refine go_V0V (pc := 107) v_X8_369 rfl rfl (rcv_of (ci := 8) (by first | exact mo0 hM_q | exact mo1 hM_q | exact mo6 hM_q | exact mo7 hM_q | exact mo8 hM_q | exact mo2 hM_q | exact mo3 hM_q | exact mo4 hM_q | exact mo5 hM_q | exact mo9 hM_q | exact mo10 hM_q | exact mo11 hM_q | exact mo12 hM_q | exact mo13 hM_q | exact mo14 hM_q | exact mo15 hM_q | exact mo16 hM_q) rfl) dX8_faints_107 (sp_putsAside (k := k - 1) hM_q) (fun σ n h_q => ?_)
          obtain ⟨rfl, A1, hM_q, hA1, hf1, hG_q⟩ := h_q
          have hA_q := eqx.tr (A := A) (L := [6, 7, 8, 9, 10, 11, 12, 13]) (by repeat (first | assumption | exact eqx.rf | refine eqx.up ?_ (by decide))) (hA1.wk (by decide))
          have hf_q := hf_q.tr hf1
          refine go_iconst (v := 0) (pc := 110) dX8_faints_110 (by decide) ?_
          refine go_istore (lw := [_, _, _, _, _, _, _, _]) (pc := 111) dX8_faints_111 (by decide) rfl ?_
          refine go_iter (v9 + 1) (fun i_q lv9 s9 n9 => ∃ (b9_q : Int32), ∃ x7_q, ∃ A9_q, lv9 = [some (.ref r), some (.int (nI j1_q)), some (.int (nI x1_q)), some (.int (nI x2_q)), some (.int (fntA K j1_q)), some (.int b9_q), some (.int (nI i_q)), x7_q] ∧ (MoAt Γ s9 r (upd F 4 0) K A9_q Nm) ∧ (eqx [6, 7, 8, 9, 10, 11, 12, 13] A A9_q) ∧ (fr r (r + 16) z0 s9) ∧ (∀ j, j < 26 → A9_q 8 j = K (8 + j)) ∧ (b9_q = -1 ∨ setP b9_q) ∧ (fntF (fntO K j1_q x1_q) (fntA K j1_q) (v9 + 1 - i_q) i_q b9_q = fntF (fntO K j1_q x1_q) (fntA K j1_q) (v9 + 1) 0 (-1)) ∧ n = n9) ⟨(-1), none, _, rfl, hM_q, hA_q, hf_q, hG_q, (Or.inl rfl), rfl, rfl⟩ ?_ ?_
          · rintro i_q lv9 σ n9 hi_q ⟨b9_q, x7_q, A9_q, rfl, hM_q, hA_q, hf_q, hG_q, hb_q, hR_q, rfl⟩ ih_q
            refine go_iload (pc := 113) dX8_faints_113 rfl ?_
            refine go_iload (pc := 115) dX8_faints_115 rfl ?_
            refine go_icmp_gt (tgt := 219) (pc := 117) dX8_faints_117 (by decide) (fun h_117 => by exfalso; rw [ev9] at h_117; exact absurd h_117 (nI_nlt (by omega) (by omega))) (fun h_117 => ?_)
            refine go_iload (pc := 120) dX8_faints_120 rfl ?_
            refine go_iload (pc := 122) dX8_faints_122 rfl ?_
            refine go_iconst (v := -1) (pc := 124) dX8_faints_124 (by decide) ?_
            refine go_ixor (pc := 125) dX8_faints_125 ?_
            refine go_iand (pc := 126) dX8_faints_126 ?_
            refine go_if_ne (tgt := 213) (pc := 127) dX8_faints_127 (by decide) (fun h_127 => ?_) (fun h_127 => ?_)
            · refine go_iinc (v := 1) (lw := [_, _, _, _, _, _, _, _]) (pc := 213) dX8_faints_213 rfl (by decide) (by decide) rfl ?_
              refine go_goto (tgt := 113) (pc := 216) dX8_faints_216 (by decide) ?_
              rw [nI_1]
              first
                | exact ih_q _ _ _ ⟨_, _, _, rfl, hM_q, hA_q, hf_q, hG_q, hb_q, (by rw [← hR_q, fntF_step hi_q, if_neg (by simp only [fntB, Bool.and_eq_true, decide_eq_true_eq]; exact fun hc_q => h_127 hc_q.1.1)]), rfl⟩
                | exact ih_q _ _ _ ⟨_, _, _, rfl, hM_q, hA_q, hf_q, hG_q, hb_q, (by rw [← hR_q, fntF_step hi_q, if_neg (by simp only [fntB, Bool.and_eq_true, decide_eq_true_eq]; exact fun hc_q => hc_q.1.2.elim h_133 h_146)]), rfl⟩
                | exact ih_q _ _ _ ⟨_, _, _, rfl, hM_q, hA_q, hf_q, hG_q, hb_q, (by rw [← hR_q, fntF_step hi_q, if_neg (by simp only [fntB, Bool.and_eq_true]; rw [hfo]; simpa using fun _ _ => h_202)]), rfl⟩
                | exact ih_q _ _ _ ⟨_, _, _, rfl, hM_q, hA_q, hf_q, hG_q, Or.inr ⟨i_q, by omega, rfl⟩, (by rw [← hR_q, fntF_step hi_q, if_pos (by simp only [fntB, Bool.and_eq_true]; rw [hfo]; exact ⟨decide_eq_true hcnd, decide_eq_true h_202⟩)]), rfl⟩
            · refine go_iload (pc := 130) dX8_faints_130 rfl ?_
              refine go_iconst (v := -1) (pc := 132) dX8_faints_132 (by decide) ?_
              refine go_icmp_eq (tgt := 152) (pc := 133) dX8_faints_133 (by decide) (fun h_133 => ?_) (fun h_133 => ?_)
              · have hcan : ∀ q, q < kP K → hasB (nI i_q) (nI q) = true → K (16 + q) ≠ -1 := fun q hq_q hh => by
                  have h2_q := fnt_sub (s := i_q) (v := v9) (by omega) hv9_q (by rw [← ev9]; exact h_127) (by omega) hh
                  rw [← ev9, fntA, bits_has (by omega) (by omega) setP_0, has_0 (by omega)] at h2_q
                  simp only [Bool.false_or, Bool.and_eq_true, decide_eq_true_eq] at h2_q
                  obtain ⟨j9, a9_q, b8, -⟩ := whyR_0 h2_q.2.2
                  obtain rfl : q = j9 := (by have := (pN_some a9_q).1; omega)
                  exact b8
                have hcnd : nI i_q &&& (fntA K j1_q ^^^ (-1)) = 0 ∧ (b9_q = -1 ∨ szI (nI i_q) < szI b9_q) := ⟨h_127, by first | exact Or.inl h_133 | exact Or.inr h_146⟩
                refine go_iconst (v := 0) (pc := 152) dX8_faints_152 (by decide) ?_
                refine go_istore (lw := [_, _, _, _, _, _, _, _]) (pc := 153) dX8_faints_153 (by decide) rfl ?_
                refine go_iter (kP K) (fun i2_q lv9 s9 n9 => ∃ (K9_q : row), ∃ A9_q, lv9 = [some (.ref r), some (.int (nI j1_q)), some (.int (nI x1_q)), some (.int (nI x2_q)), some (.int (fntA K j1_q)), some (.int b9_q), some (.int (nI i_q)), some (.int (nI i2_q))] ∧ (MoAt Γ s9 r (upd F 4 0) K9_q A9_q Nm) ∧ (eqx [6, 7, 8, 9, 10, 11, 12, 13] A A9_q) ∧ (fr r (r + 16) z0 s9) ∧ (∀ j, j < 26 → A9_q 8 j = K (8 + j)) ∧ (sameB K K9_q) ∧ (vS K9_q) ∧ (∀ q, i2_q ≤ q → q < kP K → K (16 + q) ≠ -1 → K9_q (16 + q) ≠ -1) ∧ (fntR (nI i_q) (kP K - i2_q) i2_q K9_q = fntR (nI i_q) (kP K) 0 K) ∧ n = n9) ⟨K, _, rfl, hM_q, hA_q, hf_q, hG_q, sameB.rf, hv_q, (fun q _ _ h_q => h_q), rfl, rfl⟩ ?_ ?_
                · rintro i2_q lv9 σ n9 hi2_q ⟨K9_q, A9_q, rfl, hM_q, hA_q, hf_q, hG_q, hSx, hvx, hkp, hR2, rfl⟩ ih2_q
                  have hB9_q := hSx.okB hB_q
                  have eP_q := hSx.P
                  have eH_q := hSx.H
                  refine go_iload (pc := 155) dX8_faints_155 rfl ?_
                  refine go_aload_n (pc := 157) dX8_faints_157 rfl ?_
                  refine go_V0P (pc := 158) v_X8_242 rfl rfl (rcv_of (ci := 8) (by first | exact mo0 hM_q | exact mo1 hM_q | exact mo6 hM_q | exact mo7 hM_q | exact mo8 hM_q | exact mo2 hM_q | exact mo3 hM_q | exact mo4 hM_q | exact mo5 hM_q | exact mo9 hM_q | exact mo10 hM_q | exact mo11 hM_q | exact mo12 hM_q | exact mo13 hM_q | exact mo14 hM_q | exact mo15 hM_q | exact mo16 hM_q) rfl) dX8_faints_158 (sp_people (k := k - 1) hM_q) ?_
                  rw [hB9_q.1.1, eP_q]
                  refine go_icmp_ge (tgt := 188) (pc := 161) dX8_faints_161 (by decide) (fun h_161 => by exfalso; exact absurd h_161 (nI_ge (by omega) (by omega))) (fun h_161 => ?_)
                  refine go_iload (pc := 164) dX8_faints_164 rfl ?_
                  refine go_iload (pc := 166) dX8_faints_166 rfl ?_
                  refine go_S2P (pc := 168) s_X8_249 rfl rfl dX8_faints_168 (sp_has (k := k - 1) _ _) ?_
                  refine go_if_eq (tgt := 182) (pc := 171) dX8_faints_171 (by decide) (fun h_171 => ?_) (fun h_171 => ?_)
                  · refine go_iinc (v := 1) (lw := [_, _, _, _, _, _, _, _]) (pc := 182) dX8_faints_182 rfl (by decide) (by decide) rfl ?_
                    refine go_goto (tgt := 155) (pc := 185) dX8_faints_185 (by decide) ?_
                    rw [nI_1]
                    first
                      | exact ih2_q _ _ _ ⟨_, _, rfl, hM_q, hA_q, hf_q, hG_q, hSx, hvx, (fun q h1_q h2_q h3_q => hkp q (by omega) h2_q h3_q), (by rw [← hR2, fntR_step hi2_q, if_neg (by have := bI_0.mp h_171; simpa [hasB] using this)]), rfl⟩
                      | exact ih2_q _ _ _ ⟨_, _, rfl, hM_q, hA_q, hf_q, hG_q, hSx.tr hSr, vS_rise hvx (by omega) (by omega) (by omega) hu2, (fun q h1_q h2_q h3_q => rise_sits (by omega) (by omega) hvx (by omega) (by omega) hu2 (by omega) (hkp q (by omega) h2_q h3_q)), (by rw [← hR2, fntR_step hi2_q, if_pos hhas]), rfl⟩
                  · have hhas : hasB (nI i_q) (nI i2_q) = true := by simpa [hasB] using Decidable.not_not.mp (fun hc_q => h_171 (bI_0.mpr hc_q))
                    have hu2 : K9_q (16 + i2_q) ≠ -1 := hkp i2_q (by omega) hi2_q (hcan i2_q hi2_q hhas)
                    have hSr : sameB K9_q (riseK K9_q i2_q (-1)).1 := riseK_same (by omega) (by omega)
                    refine go_aload_n (pc := 174) dX8_faints_174 rfl ?_
                    refine go_iload (pc := 175) dX8_faints_175 rfl ?_
                    refine go_iconst (v := -1) (pc := 177) dX8_faints_177 (by decide) ?_
                    refine go_V2I (pc := 178) v_X8_302 rfl rfl (rcv_of (ci := 8) (by first | exact mo0 hM_q | exact mo1 hM_q | exact mo6 hM_q | exact mo7 hM_q | exact mo8 hM_q | exact mo2 hM_q | exact mo3 hM_q | exact mo4 hM_q | exact mo5 hM_q | exact mo9 hM_q | exact mo10 hM_q | exact mo11 hM_q | exact mo12 hM_q | exact mo13 hM_q | exact mo14 hM_q | exact mo15 hM_q | exact mo16 hM_q) rfl) dX8_faints_178 (sp_rises (k := k - 1) hM_q (by omega) hB9_q hvx (by omega) hu2 _) (fun v_178 σ n h_q => ?_)
                    obtain ⟨rfl, rfl, A1, hM_q, hA1, hf1⟩ := h_q
                    have hA_q := eqx.tr (A := A) (L := [6, 7, 8, 9, 10, 11, 12, 13]) (by repeat (first | assumption | exact eqx.rf | refine eqx.up ?_ (by decide))) (hA1.wk (by decide))
                    have hf_q := hf_q.tr hf1
                    have hG_q : ∀ j, j < 26 → A1 8 j = K (8 + j) := fun j hj_q => by rw [hA1 8 (by decide)]; exact hG_q j hj_q
                    refine go_pop (pc := 181) dX8_faints_181 rfl ?_
                    refine go_iinc (v := 1) (lw := [_, _, _, _, _, _, _, _]) (pc := 182) dX8_faints_182 rfl (by decide) (by decide) rfl ?_
                    refine go_goto (tgt := 155) (pc := 185) dX8_faints_185 (by decide) ?_
                    rw [nI_1]
                    first
                      | exact ih2_q _ _ _ ⟨_, _, rfl, hM_q, hA_q, hf_q, hG_q, hSx, hvx, (fun q h1_q h2_q h3_q => hkp q (by omega) h2_q h3_q), (by rw [← hR2, fntR_step hi2_q, if_neg (by have := bI_0.mp h_171; simpa [hasB] using this)]), rfl⟩
                      | exact ih2_q _ _ _ ⟨_, _, rfl, hM_q, hA_q, hf_q, hG_q, hSx.tr hSr, vS_rise hvx (by omega) (by omega) (by omega) hu2, (fun q h1_q h2_q h3_q => rise_sits (by omega) (by omega) hvx (by omega) (by omega) hu2 (by omega) (hkp q (by omega) h2_q h3_q)), (by rw [← hR2, fntR_step hi2_q, if_pos hhas]), rfl⟩
                · rintro lv9 σ n9 ⟨K9_q, A9_q, rfl, hM_q, hA_q, hf_q, hG_q, hSx, hvx, hkp, hR2, rfl⟩
                  have hB9_q := hSx.okB hB_q
                  have eP_q := hSx.P
                  have eH_q := hSx.H
                  refine go_iload (pc := 155) dX8_faints_155 rfl ?_
                  refine go_aload_n (pc := 157) dX8_faints_157 rfl ?_
                  refine go_V0P (pc := 158) v_X8_242 rfl rfl (rcv_of (ci := 8) (by first | exact mo0 hM_q | exact mo1 hM_q | exact mo6 hM_q | exact mo7 hM_q | exact mo8 hM_q | exact mo2 hM_q | exact mo3 hM_q | exact mo4 hM_q | exact mo5 hM_q | exact mo9 hM_q | exact mo10 hM_q | exact mo11 hM_q | exact mo12 hM_q | exact mo13 hM_q | exact mo14 hM_q | exact mo15 hM_q | exact mo16 hM_q) rfl) dX8_faints_158 (sp_people (k := k - 1) hM_q) ?_
                  rw [hB9_q.1.1, eP_q]
                  refine go_icmp_ge (tgt := 188) (pc := 161) dX8_faints_161 (by decide) (fun h_161 => ?_) (fun h_161 => by exfalso; exact h_161 (nI_le (by omega) (by omega)))
                  rw [Nat.sub_self] at hR2
                  have hR2 : K9_q = fntR (nI i_q) (kP K) 0 K := hR2
                  have hS9 := hSx.tr (goK_same (m := x1_q) (K := K9_q) (by omega))
                  have hfo : (fntO K j1_q x1_q) (nI i_q) = decide (goK x1_q K9_q (16 + j1_q) = 0) := by rw [fntO, ← hR2]
                  refine go_aload_n (pc := 188) dX8_faints_188 rfl ?_
                  refine go_iload_n (pc := 189) dX8_faints_189 rfl ?_
                  refine go_V1V (pc := 190) v_X8_399 rfl rfl (rcv_of (ci := 8) (by first | exact mo0 hM_q | exact mo1 hM_q | exact mo6 hM_q | exact mo7 hM_q | exact mo8 hM_q | exact mo2 hM_q | exact mo3 hM_q | exact mo4 hM_q | exact mo5 hM_q | exact mo9 hM_q | exact mo10 hM_q | exact mo11 hM_q | exact mo12 hM_q | exact mo13 hM_q | exact mo14 hM_q | exact mo15 hM_q | exact mo16 hM_q) rfl) dX8_faints_190 (sp_goesOn (k := k - 1) hM_q (by omega) hB9_q hvx (by omega)) (fun σ n h_q => ?_)
                  obtain ⟨rfl, A1, hM_q, hA1, hf1⟩ := h_q
                  have hA_q := eqx.tr (A := A) (L := [6, 7, 8, 9, 10, 11, 12, 13]) (by repeat (first | assumption | exact eqx.rf | refine eqx.up ?_ (by decide))) (hA1.wk (by decide))
                  have hf_q := hf_q.tr hf1
                  have hG_q : ∀ j, j < 26 → A1 8 j = K (8 + j) := fun j hj_q => by rw [hA1 8 (by decide)]; exact hG_q j hj_q
                  refine go_aload_n (pc := 193) dX8_faints_193 rfl ?_
                  refine go_getf (pc := 194) f_X8_9 dX8_faints_194 (by first | exact mo0 hM_q | exact mo1 hM_q | exact mo6 hM_q | exact mo7 hM_q | exact mo8 hM_q | exact mo2 hM_q | exact mo3 hM_q | exact mo4 hM_q | exact mo5 hM_q | exact mo9 hM_q | exact mo10 hM_q | exact mo11 hM_q | exact mo12 hM_q | exact mo13 hM_q | exact mo14 hM_q | exact mo15 hM_q | exact mo16 hM_q) (by rfl) ?_
                  refine go_bipush (v := 16) (pc := 197) dX8_faints_197 (by decide) ?_
                  refine go_iload_n (pc := 199) dX8_faints_199 rfl ?_
                  refine go_iadd (pc := 200) dX8_faints_200 ?_
                  refine go_iald (pc := 201) dX8_faints_201 (by first | exact mo0 hM_q | exact mo1 hM_q | exact mo6 hM_q | exact mo7 hM_q | exact mo8 hM_q | exact mo2 hM_q | exact mo3 hM_q | exact mo4 hM_q | exact mo5 hM_q | exact mo9 hM_q | exact mo10 hM_q | exact mo11 hM_q | exact mo12 hM_q | exact mo13 hM_q | exact mo14 hM_q | exact mo15 hM_q | exact mo16 hM_q) (by exact ⟨nI_add 16 _, by omega⟩) ?_
                  refine go_if_ne (tgt := 209) (pc := 202) dX8_faints_202 (by decide) (fun h_202 => ?_) (fun h_202 => ?_)
                  · refine go_aload_n (pc := 209) dX8_faints_209 rfl ?_
                    refine go_V0V (pc := 210) v_X8_381 rfl rfl (rcv_of (ci := 8) (by first | exact mo0 hM_q | exact mo1 hM_q | exact mo6 hM_q | exact mo7 hM_q | exact mo8 hM_q | exact mo2 hM_q | exact mo3 hM_q | exact mo4 hM_q | exact mo5 hM_q | exact mo9 hM_q | exact mo10 hM_q | exact mo11 hM_q | exact mo12 hM_q | exact mo13 hM_q | exact mo14 hM_q | exact mo15 hM_q | exact mo16 hM_q) rfl) dX8_faints_210 (sp_putsBack (k := k - 1) hM_q) (fun σ n h_q => ?_)
                    obtain ⟨rfl, A1, hM_q, hA1, hf1⟩ := h_q
                    have hA_q := eqx.tr (A := A) (L := [6, 7, 8, 9, 10, 11, 12, 13]) (by repeat (first | assumption | exact eqx.rf | refine eqx.up ?_ (by decide))) (hA1.wk (by decide))
                    have hf_q := hf_q.tr hf1
                    rw [setS_back hS9 hG_q] at hM_q
                    have hG_q : ∀ j, j < 26 → A1 8 j = K (8 + j) := fun j hj_q => by rw [hA1 8 (by decide)]; exact hG_q j hj_q
                    refine go_iinc (v := 1) (lw := [_, _, _, _, _, _, _, _]) (pc := 213) dX8_faints_213 rfl (by decide) (by decide) rfl ?_
                    refine go_goto (tgt := 113) (pc := 216) dX8_faints_216 (by decide) ?_
                    rw [nI_1]
                    first
                      | exact ih_q _ _ _ ⟨_, _, _, rfl, hM_q, hA_q, hf_q, hG_q, hb_q, (by rw [← hR_q, fntF_step hi_q, if_neg (by simp only [fntB, Bool.and_eq_true, decide_eq_true_eq]; exact fun hc_q => h_127 hc_q.1.1)]), rfl⟩
                      | exact ih_q _ _ _ ⟨_, _, _, rfl, hM_q, hA_q, hf_q, hG_q, hb_q, (by rw [← hR_q, fntF_step hi_q, if_neg (by simp only [fntB, Bool.and_eq_true, decide_eq_true_eq]; exact fun hc_q => hc_q.1.2.elim h_133 h_146)]), rfl⟩
                      | exact ih_q _ _ _ ⟨_, _, _, rfl, hM_q, hA_q, hf_q, hG_q, hb_q, (by rw [← hR_q, fntF_step hi_q, if_neg (by simp only [fntB, Bool.and_eq_true]; rw [hfo]; simpa using fun _ _ => h_202)]), rfl⟩
                      | exact ih_q _ _ _ ⟨_, _, _, rfl, hM_q, hA_q, hf_q, hG_q, Or.inr ⟨i_q, by omega, rfl⟩, (by rw [← hR_q, fntF_step hi_q, if_pos (by simp only [fntB, Bool.and_eq_true]; rw [hfo]; exact ⟨decide_eq_true hcnd, decide_eq_true h_202⟩)]), rfl⟩
                  · refine go_iload (pc := 205) dX8_faints_205 rfl ?_
                    refine go_istore (lw := [_, _, _, _, _, _, _, _]) (pc := 207) dX8_faints_207 (by decide) rfl ?_
                    refine go_aload_n (pc := 209) dX8_faints_209 rfl ?_
                    refine go_V0V (pc := 210) v_X8_381 rfl rfl (rcv_of (ci := 8) (by first | exact mo0 hM_q | exact mo1 hM_q | exact mo6 hM_q | exact mo7 hM_q | exact mo8 hM_q | exact mo2 hM_q | exact mo3 hM_q | exact mo4 hM_q | exact mo5 hM_q | exact mo9 hM_q | exact mo10 hM_q | exact mo11 hM_q | exact mo12 hM_q | exact mo13 hM_q | exact mo14 hM_q | exact mo15 hM_q | exact mo16 hM_q) rfl) dX8_faints_210 (sp_putsBack (k := k - 1) hM_q) (fun σ n h_q => ?_)
                    obtain ⟨rfl, A1, hM_q, hA1, hf1⟩ := h_q
                    have hA_q := eqx.tr (A := A) (L := [6, 7, 8, 9, 10, 11, 12, 13]) (by repeat (first | assumption | exact eqx.rf | refine eqx.up ?_ (by decide))) (hA1.wk (by decide))
                    have hf_q := hf_q.tr hf1
                    rw [setS_back hS9 hG_q] at hM_q
                    have hG_q : ∀ j, j < 26 → A1 8 j = K (8 + j) := fun j hj_q => by rw [hA1 8 (by decide)]; exact hG_q j hj_q
                    refine go_iinc (v := 1) (lw := [_, _, _, _, _, _, _, _]) (pc := 213) dX8_faints_213 rfl (by decide) (by decide) rfl ?_
                    refine go_goto (tgt := 113) (pc := 216) dX8_faints_216 (by decide) ?_
                    rw [nI_1]
                    first
                      | exact ih_q _ _ _ ⟨_, _, _, rfl, hM_q, hA_q, hf_q, hG_q, hb_q, (by rw [← hR_q, fntF_step hi_q, if_neg (by simp only [fntB, Bool.and_eq_true, decide_eq_true_eq]; exact fun hc_q => h_127 hc_q.1.1)]), rfl⟩
                      | exact ih_q _ _ _ ⟨_, _, _, rfl, hM_q, hA_q, hf_q, hG_q, hb_q, (by rw [← hR_q, fntF_step hi_q, if_neg (by simp only [fntB, Bool.and_eq_true, decide_eq_true_eq]; exact fun hc_q => hc_q.1.2.elim h_133 h_146)]), rfl⟩
                      | exact ih_q _ _ _ ⟨_, _, _, rfl, hM_q, hA_q, hf_q, hG_q, hb_q, (by rw [← hR_q, fntF_step hi_q, if_neg (by simp only [fntB, Bool.and_eq_true]; rw [hfo]; simpa using fun _ _ => h_202)]), rfl⟩
                      | exact ih_q _ _ _ ⟨_, _, _, rfl, hM_q, hA_q, hf_q, hG_q, Or.inr ⟨i_q, by omega, rfl⟩, (by rw [← hR_q, fntF_step hi_q, if_pos (by simp only [fntB, Bool.and_eq_true]; rw [hfo]; exact ⟨decide_eq_true hcnd, decide_eq_true h_202⟩)]), rfl⟩
              · have hsb : setP b9_q := hb_q.resolve_left h_133
                have hsi : setP (nI i_q) := ⟨i_q, by omega, rfl⟩
                refine go_iload (pc := 136) dX8_faints_136 rfl ?_
                refine go_S1P (pc := 138) s_X8_342 rfl rfl dX8_faints_138 (sp_size (k := k - 1) (by assumption)) ?_
                refine go_iload (pc := 141) dX8_faints_141 rfl ?_
                refine go_S1P (pc := 143) s_X8_342 rfl rfl dX8_faints_143 (sp_size (k := k - 1) (by assumption)) ?_
                refine go_icmp_lt (tgt := 152) (pc := 146) dX8_faints_146 (by decide) (fun h_146 => ?_) (fun h_146 => ?_)
                · have hcan : ∀ q, q < kP K → hasB (nI i_q) (nI q) = true → K (16 + q) ≠ -1 := fun q hq_q hh => by
                    have h2_q := fnt_sub (s := i_q) (v := v9) (by omega) hv9_q (by rw [← ev9]; exact h_127) (by omega) hh
                    rw [← ev9, fntA, bits_has (by omega) (by omega) setP_0, has_0 (by omega)] at h2_q
                    simp only [Bool.false_or, Bool.and_eq_true, decide_eq_true_eq] at h2_q
                    obtain ⟨j9, a9_q, b8, -⟩ := whyR_0 h2_q.2.2
                    obtain rfl : q = j9 := (by have := (pN_some a9_q).1; omega)
                    exact b8
                  have hcnd : nI i_q &&& (fntA K j1_q ^^^ (-1)) = 0 ∧ (b9_q = -1 ∨ szI (nI i_q) < szI b9_q) := ⟨h_127, by first | exact Or.inl h_133 | exact Or.inr h_146⟩
                  refine go_iconst (v := 0) (pc := 152) dX8_faints_152 (by decide) ?_
                  refine go_istore (lw := [_, _, _, _, _, _, _, _]) (pc := 153) dX8_faints_153 (by decide) rfl ?_
                  refine go_iter (kP K) (fun i2_q lv9 s9 n9 => ∃ (K9_q : row), ∃ A9_q, lv9 = [some (.ref r), some (.int (nI j1_q)), some (.int (nI x1_q)), some (.int (nI x2_q)), some (.int (fntA K j1_q)), some (.int b9_q), some (.int (nI i_q)), some (.int (nI i2_q))] ∧ (MoAt Γ s9 r (upd F 4 0) K9_q A9_q Nm) ∧ (eqx [6, 7, 8, 9, 10, 11, 12, 13] A A9_q) ∧ (fr r (r + 16) z0 s9) ∧ (∀ j, j < 26 → A9_q 8 j = K (8 + j)) ∧ (sameB K K9_q) ∧ (vS K9_q) ∧ (∀ q, i2_q ≤ q → q < kP K → K (16 + q) ≠ -1 → K9_q (16 + q) ≠ -1) ∧ (fntR (nI i_q) (kP K - i2_q) i2_q K9_q = fntR (nI i_q) (kP K) 0 K) ∧ n = n9) ⟨K, _, rfl, hM_q, hA_q, hf_q, hG_q, sameB.rf, hv_q, (fun q _ _ h_q => h_q), rfl, rfl⟩ ?_ ?_
                  · rintro i2_q lv9 σ n9 hi2_q ⟨K9_q, A9_q, rfl, hM_q, hA_q, hf_q, hG_q, hSx, hvx, hkp, hR2, rfl⟩ ih2_q
                    have hB9_q := hSx.okB hB_q
                    have eP_q := hSx.P
                    have eH_q := hSx.H
                    refine go_iload (pc := 155) dX8_faints_155 rfl ?_
                    refine go_aload_n (pc := 157) dX8_faints_157 rfl ?_
                    refine go_V0P (pc := 158) v_X8_242 rfl rfl (rcv_of (ci := 8) (by first | exact mo0 hM_q | exact mo1 hM_q | exact mo6 hM_q | exact mo7 hM_q | exact mo8 hM_q | exact mo2 hM_q | exact mo3 hM_q | exact mo4 hM_q | exact mo5 hM_q | exact mo9 hM_q | exact mo10 hM_q | exact mo11 hM_q | exact mo12 hM_q | exact mo13 hM_q | exact mo14 hM_q | exact mo15 hM_q | exact mo16 hM_q) rfl) dX8_faints_158 (sp_people (k := k - 1) hM_q) ?_
                    rw [hB9_q.1.1, eP_q]
                    refine go_icmp_ge (tgt := 188) (pc := 161) dX8_faints_161 (by decide) (fun h_161 => by exfalso; exact absurd h_161 (nI_ge (by omega) (by omega))) (fun h_161 => ?_)
                    refine go_iload (pc := 164) dX8_faints_164 rfl ?_
                    refine go_iload (pc := 166) dX8_faints_166 rfl ?_
                    refine go_S2P (pc := 168) s_X8_249 rfl rfl dX8_faints_168 (sp_has (k := k - 1) _ _) ?_
                    refine go_if_eq (tgt := 182) (pc := 171) dX8_faints_171 (by decide) (fun h_171 => ?_) (fun h_171 => ?_)
                    · refine go_iinc (v := 1) (lw := [_, _, _, _, _, _, _, _]) (pc := 182) dX8_faints_182 rfl (by decide) (by decide) rfl ?_
                      refine go_goto (tgt := 155) (pc := 185) dX8_faints_185 (by decide) ?_
                      rw [nI_1]
                      first
                        | exact ih2_q _ _ _ ⟨_, _, rfl, hM_q, hA_q, hf_q, hG_q, hSx, hvx, (fun q h1_q h2_q h3_q => hkp q (by omega) h2_q h3_q), (by rw [← hR2, fntR_step hi2_q, if_neg (by have := bI_0.mp h_171; simpa [hasB] using this)]), rfl⟩
                        | exact ih2_q _ _ _ ⟨_, _, rfl, hM_q, hA_q, hf_q, hG_q, hSx.tr hSr, vS_rise hvx (by omega) (by omega) (by omega) hu2, (fun q h1_q h2_q h3_q => rise_sits (by omega) (by omega) hvx (by omega) (by omega) hu2 (by omega) (hkp q (by omega) h2_q h3_q)), (by rw [← hR2, fntR_step hi2_q, if_pos hhas]), rfl⟩
                    · have hhas : hasB (nI i_q) (nI i2_q) = true := by simpa [hasB] using Decidable.not_not.mp (fun hc_q => h_171 (bI_0.mpr hc_q))
                      have hu2 : K9_q (16 + i2_q) ≠ -1 := hkp i2_q (by omega) hi2_q (hcan i2_q hi2_q hhas)
                      have hSr : sameB K9_q (riseK K9_q i2_q (-1)).1 := riseK_same (by omega) (by omega)
                      refine go_aload_n (pc := 174) dX8_faints_174 rfl ?_
                      refine go_iload (pc := 175) dX8_faints_175 rfl ?_
                      refine go_iconst (v := -1) (pc := 177) dX8_faints_177 (by decide) ?_
                      refine go_V2I (pc := 178) v_X8_302 rfl rfl (rcv_of (ci := 8) (by first | exact mo0 hM_q | exact mo1 hM_q | exact mo6 hM_q | exact mo7 hM_q | exact mo8 hM_q | exact mo2 hM_q | exact mo3 hM_q | exact mo4 hM_q | exact mo5 hM_q | exact mo9 hM_q | exact mo10 hM_q | exact mo11 hM_q | exact mo12 hM_q | exact mo13 hM_q | exact mo14 hM_q | exact mo15 hM_q | exact mo16 hM_q) rfl) dX8_faints_178 (sp_rises (k := k - 1) hM_q (by omega) hB9_q hvx (by omega) hu2 _) (fun v_178 σ n h_q => ?_)
                      obtain ⟨rfl, rfl, A1, hM_q, hA1, hf1⟩ := h_q
                      have hA_q := eqx.tr (A := A) (L := [6, 7, 8, 9, 10, 11, 12, 13]) (by repeat (first | assumption | exact eqx.rf | refine eqx.up ?_ (by decide))) (hA1.wk (by decide))
                      have hf_q := hf_q.tr hf1
                      have hG_q : ∀ j, j < 26 → A1 8 j = K (8 + j) := fun j hj_q => by rw [hA1 8 (by decide)]; exact hG_q j hj_q
                      refine go_pop (pc := 181) dX8_faints_181 rfl ?_
                      refine go_iinc (v := 1) (lw := [_, _, _, _, _, _, _, _]) (pc := 182) dX8_faints_182 rfl (by decide) (by decide) rfl ?_
                      refine go_goto (tgt := 155) (pc := 185) dX8_faints_185 (by decide) ?_
                      rw [nI_1]
                      first
                        | exact ih2_q _ _ _ ⟨_, _, rfl, hM_q, hA_q, hf_q, hG_q, hSx, hvx, (fun q h1_q h2_q h3_q => hkp q (by omega) h2_q h3_q), (by rw [← hR2, fntR_step hi2_q, if_neg (by have := bI_0.mp h_171; simpa [hasB] using this)]), rfl⟩
                        | exact ih2_q _ _ _ ⟨_, _, rfl, hM_q, hA_q, hf_q, hG_q, hSx.tr hSr, vS_rise hvx (by omega) (by omega) (by omega) hu2, (fun q h1_q h2_q h3_q => rise_sits (by omega) (by omega) hvx (by omega) (by omega) hu2 (by omega) (hkp q (by omega) h2_q h3_q)), (by rw [← hR2, fntR_step hi2_q, if_pos hhas]), rfl⟩
                  · rintro lv9 σ n9 ⟨K9_q, A9_q, rfl, hM_q, hA_q, hf_q, hG_q, hSx, hvx, hkp, hR2, rfl⟩
                    have hB9_q := hSx.okB hB_q
                    have eP_q := hSx.P
                    have eH_q := hSx.H
                    refine go_iload (pc := 155) dX8_faints_155 rfl ?_
                    refine go_aload_n (pc := 157) dX8_faints_157 rfl ?_
                    refine go_V0P (pc := 158) v_X8_242 rfl rfl (rcv_of (ci := 8) (by first | exact mo0 hM_q | exact mo1 hM_q | exact mo6 hM_q | exact mo7 hM_q | exact mo8 hM_q | exact mo2 hM_q | exact mo3 hM_q | exact mo4 hM_q | exact mo5 hM_q | exact mo9 hM_q | exact mo10 hM_q | exact mo11 hM_q | exact mo12 hM_q | exact mo13 hM_q | exact mo14 hM_q | exact mo15 hM_q | exact mo16 hM_q) rfl) dX8_faints_158 (sp_people (k := k - 1) hM_q) ?_
                    rw [hB9_q.1.1, eP_q]
                    refine go_icmp_ge (tgt := 188) (pc := 161) dX8_faints_161 (by decide) (fun h_161 => ?_) (fun h_161 => by exfalso; exact h_161 (nI_le (by omega) (by omega)))
                    rw [Nat.sub_self] at hR2
                    have hR2 : K9_q = fntR (nI i_q) (kP K) 0 K := hR2
                    have hS9 := hSx.tr (goK_same (m := x1_q) (K := K9_q) (by omega))
                    have hfo : (fntO K j1_q x1_q) (nI i_q) = decide (goK x1_q K9_q (16 + j1_q) = 0) := by rw [fntO, ← hR2]
                    refine go_aload_n (pc := 188) dX8_faints_188 rfl ?_
                    refine go_iload_n (pc := 189) dX8_faints_189 rfl ?_
                    refine go_V1V (pc := 190) v_X8_399 rfl rfl (rcv_of (ci := 8) (by first | exact mo0 hM_q | exact mo1 hM_q | exact mo6 hM_q | exact mo7 hM_q | exact mo8 hM_q | exact mo2 hM_q | exact mo3 hM_q | exact mo4 hM_q | exact mo5 hM_q | exact mo9 hM_q | exact mo10 hM_q | exact mo11 hM_q | exact mo12 hM_q | exact mo13 hM_q | exact mo14 hM_q | exact mo15 hM_q | exact mo16 hM_q) rfl) dX8_faints_190 (sp_goesOn (k := k - 1) hM_q (by omega) hB9_q hvx (by omega)) (fun σ n h_q => ?_)
                    obtain ⟨rfl, A1, hM_q, hA1, hf1⟩ := h_q
                    have hA_q := eqx.tr (A := A) (L := [6, 7, 8, 9, 10, 11, 12, 13]) (by repeat (first | assumption | exact eqx.rf | refine eqx.up ?_ (by decide))) (hA1.wk (by decide))
                    have hf_q := hf_q.tr hf1
                    have hG_q : ∀ j, j < 26 → A1 8 j = K (8 + j) := fun j hj_q => by rw [hA1 8 (by decide)]; exact hG_q j hj_q
                    refine go_aload_n (pc := 193) dX8_faints_193 rfl ?_
                    refine go_getf (pc := 194) f_X8_9 dX8_faints_194 (by first | exact mo0 hM_q | exact mo1 hM_q | exact mo6 hM_q | exact mo7 hM_q | exact mo8 hM_q | exact mo2 hM_q | exact mo3 hM_q | exact mo4 hM_q | exact mo5 hM_q | exact mo9 hM_q | exact mo10 hM_q | exact mo11 hM_q | exact mo12 hM_q | exact mo13 hM_q | exact mo14 hM_q | exact mo15 hM_q | exact mo16 hM_q) (by rfl) ?_
                    refine go_bipush (v := 16) (pc := 197) dX8_faints_197 (by decide) ?_
                    refine go_iload_n (pc := 199) dX8_faints_199 rfl ?_
                    refine go_iadd (pc := 200) dX8_faints_200 ?_
                    refine go_iald (pc := 201) dX8_faints_201 (by first | exact mo0 hM_q | exact mo1 hM_q | exact mo6 hM_q | exact mo7 hM_q | exact mo8 hM_q | exact mo2 hM_q | exact mo3 hM_q | exact mo4 hM_q | exact mo5 hM_q | exact mo9 hM_q | exact mo10 hM_q | exact mo11 hM_q | exact mo12 hM_q | exact mo13 hM_q | exact mo14 hM_q | exact mo15 hM_q | exact mo16 hM_q) (by exact ⟨nI_add 16 _, by omega⟩) ?_
                    refine go_if_ne (tgt := 209) (pc := 202) dX8_faints_202 (by decide) (fun h_202 => ?_) (fun h_202 => ?_)
                    · refine go_aload_n (pc := 209) dX8_faints_209 rfl ?_
                      refine go_V0V (pc := 210) v_X8_381 rfl rfl (rcv_of (ci := 8) (by first | exact mo0 hM_q | exact mo1 hM_q | exact mo6 hM_q | exact mo7 hM_q | exact mo8 hM_q | exact mo2 hM_q | exact mo3 hM_q | exact mo4 hM_q | exact mo5 hM_q | exact mo9 hM_q | exact mo10 hM_q | exact mo11 hM_q | exact mo12 hM_q | exact mo13 hM_q | exact mo14 hM_q | exact mo15 hM_q | exact mo16 hM_q) rfl) dX8_faints_210 (sp_putsBack (k := k - 1) hM_q) (fun σ n h_q => ?_)
                      obtain ⟨rfl, A1, hM_q, hA1, hf1⟩ := h_q
                      have hA_q := eqx.tr (A := A) (L := [6, 7, 8, 9, 10, 11, 12, 13]) (by repeat (first | assumption | exact eqx.rf | refine eqx.up ?_ (by decide))) (hA1.wk (by decide))
                      have hf_q := hf_q.tr hf1
                      rw [setS_back hS9 hG_q] at hM_q
                      have hG_q : ∀ j, j < 26 → A1 8 j = K (8 + j) := fun j hj_q => by rw [hA1 8 (by decide)]; exact hG_q j hj_q
                      refine go_iinc (v := 1) (lw := [_, _, _, _, _, _, _, _]) (pc := 213) dX8_faints_213 rfl (by decide) (by decide) rfl ?_
                      refine go_goto (tgt := 113) (pc := 216) dX8_faints_216 (by decide) ?_
                      rw [nI_1]
                      first
                        | exact ih_q _ _ _ ⟨_, _, _, rfl, hM_q, hA_q, hf_q, hG_q, hb_q, (by rw [← hR_q, fntF_step hi_q, if_neg (by simp only [fntB, Bool.and_eq_true, decide_eq_true_eq]; exact fun hc_q => h_127 hc_q.1.1)]), rfl⟩
                        | exact ih_q _ _ _ ⟨_, _, _, rfl, hM_q, hA_q, hf_q, hG_q, hb_q, (by rw [← hR_q, fntF_step hi_q, if_neg (by simp only [fntB, Bool.and_eq_true, decide_eq_true_eq]; exact fun hc_q => hc_q.1.2.elim h_133 h_146)]), rfl⟩
                        | exact ih_q _ _ _ ⟨_, _, _, rfl, hM_q, hA_q, hf_q, hG_q, hb_q, (by rw [← hR_q, fntF_step hi_q, if_neg (by simp only [fntB, Bool.and_eq_true]; rw [hfo]; simpa using fun _ _ => h_202)]), rfl⟩
                        | exact ih_q _ _ _ ⟨_, _, _, rfl, hM_q, hA_q, hf_q, hG_q, Or.inr ⟨i_q, by omega, rfl⟩, (by rw [← hR_q, fntF_step hi_q, if_pos (by simp only [fntB, Bool.and_eq_true]; rw [hfo]; exact ⟨decide_eq_true hcnd, decide_eq_true h_202⟩)]), rfl⟩
                    · refine go_iload (pc := 205) dX8_faints_205 rfl ?_
                      refine go_istore (lw := [_, _, _, _, _, _, _, _]) (pc := 207) dX8_faints_207 (by decide) rfl ?_
                      refine go_aload_n (pc := 209) dX8_faints_209 rfl ?_
                      refine go_V0V (pc := 210) v_X8_381 rfl rfl (rcv_of (ci := 8) (by first | exact mo0 hM_q | exact mo1 hM_q | exact mo6 hM_q | exact mo7 hM_q | exact mo8 hM_q | exact mo2 hM_q | exact mo3 hM_q | exact mo4 hM_q | exact mo5 hM_q | exact mo9 hM_q | exact mo10 hM_q | exact mo11 hM_q | exact mo12 hM_q | exact mo13 hM_q | exact mo14 hM_q | exact mo15 hM_q | exact mo16 hM_q) rfl) dX8_faints_210 (sp_putsBack (k := k - 1) hM_q) (fun σ n h_q => ?_)
                      obtain ⟨rfl, A1, hM_q, hA1, hf1⟩ := h_q
                      have hA_q := eqx.tr (A := A) (L := [6, 7, 8, 9, 10, 11, 12, 13]) (by repeat (first | assumption | exact eqx.rf | refine eqx.up ?_ (by decide))) (hA1.wk (by decide))
                      have hf_q := hf_q.tr hf1
                      rw [setS_back hS9 hG_q] at hM_q
                      have hG_q : ∀ j, j < 26 → A1 8 j = K (8 + j) := fun j hj_q => by rw [hA1 8 (by decide)]; exact hG_q j hj_q
                      refine go_iinc (v := 1) (lw := [_, _, _, _, _, _, _, _]) (pc := 213) dX8_faints_213 rfl (by decide) (by decide) rfl ?_
                      refine go_goto (tgt := 113) (pc := 216) dX8_faints_216 (by decide) ?_
                      rw [nI_1]
                      first
                        | exact ih_q _ _ _ ⟨_, _, _, rfl, hM_q, hA_q, hf_q, hG_q, hb_q, (by rw [← hR_q, fntF_step hi_q, if_neg (by simp only [fntB, Bool.and_eq_true, decide_eq_true_eq]; exact fun hc_q => h_127 hc_q.1.1)]), rfl⟩
                        | exact ih_q _ _ _ ⟨_, _, _, rfl, hM_q, hA_q, hf_q, hG_q, hb_q, (by rw [← hR_q, fntF_step hi_q, if_neg (by simp only [fntB, Bool.and_eq_true, decide_eq_true_eq]; exact fun hc_q => hc_q.1.2.elim h_133 h_146)]), rfl⟩
                        | exact ih_q _ _ _ ⟨_, _, _, rfl, hM_q, hA_q, hf_q, hG_q, hb_q, (by rw [← hR_q, fntF_step hi_q, if_neg (by simp only [fntB, Bool.and_eq_true]; rw [hfo]; simpa using fun _ _ => h_202)]), rfl⟩
                        | exact ih_q _ _ _ ⟨_, _, _, rfl, hM_q, hA_q, hf_q, hG_q, Or.inr ⟨i_q, by omega, rfl⟩, (by rw [← hR_q, fntF_step hi_q, if_pos (by simp only [fntB, Bool.and_eq_true]; rw [hfo]; exact ⟨decide_eq_true hcnd, decide_eq_true h_202⟩)]), rfl⟩
                · refine go_goto (tgt := 213) (pc := 149) dX8_faints_149 (by decide) ?_
                  refine go_iinc (v := 1) (lw := [_, _, _, _, _, _, _, _]) (pc := 213) dX8_faints_213 rfl (by decide) (by decide) rfl ?_
                  refine go_goto (tgt := 113) (pc := 216) dX8_faints_216 (by decide) ?_
                  rw [nI_1]
                  first
                    | exact ih_q _ _ _ ⟨_, _, _, rfl, hM_q, hA_q, hf_q, hG_q, hb_q, (by rw [← hR_q, fntF_step hi_q, if_neg (by simp only [fntB, Bool.and_eq_true, decide_eq_true_eq]; exact fun hc_q => h_127 hc_q.1.1)]), rfl⟩
                    | exact ih_q _ _ _ ⟨_, _, _, rfl, hM_q, hA_q, hf_q, hG_q, hb_q, (by rw [← hR_q, fntF_step hi_q, if_neg (by simp only [fntB, Bool.and_eq_true, decide_eq_true_eq]; exact fun hc_q => hc_q.1.2.elim h_133 h_146)]), rfl⟩
                    | exact ih_q _ _ _ ⟨_, _, _, rfl, hM_q, hA_q, hf_q, hG_q, hb_q, (by rw [← hR_q, fntF_step hi_q, if_neg (by simp only [fntB, Bool.and_eq_true]; rw [hfo]; simpa using fun _ _ => h_202)]), rfl⟩
                    | exact ih_q _ _ _ ⟨_, _, _, rfl, hM_q, hA_q, hf_q, hG_q, Or.inr ⟨i_q, by omega, rfl⟩, (by rw [← hR_q, fntF_step hi_q, if_pos (by simp only [fntB, Bool.and_eq_true]; rw [hfo]; exact ⟨decide_eq_true hcnd, decide_eq_true h_202⟩)]), rfl⟩
          · rintro lv9 σ n9 ⟨b9_q, x7_q, A9_q, rfl, hM_q, hA_q, hf_q, hG_q, hb_q, hR_q, rfl⟩
            refine go_iload (pc := 113) dX8_faints_113 rfl ?_
            refine go_iload (pc := 115) dX8_faints_115 rfl ?_
            refine go_icmp_gt (tgt := 219) (pc := 117) dX8_faints_117 (by decide) (fun h_117 => ?_) (fun h_117 => by exfalso; rw [ev9] at h_117; exact h_117 (nI_lt (by omega) (by omega)))
            rw [Nat.sub_self] at hR_q
            have hR_q : b9_q = fntF _ _ _ _ _ := hR_q
            rw [← eK] at hR_q
            subst hR_q
            refine go_iload (pc := 219) dX8_faints_219 rfl ?_
            refine go_iconst (v := -1) (pc := 221) dX8_faints_221 (by decide) ?_
            refine go_icmp_eq (tgt := 230) (pc := 222) dX8_faints_222 (by decide) (fun h_222 => ?_) (fun h_222 => ?_)
            · refine go_iload (pc := 230) dX8_faints_230 rfl ?_
              refine go_goto (tgt := 240) (pc := 232) dX8_faints_232 (by decide) ?_
              exact go_iretI (pc := 240) rfl dX8_faints_240 (Nat.le_of_ble_eq_true rfl) (Nat.le_of_ble_eq_true rfl) ⟨(by rw [han]; first | exact (if_pos (Or.inl h_222)).symm | exact (if_pos (Or.inr (by have := (nI_eq (b := 1) (by omega) (by decide)).mp h_227; omega))).symm | exact (if_neg (fun hc_q => hc_q.elim h_222 (fun hd_q => h_227 (by rw [show x2_q = 1 by omega]; rfl)))).symm), rfl, _, _, hM_q, ⟨(by rw [han]; rfl), fun j h1_q h2_q h3_q => by simp [upd, h1_q, h2_q, h3_q]⟩, (by repeat (first | assumption | exact eqx.rf | refine eqx.up ?_ (by decide))), hf_q⟩
            · refine go_iload_n (pc := 225) dX8_faints_225 rfl ?_
              refine go_iconst (v := 1) (pc := 226) dX8_faints_226 (by decide) ?_
              refine go_icmp_ne (tgt := 235) (pc := 227) dX8_faints_227 (by decide) (fun h_227 => ?_) (fun h_227 => ?_)
              · have hsb : setP (fntK K j1_q x1_q) := hb_q.resolve_left h_222
                refine go_iload (pc := 235) dX8_faints_235 rfl ?_
                refine go_S1P (pc := 237) s_X8_342 rfl rfl dX8_faints_237 (sp_size (k := k - 1) (by assumption)) ?_
                exact go_iretI (pc := 240) rfl dX8_faints_240 (Nat.le_of_ble_eq_true rfl) (Nat.le_of_ble_eq_true rfl) ⟨(by rw [han]; first | exact (if_pos (Or.inl h_222)).symm | exact (if_pos (Or.inr (by have := (nI_eq (b := 1) (by omega) (by decide)).mp h_227; omega))).symm | exact (if_neg (fun hc_q => hc_q.elim h_222 (fun hd_q => h_227 (by rw [show x2_q = 1 by omega]; rfl)))).symm), rfl, _, _, hM_q, ⟨(by rw [han]; rfl), fun j h1_q h2_q h3_q => by simp [upd, h1_q, h2_q, h3_q]⟩, (by repeat (first | assumption | exact eqx.rf | refine eqx.up ?_ (by decide))), hf_q⟩
              · refine go_iload (pc := 230) dX8_faints_230 rfl ?_
                refine go_goto (tgt := 240) (pc := 232) dX8_faints_232 (by decide) ?_
                exact go_iretI (pc := 240) rfl dX8_faints_240 (Nat.le_of_ble_eq_true rfl) (Nat.le_of_ble_eq_true rfl) ⟨(by rw [han]; first | exact (if_pos (Or.inl h_222)).symm | exact (if_pos (Or.inr (by have := (nI_eq (b := 1) (by omega) (by decide)).mp h_227; omega))).symm | exact (if_neg (fun hc_q => hc_q.elim h_222 (fun hd_q => h_227 (by rw [show x2_q = 1 by omega]; rfl)))).symm), rfl, _, _, hM_q, ⟨(by rw [han]; rfl), fun j h1_q h2_q h3_q => by simp [upd, h1_q, h2_q, h3_q]⟩, (by repeat (first | assumption | exact eqx.rf | refine eqx.up ?_ (by decide))), hf_q⟩
