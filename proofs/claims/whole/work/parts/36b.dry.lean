/-! ===== the reference: how likely one stays dry ===== -/
theorem ten1 {m : Nat} : tenF m 1 = lN (10 ^ m) := by
  rw [show tenF m 1 = lN (1 * 10 ^ m) from tenF_nat (a := 1) rfl, Nat.one_mul]
theorem sp_isDryLong {Γ : gam} {z0 : sto} {n k : Nat} (hk : 1 ≤ k) (z : Int32) : Sp Γ (rmk k 0 0) uX8_isDryLong [.int z] z0 n (qP (bI (0 ≤ z.toInt64 ∧ z.toInt64 ≤ 15)) z0 n) := by
  refine sp_intro [some (.int z)] (by decide +kernel) rfl (Nat.le_of_ble_eq_true rfl) rfl ?_
  refine go_iload_n (pc := 0) dX8_isDryLong_0 rfl ?_
  refine go_i2l (pc := 1) dX8_isDryLong_1 ?_
  refine go_lconst (v := 0) (pc := 2) dX8_isDryLong_2 rfl ?_
  refine go_ldc2 (pc := 3) kw8_144 dX8_isDryLong_3 ?_
  refine go_S3P (pc := 6) s_X8_125 rfl rfl dX8_isDryLong_6 (sp_within (k := k - 1) _ _ _) ?_
  exact go_zretP (pc := 9) rfl (by first | rfl | exact nb_bI) dX8_isDryLong_9 (Nat.le_of_ble_eq_true rfl) (Nat.le_of_ble_eq_true rfl) (by simp [*])
theorem lp_common {Γ : gam} {z0 : sto} {n k : Nat} : ∀ (m a b : Nat), b ≤ m → a < 2 ^ 63 → b < 2 ^ 63 → ∀ x0 x2_q x8_q : Option Value, Go Γ (rmk k 0 0) uX8_common (qPL (lN (Nat.gcd a b)) z0 n) 0 0 6 [x0, none, x2_q, none, some (.long (lN a)), none, some (.long (lN b)), none, x8_q, none] [] z0 n := by
  intro m
  induction m with
  | zero =>
    intro a b hb_q ha_q hb2_q x0 x2_q x8_q
    obtain rfl : b = 0 := by omega
    rw [Nat.gcd_zero_right]
    refine go_lload (pc := 6) dX8_common_6 rfl ?_
    refine go_lconst (v := 0) (pc := 8) dX8_common_8 rfl ?_
    refine go_lcmp (pc := 9) dX8_common_9 ?_
    refine go_if_eq (tgt := 31) (pc := 10) dX8_common_10 (by decide) (fun h_10 => ?_) (fun h_10 => by exfalso; exact h_10 ((lg_cmp_eq _ _).mpr rfl))
    refine go_lload (pc := 31) dX8_common_31 rfl ?_
    exact go_lretP (pc := 33) rfl dX8_common_33 (Nat.le_of_ble_eq_true rfl) (Nat.le_of_ble_eq_true rfl) rfl
  | succ m ih_q =>
    intro a b hb_q ha_q hb2_q x0 x2_q x8_q
    by_cases hz_q : b = 0
    · subst hz_q
      rw [Nat.gcd_zero_right]
      refine go_lload (pc := 6) dX8_common_6 rfl ?_
      refine go_lconst (v := 0) (pc := 8) dX8_common_8 rfl ?_
      refine go_lcmp (pc := 9) dX8_common_9 ?_
      refine go_if_eq (tgt := 31) (pc := 10) dX8_common_10 (by decide) (fun h_10 => ?_) (fun h_10 => by exfalso; exact h_10 ((lg_cmp_eq _ _).mpr rfl))
      refine go_lload (pc := 31) dX8_common_31 rfl ?_
      exact go_lretP (pc := 33) rfl dX8_common_33 (Nat.le_of_ble_eq_true rfl) (Nat.le_of_ble_eq_true rfl) rfl
    · refine go_lload (pc := 6) dX8_common_6 rfl ?_
      refine go_lconst (v := 0) (pc := 8) dX8_common_8 rfl ?_
      refine go_lcmp (pc := 9) dX8_common_9 ?_
      refine go_if_eq (tgt := 31) (pc := 10) dX8_common_10 (by decide) (fun h_10 => by exfalso; exact hz_q ((pk_lEQ (b := 0) hb2_q (by decide)).mp ((lg_cmp_eq _ _).mp h_10))) (fun h_10 => ?_)
      refine go_lload (pc := 13) dX8_common_13 rfl ?_
      refine go_lload (pc := 15) dX8_common_15 rfl ?_
      refine go_lrem (pc := 17) dX8_common_17 (fun hc_q => hz_q ((pk_lEQ (b := 0) hb2_q (by decide)).mp hc_q)) ?_
      rw [pk_lRem ha_q (by omega) hb2_q]
      refine go_lstore (lw := [_, _, _, _, _, _, _, _, _, _]) (pc := 18) dX8_common_18 (by decide) rfl ?_
      refine go_lload (pc := 20) dX8_common_20 rfl ?_
      refine go_lstore (lw := [_, _, _, _, _, _, _, _, _, _]) (pc := 22) dX8_common_22 (by decide) rfl ?_
      refine go_lload (pc := 24) dX8_common_24 rfl ?_
      refine go_lstore (lw := [_, _, _, _, _, _, _, _, _, _]) (pc := 26) dX8_common_26 (by decide) rfl ?_
      refine go_goto (tgt := 6) (pc := 28) dX8_common_28 (by decide) ?_
      have hlt := Nat.mod_lt a (show 0 < b by omega)
      rw [gcd_st]
      exact ih_q b (a % b) (by omega) hb2_q (by omega) _ _ _
theorem sp_common {Γ : gam} {z0 : sto} {n k : Nat} {a b : Nat} (ha_q : a < 2 ^ 63) (hb_q : b < 2 ^ 63) : Sp Γ (rmk k 0 0) uX8_common [.long (lN a), .long (lN b)] z0 n (qPL (lN (Nat.gcd a b)) z0 n) := by
  refine sp_intro [some (.long (lN a)), none, some (.long (lN b)), none, none, none, none, none, none, none] (by decide +kernel) rfl (Nat.le_of_ble_eq_true rfl) rfl ?_
  refine go_lload_n (pc := 0) dX8_common_0 rfl ?_
  refine go_lstore (lw := [_, _, _, _, _, _, _, _, _, _]) (pc := 1) dX8_common_1 (by decide) rfl ?_
  refine go_lload_n (pc := 3) dX8_common_3 rfl ?_
  refine go_lstore (lw := [_, _, _, _, _, _, _, _, _, _]) (pc := 4) dX8_common_4 (by decide) rfl ?_
  exact lp_common b a b (Nat.le_refl _) ha_q hb_q _ _ _
theorem sp_dryFromHere {Γ : gam} {z0 : sto} {n k r : Nat} {F K : row} {A : Nat → row} {Nm : Nat → Int64} (hM_q : MoAt Γ z0 r F K A Nm) (hk : 8 ≤ k) (hB_q : okB K) (hv_q : vS K) {p m : Nat} (hp_q : p < 8) (hm_q : m ≤ 15) {K0 : row} (hS0 : sameB K0 K) (hG_q : ∀ j, j < 26 → A 8 j = K0 (8 + j)) : Sp Γ (rmk k 0 0) uX8_dryFromHere [.ref r, .int (nI p), .int (nI m)] z0 n (qL fun v σ' n' => v = dryF p m K 1 ∧ moJ Γ r F K0 A Nm z0 n [6, 7] σ' n') := by
  have hP8 := hB_q.1.2.1
  have hH5 := hB_q.1.2.2.2.1
  have hA_q : eqx [6, 7] A A := eqx.rf
  have hf_q : fr r (r + 16) z0 z0 := fr.rf
  refine sp_intro [some (.ref r), some (.int (nI p)), some (.int (nI m)), none, none, none, none] (by decide +kernel) rfl (Nat.le_of_ble_eq_true rfl) rfl ?_
  refine go_lconst (v := 1) (pc := 0) dX8_dryFromHere_0 rfl ?_
  refine go_lstore_n (lw := [_, _, _, _, _, _, _]) (pc := 1) dX8_dryFromHere_1 (by decide) rfl ?_
  refine go_iconst (v := 0) (pc := 2) dX8_dryFromHere_2 (by decide) ?_
  refine go_istore (lw := [_, _, _, _, _, _, _]) (pc := 3) dX8_dryFromHere_3 (by decide) rfl ?_
  refine go_iter (m) (fun i_q lv9 s9 n9 => ∃ (v9 : Int64), ∃ x6_q, ∃ A9_q, lv9 = [some (.ref r), some (.int (nI p)), some (.int (nI m)), some (.long v9), none, some (.int (nI i_q)), x6_q] ∧ (MoAt Γ s9 r F (goK i_q K) A9_q Nm) ∧ (eqx [6, 7] A A9_q) ∧ (fr r (r + 16) z0 s9) ∧ (dryF p (m - i_q) (goK i_q K) v9 = dryF p m K 1) ∧ n = n9) ⟨1, none, _, rfl, hM_q, hA_q, hf_q, rfl, rfl⟩ ?_ ?_
  · rintro i_q lv9 σ n9 hi_q ⟨v9, x6_q, A9_q, rfl, hM_q, hA_q, hf_q, hR_q, rfl⟩ ih_q
    have hS_q : sameB K (goK i_q K) := goK_same (by omega)
    have hB9_q := hS_q.okB hB_q
    have hv9_q : vS (goK i_q K) := vS_go hv_q (by omega) (by omega)
    refine go_iload (pc := 5) dX8_dryFromHere_5 rfl ?_
    refine go_iload_n (pc := 7) dX8_dryFromHere_7 rfl ?_
    refine go_icmp_ge (tgt := 75) (pc := 8) dX8_dryFromHere_8 (by decide) (fun h_8 => by exfalso; exact absurd h_8 (nI_ge (by omega) (by omega))) (fun h_8 => ?_)
    refine go_aload_n (pc := 11) dX8_dryFromHere_11 rfl ?_
    refine go_getf (pc := 12) f_X8_9 dX8_dryFromHere_12 (by first | exact mo0 hM_q | exact mo1 hM_q | exact mo6 hM_q | exact mo7 hM_q | exact mo8 hM_q | exact mo2 hM_q | exact mo3 hM_q | exact mo4 hM_q | exact mo5 hM_q | exact mo9 hM_q | exact mo10 hM_q | exact mo11 hM_q | exact mo12 hM_q | exact mo13 hM_q | exact mo14 hM_q | exact mo15 hM_q | exact mo16 hM_q) (by rfl) ?_
    refine go_bipush (v := 33) (pc := 15) dX8_dryFromHere_15 (by decide) ?_
    refine go_iald (j := 33) (pc := 17) dX8_dryFromHere_17 (by first | exact mo0 hM_q | exact mo1 hM_q | exact mo6 hM_q | exact mo7 hM_q | exact mo8 hM_q | exact mo2 hM_q | exact mo3 hM_q | exact mo4 hM_q | exact mo5 hM_q | exact mo9 hM_q | exact mo10 hM_q | exact mo11 hM_q | exact mo12 hM_q | exact mo13 hM_q | exact mo14 hM_q | exact mo15 hM_q | exact mo16 hM_q) (by exact ⟨rfl, by decide⟩) ?_
    refine go_istore (lw := [_, _, _, _, _, _, _]) (pc := 18) dX8_dryFromHere_18 (by decide) rfl ?_
    refine go_aload_n (pc := 20) dX8_dryFromHere_20 rfl ?_
    refine go_V0V (pc := 21) v_X8_345 rfl rfl (rcv_of (ci := 8) (by first | exact mo0 hM_q | exact mo1 hM_q | exact mo6 hM_q | exact mo7 hM_q | exact mo8 hM_q | exact mo2 hM_q | exact mo3 hM_q | exact mo4 hM_q | exact mo5 hM_q | exact mo9 hM_q | exact mo10 hM_q | exact mo11 hM_q | exact mo12 hM_q | exact mo13 hM_q | exact mo14 hM_q | exact mo15 hM_q | exact mo16 hM_q) rfl) dX8_dryFromHere_21 (sp_minute (k := k - 1) hM_q (by omega) hB9_q hv9_q) (fun σ n h_q => ?_)
    obtain ⟨rfl, A1, hM_q, hA1, hf1⟩ := h_q
    have hA_q := eqx.tr (A := A) (L := [6, 7]) (by repeat (first | assumption | exact eqx.rf | refine eqx.up ?_ (by decide))) (hA1.wk (by decide))
    have hf_q := hf_q.tr hf1
    have hB1 := (minK_same (K := goK i_q K) (by rw [hS_q.P]; omega)).okB hB9_q
    refine go_lload_n (pc := 24) dX8_dryFromHere_24 rfl ?_
    refine go_aload_n (pc := 25) dX8_dryFromHere_25 rfl ?_
    refine go_iload_n (pc := 26) dX8_dryFromHere_26 rfl ?_
    refine go_V1P (pc := 27) v_X8_296 rfl rfl (rcv_of (ci := 8) (by first | exact mo0 hM_q | exact mo1 hM_q | exact mo6 hM_q | exact mo7 hM_q | exact mo8 hM_q | exact mo2 hM_q | exact mo3 hM_q | exact mo4 hM_q | exact mo5 hM_q | exact mo9 hM_q | exact mo10 hM_q | exact mo11 hM_q | exact mo12 hM_q | exact mo13 hM_q | exact mo14 hM_q | exact mo15 hM_q | exact mo16 hM_q) rfl) dX8_dryFromHere_27 (sp_isUp (k := k - 1) hM_q (by omega)) ?_
    refine go_if_eq (tgt := 39) (pc := 30) dX8_dryFromHere_30 (by decide) (fun h_30 => ?_) (fun h_30 => ?_)
    · refine go_bipush (v := 10) (pc := 39) dX8_dryFromHere_39 (by decide) ?_
      refine go_aload_n (pc := 41) dX8_dryFromHere_41 rfl ?_
      refine go_aload_n (pc := 42) dX8_dryFromHere_42 rfl ?_
      refine go_getf (pc := 43) f_X8_9 dX8_dryFromHere_43 (by first | exact mo0 hM_q | exact mo1 hM_q | exact mo6 hM_q | exact mo7 hM_q | exact mo8 hM_q | exact mo2 hM_q | exact mo3 hM_q | exact mo4 hM_q | exact mo5 hM_q | exact mo9 hM_q | exact mo10 hM_q | exact mo11 hM_q | exact mo12 hM_q | exact mo13 hM_q | exact mo14 hM_q | exact mo15 hM_q | exact mo16 hM_q) (by rfl) ?_
      refine go_bipush (v := 8) (pc := 46) dX8_dryFromHere_46 (by decide) ?_
      refine go_iload_n (pc := 48) dX8_dryFromHere_48 rfl ?_
      refine go_iadd (pc := 49) dX8_dryFromHere_49 ?_
      refine go_iald (pc := 50) dX8_dryFromHere_50 (by first | exact mo0 hM_q | exact mo1 hM_q | exact mo6 hM_q | exact mo7 hM_q | exact mo8 hM_q | exact mo2 hM_q | exact mo3 hM_q | exact mo4 hM_q | exact mo5 hM_q | exact mo9 hM_q | exact mo10 hM_q | exact mo11 hM_q | exact mo12 hM_q | exact mo13 hM_q | exact mo14 hM_q | exact mo15 hM_q | exact mo16 hM_q) (by exact ⟨nI_add 8 _, by omega⟩) ?_
      refine go_aload_n (pc := 51) dX8_dryFromHere_51 rfl ?_
      refine go_getf (pc := 52) f_X8_9 dX8_dryFromHere_52 (by first | exact mo0 hM_q | exact mo1 hM_q | exact mo6 hM_q | exact mo7 hM_q | exact mo8 hM_q | exact mo2 hM_q | exact mo3 hM_q | exact mo4 hM_q | exact mo5 hM_q | exact mo9 hM_q | exact mo10 hM_q | exact mo11 hM_q | exact mo12 hM_q | exact mo13 hM_q | exact mo14 hM_q | exact mo15 hM_q | exact mo16 hM_q) (by rfl) ?_
      refine go_bipush (v := 16) (pc := 55) dX8_dryFromHere_55 (by decide) ?_
      refine go_iload_n (pc := 57) dX8_dryFromHere_57 rfl ?_
      refine go_iadd (pc := 58) dX8_dryFromHere_58 ?_
      refine go_iald (pc := 59) dX8_dryFromHere_59 (by first | exact mo0 hM_q | exact mo1 hM_q | exact mo6 hM_q | exact mo7 hM_q | exact mo8 hM_q | exact mo2 hM_q | exact mo3 hM_q | exact mo4 hM_q | exact mo5 hM_q | exact mo9 hM_q | exact mo10 hM_q | exact mo11 hM_q | exact mo12 hM_q | exact mo13 hM_q | exact mo14 hM_q | exact mo15 hM_q | exact mo16 hM_q) (by exact ⟨nI_add 16 _, by omega⟩) ?_
      refine go_iload (pc := 60) dX8_dryFromHere_60 rfl ?_
      refine go_V3I (pc := 62) v_X8_317 rfl rfl (rcv_of (ci := 8) (by first | exact mo0 hM_q | exact mo1 hM_q | exact mo6 hM_q | exact mo7 hM_q | exact mo8 hM_q | exact mo2 hM_q | exact mo3 hM_q | exact mo4 hM_q | exact mo5 hM_q | exact mo9 hM_q | exact mo10 hM_q | exact mo11 hM_q | exact mo12 hM_q | exact mo13 hM_q | exact mo14 hM_q | exact mo15 hM_q | exact mo16 hM_q) rfl) dX8_dryFromHere_62 (sp_wetsHow (k := k - 1) hM_q (by omega) _ _ _ hB1.2.2.2) (fun v_62 σ n h_q => ?_)
      obtain ⟨rfl, rfl, A1, hM_q, hA1, hf1⟩ := h_q
      have hA_q := eqx.tr (A := A) (L := [6, 7]) (by repeat (first | assumption | exact eqx.rf | refine eqx.up ?_ (by decide))) (hA1.wk (by decide))
      have hf_q := hf_q.tr hf1
      refine go_isub (pc := 65) dX8_dryFromHere_65 ?_
      refine go_i2l (pc := 66) dX8_dryFromHere_66 ?_
      refine go_lmul (pc := 67) dX8_dryFromHere_67 ?_
      refine go_lstore_n (lw := [_, _, _, _, _, _, _]) (pc := 68) dX8_dryFromHere_68 (by decide) rfl ?_
      refine go_iinc (v := 1) (lw := [_, _, _, _, _, _, _]) (pc := 69) dX8_dryFromHere_69 rfl (by decide) (by decide) rfl ?_
      refine go_goto (tgt := 5) (pc := 72) dX8_dryFromHere_72 (by decide) ?_
      rw [nI_1]
      refine ih_q _ _ _ ⟨_, _, _, rfl, (by rw [goK_s]; exact hM_q), hA_q, hf_q, ?_, rfl⟩
      rw [← hR_q, dryF_step hi_q, goK_s]
      first
        | rw [if_neg (fun hc_q => bI_0.mp h_30 (upK_iff.mp hc_q))]
        | rw [if_pos (upK_iff.mpr (Decidable.not_not.mp (fun hc_q => h_30 (bI_0.mpr hc_q))))]
    · refine go_ldc2 (pc := 33) kw7_211 dX8_dryFromHere_33 ?_
      refine go_goto (tgt := 67) (pc := 36) dX8_dryFromHere_36 (by decide) ?_
      refine go_lmul (pc := 67) dX8_dryFromHere_67 ?_
      refine go_lstore_n (lw := [_, _, _, _, _, _, _]) (pc := 68) dX8_dryFromHere_68 (by decide) rfl ?_
      refine go_iinc (v := 1) (lw := [_, _, _, _, _, _, _]) (pc := 69) dX8_dryFromHere_69 rfl (by decide) (by decide) rfl ?_
      refine go_goto (tgt := 5) (pc := 72) dX8_dryFromHere_72 (by decide) ?_
      rw [nI_1]
      refine ih_q _ _ _ ⟨_, _, _, rfl, (by rw [goK_s]; exact hM_q), hA_q, hf_q, ?_, rfl⟩
      rw [← hR_q, dryF_step hi_q, goK_s]
      first
        | rw [if_neg (fun hc_q => bI_0.mp h_30 (upK_iff.mp hc_q))]
        | rw [if_pos (upK_iff.mpr (Decidable.not_not.mp (fun hc_q => h_30 (bI_0.mpr hc_q))))]
  · rintro lv9 σ n9 ⟨v9, x6_q, A9_q, rfl, hM_q, hA_q, hf_q, hR_q, rfl⟩
    have hS_q : sameB K (goK m K) := goK_same (by omega)
    refine go_iload (pc := 5) dX8_dryFromHere_5 rfl ?_
    refine go_iload_n (pc := 7) dX8_dryFromHere_7 rfl ?_
    refine go_icmp_ge (tgt := 75) (pc := 8) dX8_dryFromHere_8 (by decide) (fun h_8 => ?_) (fun h_8 => by exfalso; exact h_8 (nI_le (by omega) (by omega)))
    have hA0 := hA_q
    refine go_aload_n (pc := 75) dX8_dryFromHere_75 rfl ?_
    refine go_V0V (pc := 76) v_X8_381 rfl rfl (rcv_of (ci := 8) (by first | exact mo0 hM_q | exact mo1 hM_q | exact mo6 hM_q | exact mo7 hM_q | exact mo8 hM_q | exact mo2 hM_q | exact mo3 hM_q | exact mo4 hM_q | exact mo5 hM_q | exact mo9 hM_q | exact mo10 hM_q | exact mo11 hM_q | exact mo12 hM_q | exact mo13 hM_q | exact mo14 hM_q | exact mo15 hM_q | exact mo16 hM_q) rfl) dX8_dryFromHere_76 (sp_putsBack (k := k - 1) hM_q) (fun σ n h_q => ?_)
    obtain ⟨rfl, A1, hM_q, hA1, hf1⟩ := h_q
    have hA_q := eqx.tr (A := A) (L := [6, 7]) (by repeat (first | assumption | exact eqx.rf | refine eqx.up ?_ (by decide))) (hA1.wk (by decide))
    have hf_q := hf_q.tr hf1
    rw [setS_back (hS0.tr hS_q) (fun j hj_q => by rw [hA0 8 (by decide)]; exact hG_q j hj_q)] at hM_q
    refine go_lload_n (pc := 79) dX8_dryFromHere_79 rfl ?_
    exact go_lretI (pc := 80) rfl dX8_dryFromHere_80 (Nat.le_of_ble_eq_true rfl) (Nat.le_of_ble_eq_true rfl) ⟨(by rw [← hR_q, Nat.sub_self]; rfl), rfl, _, hM_q, hA_q, hf_q⟩
theorem sp_dryNow {Γ : gam} {z0 : sto} {n k r : Nat} {F K : row} {A : Nat → row} {Nm : Nat → Int64} (hM_q : MoAt Γ z0 r F K A Nm) (hk : 9 ≤ k) (hB_q : okB K) (hv_q : vS K) {p m : Nat} (hp_q : p < 8) (hm_q : m ≤ 15) : Sp Γ (rmk k 0 0) uX8_dryNow [.ref r, .int (nI p), .int (nI m)] z0 n (qL fun v σ' n' => v = dryN p m K ∧ moJ Γ r F K A Nm z0 n [6, 7, 8] σ' n') := by
  have hA_q : eqx [6, 7, 8] A A := eqx.rf
  have hf_q : fr r (r + 16) z0 z0 := fr.rf
  refine sp_intro [some (.ref r), some (.int (nI p)), some (.int (nI m))] (by decide +kernel) rfl (Nat.le_of_ble_eq_true rfl) rfl ?_
  refine go_aload_n (pc := 0) dX8_dryNow_0 rfl ?_
  refine go_V0V (pc := 1) v_X8_369 rfl rfl (rcv_of (ci := 8) (by first | exact mo0 hM_q | exact mo1 hM_q | exact mo6 hM_q | exact mo7 hM_q | exact mo8 hM_q | exact mo2 hM_q | exact mo3 hM_q | exact mo4 hM_q | exact mo5 hM_q | exact mo9 hM_q | exact mo10 hM_q | exact mo11 hM_q | exact mo12 hM_q | exact mo13 hM_q | exact mo14 hM_q | exact mo15 hM_q | exact mo16 hM_q) rfl) dX8_dryNow_1 (sp_putsAside (k := k - 1) hM_q) (fun σ n h_q => ?_)
  obtain ⟨rfl, A1, hM_q, hA1, hf1, hG_q⟩ := h_q
  have hA_q := eqx.tr (A := A) (L := [6, 7, 8]) (by repeat (first | assumption | exact eqx.rf | refine eqx.up ?_ (by decide))) (hA1.wk (by decide))
  have hf_q := hf_q.tr hf1
  refine go_aload_n (pc := 4) dX8_dryNow_4 rfl ?_
  refine go_iload_n (pc := 5) dX8_dryNow_5 rfl ?_
  refine go_iload_n (pc := 6) dX8_dryNow_6 rfl ?_
  refine go_V2L (pc := 7) v_X8_442 rfl rfl (rcv_of (ci := 8) (by first | exact mo0 hM_q | exact mo1 hM_q | exact mo6 hM_q | exact mo7 hM_q | exact mo8 hM_q | exact mo2 hM_q | exact mo3 hM_q | exact mo4 hM_q | exact mo5 hM_q | exact mo9 hM_q | exact mo10 hM_q | exact mo11 hM_q | exact mo12 hM_q | exact mo13 hM_q | exact mo14 hM_q | exact mo15 hM_q | exact mo16 hM_q) rfl) dX8_dryNow_7 (sp_dryFromHere (k := k - 1) hM_q (by omega) hB_q hv_q (by omega) (by omega) sameB.rf hG_q) (fun v_7 σ n h_q => ?_)
  obtain ⟨rfl, rfl, A1, hM_q, hA1, hf1⟩ := h_q
  have hA_q := eqx.tr (A := A) (L := [6, 7, 8]) (by repeat (first | assumption | exact eqx.rf | refine eqx.up ?_ (by decide))) (hA1.wk (by decide))
  have hf_q := hf_q.tr hf1
  exact go_lretI (pc := 10) rfl dX8_dryNow_10 (Nat.le_of_ble_eq_true rfl) (Nat.le_of_ble_eq_true rfl) ⟨rfl, rfl, _, hM_q, hA_q, hf_q⟩
theorem sp_dry {Γ : gam} {z0 : sto} {n k r : Nat} {F K : row} {A : Nat → row} {Nm : Nat → Int64} (hM_q : MoAt Γ z0 r F K A Nm) (hk : 14 ≤ k) (hB_q : okB K) (hv_q : vS K) (p z w : Int32) : Sp Γ (rmk k 0 0) uX8_dry [.ref r, .int p, .int z, .int w] z0 n (qL fun v σ' n' => v = (aDry K p.toInt z.toInt w.toInt).2 ∧ apJ Γ r F K A Nm z0 n (aDry K p.toInt z.toInt w.toInt).1 σ' n') := by
  have hP8 := hB_q.1.2.1
  have hH5 := hB_q.1.2.2.2.1
  have hW4 := hB_q.1.2.2.2.2.2
  have hA_q : eqx [6, 7, 8, 9, 10, 11, 12, 13] A A := eqx.rf
  have hf_q : fr r (r + 16) z0 z0 := fr.rf
  refine sp_intro [some (.ref r), some (.int p), some (.int z), some (.int w), none, none, none, none, none, none] (by decide +kernel) rfl (Nat.le_of_ble_eq_true rfl) rfl ?_
  cases hp_q : pN (kP K) p.toInt with
  | none =>
    refine go_aload_n (pc := 0) dX8_dry_0 rfl ?_
    refine go_aload_n (pc := 1) dX8_dry_1 rfl ?_
    refine go_iload_n (pc := 2) dX8_dry_2 rfl ?_
    refine go_i2l (pc := 3) dX8_dry_3 ?_
    refine go_V1P (pc := 4) v_X8_310 rfl rfl (rcv_of (ci := 8) (by first | exact mo0 hM_q | exact mo1 hM_q | exact mo6 hM_q | exact mo7 hM_q | exact mo8 hM_q | exact mo2 hM_q | exact mo3 hM_q | exact mo4 hM_q | exact mo5 hM_q | exact mo9 hM_q | exact mo10 hM_q | exact mo11 hM_q | exact mo12 hM_q | exact mo13 hM_q | exact mo14 hM_q | exact mo15 hM_q | exact mo16 hM_q) rfl) dX8_dry_4 (sp_isPerson (k := k - 1) hM_q (by omega) _) ?_
    refine go_if_ne (tgt := 14) (pc := 7) dX8_dry_7 (by decide) (fun h_7 => by exfalso; exact h_7 (pi_no hB_q.1.1 (by omega) hp_q)) (fun h_7 => ?_)
    refine go_iconst (v := 1) (pc := 10) dX8_dry_10 (by decide) ?_
    refine go_goto (tgt := 36) (pc := 11) dX8_dry_11 (by decide) ?_
    refine go_mpf4 (pc := 36) hM_q dX8_dry_36 (fun σ hM_q hf9 => ?_)
    have hf_q := hf_q.tr hf9
    refine go_aload_n (pc := 39) dX8_dry_39 rfl ?_
    refine go_getf (pc := 40) f_X8_64 dX8_dry_40 (by first | exact mo0 hM_q | exact mo1 hM_q | exact mo6 hM_q | exact mo7 hM_q | exact mo8 hM_q | exact mo2 hM_q | exact mo3 hM_q | exact mo4 hM_q | exact mo5 hM_q | exact mo9 hM_q | exact mo10 hM_q | exact mo11 hM_q | exact mo12 hM_q | exact mo13 hM_q | exact mo14 hM_q | exact mo15 hM_q | exact mo16 hM_q) (by rfl) ?_
    refine go_if_le (tgt := 48) (pc := 43) dX8_dry_43 (by decide) (fun h_43 => by exfalso; exact absurd (show (1 : Int32) ≤ 0 from h_43) (by decide)) (fun h_43 => ?_)
    refine go_lconst (v := 0) (pc := 46) dX8_dry_46 rfl ?_
    exact go_lretI (pc := 47) rfl dX8_dry_47 (Nat.le_of_ble_eq_true rfl) (Nat.le_of_ble_eq_true rfl) ⟨(by simp [aDry, aDryT, hp_q]), rfl, _, _, hM_q, ⟨(by simp [upd, aDry, aDryT, hp_q]), fun j h1_q h2_q h3_q => by simp [upd, h1_q, h2_q, h3_q]⟩, (by repeat (first | assumption | exact eqx.rf | refine eqx.up ?_ (by decide))), hf_q⟩
  | some j1_q =>
    have hp1 := pN_some hp_q
    obtain rfl := I_nat hp1.1 (by omega)
    cases hz_q : rN 0 16 z.toInt with
    | none =>
      refine go_aload_n (pc := 0) dX8_dry_0 rfl ?_
      refine go_aload_n (pc := 1) dX8_dry_1 rfl ?_
      refine go_iload_n (pc := 2) dX8_dry_2 rfl ?_
      refine go_i2l (pc := 3) dX8_dry_3 ?_
      refine go_V1P (pc := 4) v_X8_310 rfl rfl (rcv_of (ci := 8) (by first | exact mo0 hM_q | exact mo1 hM_q | exact mo6 hM_q | exact mo7 hM_q | exact mo8 hM_q | exact mo2 hM_q | exact mo3 hM_q | exact mo4 hM_q | exact mo5 hM_q | exact mo9 hM_q | exact mo10 hM_q | exact mo11 hM_q | exact mo12 hM_q | exact mo13 hM_q | exact mo14 hM_q | exact mo15 hM_q | exact mo16 hM_q) rfl) dX8_dry_4 (sp_isPerson (k := k - 1) hM_q (by omega) _) ?_
      refine go_if_ne (tgt := 14) (pc := 7) dX8_dry_7 (by decide) (fun h_7 => ?_) (fun h_7 => by exfalso; rw [pi_yes hB_q.1.1 (by omega) hp_q] at h_7; exact absurd h_7 (by decide))
      refine go_iload_n (pc := 14) dX8_dry_14 rfl ?_
      refine go_S1P (pc := 15) s_X8_446 rfl rfl dX8_dry_15 (sp_isDryLong (k := k - 1) (by omega) _) ?_
      refine go_if_eq (tgt := 35) (pc := 18) dX8_dry_18 (by decide) (fun h_18 => ?_) (fun h_18 => by exfalso; exact h_18 (wi_no hz_q (by decide) (by decide)))
      refine go_iconst (v := 2) (pc := 35) dX8_dry_35 (by decide) ?_
      refine go_mpf4 (pc := 36) hM_q dX8_dry_36 (fun σ hM_q hf9 => ?_)
      have hf_q := hf_q.tr hf9
      refine go_aload_n (pc := 39) dX8_dry_39 rfl ?_
      refine go_getf (pc := 40) f_X8_64 dX8_dry_40 (by first | exact mo0 hM_q | exact mo1 hM_q | exact mo6 hM_q | exact mo7 hM_q | exact mo8 hM_q | exact mo2 hM_q | exact mo3 hM_q | exact mo4 hM_q | exact mo5 hM_q | exact mo9 hM_q | exact mo10 hM_q | exact mo11 hM_q | exact mo12 hM_q | exact mo13 hM_q | exact mo14 hM_q | exact mo15 hM_q | exact mo16 hM_q) (by rfl) ?_
      refine go_if_le (tgt := 48) (pc := 43) dX8_dry_43 (by decide) (fun h_43 => by exfalso; exact absurd (show (2 : Int32) ≤ 0 from h_43) (by decide)) (fun h_43 => ?_)
      refine go_lconst (v := 0) (pc := 46) dX8_dry_46 rfl ?_
      exact go_lretI (pc := 47) rfl dX8_dry_47 (Nat.le_of_ble_eq_true rfl) (Nat.le_of_ble_eq_true rfl) ⟨(by simp [aDry, aDryT, hp_q, hz_q]), rfl, _, _, hM_q, ⟨(by simp [upd, aDry, aDryT, hp_q, hz_q]), fun j h1_q h2_q h3_q => by simp [upd, h1_q, h2_q, h3_q]⟩, (by repeat (first | assumption | exact eqx.rf | refine eqx.up ?_ (by decide))), hf_q⟩
    | some x1_q =>
      have hz1 := rN_some hz_q
      obtain rfl := I_nat hz1.1 (by omega)
      cases hw_q : rN 0 2 w.toInt with
      | none =>
        refine go_aload_n (pc := 0) dX8_dry_0 rfl ?_
        refine go_aload_n (pc := 1) dX8_dry_1 rfl ?_
        refine go_iload_n (pc := 2) dX8_dry_2 rfl ?_
        refine go_i2l (pc := 3) dX8_dry_3 ?_
        refine go_V1P (pc := 4) v_X8_310 rfl rfl (rcv_of (ci := 8) (by first | exact mo0 hM_q | exact mo1 hM_q | exact mo6 hM_q | exact mo7 hM_q | exact mo8 hM_q | exact mo2 hM_q | exact mo3 hM_q | exact mo4 hM_q | exact mo5 hM_q | exact mo9 hM_q | exact mo10 hM_q | exact mo11 hM_q | exact mo12 hM_q | exact mo13 hM_q | exact mo14 hM_q | exact mo15 hM_q | exact mo16 hM_q) rfl) dX8_dry_4 (sp_isPerson (k := k - 1) hM_q (by omega) _) ?_
        refine go_if_ne (tgt := 14) (pc := 7) dX8_dry_7 (by decide) (fun h_7 => ?_) (fun h_7 => by exfalso; rw [pi_yes hB_q.1.1 (by omega) hp_q] at h_7; exact absurd h_7 (by decide))
        refine go_iload_n (pc := 14) dX8_dry_14 rfl ?_
        refine go_S1P (pc := 15) s_X8_446 rfl rfl dX8_dry_15 (sp_isDryLong (k := k - 1) (by omega) _) ?_
        refine go_if_eq (tgt := 35) (pc := 18) dX8_dry_18 (by decide) (fun h_18 => by exfalso; rw [wi_yes hz_q (by decide) (by decide)] at h_18; exact absurd h_18 (by decide)) (fun h_18 => ?_)
        refine go_iload_n (pc := 21) dX8_dry_21 rfl ?_
        refine go_i2l (pc := 22) dX8_dry_22 ?_
        refine go_lconst (v := 0) (pc := 23) dX8_dry_23 rfl ?_
        refine go_lconst (v := 1) (pc := 24) dX8_dry_24 rfl ?_
        refine go_S3P (pc := 25) s_X8_125 rfl rfl dX8_dry_25 (sp_within (k := k - 1) _ _ _) ?_
        refine go_if_eq (tgt := 35) (pc := 28) dX8_dry_28 (by decide) (fun h_28 => ?_) (fun h_28 => by exfalso; exact h_28 (wi_no hw_q (by decide) (by decide)))
        refine go_iconst (v := 2) (pc := 35) dX8_dry_35 (by decide) ?_
        refine go_mpf4 (pc := 36) hM_q dX8_dry_36 (fun σ hM_q hf9 => ?_)
        have hf_q := hf_q.tr hf9
        refine go_aload_n (pc := 39) dX8_dry_39 rfl ?_
        refine go_getf (pc := 40) f_X8_64 dX8_dry_40 (by first | exact mo0 hM_q | exact mo1 hM_q | exact mo6 hM_q | exact mo7 hM_q | exact mo8 hM_q | exact mo2 hM_q | exact mo3 hM_q | exact mo4 hM_q | exact mo5 hM_q | exact mo9 hM_q | exact mo10 hM_q | exact mo11 hM_q | exact mo12 hM_q | exact mo13 hM_q | exact mo14 hM_q | exact mo15 hM_q | exact mo16 hM_q) (by rfl) ?_
        refine go_if_le (tgt := 48) (pc := 43) dX8_dry_43 (by decide) (fun h_43 => by exfalso; exact absurd (show (2 : Int32) ≤ 0 from h_43) (by decide)) (fun h_43 => ?_)
        refine go_lconst (v := 0) (pc := 46) dX8_dry_46 rfl ?_
        exact go_lretI (pc := 47) rfl dX8_dry_47 (Nat.le_of_ble_eq_true rfl) (Nat.le_of_ble_eq_true rfl) ⟨(by simp [aDry, aDryT, hp_q, hz_q, hw_q]), rfl, _, _, hM_q, ⟨(by simp [upd, aDry, aDryT, hp_q, hz_q, hw_q]), fun j h1_q h2_q h3_q => by simp [upd, h1_q, h2_q, h3_q]⟩, (by repeat (first | assumption | exact eqx.rf | refine eqx.up ?_ (by decide))), hf_q⟩
      | some x2_q =>
        have hw1 := rN_some hw_q
        obtain rfl := I_nat hw1.1 (by omega)
        refine go_aload_n (pc := 0) dX8_dry_0 rfl ?_
        refine go_aload_n (pc := 1) dX8_dry_1 rfl ?_
        refine go_iload_n (pc := 2) dX8_dry_2 rfl ?_
        refine go_i2l (pc := 3) dX8_dry_3 ?_
        refine go_V1P (pc := 4) v_X8_310 rfl rfl (rcv_of (ci := 8) (by first | exact mo0 hM_q | exact mo1 hM_q | exact mo6 hM_q | exact mo7 hM_q | exact mo8 hM_q | exact mo2 hM_q | exact mo3 hM_q | exact mo4 hM_q | exact mo5 hM_q | exact mo9 hM_q | exact mo10 hM_q | exact mo11 hM_q | exact mo12 hM_q | exact mo13 hM_q | exact mo14 hM_q | exact mo15 hM_q | exact mo16 hM_q) rfl) dX8_dry_4 (sp_isPerson (k := k - 1) hM_q (by omega) _) ?_
        refine go_if_ne (tgt := 14) (pc := 7) dX8_dry_7 (by decide) (fun h_7 => ?_) (fun h_7 => by exfalso; rw [pi_yes hB_q.1.1 (by omega) hp_q] at h_7; exact absurd h_7 (by decide))
        refine go_iload_n (pc := 14) dX8_dry_14 rfl ?_
        refine go_S1P (pc := 15) s_X8_446 rfl rfl dX8_dry_15 (sp_isDryLong (k := k - 1) (by omega) _) ?_
        refine go_if_eq (tgt := 35) (pc := 18) dX8_dry_18 (by decide) (fun h_18 => by exfalso; rw [wi_yes hz_q (by decide) (by decide)] at h_18; exact absurd h_18 (by decide)) (fun h_18 => ?_)
        refine go_iload_n (pc := 21) dX8_dry_21 rfl ?_
        refine go_i2l (pc := 22) dX8_dry_22 ?_
        refine go_lconst (v := 0) (pc := 23) dX8_dry_23 rfl ?_
        refine go_lconst (v := 1) (pc := 24) dX8_dry_24 rfl ?_
        refine go_S3P (pc := 25) s_X8_125 rfl rfl dX8_dry_25 (sp_within (k := k - 1) _ _ _) ?_
        refine go_if_eq (tgt := 35) (pc := 28) dX8_dry_28 (by decide) (fun h_28 => by exfalso; rw [wi_yes hw_q (by decide) (by decide)] at h_28; exact absurd h_28 (by decide)) (fun h_28 => ?_)
        refine go_iconst (v := 0) (pc := 31) dX8_dry_31 (by decide) ?_
        refine go_goto (tgt := 36) (pc := 32) dX8_dry_32 (by decide) ?_
        refine go_mpf4 (pc := 36) hM_q dX8_dry_36 (fun σ hM_q hf9 => ?_)
        have hf_q := hf_q.tr hf9
        refine go_aload_n (pc := 39) dX8_dry_39 rfl ?_
        refine go_getf (pc := 40) f_X8_64 dX8_dry_40 (by first | exact mo0 hM_q | exact mo1 hM_q | exact mo6 hM_q | exact mo7 hM_q | exact mo8 hM_q | exact mo2 hM_q | exact mo3 hM_q | exact mo4 hM_q | exact mo5 hM_q | exact mo9 hM_q | exact mo10 hM_q | exact mo11 hM_q | exact mo12 hM_q | exact mo13 hM_q | exact mo14 hM_q | exact mo15 hM_q | exact mo16 hM_q) (by rfl) ?_
        refine go_if_le (tgt := 48) (pc := 43) dX8_dry_43 (by decide) (fun h_43 => ?_) (fun h_43 => by exfalso; exact h_43 (show (0 : Int32) ≤ 0 from by decide))
        refine go_lconst (v := 1) (pc := 48) dX8_dry_48 rfl ?_
        refine go_lstore (lw := [_, _, _, _, _, _, _, _, _, _]) (pc := 49) dX8_dry_49 (by decide) rfl ?_
        refine go_iconst (v := 0) (pc := 51) dX8_dry_51 (by decide) ?_
        refine go_istore (lw := [_, _, _, _, _, _, _, _, _, _]) (pc := 52) dX8_dry_52 (by decide) rfl ?_
        refine go_iter (x1_q) (fun i_q lv9 s9 n9 => ∃ (v9 : Int64), ∃ A9_q, lv9 = [some (.ref r), some (.int (nI j1_q)), some (.int (nI x1_q)), some (.int (nI x2_q)), some (.long v9), none, some (.int (nI i_q)), none, none, none] ∧ (MoAt Γ s9 r (upd F 4 0) K A9_q Nm) ∧ (eqx [6, 7, 8, 9, 10, 11, 12, 13] A A9_q) ∧ (fr r (r + 16) z0 s9) ∧ (tenF (x1_q - i_q) v9 = tenF x1_q 1) ∧ n = n9) ⟨1, _, rfl, hM_q, hA_q, hf_q, rfl, rfl⟩ ?_ ?_
        · rintro i_q lv9 σ n9 hi_q ⟨v9, A9_q, rfl, hM_q, hA_q, hf_q, hR_q, rfl⟩ ih_q
          refine go_iload (pc := 54) dX8_dry_54 rfl ?_
          refine go_iload_n (pc := 56) dX8_dry_56 rfl ?_
          refine go_icmp_ge (tgt := 74) (pc := 57) dX8_dry_57 (by decide) (fun h_57 => by exfalso; exact absurd h_57 (nI_ge (by omega) (by omega))) (fun h_57 => ?_)
          refine go_lload (pc := 60) dX8_dry_60 rfl ?_
          refine go_ldc2 (pc := 62) kw7_211 dX8_dry_62 ?_
          refine go_lmul (pc := 65) dX8_dry_65 ?_
          refine go_lstore (lw := [_, _, _, _, _, _, _, _, _, _]) (pc := 66) dX8_dry_66 (by decide) rfl ?_
          refine go_iinc (v := 1) (lw := [_, _, _, _, _, _, _, _, _, _]) (pc := 68) dX8_dry_68 rfl (by decide) (by decide) rfl ?_
          refine go_goto (tgt := 54) (pc := 71) dX8_dry_71 (by decide) ?_
          rw [nI_1]
          exact ih_q _ _ _ ⟨_, _, rfl, hM_q, hA_q, hf_q, (by rw [← hR_q, tenF_step hi_q]), rfl⟩
        · rintro lv9 σ n9 ⟨v9, A9_q, rfl, hM_q, hA_q, hf_q, hR_q, rfl⟩
          refine go_iload (pc := 54) dX8_dry_54 rfl ?_
          refine go_iload_n (pc := 56) dX8_dry_56 rfl ?_
          refine go_icmp_ge (tgt := 74) (pc := 57) dX8_dry_57 (by decide) (fun h_57 => ?_) (fun h_57 => by exfalso; exact h_57 (nI_le (by omega) (by omega)))
          obtain ⟨c9_q, hc9, ec9⟩ := dryF_nat (p := j1_q) (m := x1_q) (K := K) (v := 1) (a := 1) (b := 0) rfl (by decide) (by omega)
          rw [Nat.zero_add] at hc9
          have hten : 10 ^ x1_q ≤ 10 ^ 15 := Nat.pow_le_pow_right (by omega) (by omega)
          have hten0 : 0 < 10 ^ x1_q := Nat.pow_pos (by omega)
          have ht_q : aDryT K (nI j1_q).toInt (nI x1_q).toInt (nI x2_q).toInt = 0 := by simp only [aDryT, hp_q, hz_q, hw_q]
          have ec9 : dryN j1_q x1_q K = lN c9_q := ec9
          have han : aDry K (nI j1_q).toInt (nI x1_q).toInt (nI x2_q).toInt = (0, if x2_q = 0 then lN c9_q / lN (Nat.gcd (10 ^ x1_q) c9_q) else lN (10 ^ x1_q) / lN (Nat.gcd (10 ^ x1_q) c9_q)) := by
            rw [aDry, ht_q, hp1.1, hz1.1, hw1.1]
            show ((0 : Int32), if (x2_q : Int) = 0 then dryN j1_q x1_q K / lN (Nat.gcd (10 ^ x1_q) (dryN j1_q x1_q K).toInt.toNat) else tenF x1_q 1 / lN (Nat.gcd (10 ^ x1_q) (dryN j1_q x1_q K).toInt.toNat)) = _
            rw [ec9, pk_lT (p15 (Nat.le_trans hc9 hten)), ten1]
            by_cases e_q : x2_q = 0
            · rw [if_pos e_q, if_pos (by omega)]; rfl
            · rw [if_neg e_q, if_neg (by omega)]; rfl
          have ev : v9 = lN (10 ^ x1_q) := by
            rw [Nat.sub_self] at hR_q
            rw [show v9 = tenF x1_q 1 from hR_q, ten1]
          subst ev
          refine go_aload_n (pc := 74) dX8_dry_74 rfl ?_
          refine go_iload_n (pc := 75) dX8_dry_75 rfl ?_
          refine go_iload_n (pc := 76) dX8_dry_76 rfl ?_
          refine go_V2L (pc := 77) v_X8_449 rfl rfl (rcv_of (ci := 8) (by first | exact mo0 hM_q | exact mo1 hM_q | exact mo6 hM_q | exact mo7 hM_q | exact mo8 hM_q | exact mo2 hM_q | exact mo3 hM_q | exact mo4 hM_q | exact mo5 hM_q | exact mo9 hM_q | exact mo10 hM_q | exact mo11 hM_q | exact mo12 hM_q | exact mo13 hM_q | exact mo14 hM_q | exact mo15 hM_q | exact mo16 hM_q) rfl) dX8_dry_77 (sp_dryNow (k := k - 1) hM_q (by omega) hB_q hv_q (by omega) (by omega)) (fun v_77 σ n h_q => ?_)
          obtain ⟨rfl, rfl, A1, hM_q, hA1, hf1⟩ := h_q
          have hA_q := eqx.tr (A := A) (L := [6, 7, 8, 9, 10, 11, 12, 13]) (by repeat (first | assumption | exact eqx.rf | refine eqx.up ?_ (by decide))) (hA1.wk (by decide))
          have hf_q := hf_q.tr hf1
          rw [ec9]
          refine go_lstore (lw := [_, _, _, _, _, _, _, _, _, _]) (pc := 80) dX8_dry_80 (by decide) rfl ?_
          refine go_lload (pc := 82) dX8_dry_82 rfl ?_
          refine go_lload (pc := 84) dX8_dry_84 rfl ?_
          refine go_S2PL (pc := 86) s_X8_452 rfl rfl dX8_dry_86 (sp_common (k := k - 1) (p15 hten) (p15 (Nat.le_trans hc9 hten))) ?_
          refine go_lstore (lw := [_, _, _, _, _, _, _, _, _, _]) (pc := 89) dX8_dry_89 (by decide) rfl ?_
          refine go_iload_n (pc := 91) dX8_dry_91 rfl ?_
          refine go_if_ne (tgt := 103) (pc := 92) dX8_dry_92 (by decide) (fun h_92 => ?_) (fun h_92 => ?_)
          · refine go_lload (pc := 103) dX8_dry_103 rfl ?_
            refine go_lload (pc := 105) dX8_dry_105 rfl ?_
            refine go_ldiv (pc := 107) dX8_dry_107 (gcd_ne hten0 hten) ?_
            exact go_lretI (pc := 108) rfl dX8_dry_108 (Nat.le_of_ble_eq_true rfl) (Nat.le_of_ble_eq_true rfl) ⟨(by rw [han]; first | exact (if_neg (fun hc_q => h_92 (by rw [hc_q]; rfl))).symm | exact (if_pos ((nI_eq (b := 0) (by omega) (by decide)).mp h_92)).symm), rfl, _, _, hM_q, ⟨(by rw [han]; rfl), fun j h1_q h2_q h3_q => by simp [upd, h1_q, h2_q, h3_q]⟩, (by repeat (first | assumption | exact eqx.rf | refine eqx.up ?_ (by decide))), hf_q⟩
          · refine go_lload (pc := 95) dX8_dry_95 rfl ?_
            refine go_lload (pc := 97) dX8_dry_97 rfl ?_
            refine go_ldiv (pc := 99) dX8_dry_99 (gcd_ne hten0 hten) ?_
            refine go_goto (tgt := 108) (pc := 100) dX8_dry_100 (by decide) ?_
            exact go_lretI (pc := 108) rfl dX8_dry_108 (Nat.le_of_ble_eq_true rfl) (Nat.le_of_ble_eq_true rfl) ⟨(by rw [han]; first | exact (if_neg (fun hc_q => h_92 (by rw [hc_q]; rfl))).symm | exact (if_pos ((nI_eq (b := 0) (by omega) (by decide)).mp h_92)).symm), rfl, _, _, hM_q, ⟨(by rw [han]; rfl), fun j h1_q h2_q h3_q => by simp [upd, h1_q, h2_q, h3_q]⟩, (by repeat (first | assumption | exact eqx.rf | refine eqx.up ?_ (by decide))), hf_q⟩
theorem sp_driest {Γ : gam} {z0 : sto} {n k r : Nat} {F K : row} {A : Nat → row} {Nm : Nat → Int64} (hM_q : MoAt Γ z0 r F K A Nm) (hk : 14 ≤ k) (hB_q : okB K) (hv_q : vS K) (z : Int32) : Sp Γ (rmk k 0 0) uX8_driest [.ref r, .int z] z0 n (qI fun v σ' n' => v = (aDriest K z.toInt).2 ∧ apJ Γ r F K A Nm z0 n (aDriest K z.toInt).1 σ' n') := by
  have hP8 := hB_q.1.2.1
  have hH5 := hB_q.1.2.2.2.1
  have hW4 := hB_q.1.2.2.2.2.2
  have hA_q : eqx [6, 7, 8, 9, 10, 11, 12, 13] A A := eqx.rf
  have hf_q : fr r (r + 16) z0 z0 := fr.rf
  refine sp_intro [some (.ref r), some (.int z), none, none, none, none, none, none] (by decide +kernel) rfl (Nat.le_of_ble_eq_true rfl) rfl ?_
  cases hz_q : rN 0 16 z.toInt with
  | none =>
    refine go_aload_n (pc := 0) dX8_driest_0 rfl ?_
    refine go_iconst (v := 0) (pc := 1) dX8_driest_1 (by decide) ?_
    refine go_mpf4 (pc := 2) hM_q dX8_driest_2 (fun σ hM_q hf9 => ?_)
    have hf_q := hf_q.tr hf9
    refine go_iload_n (pc := 5) dX8_driest_5 rfl ?_
    refine go_S1P (pc := 6) s_X8_446 rfl rfl dX8_driest_6 (sp_isDryLong (k := k - 1) (by omega) _) ?_
    refine go_if_ne (tgt := 18) (pc := 9) dX8_driest_9 (by decide) (fun h_9 => by exfalso; exact h_9 (wi_no hz_q (by decide) (by decide))) (fun h_9 => ?_)
    refine go_aload_n (pc := 12) dX8_driest_12 rfl ?_
    refine go_iconst (v := 1) (pc := 13) dX8_driest_13 (by decide) ?_
    refine go_V1I (pc := 14) v_X8_231 rfl rfl (rcv_of (ci := 8) (by first | exact mo0 hM_q | exact mo1 hM_q | exact mo6 hM_q | exact mo7 hM_q | exact mo8 hM_q | exact mo2 hM_q | exact mo3 hM_q | exact mo4 hM_q | exact mo5 hM_q | exact mo9 hM_q | exact mo10 hM_q | exact mo11 hM_q | exact mo12 hM_q | exact mo13 hM_q | exact mo14 hM_q | exact mo15 hM_q | exact mo16 hM_q) rfl) dX8_driest_14 (sp_fails (k := k - 1) hM_q _) (fun v_14 σ n h_q => ?_)
    obtain ⟨rfl, rfl, A1, hM_q, hA1, hf1⟩ := h_q
    have hA_q := eqx.tr (A := A) (L := [6, 7, 8, 9, 10, 11, 12, 13]) (by repeat (first | assumption | exact eqx.rf | refine eqx.up ?_ (by decide))) (hA1.wk (by decide))
    have hf_q := hf_q.tr hf1
    exact go_iretI (pc := 17) rfl dX8_driest_17 (Nat.le_of_ble_eq_true rfl) (Nat.le_of_ble_eq_true rfl) ⟨(by simp [aDriest, hz_q]), rfl, _, _, hM_q, ⟨(by simp [upd, aDriest, hz_q]), fun j h1_q h2_q h3_q => by simp [upd, h1_q, h2_q, h3_q]⟩, (by repeat (first | assumption | exact eqx.rf | refine eqx.up ?_ (by decide))), hf_q⟩
  | some j1_q =>
    have hz1 := rN_some hz_q
    obtain rfl := I_nat hz1.1 (by omega)
    refine go_aload_n (pc := 0) dX8_driest_0 rfl ?_
    refine go_iconst (v := 0) (pc := 1) dX8_driest_1 (by decide) ?_
    refine go_mpf4 (pc := 2) hM_q dX8_driest_2 (fun σ hM_q hf9 => ?_)
    have hf_q := hf_q.tr hf9
    refine go_iload_n (pc := 5) dX8_driest_5 rfl ?_
    refine go_S1P (pc := 6) s_X8_446 rfl rfl dX8_driest_6 (sp_isDryLong (k := k - 1) (by omega) _) ?_
    refine go_if_ne (tgt := 18) (pc := 9) dX8_driest_9 (by decide) (fun h_9 => ?_) (fun h_9 => by exfalso; rw [wi_yes hz_q (by decide) (by decide)] at h_9; exact absurd h_9 (by decide))
    refine go_iconst (v := -1) (pc := 18) dX8_driest_18 (by decide) ?_
    refine go_istore_n (lw := [_, _, _, _, _, _, _, _]) (pc := 19) dX8_driest_19 (by decide) rfl ?_
    refine go_ldc2 (pc := 20) kw7_232 dX8_driest_20 ?_
    refine go_lstore_n (lw := [_, _, _, _, _, _, _, _]) (pc := 23) dX8_driest_23 (by decide) rfl ?_
    refine go_iconst (v := 0) (pc := 24) dX8_driest_24 (by decide) ?_
    refine go_istore (lw := [_, _, _, _, _, _, _, _]) (pc := 25) dX8_driest_25 (by decide) rfl ?_
    refine go_iter (kP K) (fun i_q lv9 s9 n9 => ∃ (b9_q : Int32), ∃ (x9_q : Int64), ∃ x6_q, ∃ A9_q, lv9 = [some (.ref r), some (.int (nI j1_q)), some (.int b9_q), some (.long x9_q), none, some (.int (nI i_q)), x6_q, none] ∧ (MoAt Γ s9 r (upd F 4 0) K A9_q Nm) ∧ (eqx [6, 7, 8, 9, 10, 11, 12, 13] A A9_q) ∧ (fr r (r + 16) z0 s9) ∧ (argL (fun p => some (dryN p j1_q K)) (kP K - i_q) i_q b9_q x9_q = argL (fun p => some (dryN p j1_q K)) (kP K) 0 (-1) (-1)) ∧ n = n9) ⟨(-1), (-1), none, _, rfl, hM_q, hA_q, hf_q, rfl, rfl⟩ ?_ ?_
    · rintro i_q lv9 σ n9 hi_q ⟨b9_q, x9_q, x6_q, A9_q, rfl, hM_q, hA_q, hf_q, hR_q, rfl⟩ ih_q
      refine go_iload (pc := 27) dX8_driest_27 rfl ?_
      refine go_aload_n (pc := 29) dX8_driest_29 rfl ?_
      refine go_V0P (pc := 30) v_X8_242 rfl rfl (rcv_of (ci := 8) (by first | exact mo0 hM_q | exact mo1 hM_q | exact mo6 hM_q | exact mo7 hM_q | exact mo8 hM_q | exact mo2 hM_q | exact mo3 hM_q | exact mo4 hM_q | exact mo5 hM_q | exact mo9 hM_q | exact mo10 hM_q | exact mo11 hM_q | exact mo12 hM_q | exact mo13 hM_q | exact mo14 hM_q | exact mo15 hM_q | exact mo16 hM_q) rfl) dX8_driest_30 (sp_people (k := k - 1) hM_q) ?_
      rw [hB_q.1.1]
      refine go_icmp_ge (tgt := 67) (pc := 33) dX8_driest_33 (by decide) (fun h_33 => by exfalso; exact absurd h_33 (nI_ge (by omega) (by omega))) (fun h_33 => ?_)
      refine go_aload_n (pc := 36) dX8_driest_36 rfl ?_
      refine go_iload (pc := 37) dX8_driest_37 rfl ?_
      refine go_iload_n (pc := 39) dX8_driest_39 rfl ?_
      refine go_V2L (pc := 40) v_X8_449 rfl rfl (rcv_of (ci := 8) (by first | exact mo0 hM_q | exact mo1 hM_q | exact mo6 hM_q | exact mo7 hM_q | exact mo8 hM_q | exact mo2 hM_q | exact mo3 hM_q | exact mo4 hM_q | exact mo5 hM_q | exact mo9 hM_q | exact mo10 hM_q | exact mo11 hM_q | exact mo12 hM_q | exact mo13 hM_q | exact mo14 hM_q | exact mo15 hM_q | exact mo16 hM_q) rfl) dX8_driest_40 (sp_dryNow (k := k - 1) hM_q (by omega) hB_q hv_q (by omega) (by omega)) (fun v_40 σ n h_q => ?_)
      obtain ⟨rfl, rfl, A1, hM_q, hA1, hf1⟩ := h_q
      have hA_q := eqx.tr (A := A) (L := [6, 7, 8, 9, 10, 11, 12, 13]) (by repeat (first | assumption | exact eqx.rf | refine eqx.up ?_ (by decide))) (hA1.wk (by decide))
      have hf_q := hf_q.tr hf1
      refine go_lstore (lw := [_, _, _, _, _, _, _, _]) (pc := 43) dX8_driest_43 (by decide) rfl ?_
      refine go_lload (pc := 45) dX8_driest_45 rfl ?_
      refine go_lload_n (pc := 47) dX8_driest_47 rfl ?_
      refine go_lcmp (pc := 48) dX8_driest_48 ?_
      refine go_if_gt (tgt := 55) (pc := 49) dX8_driest_49 (by decide) (fun h_49 => ?_) (fun h_49 => ?_)
      · refine go_iload (pc := 55) dX8_driest_55 rfl ?_
        refine go_istore_n (lw := [_, _, _, _, _, _, _, _]) (pc := 57) dX8_driest_57 (by decide) rfl ?_
        refine go_lload (pc := 58) dX8_driest_58 rfl ?_
        refine go_lstore_n (lw := [_, _, _, _, _, _, _, _]) (pc := 60) dX8_driest_60 (by decide) rfl ?_
        refine go_iinc (v := 1) (lw := [_, _, _, _, _, _, _, _]) (pc := 61) dX8_driest_61 rfl (by decide) (by decide) rfl ?_
        refine go_goto (tgt := 27) (pc := 64) dX8_driest_64 (by decide) ?_
        rw [nI_1]
        first
          | exact ih_q _ _ _ ⟨_, _, _, _, rfl, hM_q, hA_q, hf_q, (by rw [← hR_q, argL_dn hi_q rfl (fun hc_q => h_49 ((lg_cmp_gt _ _).mpr hc_q))]), rfl⟩
          | exact ih_q _ _ _ ⟨_, _, _, _, rfl, hM_q, hA_q, hf_q, (by rw [← hR_q, argL_up hi_q rfl ((lg_cmp_gt _ _).mp h_49)]), rfl⟩
      · refine go_goto (tgt := 61) (pc := 52) dX8_driest_52 (by decide) ?_
        refine go_iinc (v := 1) (lw := [_, _, _, _, _, _, _, _]) (pc := 61) dX8_driest_61 rfl (by decide) (by decide) rfl ?_
        refine go_goto (tgt := 27) (pc := 64) dX8_driest_64 (by decide) ?_
        rw [nI_1]
        first
          | exact ih_q _ _ _ ⟨_, _, _, _, rfl, hM_q, hA_q, hf_q, (by rw [← hR_q, argL_dn hi_q rfl (fun hc_q => h_49 ((lg_cmp_gt _ _).mpr hc_q))]), rfl⟩
          | exact ih_q _ _ _ ⟨_, _, _, _, rfl, hM_q, hA_q, hf_q, (by rw [← hR_q, argL_up hi_q rfl ((lg_cmp_gt _ _).mp h_49)]), rfl⟩
    · rintro lv9 σ n9 ⟨b9_q, x9_q, x6_q, A9_q, rfl, hM_q, hA_q, hf_q, hR_q, rfl⟩
      refine go_iload (pc := 27) dX8_driest_27 rfl ?_
      refine go_aload_n (pc := 29) dX8_driest_29 rfl ?_
      refine go_V0P (pc := 30) v_X8_242 rfl rfl (rcv_of (ci := 8) (by first | exact mo0 hM_q | exact mo1 hM_q | exact mo6 hM_q | exact mo7 hM_q | exact mo8 hM_q | exact mo2 hM_q | exact mo3 hM_q | exact mo4 hM_q | exact mo5 hM_q | exact mo9 hM_q | exact mo10 hM_q | exact mo11 hM_q | exact mo12 hM_q | exact mo13 hM_q | exact mo14 hM_q | exact mo15 hM_q | exact mo16 hM_q) rfl) dX8_driest_30 (sp_people (k := k - 1) hM_q) ?_
      rw [hB_q.1.1]
      refine go_icmp_ge (tgt := 67) (pc := 33) dX8_driest_33 (by decide) (fun h_33 => ?_) (fun h_33 => by exfalso; exact h_33 (nI_le (by omega) (by omega)))
      refine go_iload_n (pc := 67) dX8_driest_67 rfl ?_
      exact go_iretI (pc := 68) rfl dX8_driest_68 (Nat.le_of_ble_eq_true rfl) (Nat.le_of_ble_eq_true rfl) ⟨(by simp only [aDriest, hz_q]; rw [← hR_q, Nat.sub_self]; rfl), rfl, _, _, hM_q, ⟨(by simp [upd, aDriest, hz_q]), fun j h1_q h2_q h3_q => by simp [upd, h1_q, h2_q, h3_q]⟩, (by repeat (first | assumption | exact eqx.rf | refine eqx.up ?_ (by decide))), hf_q⟩
theorem sp_where {Γ : gam} {z0 : sto} {n k r : Nat} {F K : row} {A : Nat → row} {Nm : Nat → Int64} (hM_q : MoAt Γ z0 r F K A Nm) (hk : 14 ≤ k) (hB_q : okB K) (hv_q : vS K) (p z : Int32) : Sp Γ (rmk k 0 0) uX8_where [.ref r, .int p, .int z] z0 n (qI fun v σ' n' => v = (aWhere K p.toInt z.toInt).2 ∧ apJ Γ r F K A Nm z0 n (aWhere K p.toInt z.toInt).1 σ' n') := by
  have hP8 := hB_q.1.2.1
  have hH5 := hB_q.1.2.2.2.1
  have hW4 := hB_q.1.2.2.2.2.2
  have hA_q : eqx [6, 7, 8, 9, 10, 11, 12, 13] A A := eqx.rf
  have hf_q : fr r (r + 16) z0 z0 := fr.rf
  refine sp_intro [some (.ref r), some (.int p), some (.int z), none, none, none, none, none, none] (by decide +kernel) rfl (Nat.le_of_ble_eq_true rfl) rfl ?_
  cases hp_q : pN (kP K) p.toInt with
  | none =>
    refine go_aload_n (pc := 0) dX8_where_0 rfl ?_
    refine go_aload_n (pc := 1) dX8_where_1 rfl ?_
    refine go_iload_n (pc := 2) dX8_where_2 rfl ?_
    refine go_i2l (pc := 3) dX8_where_3 ?_
    refine go_V1P (pc := 4) v_X8_310 rfl rfl (rcv_of (ci := 8) (by first | exact mo0 hM_q | exact mo1 hM_q | exact mo6 hM_q | exact mo7 hM_q | exact mo8 hM_q | exact mo2 hM_q | exact mo3 hM_q | exact mo4 hM_q | exact mo5 hM_q | exact mo9 hM_q | exact mo10 hM_q | exact mo11 hM_q | exact mo12 hM_q | exact mo13 hM_q | exact mo14 hM_q | exact mo15 hM_q | exact mo16 hM_q) rfl) dX8_where_4 (sp_isPerson (k := k - 1) hM_q (by omega) _) ?_
    refine go_if_ne (tgt := 14) (pc := 7) dX8_where_7 (by decide) (fun h_7 => by exfalso; exact h_7 (pi_no hB_q.1.1 (by omega) hp_q)) (fun h_7 => ?_)
    refine go_iconst (v := 1) (pc := 10) dX8_where_10 (by decide) ?_
    refine go_goto (tgt := 38) (pc := 11) dX8_where_11 (by decide) ?_
    refine go_mpf4 (pc := 38) hM_q dX8_where_38 (fun σ hM_q hf9 => ?_)
    have hf_q := hf_q.tr hf9
    refine go_aload_n (pc := 41) dX8_where_41 rfl ?_
    refine go_getf (pc := 42) f_X8_64 dX8_where_42 (by first | exact mo0 hM_q | exact mo1 hM_q | exact mo6 hM_q | exact mo7 hM_q | exact mo8 hM_q | exact mo2 hM_q | exact mo3 hM_q | exact mo4 hM_q | exact mo5 hM_q | exact mo9 hM_q | exact mo10 hM_q | exact mo11 hM_q | exact mo12 hM_q | exact mo13 hM_q | exact mo14 hM_q | exact mo15 hM_q | exact mo16 hM_q) (by rfl) ?_
    refine go_if_le (tgt := 50) (pc := 45) dX8_where_45 (by decide) (fun h_45 => by exfalso; exact absurd (show (1 : Int32) ≤ 0 from h_45) (by decide)) (fun h_45 => ?_)
    refine go_iconst (v := 0) (pc := 48) dX8_where_48 (by decide) ?_
    exact go_iretI (pc := 49) rfl dX8_where_49 (Nat.le_of_ble_eq_true rfl) (Nat.le_of_ble_eq_true rfl) ⟨(by simp [aWhere, aWhereT, hp_q]), rfl, _, _, hM_q, ⟨(by simp [upd, aWhere, aWhereT, hp_q]), fun j h1_q h2_q h3_q => by simp [upd, h1_q, h2_q, h3_q]⟩, (by repeat (first | assumption | exact eqx.rf | refine eqx.up ?_ (by decide))), hf_q⟩
  | some j1_q =>
    have hp1 := pN_some hp_q
    obtain rfl := I_nat hp1.1 (by omega)
    cases hz_q : rN 0 16 z.toInt with
    | none =>
      refine go_aload_n (pc := 0) dX8_where_0 rfl ?_
      refine go_aload_n (pc := 1) dX8_where_1 rfl ?_
      refine go_iload_n (pc := 2) dX8_where_2 rfl ?_
      refine go_i2l (pc := 3) dX8_where_3 ?_
      refine go_V1P (pc := 4) v_X8_310 rfl rfl (rcv_of (ci := 8) (by first | exact mo0 hM_q | exact mo1 hM_q | exact mo6 hM_q | exact mo7 hM_q | exact mo8 hM_q | exact mo2 hM_q | exact mo3 hM_q | exact mo4 hM_q | exact mo5 hM_q | exact mo9 hM_q | exact mo10 hM_q | exact mo11 hM_q | exact mo12 hM_q | exact mo13 hM_q | exact mo14 hM_q | exact mo15 hM_q | exact mo16 hM_q) rfl) dX8_where_4 (sp_isPerson (k := k - 1) hM_q (by omega) _) ?_
      refine go_if_ne (tgt := 14) (pc := 7) dX8_where_7 (by decide) (fun h_7 => ?_) (fun h_7 => by exfalso; rw [pi_yes hB_q.1.1 (by omega) hp_q] at h_7; exact absurd h_7 (by decide))
      refine go_iload_n (pc := 14) dX8_where_14 rfl ?_
      refine go_S1P (pc := 15) s_X8_446 rfl rfl dX8_where_15 (sp_isDryLong (k := k - 1) (by omega) _) ?_
      refine go_if_ne (tgt := 25) (pc := 18) dX8_where_18 (by decide) (fun h_18 => by exfalso; exact h_18 (wi_no hz_q (by decide) (by decide))) (fun h_18 => ?_)
      refine go_iconst (v := 2) (pc := 21) dX8_where_21 (by decide) ?_
      refine go_goto (tgt := 38) (pc := 22) dX8_where_22 (by decide) ?_
      refine go_mpf4 (pc := 38) hM_q dX8_where_38 (fun σ hM_q hf9 => ?_)
      have hf_q := hf_q.tr hf9
      refine go_aload_n (pc := 41) dX8_where_41 rfl ?_
      refine go_getf (pc := 42) f_X8_64 dX8_where_42 (by first | exact mo0 hM_q | exact mo1 hM_q | exact mo6 hM_q | exact mo7 hM_q | exact mo8 hM_q | exact mo2 hM_q | exact mo3 hM_q | exact mo4 hM_q | exact mo5 hM_q | exact mo9 hM_q | exact mo10 hM_q | exact mo11 hM_q | exact mo12 hM_q | exact mo13 hM_q | exact mo14 hM_q | exact mo15 hM_q | exact mo16 hM_q) (by rfl) ?_
      refine go_if_le (tgt := 50) (pc := 45) dX8_where_45 (by decide) (fun h_45 => by exfalso; exact absurd (show (2 : Int32) ≤ 0 from h_45) (by decide)) (fun h_45 => ?_)
      refine go_iconst (v := 0) (pc := 48) dX8_where_48 (by decide) ?_
      exact go_iretI (pc := 49) rfl dX8_where_49 (Nat.le_of_ble_eq_true rfl) (Nat.le_of_ble_eq_true rfl) ⟨(by simp [aWhere, aWhereT, hp_q, hz_q]), rfl, _, _, hM_q, ⟨(by simp [upd, aWhere, aWhereT, hp_q, hz_q]), fun j h1_q h2_q h3_q => by simp [upd, h1_q, h2_q, h3_q]⟩, (by repeat (first | assumption | exact eqx.rf | refine eqx.up ?_ (by decide))), hf_q⟩
    | some x1_q =>
      have hz1 := rN_some hz_q
      obtain rfl := I_nat hz1.1 (by omega)
      by_cases hu : K (16 + j1_q) = -1
      · refine go_aload_n (pc := 0) dX8_where_0 rfl ?_
        refine go_aload_n (pc := 1) dX8_where_1 rfl ?_
        refine go_iload_n (pc := 2) dX8_where_2 rfl ?_
        refine go_i2l (pc := 3) dX8_where_3 ?_
        refine go_V1P (pc := 4) v_X8_310 rfl rfl (rcv_of (ci := 8) (by first | exact mo0 hM_q | exact mo1 hM_q | exact mo6 hM_q | exact mo7 hM_q | exact mo8 hM_q | exact mo2 hM_q | exact mo3 hM_q | exact mo4 hM_q | exact mo5 hM_q | exact mo9 hM_q | exact mo10 hM_q | exact mo11 hM_q | exact mo12 hM_q | exact mo13 hM_q | exact mo14 hM_q | exact mo15 hM_q | exact mo16 hM_q) rfl) dX8_where_4 (sp_isPerson (k := k - 1) hM_q (by omega) _) ?_
        refine go_if_ne (tgt := 14) (pc := 7) dX8_where_7 (by decide) (fun h_7 => ?_) (fun h_7 => by exfalso; rw [pi_yes hB_q.1.1 (by omega) hp_q] at h_7; exact absurd h_7 (by decide))
        refine go_iload_n (pc := 14) dX8_where_14 rfl ?_
        refine go_S1P (pc := 15) s_X8_446 rfl rfl dX8_where_15 (sp_isDryLong (k := k - 1) (by omega) _) ?_
        refine go_if_ne (tgt := 25) (pc := 18) dX8_where_18 (by decide) (fun h_18 => ?_) (fun h_18 => by exfalso; rw [wi_yes hz_q (by decide) (by decide)] at h_18; exact absurd h_18 (by decide))
        refine go_aload_n (pc := 25) dX8_where_25 rfl ?_
        refine go_iload_n (pc := 26) dX8_where_26 rfl ?_
        refine go_V1P (pc := 27) v_X8_296 rfl rfl (rcv_of (ci := 8) (by first | exact mo0 hM_q | exact mo1 hM_q | exact mo6 hM_q | exact mo7 hM_q | exact mo8 hM_q | exact mo2 hM_q | exact mo3 hM_q | exact mo4 hM_q | exact mo5 hM_q | exact mo9 hM_q | exact mo10 hM_q | exact mo11 hM_q | exact mo12 hM_q | exact mo13 hM_q | exact mo14 hM_q | exact mo15 hM_q | exact mo16 hM_q) rfl) dX8_where_27 (sp_isUp (k := k - 1) hM_q (by omega)) ?_
        refine go_if_eq (tgt := 37) (pc := 30) dX8_where_30 (by decide) (fun h_30 => by exfalso; exact absurd hu (bI_0.mp h_30)) (fun h_30 => ?_)
        refine go_iconst (v := 0) (pc := 33) dX8_where_33 (by decide) ?_
        refine go_goto (tgt := 38) (pc := 34) dX8_where_34 (by decide) ?_
        refine go_mpf4 (pc := 38) hM_q dX8_where_38 (fun σ hM_q hf9 => ?_)
        have hf_q := hf_q.tr hf9
        refine go_aload_n (pc := 41) dX8_where_41 rfl ?_
        refine go_getf (pc := 42) f_X8_64 dX8_where_42 (by first | exact mo0 hM_q | exact mo1 hM_q | exact mo6 hM_q | exact mo7 hM_q | exact mo8 hM_q | exact mo2 hM_q | exact mo3 hM_q | exact mo4 hM_q | exact mo5 hM_q | exact mo9 hM_q | exact mo10 hM_q | exact mo11 hM_q | exact mo12 hM_q | exact mo13 hM_q | exact mo14 hM_q | exact mo15 hM_q | exact mo16 hM_q) (by rfl) ?_
        refine go_if_le (tgt := 50) (pc := 45) dX8_where_45 (by decide) (fun h_45 => ?_) (fun h_45 => by exfalso; exact h_45 (show (0 : Int32) ≤ 0 from by decide))
        have ht_q : aWhereT K (nI j1_q).toInt (nI x1_q).toInt = 0 := by simp only [aWhereT, hp_q, hz_q]; rw [if_pos hu]
        have han : aWhere K (nI j1_q).toInt (nI x1_q).toInt = (0, argL (fun c => if freeK K (nI c) = none then none else some (dryN j1_q x1_q (sitdK K j1_q (nI c)))) (kW K) 0 (-1) (-1)) := by rw [aWhere, ht_q, hp1.1, hz1.1]; rfl
        refine go_iconst (v := -1) (pc := 50) dX8_where_50 (by decide) ?_
        refine go_istore_n (lw := [_, _, _, _, _, _, _, _, _]) (pc := 51) dX8_where_51 (by decide) rfl ?_
        refine go_ldc2 (pc := 52) kw7_232 dX8_where_52 ?_
        refine go_lstore (lw := [_, _, _, _, _, _, _, _, _]) (pc := 55) dX8_where_55 (by decide) rfl ?_
        refine go_iconst (v := 0) (pc := 57) dX8_where_57 (by decide) ?_
        refine go_istore (lw := [_, _, _, _, _, _, _, _, _]) (pc := 58) dX8_where_58 (by decide) rfl ?_
        refine go_iter (kW K) (fun i_q lv9 s9 n9 => ∃ (b9_q : Int32), ∃ (x9_q : Int64), ∃ x7_q, ∃ A9_q, lv9 = [some (.ref r), some (.int (nI j1_q)), some (.int (nI x1_q)), some (.int b9_q), some (.long x9_q), none, some (.int (nI i_q)), x7_q, none] ∧ (MoAt Γ s9 r (upd F 4 0) K A9_q Nm) ∧ (eqx [6, 7, 8, 9, 10, 11, 12, 13] A A9_q) ∧ (fr r (r + 16) z0 s9) ∧ (argL (fun c => if freeK K (nI c) = none then none else some (dryN j1_q x1_q (sitdK K j1_q (nI c)))) (kW K - i_q) i_q b9_q x9_q = argL (fun c => if freeK K (nI c) = none then none else some (dryN j1_q x1_q (sitdK K j1_q (nI c)))) (kW K) 0 (-1) (-1)) ∧ n = n9) ⟨(-1), (-1), none, _, rfl, hM_q, hA_q, hf_q, rfl, rfl⟩ ?_ ?_
        · rintro i_q lv9 σ n9 hi_q ⟨b9_q, x9_q, x7_q, A9_q, rfl, hM_q, hA_q, hf_q, hR_q, rfl⟩ ih_q
          refine go_iload (pc := 60) dX8_where_60 rfl ?_
          refine go_aload_n (pc := 62) dX8_where_62 rfl ?_
          refine go_getf (pc := 63) f_X8_9 dX8_where_63 (by first | exact mo0 hM_q | exact mo1 hM_q | exact mo6 hM_q | exact mo7 hM_q | exact mo8 hM_q | exact mo2 hM_q | exact mo3 hM_q | exact mo4 hM_q | exact mo5 hM_q | exact mo9 hM_q | exact mo10 hM_q | exact mo11 hM_q | exact mo12 hM_q | exact mo13 hM_q | exact mo14 hM_q | exact mo15 hM_q | exact mo16 hM_q) (by rfl) ?_
          refine go_iconst (v := 1) (pc := 66) dX8_where_66 (by decide) ?_
          refine go_iald (j := 1) (pc := 67) dX8_where_67 (by first | exact mo0 hM_q | exact mo1 hM_q | exact mo6 hM_q | exact mo7 hM_q | exact mo8 hM_q | exact mo2 hM_q | exact mo3 hM_q | exact mo4 hM_q | exact mo5 hM_q | exact mo9 hM_q | exact mo10 hM_q | exact mo11 hM_q | exact mo12 hM_q | exact mo13 hM_q | exact mo14 hM_q | exact mo15 hM_q | exact mo16 hM_q) (by exact ⟨rfl, by decide⟩) ?_
          rw [hB_q.1.2.2.2.2.1]
          refine go_icmp_ge (tgt := 128) (pc := 68) dX8_where_68 (by decide) (fun h_68 => by exfalso; exact absurd h_68 (nI_ge (by omega) (by omega))) (fun h_68 => ?_)
          refine go_aload_n (pc := 71) dX8_where_71 rfl ?_
          refine go_iload (pc := 72) dX8_where_72 rfl ?_
          refine go_V1P (pc := 74) v_X8_293 rfl rfl (rcv_of (ci := 8) (by first | exact mo0 hM_q | exact mo1 hM_q | exact mo6 hM_q | exact mo7 hM_q | exact mo8 hM_q | exact mo2 hM_q | exact mo3 hM_q | exact mo4 hM_q | exact mo5 hM_q | exact mo9 hM_q | exact mo10 hM_q | exact mo11 hM_q | exact mo12 hM_q | exact mo13 hM_q | exact mo14 hM_q | exact mo15 hM_q | exact mo16 hM_q) rfl) dX8_where_74 (sp_lastFree (k := k - 1) hM_q (by omega) hB_q _) ?_
          refine go_iconst (v := -1) (pc := 77) dX8_where_77 (by decide) ?_
          refine go_icmp_ne (tgt := 84) (pc := 78) dX8_where_78 (by decide) (fun h_78 => ?_) (fun h_78 => ?_)
          · have hfi : (fun c => if freeK K (nI c) = none then none else some (dryN j1_q x1_q (sitdK K j1_q (nI c)))) i_q = some (dryN j1_q x1_q (sitdK K j1_q (nI i_q))) := if_neg (fun hc_q => h_78 ((freeK_none hH5).mpr hc_q))
            have hSs : sameB K (sitdK K j1_q (nI i_q)) := sitdK_same (by omega)
            refine go_aload_n (pc := 84) dX8_where_84 rfl ?_
            refine go_V0V (pc := 85) v_X8_369 rfl rfl (rcv_of (ci := 8) (by first | exact mo0 hM_q | exact mo1 hM_q | exact mo6 hM_q | exact mo7 hM_q | exact mo8 hM_q | exact mo2 hM_q | exact mo3 hM_q | exact mo4 hM_q | exact mo5 hM_q | exact mo9 hM_q | exact mo10 hM_q | exact mo11 hM_q | exact mo12 hM_q | exact mo13 hM_q | exact mo14 hM_q | exact mo15 hM_q | exact mo16 hM_q) rfl) dX8_where_85 (sp_putsAside (k := k - 1) hM_q) (fun σ n h_q => ?_)
            obtain ⟨rfl, A1, hM_q, hA1, hf1, hG_q⟩ := h_q
            have hA_q := eqx.tr (A := A) (L := [6, 7, 8, 9, 10, 11, 12, 13]) (by repeat (first | assumption | exact eqx.rf | refine eqx.up ?_ (by decide))) (hA1.wk (by decide))
            have hf_q := hf_q.tr hf1
            refine go_aload_n (pc := 88) dX8_where_88 rfl ?_
            refine go_iload_n (pc := 89) dX8_where_89 rfl ?_
            refine go_iload (pc := 90) dX8_where_90 rfl ?_
            refine go_V2I (pc := 92) v_X8_299 rfl rfl (rcv_of (ci := 8) (by first | exact mo0 hM_q | exact mo1 hM_q | exact mo6 hM_q | exact mo7 hM_q | exact mo8 hM_q | exact mo2 hM_q | exact mo3 hM_q | exact mo4 hM_q | exact mo5 hM_q | exact mo9 hM_q | exact mo10 hM_q | exact mo11 hM_q | exact mo12 hM_q | exact mo13 hM_q | exact mo14 hM_q | exact mo15 hM_q | exact mo16 hM_q) rfl) dX8_where_92 (sp_sitsDown (k := k - 1) hM_q (by omega) hB_q _ (by omega)) (fun v_92 σ n h_q => ?_)
            obtain ⟨rfl, rfl, A1, hM_q, hA1, hf1⟩ := h_q
            have hA_q := eqx.tr (A := A) (L := [6, 7, 8, 9, 10, 11, 12, 13]) (by repeat (first | assumption | exact eqx.rf | refine eqx.up ?_ (by decide))) (hA1.wk (by decide))
            have hf_q := hf_q.tr hf1
            have hG_q : ∀ j, j < 26 → A1 8 j = K (8 + j) := fun j hj_q => by rw [hA1 8 (by decide)]; exact hG_q j hj_q
            refine go_pop (pc := 95) dX8_where_95 rfl ?_
            refine go_aload_n (pc := 96) dX8_where_96 rfl ?_
            refine go_iload_n (pc := 97) dX8_where_97 rfl ?_
            refine go_iload_n (pc := 98) dX8_where_98 rfl ?_
            refine go_V2L (pc := 99) v_X8_442 rfl rfl (rcv_of (ci := 8) (by first | exact mo0 hM_q | exact mo1 hM_q | exact mo6 hM_q | exact mo7 hM_q | exact mo8 hM_q | exact mo2 hM_q | exact mo3 hM_q | exact mo4 hM_q | exact mo5 hM_q | exact mo9 hM_q | exact mo10 hM_q | exact mo11 hM_q | exact mo12 hM_q | exact mo13 hM_q | exact mo14 hM_q | exact mo15 hM_q | exact mo16 hM_q) rfl) dX8_where_99 (sp_dryFromHere (k := k - 1) hM_q (by omega) (hSs.okB hB_q) (vS_sitd hv_q hp1.2 hP8 hi_q) (by omega) (by omega) hSs hG_q) (fun v_99 σ n h_q => ?_)
            obtain ⟨rfl, rfl, A1, hM_q, hA1, hf1⟩ := h_q
            have hA_q := eqx.tr (A := A) (L := [6, 7, 8, 9, 10, 11, 12, 13]) (by repeat (first | assumption | exact eqx.rf | refine eqx.up ?_ (by decide))) (hA1.wk (by decide))
            have hf_q := hf_q.tr hf1
            refine go_lstore (lw := [_, _, _, _, _, _, _, _, _]) (pc := 102) dX8_where_102 (by decide) rfl ?_
            refine go_lload (pc := 104) dX8_where_104 rfl ?_
            refine go_lload (pc := 106) dX8_where_106 rfl ?_
            refine go_lcmp (pc := 108) dX8_where_108 ?_
            refine go_if_gt (tgt := 115) (pc := 109) dX8_where_109 (by decide) (fun h_109 => ?_) (fun h_109 => ?_)
            · refine go_iload (pc := 115) dX8_where_115 rfl ?_
              refine go_istore_n (lw := [_, _, _, _, _, _, _, _, _]) (pc := 117) dX8_where_117 (by decide) rfl ?_
              refine go_lload (pc := 118) dX8_where_118 rfl ?_
              refine go_lstore (lw := [_, _, _, _, _, _, _, _, _]) (pc := 120) dX8_where_120 (by decide) rfl ?_
              refine go_iinc (v := 1) (lw := [_, _, _, _, _, _, _, _, _]) (pc := 122) dX8_where_122 rfl (by decide) (by decide) rfl ?_
              refine go_goto (tgt := 60) (pc := 125) dX8_where_125 (by decide) ?_
              rw [nI_1]
              first
                | exact ih_q _ _ _ ⟨_, _, _, _, rfl, hM_q, hA_q, hf_q, (by rw [← hR_q, argL_no hi_q hfi]), rfl⟩
                | exact ih_q _ _ _ ⟨_, _, _, _, rfl, hM_q, hA_q, hf_q, (by rw [← hR_q, argL_dn hi_q hfi (fun hc_q => h_109 ((lg_cmp_gt _ _).mpr hc_q))]), rfl⟩
                | exact ih_q _ _ _ ⟨_, _, _, _, rfl, hM_q, hA_q, hf_q, (by rw [← hR_q, argL_up hi_q hfi ((lg_cmp_gt _ _).mp h_109)]), rfl⟩
            · refine go_goto (tgt := 122) (pc := 112) dX8_where_112 (by decide) ?_
              refine go_iinc (v := 1) (lw := [_, _, _, _, _, _, _, _, _]) (pc := 122) dX8_where_122 rfl (by decide) (by decide) rfl ?_
              refine go_goto (tgt := 60) (pc := 125) dX8_where_125 (by decide) ?_
              rw [nI_1]
              first
                | exact ih_q _ _ _ ⟨_, _, _, _, rfl, hM_q, hA_q, hf_q, (by rw [← hR_q, argL_no hi_q hfi]), rfl⟩
                | exact ih_q _ _ _ ⟨_, _, _, _, rfl, hM_q, hA_q, hf_q, (by rw [← hR_q, argL_dn hi_q hfi (fun hc_q => h_109 ((lg_cmp_gt _ _).mpr hc_q))]), rfl⟩
                | exact ih_q _ _ _ ⟨_, _, _, _, rfl, hM_q, hA_q, hf_q, (by rw [← hR_q, argL_up hi_q hfi ((lg_cmp_gt _ _).mp h_109)]), rfl⟩
          · have hfi : (fun c => if freeK K (nI c) = none then none else some (dryN j1_q x1_q (sitdK K j1_q (nI c)))) i_q = none := if_pos ((freeK_none hH5).mp h_78)
            refine go_goto (tgt := 122) (pc := 81) dX8_where_81 (by decide) ?_
            refine go_iinc (v := 1) (lw := [_, _, _, _, _, _, _, _, _]) (pc := 122) dX8_where_122 rfl (by decide) (by decide) rfl ?_
            refine go_goto (tgt := 60) (pc := 125) dX8_where_125 (by decide) ?_
            rw [nI_1]
            first
              | exact ih_q _ _ _ ⟨_, _, _, _, rfl, hM_q, hA_q, hf_q, (by rw [← hR_q, argL_no hi_q hfi]), rfl⟩
              | exact ih_q _ _ _ ⟨_, _, _, _, rfl, hM_q, hA_q, hf_q, (by rw [← hR_q, argL_dn hi_q hfi (fun hc_q => h_109 ((lg_cmp_gt _ _).mpr hc_q))]), rfl⟩
              | exact ih_q _ _ _ ⟨_, _, _, _, rfl, hM_q, hA_q, hf_q, (by rw [← hR_q, argL_up hi_q hfi ((lg_cmp_gt _ _).mp h_109)]), rfl⟩
        · rintro lv9 σ n9 ⟨b9_q, x9_q, x7_q, A9_q, rfl, hM_q, hA_q, hf_q, hR_q, rfl⟩
          refine go_iload (pc := 60) dX8_where_60 rfl ?_
          refine go_aload_n (pc := 62) dX8_where_62 rfl ?_
          refine go_getf (pc := 63) f_X8_9 dX8_where_63 (by first | exact mo0 hM_q | exact mo1 hM_q | exact mo6 hM_q | exact mo7 hM_q | exact mo8 hM_q | exact mo2 hM_q | exact mo3 hM_q | exact mo4 hM_q | exact mo5 hM_q | exact mo9 hM_q | exact mo10 hM_q | exact mo11 hM_q | exact mo12 hM_q | exact mo13 hM_q | exact mo14 hM_q | exact mo15 hM_q | exact mo16 hM_q) (by rfl) ?_
          refine go_iconst (v := 1) (pc := 66) dX8_where_66 (by decide) ?_
          refine go_iald (j := 1) (pc := 67) dX8_where_67 (by first | exact mo0 hM_q | exact mo1 hM_q | exact mo6 hM_q | exact mo7 hM_q | exact mo8 hM_q | exact mo2 hM_q | exact mo3 hM_q | exact mo4 hM_q | exact mo5 hM_q | exact mo9 hM_q | exact mo10 hM_q | exact mo11 hM_q | exact mo12 hM_q | exact mo13 hM_q | exact mo14 hM_q | exact mo15 hM_q | exact mo16 hM_q) (by exact ⟨rfl, by decide⟩) ?_
          rw [hB_q.1.2.2.2.2.1]
          refine go_icmp_ge (tgt := 128) (pc := 68) dX8_where_68 (by decide) (fun h_68 => ?_) (fun h_68 => by exfalso; exact h_68 (nI_le (by omega) (by omega)))
          refine go_iload_n (pc := 128) dX8_where_128 rfl ?_
          exact go_iretI (pc := 129) rfl dX8_where_129 (Nat.le_of_ble_eq_true rfl) (Nat.le_of_ble_eq_true rfl) ⟨(by rw [han, ← hR_q, Nat.sub_self]; rfl), rfl, _, _, hM_q, ⟨(by rw [han]; rfl), fun j h1_q h2_q h3_q => by simp [upd, h1_q, h2_q, h3_q]⟩, (by repeat (first | assumption | exact eqx.rf | refine eqx.up ?_ (by decide))), hf_q⟩
      · refine go_aload_n (pc := 0) dX8_where_0 rfl ?_
        refine go_aload_n (pc := 1) dX8_where_1 rfl ?_
        refine go_iload_n (pc := 2) dX8_where_2 rfl ?_
        refine go_i2l (pc := 3) dX8_where_3 ?_
        refine go_V1P (pc := 4) v_X8_310 rfl rfl (rcv_of (ci := 8) (by first | exact mo0 hM_q | exact mo1 hM_q | exact mo6 hM_q | exact mo7 hM_q | exact mo8 hM_q | exact mo2 hM_q | exact mo3 hM_q | exact mo4 hM_q | exact mo5 hM_q | exact mo9 hM_q | exact mo10 hM_q | exact mo11 hM_q | exact mo12 hM_q | exact mo13 hM_q | exact mo14 hM_q | exact mo15 hM_q | exact mo16 hM_q) rfl) dX8_where_4 (sp_isPerson (k := k - 1) hM_q (by omega) _) ?_
        refine go_if_ne (tgt := 14) (pc := 7) dX8_where_7 (by decide) (fun h_7 => ?_) (fun h_7 => by exfalso; rw [pi_yes hB_q.1.1 (by omega) hp_q] at h_7; exact absurd h_7 (by decide))
        refine go_iload_n (pc := 14) dX8_where_14 rfl ?_
        refine go_S1P (pc := 15) s_X8_446 rfl rfl dX8_where_15 (sp_isDryLong (k := k - 1) (by omega) _) ?_
        refine go_if_ne (tgt := 25) (pc := 18) dX8_where_18 (by decide) (fun h_18 => ?_) (fun h_18 => by exfalso; rw [wi_yes hz_q (by decide) (by decide)] at h_18; exact absurd h_18 (by decide))
        refine go_aload_n (pc := 25) dX8_where_25 rfl ?_
        refine go_iload_n (pc := 26) dX8_where_26 rfl ?_
        refine go_V1P (pc := 27) v_X8_296 rfl rfl (rcv_of (ci := 8) (by first | exact mo0 hM_q | exact mo1 hM_q | exact mo6 hM_q | exact mo7 hM_q | exact mo8 hM_q | exact mo2 hM_q | exact mo3 hM_q | exact mo4 hM_q | exact mo5 hM_q | exact mo9 hM_q | exact mo10 hM_q | exact mo11 hM_q | exact mo12 hM_q | exact mo13 hM_q | exact mo14 hM_q | exact mo15 hM_q | exact mo16 hM_q) rfl) dX8_where_27 (sp_isUp (k := k - 1) hM_q (by omega)) ?_
        refine go_if_eq (tgt := 37) (pc := 30) dX8_where_30 (by decide) (fun h_30 => ?_) (fun h_30 => by exfalso; exact h_30 (bI_0.mpr hu))
        refine go_iconst (v := 3) (pc := 37) dX8_where_37 (by decide) ?_
        refine go_mpf4 (pc := 38) hM_q dX8_where_38 (fun σ hM_q hf9 => ?_)
        have hf_q := hf_q.tr hf9
        refine go_aload_n (pc := 41) dX8_where_41 rfl ?_
        refine go_getf (pc := 42) f_X8_64 dX8_where_42 (by first | exact mo0 hM_q | exact mo1 hM_q | exact mo6 hM_q | exact mo7 hM_q | exact mo8 hM_q | exact mo2 hM_q | exact mo3 hM_q | exact mo4 hM_q | exact mo5 hM_q | exact mo9 hM_q | exact mo10 hM_q | exact mo11 hM_q | exact mo12 hM_q | exact mo13 hM_q | exact mo14 hM_q | exact mo15 hM_q | exact mo16 hM_q) (by rfl) ?_
        refine go_if_le (tgt := 50) (pc := 45) dX8_where_45 (by decide) (fun h_45 => by exfalso; exact absurd (show (3 : Int32) ≤ 0 from h_45) (by decide)) (fun h_45 => ?_)
        refine go_iconst (v := 0) (pc := 48) dX8_where_48 (by decide) ?_
        exact go_iretI (pc := 49) rfl dX8_where_49 (Nat.le_of_ble_eq_true rfl) (Nat.le_of_ble_eq_true rfl) ⟨(by simp [aWhere, aWhereT, hp_q, hz_q, hu]), rfl, _, _, hM_q, ⟨(by simp [upd, aWhere, aWhereT, hp_q, hz_q, hu]), fun j h1_q h2_q h3_q => by simp [upd, h1_q, h2_q, h3_q]⟩, (by repeat (first | assumption | exact eqx.rf | refine eqx.up ?_ (by decide))), hf_q⟩
