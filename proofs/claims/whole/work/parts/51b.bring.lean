/-! ===== the class: bring ===== -/
abbrev rbS (a dp q : Nat) : Prop := q = a + 5 ∨ (a + 94 + 5 * dp ≤ q ∧ q ≤ a + 113)
theorem h_pred {K : row} (hP : okP K) (h_q : 0 < kH K) : K 2 - 1 = nI (kH K - 1) := by
  obtain ⟨m, hm_q⟩ : ∃ m, kH K = m + 1 := ⟨kH K - 1, by omega⟩
  rw [hP.2.2.1, hm_q]
  exact nI_pred m
theorem pr_eq {m : Nat} {z : Int} : rN 0 m z = pN m z := by
  unfold rN pN
  simp
theorem bgA_0 {x : Option (List Nat)} : bgA x 0 = (match x with
    | none => -1
    | some l => nI l.length) := by
  cases x <;> rfl
theorem cp_rb {Γ : gam} {D : Nat} {ro : Nat → Nat} {n a b p : Nat} {w to : Int32} {ag pa pf G : row} {im : Nat → Option Nat} {lm lt lw : Value} (hD : a + 113 < D) (hsb : b = a + 10 ∨ a + 113 < b) : ∀ (m k dp mm : Nat) (K ch co rw bk f : row) (z0 : sto), CoAt Γ ro z0 a G im → SrAt Γ ro z0 (a + 89 + 5 * dp) b w (K 33) ch co rw bk → rS K ch co rw bk → BrAt Γ D ro z0 b K ag pa pf lm lt lw → (∀ j, dp < j → j < 5 → TrAt Γ ro z0 (a + 89 + 5 * j)) → z0 (a + 5) = some (cI Γ 5 f) → okB K → gS K → p < kP K → dp + m ≤ 4 → mm = dp + m → 8 + m ≤ k →
    Sp Γ (rmk k 0 0) uX7_risersBring [.ref a, .int (nI p), .int to, .int (nI dp), .int (nI mm)] z0 n (qI fun v σ' n' => v = bI ((brC p to m K).isSome = true) ∧ n' = n ∧ frS Γ ro (rbS a dp) z0 σ' ∧ (∀ j, dp < j → j < 5 → TrAt Γ ro σ' (a + 89 + 5 * j)) ∧ ∃ f', σ' (a + 5) = some (cI Γ 5 f') ∧ (∀ j, j < dp → f' j = f j) ∧ ∀ l, brC p to m K = some l → ∀ j, j < m → f' (dp + j) = nI (l.getD j 0)) := by
  intro m
  induction m with
  | zero =>
    intro k dp mm K ch co rw bk f z0 hC hT_q hr_q hQ9 hTr h5_q hB_q hg_q hp_q hdm emm hk
    have hP8 := hB_q.1.2.1
    have hC9 := hC
    refine sp_intro [some (.ref a), some (.int (nI p)), some (.int to), some (.int (nI dp)), some (.int (nI mm)), none, none, none] (by decide +kernel) rfl (Nat.le_of_ble_eq_true rfl) rfl ?_
    refine go_iload_n (pc := 0) dX7_risersBring_0 rfl ?_
    refine go_if_lt (tgt := 9) (pc := 1) dX7_risersBring_1 (by decide) (fun h_1 => by exfalso; exact absurd h_1 (nI_pos (by omega))) (fun h_1 => ?_)
    refine go_iload_n (pc := 4) dX7_risersBring_4 rfl ?_
    refine go_iconst (v := 5) (pc := 5) dX7_risersBring_5 (by decide) ?_
    refine go_icmp_lt (tgt := 11) (pc := 6) dX7_risersBring_6 (by decide) (fun h_6 => ?_) (fun h_6 => by exfalso; exact h_6 (nI_lt (b := 5) (by omega) (by decide)))
    refine go_aload_n (pc := 11) dX7_risersBring_11 rfl ?_
    refine go_getf (pc := 12) f_X7_37 dX7_risersBring_12 (by first | exact sr0 hT_q | exact co0 hC9 | exact co4 hC9 | exact be0 hQ9 | exact sr3 hT_q | exact sr2 hT_q | exact sr0 hT1 | exact h5_q) (by rfl) ?_
    refine go_iload_n (pc := 15) dX7_risersBring_15 rfl ?_
    refine go_aaload (pc := 16) dX7_risersBring_16 (by first | exact sr0 hT_q | exact co0 hC9 | exact co4 hC9 | exact be0 hQ9 | exact sr3 hT_q | exact sr2 hT_q | exact sr0 hT1 | exact h5_q) rfl (vp_in_nI (n := dp) (N := 5) (by omega) (by decide)) (show some (a + 89 + 5 * (nI (dp)).toNatClampNeg) = some (a + 89 + 5 * (dp)) from by rw [nI_clamp (by omega)]) ?_
    refine go_astore (lw := [_, _, _, _, _, _, _, _]) (pc := 17) dX7_risersBring_17 (by decide) rfl ?_
    refine go_iload_n (pc := 19) dX7_risersBring_19 rfl ?_
    refine go_iload (pc := 20) dX7_risersBring_20 rfl ?_
    refine go_icmp_eq (tgt := 32) (pc := 22) dX7_risersBring_22 (by decide) (fun h_22 => ?_) (fun h_22 => by exfalso; exact h_22 (by rw [emm]; rfl))
    refine go_aload (pc := 32) dX7_risersBring_32 rfl ?_
    refine go_getf (pc := 34) f_X7_141 dX7_risersBring_34 (by first | exact sr0 hT_q | exact co0 hC9 | exact co4 hC9 | exact be0 hQ9 | exact sr3 hT_q | exact sr2 hT_q | exact sr0 hT1 | exact h5_q) (by rfl) ?_
    refine go_iload_n (pc := 37) dX7_risersBring_37 rfl ?_
    refine go_iald (pc := 38) dX7_risersBring_38 (by first | exact sr0 hT_q | exact co0 hC9 | exact co4 hC9 | exact be0 hQ9 | exact sr3 hT_q | exact sr2 hT_q | exact sr0 hT1 | exact h5_q) (by exact ⟨rfl, by omega⟩) ?_
    rw [(hr_q.1 p hp_q).2.1]
    refine go_iload_n (pc := 39) dX7_risersBring_39 rfl ?_
    refine go_icmp_gt (tgt := 47) (pc := 40) dX7_risersBring_40 (by decide) (fun h_40 => ?_) (fun h_40 => ?_)
    · refine go_iconst (v := 0) (pc := 47) dX7_risersBring_47 (by decide) ?_
      exact go_zretI (pc := 48) rfl (by first | rfl | exact nb_bI) dX7_risersBring_48 (Nat.le_of_ble_eq_true rfl) (Nat.le_of_ble_eq_true rfl) ⟨(by first | exact (bI_f (by simp only [brC]; rw [if_neg (Int32.not_le.mpr h_40)]; simp)).symm | exact (bI_t (by simp only [brC]; rw [if_pos (Int32.not_lt.mp h_40)]; rfl)).symm), rfl, frS.rf, hTr, _, h5_q, (fun j _ => rfl), (fun l _ j hj_q => absurd hj_q (by omega))⟩
    · refine go_iconst (v := 1) (pc := 43) dX7_risersBring_43 (by decide) ?_
      refine go_goto (tgt := 48) (pc := 44) dX7_risersBring_44 (by decide) ?_
      exact go_zretI (pc := 48) rfl (by first | rfl | exact nb_bI) dX7_risersBring_48 (Nat.le_of_ble_eq_true rfl) (Nat.le_of_ble_eq_true rfl) ⟨(by first | exact (bI_f (by simp only [brC]; rw [if_neg (Int32.not_le.mpr h_40)]; simp)).symm | exact (bI_t (by simp only [brC]; rw [if_pos (Int32.not_lt.mp h_40)]; rfl)).symm), rfl, frS.rf, hTr, _, h5_q, (fun j _ => rfl), (fun l _ j hj_q => absurd hj_q (by omega))⟩
  | succ m ihm =>
    intro k dp mm K ch co rw bk f z0 hC hT_q hr_q hQ9 hTr h5_q hB_q hg_q hp_q hdm emm hk
    have hP8 := hB_q.1.2.1
    have hH5 := hB_q.1.2.2.2.1
    have hC9 := hC
    refine sp_intro [some (.ref a), some (.int (nI p)), some (.int to), some (.int (nI dp)), some (.int (nI mm)), none, none, none] (by decide +kernel) rfl (Nat.le_of_ble_eq_true rfl) rfl ?_
    refine go_iload_n (pc := 0) dX7_risersBring_0 rfl ?_
    refine go_if_lt (tgt := 9) (pc := 1) dX7_risersBring_1 (by decide) (fun h_1 => by exfalso; exact absurd h_1 (nI_pos (by omega))) (fun h_1 => ?_)
    refine go_iload_n (pc := 4) dX7_risersBring_4 rfl ?_
    refine go_iconst (v := 5) (pc := 5) dX7_risersBring_5 (by decide) ?_
    refine go_icmp_lt (tgt := 11) (pc := 6) dX7_risersBring_6 (by decide) (fun h_6 => ?_) (fun h_6 => by exfalso; exact h_6 (nI_lt (b := 5) (by omega) (by decide)))
    refine go_aload_n (pc := 11) dX7_risersBring_11 rfl ?_
    refine go_getf (pc := 12) f_X7_37 dX7_risersBring_12 (by first | exact sr0 hT_q | exact co0 hC9 | exact co4 hC9 | exact be0 hQ9 | exact sr3 hT_q | exact sr2 hT_q | exact sr0 hT1 | exact h5_q) (by rfl) ?_
    refine go_iload_n (pc := 15) dX7_risersBring_15 rfl ?_
    refine go_aaload (pc := 16) dX7_risersBring_16 (by first | exact sr0 hT_q | exact co0 hC9 | exact co4 hC9 | exact be0 hQ9 | exact sr3 hT_q | exact sr2 hT_q | exact sr0 hT1 | exact h5_q) rfl (vp_in_nI (n := dp) (N := 5) (by omega) (by decide)) (show some (a + 89 + 5 * (nI (dp)).toNatClampNeg) = some (a + 89 + 5 * (dp)) from by rw [nI_clamp (by omega)]) ?_
    refine go_astore (lw := [_, _, _, _, _, _, _, _]) (pc := 17) dX7_risersBring_17 (by decide) rfl ?_
    refine go_iload_n (pc := 19) dX7_risersBring_19 rfl ?_
    refine go_iload (pc := 20) dX7_risersBring_20 rfl ?_
    refine go_icmp_eq (tgt := 32) (pc := 22) dX7_risersBring_22 (by decide) (fun h_22 => by exfalso; exact absurd ((nI_eq (by omega) (by omega)).mp h_22) (by omega)) (fun h_22 => ?_)
    refine go_iload_n (pc := 25) dX7_risersBring_25 rfl ?_
    refine go_iconst (v := 1) (pc := 26) dX7_risersBring_26 (by decide) ?_
    refine go_iadd (pc := 27) dX7_risersBring_27 ?_
    rw [nI_1]
    refine go_iconst (v := 5) (pc := 28) dX7_risersBring_28 (by decide) ?_
    refine go_icmp_ne (tgt := 49) (pc := 29) dX7_risersBring_29 (by decide) (fun h_29 => ?_) (fun h_29 => by exfalso; exact absurd ((nI_eq (b := 5) (by omega) (by decide)).mp h_29) (by omega))
    refine go_aload_n (pc := 49) dX7_risersBring_49 rfl ?_
    refine go_getf (pc := 50) f_X7_37 dX7_risersBring_50 (by first | exact sr0 hT_q | exact co0 hC9 | exact co4 hC9 | exact be0 hQ9 | exact sr3 hT_q | exact sr2 hT_q | exact sr0 hT1 | exact h5_q) (by rfl) ?_
    refine go_iload_n (pc := 53) dX7_risersBring_53 rfl ?_
    refine go_iconst (v := 1) (pc := 54) dX7_risersBring_54 (by decide) ?_
    refine go_iadd (pc := 55) dX7_risersBring_55 ?_
    rw [nI_1]
    refine go_aaload (pc := 56) dX7_risersBring_56 (by first | exact sr0 hT_q | exact co0 hC9 | exact co4 hC9 | exact be0 hQ9 | exact sr3 hT_q | exact sr2 hT_q | exact sr0 hT1 | exact h5_q) rfl (vp_in_nI (n := dp + 1) (N := 5) (by omega) (by decide)) (show some (a + 89 + 5 * (nI (dp + 1)).toNatClampNeg) = some (a + 89 + 5 * (dp + 1)) from by rw [nI_clamp (by omega)]) ?_
    refine go_astore (lw := [_, _, _, _, _, _, _, _]) (pc := 57) dX7_risersBring_57 (by decide) rfl ?_
    refine go_iconst (v := 0) (pc := 59) dX7_risersBring_59 (by decide) ?_
    refine go_istore (lw := [_, _, _, _, _, _, _, _]) (pc := 60) dX7_risersBring_60 (by decide) rfl ?_
    refine go_iter (kP K) (fun i_q lv9 s9 n9 => ∃ (f9 : row), lv9 = [some (.ref a), some (.int (nI p)), some (.int to), some (.int (nI dp)), some (.int (nI mm)), some (.ref (a + 89 + 5 * dp)), some (.ref (a + 89 + 5 * (dp + 1))), some (.int (nI i_q))] ∧ (SrAt Γ ro s9 (a + 89 + 5 * dp) b w (K 33) ch co rw bk) ∧ (BrAt Γ D ro s9 b K ag pa pf lm lt lw) ∧ (∀ j, dp < j → j < 5 → TrAt Γ ro s9 (a + 89 + 5 * j)) ∧ (s9 (a + 5) = some (cI Γ 5 f9)) ∧ (frS Γ ro (rbS a dp) z0 s9) ∧ (∀ j, j < dp → f9 j = f j) ∧ (fs (fun q => if q ≠ p ∧ K (8 + q) = K (8 + p) ∧ whyR K (q : Int) = 0 then (brC p to m (riseK K q (-1)).1).map (fun l => q :: l) else none) i_q (kP K - i_q) = brC p to (m + 1) K) ∧ n = n9) ⟨f, rfl, hT_q, hQ9, hTr, h5_q, frS.rf, (fun j _ => rfl), rfl, rfl⟩ ?_ ?_
    · rintro i_q lv9 σ n9 hi_q ⟨f9, rfl, hT_q, hQ9, hTr, h5_q, hf_q, hpf, hR9, rfl⟩ ih_q
      have hC9 := hC.fs hf_q (fun q x z => by omega)
      refine go_iload (pc := 62) dX7_risersBring_62 rfl ?_
      refine go_aload (pc := 64) dX7_risersBring_64 rfl ?_
      refine go_getf (pc := 66) f_X7_120 dX7_risersBring_66 (by first | exact sr0 hT_q | exact co0 hC9 | exact co4 hC9 | exact be0 hQ9 | exact sr3 hT_q | exact sr2 hT_q | exact sr0 hT1 | exact h5_q) (by rfl) ?_
      refine go_getf (pc := 69) f_X7_263 dX7_risersBring_69 (by first | exact sr0 hT_q | exact co0 hC9 | exact co4 hC9 | exact be0 hQ9 | exact sr3 hT_q | exact sr2 hT_q | exact sr0 hT1 | exact h5_q) (by rfl) ?_
      refine go_icmp_ge (tgt := 154) (pc := 72) dX7_risersBring_72 (by decide) (fun h_72 => by exfalso; rw [hB_q.1.1] at h_72; exact absurd h_72 (nI_ge (by omega) (by omega))) (fun h_72 => ?_)
      refine go_iload (pc := 75) dX7_risersBring_75 rfl ?_
      refine go_iload_n (pc := 77) dX7_risersBring_77 rfl ?_
      refine go_icmp_eq (tgt := 148) (pc := 78) dX7_risersBring_78 (by decide) (fun h_78 => ?_) (fun h_78 => ?_)
      · refine go_iinc (v := 1) (lw := [_, _, _, _, _, _, _, _]) (pc := 148) dX7_risersBring_148 rfl (by decide) (by decide) rfl ?_
        refine go_goto (tgt := 62) (pc := 151) dX7_risersBring_151 (by decide) ?_
        rw [nI_1]
        first
          | (have g9_q : i_q = p := (nI_eq (by omega) (by omega)).mp h_78
             have hfi : (fun q => if q ≠ p ∧ K (8 + q) = K (8 + p) ∧ whyR K (q : Int) = 0 then (brC p to m (riseK K q (-1)).1).map (fun l => q :: l) else none) i_q = none := if_neg (fun hc_q => hc_q.1 g9_q)
             exact ih_q _ _ _ ⟨_, rfl, hT_q, hQ9, hTr, h5_q, hf_q, hpf, (by rw [← hR9, fs_step hi_q hfi]), rfl⟩)
          | (have g9_q : ¬ K (8 + i_q) = K (8 + p) := h_96
             have hfi : (fun q => if q ≠ p ∧ K (8 + q) = K (8 + p) ∧ whyR K (q : Int) = 0 then (brC p to m (riseK K q (-1)).1).map (fun l => q :: l) else none) i_q = none := if_neg (fun hc_q => g9_q hc_q.2.1)
             exact ih_q _ _ _ ⟨_, rfl, hT_q, hQ9, hTr, h5_q, hf_q, hpf, (by rw [← hR9, fs_step hi_q hfi]), rfl⟩)
          | (have g9_q : ¬ whyR K (nI i_q).toInt = 0 := h_106
             have hfi : (fun q => if q ≠ p ∧ K (8 + q) = K (8 + p) ∧ whyR K (q : Int) = 0 then (brC p to m (riseK K q (-1)).1).map (fun l => q :: l) else none) i_q = none := if_neg (fun hc_q => g9_q (by rw [nI_toInt (by omega)]; exact hc_q.2.2))
             exact ih_q _ _ _ ⟨_, rfl, hT_q, hQ9, hTr, h5_q, hf_q, hpf, (by rw [← hR9, fs_step hi_q hfi]), rfl⟩)
          | (have g9_q : brC p to m (riseK K i_q (-1)).1 = none := oI_no h_143
             have hfi : (fun q => if q ≠ p ∧ K (8 + q) = K (8 + p) ∧ whyR K (q : Int) = 0 then (brC p to m (riseK K q (-1)).1).map (fun l => q :: l) else none) i_q = none := hfq.trans (by rw [g9_q]; rfl)
             exact ih_q _ _ _ ⟨_, rfl, hT_q, hQ9, hTr, h5_q, hf_q, hpf, (by rw [← hR9, fs_step hi_q hfi]), rfl⟩)
      · refine go_aload (pc := 81) dX7_risersBring_81 rfl ?_
        refine go_getf (pc := 83) f_X7_138 dX7_risersBring_83 (by first | exact sr0 hT_q | exact co0 hC9 | exact co4 hC9 | exact be0 hQ9 | exact sr3 hT_q | exact sr2 hT_q | exact sr0 hT1 | exact h5_q) (by rfl) ?_
        refine go_iload (pc := 86) dX7_risersBring_86 rfl ?_
        refine go_iald (pc := 88) dX7_risersBring_88 (by first | exact sr0 hT_q | exact co0 hC9 | exact co4 hC9 | exact be0 hQ9 | exact sr3 hT_q | exact sr2 hT_q | exact sr0 hT1 | exact h5_q) (by exact ⟨rfl, by omega⟩) ?_
        rw [(hr_q.1 i_q hi_q).1]
        refine go_aload (pc := 89) dX7_risersBring_89 rfl ?_
        refine go_getf (pc := 91) f_X7_138 dX7_risersBring_91 (by first | exact sr0 hT_q | exact co0 hC9 | exact co4 hC9 | exact be0 hQ9 | exact sr3 hT_q | exact sr2 hT_q | exact sr0 hT1 | exact h5_q) (by rfl) ?_
        refine go_iload_n (pc := 94) dX7_risersBring_94 rfl ?_
        refine go_iald (pc := 95) dX7_risersBring_95 (by first | exact sr0 hT_q | exact co0 hC9 | exact co4 hC9 | exact be0 hQ9 | exact sr3 hT_q | exact sr2 hT_q | exact sr0 hT1 | exact h5_q) (by exact ⟨rfl, by omega⟩) ?_
        rw [(hr_q.1 p hp_q).1]
        refine go_icmp_ne (tgt := 148) (pc := 96) dX7_risersBring_96 (by decide) (fun h_96 => ?_) (fun h_96 => ?_)
        · refine go_iinc (v := 1) (lw := [_, _, _, _, _, _, _, _]) (pc := 148) dX7_risersBring_148 rfl (by decide) (by decide) rfl ?_
          refine go_goto (tgt := 62) (pc := 151) dX7_risersBring_151 (by decide) ?_
          rw [nI_1]
          first
            | (have g9_q : i_q = p := (nI_eq (by omega) (by omega)).mp h_78
               have hfi : (fun q => if q ≠ p ∧ K (8 + q) = K (8 + p) ∧ whyR K (q : Int) = 0 then (brC p to m (riseK K q (-1)).1).map (fun l => q :: l) else none) i_q = none := if_neg (fun hc_q => hc_q.1 g9_q)
               exact ih_q _ _ _ ⟨_, rfl, hT_q, hQ9, hTr, h5_q, hf_q, hpf, (by rw [← hR9, fs_step hi_q hfi]), rfl⟩)
            | (have g9_q : ¬ K (8 + i_q) = K (8 + p) := h_96
               have hfi : (fun q => if q ≠ p ∧ K (8 + q) = K (8 + p) ∧ whyR K (q : Int) = 0 then (brC p to m (riseK K q (-1)).1).map (fun l => q :: l) else none) i_q = none := if_neg (fun hc_q => g9_q hc_q.2.1)
               exact ih_q _ _ _ ⟨_, rfl, hT_q, hQ9, hTr, h5_q, hf_q, hpf, (by rw [← hR9, fs_step hi_q hfi]), rfl⟩)
            | (have g9_q : ¬ whyR K (nI i_q).toInt = 0 := h_106
               have hfi : (fun q => if q ≠ p ∧ K (8 + q) = K (8 + p) ∧ whyR K (q : Int) = 0 then (brC p to m (riseK K q (-1)).1).map (fun l => q :: l) else none) i_q = none := if_neg (fun hc_q => g9_q (by rw [nI_toInt (by omega)]; exact hc_q.2.2))
               exact ih_q _ _ _ ⟨_, rfl, hT_q, hQ9, hTr, h5_q, hf_q, hpf, (by rw [← hR9, fs_step hi_q hfi]), rfl⟩)
            | (have g9_q : brC p to m (riseK K i_q (-1)).1 = none := oI_no h_143
               have hfi : (fun q => if q ≠ p ∧ K (8 + q) = K (8 + p) ∧ whyR K (q : Int) = 0 then (brC p to m (riseK K q (-1)).1).map (fun l => q :: l) else none) i_q = none := hfq.trans (by rw [g9_q]; rfl)
               exact ih_q _ _ _ ⟨_, rfl, hT_q, hQ9, hTr, h5_q, hf_q, hpf, (by rw [← hR9, fs_step hi_q hfi]), rfl⟩)
        · refine go_aload (pc := 99) dX7_risersBring_99 rfl ?_
          refine go_iload (pc := 101) dX7_risersBring_101 rfl ?_
          refine go_V1P (pc := 103) v_X7_177 rfl rfl (rcv_of (ci := 5) (by first | exact sr0 hT_q | exact co0 hC9 | exact co4 hC9 | exact be0 hQ9 | exact sr3 hT_q | exact sr2 hT_q | exact sr0 hT1 | exact h5_q) rfl) dX7_risersBring_103 (cp_whyNotLeave (k := k - 1) hT_q hr_q hQ9 (by omega) hB_q _) ?_
          refine go_if_ne (tgt := 148) (pc := 106) dX7_risersBring_106 (by decide) (fun h_106 => ?_) (fun h_106 => ?_)
          · refine go_iinc (v := 1) (lw := [_, _, _, _, _, _, _, _]) (pc := 148) dX7_risersBring_148 rfl (by decide) (by decide) rfl ?_
            refine go_goto (tgt := 62) (pc := 151) dX7_risersBring_151 (by decide) ?_
            rw [nI_1]
            first
              | (have g9_q : i_q = p := (nI_eq (by omega) (by omega)).mp h_78
                 have hfi : (fun q => if q ≠ p ∧ K (8 + q) = K (8 + p) ∧ whyR K (q : Int) = 0 then (brC p to m (riseK K q (-1)).1).map (fun l => q :: l) else none) i_q = none := if_neg (fun hc_q => hc_q.1 g9_q)
                 exact ih_q _ _ _ ⟨_, rfl, hT_q, hQ9, hTr, h5_q, hf_q, hpf, (by rw [← hR9, fs_step hi_q hfi]), rfl⟩)
              | (have g9_q : ¬ K (8 + i_q) = K (8 + p) := h_96
                 have hfi : (fun q => if q ≠ p ∧ K (8 + q) = K (8 + p) ∧ whyR K (q : Int) = 0 then (brC p to m (riseK K q (-1)).1).map (fun l => q :: l) else none) i_q = none := if_neg (fun hc_q => g9_q hc_q.2.1)
                 exact ih_q _ _ _ ⟨_, rfl, hT_q, hQ9, hTr, h5_q, hf_q, hpf, (by rw [← hR9, fs_step hi_q hfi]), rfl⟩)
              | (have g9_q : ¬ whyR K (nI i_q).toInt = 0 := h_106
                 have hfi : (fun q => if q ≠ p ∧ K (8 + q) = K (8 + p) ∧ whyR K (q : Int) = 0 then (brC p to m (riseK K q (-1)).1).map (fun l => q :: l) else none) i_q = none := if_neg (fun hc_q => g9_q (by rw [nI_toInt (by omega)]; exact hc_q.2.2))
                 exact ih_q _ _ _ ⟨_, rfl, hT_q, hQ9, hTr, h5_q, hf_q, hpf, (by rw [← hR9, fs_step hi_q hfi]), rfl⟩)
              | (have g9_q : brC p to m (riseK K i_q (-1)).1 = none := oI_no h_143
                 have hfi : (fun q => if q ≠ p ∧ K (8 + q) = K (8 + p) ∧ whyR K (q : Int) = 0 then (brC p to m (riseK K q (-1)).1).map (fun l => q :: l) else none) i_q = none := hfq.trans (by rw [g9_q]; rfl)
                 exact ih_q _ _ _ ⟨_, rfl, hT_q, hQ9, hTr, h5_q, hf_q, hpf, (by rw [← hR9, fs_step hi_q hfi]), rfl⟩)
          · have hw9 : whyR K (i_q : Int) = 0 := by rw [← nI_toInt (show i_q < 2 ^ 31 by omega)]; exact h_106
            have hu9 := ((whyR_i hi_q).mp hw9).1
            have hnp : i_q ≠ p := fun hc_q => h_78 (by rw [hc_q])
            have hfq : (fun q => if q ≠ p ∧ K (8 + q) = K (8 + p) ∧ whyR K (q : Int) = 0 then (brC p to m (riseK K q (-1)).1).map (fun l => q :: l) else none) i_q = (brC p to m (riseK K i_q (-1)).1).map (fun l => i_q :: l) := if_pos ⟨hnp, h_96, hw9⟩
            have hS1 : sameB K (riseK K i_q (-1)).1 := riseK_same hP8 (by omega)
            obtain ⟨b8, w8, m8, c8, o8, r8, k8, hT1⟩ := hTr (dp + 1) (by omega) (by omega)
            refine go_aload (pc := 109) dX7_risersBring_109 rfl ?_
            refine go_aload (pc := 111) dX7_risersBring_111 rfl ?_
            refine go_V1V (pc := 113) v_X7_114 rfl rfl (rcv_of (ci := 5) (by first | exact sr0 hT_q | exact co0 hC9 | exact co4 hC9 | exact be0 hQ9 | exact sr3 hT_q | exact sr2 hT_q | exact sr0 hT1 | exact h5_q) rfl) dX7_risersBring_113 (cp_copyFrom (k := k - 1) hT1 hT_q (by omega) (by omega)) (fun σ n h_q => ?_)
            obtain ⟨rfl, ⟨ch1, co1, rw1, bk1, hT1, q1_q, q2, q3, q4⟩, hf1⟩ := h_q
            have hr1 : rS K ch1 co1 rw1 bk1 := rS_cong hB_q hr_q q1_q q2 q3 q4
            have hT_q := hT_q.fr hf1 (by omega)
            have hQ9 := hQ9.fr hf1 (by omega) (by omega)
            have h5_q := (hf1.1 _ (by omega) (hC.1 _ (by omega) (by omega))).trans h5_q
            have hf_q := hf_q.tr (hf1.toS (S := rbS a dp) (fun q x y => by omega))
            have hTr : ∀ j, dp < j → j < 5 → TrAt Γ ro σ (a + 89 + 5 * j) := fun j h1_q h2_q => by
              by_cases e9_q : j = dp + 1
              · subst e9_q; exact hT1.T
              · exact (hTr j h1_q h2_q).fs (hf1.toS (S := fun q => a + 89 + 5 * (dp + 1) ≤ q ∧ q ≤ a + 89 + 5 * (dp + 1) + 4) (fun q x y => ⟨x, y⟩)) (fun q x y z => by omega)
            refine go_aload (pc := 116) dX7_risersBring_116 rfl ?_
            refine go_iload (pc := 118) dX7_risersBring_118 rfl ?_
            refine go_V1I (pc := 120) v_X7_183 rfl rfl (rcv_of (ci := 5) (by first | exact sr0 hT_q | exact co0 hC9 | exact co4 hC9 | exact be0 hQ9 | exact sr3 hT_q | exact sr2 hT_q | exact sr0 hT1 | exact h5_q) rfl) dX7_risersBring_120 (cp_leave (k := k - 1) hT1 hr1 hQ9 hB_q hg_q (by omega) (by omega) (by omega) hi_q hu9) (fun v_120 σ n h_q => ?_)
            obtain ⟨rfl, rfl, ⟨ch1, co1, rw1, bk1, hT1, hr1⟩, hf1⟩ := h_q
            have hT_q := hT_q.fr hf1 (by omega)
            have hQ9 := hQ9.fr hf1 (by omega) (by omega)
            have h5_q := (hf1.1 _ (by omega) (hC.1 _ (by omega) (by omega))).trans h5_q
            have hf_q := hf_q.tr (hf1.toS (S := rbS a dp) (fun q x y => by omega))
            have hTr : ∀ j, dp < j → j < 5 → TrAt Γ ro σ (a + 89 + 5 * j) := fun j h1_q h2_q => by
              by_cases e9_q : j = dp + 1
              · subst e9_q; exact hT1.T
              · exact (hTr j h1_q h2_q).fs (hf1.toS (S := fun q => a + 89 + 5 * (dp + 1) ≤ q ∧ q ≤ a + 89 + 5 * (dp + 1) + 4) (fun q x y => ⟨x, y⟩)) (fun q x y z => by omega)
            refine go_pop (pc := 123) dX7_risersBring_123 rfl ?_
            have hC9 := hC.fs hf_q (fun q x z => by omega)
            refine go_aload_n (pc := 124) dX7_risersBring_124 rfl ?_
            refine go_getf (pc := 125) f_X7_41 dX7_risersBring_125 (by first | exact sr0 hT_q | exact co0 hC9 | exact co4 hC9 | exact be0 hQ9 | exact sr3 hT_q | exact sr2 hT_q | exact sr0 hT1 | exact h5_q) (by rfl) ?_
            refine go_iload_n (pc := 128) dX7_risersBring_128 rfl ?_
            refine go_iload (pc := 129) dX7_risersBring_129 rfl ?_
            refine go_iastF (pc := 131) dX7_risersBring_131 (by first | exact sr0 hT_q | exact co0 hC9 | exact co4 hC9 | exact be0 hQ9 | exact sr3 hT_q | exact sr2 hT_q | exact sr0 hT1 | exact h5_q) (by exact ⟨rfl, by omega⟩) (fun σ ho9 hq9 => ?_)
            have hu := frS.one (Γ := Γ) (ro := ro) hq9
            have hT_q := hT_q.fs hu (fun q x y z => by omega)
            have hT1 := hT1.fs hu (fun q x y z => by omega)
            have hQ9 := hQ9.fs hu (fun q x z => by omega) (fun q x y z => by omega)
            have hTr : ∀ j, dp < j → j < 5 → TrAt Γ ro σ (a + 89 + 5 * j) := fun j h1_q h2_q => (hTr j h1_q h2_q).fs hu (fun q x y z => by omega)
            have hf_q := hf_q.ot hq9 (Or.inl rfl)
            have h5_q := ho9
            have hC9 := hC.fs hf_q (fun q x z => by omega)
            refine go_aload_n (pc := 132) dX7_risersBring_132 rfl ?_
            refine go_iload_n (pc := 133) dX7_risersBring_133 rfl ?_
            refine go_iload_n (pc := 134) dX7_risersBring_134 rfl ?_
            refine go_iload_n (pc := 135) dX7_risersBring_135 rfl ?_
            refine go_iconst (v := 1) (pc := 136) dX7_risersBring_136 (by decide) ?_
            refine go_iadd (pc := 137) dX7_risersBring_137 ?_
            rw [nI_1]
            refine go_iload (pc := 138) dX7_risersBring_138 rfl ?_
            refine go_V4I (pc := 140) v_X7_400 rfl rfl (rcv_of (ci := 7) (by first | exact sr0 hT_q | exact co0 hC9 | exact co4 hC9 | exact be0 hQ9 | exact sr3 hT_q | exact sr2 hT_q | exact sr0 hT1 | exact h5_q) rfl) dX7_risersBring_140 (ihm (k - 1) (dp + 1) mm _ _ _ _ _ _ _ hC9 hT1 hr1 (hQ9.sm hS1) (fun j h1_q h2_q => hTr j (by omega) h2_q) h5_q (hS1.okB hB_q) (gS_rise hP8 hH5 hi_q hg_q hu9) (by rw [hS1.P]; exact hp_q) (by omega) (by omega) (by omega)) (fun v_140 σ n h_q => ?_)
            obtain ⟨rfl, rfl, hf2, hTr2, f2, h5_q, hp2, hl2⟩ := h_q
            have hT_q := hT_q.fs hf2 (fun q x y z => by omega)
            have hQ9 := hQ9.fs hf2 (fun q x z => by omega) (fun q x y z => by omega)
            have hTr : ∀ j, dp < j → j < 5 → TrAt Γ ro σ (a + 89 + 5 * j) := fun j h1_q h2_q => by
              by_cases e9_q : j = dp + 1
              · subst e9_q; exact hT1.T.fs hf2 (fun q x y z => by omega)
              · exact hTr2 j (by omega) h2_q
            have hf_q := hf_q.tr (hf2.wk (S' := rbS a dp) (fun q x => by omega))
            have hpf : ∀ j, j < dp → f2 j = f j := fun j hj_q => by rw [hp2 j (by omega), pk_un (by omega)]; exact hpf j hj_q
            have hd2 : f2 dp = nI i_q := by rw [hp2 dp (by omega), pk_us]
            refine go_if_eq (tgt := 148) (pc := 143) dX7_risersBring_143 (by decide) (fun h_143 => ?_) (fun h_143 => ?_)
            · refine go_iinc (v := 1) (lw := [_, _, _, _, _, _, _, _]) (pc := 148) dX7_risersBring_148 rfl (by decide) (by decide) rfl ?_
              refine go_goto (tgt := 62) (pc := 151) dX7_risersBring_151 (by decide) ?_
              rw [nI_1]
              first
                | (have g9_q : i_q = p := (nI_eq (by omega) (by omega)).mp h_78
                   have hfi : (fun q => if q ≠ p ∧ K (8 + q) = K (8 + p) ∧ whyR K (q : Int) = 0 then (brC p to m (riseK K q (-1)).1).map (fun l => q :: l) else none) i_q = none := if_neg (fun hc_q => hc_q.1 g9_q)
                   exact ih_q _ _ _ ⟨_, rfl, hT_q, hQ9, hTr, h5_q, hf_q, hpf, (by rw [← hR9, fs_step hi_q hfi]), rfl⟩)
                | (have g9_q : ¬ K (8 + i_q) = K (8 + p) := h_96
                   have hfi : (fun q => if q ≠ p ∧ K (8 + q) = K (8 + p) ∧ whyR K (q : Int) = 0 then (brC p to m (riseK K q (-1)).1).map (fun l => q :: l) else none) i_q = none := if_neg (fun hc_q => g9_q hc_q.2.1)
                   exact ih_q _ _ _ ⟨_, rfl, hT_q, hQ9, hTr, h5_q, hf_q, hpf, (by rw [← hR9, fs_step hi_q hfi]), rfl⟩)
                | (have g9_q : ¬ whyR K (nI i_q).toInt = 0 := h_106
                   have hfi : (fun q => if q ≠ p ∧ K (8 + q) = K (8 + p) ∧ whyR K (q : Int) = 0 then (brC p to m (riseK K q (-1)).1).map (fun l => q :: l) else none) i_q = none := if_neg (fun hc_q => g9_q (by rw [nI_toInt (by omega)]; exact hc_q.2.2))
                   exact ih_q _ _ _ ⟨_, rfl, hT_q, hQ9, hTr, h5_q, hf_q, hpf, (by rw [← hR9, fs_step hi_q hfi]), rfl⟩)
                | (have g9_q : brC p to m (riseK K i_q (-1)).1 = none := oI_no h_143
                   have hfi : (fun q => if q ≠ p ∧ K (8 + q) = K (8 + p) ∧ whyR K (q : Int) = 0 then (brC p to m (riseK K q (-1)).1).map (fun l => q :: l) else none) i_q = none := hfq.trans (by rw [g9_q]; rfl)
                   exact ih_q _ _ _ ⟨_, rfl, hT_q, hQ9, hTr, h5_q, hf_q, hpf, (by rw [← hR9, fs_step hi_q hfi]), rfl⟩)
            · refine go_iconst (v := 1) (pc := 146) dX7_risersBring_146 (by decide) ?_
              exact go_zretI (pc := 147) rfl (by first | rfl | exact nb_bI) dX7_risersBring_147 (Nat.le_of_ble_eq_true rfl) (Nat.le_of_ble_eq_true rfl) (by
  obtain ⟨l9_q, hl9⟩ := oI_some h_143
  have e9_q : brC p to (m + 1) K = some (i_q :: l9_q) := by rw [← hR9, fs_hit hi_q (hfq.trans (by rw [hl9]; rfl))]
  refine ⟨(bI_t (by rw [e9_q]; rfl)).symm, rfl, hf_q, hTr, _, h5_q, hpf, fun l hl j hj_q => ?_⟩
  rw [e9_q] at hl
  cases hl
  rcases j with _ | j
  · exact hd2
  · rw [show dp + (j + 1) = dp + 1 + j by omega, hl2 l9_q hl9 j (by omega)]
    rfl)
    · rintro lv9 σ n9 ⟨f9, rfl, hT_q, hQ9, hTr, h5_q, hf_q, hpf, hR9, rfl⟩
      have hC9 := hC.fs hf_q (fun q x z => by omega)
      refine go_iload (pc := 62) dX7_risersBring_62 rfl ?_
      refine go_aload (pc := 64) dX7_risersBring_64 rfl ?_
      refine go_getf (pc := 66) f_X7_120 dX7_risersBring_66 (by first | exact sr0 hT_q | exact co0 hC9 | exact co4 hC9 | exact be0 hQ9 | exact sr3 hT_q | exact sr2 hT_q | exact sr0 hT1 | exact h5_q) (by rfl) ?_
      refine go_getf (pc := 69) f_X7_263 dX7_risersBring_69 (by first | exact sr0 hT_q | exact co0 hC9 | exact co4 hC9 | exact be0 hQ9 | exact sr3 hT_q | exact sr2 hT_q | exact sr0 hT1 | exact h5_q) (by rfl) ?_
      refine go_icmp_ge (tgt := 154) (pc := 72) dX7_risersBring_72 (by decide) (fun h_72 => ?_) (fun h_72 => by exfalso; rw [hB_q.1.1] at h_72; exact h_72 (nI_le (by omega) (by omega)))
      refine go_iconst (v := 0) (pc := 154) dX7_risersBring_154 (by decide) ?_
      exact go_zretI (pc := 155) rfl (by first | rfl | exact nb_bI) dX7_risersBring_155 (Nat.le_of_ble_eq_true rfl) (Nat.le_of_ble_eq_true rfl) ⟨(bI_f (by rw [← hR9, Nat.sub_self]; simp [fs])).symm, rfl, hf_q, hTr, _, h5_q, hpf, (fun l hl => by rw [← hR9, Nat.sub_self] at hl; cases hl)⟩
theorem cp_fewest {Γ : gam} {D : Nat} {ro : Nat → Nat} {z0 : sto} {n k a b : Nat} {w : Int32} {K ag pa pf ch co rw bk G : row} {im : Nat → Option Nat} {lm lt lw : Value} (hC : CoAt Γ ro z0 a G im) (hR_q : SrAt Γ ro z0 (a + 14) b w (K 33) ch co rw bk) (hr_q : rS K ch co rw bk) (hQ_q : BrAt Γ D ro z0 b K ag pa pf lm lt lw) (hB_q : okB K) (hg_q : gS K) (hS_q : ScAt Γ ro z0 a) (hD : a + 113 < D) (hsb : b = a + 10 ∨ a + 113 < b) (hk : 14 ≤ k) {p : Nat} (hp_q : p < kP K) (y : Int32) : Sp Γ (rmk k 0 0) uX7_fewestRisers [.ref a, .int (nI p), .int y] z0 n (qI fun v σ' n' => v = (if K (16 + p) = -1 then -1 else bgA (bgK K p y) 0) ∧ n' = n ∧ ScAt Γ ro σ' a ∧ frS Γ ro (scr a) z0 σ' ∧ ∀ l, K (16 + p) ≠ -1 → bgK K p y = some l → l.length ≤ 4 ∧ ∃ f', σ' (a + 5) = some (cI Γ 5 f') ∧ ∀ j, j < l.length → f' j = nI (l.getD j 0)) := by
  have hP8 := hB_q.1.2.1
  have hH5 := hB_q.1.2.2.2.1
  have hW4 := hB_q.1.2.2.2.2.2
  refine sp_intro [some (.ref a), some (.int (nI p)), some (.int y), none] (by decide +kernel) rfl (Nat.le_of_ble_eq_true rfl) rfl ?_
  refine go_aload_n (pc := 0) dX7_fewestRisers_0 rfl ?_
  refine go_getf (pc := 1) f_X7_65 dX7_fewestRisers_1 (by first | exact co0 hC | exact sr0 hR_q | exact be0 hQ_q | exact sr0 hT_q | exact be0 hQ9 | exact sr1 hR_q | exact sr2 hR_q | exact sr3 hR_q | exact sr4 hR_q | exact be1 hQ_q | exact be2 hQ_q | exact be3 hQ_q | exact sr3 hT_q | exact sr2 hT_q | exact sr1 hT_q | exact sr4 hT_q | exact co4 hC | exact co2 hC | exact co3 hC | exact co0 hC9 | exact sr0 hR9 | exact co4 hC9 | exact sr3 hR9 | exact sr2 hR9) (by rfl) ?_
  refine go_getf (pc := 4) f_X7_141 dX7_fewestRisers_4 (by first | exact co0 hC | exact sr0 hR_q | exact be0 hQ_q | exact sr0 hT_q | exact be0 hQ9 | exact sr1 hR_q | exact sr2 hR_q | exact sr3 hR_q | exact sr4 hR_q | exact be1 hQ_q | exact be2 hQ_q | exact be3 hQ_q | exact sr3 hT_q | exact sr2 hT_q | exact sr1 hT_q | exact sr4 hT_q | exact co4 hC | exact co2 hC | exact co3 hC | exact co0 hC9 | exact sr0 hR9 | exact co4 hC9 | exact sr3 hR9 | exact sr2 hR9) (by rfl) ?_
  refine go_iload_n (pc := 7) dX7_fewestRisers_7 rfl ?_
  refine go_iald (pc := 8) dX7_fewestRisers_8 (by first | exact co0 hC | exact sr0 hR_q | exact be0 hQ_q | exact sr0 hT_q | exact be0 hQ9 | exact sr1 hR_q | exact sr2 hR_q | exact sr3 hR_q | exact sr4 hR_q | exact be1 hQ_q | exact be2 hQ_q | exact be3 hQ_q | exact sr3 hT_q | exact sr2 hT_q | exact sr1 hT_q | exact sr4 hT_q | exact co4 hC | exact co2 hC | exact co3 hC | exact co0 hC9 | exact sr0 hR9 | exact co4 hC9 | exact sr3 hR9 | exact sr2 hR9) (by exact ⟨rfl, by omega⟩) ?_
  rw [(hr_q.1 p hp_q).2.1]
  refine go_iconst (v := -1) (pc := 9) dX7_fewestRisers_9 (by decide) ?_
  refine go_icmp_ne (tgt := 15) (pc := 10) dX7_fewestRisers_10 (by decide) (fun h_10 => ?_) (fun h_10 => ?_)
  · obtain ⟨bT, wT, mT, ch8, co8, rw8, bk8, hT_q⟩ := hS_q.t0
    refine go_aload_n (pc := 15) dX7_fewestRisers_15 rfl ?_
    refine go_getf (pc := 16) f_X7_37 dX7_fewestRisers_16 (by first | exact co0 hC | exact sr0 hR_q | exact be0 hQ_q | exact sr0 hT_q | exact be0 hQ9 | exact sr1 hR_q | exact sr2 hR_q | exact sr3 hR_q | exact sr4 hR_q | exact be1 hQ_q | exact be2 hQ_q | exact be3 hQ_q | exact sr3 hT_q | exact sr2 hT_q | exact sr1 hT_q | exact sr4 hT_q | exact co4 hC | exact co2 hC | exact co3 hC | exact co0 hC9 | exact sr0 hR9 | exact co4 hC9 | exact sr3 hR9 | exact sr2 hR9) (by rfl) ?_
    refine go_iconst (v := 0) (pc := 19) dX7_fewestRisers_19 (by decide) ?_
    refine go_aaload (pc := 20) dX7_fewestRisers_20 (by first | exact co0 hC | exact sr0 hR_q | exact be0 hQ_q | exact sr0 hT_q | exact be0 hQ9 | exact sr1 hR_q | exact sr2 hR_q | exact sr3 hR_q | exact sr4 hR_q | exact be1 hQ_q | exact be2 hQ_q | exact be3 hQ_q | exact sr3 hT_q | exact sr2 hT_q | exact sr1 hT_q | exact sr4 hT_q | exact co4 hC | exact co2 hC | exact co3 hC | exact co0 hC9 | exact sr0 hR9 | exact co4 hC9 | exact sr3 hR9 | exact sr2 hR9) rfl (vp_in_nI (n := 0) (N := 5) (by decide) (by decide)) (show _ = some (a + 89) from rfl) ?_
    refine go_aload_n (pc := 21) dX7_fewestRisers_21 rfl ?_
    refine go_getf (pc := 22) f_X7_65 dX7_fewestRisers_22 (by first | exact co0 hC | exact sr0 hR_q | exact be0 hQ_q | exact sr0 hT_q | exact be0 hQ9 | exact sr1 hR_q | exact sr2 hR_q | exact sr3 hR_q | exact sr4 hR_q | exact be1 hQ_q | exact be2 hQ_q | exact be3 hQ_q | exact sr3 hT_q | exact sr2 hT_q | exact sr1 hT_q | exact sr4 hT_q | exact co4 hC | exact co2 hC | exact co3 hC | exact co0 hC9 | exact sr0 hR9 | exact co4 hC9 | exact sr3 hR9 | exact sr2 hR9) (by rfl) ?_
    refine go_V1V (pc := 25) v_X7_114 rfl rfl (rcv_of (ci := 5) (by first | exact co0 hC | exact sr0 hR_q | exact be0 hQ_q | exact sr0 hT_q | exact be0 hQ9 | exact sr1 hR_q | exact sr2 hR_q | exact sr3 hR_q | exact sr4 hR_q | exact be1 hQ_q | exact be2 hQ_q | exact be3 hQ_q | exact sr3 hT_q | exact sr2 hT_q | exact sr1 hT_q | exact sr4 hT_q | exact co4 hC | exact co2 hC | exact co3 hC | exact co0 hC9 | exact sr0 hR9 | exact co4 hC9 | exact sr3 hR9 | exact sr2 hR9) rfl) dX7_fewestRisers_25 (cp_copyFrom (k := k - 1) hT_q hR_q (by omega) (by omega)) (fun σ n h_q => ?_)
    obtain ⟨rfl, ⟨ch9, co9, rw9, bk9, hT_q, q1_q, q2, q3, q4⟩, hf_q⟩ := h_q
    have hr9_q : rS K ch9 co9 rw9 bk9 := rS_cong hB_q hr_q q1_q q2 q3 q4
    have hQ9 := hQ_q.fr hf_q (by omega) (by omega)
    obtain ⟨f9, h50⟩ := hS_q.1
    have h5_q := (hf_q.1 _ (by omega) (hC.1 _ (by omega) (by omega))).trans h50
    have hSs := hS_q.s0 hC.1 hf_q hT_q.T
    have hTr : ∀ j, 0 < j → j < 5 → TrAt Γ ro σ (a + 89 + 5 * j) := fun j h1_q h2_q => by
      rcases (show j = 1 ∨ j = 2 ∨ j = 3 ∨ j = 4 by omega) with rfl | rfl | rfl | rfl
      · exact hSs.2.2.2.2.2.2.1
      · exact hSs.2.2.2.2.2.2.2.1
      · exact hSs.2.2.2.2.2.2.2.2.1
      · exact hSs.2.2.2.2.2.2.2.2.2
    have hfX : frS Γ ro (fun q => q = a + 5 ∨ (a + 89 ≤ q ∧ q ≤ a + 113)) z0 σ := hf_q.toS (fun q x y => by omega)
    refine go_iconst (v := 0) (pc := 28) dX7_fewestRisers_28 (by decide) ?_
    refine go_istore_n (lw := [_, _, _, _]) (pc := 29) dX7_fewestRisers_29 (by decide) rfl ?_
    refine go_iter (5) (fun i_q lv9 s9 n9 => ∃ (f9 : row), lv9 = [some (.ref a), some (.int (nI p)), some (.int y), some (.int (nI i_q))] ∧ (SrAt Γ ro s9 (a + 89) b w (K 33) ch9 co9 rw9 bk9) ∧ (BrAt Γ D ro s9 b K ag pa pf lm lt lw) ∧ (∀ j, 0 < j → j < 5 → TrAt Γ ro s9 (a + 89 + 5 * j)) ∧ (s9 (a + 5) = some (cI Γ 5 f9)) ∧ (frS Γ ro (fun q => q = a + 5 ∨ (a + 89 ≤ q ∧ q ≤ a + 113)) z0 s9) ∧ (fs (fun m => brC p y m K) i_q (5 - i_q) = bgK K p y) ∧ n = n9) ⟨_, rfl, hT_q, hQ9, hTr, h5_q, hfX, (bring_eq hB_q hg_q hp_q h_10), rfl⟩ ?_ ?_
    · rintro i_q lv9 σ n9 hi_q ⟨f9, rfl, hT_q, hQ9, hTr, h5_q, hfX, hR9, rfl⟩ ih_q
      have hC9 := hC.fs hfX (fun q x z => by omega)
      refine go_iload_n (pc := 30) dX7_fewestRisers_30 rfl ?_
      refine go_iconst (v := 5) (pc := 31) dX7_fewestRisers_31 (by decide) ?_
      refine go_icmp_ge (tgt := 54) (pc := 32) dX7_fewestRisers_32 (by decide) (fun h_32 => by exfalso; exact absurd h_32 (nI_ge (b := 5) (by omega) (by decide))) (fun h_32 => ?_)
      refine go_aload_n (pc := 35) dX7_fewestRisers_35 rfl ?_
      refine go_iload_n (pc := 36) dX7_fewestRisers_36 rfl ?_
      refine go_iload_n (pc := 37) dX7_fewestRisers_37 rfl ?_
      refine go_iconst (v := 0) (pc := 38) dX7_fewestRisers_38 (by decide) ?_
      refine go_iload_n (pc := 39) dX7_fewestRisers_39 rfl ?_
      refine go_V4I (pc := 40) v_X7_400 rfl rfl (rcv_of (ci := 7) (by first | exact co0 hC | exact sr0 hR_q | exact be0 hQ_q | exact sr0 hT_q | exact be0 hQ9 | exact sr1 hR_q | exact sr2 hR_q | exact sr3 hR_q | exact sr4 hR_q | exact be1 hQ_q | exact be2 hQ_q | exact be3 hQ_q | exact sr3 hT_q | exact sr2 hT_q | exact sr1 hT_q | exact sr4 hT_q | exact co4 hC | exact co2 hC | exact co3 hC | exact co0 hC9 | exact sr0 hR9 | exact co4 hC9 | exact sr3 hR9 | exact sr2 hR9) rfl) dX7_fewestRisers_40 (cp_rb hD hsb i_q (k - 1) 0 i_q K _ _ _ _ _ _ hC9 hT_q hr9_q hQ9 hTr h5_q hB_q hg_q hp_q (by omega) (by omega) (by omega)) (fun v_40 σ n h_q => ?_)
      obtain ⟨rfl, rfl, hf2, hTr, f2, h5_q, -, hl2⟩ := h_q
      have hT_q := hT_q.fs hf2 (fun q x y z => by omega)
      have hQ9 := hQ9.fs hf2 (fun q x z => by omega) (fun q x y z => by omega)
      have hfX := hfX.tr (hf2.wk (S' := (fun q => q = a + 5 ∨ (a + 89 ≤ q ∧ q ≤ a + 113))) (fun q x => by omega))
      refine go_if_eq (tgt := 48) (pc := 43) dX7_fewestRisers_43 (by decide) (fun h_43 => ?_) (fun h_43 => ?_)
      · refine go_iinc (v := 1) (lw := [_, _, _, _]) (pc := 48) dX7_fewestRisers_48 rfl (by decide) (by decide) rfl ?_
        refine go_goto (tgt := 30) (pc := 51) dX7_fewestRisers_51 (by decide) ?_
        rw [nI_1]
        exact ih_q _ _ _ ⟨_, rfl, hT_q, hQ9, hTr, h5_q, hfX, (by rw [← hR9, fs_step hi_q (oI_no h_43)]), rfl⟩
      · refine go_iload_n (pc := 46) dX7_fewestRisers_46 rfl ?_
        exact go_iretI (pc := 47) rfl dX7_fewestRisers_47 (Nat.le_of_ble_eq_true rfl) (Nat.le_of_ble_eq_true rfl) (by
  obtain ⟨l9_q, hl9⟩ := oI_some h_43
  have e9_q : bgK K p y = some l9_q := by rw [← hR9, fs_hit hi_q hl9]
  have el := (brC_vl hl9).2
  refine ⟨?_, rfl, (hS_q.x5 hC.1 hfX ⟨_, h5_q⟩ hT_q.T (hTr 1 (by omega) (by omega)) (hTr 2 (by omega) (by omega)) (hTr 3 (by omega) (by omega)) (hTr 4 (by omega) (by omega))), hfX.wk (fun q x => by omega), fun l _ hl => ?_⟩
  · rw [if_neg h_10, e9_q, bgA_0, ← el]
  · rw [e9_q] at hl
    cases hl
    refine ⟨by omega, _, h5_q, fun j hj_q => ?_⟩
    have := hl2 l9_q hl9 j (by omega)
    rw [Nat.zero_add] at this
    exact this)
    · rintro lv9 σ n9 ⟨f9, rfl, hT_q, hQ9, hTr, h5_q, hfX, hR9, rfl⟩
      have hC9 := hC.fs hfX (fun q x z => by omega)
      refine go_iload_n (pc := 30) dX7_fewestRisers_30 rfl ?_
      refine go_iconst (v := 5) (pc := 31) dX7_fewestRisers_31 (by decide) ?_
      refine go_icmp_ge (tgt := 54) (pc := 32) dX7_fewestRisers_32 (by decide) (fun h_32 => ?_) (fun h_32 => by exfalso; exact h_32 (by decide))
      refine go_iconst (v := -1) (pc := 54) dX7_fewestRisers_54 (by decide) ?_
      exact go_iretI (pc := 55) rfl dX7_fewestRisers_55 (Nat.le_of_ble_eq_true rfl) (Nat.le_of_ble_eq_true rfl) (by rw [Nat.sub_self] at hR9; have e9_q : bgK K p y = none := hR9.symm; exact ⟨by rw [if_neg h_10, e9_q]; rfl, rfl, (hS_q.x5 hC.1 hfX ⟨_, h5_q⟩ hT_q.T (hTr 1 (by omega) (by omega)) (hTr 2 (by omega) (by omega)) (hTr 3 (by omega) (by omega)) (hTr 4 (by omega) (by omega))), hfX.wk (fun q x => by omega), fun l _ hl => by rw [e9_q] at hl; cases hl⟩)
  · refine go_iconst (v := -1) (pc := 13) dX7_fewestRisers_13 (by decide) ?_
    exact go_iretI (pc := 14) rfl dX7_fewestRisers_14 (Nat.le_of_ble_eq_true rfl) (Nat.le_of_ble_eq_true rfl) ⟨(if_pos h_10).symm, rfl, hS_q, frS.rf, (fun l hc_q => absurd h_10 hc_q)⟩
theorem cp_bring {Γ : gam} {D : Nat} {ro : Nat → Nat} {z0 : sto} {n k a b : Nat} {w : Int32} {K ag pa pf ch co rw bk G : row} {im : Nat → Option Nat} {lm lt lw : Value} (hC : CoAt Γ ro z0 a G im) (hR_q : SrAt Γ ro z0 (a + 14) b w (K 33) ch co rw bk) (hr_q : rS K ch co rw bk) (hQ_q : BrAt Γ D ro z0 b K ag pa pf lm lt lw) (hB_q : okB K) (hg_q : gS K) (hS_q : ScAt Γ ro z0 a) (hD : a + 113 < D) (hsb : b = a + 10 ∨ a + 113 < b) (hH1 : 0 < kH K) (hk : 16 ≤ k) (p y z : Int32) : Sp Γ (rmk k 4 24) uX7_bring [.ref a, .int p, .int y, .int z] z0 n (qT (qI fun v σ' n' => (aBring K p.toInt y z).1 = 0 ∧ v = (aBring K p.toInt y z).2 ∧ n' = n ∧ ScAt Γ ro σ' a ∧ frS Γ ro (scr a) z0 σ') (fun x σ' n' => exL [eNS, eIA] (aBring K p.toInt y z).1 x ∧ σ' = z0 ∧ n ≤ n')) := by
  have hP8 := hB_q.1.2.1
  have hH5 := hB_q.1.2.2.2.1
  have hW4 := hB_q.1.2.2.2.2.2
  by_cases hz0 : z = 0
  · subst hz0
    refine sp_intro [some (.ref a), some (.int p), some (.int y), some (.int 0), none, none] (by decide +kernel) rfl (Nat.le_of_ble_eq_true rfl) rfl ?_
    refine go_aload_n (pc := 0) dX7_bring_0 rfl ?_
    refine go_iload_n (pc := 1) dX7_bring_1 rfl ?_
    refine go_V1Vx (pc := 2) v_X7_135 rfl rfl (rcv_of (ci := 7) (by first | exact co0 hC | exact h5_q | exact sr0 hR_q | exact be0 hQ_q | exact sr0 hT_q | exact be0 hQ9 | exact sr1 hR_q | exact sr2 hR_q | exact sr3 hR_q | exact sr4 hR_q | exact be1 hQ_q | exact be2 hQ_q | exact be3 hQ_q | exact sr3 hT_q | exact sr2 hT_q | exact sr1 hT_q | exact sr4 hT_q | exact co4 hC | exact co2 hC | exact co3 hC | exact co0 hC9 | exact sr0 hR9 | exact co4 hC9 | exact sr3 hR9 | exact sr2 hR9) rfl) dX7_bring_2 (cp_needPerson (k := k - 1) hC hR_q hr_q hQ_q hB_q (by omega) _) (fun x σx nx hx_q => by obtain ⟨h9_q, rfl, rfl, h8_q⟩ := hx_q; exact Or.inr ⟨_, rfl, ⟨0, (by rw [show aBring K p.toInt y 0 = (1, 0) from by have e9_q : bgT K p.toInt y 0 = 1 := (by simp only [bgT, h9_q]); rw [aBring, e9_q, if_pos (by decide)]]; rfl), rfl⟩, rfl, h8_q⟩) (fun σ n h_q => ?_)
    obtain ⟨⟨j1_q, hj1, rfl, hj1a⟩, rfl, rfl⟩ := h_q
    refine go_aload_n (pc := 5) dX7_bring_5 rfl ?_
    refine go_iload_n (pc := 6) dX7_bring_6 rfl ?_
    refine go_iconst (v := 0) (pc := 7) dX7_bring_7 (by decide) ?_
    refine go_aload_n (pc := 8) dX7_bring_8 rfl ?_
    refine go_getf (pc := 9) f_X7_65 dX7_bring_9 (by first | exact co0 hC | exact h5_q | exact sr0 hR_q | exact be0 hQ_q | exact sr0 hT_q | exact be0 hQ9 | exact sr1 hR_q | exact sr2 hR_q | exact sr3 hR_q | exact sr4 hR_q | exact be1 hQ_q | exact be2 hQ_q | exact be3 hQ_q | exact sr3 hT_q | exact sr2 hT_q | exact sr1 hT_q | exact sr4 hT_q | exact co4 hC | exact co2 hC | exact co3 hC | exact co0 hC9 | exact sr0 hR9 | exact co4 hC9 | exact sr3 hR9 | exact sr2 hR9) (by rfl) ?_
    refine go_getf (pc := 12) f_X7_120 dX7_bring_12 (by first | exact co0 hC | exact h5_q | exact sr0 hR_q | exact be0 hQ_q | exact sr0 hT_q | exact be0 hQ9 | exact sr1 hR_q | exact sr2 hR_q | exact sr3 hR_q | exact sr4 hR_q | exact be1 hQ_q | exact be2 hQ_q | exact be3 hQ_q | exact sr3 hT_q | exact sr2 hT_q | exact sr1 hT_q | exact sr4 hT_q | exact co4 hC | exact co2 hC | exact co3 hC | exact co0 hC9 | exact sr0 hR9 | exact co4 hC9 | exact sr3 hR9 | exact sr2 hR9) (by rfl) ?_
    refine go_getf (pc := 15) f_X7_266 dX7_bring_15 (by first | exact co0 hC | exact h5_q | exact sr0 hR_q | exact be0 hQ_q | exact sr0 hT_q | exact be0 hQ9 | exact sr1 hR_q | exact sr2 hR_q | exact sr3 hR_q | exact sr4 hR_q | exact be1 hQ_q | exact be2 hQ_q | exact be3 hQ_q | exact sr3 hT_q | exact sr2 hT_q | exact sr1 hT_q | exact sr4 hT_q | exact co4 hC | exact co2 hC | exact co3 hC | exact co0 hC9 | exact sr0 hR9 | exact co4 hC9 | exact sr3 hR9 | exact sr2 hR9) (by rfl) ?_
    refine go_iconst (v := 1) (pc := 18) dX7_bring_18 (by decide) ?_
    refine go_isub (pc := 19) dX7_bring_19 ?_
    rw [h_pred hB_q.1 hH1]
    refine go_V3Vx (pc := 20) v_X7_90 rfl rfl (rcv_of (ci := 7) (by first | exact co0 hC | exact h5_q | exact sr0 hR_q | exact be0 hQ_q | exact sr0 hT_q | exact be0 hQ9 | exact sr1 hR_q | exact sr2 hR_q | exact sr3 hR_q | exact sr4 hR_q | exact be1 hQ_q | exact be2 hQ_q | exact be3 hQ_q | exact sr3 hT_q | exact sr2 hT_q | exact sr1 hT_q | exact sr4 hT_q | exact co4 hC | exact co2 hC | exact co3 hC | exact co0 hC9 | exact sr0 hR9 | exact co4 hC9 | exact sr3 hR9 | exact sr2 hR9) rfl) dX7_bring_20 (cp_nW (k := k - 1) (lo := 0) (hi_q := kH K - 1) (by omega) (by decide) (by omega) _) (fun x σx nx hx_q => by obtain ⟨h9_q, rfl, rfl, h8_q⟩ := hx_q; exact Or.inr ⟨_, rfl, ⟨1, (by rw [show aBring K (nI j1_q).toInt y 0 = (2, 0) from by have e9_q : bgT K (nI j1_q).toInt y 0 = 2 := (by rw [pr_eq, show kH K - 1 + 1 = kH K by omega] at h9_q; simp only [bgT, hj1, h9_q]); rw [aBring, e9_q, if_pos (by decide)]]; rfl), rfl⟩, rfl, h8_q⟩) (fun σ n h_q => ?_)
    obtain ⟨⟨j2_q, hj2, rfl, hj2a, hj2b⟩, rfl, rfl⟩ := h_q
    rw [pr_eq, show kH K - 1 + 1 = kH K by omega] at hj2
    refine go_iload_n (pc := 23) dX7_bring_23 rfl ?_
    refine go_if_eq (tgt := 36) (pc := 24) dX7_bring_24 (by decide) (fun h_24 => ?_) (fun h_24 => by exfalso; exact h_24 rfl)
    refine go_aload_n (pc := 36) dX7_bring_36 rfl ?_
    refine go_iload_n (pc := 37) dX7_bring_37 rfl ?_
    refine go_iload_n (pc := 38) dX7_bring_38 rfl ?_
    refine go_V2I (pc := 39) v_X7_269 rfl rfl (rcv_of (ci := 7) (by first | exact co0 hC | exact h5_q | exact sr0 hR_q | exact be0 hQ_q | exact sr0 hT_q | exact be0 hQ9 | exact sr1 hR_q | exact sr2 hR_q | exact sr3 hR_q | exact sr4 hR_q | exact be1 hQ_q | exact be2 hQ_q | exact be3 hQ_q | exact sr3 hT_q | exact sr2 hT_q | exact sr1 hT_q | exact sr4 hT_q | exact co4 hC | exact co2 hC | exact co3 hC | exact co0 hC9 | exact sr0 hR9 | exact co4 hC9 | exact sr3 hR9 | exact sr2 hR9) rfl) dX7_bring_39 (cp_fewest (k := k - 1) hC hR_q hr_q hQ_q hB_q hg_q hS_q hD hsb (by omega) hj1a _) (fun v_39 σ n h_q => ?_)
    obtain ⟨rfl, rfl, hS9, hfX, hl9⟩ := h_q
    have e1_q : (nI j1_q).toInt.toNat = j1_q := by rw [nI_toInt (by omega)]; rfl
    have hC9 := hC.fs hfX (fun q x z => by omega)
    refine go_istore (lw := [_, _, _, _, _, _]) (pc := 42) dX7_bring_42 (by decide) rfl ?_
    refine go_iload_n (pc := 44) dX7_bring_44 rfl ?_
    refine go_if_eq (tgt := 54) (pc := 45) dX7_bring_45 (by decide) (fun h_45 => ?_) (fun h_45 => by exfalso; exact h_45 rfl)
    refine go_iload (pc := 54) dX7_bring_54 rfl ?_
    exact go_iretT (pc := 56) rfl dX7_bring_56 (Nat.le_of_ble_eq_true rfl) (Nat.le_of_ble_eq_true rfl) (by
  have h0_q : bgT K (nI j1_q).toInt (nI j2_q) 0 = 0 := by simp [bgT, hj1, hj2]
  have eA : aBring K (nI j1_q).toInt (nI j2_q) 0 = (0, if upK K j1_q = true then -1 else bgA (bgK K j1_q (nI j2_q)) 0) := by rw [aBring, if_neg (fun hc_q => hc_q h0_q), e1_q]
  rw [eA]
  refine ⟨rfl, ?_, rfl, hS9, hfX⟩
  by_cases e_q : K (16 + j1_q) = -1
  · rw [if_pos e_q]; exact (if_pos (upK_iff.mpr e_q)).symm
  · rw [if_neg e_q]; exact (if_neg (fun hc_q => e_q (upK_iff.mp hc_q))).symm)
  · refine sp_intro [some (.ref a), some (.int p), some (.int y), some (.int z), none, none] (by decide +kernel) rfl (Nat.le_of_ble_eq_true rfl) rfl ?_
    refine go_aload_n (pc := 0) dX7_bring_0 rfl ?_
    refine go_iload_n (pc := 1) dX7_bring_1 rfl ?_
    refine go_V1Vx (pc := 2) v_X7_135 rfl rfl (rcv_of (ci := 7) (by first | exact co0 hC | exact h5_q | exact sr0 hR_q | exact be0 hQ_q | exact sr0 hT_q | exact be0 hQ9 | exact sr1 hR_q | exact sr2 hR_q | exact sr3 hR_q | exact sr4 hR_q | exact be1 hQ_q | exact be2 hQ_q | exact be3 hQ_q | exact sr3 hT_q | exact sr2 hT_q | exact sr1 hT_q | exact sr4 hT_q | exact co4 hC | exact co2 hC | exact co3 hC | exact co0 hC9 | exact sr0 hR9 | exact co4 hC9 | exact sr3 hR9 | exact sr2 hR9) rfl) dX7_bring_2 (cp_needPerson (k := k - 1) hC hR_q hr_q hQ_q hB_q (by omega) _) (fun x σx nx hx_q => by obtain ⟨h9_q, rfl, rfl, h8_q⟩ := hx_q; exact Or.inr ⟨_, rfl, ⟨0, (by rw [show aBring K p.toInt y z = (1, 0) from by have e9_q : bgT K p.toInt y z = 1 := (by simp only [bgT, h9_q]); rw [aBring, e9_q, if_pos (by decide)]]; rfl), rfl⟩, rfl, h8_q⟩) (fun σ n h_q => ?_)
    obtain ⟨⟨j1_q, hj1, rfl, hj1a⟩, rfl, rfl⟩ := h_q
    refine go_aload_n (pc := 5) dX7_bring_5 rfl ?_
    refine go_iload_n (pc := 6) dX7_bring_6 rfl ?_
    refine go_iconst (v := 0) (pc := 7) dX7_bring_7 (by decide) ?_
    refine go_aload_n (pc := 8) dX7_bring_8 rfl ?_
    refine go_getf (pc := 9) f_X7_65 dX7_bring_9 (by first | exact co0 hC | exact h5_q | exact sr0 hR_q | exact be0 hQ_q | exact sr0 hT_q | exact be0 hQ9 | exact sr1 hR_q | exact sr2 hR_q | exact sr3 hR_q | exact sr4 hR_q | exact be1 hQ_q | exact be2 hQ_q | exact be3 hQ_q | exact sr3 hT_q | exact sr2 hT_q | exact sr1 hT_q | exact sr4 hT_q | exact co4 hC | exact co2 hC | exact co3 hC | exact co0 hC9 | exact sr0 hR9 | exact co4 hC9 | exact sr3 hR9 | exact sr2 hR9) (by rfl) ?_
    refine go_getf (pc := 12) f_X7_120 dX7_bring_12 (by first | exact co0 hC | exact h5_q | exact sr0 hR_q | exact be0 hQ_q | exact sr0 hT_q | exact be0 hQ9 | exact sr1 hR_q | exact sr2 hR_q | exact sr3 hR_q | exact sr4 hR_q | exact be1 hQ_q | exact be2 hQ_q | exact be3 hQ_q | exact sr3 hT_q | exact sr2 hT_q | exact sr1 hT_q | exact sr4 hT_q | exact co4 hC | exact co2 hC | exact co3 hC | exact co0 hC9 | exact sr0 hR9 | exact co4 hC9 | exact sr3 hR9 | exact sr2 hR9) (by rfl) ?_
    refine go_getf (pc := 15) f_X7_266 dX7_bring_15 (by first | exact co0 hC | exact h5_q | exact sr0 hR_q | exact be0 hQ_q | exact sr0 hT_q | exact be0 hQ9 | exact sr1 hR_q | exact sr2 hR_q | exact sr3 hR_q | exact sr4 hR_q | exact be1 hQ_q | exact be2 hQ_q | exact be3 hQ_q | exact sr3 hT_q | exact sr2 hT_q | exact sr1 hT_q | exact sr4 hT_q | exact co4 hC | exact co2 hC | exact co3 hC | exact co0 hC9 | exact sr0 hR9 | exact co4 hC9 | exact sr3 hR9 | exact sr2 hR9) (by rfl) ?_
    refine go_iconst (v := 1) (pc := 18) dX7_bring_18 (by decide) ?_
    refine go_isub (pc := 19) dX7_bring_19 ?_
    rw [h_pred hB_q.1 hH1]
    refine go_V3Vx (pc := 20) v_X7_90 rfl rfl (rcv_of (ci := 7) (by first | exact co0 hC | exact h5_q | exact sr0 hR_q | exact be0 hQ_q | exact sr0 hT_q | exact be0 hQ9 | exact sr1 hR_q | exact sr2 hR_q | exact sr3 hR_q | exact sr4 hR_q | exact be1 hQ_q | exact be2 hQ_q | exact be3 hQ_q | exact sr3 hT_q | exact sr2 hT_q | exact sr1 hT_q | exact sr4 hT_q | exact co4 hC | exact co2 hC | exact co3 hC | exact co0 hC9 | exact sr0 hR9 | exact co4 hC9 | exact sr3 hR9 | exact sr2 hR9) rfl) dX7_bring_20 (cp_nW (k := k - 1) (lo := 0) (hi_q := kH K - 1) (by omega) (by decide) (by omega) _) (fun x σx nx hx_q => by obtain ⟨h9_q, rfl, rfl, h8_q⟩ := hx_q; exact Or.inr ⟨_, rfl, ⟨1, (by rw [show aBring K (nI j1_q).toInt y z = (2, 0) from by have e9_q : bgT K (nI j1_q).toInt y z = 2 := (by rw [pr_eq, show kH K - 1 + 1 = kH K by omega] at h9_q; simp only [bgT, hj1, h9_q]); rw [aBring, e9_q, if_pos (by decide)]]; rfl), rfl⟩, rfl, h8_q⟩) (fun σ n h_q => ?_)
    obtain ⟨⟨j2_q, hj2, rfl, hj2a, hj2b⟩, rfl, rfl⟩ := h_q
    rw [pr_eq, show kH K - 1 + 1 = kH K by omega] at hj2
    refine go_iload_n (pc := 23) dX7_bring_23 rfl ?_
    refine go_if_eq (tgt := 36) (pc := 24) dX7_bring_24 (by decide) (fun h_24 => by exfalso; exact hz0 h_24) (fun h_24 => ?_)
    refine go_aload_n (pc := 27) dX7_bring_27 rfl ?_
    refine go_iload_n (pc := 28) dX7_bring_28 rfl ?_
    refine go_bipush (v := 10) (pc := 29) dX7_bring_29 (by decide) ?_
    refine go_bipush (v := 17) (pc := 31) dX7_bring_31 (by decide) ?_
    refine go_V3Vx (pc := 33) v_X7_90 rfl rfl (rcv_of (ci := 7) (by first | exact co0 hC | exact h5_q | exact sr0 hR_q | exact be0 hQ_q | exact sr0 hT_q | exact be0 hQ9 | exact sr1 hR_q | exact sr2 hR_q | exact sr3 hR_q | exact sr4 hR_q | exact be1 hQ_q | exact be2 hQ_q | exact be3 hQ_q | exact sr3 hT_q | exact sr2 hT_q | exact sr1 hT_q | exact sr4 hT_q | exact co4 hC | exact co2 hC | exact co3 hC | exact co0 hC9 | exact sr0 hR9 | exact co4 hC9 | exact sr3 hR9 | exact sr2 hR9) rfl) dX7_bring_33 (cp_nW (k := k - 1) (lo := 10) (hi_q := 17) (by omega) (by decide) (by decide) _) (fun x σx nx hx_q => by obtain ⟨h9_q, rfl, rfl, h8_q⟩ := hx_q; exact Or.inr ⟨_, rfl, ⟨1, (by rw [show aBring K (nI j1_q).toInt (nI j2_q) z = (2, 0) from by have e9_q : bgT K (nI j1_q).toInt (nI j2_q) z = 2 := (by simp only [bgT, hj1, hj2, h9_q]; rw [if_neg hz0]); rw [aBring, e9_q, if_pos (by decide)]]; rfl), rfl⟩, rfl, h8_q⟩) (fun σ n h_q => ?_)
    obtain ⟨⟨j3_q, hj3, rfl, hj3a, hj3b⟩, rfl, rfl⟩ := h_q
    refine go_aload_n (pc := 36) dX7_bring_36 rfl ?_
    refine go_iload_n (pc := 37) dX7_bring_37 rfl ?_
    refine go_iload_n (pc := 38) dX7_bring_38 rfl ?_
    refine go_V2I (pc := 39) v_X7_269 rfl rfl (rcv_of (ci := 7) (by first | exact co0 hC | exact h5_q | exact sr0 hR_q | exact be0 hQ_q | exact sr0 hT_q | exact be0 hQ9 | exact sr1 hR_q | exact sr2 hR_q | exact sr3 hR_q | exact sr4 hR_q | exact be1 hQ_q | exact be2 hQ_q | exact be3 hQ_q | exact sr3 hT_q | exact sr2 hT_q | exact sr1 hT_q | exact sr4 hT_q | exact co4 hC | exact co2 hC | exact co3 hC | exact co0 hC9 | exact sr0 hR9 | exact co4 hC9 | exact sr3 hR9 | exact sr2 hR9) rfl) dX7_bring_39 (cp_fewest (k := k - 1) hC hR_q hr_q hQ_q hB_q hg_q hS_q hD hsb (by omega) hj1a _) (fun v_39 σ n h_q => ?_)
    obtain ⟨rfl, rfl, hS9, hfX, hl9⟩ := h_q
    have e1_q : (nI j1_q).toInt.toNat = j1_q := by rw [nI_toInt (by omega)]; rfl
    have hC9 := hC.fs hfX (fun q x z => by omega)
    refine go_istore (lw := [_, _, _, _, _, _]) (pc := 42) dX7_bring_42 (by decide) rfl ?_
    refine go_iload_n (pc := 44) dX7_bring_44 rfl ?_
    refine go_if_eq (tgt := 54) (pc := 45) dX7_bring_45 (by decide) (fun h_45 => by exfalso; exact hz0 h_45) (fun h_45 => ?_)
    have h0_q : bgT K (nI j1_q).toInt (nI j2_q) (nI j3_q) = 0 := by simp only [bgT, hj1, hj2, hj3]; rw [if_neg hz0]
    refine go_iload (pc := 48) dX7_bring_48 rfl ?_
    refine go_iconst (v := -1) (pc := 50) dX7_bring_50 (by decide) ?_
    refine go_icmp_ne (tgt := 57) (pc := 51) dX7_bring_51 (by decide) (fun h_51 => ?_) (fun h_51 => ?_)
    · have hu9 : K (16 + j1_q) ≠ -1 := fun e_q => h_51 (if_pos e_q)
      rw [if_neg hu9]
      obtain ⟨l9_q, hb9⟩ : ∃ l, bgK K j1_q (nI j2_q) = some l := by
        cases hb9 : bgK K j1_q (nI j2_q) with
        | none => exact absurd (by rw [if_neg hu9, hb9]; rfl) h_51
        | some l => exact ⟨l, rfl⟩
      obtain ⟨hlen, f9, h5_q, hf9⟩ := hl9 l9_q hu9 hb9
      rw [hb9, bgA_0]
      have ez : nI j3_q - 10 = nI (j3_q - 10) := by
        rw [show (10 : Int32) = nI 10 from rfl, pk_sub (by omega)]
      have hA9 : aBring K (nI j1_q).toInt (nI j2_q) (nI j3_q) = (0, if nI (j3_q - 10) < nI l9_q.length then nI (l9_q.getD (j3_q - 10) 0) else -1) := by
        rw [aBring, if_neg (fun hc_q => hc_q h0_q), e1_q, if_neg (fun hc_q => hu9 (upK_iff.mp hc_q)), hb9]
        show ((0 : Int32), if nI j3_q = 0 then nI l9_q.length else if nI j3_q - 10 < nI l9_q.length then nI (l9_q.getD (nI j3_q - 10).toNatClampNeg 0) else -1) = _
        rw [if_neg hz0, ez, nI_clamp (by omega)]
      rw [hA9]
      refine go_iload_n (pc := 57) dX7_bring_57 rfl ?_
      refine go_bipush (v := 10) (pc := 58) dX7_bring_58 (by decide) ?_
      refine go_isub (pc := 60) dX7_bring_60 ?_
      rw [ez]
      refine go_istore (lw := [_, _, _, _, _, _]) (pc := 61) dX7_bring_61 (by decide) rfl ?_
      refine go_iload (pc := 63) dX7_bring_63 rfl ?_
      refine go_iload (pc := 65) dX7_bring_65 rfl ?_
      refine go_icmp_ge (tgt := 90) (pc := 67) dX7_bring_67 (by decide) (fun h_67 => ?_) (fun h_67 => ?_)
      · refine go_iconst (v := -1) (pc := 90) dX7_bring_90 (by decide) ?_
        exact go_iretT (pc := 91) rfl dX7_bring_91 (Nat.le_of_ble_eq_true rfl) (Nat.le_of_ble_eq_true rfl) (by
  first
    | (have g9_q : ¬ nI (j3_q - 10) < nI l9_q.length := Int32.not_lt.mpr h_67
       exact ⟨rfl, (if_neg g9_q).symm, rfl, hS9, hfX⟩)
    | (have g9_q : nI (j3_q - 10) < nI l9_q.length := Int32.not_le.mp h_67
       exact ⟨rfl, (hf9 _ ((nI_ltI (by omega) (by omega)).mp g9_q)).trans (if_pos g9_q).symm, rfl, hS9, hfX⟩))
      · refine go_iload (pc := 70) dX7_bring_70 rfl ?_
        refine go_aload_n (pc := 72) dX7_bring_72 rfl ?_
        refine go_getf (pc := 73) f_X7_41 dX7_bring_73 (by first | exact co0 hC | exact h5_q | exact sr0 hR_q | exact be0 hQ_q | exact sr0 hT_q | exact be0 hQ9 | exact sr1 hR_q | exact sr2 hR_q | exact sr3 hR_q | exact sr4 hR_q | exact be1 hQ_q | exact be2 hQ_q | exact be3 hQ_q | exact sr3 hT_q | exact sr2 hT_q | exact sr1 hT_q | exact sr4 hT_q | exact co4 hC | exact co2 hC | exact co3 hC | exact co0 hC9 | exact sr0 hR9 | exact co4 hC9 | exact sr3 hR9 | exact sr2 hR9) (by rfl) ?_
        refine go_alen (pc := 76) dX7_bring_76 (by first | exact co0 hC | exact h5_q | exact sr0 hR_q | exact be0 hQ_q | exact sr0 hT_q | exact be0 hQ9 | exact sr1 hR_q | exact sr2 hR_q | exact sr3 hR_q | exact sr4 hR_q | exact be1 hQ_q | exact be2 hQ_q | exact be3 hQ_q | exact sr3 hT_q | exact sr2 hT_q | exact sr1 hT_q | exact sr4 hT_q | exact co4 hC | exact co2 hC | exact co3 hC | exact co0 hC9 | exact sr0 hR9 | exact co4 hC9 | exact sr3 hR9 | exact sr2 hR9) (t0 := 0) rfl rfl ?_
        refine go_icmp_ge (tgt := 90) (pc := 77) dX7_bring_77 (by decide) (fun h_77 => by exfalso; exact absurd h_77 (nI_ge (b := 5) (by have := Nat.lt_of_not_le (fun hc_q => h_67 (nI_le hc_q (by omega))); omega) (by decide))) (fun h_77 => ?_)
        refine go_aload_n (pc := 80) dX7_bring_80 rfl ?_
        refine go_getf (pc := 81) f_X7_41 dX7_bring_81 (by first | exact co0 hC | exact h5_q | exact sr0 hR_q | exact be0 hQ_q | exact sr0 hT_q | exact be0 hQ9 | exact sr1 hR_q | exact sr2 hR_q | exact sr3 hR_q | exact sr4 hR_q | exact be1 hQ_q | exact be2 hQ_q | exact be3 hQ_q | exact sr3 hT_q | exact sr2 hT_q | exact sr1 hT_q | exact sr4 hT_q | exact co4 hC | exact co2 hC | exact co3 hC | exact co0 hC9 | exact sr0 hR9 | exact co4 hC9 | exact sr3 hR9 | exact sr2 hR9) (by rfl) ?_
        refine go_iload (pc := 84) dX7_bring_84 rfl ?_
        refine go_iald (pc := 86) dX7_bring_86 (by first | exact co0 hC | exact h5_q | exact sr0 hR_q | exact be0 hQ_q | exact sr0 hT_q | exact be0 hQ9 | exact sr1 hR_q | exact sr2 hR_q | exact sr3 hR_q | exact sr4 hR_q | exact be1 hQ_q | exact be2 hQ_q | exact be3 hQ_q | exact sr3 hT_q | exact sr2 hT_q | exact sr1 hT_q | exact sr4 hT_q | exact co4 hC | exact co2 hC | exact co3 hC | exact co0 hC9 | exact sr0 hR9 | exact co4 hC9 | exact sr3 hR9 | exact sr2 hR9) (by exact ⟨rfl, by have := Nat.lt_of_not_le (fun hc_q => h_67 (nI_le hc_q (by omega))); omega⟩) ?_
        refine go_goto (tgt := 91) (pc := 87) dX7_bring_87 (by decide) ?_
        exact go_iretT (pc := 91) rfl dX7_bring_91 (Nat.le_of_ble_eq_true rfl) (Nat.le_of_ble_eq_true rfl) (by
  first
    | (have g9_q : ¬ nI (j3_q - 10) < nI l9_q.length := Int32.not_lt.mpr h_67
       exact ⟨rfl, (if_neg g9_q).symm, rfl, hS9, hfX⟩)
    | (have g9_q : nI (j3_q - 10) < nI l9_q.length := Int32.not_le.mp h_67
       exact ⟨rfl, (hf9 _ ((nI_ltI (by omega) (by omega)).mp g9_q)).trans (if_pos g9_q).symm, rfl, hS9, hfX⟩))
    · refine go_iload (pc := 54) dX7_bring_54 rfl ?_
      exact go_iretT (pc := 56) rfl dX7_bring_56 (Nat.le_of_ble_eq_true rfl) (Nat.le_of_ble_eq_true rfl) (by
  have g9_q := h_51
  have eA : aBring K (nI j1_q).toInt (nI j2_q) (nI j3_q) = (0, if upK K j1_q = true then -1 else bgA (bgK K j1_q (nI j2_q)) (nI j3_q)) := by rw [aBring, if_neg (fun hc_q => hc_q h0_q), e1_q]
  rw [eA]
  refine ⟨rfl, ?_, rfl, hS9, hfX⟩
  rw [g9_q]
  by_cases e_q : K (16 + j1_q) = -1
  · exact (if_pos (upK_iff.mpr e_q)).symm
  · rw [if_neg e_q] at g9_q
    refine Eq.trans ?_ (if_neg (fun hc_q => e_q (upK_iff.mp hc_q))).symm
    cases hb9 : bgK K j1_q (nI j2_q) with
    | none => rfl
    | some l =>
      rw [hb9, bgA_0] at g9_q
      exact absurd g9_q (nI_ne1 (by have := (hl9 l e_q hb9).1; omega)))
