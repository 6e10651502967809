/-! ===== the reference: who comes forward, who sits down ===== -/
theorem lp_comer {Γ : gam} {n k r : Nat} {F : row} {Nm : Nat → Int64} {K : row} (hk : 5 ≤ k) (hB : okB K) {σ0 : sto} {A0 : Nat → row} {c RES : Int32} {free : Nat} :
    ∀ (mm rr : Nat) (A : Nat → row) (σ : sto), MoAt Γ σ r F K A Nm → eqx [6, 7] A0 A → fr r (r + 16) σ0 σ → rr + mm = kH K → whoC K c free rr mm = RES → ∀ x4 : Option Value, Go Γ (rmk k 0 0) uX8_comer (qI fun v σ' n' => v = RES ∧ moJ Γ r F K A0 Nm σ0 n [6, 7] σ' n') 0 0 4 [some (.ref r), some (.int c), some (.int (nI free)), some (.int (nI rr)), x4] [] σ n := by
  have hH5 := hB.1.2.2.2.1
  have hP8 := hB.1.2.1
  intro mm
  induction mm with
  | zero =>
    intro rr A σ hM hA hf hrr hres x4
    have hres : (-1 : Int32) = RES := hres
    refine go_iload_n (pc := 4) dX8_comer_4 rfl ?_
    refine go_aload_n (pc := 5) dX8_comer_5 rfl ?_
    refine go_getf (pc := 6) f_X8_9 dX8_comer_6 (by first | exact mo0 hM | exact mo1 hM | exact mo6 hM | exact mo7 hM | exact mo8 hM | exact mo2 hM | exact mo3 hM | exact mo4 hM | exact mo5 hM | exact mo9 hM | exact mo10 hM | exact mo11 hM | exact mo12 hM | exact mo13 hM | exact mo14 hM | exact mo15 hM | exact mo16 hM) (by rfl) ?_
    refine go_iconst (v := 2) (pc := 9) dX8_comer_9 (by decide) ?_
    refine go_iald (j := 2) (pc := 10) dX8_comer_10 (by first | exact mo0 hM | exact mo1 hM | exact mo6 hM | exact mo7 hM | exact mo8 hM | exact mo2 hM | exact mo3 hM | exact mo4 hM | exact mo5 hM | exact mo9 hM | exact mo10 hM | exact mo11 hM | exact mo12 hM | exact mo13 hM | exact mo14 hM | exact mo15 hM | exact mo16 hM) (by exact ⟨rfl, by decide⟩) ?_
    refine go_icmp_ge (tgt := 57) (pc := 11) dX8_comer_11 (by decide) (fun h_11 => ?_) (fun h_11 => by exfalso; rw [hB.1.2.2.1] at h_11; exact h_11 (nI_le (by omega) (by omega)))
    refine go_iconst (v := -1) (pc := 57) dX8_comer_57 (by decide) ?_
    exact go_iretI (pc := 58) rfl dX8_comer_58 (Nat.le_of_ble_eq_true rfl) (Nat.le_of_ble_eq_true rfl) ⟨hres, rfl, A, hM, hA, hf⟩
  | succ mm ih =>
    intro rr A σ hM hA hf hrr hres x4
    cases hs : sitK K c (nI rr) with
    | none =>
      refine go_iload_n (pc := 4) dX8_comer_4 rfl ?_
      refine go_aload_n (pc := 5) dX8_comer_5 rfl ?_
      refine go_getf (pc := 6) f_X8_9 dX8_comer_6 (by first | exact mo0 hM | exact mo1 hM | exact mo6 hM | exact mo7 hM | exact mo8 hM | exact mo2 hM | exact mo3 hM | exact mo4 hM | exact mo5 hM | exact mo9 hM | exact mo10 hM | exact mo11 hM | exact mo12 hM | exact mo13 hM | exact mo14 hM | exact mo15 hM | exact mo16 hM) (by rfl) ?_
      refine go_iconst (v := 2) (pc := 9) dX8_comer_9 (by decide) ?_
      refine go_iald (j := 2) (pc := 10) dX8_comer_10 (by first | exact mo0 hM | exact mo1 hM | exact mo6 hM | exact mo7 hM | exact mo8 hM | exact mo2 hM | exact mo3 hM | exact mo4 hM | exact mo5 hM | exact mo9 hM | exact mo10 hM | exact mo11 hM | exact mo12 hM | exact mo13 hM | exact mo14 hM | exact mo15 hM | exact mo16 hM) (by exact ⟨rfl, by decide⟩) ?_
      refine go_icmp_ge (tgt := 57) (pc := 11) dX8_comer_11 (by decide) (fun h_11 => by exfalso; rw [hB.1.2.2.1] at h_11; exact absurd h_11 (nI_ge (by omega) (by omega))) (fun h_11 => ?_)
      refine go_aload_n (pc := 14) dX8_comer_14 rfl ?_
      refine go_iload_n (pc := 15) dX8_comer_15 rfl ?_
      refine go_iload_n (pc := 16) dX8_comer_16 rfl ?_
      refine go_V2P (pc := 17) v_X8_280 rfl rfl (rcv_of (ci := 8) (by first | exact mo0 hM | exact mo1 hM | exact mo6 hM | exact mo7 hM | exact mo8 hM | exact mo2 hM | exact mo3 hM | exact mo4 hM | exact mo5 hM | exact mo9 hM | exact mo10 hM | exact mo11 hM | exact mo12 hM | exact mo13 hM | exact mo14 hM | exact mo15 hM | exact mo16 hM) rfl) dX8_comer_17 (sp_sitter (k := k - 1) hM (by omega) hB.1 _ _) ?_
      rw [hs]
      refine go_istore (lw := [_, _, _, _, _]) (pc := 20) dX8_comer_20 (by decide) rfl ?_
      refine go_iload (pc := 22) dX8_comer_22 rfl ?_
      refine go_iconst (v := -1) (pc := 24) dX8_comer_24 (by decide) ?_
      refine go_icmp_eq (tgt := 51) (pc := 25) dX8_comer_25 (by decide) (fun h_25 => ?_) (fun h_25 => by exfalso; exact h_25 rfl)
      refine go_iinc (v := 1) (lw := [_, _, _, _, _]) (pc := 51) dX8_comer_51 rfl (by decide) (by decide) rfl ?_
      refine go_goto (tgt := 4) (pc := 54) dX8_comer_54 (by decide) ?_
      rw [nI_1]
      exact ih (rr + 1) _ _ hM hA hf (by omega) (by rw [← hres]; simp only [whoC, fnd]; rw [if_neg (by simp [comes, hs])]) _
    | some pp =>
      have hpp := (sitK_lt hs).1
      refine go_iload_n (pc := 4) dX8_comer_4 rfl ?_
      refine go_aload_n (pc := 5) dX8_comer_5 rfl ?_
      refine go_getf (pc := 6) f_X8_9 dX8_comer_6 (by first | exact mo0 hM | exact mo1 hM | exact mo6 hM | exact mo7 hM | exact mo8 hM | exact mo2 hM | exact mo3 hM | exact mo4 hM | exact mo5 hM | exact mo9 hM | exact mo10 hM | exact mo11 hM | exact mo12 hM | exact mo13 hM | exact mo14 hM | exact mo15 hM | exact mo16 hM) (by rfl) ?_
      refine go_iconst (v := 2) (pc := 9) dX8_comer_9 (by decide) ?_
      refine go_iald (j := 2) (pc := 10) dX8_comer_10 (by first | exact mo0 hM | exact mo1 hM | exact mo6 hM | exact mo7 hM | exact mo8 hM | exact mo2 hM | exact mo3 hM | exact mo4 hM | exact mo5 hM | exact mo9 hM | exact mo10 hM | exact mo11 hM | exact mo12 hM | exact mo13 hM | exact mo14 hM | exact mo15 hM | exact mo16 hM) (by exact ⟨rfl, by decide⟩) ?_
      refine go_icmp_ge (tgt := 57) (pc := 11) dX8_comer_11 (by decide) (fun h_11 => by exfalso; rw [hB.1.2.2.1] at h_11; exact absurd h_11 (nI_ge (by omega) (by omega))) (fun h_11 => ?_)
      refine go_aload_n (pc := 14) dX8_comer_14 rfl ?_
      refine go_iload_n (pc := 15) dX8_comer_15 rfl ?_
      refine go_iload_n (pc := 16) dX8_comer_16 rfl ?_
      refine go_V2P (pc := 17) v_X8_280 rfl rfl (rcv_of (ci := 8) (by first | exact mo0 hM | exact mo1 hM | exact mo6 hM | exact mo7 hM | exact mo8 hM | exact mo2 hM | exact mo3 hM | exact mo4 hM | exact mo5 hM | exact mo9 hM | exact mo10 hM | exact mo11 hM | exact mo12 hM | exact mo13 hM | exact mo14 hM | exact mo15 hM | exact mo16 hM) rfl) dX8_comer_17 (sp_sitter (k := k - 1) hM (by omega) hB.1 _ _) ?_
      rw [hs, show oI (some pp) = nI pp from rfl]
      refine go_istore (lw := [_, _, _, _, _]) (pc := 20) dX8_comer_20 (by decide) rfl ?_
      refine go_iload (pc := 22) dX8_comer_22 rfl ?_
      refine go_iconst (v := -1) (pc := 24) dX8_comer_24 (by decide) ?_
      refine go_icmp_eq (tgt := 51) (pc := 25) dX8_comer_25 (by decide) (fun h_25 => by exfalso; exact absurd h_25 (nI_ne1 (by omega))) (fun h_25 => ?_)
      refine go_aload_n (pc := 28) dX8_comer_28 rfl ?_
      refine go_iload (pc := 29) dX8_comer_29 rfl ?_
      refine go_V1P (pc := 31) v_X8_283 rfl rfl (rcv_of (ci := 8) (by first | exact mo0 hM | exact mo1 hM | exact mo6 hM | exact mo7 hM | exact mo8 hM | exact mo2 hM | exact mo3 hM | exact mo4 hM | exact mo5 hM | exact mo9 hM | exact mo10 hM | exact mo11 hM | exact mo12 hM | exact mo13 hM | exact mo14 hM | exact mo15 hM | exact mo16 hM) rfl) dX8_comer_31 (sp_isAsleep (k := k - 1) hM (by omega)) ?_
      refine go_if_ne (tgt := 51) (pc := 34) dX8_comer_34 (by decide) (fun h_34 => ?_) (fun h_34 => ?_)
      · refine go_iinc (v := 1) (lw := [_, _, _, _, _]) (pc := 51) dX8_comer_51 rfl (by decide) (by decide) rfl ?_
        refine go_goto (tgt := 4) (pc := 54) dX8_comer_54 (by decide) ?_
        rw [nI_1]
        exact ih (rr + 1) _ _ hM hA hf (by omega) (by rw [← hres]; simp only [whoC, fnd]; rw [if_neg (by simp only [comes, hs]; simp only [bI_0, Decidable.not_not] at *; simp [*])]) _
      · refine go_aload_n (pc := 37) dX8_comer_37 rfl ?_
        refine go_iload (pc := 38) dX8_comer_38 rfl ?_
        refine go_iload_n (pc := 40) dX8_comer_40 rfl ?_
        refine go_iload_n (pc := 41) dX8_comer_41 rfl ?_
        refine go_V3I (pc := 42) v_X8_286 rfl rfl (rcv_of (ci := 8) (by first | exact mo0 hM | exact mo1 hM | exact mo6 hM | exact mo7 hM | exact mo8 hM | exact mo2 hM | exact mo3 hM | exact mo4 hM | exact mo5 hM | exact mo9 hM | exact mo10 hM | exact mo11 hM | exact mo12 hM | exact mo13 hM | exact mo14 hM | exact mo15 hM | exact mo16 hM) rfl) dX8_comer_42 (sp_comesTo (k := k - 1) hM (by omega) (by omega) _ _ hB.2.1) (fun v_42 σ n h => ?_)
        obtain ⟨rfl, rfl, A1, hM, hA1, hf1⟩ := h
        have hA : eqx [6, 7] A0 A1 := eqx.tr (by repeat (first | assumption | exact eqx.rf | refine eqx.up ?_ (by decide))) (hA1.wk (by decide))
        have hf := hf.tr hf1
        refine go_if_eq (tgt := 51) (pc := 45) dX8_comer_45 (by decide) (fun h_45 => ?_) (fun h_45 => ?_)
        · refine go_iinc (v := 1) (lw := [_, _, _, _, _]) (pc := 51) dX8_comer_51 rfl (by decide) (by decide) rfl ?_
          refine go_goto (tgt := 4) (pc := 54) dX8_comer_54 (by decide) ?_
          rw [nI_1]
          exact ih (rr + 1) _ _ hM hA hf (by omega) (by rw [← hres]; simp only [whoC, fnd]; rw [if_neg (by simp only [comes, hs]; simp only [bI_0, Decidable.not_not] at *; simp [*])]) _
        · refine go_iload (pc := 48) dX8_comer_48 rfl ?_
          exact go_iretI (pc := 50) rfl dX8_comer_50 (Nat.le_of_ble_eq_true rfl) (Nat.le_of_ble_eq_true rfl) ⟨(by rw [← hres]; simp only [whoC, fnd]; rw [if_pos (by simp only [comes, hs]; simp only [bI_0, Decidable.not_not] at h_34 h_45; simp [h_34, h_45])]; simp [hs, oI]), rfl, _, hM, hA, hf⟩
theorem sp_comer {Γ : gam} {σ : sto} {n k r : Nat} {F K : row} {A : Nat → row} {Nm : Nat → Int64} (hM : MoAt Γ σ r F K A Nm) (hk : 5 ≤ k) (hB : okB K) (c : Int32) {free : Nat} (hfr : free < kH K) : Sp Γ (rmk k 0 0) uX8_comer [.ref r, .int c, .int (nI free)] σ n (qI fun v σ' n' => v = whoC K c free (free + 1) (kH K - (free + 1)) ∧ moJ Γ r F K A Nm σ n [6, 7] σ' n') := by
  refine sp_intro [some (.ref r), some (.int c), some (.int (nI free)), none, none] (by decide +kernel) rfl (Nat.le_of_ble_eq_true rfl) rfl ?_
  refine go_iload_n (pc := 0) dX8_comer_0 rfl ?_
  refine go_iconst (v := 1) (pc := 1) dX8_comer_1 (by decide) ?_
  refine go_iadd (pc := 2) dX8_comer_2 ?_
  refine go_istore_n (lw := [_, _, _, _, _]) (pc := 3) dX8_comer_3 (by decide) rfl ?_
  rw [nI_1]
  exact lp_comer hk hB (kH K - (free + 1)) (free + 1) A σ hM eqx.rf fr.rf (by omega) rfl none
theorem lastF_none {K : row} {c : Int32} {m : Nat} (h : sitK K c (nI m) = none) : lastF K c (m + 1) = some m := by rw [lastF, if_pos h]
theorem lastF_some {K : row} {c : Int32} {m pp : Nat} (h : sitK K c (nI m) = some pp) : lastF K c (m + 1) = lastF K c m := by rw [lastF, if_neg (by rw [h]; simp)]
theorem lp_lastFree {Γ : gam} {n k r : Nat} {F : row} {Nm : Nat → Int64} {K : row} {A : Nat → row} {σ : sto} (hM : MoAt Γ σ r F K A Nm) (hk : 2 ≤ k) (hB : okB K) {c RES : Int32} :
    ∀ (mm : Nat), mm ≤ kH K → oI (lastF K c mm) = RES → Go Γ (rmk k 0 0) uX8_lastFree (qP RES σ n) 0 0 9 [some (.ref r), some (.int c), some (.int (nI mm - 1))] [] σ n := by
  have hH5 := hB.1.2.2.2.1
  have hP8 := hB.1.2.1
  intro mm
  induction mm with
  | zero =>
    intro hmm hres
    rw [show nI 0 - 1 = (-1 : Int32) from by decide]
    refine go_iload_n (pc := 9) dX8_lastFree_9 rfl ?_
    refine go_if_lt (tgt := 29) (pc := 10) dX8_lastFree_10 (by decide) (fun h_10 => ?_) (fun h_10 => by exfalso; exact h_10 (by decide))
    refine go_iload_n (pc := 29) dX8_lastFree_29 rfl ?_
    exact go_iretP (pc := 30) rfl dX8_lastFree_30 (Nat.le_of_ble_eq_true rfl) (Nat.le_of_ble_eq_true rfl) hres
  | succ mm ih =>
    intro hmm hres
    rw [nI_pred]
    cases hs : sitK K c (nI mm) with
    | none =>
      refine go_iload_n (pc := 9) dX8_lastFree_9 rfl ?_
      refine go_if_lt (tgt := 29) (pc := 10) dX8_lastFree_10 (by decide) (fun h_10 => by exfalso; exact absurd h_10 (nI_pos (by omega))) (fun h_10 => ?_)
      refine go_aload_n (pc := 13) dX8_lastFree_13 rfl ?_
      refine go_iload_n (pc := 14) dX8_lastFree_14 rfl ?_
      refine go_iload_n (pc := 15) dX8_lastFree_15 rfl ?_
      refine go_V2P (pc := 16) v_X8_280 rfl rfl (rcv_of (ci := 8) (by first | exact mo0 hM | exact mo1 hM | exact mo6 hM | exact mo7 hM | exact mo8 hM | exact mo2 hM | exact mo3 hM | exact mo4 hM | exact mo5 hM | exact mo9 hM | exact mo10 hM | exact mo11 hM | exact mo12 hM | exact mo13 hM | exact mo14 hM | exact mo15 hM | exact mo16 hM) rfl) dX8_lastFree_16 (sp_sitter (k := k - 1) hM (by omega) hB.1 _ _) ?_
      rw [hs]
      refine go_iconst (v := -1) (pc := 19) dX8_lastFree_19 (by decide) ?_
      refine go_icmp_eq (tgt := 29) (pc := 20) dX8_lastFree_20 (by decide) (fun h_20 => ?_) (fun h_20 => by exfalso; exact h_20 rfl)
      refine go_iload_n (pc := 29) dX8_lastFree_29 rfl ?_
      exact go_iretP (pc := 30) rfl dX8_lastFree_30 (Nat.le_of_ble_eq_true rfl) (Nat.le_of_ble_eq_true rfl) (by rw [← hres, lastF_none hs]; rfl)
    | some pp =>
      have hpp := (sitK_lt hs).1
      refine go_iload_n (pc := 9) dX8_lastFree_9 rfl ?_
      refine go_if_lt (tgt := 29) (pc := 10) dX8_lastFree_10 (by decide) (fun h_10 => by exfalso; exact absurd h_10 (nI_pos (by omega))) (fun h_10 => ?_)
      refine go_aload_n (pc := 13) dX8_lastFree_13 rfl ?_
      refine go_iload_n (pc := 14) dX8_lastFree_14 rfl ?_
      refine go_iload_n (pc := 15) dX8_lastFree_15 rfl ?_
      refine go_V2P (pc := 16) v_X8_280 rfl rfl (rcv_of (ci := 8) (by first | exact mo0 hM | exact mo1 hM | exact mo6 hM | exact mo7 hM | exact mo8 hM | exact mo2 hM | exact mo3 hM | exact mo4 hM | exact mo5 hM | exact mo9 hM | exact mo10 hM | exact mo11 hM | exact mo12 hM | exact mo13 hM | exact mo14 hM | exact mo15 hM | exact mo16 hM) rfl) dX8_lastFree_16 (sp_sitter (k := k - 1) hM (by omega) hB.1 _ _) ?_
      rw [hs, show oI (some pp) = nI pp from rfl]
      refine go_iconst (v := -1) (pc := 19) dX8_lastFree_19 (by decide) ?_
      refine go_icmp_eq (tgt := 29) (pc := 20) dX8_lastFree_20 (by decide) (fun h_20 => by exfalso; exact absurd h_20 (nI_ne1 (by omega))) (fun h_20 => ?_)
      refine go_iinc (v := -1) (lw := [_, _, _]) (pc := 23) dX8_lastFree_23 rfl (by decide) (by decide) rfl ?_
      refine go_goto (tgt := 9) (pc := 26) dX8_lastFree_26 (by decide) ?_
      rw [show nI mm + -1 = nI mm - 1 from (Int32.sub_eq_add_neg ..).symm]
      exact ih (by omega) (by rw [← hres, lastF_some hs])
theorem sp_lastFree {Γ : gam} {σ : sto} {n k r : Nat} {F K : row} {A : Nat → row} {Nm : Nat → Int64} (hM : MoAt Γ σ r F K A Nm) (hk : 2 ≤ k) (hB : okB K) (c : Int32) : Sp Γ (rmk k 0 0) uX8_lastFree [.ref r, .int c] σ n (qP (oI (freeK K c)) σ n) := by
  refine sp_intro [some (.ref r), some (.int c), none] (by decide +kernel) rfl (Nat.le_of_ble_eq_true rfl) rfl ?_
  refine go_aload_n (pc := 0) dX8_lastFree_0 rfl ?_
  refine go_getf (pc := 1) f_X8_9 dX8_lastFree_1 (by first | exact mo0 hM | exact mo1 hM | exact mo6 hM | exact mo7 hM | exact mo8 hM | exact mo2 hM | exact mo3 hM | exact mo4 hM | exact mo5 hM | exact mo9 hM | exact mo10 hM | exact mo11 hM | exact mo12 hM | exact mo13 hM | exact mo14 hM | exact mo15 hM | exact mo16 hM) (by rfl) ?_
  refine go_iconst (v := 2) (pc := 4) dX8_lastFree_4 (by decide) ?_
  refine go_iald (j := 2) (pc := 5) dX8_lastFree_5 (by first | exact mo0 hM | exact mo1 hM | exact mo6 hM | exact mo7 hM | exact mo8 hM | exact mo2 hM | exact mo3 hM | exact mo4 hM | exact mo5 hM | exact mo9 hM | exact mo10 hM | exact mo11 hM | exact mo12 hM | exact mo13 hM | exact mo14 hM | exact mo15 hM | exact mo16 hM) (by exact ⟨rfl, by decide⟩) ?_
  refine go_iconst (v := 1) (pc := 6) dX8_lastFree_6 (by decide) ?_
  refine go_isub (pc := 7) dX8_lastFree_7 ?_
  refine go_istore_n (lw := [_, _, _]) (pc := 8) dX8_lastFree_8 (by decide) rfl ?_
  rw [hB.1.2.2.1]
  exact lp_lastFree hM hk hB (kH K) (Nat.le_refl _) rfl
theorem sp_sitsDown {Γ : gam} {σ : sto} {n k r : Nat} {F K : row} {A : Nat → row} {Nm : Nat → Int64} (hM : MoAt Γ σ r F K A Nm) (hk : 3 ≤ k) (hB : okB K) (c : Int32) {p : Nat} (hp : p < 8) : Sp Γ (rmk k 0 0) uX8_sitsDown [.ref r, .int (nI p), .int c] σ n (qI fun v σ' n' => v = oI (freeK K c) ∧ moJ Γ r F (sitdK K p c) A Nm σ n [6, 7] σ' n') := by
  have hf : fr r (r + 16) σ σ := fr.rf
  refine sp_intro [some (.ref r), some (.int (nI p)), some (.int c)] (by decide +kernel) rfl (Nat.le_of_ble_eq_true rfl) rfl ?_
  refine go_aload_n (pc := 0) dX8_sitsDown_0 rfl ?_
  refine go_getf (pc := 1) f_X8_9 dX8_sitsDown_1 (by first | exact mo0 hM | exact mo1 hM | exact mo6 hM | exact mo7 hM | exact mo8 hM | exact mo2 hM | exact mo3 hM | exact mo4 hM | exact mo5 hM | exact mo9 hM | exact mo10 hM | exact mo11 hM | exact mo12 hM | exact mo13 hM | exact mo14 hM | exact mo15 hM | exact mo16 hM) (by rfl) ?_
  refine go_bipush (v := 16) (pc := 4) dX8_sitsDown_4 (by decide) ?_
  refine go_iload_n (pc := 6) dX8_sitsDown_6 rfl ?_
  refine go_iadd (pc := 7) dX8_sitsDown_7 ?_
  refine go_aload_n (pc := 8) dX8_sitsDown_8 rfl ?_
  refine go_iload_n (pc := 9) dX8_sitsDown_9 rfl ?_
  refine go_V1P (pc := 10) v_X8_293 rfl rfl (rcv_of (ci := 8) (by first | exact mo0 hM | exact mo1 hM | exact mo6 hM | exact mo7 hM | exact mo8 hM | exact mo2 hM | exact mo3 hM | exact mo4 hM | exact mo5 hM | exact mo9 hM | exact mo10 hM | exact mo11 hM | exact mo12 hM | exact mo13 hM | exact mo14 hM | exact mo15 hM | exact mo16 hM) rfl) dX8_sitsDown_10 (sp_lastFree (k := k - 1) hM (by omega) hB _) ?_
  refine go_mstK (pc := 13) hM dX8_sitsDown_13 (by exact ⟨nI_add 16 _, by omega⟩) (fun σ hM hf9 => ?_)
  have hf := hf.tr hf9
  refine go_aload_n (pc := 14) dX8_sitsDown_14 rfl ?_
  refine go_getf (pc := 15) f_X8_9 dX8_sitsDown_15 (by first | exact mo0 hM | exact mo1 hM | exact mo6 hM | exact mo7 hM | exact mo8 hM | exact mo2 hM | exact mo3 hM | exact mo4 hM | exact mo5 hM | exact mo9 hM | exact mo10 hM | exact mo11 hM | exact mo12 hM | exact mo13 hM | exact mo14 hM | exact mo15 hM | exact mo16 hM) (by rfl) ?_
  refine go_bipush (v := 8) (pc := 18) dX8_sitsDown_18 (by decide) ?_
  refine go_iload_n (pc := 20) dX8_sitsDown_20 rfl ?_
  refine go_iadd (pc := 21) dX8_sitsDown_21 ?_
  refine go_iload_n (pc := 22) dX8_sitsDown_22 rfl ?_
  refine go_mstK (pc := 23) hM dX8_sitsDown_23 (by exact ⟨nI_add 8 _, by omega⟩) (fun σ hM hf9 => ?_)
  have hf := hf.tr hf9
  refine go_aload_n (pc := 24) dX8_sitsDown_24 rfl ?_
  refine go_getf (pc := 25) f_X8_9 dX8_sitsDown_25 (by first | exact mo0 hM | exact mo1 hM | exact mo6 hM | exact mo7 hM | exact mo8 hM | exact mo2 hM | exact mo3 hM | exact mo4 hM | exact mo5 hM | exact mo9 hM | exact mo10 hM | exact mo11 hM | exact mo12 hM | exact mo13 hM | exact mo14 hM | exact mo15 hM | exact mo16 hM) (by rfl) ?_
  refine go_bipush (v := 24) (pc := 28) dX8_sitsDown_28 (by decide) ?_
  refine go_iload_n (pc := 30) dX8_sitsDown_30 rfl ?_
  refine go_iadd (pc := 31) dX8_sitsDown_31 ?_
  refine go_iconst (v := -1) (pc := 32) dX8_sitsDown_32 (by decide) ?_
  refine go_mstK (pc := 33) hM dX8_sitsDown_33 (by exact ⟨nI_add 24 _, by omega⟩) (fun σ hM hf9 => ?_)
  have hf := hf.tr hf9
  refine go_aload_n (pc := 34) dX8_sitsDown_34 rfl ?_
  refine go_getf (pc := 35) f_X8_9 dX8_sitsDown_35 (by first | exact mo0 hM | exact mo1 hM | exact mo6 hM | exact mo7 hM | exact mo8 hM | exact mo2 hM | exact mo3 hM | exact mo4 hM | exact mo5 hM | exact mo9 hM | exact mo10 hM | exact mo11 hM | exact mo12 hM | exact mo13 hM | exact mo14 hM | exact mo15 hM | exact mo16 hM) (by rfl) ?_
  refine go_bipush (v := 16) (pc := 38) dX8_sitsDown_38 (by decide) ?_
  refine go_iload_n (pc := 40) dX8_sitsDown_40 rfl ?_
  refine go_iadd (pc := 41) dX8_sitsDown_41 ?_
  refine go_iald (pc := 42) dX8_sitsDown_42 (by first | exact mo0 hM | exact mo1 hM | exact mo6 hM | exact mo7 hM | exact mo8 hM | exact mo2 hM | exact mo3 hM | exact mo4 hM | exact mo5 hM | exact mo9 hM | exact mo10 hM | exact mo11 hM | exact mo12 hM | exact mo13 hM | exact mo14 hM | exact mo15 hM | exact mo16 hM) (by exact ⟨nI_add 16 _, by omega⟩) ?_
  exact go_iretI (pc := 43) rfl dX8_sitsDown_43 (Nat.le_of_ble_eq_true rfl) (Nat.le_of_ble_eq_true rfl) ⟨(by simp [upd]), rfl, A, hM, eqx.rf, hf⟩
