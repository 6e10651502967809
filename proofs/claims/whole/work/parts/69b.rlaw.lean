/-! ===== the reference: steps of a law ===== -/
theorem sp_laysStep {Γ : gam} {z0 : sto} {n k r_q N w d_q : Nat} {F K : row} {A : Nat → row} {Nm : Nat → Int64} {s : ps} (hM_q : MoAt Γ z0 r_q F K A Nm) (hS_q : rfR (A 5) N F s) (hW : rsR F (A 2) w d_q s) (hw_q : 4 ≤ w ∧ w ≤ 6) (hl : s.st.length < 900) {c_q : Int32} : Sp Γ (rmk k 0 0) uX8_laysStep [.ref r_q, .int c_q] z0 n (qV fun σ' n' => n' = n ∧ RfP Γ z0 r_q N w d_q F K A Nm (emitP c_q s) σ') := by
  refine sp_intro [some (.ref r_q), some (.int c_q)] (by decide +kernel) rfl (Nat.le_of_ble_eq_true rfl) rfl ?_
  have hwA := lwA_b (w := w)
  obtain ⟨e17, e18, e16, hE⟩ := hW
  by_cases hb_q : s.bad = 0
  · refine go_aload_n (pc := 0) dX8_laysStep_0 rfl ?_
    refine go_getf (pc := 1) f_X8_99 dX8_laysStep_1 (by first | exact mo0 hM_q | exact mo2 hM_q) (by rfl) ?_
    rw [hS_q.2.1]
    refine go_if_eq (tgt := 8) (pc := 4) dX8_laysStep_4 (by decide) (fun h_4 => ?_) (fun h_4 => by exfalso; exact h_4 hb_q)
    obtain ⟨eW, eJ⟩ := hE hb_q
    have hf_q : fr r_q (r_q + 16) z0 z0 := fr.rf
    refine go_aload_n (pc := 8) dX8_laysStep_8 rfl ?_
    refine go_getf (pc := 9) f_X8_13 dX8_laysStep_9 (by first | exact mo0 hM_q | exact mo2 hM_q) (by rfl) ?_
    refine go_aload_n (pc := 12) dX8_laysStep_12 rfl ?_
    refine go_getf (pc := 13) f_X8_132 dX8_laysStep_13 (by first | exact mo0 hM_q | exact mo2 hM_q) (by rfl) ?_
    refine go_aload_n (pc := 16) dX8_laysStep_16 rfl ?_
    refine go_getf (pc := 17) f_X8_13 dX8_laysStep_17 (by first | exact mo0 hM_q | exact mo2 hM_q) (by rfl) ?_
    refine go_aload_n (pc := 20) dX8_laysStep_20 rfl ?_
    refine go_getf (pc := 21) f_X8_135 dX8_laysStep_21 (by first | exact mo0 hM_q | exact mo2 hM_q) (by rfl) ?_
    refine go_iald (pc := 24) dX8_laysStep_24 (by first | exact mo0 hM_q | exact mo2 hM_q) (by exact ⟨e17, by omega⟩) ?_
    refine go_iadd (pc := 25) dX8_laysStep_25 ?_
    rw [e18, eW, nI_add]
    refine go_iload_n (pc := 26) dX8_laysStep_26 rfl ?_
    refine go_mst2 (pc := 27) hM_q dX8_laysStep_27 (by exact ⟨rfl, by omega⟩) (fun σ hM_q hf9 => ?_)
    have hf_q := hf_q.tr hf9
    obtain ⟨A1, hM_q, aA1, oA1⟩ : ∃ A1 : Nat → row, MoAt Γ σ r_q F K A1 Nm ∧ A1 2 = upd (A 2) (lwA w + s.st.length) (c_q) ∧ ∀ i_q, i_q ≠ 2 → A1 i_q = A i_q := ⟨_, hM_q, by simp [updA], fun i_q hi_q => by simp [updA, hi_q]⟩
    have eW1 : A1 2 w = nI s.st.length := by rw [aA1, pk_un (by omega)]; exact eW
    refine go_aload_n (pc := 28) dX8_laysStep_28 rfl ?_
    refine go_getf (pc := 29) f_X8_13 dX8_laysStep_29 (by first | exact mo0 hM_q | exact mo2 hM_q) (by rfl) ?_
    refine go_aload_n (pc := 32) dX8_laysStep_32 rfl ?_
    refine go_getf (pc := 33) f_X8_135 dX8_laysStep_33 (by first | exact mo0 hM_q | exact mo2 hM_q) (by rfl) ?_
    refine go_dup2 (pc := 36) dX8_laysStep_36 rfl rfl ?_
    refine go_iald (pc := 37) dX8_laysStep_37 (by first | exact mo0 hM_q | exact mo2 hM_q) (by exact ⟨e17, by omega⟩) ?_
    refine go_iconst (v := 1) (pc := 38) dX8_laysStep_38 (by decide) ?_
    refine go_iadd (pc := 39) dX8_laysStep_39 ?_
    rw [eW1, nI_1]
    refine go_mst2 (pc := 40) hM_q dX8_laysStep_40 (by exact ⟨e17, by omega⟩) (fun σ hM_q hf9 => ?_)
    have hf_q := hf_q.tr hf9
    obtain ⟨A2, hM_q, aA2, oA2⟩ : ∃ A2 : Nat → row, MoAt Γ σ r_q F K A2 Nm ∧ A2 2 = upd (A1 2) (w) (nI (s.st.length + 1)) ∧ ∀ i_q, i_q ≠ 2 → A2 i_q = A1 i_q := ⟨_, hM_q, by simp [updA], fun i_q hi_q => by simp [updA, hi_q]⟩
    exact go_vretV (pc := 41) rfl dX8_laysStep_41 (Nat.le_of_ble_eq_true rfl) (Nat.le_of_ble_eq_true rfl) (by
  rw [emitP, if_pos hb_q]
  refine ⟨rfl, F, A2, hM_q, ⟨hS_q.1, hS_q.2.1, hS_q.2.2.1, hS_q.2.2.2⟩, ⟨e17, e18, e16, fun _ => ⟨?_, fun j hj_q => ?_⟩⟩, fun _ _ _ => rfl, fun i_q hi_q => (oA2 i_q hi_q).trans (oA1 i_q hi_q), fun j h1_q h2_q => ?_, hf_q⟩
  · show A2 2 w = nI (s.st ++ [c_q]).length
    rw [aA2, pk_us, List.length_append, List.length_singleton]
  · have hj_q : j < (s.st ++ [c_q]).length := hj_q
    rw [List.length_append, List.length_singleton] at hj_q
    show A2 2 (lwA w + j) = (s.st ++ [c_q]).getD j 0
    rw [aA2, pk_un (by omega), aA1]
    by_cases e9_q : j = s.st.length
    · subst e9_q
      rw [pk_us]
      simp [List.getD]
    · rw [pk_un (by omega), eJ j (by omega), List.getD_eq_getElem?_getD, List.getD_eq_getElem?_getD, List.getElem?_append_left (by omega)]
  · rw [aA2, pk_un h1_q, aA1, pk_un (by omega)])
  · refine go_aload_n (pc := 0) dX8_laysStep_0 rfl ?_
    refine go_getf (pc := 1) f_X8_99 dX8_laysStep_1 (by first | exact mo0 hM_q | exact mo2 hM_q) (by rfl) ?_
    rw [hS_q.2.1]
    refine go_if_eq (tgt := 8) (pc := 4) dX8_laysStep_4 (by decide) (fun h_4 => by exfalso; exact hb_q h_4) (fun h_4 => ?_)
    exact go_vretV (pc := 7) rfl dX8_laysStep_7 (Nat.le_of_ble_eq_true rfl) (Nat.le_of_ble_eq_true rfl) (by rw [emitP, if_neg hb_q]; exact ⟨rfl, RfP.rf hM_q hS_q ⟨e17, e18, e16, hE⟩⟩)
