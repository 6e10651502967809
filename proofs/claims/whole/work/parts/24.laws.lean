/-! ===== the reference: what its three laws say ===== -/
def okL (K : row) (mn pl : Nat) (w : Int32) (fb : Bool) : Prop := ∃ cnt : Nat, K mn = nI cnt ∧ cnt ≤ 900 ∧ kinK w (codeK K mn pl) [] = some [fb]
theorem codeK_len {K : row} {mn pl cnt : Nat} (h : K mn = nI cnt) (hc : cnt ≤ 900) : (codeK K mn pl).length = cnt := by simp [codeK, h, nI_clamp (show cnt < 2 ^ 31 by omega)]
theorem codeK_at {K : row} {mn pl cnt j : Nat} (h : K mn = nI cnt) (hc : cnt ≤ 900) (hj : j < cnt) : (codeK K mn pl).getD j 0 = K (pl + j) := by
  simp [codeK, h, nI_clamp (show cnt < 2 ^ 31 by omega), hj, List.getD_eq_getElem?_getD]
theorem sp_lawOf {Γ : gam} {σ : sto} {n k r : Nat} {F K : row} {A : Nat → row} {Nm : Nat → Int64} (hM : MoAt Γ σ r F K A Nm) (hk : 3 ≤ k) {mn pl : Nat} {as : row} {w : Int32} {fb : Bool} (hL : okL K mn pl w fb) (hw : w ≤ 104) (hmn : mn < 3020) (hpl : pl ≤ 2119) (hA7 : ∀ j, j < 5 → A 7 j = as j) : Sp Γ (rmk k 0 0) uX8_lawOf [.ref r, .int (nI mn), .int (nI pl)] σ n (qI fun v σ' n' => v = lawK K mn pl as ∧ moJ Γ r F K A Nm σ n [6] σ' n') := by
  obtain ⟨cnt, hc, hc9, hkin⟩ := hL
  refine sp_intro [some (.ref r), some (.int (nI mn)), some (.int (nI pl)), none, none, none] (by decide +kernel) rfl (Nat.le_of_ble_eq_true rfl) rfl ?_
  refine go_iconst (v := 0) (pc := 0) dX8_lawOf_0 (by decide) ?_
  refine go_istore_n (lw := [_, _, _, _, _, _]) (pc := 1) dX8_lawOf_1 (by decide) rfl ?_
  refine go_iconst (v := 0) (pc := 2) dX8_lawOf_2 (by decide) ?_
  refine go_istore (lw := [_, _, _, _, _, _]) (pc := 3) dX8_lawOf_3 (by decide) rfl ?_
  exact lp_law hk hw hmn hc (by omega) (codeK K mn pl) 0 [] [] 0 A σ hM eqx.rf fr.rf hA7 (fun j hj => absurd hj (by simp)) rfl rfl (by omega) hkin (fun j hj => by rw [codeK_at hc hc9 (by rw [codeK_len hc hc9] at hj; exact hj)]; rfl) (by rw [codeK_len hc hc9]; omega) rfl none
/-- a law reads no word but those that it may hold -/
theorem runK_congr {w : Int32} {as bs : row} (h : ∀ x : Int32, 100 ≤ x → x ≤ w → as (x - 100).toNatClampNeg = bs (x - 100).toNatClampNeg) : ∀ (cs : List Int32) (s : List Int32) (ts fin : List Bool), kinK w cs ts = some fin → runK as cs s = runK bs cs s := by
  intro cs
  induction cs with
  | nil => intros; rfl
  | cons x cs ih =>
    intro s ts fin hk
    have e : stepK as x s = stepK bs x s := by
      rcases kin_cons hk with ⟨h1, h2, -, -⟩ | ⟨rfl, -⟩ | ⟨hx, -⟩
      · rw [sk_push h1, sk_push h1]
        by_cases h3 : 1000 ≤ x
        · simp [h3]
        · simp only [h3, if_false, h x h1 (h2.resolve_left h3)]
      · rfl
      · rcases hx with rfl | rfl | rfl | rfl | rfl | rfl | rfl | rfl <;> rfl
    rw [runK, runK, e]
    rcases kin_cons hk with ⟨-, -, -, h1⟩ | ⟨-, ts', -, h1⟩ | ⟨-, _, _, _, ts', -, h1⟩
    · exact ih _ _ _ h1
    · exact ih _ _ _ h1
    · exact ih _ _ _ h1
theorem lawK_congr {K : row} {mn pl : Nat} {w : Int32} {fb : Bool} {as bs : row} (hL : okL K mn pl w fb) (h : ∀ x : Int32, 100 ≤ x → x ≤ w → as (x - 100).toNatClampNeg = bs (x - 100).toNatClampNeg) : lawK K mn pl as = lawK K mn pl bs := by
  obtain ⟨cnt, hc, hc9, hkin⟩ := hL
  rw [lawK, lawK, runK_congr h _ _ _ _ hkin]
theorem sp_comesTo {Γ : gam} {σ : sto} {n k r : Nat} {F K : row} {A : Nat → row} {Nm : Nat → Int64} (hM : MoAt Γ σ r F K A Nm) (hk : 4 ≤ k) {p : Nat} (hp : p < 8) (c w : Int32) (hL : K 4 = 0 ∨ okL K 4 319 104 true) : Sp Γ (rmk k 0 0) uX8_comesTo [.ref r, .int (nI p), .int c, .int w] σ n (qI fun v σ' n' => v = bI (comK K p c w = true) ∧ moJ Γ r F K A Nm σ n [6, 7] σ' n') := by
  have hA : eqx [6, 7] A A := eqx.rf
  have hf : fr r (r + 16) σ σ := fr.rf
  refine sp_intro [some (.ref r), some (.int (nI p)), some (.int c), some (.int w)] (by decide +kernel) rfl (Nat.le_of_ble_eq_true rfl) rfl ?_
  refine go_aload_n (pc := 0) dX8_comesTo_0 rfl ?_
  refine go_getf (pc := 1) f_X8_9 dX8_comesTo_1 (by first | exact mo0 hM | exact mo1 hM | exact mo6 hM | exact mo7 hM | exact mo8 hM | exact mo2 hM | exact mo3 hM | exact mo4 hM | exact mo5 hM | exact mo9 hM | exact mo10 hM | exact mo11 hM | exact mo12 hM | exact mo13 hM | exact mo14 hM | exact mo15 hM | exact mo16 hM) (by rfl) ?_
  refine go_iconst (v := 4) (pc := 4) dX8_comesTo_4 (by decide) ?_
  refine go_iald (j := 4) (pc := 5) dX8_comesTo_5 (by first | exact mo0 hM | exact mo1 hM | exact mo6 hM | exact mo7 hM | exact mo8 hM | exact mo2 hM | exact mo3 hM | exact mo4 hM | exact mo5 hM | exact mo9 hM | exact mo10 hM | exact mo11 hM | exact mo12 hM | exact mo13 hM | exact mo14 hM | exact mo15 hM | exact mo16 hM) (by exact ⟨rfl, by decide⟩) ?_
  refine go_if_ne (tgt := 11) (pc := 6) dX8_comesTo_6 (by decide) (fun h_6 => ?_) (fun h_6 => ?_)
  · refine go_aload_n (pc := 11) dX8_comesTo_11 rfl ?_
    refine go_getf (pc := 12) f_X8_33 dX8_comesTo_12 (by first | exact mo0 hM | exact mo1 hM | exact mo6 hM | exact mo7 hM | exact mo8 hM | exact mo2 hM | exact mo3 hM | exact mo4 hM | exact mo5 hM | exact mo9 hM | exact mo10 hM | exact mo11 hM | exact mo12 hM | exact mo13 hM | exact mo14 hM | exact mo15 hM | exact mo16 hM) (by rfl) ?_
    refine go_iconst (v := 0) (pc := 15) dX8_comesTo_15 (by decide) ?_
    refine go_aload_n (pc := 16) dX8_comesTo_16 rfl ?_
    refine go_getf (pc := 17) f_X8_9 dX8_comesTo_17 (by first | exact mo0 hM | exact mo1 hM | exact mo6 hM | exact mo7 hM | exact mo8 hM | exact mo2 hM | exact mo3 hM | exact mo4 hM | exact mo5 hM | exact mo9 hM | exact mo10 hM | exact mo11 hM | exact mo12 hM | exact mo13 hM | exact mo14 hM | exact mo15 hM | exact mo16 hM) (by rfl) ?_
    refine go_bipush (v := 33) (pc := 20) dX8_comesTo_20 (by decide) ?_
    refine go_iald (j := 33) (pc := 22) dX8_comesTo_22 (by first | exact mo0 hM | exact mo1 hM | exact mo6 hM | exact mo7 hM | exact mo8 hM | exact mo2 hM | exact mo3 hM | exact mo4 hM | exact mo5 hM | exact mo9 hM | exact mo10 hM | exact mo11 hM | exact mo12 hM | exact mo13 hM | exact mo14 hM | exact mo15 hM | exact mo16 hM) (by exact ⟨rfl, by decide⟩) ?_
    refine go_mst7 (j := 0) (pc := 23) hM dX8_comesTo_23 (by exact ⟨rfl, by decide⟩) (fun σ hM hf9 => ?_)
    have hf := hf.tr hf9
    refine go_aload_n (pc := 24) dX8_comesTo_24 rfl ?_
    refine go_getf (pc := 25) f_X8_33 dX8_comesTo_25 (by first | exact mo0 hM | exact mo1 hM | exact mo6 hM | exact mo7 hM | exact mo8 hM | exact mo2 hM | exact mo3 hM | exact mo4 hM | exact mo5 hM | exact mo9 hM | exact mo10 hM | exact mo11 hM | exact mo12 hM | exact mo13 hM | exact mo14 hM | exact mo15 hM | exact mo16 hM) (by rfl) ?_
    refine go_iconst (v := 1) (pc := 28) dX8_comesTo_28 (by decide) ?_
    refine go_iload_n (pc := 29) dX8_comesTo_29 rfl ?_
    refine go_mst7 (j := 1) (pc := 30) hM dX8_comesTo_30 (by exact ⟨rfl, by decide⟩) (fun σ hM hf9 => ?_)
    have hf := hf.tr hf9
    refine go_aload_n (pc := 31) dX8_comesTo_31 rfl ?_
    refine go_getf (pc := 32) f_X8_33 dX8_comesTo_32 (by first | exact mo0 hM | exact mo1 hM | exact mo6 hM | exact mo7 hM | exact mo8 hM | exact mo2 hM | exact mo3 hM | exact mo4 hM | exact mo5 hM | exact mo9 hM | exact mo10 hM | exact mo11 hM | exact mo12 hM | exact mo13 hM | exact mo14 hM | exact mo15 hM | exact mo16 hM) (by rfl) ?_
    refine go_iconst (v := 2) (pc := 35) dX8_comesTo_35 (by decide) ?_
    refine go_iload_n (pc := 36) dX8_comesTo_36 rfl ?_
    refine go_mst7 (j := 2) (pc := 37) hM dX8_comesTo_37 (by exact ⟨rfl, by decide⟩) (fun σ hM hf9 => ?_)
    have hf := hf.tr hf9
    refine go_aload_n (pc := 38) dX8_comesTo_38 rfl ?_
    refine go_getf (pc := 39) f_X8_33 dX8_comesTo_39 (by first | exact mo0 hM | exact mo1 hM | exact mo6 hM | exact mo7 hM | exact mo8 hM | exact mo2 hM | exact mo3 hM | exact mo4 hM | exact mo5 hM | exact mo9 hM | exact mo10 hM | exact mo11 hM | exact mo12 hM | exact mo13 hM | exact mo14 hM | exact mo15 hM | exact mo16 hM) (by rfl) ?_
    refine go_iconst (v := 3) (pc := 42) dX8_comesTo_42 (by decide) ?_
    refine go_iload_n (pc := 43) dX8_comesTo_43 rfl ?_
    refine go_mst7 (j := 3) (pc := 44) hM dX8_comesTo_44 (by exact ⟨rfl, by decide⟩) (fun σ hM hf9 => ?_)
    have hf := hf.tr hf9
    refine go_aload_n (pc := 45) dX8_comesTo_45 rfl ?_
    refine go_getf (pc := 46) f_X8_33 dX8_comesTo_46 (by first | exact mo0 hM | exact mo1 hM | exact mo6 hM | exact mo7 hM | exact mo8 hM | exact mo2 hM | exact mo3 hM | exact mo4 hM | exact mo5 hM | exact mo9 hM | exact mo10 hM | exact mo11 hM | exact mo12 hM | exact mo13 hM | exact mo14 hM | exact mo15 hM | exact mo16 hM) (by rfl) ?_
    refine go_iconst (v := 4) (pc := 49) dX8_comesTo_49 (by decide) ?_
    refine go_aload_n (pc := 50) dX8_comesTo_50 rfl ?_
    refine go_getf (pc := 51) f_X8_9 dX8_comesTo_51 (by first | exact mo0 hM | exact mo1 hM | exact mo6 hM | exact mo7 hM | exact mo8 hM | exact mo2 hM | exact mo3 hM | exact mo4 hM | exact mo5 hM | exact mo9 hM | exact mo10 hM | exact mo11 hM | exact mo12 hM | exact mo13 hM | exact mo14 hM | exact mo15 hM | exact mo16 hM) (by rfl) ?_
    refine go_bipush (v := 34) (pc := 54) dX8_comesTo_54 (by decide) ?_
    refine go_iload_n (pc := 56) dX8_comesTo_56 rfl ?_
    refine go_iadd (pc := 57) dX8_comesTo_57 ?_
    refine go_iald (pc := 58) dX8_comesTo_58 (by first | exact mo0 hM | exact mo1 hM | exact mo6 hM | exact mo7 hM | exact mo8 hM | exact mo2 hM | exact mo3 hM | exact mo4 hM | exact mo5 hM | exact mo9 hM | exact mo10 hM | exact mo11 hM | exact mo12 hM | exact mo13 hM | exact mo14 hM | exact mo15 hM | exact mo16 hM) (by exact ⟨nI_add 34 _, by omega⟩) ?_
    refine go_mst7 (j := 4) (pc := 59) hM dX8_comesTo_59 (by exact ⟨rfl, by decide⟩) (fun σ hM hf9 => ?_)
    have hf := hf.tr hf9
    refine go_aload_n (pc := 60) dX8_comesTo_60 rfl ?_
    refine go_iconst (v := 4) (pc := 61) dX8_comesTo_61 (by decide) ?_
    refine go_sipush (v := 319) (pc := 62) dX8_comesTo_62 (by decide) ?_
    refine go_V2I (pc := 65) v_X8_273 rfl rfl (rcv_of (ci := 8) (by first | exact mo0 hM | exact mo1 hM | exact mo6 hM | exact mo7 hM | exact mo8 hM | exact mo2 hM | exact mo3 hM | exact mo4 hM | exact mo5 hM | exact mo9 hM | exact mo10 hM | exact mo11 hM | exact mo12 hM | exact mo13 hM | exact mo14 hM | exact mo15 hM | exact mo16 hM) rfl) dX8_comesTo_65 (sp_lawOf (k := k - 1) (mn := 4) (pl := 319) (as := ask5 (K 33) c w (nI p) (K (34 + p))) hM (by omega) (hL.resolve_left h_6) (by decide) (by decide) (by decide) (fun j hj => by rcases (show j = 0 ∨ j = 1 ∨ j = 2 ∨ j = 3 ∨ j = 4 by omega) with rfl | rfl | rfl | rfl | rfl <;> rfl)) (fun v_65 σ n h => ?_)
    obtain ⟨rfl, rfl, A1, hM, hA1, hf1⟩ := h
    have hA : eqx [6, 7] A A1 := eqx.tr (by repeat (first | assumption | exact eqx.rf | refine eqx.up ?_ (by decide))) (hA1.wk (by decide))
    have hf := hf.tr hf1
    refine go_iconst (v := 1) (pc := 68) dX8_comesTo_68 (by decide) ?_
    refine go_icmp_ne (tgt := 76) (pc := 69) dX8_comesTo_69 (by decide) (fun h_69 => ?_) (fun h_69 => ?_)
    · refine go_iconst (v := 0) (pc := 76) dX8_comesTo_76 (by decide) ?_
      exact go_zretI (pc := 77) rfl (by first | rfl | exact nb_bI) dX8_comesTo_77 (Nat.le_of_ble_eq_true rfl) (Nat.le_of_ble_eq_true rfl) ⟨(by first | exact (bI_t (by unfold comK; rw [if_neg h_6]; simp only [decide_eq_true_eq]; exact h_69)).symm | exact (bI_f (by unfold comK; rw [if_neg h_6]; simp only [decide_eq_true_eq]; exact h_69)).symm), rfl, _, hM, hA, hf⟩
    · refine go_iconst (v := 1) (pc := 72) dX8_comesTo_72 (by decide) ?_
      refine go_goto (tgt := 77) (pc := 73) dX8_comesTo_73 (by decide) ?_
      exact go_zretI (pc := 77) rfl (by first | rfl | exact nb_bI) dX8_comesTo_77 (Nat.le_of_ble_eq_true rfl) (Nat.le_of_ble_eq_true rfl) ⟨(by first | exact (bI_t (by unfold comK; rw [if_neg h_6]; simp only [decide_eq_true_eq]; exact h_69)).symm | exact (bI_f (by unfold comK; rw [if_neg h_6]; simp only [decide_eq_true_eq]; exact h_69)).symm), rfl, _, hM, hA, hf⟩
  · refine go_iconst (v := 1) (pc := 9) dX8_comesTo_9 (by decide) ?_
    exact go_zretI (pc := 10) rfl (by first | rfl | exact nb_bI) dX8_comesTo_10 (Nat.le_of_ble_eq_true rfl) (Nat.le_of_ble_eq_true rfl) ⟨(bI_t (by simp [comK, h_6])).symm, rfl, _, hM, hA, hf⟩
theorem sp_tideIn {Γ : gam} {σ : sto} {n k r : Nat} {F K : row} {A : Nat → row} {Nm : Nat → Int64} (hM : MoAt Γ σ r F K A Nm) (hk : 4 ≤ k) (m : Int32) (hL : K 5 = 0 ∨ okL K 5 1219 100 false) : Sp Γ (rmk k 0 0) uX8_tideIn [.ref r, .int m] σ n (qI fun v σ' n' => v = tideK K m ∧ moJ Γ r F K A Nm σ n [6, 7] σ' n') := by
  have hA : eqx [6, 7] A A := eqx.rf
  have hf : fr r (r + 16) σ σ := fr.rf
  refine sp_intro [some (.ref r), some (.int m)] (by decide +kernel) rfl (Nat.le_of_ble_eq_true rfl) rfl ?_
  refine go_aload_n (pc := 0) dX8_tideIn_0 rfl ?_
  refine go_getf (pc := 1) f_X8_9 dX8_tideIn_1 (by first | exact mo0 hM | exact mo1 hM | exact mo6 hM | exact mo7 hM | exact mo8 hM | exact mo2 hM | exact mo3 hM | exact mo4 hM | exact mo5 hM | exact mo9 hM | exact mo10 hM | exact mo11 hM | exact mo12 hM | exact mo13 hM | exact mo14 hM | exact mo15 hM | exact mo16 hM) (by rfl) ?_
  refine go_iconst (v := 5) (pc := 4) dX8_tideIn_4 (by decide) ?_
  refine go_iald (j := 5) (pc := 5) dX8_tideIn_5 (by first | exact mo0 hM | exact mo1 hM | exact mo6 hM | exact mo7 hM | exact mo8 hM | exact mo2 hM | exact mo3 hM | exact mo4 hM | exact mo5 hM | exact mo9 hM | exact mo10 hM | exact mo11 hM | exact mo12 hM | exact mo13 hM | exact mo14 hM | exact mo15 hM | exact mo16 hM) (by exact ⟨rfl, by decide⟩) ?_
  refine go_if_ne (tgt := 11) (pc := 6) dX8_tideIn_6 (by decide) (fun h_6 => ?_) (fun h_6 => ?_)
  · refine go_aload_n (pc := 11) dX8_tideIn_11 rfl ?_
    refine go_getf (pc := 12) f_X8_33 dX8_tideIn_12 (by first | exact mo0 hM | exact mo1 hM | exact mo6 hM | exact mo7 hM | exact mo8 hM | exact mo2 hM | exact mo3 hM | exact mo4 hM | exact mo5 hM | exact mo9 hM | exact mo10 hM | exact mo11 hM | exact mo12 hM | exact mo13 hM | exact mo14 hM | exact mo15 hM | exact mo16 hM) (by rfl) ?_
    refine go_iconst (v := 0) (pc := 15) dX8_tideIn_15 (by decide) ?_
    refine go_iload_n (pc := 16) dX8_tideIn_16 rfl ?_
    refine go_mst7 (j := 0) (pc := 17) hM dX8_tideIn_17 (by exact ⟨rfl, by decide⟩) (fun σ hM hf9 => ?_)
    have hf := hf.tr hf9
    refine go_iconst (v := 0) (pc := 18) dX8_tideIn_18 (by decide) ?_
    refine go_aload_n (pc := 19) dX8_tideIn_19 rfl ?_
    refine go_getf (pc := 20) f_X8_9 dX8_tideIn_20 (by first | exact mo0 hM | exact mo1 hM | exact mo6 hM | exact mo7 hM | exact mo8 hM | exact mo2 hM | exact mo3 hM | exact mo4 hM | exact mo5 hM | exact mo9 hM | exact mo10 hM | exact mo11 hM | exact mo12 hM | exact mo13 hM | exact mo14 hM | exact mo15 hM | exact mo16 hM) (by rfl) ?_
    refine go_iconst (v := 2) (pc := 23) dX8_tideIn_23 (by decide) ?_
    refine go_iald (j := 2) (pc := 24) dX8_tideIn_24 (by first | exact mo0 hM | exact mo1 hM | exact mo6 hM | exact mo7 hM | exact mo8 hM | exact mo2 hM | exact mo3 hM | exact mo4 hM | exact mo5 hM | exact mo9 hM | exact mo10 hM | exact mo11 hM | exact mo12 hM | exact mo13 hM | exact mo14 hM | exact mo15 hM | exact mo16 hM) (by exact ⟨rfl, by decide⟩) ?_
    refine go_aload_n (pc := 25) dX8_tideIn_25 rfl ?_
    refine go_iconst (v := 5) (pc := 26) dX8_tideIn_26 (by decide) ?_
    refine go_sipush (v := 1219) (pc := 27) dX8_tideIn_27 (by decide) ?_
    refine go_V2I (pc := 30) v_X8_273 rfl rfl (rcv_of (ci := 8) (by first | exact mo0 hM | exact mo1 hM | exact mo6 hM | exact mo7 hM | exact mo8 hM | exact mo2 hM | exact mo3 hM | exact mo4 hM | exact mo5 hM | exact mo9 hM | exact mo10 hM | exact mo11 hM | exact mo12 hM | exact mo13 hM | exact mo14 hM | exact mo15 hM | exact mo16 hM) rfl) dX8_tideIn_30 (sp_lawOf (k := k - 1) (mn := 5) (pl := 1219) (as := upd (A 7) 0 m) hM (by omega) (hL.resolve_left h_6) (by decide) (by decide) (by decide) (fun j hj => rfl)) (fun v_30 σ n h => ?_)
    obtain ⟨rfl, rfl, A1, hM, hA1, hf1⟩ := h
    have hA : eqx [6, 7] A A1 := eqx.tr (by repeat (first | assumption | exact eqx.rf | refine eqx.up ?_ (by decide))) (hA1.wk (by decide))
    have hf := hf.tr hf1
    refine go_mmin (pc := 33) s_X8_276 dX8_tideIn_33 ?_
    refine go_mmax (pc := 36) s_X8_278 dX8_tideIn_36 ?_
    exact go_iretI (pc := 39) rfl dX8_tideIn_39 (Nat.le_of_ble_eq_true rfl) (Nat.le_of_ble_eq_true rfl) ⟨(by rw [tideK, if_neg h_6, ← lawK_congr (hL.resolve_left h_6) (as := upd (A 7) 0 m) (bs := ask5 m 0 0 0 0) (fun x h1 h2 => by rw [Int32.le_antisymm h2 h1]; rfl)] ; rfl), rfl, _, hM, hA, hf⟩
  · refine go_iconst (v := 0) (pc := 9) dX8_tideIn_9 (by decide) ?_
    exact go_iretI (pc := 10) rfl dX8_tideIn_10 (Nat.le_of_ble_eq_true rfl) (Nat.le_of_ble_eq_true rfl) ⟨(by simp [tideK, h_6]), rfl, _, hM, hA, hf⟩
theorem w102 {x : Int32} {as bs : row} (h1 : 100 ≤ x) (h2 : x ≤ 102) (e0 : as 0 = bs 0) (e1 : as 1 = bs 1) (e2 : as 2 = bs 2) : as (x - 100).toNatClampNeg = bs (x - 100).toNatClampNeg := by
  obtain ⟨j, hj, -, e⟩ := w_in h1 h2 (by decide)
  rw [e]
  have a2 := Int32.le_iff_toInt_le.mp h2
  have : j < 3 := by
    have a1 := Int32.le_iff_toInt_le.mp h1
    have f1 : (100 : Int32).toInt = 100 := by decide
    have f2 : (102 : Int32).toInt = 102 := by decide
    rw [f1] at a1; rw [f2] at a2
    have hx : x = nI x.toInt.toNat := by
      apply Int32.toInt_inj.mp
      rw [nI_toInt (by omega)]
      omega
    rw [hx, show nI x.toInt.toNat - 100 = nI (x.toInt.toNat - 100) from pk_sub (b := 100) (by omega), nI_clamp (by omega)] at e
    omega
  rcases (show j = 0 ∨ j = 1 ∨ j = 2 by omega) with rfl | rfl | rfl
  · exact e0
  · exact e1
  · exact e2
theorem sp_wetsHow {Γ : gam} {σ : sto} {n k r : Nat} {F K : row} {A : Nat → row} {Nm : Nat → Int64} (hM : MoAt Γ σ r F K A Nm) (hk : 4 ≤ k) (c w m : Int32) (hL : K 6 = 0 ∨ okL K 6 2119 102 false) : Sp Γ (rmk k 0 0) uX8_wetsHow [.ref r, .int c, .int w, .int m] σ n (qI fun v σ' n' => v = waveK K c w m ∧ moJ Γ r F K A Nm σ n [6, 7] σ' n') := by
  have hA : eqx [6, 7] A A := eqx.rf
  have hf : fr r (r + 16) σ σ := fr.rf
  refine sp_intro [some (.ref r), some (.int c), some (.int w), some (.int m)] (by decide +kernel) rfl (Nat.le_of_ble_eq_true rfl) rfl ?_
  refine go_aload_n (pc := 0) dX8_wetsHow_0 rfl ?_
  refine go_getf (pc := 1) f_X8_9 dX8_wetsHow_1 (by first | exact mo0 hM | exact mo1 hM | exact mo6 hM | exact mo7 hM | exact mo8 hM | exact mo2 hM | exact mo3 hM | exact mo4 hM | exact mo5 hM | exact mo9 hM | exact mo10 hM | exact mo11 hM | exact mo12 hM | exact mo13 hM | exact mo14 hM | exact mo15 hM | exact mo16 hM) (by rfl) ?_
  refine go_bipush (v := 6) (pc := 4) dX8_wetsHow_4 (by decide) ?_
  refine go_iald (j := 6) (pc := 6) dX8_wetsHow_6 (by first | exact mo0 hM | exact mo1 hM | exact mo6 hM | exact mo7 hM | exact mo8 hM | exact mo2 hM | exact mo3 hM | exact mo4 hM | exact mo5 hM | exact mo9 hM | exact mo10 hM | exact mo11 hM | exact mo12 hM | exact mo13 hM | exact mo14 hM | exact mo15 hM | exact mo16 hM) (by exact ⟨rfl, by decide⟩) ?_
  refine go_if_ne (tgt := 20) (pc := 7) dX8_wetsHow_7 (by decide) (fun h_7 => ?_) (fun h_7 => ?_)
  · refine go_aload_n (pc := 20) dX8_wetsHow_20 rfl ?_
    refine go_getf (pc := 21) f_X8_33 dX8_wetsHow_21 (by first | exact mo0 hM | exact mo1 hM | exact mo6 hM | exact mo7 hM | exact mo8 hM | exact mo2 hM | exact mo3 hM | exact mo4 hM | exact mo5 hM | exact mo9 hM | exact mo10 hM | exact mo11 hM | exact mo12 hM | exact mo13 hM | exact mo14 hM | exact mo15 hM | exact mo16 hM) (by rfl) ?_
    refine go_iconst (v := 0) (pc := 24) dX8_wetsHow_24 (by decide) ?_
    refine go_iload_n (pc := 25) dX8_wetsHow_25 rfl ?_
    refine go_mst7 (j := 0) (pc := 26) hM dX8_wetsHow_26 (by exact ⟨rfl, by decide⟩) (fun σ hM hf9 => ?_)
    have hf := hf.tr hf9
    refine go_aload_n (pc := 27) dX8_wetsHow_27 rfl ?_
    refine go_getf (pc := 28) f_X8_33 dX8_wetsHow_28 (by first | exact mo0 hM | exact mo1 hM | exact mo6 hM | exact mo7 hM | exact mo8 hM | exact mo2 hM | exact mo3 hM | exact mo4 hM | exact mo5 hM | exact mo9 hM | exact mo10 hM | exact mo11 hM | exact mo12 hM | exact mo13 hM | exact mo14 hM | exact mo15 hM | exact mo16 hM) (by rfl) ?_
    refine go_iconst (v := 1) (pc := 31) dX8_wetsHow_31 (by decide) ?_
    refine go_iload_n (pc := 32) dX8_wetsHow_32 rfl ?_
    refine go_mst7 (j := 1) (pc := 33) hM dX8_wetsHow_33 (by exact ⟨rfl, by decide⟩) (fun σ hM hf9 => ?_)
    have hf := hf.tr hf9
    refine go_aload_n (pc := 34) dX8_wetsHow_34 rfl ?_
    refine go_getf (pc := 35) f_X8_33 dX8_wetsHow_35 (by first | exact mo0 hM | exact mo1 hM | exact mo6 hM | exact mo7 hM | exact mo8 hM | exact mo2 hM | exact mo3 hM | exact mo4 hM | exact mo5 hM | exact mo9 hM | exact mo10 hM | exact mo11 hM | exact mo12 hM | exact mo13 hM | exact mo14 hM | exact mo15 hM | exact mo16 hM) (by rfl) ?_
    refine go_iconst (v := 2) (pc := 38) dX8_wetsHow_38 (by decide) ?_
    refine go_iload_n (pc := 39) dX8_wetsHow_39 rfl ?_
    refine go_mst7 (j := 2) (pc := 40) hM dX8_wetsHow_40 (by exact ⟨rfl, by decide⟩) (fun σ hM hf9 => ?_)
    have hf := hf.tr hf9
    refine go_iconst (v := 0) (pc := 41) dX8_wetsHow_41 (by decide) ?_
    refine go_bipush (v := 10) (pc := 42) dX8_wetsHow_42 (by decide) ?_
    refine go_aload_n (pc := 44) dX8_wetsHow_44 rfl ?_
    refine go_bipush (v := 6) (pc := 45) dX8_wetsHow_45 (by decide) ?_
    refine go_sipush (v := 2119) (pc := 47) dX8_wetsHow_47 (by decide) ?_
    refine go_V2I (pc := 50) v_X8_273 rfl rfl (rcv_of (ci := 8) (by first | exact mo0 hM | exact mo1 hM | exact mo6 hM | exact mo7 hM | exact mo8 hM | exact mo2 hM | exact mo3 hM | exact mo4 hM | exact mo5 hM | exact mo9 hM | exact mo10 hM | exact mo11 hM | exact mo12 hM | exact mo13 hM | exact mo14 hM | exact mo15 hM | exact mo16 hM) rfl) dX8_wetsHow_50 (sp_lawOf (k := k - 1) (mn := 6) (pl := 2119) (as := upd (upd (upd (A 7) 0 m) 1 c) 2 w) hM (by omega) (hL.resolve_left h_7) (by decide) (by decide) (by decide) (fun j hj => rfl)) (fun v_50 σ n h => ?_)
    obtain ⟨rfl, rfl, A1, hM, hA1, hf1⟩ := h
    have hA : eqx [6, 7] A A1 := eqx.tr (by repeat (first | assumption | exact eqx.rf | refine eqx.up ?_ (by decide))) (hA1.wk (by decide))
    have hf := hf.tr hf1
    refine go_mmin (pc := 53) s_X8_276 dX8_wetsHow_53 ?_
    refine go_mmax (pc := 56) s_X8_278 dX8_wetsHow_56 ?_
    exact go_iretI (pc := 59) rfl dX8_wetsHow_59 (Nat.le_of_ble_eq_true rfl) (Nat.le_of_ble_eq_true rfl) ⟨(by rw [waveK, if_neg h_7, ← lawK_congr (hL.resolve_left h_7) (as := upd (upd (upd (A 7) 0 m) 1 c) 2 w) (bs := ask5 m c w 0 0) (fun x h1 h2 => w102 h1 h2 (by rfl) (by rfl) (by rfl))]; rfl), rfl, _, hM, hA, hf⟩
  · refine go_iload_n (pc := 10) dX8_wetsHow_10 rfl ?_
    refine go_if_ne (tgt := 18) (pc := 11) dX8_wetsHow_11 (by decide) (fun h_11 => ?_) (fun h_11 => ?_)
    · refine go_iconst (v := 0) (pc := 18) dX8_wetsHow_18 (by decide) ?_
      exact go_iretI (pc := 19) rfl dX8_wetsHow_19 (Nat.le_of_ble_eq_true rfl) (Nat.le_of_ble_eq_true rfl) ⟨(by simp [waveK, h_7, h_11]), rfl, _, hM, hA, hf⟩
    · refine go_iconst (v := 5) (pc := 14) dX8_wetsHow_14 (by decide) ?_
      refine go_goto (tgt := 19) (pc := 15) dX8_wetsHow_15 (by decide) ?_
      exact go_iretI (pc := 19) rfl dX8_wetsHow_19 (Nat.le_of_ble_eq_true rfl) (Nat.le_of_ble_eq_true rfl) ⟨(by simp [waveK, h_7, h_11]), rfl, _, hM, hA, hf⟩
