/-! ===== the reference: questions to its row K ===== -/
theorem nb_bI {p : Prop} [Decidable p] : narrow .boolean (.int (bI p)) = .int (bI p) := by unfold bI; split <;> rfl
theorem bI_t {p : Prop} [Decidable p] (h : p) : bI p = 1 := by simp [bI, h]
theorem bI_f {p : Prop} [Decidable p] (h : ¬ p) : bI p = 0 := by simp [bI, h]
theorem bI_0 {p : Prop} [Decidable p] : bI p = 0 ↔ ¬ p := by unfold bI; split <;> simp_all
/-- the numbers that bound the loops of the reference -/
def okP (K : row) : Prop := K 3 = nI (kP K) ∧ kP K ≤ 8 ∧ K 2 = nI (kH K) ∧ kH K ≤ 5 ∧ K 1 = nI (kW K) ∧ kW K ≤ 4
theorem sp_people {Γ : gam} {σ : sto} {n k r : Nat} {F K : row} {A : Nat → row} {Nm : Nat → Int64} (hM : MoAt Γ σ r F K A Nm)  : Sp Γ (rmk k 0 0) uX8_people [.ref r] σ n (qP (K 3) σ n) := by
  refine sp_intro [some (.ref r)] (by decide +kernel) rfl (Nat.le_of_ble_eq_true rfl) rfl ?_
  refine go_aload_n (pc := 0) dX8_people_0 rfl ?_
  refine go_getf (pc := 1) f_X8_9 dX8_people_1 (by first | exact mo0 hM | exact mo1 hM | exact mo6 hM | exact mo7 hM | exact mo8 hM | exact mo2 hM | exact mo3 hM | exact mo4 hM | exact mo5 hM | exact mo9 hM | exact mo10 hM | exact mo11 hM | exact mo12 hM | exact mo13 hM | exact mo14 hM | exact mo15 hM | exact mo16 hM) (by rfl) ?_
  refine go_iconst (v := 3) (pc := 4) dX8_people_4 (by decide) ?_
  refine go_iald (j := 3) (pc := 5) dX8_people_5 (by first | exact mo0 hM | exact mo1 hM | exact mo6 hM | exact mo7 hM | exact mo8 hM | exact mo2 hM | exact mo3 hM | exact mo4 hM | exact mo5 hM | exact mo9 hM | exact mo10 hM | exact mo11 hM | exact mo12 hM | exact mo13 hM | exact mo14 hM | exact mo15 hM | exact mo16 hM) (by exact ⟨rfl, by decide⟩) ?_
  exact go_iretP (pc := 6) rfl dX8_people_6 (Nat.le_of_ble_eq_true rfl) (Nat.le_of_ble_eq_true rfl) rfl
theorem sp_isPerson {Γ : gam} {σ : sto} {n k r : Nat} {F K : row} {A : Nat → row} {Nm : Nat → Int64} (hM : MoAt Γ σ r F K A Nm) (hk : 1 ≤ k) (p : Int64) : Sp Γ (rmk k 0 0) uX8_isPerson [.ref r, .long p] σ n (qP (bI (0 ≤ p ∧ p ≤ (K 3 - 1).toInt64)) σ n) := by
  refine sp_intro [some (.ref r), some (.long p), none] (by decide +kernel) rfl (Nat.le_of_ble_eq_true rfl) rfl ?_
  refine go_lload_n (pc := 0) dX8_isPerson_0 rfl ?_
  refine go_lconst (v := 0) (pc := 1) dX8_isPerson_1 rfl ?_
  refine go_aload_n (pc := 2) dX8_isPerson_2 rfl ?_
  refine go_V0P (pc := 3) v_X8_242 rfl rfl (rcv_of (ci := 8) (by first | exact mo0 hM | exact mo1 hM | exact mo6 hM | exact mo7 hM | exact mo8 hM | exact mo2 hM | exact mo3 hM | exact mo4 hM | exact mo5 hM | exact mo9 hM | exact mo10 hM | exact mo11 hM | exact mo12 hM | exact mo13 hM | exact mo14 hM | exact mo15 hM | exact mo16 hM) rfl) dX8_isPerson_3 (sp_people (k := k - 1) hM) ?_
  refine go_iconst (v := 1) (pc := 6) dX8_isPerson_6 (by decide) ?_
  refine go_isub (pc := 7) dX8_isPerson_7 ?_
  refine go_i2l (pc := 8) dX8_isPerson_8 ?_
  refine go_S3P (pc := 9) s_X8_125 rfl rfl dX8_isPerson_9 (sp_within (k := k - 1) _ _ _) ?_
  exact go_zretP (pc := 12) rfl (by first | rfl | exact nb_bI) dX8_isPerson_12 (Nat.le_of_ble_eq_true rfl) (Nat.le_of_ble_eq_true rfl) rfl
theorem sp_isColumn {Γ : gam} {σ : sto} {n k r : Nat} {F K : row} {A : Nat → row} {Nm : Nat → Int64} (hM : MoAt Γ σ r F K A Nm) (hk : 1 ≤ k) (p : Int64) : Sp Γ (rmk k 0 0) uX8_isColumn [.ref r, .long p] σ n (qP (bI (0 ≤ p ∧ p ≤ (K 1 - 1).toInt64)) σ n) := by
  refine sp_intro [some (.ref r), some (.long p), none] (by decide +kernel) rfl (Nat.le_of_ble_eq_true rfl) rfl ?_
  refine go_lload_n (pc := 0) dX8_isColumn_0 rfl ?_
  refine go_lconst (v := 0) (pc := 1) dX8_isColumn_1 rfl ?_
  refine go_aload_n (pc := 2) dX8_isColumn_2 rfl ?_
  refine go_getf (pc := 3) f_X8_9 dX8_isColumn_3 (by first | exact mo0 hM | exact mo1 hM | exact mo6 hM | exact mo7 hM | exact mo8 hM | exact mo2 hM | exact mo3 hM | exact mo4 hM | exact mo5 hM | exact mo9 hM | exact mo10 hM | exact mo11 hM | exact mo12 hM | exact mo13 hM | exact mo14 hM | exact mo15 hM | exact mo16 hM) (by rfl) ?_
  refine go_iconst (v := 1) (pc := 6) dX8_isColumn_6 (by decide) ?_
  refine go_iald (j := 1) (pc := 7) dX8_isColumn_7 (by first | exact mo0 hM | exact mo1 hM | exact mo6 hM | exact mo7 hM | exact mo8 hM | exact mo2 hM | exact mo3 hM | exact mo4 hM | exact mo5 hM | exact mo9 hM | exact mo10 hM | exact mo11 hM | exact mo12 hM | exact mo13 hM | exact mo14 hM | exact mo15 hM | exact mo16 hM) (by exact ⟨rfl, by decide⟩) ?_
  refine go_iconst (v := 1) (pc := 8) dX8_isColumn_8 (by decide) ?_
  refine go_isub (pc := 9) dX8_isColumn_9 ?_
  refine go_i2l (pc := 10) dX8_isColumn_10 ?_
  refine go_S3P (pc := 11) s_X8_125 rfl rfl dX8_isColumn_11 (sp_within (k := k - 1) _ _ _) ?_
  exact go_zretP (pc := 14) rfl (by first | rfl | exact nb_bI) dX8_isColumn_14 (Nat.le_of_ble_eq_true rfl) (Nat.le_of_ble_eq_true rfl) rfl
theorem sp_isUp {Γ : gam} {σ : sto} {n k r : Nat} {F K : row} {A : Nat → row} {Nm : Nat → Int64} (hM : MoAt Γ σ r F K A Nm) {p : Nat} (hp : p < 8) : Sp Γ (rmk k 0 0) uX8_isUp [.ref r, .int (nI p)] σ n (qP (bI (K (16 + p) = -1)) σ n) := by
  refine sp_intro [some (.ref r), some (.int (nI p))] (by decide +kernel) rfl (Nat.le_of_ble_eq_true rfl) rfl ?_
  refine go_aload_n (pc := 0) dX8_isUp_0 rfl ?_
  refine go_getf (pc := 1) f_X8_9 dX8_isUp_1 (by first | exact mo0 hM | exact mo1 hM | exact mo6 hM | exact mo7 hM | exact mo8 hM | exact mo2 hM | exact mo3 hM | exact mo4 hM | exact mo5 hM | exact mo9 hM | exact mo10 hM | exact mo11 hM | exact mo12 hM | exact mo13 hM | exact mo14 hM | exact mo15 hM | exact mo16 hM) (by rfl) ?_
  refine go_bipush (v := 16) (pc := 4) dX8_isUp_4 (by decide) ?_
  refine go_iload_n (pc := 6) dX8_isUp_6 rfl ?_
  refine go_iadd (pc := 7) dX8_isUp_7 ?_
  refine go_iald (pc := 8) dX8_isUp_8 (by first | exact mo0 hM | exact mo1 hM | exact mo6 hM | exact mo7 hM | exact mo8 hM | exact mo2 hM | exact mo3 hM | exact mo4 hM | exact mo5 hM | exact mo9 hM | exact mo10 hM | exact mo11 hM | exact mo12 hM | exact mo13 hM | exact mo14 hM | exact mo15 hM | exact mo16 hM) (by exact ⟨nI_add 16 _, by omega⟩) ?_
  refine go_iconst (v := -1) (pc := 9) dX8_isUp_9 (by decide) ?_
  refine go_icmp_ne (tgt := 17) (pc := 10) dX8_isUp_10 (by decide) (fun h_10 => ?_) (fun h_10 => ?_)
  · refine go_iconst (v := 0) (pc := 17) dX8_isUp_17 (by decide) ?_
    exact go_zretP (pc := 18) rfl (by first | rfl | exact nb_bI) dX8_isUp_18 (Nat.le_of_ble_eq_true rfl) (Nat.le_of_ble_eq_true rfl) (by unfold bI; (try simp only [lg_cmp_lt, lg_cmp_gt, lg_cmp_le, lg_cmp_ge, lg_cmp_eq] at *); split <;> simp_all [Int32.le_iff_toInt_le, Int32.lt_iff_toInt_lt, Int64.le_iff_toInt_le, Int64.lt_iff_toInt_lt] <;> omega)
  · refine go_iconst (v := 1) (pc := 13) dX8_isUp_13 (by decide) ?_
    refine go_goto (tgt := 18) (pc := 14) dX8_isUp_14 (by decide) ?_
    exact go_zretP (pc := 18) rfl (by first | rfl | exact nb_bI) dX8_isUp_18 (Nat.le_of_ble_eq_true rfl) (Nat.le_of_ble_eq_true rfl) (by unfold bI; (try simp only [lg_cmp_lt, lg_cmp_gt, lg_cmp_le, lg_cmp_ge, lg_cmp_eq] at *); split <;> simp_all [Int32.le_iff_toInt_le, Int32.lt_iff_toInt_lt, Int64.le_iff_toInt_le, Int64.lt_iff_toInt_lt] <;> omega)
theorem sp_isAsleep {Γ : gam} {σ : sto} {n k r : Nat} {F K : row} {A : Nat → row} {Nm : Nat → Int64} (hM : MoAt Γ σ r F K A Nm) (hk : 1 ≤ k) {p : Nat}  : Sp Γ (rmk k 0 0) uX8_isAsleep [.ref r, .int (nI p)] σ n (qP (bI (aslK K p = true)) σ n) := by
  refine sp_intro [some (.ref r), some (.int (nI p))] (by decide +kernel) rfl (Nat.le_of_ble_eq_true rfl) rfl ?_
  refine go_aload_n (pc := 0) dX8_isAsleep_0 rfl ?_
  refine go_getf (pc := 1) f_X8_9 dX8_isAsleep_1 (by first | exact mo0 hM | exact mo1 hM | exact mo6 hM | exact mo7 hM | exact mo8 hM | exact mo2 hM | exact mo3 hM | exact mo4 hM | exact mo5 hM | exact mo9 hM | exact mo10 hM | exact mo11 hM | exact mo12 hM | exact mo13 hM | exact mo14 hM | exact mo15 hM | exact mo16 hM) (by rfl) ?_
  refine go_bipush (v := 42) (pc := 4) dX8_isAsleep_4 (by decide) ?_
  refine go_iald (j := 42) (pc := 6) dX8_isAsleep_6 (by first | exact mo0 hM | exact mo1 hM | exact mo6 hM | exact mo7 hM | exact mo8 hM | exact mo2 hM | exact mo3 hM | exact mo4 hM | exact mo5 hM | exact mo9 hM | exact mo10 hM | exact mo11 hM | exact mo12 hM | exact mo13 hM | exact mo14 hM | exact mo15 hM | exact mo16 hM) (by exact ⟨rfl, by decide⟩) ?_
  refine go_iload_n (pc := 7) dX8_isAsleep_7 rfl ?_
  refine go_S2P (pc := 8) s_X8_249 rfl rfl dX8_isAsleep_8 (sp_has (k := k - 1) _ _) ?_
  exact go_zretP (pc := 11) rfl (by first | rfl | exact nb_bI) dX8_isAsleep_11 (Nat.le_of_ble_eq_true rfl) (Nat.le_of_ble_eq_true rfl) (by simp only [aslK, hasB, decide_eq_true_eq])
theorem sp_isChair {Γ : gam} {σ : sto} {n k r : Nat} {F K : row} {A : Nat → row} {Nm : Nat → Int64} (hM : MoAt Γ σ r F K A Nm) (hk : 2 ≤ k) (c w : Int32) : Sp Γ (rmk k 0 0) uX8_isChair [.ref r, .int c, .int w] σ n (qP (bI ((0 ≤ c.toInt64 ∧ c.toInt64 ≤ (K 1 - 1).toInt64) ∧ 0 ≤ w.toInt64 ∧ w.toInt64 ≤ (K 2 - 1).toInt64)) σ n) := by
  refine sp_intro [some (.ref r), some (.int c), some (.int w)] (by decide +kernel) rfl (Nat.le_of_ble_eq_true rfl) rfl ?_
  refine go_aload_n (pc := 0) dX8_isChair_0 rfl ?_
  refine go_iload_n (pc := 1) dX8_isChair_1 rfl ?_
  refine go_i2l (pc := 2) dX8_isChair_2 ?_
  refine go_V1P (pc := 3) v_X8_245 rfl rfl (rcv_of (ci := 8) (by first | exact mo0 hM | exact mo1 hM | exact mo6 hM | exact mo7 hM | exact mo8 hM | exact mo2 hM | exact mo3 hM | exact mo4 hM | exact mo5 hM | exact mo9 hM | exact mo10 hM | exact mo11 hM | exact mo12 hM | exact mo13 hM | exact mo14 hM | exact mo15 hM | exact mo16 hM) rfl) dX8_isChair_3 (sp_isColumn (k := k - 1) hM (by omega) _) ?_
  refine go_if_eq (tgt := 31) (pc := 6) dX8_isChair_6 (by decide) (fun h_6 => ?_) (fun h_6 => ?_)
  · refine go_iconst (v := 0) (pc := 31) dX8_isChair_31 (by decide) ?_
    exact go_zretP (pc := 32) rfl (by first | rfl | exact nb_bI) dX8_isChair_32 (Nat.le_of_ble_eq_true rfl) (Nat.le_of_ble_eq_true rfl) (by unfold bI at *; grind)
  · refine go_iload_n (pc := 9) dX8_isChair_9 rfl ?_
    refine go_i2l (pc := 10) dX8_isChair_10 ?_
    refine go_lconst (v := 0) (pc := 11) dX8_isChair_11 rfl ?_
    refine go_aload_n (pc := 12) dX8_isChair_12 rfl ?_
    refine go_getf (pc := 13) f_X8_9 dX8_isChair_13 (by first | exact mo0 hM | exact mo1 hM | exact mo6 hM | exact mo7 hM | exact mo8 hM | exact mo2 hM | exact mo3 hM | exact mo4 hM | exact mo5 hM | exact mo9 hM | exact mo10 hM | exact mo11 hM | exact mo12 hM | exact mo13 hM | exact mo14 hM | exact mo15 hM | exact mo16 hM) (by rfl) ?_
    refine go_iconst (v := 2) (pc := 16) dX8_isChair_16 (by decide) ?_
    refine go_iald (j := 2) (pc := 17) dX8_isChair_17 (by first | exact mo0 hM | exact mo1 hM | exact mo6 hM | exact mo7 hM | exact mo8 hM | exact mo2 hM | exact mo3 hM | exact mo4 hM | exact mo5 hM | exact mo9 hM | exact mo10 hM | exact mo11 hM | exact mo12 hM | exact mo13 hM | exact mo14 hM | exact mo15 hM | exact mo16 hM) (by exact ⟨rfl, by decide⟩) ?_
    refine go_iconst (v := 1) (pc := 18) dX8_isChair_18 (by decide) ?_
    refine go_isub (pc := 19) dX8_isChair_19 ?_
    refine go_i2l (pc := 20) dX8_isChair_20 ?_
    refine go_S3P (pc := 21) s_X8_125 rfl rfl dX8_isChair_21 (sp_within (k := k - 1) _ _ _) ?_
    refine go_if_eq (tgt := 31) (pc := 24) dX8_isChair_24 (by decide) (fun h_24 => ?_) (fun h_24 => ?_)
    · refine go_iconst (v := 0) (pc := 31) dX8_isChair_31 (by decide) ?_
      exact go_zretP (pc := 32) rfl (by first | rfl | exact nb_bI) dX8_isChair_32 (Nat.le_of_ble_eq_true rfl) (Nat.le_of_ble_eq_true rfl) (by unfold bI at *; grind)
    · refine go_iconst (v := 1) (pc := 27) dX8_isChair_27 (by decide) ?_
      refine go_goto (tgt := 32) (pc := 28) dX8_isChair_28 (by decide) ?_
      exact go_zretP (pc := 32) rfl (by first | rfl | exact nb_bI) dX8_isChair_32 (Nat.le_of_ble_eq_true rfl) (Nat.le_of_ble_eq_true rfl) (by unfold bI at *; grind)
theorem lp_sitter {Γ : gam} {σ : sto} {n k r : Nat} {F K : row} {A : Nat → row} {Nm : Nat → Int64} (hM : MoAt Γ σ r F K A Nm) (hk : 1 ≤ k) (hP : okP K) (c w : Int32) : ∀ (m i : Nat), i + m = kP K → Go Γ (rmk k 0 0) uX8_sitter (qP (oI (fnd (fun p => decide (K (16 + p) = w ∧ K (8 + p) = c ∧ w ≠ -1)) i m)) σ n) 0 0 2 [some (.ref r), some (.int c), some (.int w), some (.int (nI i))] [] σ n := by
  intro m
  induction m with
  | zero =>
    intro i hi
    obtain ⟨hP1, hP2, -⟩ := id hP
    refine go_iload_n (pc := 2) dX8_sitter_2 rfl ?_
    refine go_aload_n (pc := 3) dX8_sitter_3 rfl ?_
    refine go_V0P (pc := 4) v_X8_242 rfl rfl (rcv_of (ci := 8) (by first | exact mo0 hM | exact mo1 hM | exact mo6 hM | exact mo7 hM | exact mo8 hM | exact mo2 hM | exact mo3 hM | exact mo4 hM | exact mo5 hM | exact mo9 hM | exact mo10 hM | exact mo11 hM | exact mo12 hM | exact mo13 hM | exact mo14 hM | exact mo15 hM | exact mo16 hM) rfl) dX8_sitter_4 (sp_people (k := k - 1) hM) ?_
    refine go_icmp_ge (tgt := 49) (pc := 7) dX8_sitter_7 (by decide) (fun h_7 => ?_) (fun h_7 => by exfalso; exact h_7 (by rw [hP.1]; exact nI_le (by omega) (by omega)))
    refine go_iconst (v := -1) (pc := 49) dX8_sitter_49 (by decide) ?_
    exact go_iretP (pc := 50) rfl dX8_sitter_50 (Nat.le_of_ble_eq_true rfl) (Nat.le_of_ble_eq_true rfl) (by rfl)
  | succ m ih =>
    intro i hi
    obtain ⟨hP1, hP2, -⟩ := id hP
    refine go_iload_n (pc := 2) dX8_sitter_2 rfl ?_
    refine go_aload_n (pc := 3) dX8_sitter_3 rfl ?_
    refine go_V0P (pc := 4) v_X8_242 rfl rfl (rcv_of (ci := 8) (by first | exact mo0 hM | exact mo1 hM | exact mo6 hM | exact mo7 hM | exact mo8 hM | exact mo2 hM | exact mo3 hM | exact mo4 hM | exact mo5 hM | exact mo9 hM | exact mo10 hM | exact mo11 hM | exact mo12 hM | exact mo13 hM | exact mo14 hM | exact mo15 hM | exact mo16 hM) rfl) dX8_sitter_4 (sp_people (k := k - 1) hM) ?_
    refine go_icmp_ge (tgt := 49) (pc := 7) dX8_sitter_7 (by decide) (fun h_7 => by exfalso; exact absurd h_7 (by rw [hP.1]; exact nI_ge (by omega) (by omega))) (fun h_7 => ?_)
    refine go_aload_n (pc := 10) dX8_sitter_10 rfl ?_
    refine go_getf (pc := 11) f_X8_9 dX8_sitter_11 (by first | exact mo0 hM | exact mo1 hM | exact mo6 hM | exact mo7 hM | exact mo8 hM | exact mo2 hM | exact mo3 hM | exact mo4 hM | exact mo5 hM | exact mo9 hM | exact mo10 hM | exact mo11 hM | exact mo12 hM | exact mo13 hM | exact mo14 hM | exact mo15 hM | exact mo16 hM) (by rfl) ?_
    refine go_bipush (v := 16) (pc := 14) dX8_sitter_14 (by decide) ?_
    refine go_iload_n (pc := 16) dX8_sitter_16 rfl ?_
    refine go_iadd (pc := 17) dX8_sitter_17 ?_
    refine go_iald (pc := 18) dX8_sitter_18 (by first | exact mo0 hM | exact mo1 hM | exact mo6 hM | exact mo7 hM | exact mo8 hM | exact mo2 hM | exact mo3 hM | exact mo4 hM | exact mo5 hM | exact mo9 hM | exact mo10 hM | exact mo11 hM | exact mo12 hM | exact mo13 hM | exact mo14 hM | exact mo15 hM | exact mo16 hM) (by exact ⟨nI_add 16 _, by omega⟩) ?_
    refine go_iload_n (pc := 19) dX8_sitter_19 rfl ?_
    refine go_icmp_ne (tgt := 43) (pc := 20) dX8_sitter_20 (by decide) (fun h_20 => ?_) (fun h_20 => ?_)
    · refine go_iinc (v := 1) (lw := [_, _, _, _]) (pc := 43) dX8_sitter_43 rfl (by decide) (by decide) rfl ?_
      refine go_goto (tgt := 2) (pc := 46) dX8_sitter_46 (by decide) ?_
      rw [nI_1, show fnd (fun p => decide (K (16 + p) = w ∧ K (8 + p) = c ∧ w ≠ -1)) i (m + 1) = fnd (fun p => decide (K (16 + p) = w ∧ K (8 + p) = c ∧ w ≠ -1)) (i + 1) m from by simp_all [fnd]]
      exact ih (i + 1) (by omega)
    · refine go_aload_n (pc := 23) dX8_sitter_23 rfl ?_
      refine go_getf (pc := 24) f_X8_9 dX8_sitter_24 (by first | exact mo0 hM | exact mo1 hM | exact mo6 hM | exact mo7 hM | exact mo8 hM | exact mo2 hM | exact mo3 hM | exact mo4 hM | exact mo5 hM | exact mo9 hM | exact mo10 hM | exact mo11 hM | exact mo12 hM | exact mo13 hM | exact mo14 hM | exact mo15 hM | exact mo16 hM) (by rfl) ?_
      refine go_bipush (v := 8) (pc := 27) dX8_sitter_27 (by decide) ?_
      refine go_iload_n (pc := 29) dX8_sitter_29 rfl ?_
      refine go_iadd (pc := 30) dX8_sitter_30 ?_
      refine go_iald (pc := 31) dX8_sitter_31 (by first | exact mo0 hM | exact mo1 hM | exact mo6 hM | exact mo7 hM | exact mo8 hM | exact mo2 hM | exact mo3 hM | exact mo4 hM | exact mo5 hM | exact mo9 hM | exact mo10 hM | exact mo11 hM | exact mo12 hM | exact mo13 hM | exact mo14 hM | exact mo15 hM | exact mo16 hM) (by exact ⟨nI_add 8 _, by omega⟩) ?_
      refine go_iload_n (pc := 32) dX8_sitter_32 rfl ?_
      refine go_icmp_ne (tgt := 43) (pc := 33) dX8_sitter_33 (by decide) (fun h_33 => ?_) (fun h_33 => ?_)
      · refine go_iinc (v := 1) (lw := [_, _, _, _]) (pc := 43) dX8_sitter_43 rfl (by decide) (by decide) rfl ?_
        refine go_goto (tgt := 2) (pc := 46) dX8_sitter_46 (by decide) ?_
        rw [nI_1, show fnd (fun p => decide (K (16 + p) = w ∧ K (8 + p) = c ∧ w ≠ -1)) i (m + 1) = fnd (fun p => decide (K (16 + p) = w ∧ K (8 + p) = c ∧ w ≠ -1)) (i + 1) m from by simp_all [fnd]]
        exact ih (i + 1) (by omega)
      · refine go_iload_n (pc := 36) dX8_sitter_36 rfl ?_
        refine go_iconst (v := -1) (pc := 37) dX8_sitter_37 (by decide) ?_
        refine go_icmp_eq (tgt := 43) (pc := 38) dX8_sitter_38 (by decide) (fun h_38 => ?_) (fun h_38 => ?_)
        · refine go_iinc (v := 1) (lw := [_, _, _, _]) (pc := 43) dX8_sitter_43 rfl (by decide) (by decide) rfl ?_
          refine go_goto (tgt := 2) (pc := 46) dX8_sitter_46 (by decide) ?_
          rw [nI_1, show fnd (fun p => decide (K (16 + p) = w ∧ K (8 + p) = c ∧ w ≠ -1)) i (m + 1) = fnd (fun p => decide (K (16 + p) = w ∧ K (8 + p) = c ∧ w ≠ -1)) (i + 1) m from by simp_all [fnd]]
          exact ih (i + 1) (by omega)
        · refine go_iload_n (pc := 41) dX8_sitter_41 rfl ?_
          exact go_iretP (pc := 42) rfl dX8_sitter_42 (Nat.le_of_ble_eq_true rfl) (Nat.le_of_ble_eq_true rfl) (by simp_all [fnd, oI])
theorem sp_sitter {Γ : gam} {σ : sto} {n k r : Nat} {F K : row} {A : Nat → row} {Nm : Nat → Int64} (hM : MoAt Γ σ r F K A Nm) (hk : 1 ≤ k) (hP : okP K) (c w : Int32) : Sp Γ (rmk k 0 0) uX8_sitter [.ref r, .int c, .int w] σ n (qP (oI (sitK K c w)) σ n) := by
  refine sp_intro [some (.ref r), some (.int c), some (.int w), none] (by decide +kernel) rfl (Nat.le_of_ble_eq_true rfl) rfl ?_
  refine go_iconst (v := 0) (pc := 0) dX8_sitter_0 (by decide) ?_
  refine go_istore_n (lw := [_, _, _, _]) (pc := 1) dX8_sitter_1 (by decide) rfl ?_
  exact lp_sitter hM hk hP c w (kP K) 0 (by omega)
