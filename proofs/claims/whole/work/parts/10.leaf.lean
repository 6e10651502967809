/-! ===== small methods of the reference that touch nothing ===== -/
def bI (p : Prop) [Decidable p] : Int32 := if p then 1 else 0
theorem sp_within {Γ : gam} {σ : sto} {n k : Nat} (v lo hi : Int64) : Sp Γ (rmk k 0 0) uX8_within [.long v, .long lo, .long hi] σ n (qP (bI (lo ≤ v ∧ v ≤ hi)) σ n) := by
  refine sp_intro [some (.long v), none, some (.long lo), none, some (.long hi), none] (by decide +kernel) rfl (Nat.le_of_ble_eq_true rfl) rfl ?_
  refine go_lload_n (pc := 0) dX8_within_0 rfl ?_
  refine go_lload_n (pc := 1) dX8_within_1 rfl ?_
  refine go_lcmp (pc := 2) dX8_within_2 ?_
  refine go_if_lt (tgt := 17) (pc := 3) dX8_within_3 (by decide) (fun h_3 => ?_) (fun h_3 => ?_)
  · refine go_iconst (v := 0) (pc := 17) dX8_within_17 (by decide) ?_
    exact go_zretP (pc := 18) rfl (by rfl) dX8_within_18 (Nat.le_of_ble_eq_true rfl) (Nat.le_of_ble_eq_true rfl) (by unfold bI; (try simp only [lg_cmp_lt, lg_cmp_gt, lg_cmp_le, lg_cmp_ge, lg_cmp_eq] at *); split <;> simp_all [Int32.le_iff_toInt_le, Int32.lt_iff_toInt_lt, Int64.le_iff_toInt_le, Int64.lt_iff_toInt_lt] <;> omega)
  · refine go_lload_n (pc := 6) dX8_within_6 rfl ?_
    refine go_lload (pc := 7) dX8_within_7 rfl ?_
    refine go_lcmp (pc := 9) dX8_within_9 ?_
    refine go_if_gt (tgt := 17) (pc := 10) dX8_within_10 (by decide) (fun h_10 => ?_) (fun h_10 => ?_)
    · refine go_iconst (v := 0) (pc := 17) dX8_within_17 (by decide) ?_
      exact go_zretP (pc := 18) rfl (by rfl) dX8_within_18 (Nat.le_of_ble_eq_true rfl) (Nat.le_of_ble_eq_true rfl) (by unfold bI; (try simp only [lg_cmp_lt, lg_cmp_gt, lg_cmp_le, lg_cmp_ge, lg_cmp_eq] at *); split <;> simp_all [Int32.le_iff_toInt_le, Int32.lt_iff_toInt_lt, Int64.le_iff_toInt_le, Int64.lt_iff_toInt_lt] <;> omega)
    · refine go_iconst (v := 1) (pc := 13) dX8_within_13 (by decide) ?_
      refine go_goto (tgt := 18) (pc := 14) dX8_within_14 (by decide) ?_
      exact go_zretP (pc := 18) rfl (by rfl) dX8_within_18 (Nat.le_of_ble_eq_true rfl) (Nat.le_of_ble_eq_true rfl) (by unfold bI; (try simp only [lg_cmp_lt, lg_cmp_gt, lg_cmp_le, lg_cmp_ge, lg_cmp_eq] at *); split <;> simp_all [Int32.le_iff_toInt_le, Int32.lt_iff_toInt_lt, Int64.le_iff_toInt_le, Int64.lt_iff_toInt_lt] <;> omega)
theorem sp_has {Γ : gam} {σ : sto} {n k : Nat} (a b : Int32) : Sp Γ (rmk k 0 0) uX8_has [.int a, .int b] σ n (qP (bI ((a >>> (b &&& 31)) &&& 1 = 1)) σ n) := by
  refine sp_intro [some (.int a), some (.int b)] (by decide +kernel) rfl (Nat.le_of_ble_eq_true rfl) rfl ?_
  refine go_iload_n (pc := 0) dX8_has_0 rfl ?_
  refine go_iload_n (pc := 1) dX8_has_1 rfl ?_
  refine go_ishr (pc := 2) dX8_has_2 ?_
  refine go_iconst (v := 1) (pc := 3) dX8_has_3 (by decide) ?_
  refine go_iand (pc := 4) dX8_has_4 ?_
  refine go_iconst (v := 1) (pc := 5) dX8_has_5 (by decide) ?_
  refine go_icmp_ne (tgt := 13) (pc := 6) dX8_has_6 (by decide) (fun h_6 => ?_) (fun h_6 => ?_)
  · refine go_iconst (v := 0) (pc := 13) dX8_has_13 (by decide) ?_
    exact go_zretP (pc := 14) rfl (by rfl) dX8_has_14 (Nat.le_of_ble_eq_true rfl) (Nat.le_of_ble_eq_true rfl) (by simp_all [bI])
  · refine go_iconst (v := 1) (pc := 9) dX8_has_9 (by decide) ?_
    refine go_goto (tgt := 14) (pc := 10) dX8_has_10 (by decide) ?_
    exact go_zretP (pc := 14) rfl (by rfl) dX8_has_14 (Nat.le_of_ble_eq_true rfl) (Nat.le_of_ble_eq_true rfl) (by simp_all [bI])
theorem sp_isLetter {Γ : gam} {σ : sto} {n k : Nat} (a : Int32) : Sp Γ (rmk k 0 0) uX8_isLetter [.int a] σ n (qP (bI (97 ≤ a ∧ a ≤ 122)) σ n) := by
  refine sp_intro [some (.int a)] (by decide +kernel) rfl (Nat.le_of_ble_eq_true rfl) rfl ?_
  refine go_iload_n (pc := 0) dX8_isLetter_0 rfl ?_
  refine go_bipush (v := 97) (pc := 1) dX8_isLetter_1 (by decide) ?_
  refine go_icmp_lt (tgt := 16) (pc := 3) dX8_isLetter_3 (by decide) (fun h_3 => ?_) (fun h_3 => ?_)
  · refine go_iconst (v := 0) (pc := 16) dX8_isLetter_16 (by decide) ?_
    exact go_zretP (pc := 17) rfl (by rfl) dX8_isLetter_17 (Nat.le_of_ble_eq_true rfl) (Nat.le_of_ble_eq_true rfl) (by unfold bI; (try simp only [lg_cmp_lt, lg_cmp_gt, lg_cmp_le, lg_cmp_ge, lg_cmp_eq] at *); split <;> simp_all [Int32.le_iff_toInt_le, Int32.lt_iff_toInt_lt, Int64.le_iff_toInt_le, Int64.lt_iff_toInt_lt] <;> omega)
  · refine go_iload_n (pc := 6) dX8_isLetter_6 rfl ?_
    refine go_bipush (v := 122) (pc := 7) dX8_isLetter_7 (by decide) ?_
    refine go_icmp_gt (tgt := 16) (pc := 9) dX8_isLetter_9 (by decide) (fun h_9 => ?_) (fun h_9 => ?_)
    · refine go_iconst (v := 0) (pc := 16) dX8_isLetter_16 (by decide) ?_
      exact go_zretP (pc := 17) rfl (by rfl) dX8_isLetter_17 (Nat.le_of_ble_eq_true rfl) (Nat.le_of_ble_eq_true rfl) (by unfold bI; (try simp only [lg_cmp_lt, lg_cmp_gt, lg_cmp_le, lg_cmp_ge, lg_cmp_eq] at *); split <;> simp_all [Int32.le_iff_toInt_le, Int32.lt_iff_toInt_lt, Int64.le_iff_toInt_le, Int64.lt_iff_toInt_lt] <;> omega)
    · refine go_iconst (v := 1) (pc := 12) dX8_isLetter_12 (by decide) ?_
      refine go_goto (tgt := 17) (pc := 13) dX8_isLetter_13 (by decide) ?_
      exact go_zretP (pc := 17) rfl (by rfl) dX8_isLetter_17 (Nat.le_of_ble_eq_true rfl) (Nat.le_of_ble_eq_true rfl) (by unfold bI; (try simp only [lg_cmp_lt, lg_cmp_gt, lg_cmp_le, lg_cmp_ge, lg_cmp_eq] at *); split <;> simp_all [Int32.le_iff_toInt_le, Int32.lt_iff_toInt_lt, Int64.le_iff_toInt_le, Int64.lt_iff_toInt_lt] <;> omega)
theorem sp4_isLetter {Γ : gam} {σ : sto} {n k : Nat} (a : Int32) : Sp Γ (rmk k 0 0) uX4_isLetter [.int a] σ n (qP (bI (97 ≤ a ∧ a ≤ 122)) σ n) := by
  refine sp_intro [some (.int a)] (by decide +kernel) rfl (Nat.le_of_ble_eq_true rfl) rfl ?_
  refine go_iload_n (pc := 0) dX4_isLetter_0 rfl ?_
  refine go_bipush (v := 97) (pc := 1) dX4_isLetter_1 (by decide) ?_
  refine go_icmp_lt (tgt := 16) (pc := 3) dX4_isLetter_3 (by decide) (fun h_3 => ?_) (fun h_3 => ?_)
  · refine go_iconst (v := 0) (pc := 16) dX4_isLetter_16 (by decide) ?_
    exact go_zretP (pc := 17) rfl (by rfl) dX4_isLetter_17 (Nat.le_of_ble_eq_true rfl) (Nat.le_of_ble_eq_true rfl) (by unfold bI; (try simp only [lg_cmp_lt, lg_cmp_gt, lg_cmp_le, lg_cmp_ge, lg_cmp_eq] at *); split <;> simp_all [Int32.le_iff_toInt_le, Int32.lt_iff_toInt_lt, Int64.le_iff_toInt_le, Int64.lt_iff_toInt_lt] <;> omega)
  · refine go_iload_n (pc := 6) dX4_isLetter_6 rfl ?_
    refine go_bipush (v := 122) (pc := 7) dX4_isLetter_7 (by decide) ?_
    refine go_icmp_gt (tgt := 16) (pc := 9) dX4_isLetter_9 (by decide) (fun h_9 => ?_) (fun h_9 => ?_)
    · refine go_iconst (v := 0) (pc := 16) dX4_isLetter_16 (by decide) ?_
      exact go_zretP (pc := 17) rfl (by rfl) dX4_isLetter_17 (Nat.le_of_ble_eq_true rfl) (Nat.le_of_ble_eq_true rfl) (by unfold bI; (try simp only [lg_cmp_lt, lg_cmp_gt, lg_cmp_le, lg_cmp_ge, lg_cmp_eq] at *); split <;> simp_all [Int32.le_iff_toInt_le, Int32.lt_iff_toInt_lt, Int64.le_iff_toInt_le, Int64.lt_iff_toInt_lt] <;> omega)
    · refine go_iconst (v := 1) (pc := 12) dX4_isLetter_12 (by decide) ?_
      refine go_goto (tgt := 17) (pc := 13) dX4_isLetter_13 (by decide) ?_
      exact go_zretP (pc := 17) rfl (by rfl) dX4_isLetter_17 (Nat.le_of_ble_eq_true rfl) (Nat.le_of_ble_eq_true rfl) (by unfold bI; (try simp only [lg_cmp_lt, lg_cmp_gt, lg_cmp_le, lg_cmp_ge, lg_cmp_eq] at *); split <;> simp_all [Int32.le_iff_toInt_le, Int32.lt_iff_toInt_lt, Int64.le_iff_toInt_le, Int64.lt_iff_toInt_lt] <;> omega)
theorem sp_isDigit {Γ : gam} {σ : sto} {n k : Nat} (a : Int32) : Sp Γ (rmk k 0 0) uX8_isDigit [.int a] σ n (qP (bI (48 ≤ a ∧ a ≤ 57)) σ n) := by
  refine sp_intro [some (.int a)] (by decide +kernel) rfl (Nat.le_of_ble_eq_true rfl) rfl ?_
  refine go_iload_n (pc := 0) dX8_isDigit_0 rfl ?_
  refine go_bipush (v := 48) (pc := 1) dX8_isDigit_1 (by decide) ?_
  refine go_icmp_lt (tgt := 16) (pc := 3) dX8_isDigit_3 (by decide) (fun h_3 => ?_) (fun h_3 => ?_)
  · refine go_iconst (v := 0) (pc := 16) dX8_isDigit_16 (by decide) ?_
    exact go_zretP (pc := 17) rfl (by rfl) dX8_isDigit_17 (Nat.le_of_ble_eq_true rfl) (Nat.le_of_ble_eq_true rfl) (by unfold bI; (try simp only [lg_cmp_lt, lg_cmp_gt, lg_cmp_le, lg_cmp_ge, lg_cmp_eq] at *); split <;> simp_all [Int32.le_iff_toInt_le, Int32.lt_iff_toInt_lt, Int64.le_iff_toInt_le, Int64.lt_iff_toInt_lt] <;> omega)
  · refine go_iload_n (pc := 6) dX8_isDigit_6 rfl ?_
    refine go_bipush (v := 57) (pc := 7) dX8_isDigit_7 (by decide) ?_
    refine go_icmp_gt (tgt := 16) (pc := 9) dX8_isDigit_9 (by decide) (fun h_9 => ?_) (fun h_9 => ?_)
    · refine go_iconst (v := 0) (pc := 16) dX8_isDigit_16 (by decide) ?_
      exact go_zretP (pc := 17) rfl (by rfl) dX8_isDigit_17 (Nat.le_of_ble_eq_true rfl) (Nat.le_of_ble_eq_true rfl) (by unfold bI; (try simp only [lg_cmp_lt, lg_cmp_gt, lg_cmp_le, lg_cmp_ge, lg_cmp_eq] at *); split <;> simp_all [Int32.le_iff_toInt_le, Int32.lt_iff_toInt_lt, Int64.le_iff_toInt_le, Int64.lt_iff_toInt_lt] <;> omega)
    · refine go_iconst (v := 1) (pc := 12) dX8_isDigit_12 (by decide) ?_
      refine go_goto (tgt := 17) (pc := 13) dX8_isDigit_13 (by decide) ?_
      exact go_zretP (pc := 17) rfl (by rfl) dX8_isDigit_17 (Nat.le_of_ble_eq_true rfl) (Nat.le_of_ble_eq_true rfl) (by unfold bI; (try simp only [lg_cmp_lt, lg_cmp_gt, lg_cmp_le, lg_cmp_ge, lg_cmp_eq] at *); split <;> simp_all [Int32.le_iff_toInt_le, Int32.lt_iff_toInt_lt, Int64.le_iff_toInt_le, Int64.lt_iff_toInt_lt] <;> omega)
theorem sp4_isDigit {Γ : gam} {σ : sto} {n k : Nat} (a : Int32) : Sp Γ (rmk k 0 0) uX4_isDigit [.int a] σ n (qP (bI (48 ≤ a ∧ a ≤ 57)) σ n) := by
  refine sp_intro [some (.int a)] (by decide +kernel) rfl (Nat.le_of_ble_eq_true rfl) rfl ?_
  refine go_iload_n (pc := 0) dX4_isDigit_0 rfl ?_
  refine go_bipush (v := 48) (pc := 1) dX4_isDigit_1 (by decide) ?_
  refine go_icmp_lt (tgt := 16) (pc := 3) dX4_isDigit_3 (by decide) (fun h_3 => ?_) (fun h_3 => ?_)
  · refine go_iconst (v := 0) (pc := 16) dX4_isDigit_16 (by decide) ?_
    exact go_zretP (pc := 17) rfl (by rfl) dX4_isDigit_17 (Nat.le_of_ble_eq_true rfl) (Nat.le_of_ble_eq_true rfl) (by unfold bI; (try simp only [lg_cmp_lt, lg_cmp_gt, lg_cmp_le, lg_cmp_ge, lg_cmp_eq] at *); split <;> simp_all [Int32.le_iff_toInt_le, Int32.lt_iff_toInt_lt, Int64.le_iff_toInt_le, Int64.lt_iff_toInt_lt] <;> omega)
  · refine go_iload_n (pc := 6) dX4_isDigit_6 rfl ?_
    refine go_bipush (v := 57) (pc := 7) dX4_isDigit_7 (by decide) ?_
    refine go_icmp_gt (tgt := 16) (pc := 9) dX4_isDigit_9 (by decide) (fun h_9 => ?_) (fun h_9 => ?_)
    · refine go_iconst (v := 0) (pc := 16) dX4_isDigit_16 (by decide) ?_
      exact go_zretP (pc := 17) rfl (by rfl) dX4_isDigit_17 (Nat.le_of_ble_eq_true rfl) (Nat.le_of_ble_eq_true rfl) (by unfold bI; (try simp only [lg_cmp_lt, lg_cmp_gt, lg_cmp_le, lg_cmp_ge, lg_cmp_eq] at *); split <;> simp_all [Int32.le_iff_toInt_le, Int32.lt_iff_toInt_lt, Int64.le_iff_toInt_le, Int64.lt_iff_toInt_lt] <;> omega)
    · refine go_iconst (v := 1) (pc := 12) dX4_isDigit_12 (by decide) ?_
      refine go_goto (tgt := 17) (pc := 13) dX4_isDigit_13 (by decide) ?_
      exact go_zretP (pc := 17) rfl (by rfl) dX4_isDigit_17 (Nat.le_of_ble_eq_true rfl) (Nat.le_of_ble_eq_true rfl) (by unfold bI; (try simp only [lg_cmp_lt, lg_cmp_gt, lg_cmp_le, lg_cmp_ge, lg_cmp_eq] at *); split <;> simp_all [Int32.le_iff_toInt_le, Int32.lt_iff_toInt_lt, Int64.le_iff_toInt_le, Int64.lt_iff_toInt_lt] <;> omega)
