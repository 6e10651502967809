/-! ===== the reference: laws ===== -/
theorem sp_bound {Γ : gam} {σ : sto} {n k : Nat} (hk : 1 ≤ k) (v : Int64) : Sp Γ (rmk k 0 0) uX8_bound [.long v] σ n (qP (bnd v) σ n) := by
  refine sp_intro [some (.long v), none] (by decide +kernel) rfl (Nat.le_of_ble_eq_true rfl) rfl ?_
  refine go_ldc2 (pc := 0) kw7_113 dX8_bound_0 ?_
  refine go_ldc2 (pc := 3) kw7_114 dX8_bound_3 ?_
  refine go_lload_n (pc := 6) dX8_bound_6 rfl ?_
  refine go_mminL (pc := 7) s_X8_256 dX8_bound_7 ?_
  refine go_mmaxL (pc := 10) s_X8_262 dX8_bound_10 ?_
  refine go_l2i (pc := 13) dX8_bound_13 ?_
  exact go_iretP (pc := 14) rfl dX8_bound_14 (Nat.le_of_ble_eq_true rfl) (Nat.le_of_ble_eq_true rfl) rfl
theorem sp_done10 {Γ : gam} {σ : sto} {n k : Nat} (hk : 2 ≤ k) (a b : Int64) : Sp Γ (rmk k 0 0) uX8_done [.int 10, .long a, .long b] σ n (qP (doneL 10 a b) σ n) := by
  refine sp_intro [some (.int 10), some (.long a), none, some (.long b), none] (by decide +kernel) rfl (Nat.le_of_ble_eq_true rfl) rfl ?_
  refine go_iload_n (pc := 0) dX8_done_0 rfl ?_
  refine go_tableIn (off := 43) (tgt := 44) (pc := 1) dX8_done_1 (by decide) (by decide) rfl (by decide) ?_
  refine go_lload_n (pc := 44) dX8_done_44 rfl ?_
  refine go_lload_n (pc := 45) dX8_done_45 rfl ?_
  refine go_ladd (pc := 46) dX8_done_46 ?_
  refine go_S1P (pc := 47) s_X8_265 rfl rfl dX8_done_47 (sp_bound (k := k - 1) (by omega) _) ?_
  exact go_iretP (pc := 50) rfl dX8_done_50 (Nat.le_of_ble_eq_true rfl) (Nat.le_of_ble_eq_true rfl) (by first | rfl | (simp only [lg_cmp_lt, lg_cmp_gt, lg_cmp_le, lg_cmp_ge, lg_cmp_eq] at *; simp [doneL, bI]; first | assumption | simp_all [Int64.le_iff_toInt_le, Int64.lt_iff_toInt_lt]; done) | (simp only [lg_cmp_lt, lg_cmp_gt, lg_cmp_le, lg_cmp_ge, lg_cmp_eq] at *; simp_all [doneL, bI, Int64.le_iff_toInt_le, Int64.lt_iff_toInt_lt]; omega))
theorem sp_done11 {Γ : gam} {σ : sto} {n k : Nat} (hk : 2 ≤ k) (a b : Int64) : Sp Γ (rmk k 0 0) uX8_done [.int 11, .long a, .long b] σ n (qP (doneL 11 a b) σ n) := by
  refine sp_intro [some (.int 11), some (.long a), none, some (.long b), none] (by decide +kernel) rfl (Nat.le_of_ble_eq_true rfl) rfl ?_
  refine go_iload_n (pc := 0) dX8_done_0 rfl ?_
  refine go_tableIn (off := 50) (tgt := 51) (pc := 1) dX8_done_1 (by decide) (by decide) rfl (by decide) ?_
  refine go_lload_n (pc := 51) dX8_done_51 rfl ?_
  refine go_lload_n (pc := 52) dX8_done_52 rfl ?_
  refine go_lsub (pc := 53) dX8_done_53 ?_
  refine go_S1P (pc := 54) s_X8_265 rfl rfl dX8_done_54 (sp_bound (k := k - 1) (by omega) _) ?_
  exact go_iretP (pc := 57) rfl dX8_done_57 (Nat.le_of_ble_eq_true rfl) (Nat.le_of_ble_eq_true rfl) (by first | rfl | (simp only [lg_cmp_lt, lg_cmp_gt, lg_cmp_le, lg_cmp_ge, lg_cmp_eq] at *; simp [doneL, bI]; first | assumption | simp_all [Int64.le_iff_toInt_le, Int64.lt_iff_toInt_lt]; done) | (simp only [lg_cmp_lt, lg_cmp_gt, lg_cmp_le, lg_cmp_ge, lg_cmp_eq] at *; simp_all [doneL, bI, Int64.le_iff_toInt_le, Int64.lt_iff_toInt_lt]; omega))
theorem sp_done12 {Γ : gam} {σ : sto} {n k : Nat} (hk : 2 ≤ k) (a b : Int64) : Sp Γ (rmk k 0 0) uX8_done [.int 12, .long a, .long b] σ n (qP (doneL 12 a b) σ n) := by
  refine sp_intro [some (.int 12), some (.long a), none, some (.long b), none] (by decide +kernel) rfl (Nat.le_of_ble_eq_true rfl) rfl ?_
  refine go_iload_n (pc := 0) dX8_done_0 rfl ?_
  refine go_tableIn (off := 57) (tgt := 58) (pc := 1) dX8_done_1 (by decide) (by decide) rfl (by decide) ?_
  refine go_lload_n (pc := 58) dX8_done_58 rfl ?_
  refine go_lload_n (pc := 59) dX8_done_59 rfl ?_
  refine go_lmul (pc := 60) dX8_done_60 ?_
  refine go_S1P (pc := 61) s_X8_265 rfl rfl dX8_done_61 (sp_bound (k := k - 1) (by omega) _) ?_
  exact go_iretP (pc := 64) rfl dX8_done_64 (Nat.le_of_ble_eq_true rfl) (Nat.le_of_ble_eq_true rfl) (by first | rfl | (simp only [lg_cmp_lt, lg_cmp_gt, lg_cmp_le, lg_cmp_ge, lg_cmp_eq] at *; simp [doneL, bI]; first | assumption | simp_all [Int64.le_iff_toInt_le, Int64.lt_iff_toInt_lt]; done) | (simp only [lg_cmp_lt, lg_cmp_gt, lg_cmp_le, lg_cmp_ge, lg_cmp_eq] at *; simp_all [doneL, bI, Int64.le_iff_toInt_le, Int64.lt_iff_toInt_lt]; omega))
theorem sp_done13 {Γ : gam} {σ : sto} {n k : Nat} (hk : 2 ≤ k) (a b : Int64) : Sp Γ (rmk k 0 0) uX8_done [.int 13, .long a, .long b] σ n (qP (doneL 13 a b) σ n) := by
  refine sp_intro [some (.int 13), some (.long a), none, some (.long b), none] (by decide +kernel) rfl (Nat.le_of_ble_eq_true rfl) rfl ?_
  refine go_iload_n (pc := 0) dX8_done_0 rfl ?_
  refine go_tableIn (off := 64) (tgt := 65) (pc := 1) dX8_done_1 (by decide) (by decide) rfl (by decide) ?_
  refine go_lload_n (pc := 65) dX8_done_65 rfl ?_
  refine go_lload_n (pc := 66) dX8_done_66 rfl ?_
  refine go_lcmp (pc := 67) dX8_done_67 ?_
  refine go_if_ne (tgt := 75) (pc := 68) dX8_done_68 (by decide) (fun h_68 => ?_) (fun h_68 => ?_)
  · refine go_iconst (v := 0) (pc := 75) dX8_done_75 (by decide) ?_
    exact go_iretP (pc := 76) rfl dX8_done_76 (Nat.le_of_ble_eq_true rfl) (Nat.le_of_ble_eq_true rfl) (by first | rfl | (simp only [lg_cmp_lt, lg_cmp_gt, lg_cmp_le, lg_cmp_ge, lg_cmp_eq] at *; simp [doneL, bI]; first | assumption | simp_all [Int64.le_iff_toInt_le, Int64.lt_iff_toInt_lt]; done) | (simp only [lg_cmp_lt, lg_cmp_gt, lg_cmp_le, lg_cmp_ge, lg_cmp_eq] at *; simp_all [doneL, bI, Int64.le_iff_toInt_le, Int64.lt_iff_toInt_lt]; omega))
  · refine go_iconst (v := 1) (pc := 71) dX8_done_71 (by decide) ?_
    refine go_goto (tgt := 76) (pc := 72) dX8_done_72 (by decide) ?_
    exact go_iretP (pc := 76) rfl dX8_done_76 (Nat.le_of_ble_eq_true rfl) (Nat.le_of_ble_eq_true rfl) (by first | rfl | (simp only [lg_cmp_lt, lg_cmp_gt, lg_cmp_le, lg_cmp_ge, lg_cmp_eq] at *; simp [doneL, bI]; first | assumption | simp_all [Int64.le_iff_toInt_le, Int64.lt_iff_toInt_lt]; done) | (simp only [lg_cmp_lt, lg_cmp_gt, lg_cmp_le, lg_cmp_ge, lg_cmp_eq] at *; simp_all [doneL, bI, Int64.le_iff_toInt_le, Int64.lt_iff_toInt_lt]; omega))
theorem sp_done14 {Γ : gam} {σ : sto} {n k : Nat} (hk : 2 ≤ k) (a b : Int64) : Sp Γ (rmk k 0 0) uX8_done [.int 14, .long a, .long b] σ n (qP (doneL 14 a b) σ n) := by
  refine sp_intro [some (.int 14), some (.long a), none, some (.long b), none] (by decide +kernel) rfl (Nat.le_of_ble_eq_true rfl) rfl ?_
  refine go_iload_n (pc := 0) dX8_done_0 rfl ?_
  refine go_tableIn (off := 76) (tgt := 77) (pc := 1) dX8_done_1 (by decide) (by decide) rfl (by decide) ?_
  refine go_lload_n (pc := 77) dX8_done_77 rfl ?_
  refine go_lload_n (pc := 78) dX8_done_78 rfl ?_
  refine go_lcmp (pc := 79) dX8_done_79 ?_
  refine go_if_ge (tgt := 87) (pc := 80) dX8_done_80 (by decide) (fun h_80 => ?_) (fun h_80 => ?_)
  · refine go_iconst (v := 0) (pc := 87) dX8_done_87 (by decide) ?_
    exact go_iretP (pc := 88) rfl dX8_done_88 (Nat.le_of_ble_eq_true rfl) (Nat.le_of_ble_eq_true rfl) (by first | rfl | (simp only [lg_cmp_lt, lg_cmp_gt, lg_cmp_le, lg_cmp_ge, lg_cmp_eq] at *; simp [doneL, bI]; first | assumption | simp_all [Int64.le_iff_toInt_le, Int64.lt_iff_toInt_lt]; done) | (simp only [lg_cmp_lt, lg_cmp_gt, lg_cmp_le, lg_cmp_ge, lg_cmp_eq] at *; simp_all [doneL, bI, Int64.le_iff_toInt_le, Int64.lt_iff_toInt_lt]; omega))
  · refine go_iconst (v := 1) (pc := 83) dX8_done_83 (by decide) ?_
    refine go_goto (tgt := 88) (pc := 84) dX8_done_84 (by decide) ?_
    exact go_iretP (pc := 88) rfl dX8_done_88 (Nat.le_of_ble_eq_true rfl) (Nat.le_of_ble_eq_true rfl) (by first | rfl | (simp only [lg_cmp_lt, lg_cmp_gt, lg_cmp_le, lg_cmp_ge, lg_cmp_eq] at *; simp [doneL, bI]; first | assumption | simp_all [Int64.le_iff_toInt_le, Int64.lt_iff_toInt_lt]; done) | (simp only [lg_cmp_lt, lg_cmp_gt, lg_cmp_le, lg_cmp_ge, lg_cmp_eq] at *; simp_all [doneL, bI, Int64.le_iff_toInt_le, Int64.lt_iff_toInt_lt]; omega))
theorem sp_done15 {Γ : gam} {σ : sto} {n k : Nat} (hk : 2 ≤ k) (a b : Int64) : Sp Γ (rmk k 0 0) uX8_done [.int 15, .long a, .long b] σ n (qP (doneL 15 a b) σ n) := by
  refine sp_intro [some (.int 15), some (.long a), none, some (.long b), none] (by decide +kernel) rfl (Nat.le_of_ble_eq_true rfl) rfl ?_
  refine go_iload_n (pc := 0) dX8_done_0 rfl ?_
  refine go_tableIn (off := 88) (tgt := 89) (pc := 1) dX8_done_1 (by decide) (by decide) rfl (by decide) ?_
  refine go_lload_n (pc := 89) dX8_done_89 rfl ?_
  refine go_lload_n (pc := 90) dX8_done_90 rfl ?_
  refine go_lcmp (pc := 91) dX8_done_91 ?_
  refine go_if_le (tgt := 99) (pc := 92) dX8_done_92 (by decide) (fun h_92 => ?_) (fun h_92 => ?_)
  · refine go_iconst (v := 0) (pc := 99) dX8_done_99 (by decide) ?_
    exact go_iretP (pc := 100) rfl dX8_done_100 (Nat.le_of_ble_eq_true rfl) (Nat.le_of_ble_eq_true rfl) (by first | rfl | (simp only [lg_cmp_lt, lg_cmp_gt, lg_cmp_le, lg_cmp_ge, lg_cmp_eq] at *; simp [doneL, bI]; first | assumption | simp_all [Int64.le_iff_toInt_le, Int64.lt_iff_toInt_lt]; done) | (simp only [lg_cmp_lt, lg_cmp_gt, lg_cmp_le, lg_cmp_ge, lg_cmp_eq] at *; simp_all [doneL, bI, Int64.le_iff_toInt_le, Int64.lt_iff_toInt_lt]; omega))
  · refine go_iconst (v := 1) (pc := 95) dX8_done_95 (by decide) ?_
    refine go_goto (tgt := 100) (pc := 96) dX8_done_96 (by decide) ?_
    exact go_iretP (pc := 100) rfl dX8_done_100 (Nat.le_of_ble_eq_true rfl) (Nat.le_of_ble_eq_true rfl) (by first | rfl | (simp only [lg_cmp_lt, lg_cmp_gt, lg_cmp_le, lg_cmp_ge, lg_cmp_eq] at *; simp [doneL, bI]; first | assumption | simp_all [Int64.le_iff_toInt_le, Int64.lt_iff_toInt_lt]; done) | (simp only [lg_cmp_lt, lg_cmp_gt, lg_cmp_le, lg_cmp_ge, lg_cmp_eq] at *; simp_all [doneL, bI, Int64.le_iff_toInt_le, Int64.lt_iff_toInt_lt]; omega))
theorem sp_done16 {Γ : gam} {σ : sto} {n k : Nat} (hk : 2 ≤ k) (a b : Int64) : Sp Γ (rmk k 0 0) uX8_done [.int 16, .long a, .long b] σ n (qP (doneL 16 a b) σ n) := by
  refine sp_intro [some (.int 16), some (.long a), none, some (.long b), none] (by decide +kernel) rfl (Nat.le_of_ble_eq_true rfl) rfl ?_
  refine go_iload_n (pc := 0) dX8_done_0 rfl ?_
  refine go_tableIn (off := 100) (tgt := 101) (pc := 1) dX8_done_1 (by decide) (by decide) rfl (by decide) ?_
  refine go_lload_n (pc := 101) dX8_done_101 rfl ?_
  refine go_lload_n (pc := 102) dX8_done_102 rfl ?_
  refine go_ladd (pc := 103) dX8_done_103 ?_
  refine go_lconst (v := 1) (pc := 104) dX8_done_104 rfl ?_
  refine go_lcmp (pc := 105) dX8_done_105 ?_
  refine go_if_le (tgt := 113) (pc := 106) dX8_done_106 (by decide) (fun h_106 => ?_) (fun h_106 => ?_)
  · refine go_iconst (v := 0) (pc := 113) dX8_done_113 (by decide) ?_
    exact go_iretP (pc := 114) rfl dX8_done_114 (Nat.le_of_ble_eq_true rfl) (Nat.le_of_ble_eq_true rfl) (by first | rfl | (simp only [lg_cmp_lt, lg_cmp_gt, lg_cmp_le, lg_cmp_ge, lg_cmp_eq] at *; simp [doneL, bI]; first | assumption | simp_all [Int64.le_iff_toInt_le, Int64.lt_iff_toInt_lt]; done) | (simp only [lg_cmp_lt, lg_cmp_gt, lg_cmp_le, lg_cmp_ge, lg_cmp_eq] at *; simp_all [doneL, bI, Int64.le_iff_toInt_le, Int64.lt_iff_toInt_lt]; omega))
  · refine go_iconst (v := 1) (pc := 109) dX8_done_109 (by decide) ?_
    refine go_goto (tgt := 114) (pc := 110) dX8_done_110 (by decide) ?_
    exact go_iretP (pc := 114) rfl dX8_done_114 (Nat.le_of_ble_eq_true rfl) (Nat.le_of_ble_eq_true rfl) (by first | rfl | (simp only [lg_cmp_lt, lg_cmp_gt, lg_cmp_le, lg_cmp_ge, lg_cmp_eq] at *; simp [doneL, bI]; first | assumption | simp_all [Int64.le_iff_toInt_le, Int64.lt_iff_toInt_lt]; done) | (simp only [lg_cmp_lt, lg_cmp_gt, lg_cmp_le, lg_cmp_ge, lg_cmp_eq] at *; simp_all [doneL, bI, Int64.le_iff_toInt_le, Int64.lt_iff_toInt_lt]; omega))
theorem sp_done17 {Γ : gam} {σ : sto} {n k : Nat} (hk : 2 ≤ k) (a b : Int64) : Sp Γ (rmk k 0 0) uX8_done [.int 17, .long a, .long b] σ n (qP (doneL 17 a b) σ n) := by
  refine sp_intro [some (.int 17), some (.long a), none, some (.long b), none] (by decide +kernel) rfl (Nat.le_of_ble_eq_true rfl) rfl ?_
  refine go_iload_n (pc := 0) dX8_done_0 rfl ?_
  refine go_tableOut (tgt := 115) (pc := 1) dX8_done_1 (by decide) (by decide) ?_
  refine go_lload_n (pc := 115) dX8_done_115 rfl ?_
  refine go_lload_n (pc := 116) dX8_done_116 rfl ?_
  refine go_ladd (pc := 117) dX8_done_117 ?_
  refine go_lconst (v := 0) (pc := 118) dX8_done_118 rfl ?_
  refine go_lcmp (pc := 119) dX8_done_119 ?_
  refine go_if_le (tgt := 127) (pc := 120) dX8_done_120 (by decide) (fun h_120 => ?_) (fun h_120 => ?_)
  · refine go_iconst (v := 0) (pc := 127) dX8_done_127 (by decide) ?_
    exact go_iretP (pc := 128) rfl dX8_done_128 (Nat.le_of_ble_eq_true rfl) (Nat.le_of_ble_eq_true rfl) (by first | rfl | (simp only [lg_cmp_lt, lg_cmp_gt, lg_cmp_le, lg_cmp_ge, lg_cmp_eq] at *; simp [doneL, bI]; first | assumption | simp_all [Int64.le_iff_toInt_le, Int64.lt_iff_toInt_lt]; done) | (simp only [lg_cmp_lt, lg_cmp_gt, lg_cmp_le, lg_cmp_ge, lg_cmp_eq] at *; simp_all [doneL, bI, Int64.le_iff_toInt_le, Int64.lt_iff_toInt_lt]; omega))
  · refine go_iconst (v := 1) (pc := 123) dX8_done_123 (by decide) ?_
    refine go_goto (tgt := 128) (pc := 124) dX8_done_124 (by decide) ?_
    exact go_iretP (pc := 128) rfl dX8_done_128 (Nat.le_of_ble_eq_true rfl) (Nat.le_of_ble_eq_true rfl) (by first | rfl | (simp only [lg_cmp_lt, lg_cmp_gt, lg_cmp_le, lg_cmp_ge, lg_cmp_eq] at *; simp [doneL, bI]; first | assumption | simp_all [Int64.le_iff_toInt_le, Int64.lt_iff_toInt_lt]; done) | (simp only [lg_cmp_lt, lg_cmp_gt, lg_cmp_le, lg_cmp_ge, lg_cmp_eq] at *; simp_all [doneL, bI, Int64.le_iff_toInt_le, Int64.lt_iff_toInt_lt]; omega))
theorem sp_done {Γ : gam} {σ : sto} {n k : Nat} (hk : 2 ≤ k) {x : Int32} (hx : x = 10 ∨ x = 11 ∨ x = 12 ∨ x = 13 ∨ x = 14 ∨ x = 15 ∨ x = 16 ∨ x = 17) (a b : Int64) : Sp Γ (rmk k 0 0) uX8_done [.int x, .long a, .long b] σ n (qP (doneL x a b) σ n) := by
  rcases hx with rfl | rfl | rfl | rfl | rfl | rfl | rfl | rfl
  · exact sp_done10 hk a b
  · exact sp_done11 hk a b
  · exact sp_done12 hk a b
  · exact sp_done13 hk a b
  · exact sp_done14 hk a b
  · exact sp_done15 hk a b
  · exact sp_done16 hk a b
  · exact sp_done17 hk a b
def moJ (Γ : gam) (r : Nat) (F K : row) (A : Nat → row) (Nm : Nat → Int64) (σ : sto) (n : Nat) (L : List Nat) (σ' : sto) (n' : Nat) : Prop := n' = n ∧ ∃ A', MoAt Γ σ' r F K A' Nm ∧ eqx L A A' ∧ fr r (r + 16) σ σ'
/-- the reference's stack holds the list s, its top ahead -/
def stR (S : row) (s : List Int32) : Prop := ∀ j, j < s.length → S j = s.getD (s.length - 1 - j) 0
theorem stR_push {S : row} {s : List Int32} {x : Int32} (h : stR S s) : stR (upd S s.length x) (x :: s) := by
  intro j hj
  by_cases hq : j = s.length
  · subst hq
    simp [upd]
  · have hj' : j < s.length := by simp at hj; omega
    rw [show (x :: s).length - 1 - j = (s.length - 1 - j) + 1 by simp; omega, List.getD_cons_succ, ← h j hj']
    simp [upd, hq]
theorem stR_one {S : row} {y : Int32} {t : List Int32} (h : stR S (y :: t)) : S t.length = y ∧ stR S t := by
  refine ⟨?_, fun j hj => ?_⟩
  · have := h t.length (by simp)
    simpa using this
  · have := h j (by simp; omega)
    rw [this, show (y :: t).length - 1 - j = (t.length - 1 - j) + 1 by simp; omega, List.getD_cons_succ]
theorem kin_cons {w x : Int32} {t : List Int32} {ts fin : List Bool} (h : kinK w (x :: t) ts = some fin) :
    (100 ≤ x ∧ (1000 ≤ x ∨ x ≤ w) ∧ ts.length < 40 ∧ kinK w t (false :: ts) = some fin) ∨ (x = 18 ∧ ∃ ts', ts = true :: ts' ∧ kinK w t (true :: ts') = some fin) ∨
    ((x = 10 ∨ x = 11 ∨ x = 12 ∨ x = 13 ∨ x = 14 ∨ x = 15 ∨ x = 16 ∨ x = 17) ∧ ∃ b1 b2 b3 ts', ts = b1 :: b2 :: ts' ∧ kinK w t (b3 :: ts') = some fin) := by
  unfold kinK at h
  split at h
  · rename_i h1
    split at h
    · rename_i h2
      exact Or.inl ⟨h1, h2.1, h2.2, h⟩
    · cases h
  · split at h
    · rename_i h2
      split at h
      · exact Or.inr (Or.inl ⟨h2, _, rfl, h⟩)
      · cases h
    · split at h
      · rename_i h3
        split at h
        · exact Or.inr (Or.inr ⟨by rcases h3 with h | h <;> simp [h], _, _, _, _, rfl, h⟩)
        · cases h
      · split at h
        · rename_i h3
          split at h
          · exact Or.inr (Or.inr ⟨by rcases h3 with h | h | h <;> simp [h], _, _, _, _, rfl, h⟩)
          · cases h
        · split at h
          · rename_i h3
            split at h
            · exact Or.inr (Or.inr ⟨by rcases h3 with h | h | h <;> simp [h], _, _, _, _, rfl, h⟩)
            · cases h
          · cases h
theorem sk_push {as : row} {x : Int32} {s : List Int32} (h : 100 ≤ x) : stepK as x s = (if 1000 ≤ x then x - 1000 else as (x - 100).toNatClampNeg) :: s := by simp [stepK, h]
theorem sk_not {as : row} {y : Int32} {s : List Int32} : stepK as 18 (y :: s) = (1 - y) :: s := rfl
theorem sk_bin {as : row} {x a b : Int32} {s : List Int32} (hx : x = 10 ∨ x = 11 ∨ x = 12 ∨ x = 13 ∨ x = 14 ∨ x = 15 ∨ x = 16 ∨ x = 17) : stepK as x (b :: a :: s) = doneK x a b :: s := by
  rcases hx with rfl | rfl | rfl | rfl | rfl | rfl | rfl | rfl <;> rfl
theorem w_in {x w : Int32} (h1 : 100 ≤ x) (h2 : x ≤ w) (hw : w ≤ 104) : ∃ j : Nat, j < 5 ∧ x - 100 = nI j ∧ (x - 100).toNatClampNeg = j := by
  have a1 := Int32.le_iff_toInt_le.mp h1
  have a2 := Int32.le_iff_toInt_le.mp h2
  have a3 := Int32.le_iff_toInt_le.mp hw
  have e1 : (100 : Int32).toInt = 100 := by decide
  have e2 : (104 : Int32).toInt = 104 := by decide
  rw [e1] at a1; rw [e2] at a3
  have hx : x = nI x.toInt.toNat := by
    apply Int32.toInt_inj.mp
    rw [nI_toInt (by omega)]
    omega
  refine ⟨x.toInt.toNat - 100, by omega, ?_, ?_⟩
  · rw [hx]
    exact (pk_sub (a := x.toInt.toNat) (b := 100) (by omega)).trans (by rw [nI_toInt (by omega)]; rfl)
  · rw [hx]
    rw [show nI x.toInt.toNat - 100 = nI (x.toInt.toNat - 100) from pk_sub (b := 100) (by omega), nI_clamp (by omega), nI_toInt (by omega)]
    omega
theorem lp_law {Γ : gam} {n k r : Nat} {F K : row} {Nm : Nat → Int64} (hk : 3 ≤ k) {σ0 : sto} {A0 : Nat → row} {mn pl cnt : Nat} {as : row} {w RES : Int32} {fb : Bool} (hw : w ≤ 104) (hmn : mn < 3020) (hc : K mn = nI cnt) (hpl : pl + cnt ≤ 3020) :
    ∀ (cs : List Int32) (i : Nat) (s : List Int32) (ts : List Bool) (d : Nat) (A : Nat → row) (σ : sto), MoAt Γ σ r F K A Nm → eqx [6] A0 A → fr r (r + 16) σ0 σ → (∀ j, j < 5 → A 7 j = as j) → stR (A 6) s → ts.length = s.length → s.length = d → d ≤ 40 → kinK w cs ts = some [fb] → (∀ j, j < cs.length → K (pl + i + j) = cs.getD j 0) → i + cs.length = cnt → ((runK as cs s).getLast?).getD 0 = RES →
    ∀ x5 : Option Value, Go Γ (rmk k 0 0) uX8_lawOf (qI fun v σ' n' => v = RES ∧ moJ Γ r F K A0 Nm σ0 n [6] σ' n') 0 0 5 [some (.ref r), some (.int (nI mn)), some (.int (nI pl)), some (.int (nI d)), some (.int (nI i)), x5] [] σ n := by
  intro cs
  induction cs with
  | nil =>
    intro i s ts d A σ hM hA hf hA7 hst hts hd hd40 hkin hcode hlen hres x5
    have hcnt : i = cnt := by simpa using hlen
    have hs1 : s.length = 1 := by
      simp only [kinK, Option.some.injEq] at hkin
      rw [← hts, hkin]; rfl
    have hlast : RES = A 6 0 := by
      obtain ⟨v, rfl⟩ : ∃ v, s = [v] := List.length_eq_one_iff.mp hs1
      rw [← hres]
      have := hst 0 (by simp)
      simpa [runK] using this.symm
    refine go_iload (pc := 5) dX8_lawOf_5 rfl ?_
    refine go_aload_n (pc := 7) dX8_lawOf_7 rfl ?_
    refine go_getf (pc := 8) f_X8_9 dX8_lawOf_8 (by first | exact mo0 hM | exact mo1 hM | exact mo6 hM | exact mo7 hM | exact mo8 hM | exact mo2 hM | exact mo3 hM | exact mo4 hM | exact mo5 hM | exact mo9 hM | exact mo10 hM | exact mo11 hM | exact mo12 hM | exact mo13 hM | exact mo14 hM | exact mo15 hM | exact mo16 hM) (by rfl) ?_
    refine go_iload_n (pc := 11) dX8_lawOf_11 rfl ?_
    refine go_iald (pc := 12) dX8_lawOf_12 (by first | exact mo0 hM | exact mo1 hM | exact mo6 hM | exact mo7 hM | exact mo8 hM | exact mo2 hM | exact mo3 hM | exact mo4 hM | exact mo5 hM | exact mo9 hM | exact mo10 hM | exact mo11 hM | exact mo12 hM | exact mo13 hM | exact mo14 hM | exact mo15 hM | exact mo16 hM) (by exact ⟨rfl, hmn⟩) ?_
    refine go_icmp_ge (tgt := 139) (pc := 13) dX8_lawOf_13 (by decide) (fun h_13 => ?_) (fun h_13 => by exfalso; rw [hc] at h_13; exact h_13 (nI_le (by omega) (by omega)))
    refine go_aload_n (pc := 139) dX8_lawOf_139 rfl ?_
    refine go_getf (pc := 140) f_X8_30 dX8_lawOf_140 (by first | exact mo0 hM | exact mo1 hM | exact mo6 hM | exact mo7 hM | exact mo8 hM | exact mo2 hM | exact mo3 hM | exact mo4 hM | exact mo5 hM | exact mo9 hM | exact mo10 hM | exact mo11 hM | exact mo12 hM | exact mo13 hM | exact mo14 hM | exact mo15 hM | exact mo16 hM) (by rfl) ?_
    refine go_iconst (v := 0) (pc := 143) dX8_lawOf_143 (by decide) ?_
    refine go_iald (j := 0) (pc := 144) dX8_lawOf_144 (by first | exact mo0 hM | exact mo1 hM | exact mo6 hM | exact mo7 hM | exact mo8 hM | exact mo2 hM | exact mo3 hM | exact mo4 hM | exact mo5 hM | exact mo9 hM | exact mo10 hM | exact mo11 hM | exact mo12 hM | exact mo13 hM | exact mo14 hM | exact mo15 hM | exact mo16 hM) (by exact ⟨rfl, by decide⟩) ?_
    exact go_iretI (pc := 145) rfl dX8_lawOf_145 (Nat.le_of_ble_eq_true rfl) (Nat.le_of_ble_eq_true rfl) ⟨hlast.symm, rfl, A, hM, hA, hf⟩
  | cons x cs ih =>
    intro i s ts d A σ hM hA hf hA7 hst hts hd hd40 hkin hcode hlen hres x5
    have hil : i < cnt := by simp at hlen; omega
    have hc0 : K (pl + i) = x := by simpa using hcode 0 (by simp)
    rcases kin_cons hkin with ⟨h1, h3, h4, hkin2⟩ | ⟨rfl, ts1, rfl, hkin2⟩ | ⟨hx, b1, b2, b3, ts1, rfl, hkin2⟩
    · have hts1 : ts.length = s.length := hts
      by_cases h2 : 1000 ≤ x
      · refine go_iload (pc := 5) dX8_lawOf_5 rfl ?_
        refine go_aload_n (pc := 7) dX8_lawOf_7 rfl ?_
        refine go_getf (pc := 8) f_X8_9 dX8_lawOf_8 (by first | exact mo0 hM | exact mo1 hM | exact mo6 hM | exact mo7 hM | exact mo8 hM | exact mo2 hM | exact mo3 hM | exact mo4 hM | exact mo5 hM | exact mo9 hM | exact mo10 hM | exact mo11 hM | exact mo12 hM | exact mo13 hM | exact mo14 hM | exact mo15 hM | exact mo16 hM) (by rfl) ?_
        refine go_iload_n (pc := 11) dX8_lawOf_11 rfl ?_
        refine go_iald (pc := 12) dX8_lawOf_12 (by first | exact mo0 hM | exact mo1 hM | exact mo6 hM | exact mo7 hM | exact mo8 hM | exact mo2 hM | exact mo3 hM | exact mo4 hM | exact mo5 hM | exact mo9 hM | exact mo10 hM | exact mo11 hM | exact mo12 hM | exact mo13 hM | exact mo14 hM | exact mo15 hM | exact mo16 hM) (by exact ⟨rfl, hmn⟩) ?_
        refine go_icmp_ge (tgt := 139) (pc := 13) dX8_lawOf_13 (by decide) (fun h_13 => by exfalso; rw [hc] at h_13; exact absurd h_13 (nI_ge (by omega) (by omega))) (fun h_13 => ?_)
        refine go_aload_n (pc := 16) dX8_lawOf_16 rfl ?_
        refine go_getf (pc := 17) f_X8_9 dX8_lawOf_17 (by first | exact mo0 hM | exact mo1 hM | exact mo6 hM | exact mo7 hM | exact mo8 hM | exact mo2 hM | exact mo3 hM | exact mo4 hM | exact mo5 hM | exact mo9 hM | exact mo10 hM | exact mo11 hM | exact mo12 hM | exact mo13 hM | exact mo14 hM | exact mo15 hM | exact mo16 hM) (by rfl) ?_
        refine go_iload_n (pc := 20) dX8_lawOf_20 rfl ?_
        refine go_iload (pc := 21) dX8_lawOf_21 rfl ?_
        refine go_iadd (pc := 23) dX8_lawOf_23 ?_
        refine go_iald (pc := 24) dX8_lawOf_24 (by first | exact mo0 hM | exact mo1 hM | exact mo6 hM | exact mo7 hM | exact mo8 hM | exact mo2 hM | exact mo3 hM | exact mo4 hM | exact mo5 hM | exact mo9 hM | exact mo10 hM | exact mo11 hM | exact mo12 hM | exact mo13 hM | exact mo14 hM | exact mo15 hM | exact mo16 hM) (by exact ⟨nI_add _ _, by omega⟩) ?_
        refine go_istore (lw := [_, _, _, _, _, _]) (pc := 25) dX8_lawOf_25 (by decide) rfl ?_
        rw [hc0]
        refine go_iload (pc := 27) dX8_lawOf_27 rfl ?_
        refine go_bipush (v := 100) (pc := 29) dX8_lawOf_29 (by decide) ?_
        refine go_icmp_lt (tgt := 73) (pc := 31) dX8_lawOf_31 (by decide) (fun h_31 => by exfalso; exact absurd h1 (Int32.not_le.mpr h_31)) (fun h_31 => ?_)
        refine go_aload_n (pc := 34) dX8_lawOf_34 rfl ?_
        refine go_getf (pc := 35) f_X8_30 dX8_lawOf_35 (by first | exact mo0 hM | exact mo1 hM | exact mo6 hM | exact mo7 hM | exact mo8 hM | exact mo2 hM | exact mo3 hM | exact mo4 hM | exact mo5 hM | exact mo9 hM | exact mo10 hM | exact mo11 hM | exact mo12 hM | exact mo13 hM | exact mo14 hM | exact mo15 hM | exact mo16 hM) (by rfl) ?_
        refine go_iload_n (pc := 38) dX8_lawOf_38 rfl ?_
        refine go_iload (pc := 39) dX8_lawOf_39 rfl ?_
        refine go_sipush (v := 1000) (pc := 41) dX8_lawOf_41 (by decide) ?_
        refine go_icmp_lt (tgt := 56) (pc := 44) dX8_lawOf_44 (by decide) (fun h_44 => by exfalso; exact absurd h2 (Int32.not_le.mpr h_44)) (fun h_44 => ?_)
        refine go_iload (pc := 47) dX8_lawOf_47 rfl ?_
        refine go_sipush (v := 1000) (pc := 49) dX8_lawOf_49 (by decide) ?_
        refine go_isub (pc := 52) dX8_lawOf_52 ?_
        refine go_goto (tgt := 66) (pc := 53) dX8_lawOf_53 (by decide) ?_
        refine go_iast (pc := 66) dX8_lawOf_66 (by first | exact mo0 hM | exact mo1 hM | exact mo6 hM | exact mo7 hM | exact mo8 hM | exact mo2 hM | exact mo3 hM | exact mo4 hM | exact mo5 hM | exact mo9 hM | exact mo10 hM | exact mo11 hM | exact mo12 hM | exact mo13 hM | exact mo14 hM | exact mo15 hM | exact mo16 hM) (by exact ⟨rfl, by omega⟩) ?_
        refine go_iinc (v := 1) (lw := [_, _, _, _, _, _]) (pc := 67) dX8_lawOf_67 rfl (by decide) (by decide) rfl ?_
        refine go_goto (tgt := 133) (pc := 70) dX8_lawOf_70 (by decide) ?_
        refine go_iinc (v := 1) (lw := [_, _, _, _, _, _]) (pc := 133) dX8_lawOf_133 rfl (by decide) (by decide) rfl ?_
        refine go_goto (tgt := 5) (pc := 136) dX8_lawOf_136 (by decide) ?_
        simp only [nI_1]
        exact ih (i + 1) ((x - 1000) :: s) (false :: ts) _ (updA A 6 (upd (A 6) (d) (x - 1000))) _ (moA6 hM) (hA.up (by decide)) (hf.up ⟨by omega, by omega⟩) hA7 (by rw [← hd]; exact stR_push hst) (by simpa using hts1) (by first | rfl | simp [hd]) (by first | omega | (simp at *; omega)) hkin2 (fun j hj => by have := hcode (j + 1) (by simp; omega); rw [List.getD_cons_succ] at this; rw [← this]; congr 1; omega) (by simp at *; omega) (by rw [← hres]; simp only [runK]; congr 3; rw [sk_push h1, if_pos h2]) _
      · obtain ⟨j, hj5, ej, ej2⟩ := w_in h1 (h3.resolve_left h2) hw
        refine go_iload (pc := 5) dX8_lawOf_5 rfl ?_
        refine go_aload_n (pc := 7) dX8_lawOf_7 rfl ?_
        refine go_getf (pc := 8) f_X8_9 dX8_lawOf_8 (by first | exact mo0 hM | exact mo1 hM | exact mo6 hM | exact mo7 hM | exact mo8 hM | exact mo2 hM | exact mo3 hM | exact mo4 hM | exact mo5 hM | exact mo9 hM | exact mo10 hM | exact mo11 hM | exact mo12 hM | exact mo13 hM | exact mo14 hM | exact mo15 hM | exact mo16 hM) (by rfl) ?_
        refine go_iload_n (pc := 11) dX8_lawOf_11 rfl ?_
        refine go_iald (pc := 12) dX8_lawOf_12 (by first | exact mo0 hM | exact mo1 hM | exact mo6 hM | exact mo7 hM | exact mo8 hM | exact mo2 hM | exact mo3 hM | exact mo4 hM | exact mo5 hM | exact mo9 hM | exact mo10 hM | exact mo11 hM | exact mo12 hM | exact mo13 hM | exact mo14 hM | exact mo15 hM | exact mo16 hM) (by exact ⟨rfl, hmn⟩) ?_
        refine go_icmp_ge (tgt := 139) (pc := 13) dX8_lawOf_13 (by decide) (fun h_13 => by exfalso; rw [hc] at h_13; exact absurd h_13 (nI_ge (by omega) (by omega))) (fun h_13 => ?_)
        refine go_aload_n (pc := 16) dX8_lawOf_16 rfl ?_
        refine go_getf (pc := 17) f_X8_9 dX8_lawOf_17 (by first | exact mo0 hM | exact mo1 hM | exact mo6 hM | exact mo7 hM | exact mo8 hM | exact mo2 hM | exact mo3 hM | exact mo4 hM | exact mo5 hM | exact mo9 hM | exact mo10 hM | exact mo11 hM | exact mo12 hM | exact mo13 hM | exact mo14 hM | exact mo15 hM | exact mo16 hM) (by rfl) ?_
        refine go_iload_n (pc := 20) dX8_lawOf_20 rfl ?_
        refine go_iload (pc := 21) dX8_lawOf_21 rfl ?_
        refine go_iadd (pc := 23) dX8_lawOf_23 ?_
        refine go_iald (pc := 24) dX8_lawOf_24 (by first | exact mo0 hM | exact mo1 hM | exact mo6 hM | exact mo7 hM | exact mo8 hM | exact mo2 hM | exact mo3 hM | exact mo4 hM | exact mo5 hM | exact mo9 hM | exact mo10 hM | exact mo11 hM | exact mo12 hM | exact mo13 hM | exact mo14 hM | exact mo15 hM | exact mo16 hM) (by exact ⟨nI_add _ _, by omega⟩) ?_
        refine go_istore (lw := [_, _, _, _, _, _]) (pc := 25) dX8_lawOf_25 (by decide) rfl ?_
        rw [hc0]
        refine go_iload (pc := 27) dX8_lawOf_27 rfl ?_
        refine go_bipush (v := 100) (pc := 29) dX8_lawOf_29 (by decide) ?_
        refine go_icmp_lt (tgt := 73) (pc := 31) dX8_lawOf_31 (by decide) (fun h_31 => by exfalso; exact absurd h1 (Int32.not_le.mpr h_31)) (fun h_31 => ?_)
        refine go_aload_n (pc := 34) dX8_lawOf_34 rfl ?_
        refine go_getf (pc := 35) f_X8_30 dX8_lawOf_35 (by first | exact mo0 hM | exact mo1 hM | exact mo6 hM | exact mo7 hM | exact mo8 hM | exact mo2 hM | exact mo3 hM | exact mo4 hM | exact mo5 hM | exact mo9 hM | exact mo10 hM | exact mo11 hM | exact mo12 hM | exact mo13 hM | exact mo14 hM | exact mo15 hM | exact mo16 hM) (by rfl) ?_
        refine go_iload_n (pc := 38) dX8_lawOf_38 rfl ?_
        refine go_iload (pc := 39) dX8_lawOf_39 rfl ?_
        refine go_sipush (v := 1000) (pc := 41) dX8_lawOf_41 (by decide) ?_
        refine go_icmp_lt (tgt := 56) (pc := 44) dX8_lawOf_44 (by decide) (fun h_44 => ?_) (fun h_44 => by exfalso; exact h_44 (Int32.not_le.mp h2))
        refine go_aload_n (pc := 56) dX8_lawOf_56 rfl ?_
        refine go_getf (pc := 57) f_X8_33 dX8_lawOf_57 (by first | exact mo0 hM | exact mo1 hM | exact mo6 hM | exact mo7 hM | exact mo8 hM | exact mo2 hM | exact mo3 hM | exact mo4 hM | exact mo5 hM | exact mo9 hM | exact mo10 hM | exact mo11 hM | exact mo12 hM | exact mo13 hM | exact mo14 hM | exact mo15 hM | exact mo16 hM) (by rfl) ?_
        refine go_iload (pc := 60) dX8_lawOf_60 rfl ?_
        refine go_bipush (v := 100) (pc := 62) dX8_lawOf_62 (by decide) ?_
        refine go_isub (pc := 64) dX8_lawOf_64 ?_
        refine go_iald (pc := 65) dX8_lawOf_65 (by first | exact mo0 hM | exact mo1 hM | exact mo6 hM | exact mo7 hM | exact mo8 hM | exact mo2 hM | exact mo3 hM | exact mo4 hM | exact mo5 hM | exact mo9 hM | exact mo10 hM | exact mo11 hM | exact mo12 hM | exact mo13 hM | exact mo14 hM | exact mo15 hM | exact mo16 hM) (by exact ⟨ej, by omega⟩) ?_
        refine go_iast (pc := 66) dX8_lawOf_66 (by first | exact mo0 hM | exact mo1 hM | exact mo6 hM | exact mo7 hM | exact mo8 hM | exact mo2 hM | exact mo3 hM | exact mo4 hM | exact mo5 hM | exact mo9 hM | exact mo10 hM | exact mo11 hM | exact mo12 hM | exact mo13 hM | exact mo14 hM | exact mo15 hM | exact mo16 hM) (by exact ⟨rfl, by omega⟩) ?_
        refine go_iinc (v := 1) (lw := [_, _, _, _, _, _]) (pc := 67) dX8_lawOf_67 rfl (by decide) (by decide) rfl ?_
        refine go_goto (tgt := 133) (pc := 70) dX8_lawOf_70 (by decide) ?_
        refine go_iinc (v := 1) (lw := [_, _, _, _, _, _]) (pc := 133) dX8_lawOf_133 rfl (by decide) (by decide) rfl ?_
        refine go_goto (tgt := 5) (pc := 136) dX8_lawOf_136 (by decide) ?_
        simp only [nI_1]
        exact ih (i + 1) (A 7 j :: s) (false :: ts) _ (updA A 6 (upd (A 6) (d) (A 7 j))) _ (moA6 hM) (hA.up (by decide)) (hf.up ⟨by omega, by omega⟩) hA7 (by rw [← hd]; exact stR_push hst) (by simpa using hts1) (by first | rfl | simp [hd]) (by first | omega | (simp at *; omega)) hkin2 (fun j hj => by have := hcode (j + 1) (by simp; omega); rw [List.getD_cons_succ] at this; rw [← this]; congr 1; omega) (by simp at *; omega) (by rw [← hres]; simp only [runK]; congr 3; rw [sk_push h1, if_neg h2, ej2, hA7 j hj5]) _
    · obtain ⟨y, t, rfl⟩ : ∃ y t, s = y :: t := by
        cases s with
        | nil => simp at hts
        | cons y t => exact ⟨y, t, rfl⟩
      obtain rfl : d = t.length + 1 := by rw [← hd]; rfl
      have hts1 : ts1.length = t.length := by simpa using hts
      refine go_iload (pc := 5) dX8_lawOf_5 rfl ?_
      refine go_aload_n (pc := 7) dX8_lawOf_7 rfl ?_
      refine go_getf (pc := 8) f_X8_9 dX8_lawOf_8 (by first | exact mo0 hM | exact mo1 hM | exact mo6 hM | exact mo7 hM | exact mo8 hM | exact mo2 hM | exact mo3 hM | exact mo4 hM | exact mo5 hM | exact mo9 hM | exact mo10 hM | exact mo11 hM | exact mo12 hM | exact mo13 hM | exact mo14 hM | exact mo15 hM | exact mo16 hM) (by rfl) ?_
      refine go_iload_n (pc := 11) dX8_lawOf_11 rfl ?_
      refine go_iald (pc := 12) dX8_lawOf_12 (by first | exact mo0 hM | exact mo1 hM | exact mo6 hM | exact mo7 hM | exact mo8 hM | exact mo2 hM | exact mo3 hM | exact mo4 hM | exact mo5 hM | exact mo9 hM | exact mo10 hM | exact mo11 hM | exact mo12 hM | exact mo13 hM | exact mo14 hM | exact mo15 hM | exact mo16 hM) (by exact ⟨rfl, hmn⟩) ?_
      refine go_icmp_ge (tgt := 139) (pc := 13) dX8_lawOf_13 (by decide) (fun h_13 => by exfalso; rw [hc] at h_13; exact absurd h_13 (nI_ge (by omega) (by omega))) (fun h_13 => ?_)
      refine go_aload_n (pc := 16) dX8_lawOf_16 rfl ?_
      refine go_getf (pc := 17) f_X8_9 dX8_lawOf_17 (by first | exact mo0 hM | exact mo1 hM | exact mo6 hM | exact mo7 hM | exact mo8 hM | exact mo2 hM | exact mo3 hM | exact mo4 hM | exact mo5 hM | exact mo9 hM | exact mo10 hM | exact mo11 hM | exact mo12 hM | exact mo13 hM | exact mo14 hM | exact mo15 hM | exact mo16 hM) (by rfl) ?_
      refine go_iload_n (pc := 20) dX8_lawOf_20 rfl ?_
      refine go_iload (pc := 21) dX8_lawOf_21 rfl ?_
      refine go_iadd (pc := 23) dX8_lawOf_23 ?_
      refine go_iald (pc := 24) dX8_lawOf_24 (by first | exact mo0 hM | exact mo1 hM | exact mo6 hM | exact mo7 hM | exact mo8 hM | exact mo2 hM | exact mo3 hM | exact mo4 hM | exact mo5 hM | exact mo9 hM | exact mo10 hM | exact mo11 hM | exact mo12 hM | exact mo13 hM | exact mo14 hM | exact mo15 hM | exact mo16 hM) (by exact ⟨nI_add _ _, by omega⟩) ?_
      refine go_istore (lw := [_, _, _, _, _, _]) (pc := 25) dX8_lawOf_25 (by decide) rfl ?_
      rw [hc0]
      refine go_iload (pc := 27) dX8_lawOf_27 rfl ?_
      refine go_bipush (v := 100) (pc := 29) dX8_lawOf_29 (by decide) ?_
      refine go_icmp_lt (tgt := 73) (pc := 31) dX8_lawOf_31 (by decide) (fun h_31 => ?_) (fun h_31 => by exfalso; exact h_31 (by decide))
      refine go_iload (pc := 73) dX8_lawOf_73 rfl ?_
      refine go_bipush (v := 18) (pc := 75) dX8_lawOf_75 (by decide) ?_
      refine go_icmp_ne (tgt := 101) (pc := 77) dX8_lawOf_77 (by decide) (fun h_77 => by exfalso; exact h_77 rfl) (fun h_77 => ?_)
      refine go_aload_n (pc := 80) dX8_lawOf_80 rfl ?_
      refine go_getf (pc := 81) f_X8_30 dX8_lawOf_81 (by first | exact mo0 hM | exact mo1 hM | exact mo6 hM | exact mo7 hM | exact mo8 hM | exact mo2 hM | exact mo3 hM | exact mo4 hM | exact mo5 hM | exact mo9 hM | exact mo10 hM | exact mo11 hM | exact mo12 hM | exact mo13 hM | exact mo14 hM | exact mo15 hM | exact mo16 hM) (by rfl) ?_
      refine go_iload_n (pc := 84) dX8_lawOf_84 rfl ?_
      refine go_iconst (v := 1) (pc := 85) dX8_lawOf_85 (by decide) ?_
      refine go_isub (pc := 86) dX8_lawOf_86 ?_
      refine go_iconst (v := 1) (pc := 87) dX8_lawOf_87 (by decide) ?_
      refine go_aload_n (pc := 88) dX8_lawOf_88 rfl ?_
      refine go_getf (pc := 89) f_X8_30 dX8_lawOf_89 (by first | exact mo0 hM | exact mo1 hM | exact mo6 hM | exact mo7 hM | exact mo8 hM | exact mo2 hM | exact mo3 hM | exact mo4 hM | exact mo5 hM | exact mo9 hM | exact mo10 hM | exact mo11 hM | exact mo12 hM | exact mo13 hM | exact mo14 hM | exact mo15 hM | exact mo16 hM) (by rfl) ?_
      refine go_iload_n (pc := 92) dX8_lawOf_92 rfl ?_
      refine go_iconst (v := 1) (pc := 93) dX8_lawOf_93 (by decide) ?_
      refine go_isub (pc := 94) dX8_lawOf_94 ?_
      refine go_iald (pc := 95) dX8_lawOf_95 (by first | exact mo0 hM | exact mo1 hM | exact mo6 hM | exact mo7 hM | exact mo8 hM | exact mo2 hM | exact mo3 hM | exact mo4 hM | exact mo5 hM | exact mo9 hM | exact mo10 hM | exact mo11 hM | exact mo12 hM | exact mo13 hM | exact mo14 hM | exact mo15 hM | exact mo16 hM) (by exact ⟨nI_pred _, by omega⟩) ?_
      refine go_isub (pc := 96) dX8_lawOf_96 ?_
      refine go_iast (pc := 97) dX8_lawOf_97 (by first | exact mo0 hM | exact mo1 hM | exact mo6 hM | exact mo7 hM | exact mo8 hM | exact mo2 hM | exact mo3 hM | exact mo4 hM | exact mo5 hM | exact mo9 hM | exact mo10 hM | exact mo11 hM | exact mo12 hM | exact mo13 hM | exact mo14 hM | exact mo15 hM | exact mo16 hM) (by exact ⟨nI_pred _, by omega⟩) ?_
      refine go_goto (tgt := 133) (pc := 98) dX8_lawOf_98 (by decide) ?_
      refine go_iinc (v := 1) (lw := [_, _, _, _, _, _]) (pc := 133) dX8_lawOf_133 rfl (by decide) (by decide) rfl ?_
      refine go_goto (tgt := 5) (pc := 136) dX8_lawOf_136 (by decide) ?_
      simp only [nI_1]
      exact ih (i + 1) ((1 - A 6 t.length) :: t) (true :: ts1) _ (updA A 6 (upd (A 6) (t.length) (1 - A 6 t.length))) _ (moA6 hM) (hA.up (by decide)) (hf.up ⟨by omega, by omega⟩) hA7 (stR_push (stR_one hst).2) (by simpa using hts1) (by first | rfl | simp [hd]) (by first | omega | (simp at *; omega)) hkin2 (fun j hj => by have := hcode (j + 1) (by simp; omega); rw [List.getD_cons_succ] at this; rw [← this]; congr 1; omega) (by simp at *; omega) (by rw [← hres]; simp only [runK]; congr 3; rw [(stR_one hst).1, sk_not]) _
    · obtain ⟨b, a, t, rfl⟩ : ∃ b a t, s = b :: a :: t := by
        match s, hts with
        | b :: a :: t, _ => exact ⟨b, a, t, rfl⟩
      obtain rfl : d = t.length + 1 + 1 := by rw [← hd]; rfl
      have hts1 : ts1.length = t.length := by simpa using hts
      refine go_iload (pc := 5) dX8_lawOf_5 rfl ?_
      refine go_aload_n (pc := 7) dX8_lawOf_7 rfl ?_
      refine go_getf (pc := 8) f_X8_9 dX8_lawOf_8 (by first | exact mo0 hM | exact mo1 hM | exact mo6 hM | exact mo7 hM | exact mo8 hM | exact mo2 hM | exact mo3 hM | exact mo4 hM | exact mo5 hM | exact mo9 hM | exact mo10 hM | exact mo11 hM | exact mo12 hM | exact mo13 hM | exact mo14 hM | exact mo15 hM | exact mo16 hM) (by rfl) ?_
      refine go_iload_n (pc := 11) dX8_lawOf_11 rfl ?_
      refine go_iald (pc := 12) dX8_lawOf_12 (by first | exact mo0 hM | exact mo1 hM | exact mo6 hM | exact mo7 hM | exact mo8 hM | exact mo2 hM | exact mo3 hM | exact mo4 hM | exact mo5 hM | exact mo9 hM | exact mo10 hM | exact mo11 hM | exact mo12 hM | exact mo13 hM | exact mo14 hM | exact mo15 hM | exact mo16 hM) (by exact ⟨rfl, hmn⟩) ?_
      refine go_icmp_ge (tgt := 139) (pc := 13) dX8_lawOf_13 (by decide) (fun h_13 => by exfalso; rw [hc] at h_13; exact absurd h_13 (nI_ge (by omega) (by omega))) (fun h_13 => ?_)
      refine go_aload_n (pc := 16) dX8_lawOf_16 rfl ?_
      refine go_getf (pc := 17) f_X8_9 dX8_lawOf_17 (by first | exact mo0 hM | exact mo1 hM | exact mo6 hM | exact mo7 hM | exact mo8 hM | exact mo2 hM | exact mo3 hM | exact mo4 hM | exact mo5 hM | exact mo9 hM | exact mo10 hM | exact mo11 hM | exact mo12 hM | exact mo13 hM | exact mo14 hM | exact mo15 hM | exact mo16 hM) (by rfl) ?_
      refine go_iload_n (pc := 20) dX8_lawOf_20 rfl ?_
      refine go_iload (pc := 21) dX8_lawOf_21 rfl ?_
      refine go_iadd (pc := 23) dX8_lawOf_23 ?_
      refine go_iald (pc := 24) dX8_lawOf_24 (by first | exact mo0 hM | exact mo1 hM | exact mo6 hM | exact mo7 hM | exact mo8 hM | exact mo2 hM | exact mo3 hM | exact mo4 hM | exact mo5 hM | exact mo9 hM | exact mo10 hM | exact mo11 hM | exact mo12 hM | exact mo13 hM | exact mo14 hM | exact mo15 hM | exact mo16 hM) (by exact ⟨nI_add _ _, by omega⟩) ?_
      refine go_istore (lw := [_, _, _, _, _, _]) (pc := 25) dX8_lawOf_25 (by decide) rfl ?_
      rw [hc0]
      refine go_iload (pc := 27) dX8_lawOf_27 rfl ?_
      refine go_bipush (v := 100) (pc := 29) dX8_lawOf_29 (by decide) ?_
      refine go_icmp_lt (tgt := 73) (pc := 31) dX8_lawOf_31 (by decide) (fun h_31 => ?_) (fun h_31 => by exfalso; exact h_31 (by rcases hx with rfl | rfl | rfl | rfl | rfl | rfl | rfl | rfl <;> decide))
      refine go_iload (pc := 73) dX8_lawOf_73 rfl ?_
      refine go_bipush (v := 18) (pc := 75) dX8_lawOf_75 (by decide) ?_
      refine go_icmp_ne (tgt := 101) (pc := 77) dX8_lawOf_77 (by decide) (fun h_77 => ?_) (fun h_77 => by exfalso; exact absurd h_77 (by rcases hx with rfl | rfl | rfl | rfl | rfl | rfl | rfl | rfl <;> decide))
      refine go_iinc (v := -1) (lw := [_, _, _, _, _, _]) (pc := 101) dX8_lawOf_101 rfl (by decide) (by decide) rfl ?_
      rw [show nI (t.length + 1 + 1) + -1 = nI (t.length + 1) from pk_m1 _]
      refine go_aload_n (pc := 104) dX8_lawOf_104 rfl ?_
      refine go_getf (pc := 105) f_X8_30 dX8_lawOf_105 (by first | exact mo0 hM | exact mo1 hM | exact mo6 hM | exact mo7 hM | exact mo8 hM | exact mo2 hM | exact mo3 hM | exact mo4 hM | exact mo5 hM | exact mo9 hM | exact mo10 hM | exact mo11 hM | exact mo12 hM | exact mo13 hM | exact mo14 hM | exact mo15 hM | exact mo16 hM) (by rfl) ?_
      refine go_iload_n (pc := 108) dX8_lawOf_108 rfl ?_
      refine go_iconst (v := 1) (pc := 109) dX8_lawOf_109 (by decide) ?_
      refine go_isub (pc := 110) dX8_lawOf_110 ?_
      refine go_iload (pc := 111) dX8_lawOf_111 rfl ?_
      refine go_aload_n (pc := 113) dX8_lawOf_113 rfl ?_
      refine go_getf (pc := 114) f_X8_30 dX8_lawOf_114 (by first | exact mo0 hM | exact mo1 hM | exact mo6 hM | exact mo7 hM | exact mo8 hM | exact mo2 hM | exact mo3 hM | exact mo4 hM | exact mo5 hM | exact mo9 hM | exact mo10 hM | exact mo11 hM | exact mo12 hM | exact mo13 hM | exact mo14 hM | exact mo15 hM | exact mo16 hM) (by rfl) ?_
      refine go_iload_n (pc := 117) dX8_lawOf_117 rfl ?_
      refine go_iconst (v := 1) (pc := 118) dX8_lawOf_118 (by decide) ?_
      refine go_isub (pc := 119) dX8_lawOf_119 ?_
      refine go_iald (pc := 120) dX8_lawOf_120 (by first | exact mo0 hM | exact mo1 hM | exact mo6 hM | exact mo7 hM | exact mo8 hM | exact mo2 hM | exact mo3 hM | exact mo4 hM | exact mo5 hM | exact mo9 hM | exact mo10 hM | exact mo11 hM | exact mo12 hM | exact mo13 hM | exact mo14 hM | exact mo15 hM | exact mo16 hM) (by exact ⟨nI_pred _, by omega⟩) ?_
      refine go_i2l (pc := 121) dX8_lawOf_121 ?_
      refine go_aload_n (pc := 122) dX8_lawOf_122 rfl ?_
      refine go_getf (pc := 123) f_X8_30 dX8_lawOf_123 (by first | exact mo0 hM | exact mo1 hM | exact mo6 hM | exact mo7 hM | exact mo8 hM | exact mo2 hM | exact mo3 hM | exact mo4 hM | exact mo5 hM | exact mo9 hM | exact mo10 hM | exact mo11 hM | exact mo12 hM | exact mo13 hM | exact mo14 hM | exact mo15 hM | exact mo16 hM) (by rfl) ?_
      refine go_iload_n (pc := 126) dX8_lawOf_126 rfl ?_
      refine go_iald (pc := 127) dX8_lawOf_127 (by first | exact mo0 hM | exact mo1 hM | exact mo6 hM | exact mo7 hM | exact mo8 hM | exact mo2 hM | exact mo3 hM | exact mo4 hM | exact mo5 hM | exact mo9 hM | exact mo10 hM | exact mo11 hM | exact mo12 hM | exact mo13 hM | exact mo14 hM | exact mo15 hM | exact mo16 hM) (by exact ⟨rfl, by omega⟩) ?_
      refine go_i2l (pc := 128) dX8_lawOf_128 ?_
      refine go_S3P (pc := 129) s_X8_269 rfl rfl dX8_lawOf_129 (sp_done (k := k - 1) (by omega) hx _ _) ?_
      refine go_iast (pc := 132) dX8_lawOf_132 (by first | exact mo0 hM | exact mo1 hM | exact mo6 hM | exact mo7 hM | exact mo8 hM | exact mo2 hM | exact mo3 hM | exact mo4 hM | exact mo5 hM | exact mo9 hM | exact mo10 hM | exact mo11 hM | exact mo12 hM | exact mo13 hM | exact mo14 hM | exact mo15 hM | exact mo16 hM) (by exact ⟨nI_pred _, by omega⟩) ?_
      refine go_iinc (v := 1) (lw := [_, _, _, _, _, _]) (pc := 133) dX8_lawOf_133 rfl (by decide) (by decide) rfl ?_
      refine go_goto (tgt := 5) (pc := 136) dX8_lawOf_136 (by decide) ?_
      simp only [nI_1]
      exact ih (i + 1) (doneL x (A 6 t.length).toInt64 (A 6 (t.length + 1)).toInt64 :: t) (b3 :: ts1) _ (updA A 6 (upd (A 6) (t.length) (doneL x (A 6 t.length).toInt64 (A 6 (t.length + 1)).toInt64))) _ (moA6 hM) (hA.up (by decide)) (hf.up ⟨by omega, by omega⟩) hA7 (stR_push (stR_one (stR_one hst).2).2) (by simpa using hts1) (by first | rfl | simp [hd]) (by first | omega | (simp at *; omega)) hkin2 (fun j hj => by have := hcode (j + 1) (by simp; omega); rw [List.getD_cons_succ] at this; rw [← this]; congr 1; omega) (by simp at *; omega) (by rw [← hres]; simp only [runK]; congr 3; rw [(stR_one (stR_one hst).2).1, show A 6 (t.length + 1) = b from (stR_one hst).1, sk_bin hx]; rfl) _
