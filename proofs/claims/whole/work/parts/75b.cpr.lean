/-! ===== the class: laws read ===== -/
def mtC (t_q : Nat) : mth := if t_q = 0 then uX4_truth else if t_q = 4 then uX4_unit else if t_q = 5 then uX4_sum else uX4_atom
def ClsOK (Γ : gam) (a N b_q w t_q d_q : Nat) (s : ps) : Prop := ∀ (z0 : sto) (n k : Nat), CrAt Γ z0 a N b_q (nI (w + 3)) s → tot s ≤ 899 → vOK s.l → 12 * (7 - d_q) + rk t_q + 12 ≤ k → Sp Γ (rmk k 0 0) (mtC t_q) [.ref (a + 71), .int (nI d_q)] z0 n (qV fun σ' n' => n' = n ∧ CrAt Γ σ' a N b_q (nI (w + 3)) (pP N w t_q d_q s) ∧ ∀ q, q ≠ a + 71 → q ≠ a + 80 → σ' q = z0 q)
theorem nmC_o {w : Nat} {v_q : Int32} (h_q : v_q.toInt < 10 ∨ 20 < v_q.toInt) : nmC w v_q = 0 := by
  have g_q : nmP w v_q = none := by
    cases e_q : nmP w v_q with
    | none => rfl
    | some c_q =>
      unfold nmP at e_q
      repeat' (split at e_q)
      all_goals first | (cases e_q; done) | (next hh => subst hh; exact absurd h_q (by decide)) | (next hh _ => subst hh; exact absurd h_q (by decide))
  rw [nmC, g_q]
def adv (s : ps) : ps := if s.bad = 0 then nextP s else s
def mB (s : ps) : Nat := 2 * s.l.length + (if s.bad = 0 then 1 else 0)
theorem adv_g {s : ps} (h_q : s.bad = 0) : adv s = nextP s := if_pos h_q
theorem adv_b {s : ps} (h_q : s.bad ≠ 0) : adv s = s := if_neg h_q
theorem adv_c {P : ps → Prop} {s : ps} (h1_q : s.bad = 0 → P (nextP s)) (h2_q : s.bad ≠ 0 → P s) : P (adv s) := by
  by_cases h_q : s.bad = 0
  · rw [adv_g h_q]; exact h1_q h_q
  · rw [adv_b h_q]; exact h2_q h_q
theorem adv_len {s : ps} : (adv s).l.length ≤ s.l.length := by
  unfold adv
  split
  · exact len_next
  · exact Nat.le_refl _
theorem adv_tot {s : ps} : tot (adv s) ≤ tot s := by
  unfold adv
  split
  · exact tot_nx
  · exact Nat.le_refl _
theorem adv_tb {s : ps} (hk : s.bad = 0 → kd s.l ≠ 0) (h_q : (adv s).bad = 0) : tot (adv s) + 1 = tot s ∧ (adv s).l.length + 1 = s.l.length := by
  by_cases hb_q : s.bad = 0
  · rw [adv_g hb_q]
    exact ⟨tot_nk (hk hb_q), len_nextK (hk hb_q)⟩
  · rw [adv_b hb_q] at h_q
    exact absurd h_q hb_q
theorem adv_mB {s s9 : ps} (hk : s.bad = 0 → kd s.l ≠ 0) (hb_q : s9.bad = 0) (hl : s.l.length ≤ s9.l.length) : mB (adv s) < mB s9 := by
  have e9_q : mB s9 = 2 * s9.l.length + 1 := by rw [mB, if_pos hb_q]
  by_cases h_q : s.bad = 0
  · have := len_nextK (hk h_q)
    rw [e9_q, adv_g h_q, mB, if_pos (show (nextP s).bad = 0 from h_q)]
    omega
  · rw [e9_q, adv_b h_q, mB, if_neg h_q]
    omega
theorem vOK.av {s : ps} (h_q : vOK s.l) : vOK (adv s).l := by
  unfold adv
  split
  · exact h_q.nx
  · exact h_q
theorem emitP_b {c_q : Int32} {s : ps} : (emitP c_q s).bad = s.bad := by
  unfold emitP
  split
  · rfl
  · rfl
def eT (i_q : Nat) (x_q : ps) : ps := if i_q = 0 then x_q else emitP 17 x_q
def eS (i_q : Nat) (sg : Int32) (x_q : ps) : ps := if i_q = 0 then x_q else emitP (if sg = 43 then 10 else 11) x_q
theorem eT_b {i_q : Nat} {x_q : ps} (h_q : x_q.bad ≠ 0) : eT i_q x_q = x_q := by
  unfold eT
  split
  · rfl
  · exact emitP_bd h_q
theorem eS_b {i_q : Nat} {sg : Int32} {x_q : ps} (h_q : x_q.bad ≠ 0) : eS i_q sg x_q = x_q := by
  unfold eS
  split
  · rfl
  · exact emitP_bd h_q
theorem eT_l {i_q : Nat} {x_q : ps} : (eT i_q x_q).l = x_q.l := by
  unfold eT
  split
  · rfl
  · exact len_emit
theorem eS_l {i_q : Nat} {sg : Int32} {x_q : ps} : (eS i_q sg x_q).l = x_q.l := by
  unfold eS
  split
  · rfl
  · exact len_emit
theorem eT_t {i_q m : Nat} {x_q : ps} (h1_q : tot x_q ≤ m + 1) (h2_q : i_q ≠ 0 → tot x_q ≤ m) : tot (eT i_q x_q) ≤ m + 1 := by
  unfold eT
  split
  · exact h1_q
  · next e_q => exact Nat.le_trans tot_em (by have := h2_q e_q; omega)
theorem eS_t {i_q m : Nat} {sg : Int32} {x_q : ps} (h1_q : tot x_q ≤ m + 1) (h2_q : i_q ≠ 0 → tot x_q ≤ m) : tot (eS i_q sg x_q) ≤ m + 1 := by
  unfold eS
  split
  · exact h1_q
  · next e_q => exact Nat.le_trans tot_em (by have := h2_q e_q; omega)
theorem tr_step {N w d_q i_q : Nat} {s : ps} (hk : s.bad = 0 → kd s.l = 17) : pP N w 1 d_q (eT (i_q + 1) (pP N w 2 d_q (adv s))) = pP N w 1 d_q s := by
  by_cases hb_q : s.bad = 0
  · rw [pP_1 (s := s), if_pos ⟨hb_q, hk hb_q⟩, adv_g hb_q, eT, if_neg (by omega)]
  · rw [adv_b hb_q, pP_b2 hb_q, eT_b hb_q]
theorem sm_step {N w d_q i_q : Nat} {v_q : Int32} {s : ps} (hk : s.bad = 0 → v_q = kd s.l) (hv_q : v_q = 43 ∨ v_q = 45) : pP N w 6 d_q (eS (i_q + 1) v_q (pP N w 7 d_q (adv s))) = pP N w 6 d_q s := by
  by_cases hb_q : s.bad = 0
  · have e_q := hk hb_q
    rw [e_q] at hv_q
    rw [pP_6 (s := s), if_pos ⟨hb_q, hv_q⟩, adv_g hb_q, eS, if_neg (by omega), e_q]
  · rw [adv_b hb_q, pP_b7 hb_q, eS_b hb_q]
theorem nmP_40 {w : Nat} {k : Int32} (h_q : k = 40) : nmP w k = none := by
  cases e_q : nmP w k with
  | none => rfl
  | some c_q => exact absurd h_q (nmP_r e_q).2.2
theorem uf_none {N w d_q : Nat} {s : ps} (hb_q : s.bad = 0) (h1_q : kd s.l ≠ 15) (h2_q : kd s.l ≠ 91) (h_q : (pP N w 5 d_q s).bad = 0 → kd (pP N w 5 d_q s).l ≠ 61 ∧ kd (pP N w 5 d_q s).l ≠ 60 ∧ kd (pP N w 5 d_q s).l ≠ 62) : pP N w 4 d_q s = failP N 2 (pP N w 5 d_q s) := by
  rw [pP_4s hb_q h1_q h2_q]
  by_cases hb1 : (pP N w 5 d_q s).bad = 0
  · obtain ⟨k1, k2, k3⟩ := h_q hb1
    rw [cmP, if_neg k1, if_neg k2, if_neg k3]
  · rw [failP_bad hb1]
    cases cmP (kd (pP N w 5 d_q s).l) with
    | none => rfl
    | some c_q => exact if_neg hb1
theorem uf_some {N w d_q : Nat} {s : ps} {v_q c_q : Int32} (hb_q : s.bad = 0) (h1_q : kd s.l ≠ 15) (h2_q : kd s.l ≠ 91) (hc_q : cmP v_q = some c_q) (h_q : (pP N w 5 d_q s).bad = 0 → v_q = kd (pP N w 5 d_q s).l) : pP N w 4 d_q s = emitP c_q (pP N w 5 d_q (adv (pP N w 5 d_q s))) := by
  rw [pP_4s hb_q h1_q h2_q]
  by_cases hb1 : (pP N w 5 d_q s).bad = 0
  · rw [← h_q hb1, hc_q]
    show (if _ then _ else _) = _
    rw [if_pos hb1, adv_g hb1]
  · rw [adv_b hb1, pP_b5 hb1, emitP_bd hb1]
    cases cmP (kd (pP N w 5 d_q s).l) with
    | none => exact failP_bad hb1
    | some c_q => exact if_neg hb1
theorem cp_named {Γ : gam} {z0 : sto} {n k a w b_q : Nat} {v_q tk t_q sz fl pl : Int32} (r0 : z0 (a + 71) = some (cO 4 [.ref (a + 77), .ref (a + 78), .ref (a + 79), .ref (a + 80), .int tk, .int t_q, .int sz, .int (nI (w + 3)), .ref b_q, .ref (a + 72), .int fl, .int pl])) (hw_q : 4 ≤ w ∧ w ≤ 6) : Sp Γ (rmk k 0 0) uX4_named [.ref (a + 71), .int v_q] z0 n (qP (nmC w v_q) z0 n) := by
  refine sp_intro [some (.ref (a + 71)), some (.int v_q)] (by decide +kernel) rfl (Nat.le_of_ble_eq_true rfl) rfl ?_
  by_cases ho : v_q.toInt < 10 ∨ 20 < v_q.toInt
  · refine go_iload_n (pc := 0) dX4_named_0 rfl ?_
    refine go_tableOut (tgt := 126) (pc := 1) dX4_named_1 ho (by decide) ?_
    refine go_iconst (v := 0) (pc := 126) dX4_named_126 (by decide) ?_
    exact go_iretP (pc := 127) rfl dX4_named_127 (Nat.le_of_ble_eq_true rfl) (Nat.le_of_ble_eq_true rfl) (nmC_o ho).symm
  · rcases (show v_q.toInt = 10 ∨ v_q.toInt = 11 ∨ v_q.toInt = 12 ∨ v_q.toInt = 13 ∨ v_q.toInt = 14 ∨ v_q.toInt = 15 ∨ v_q.toInt = 16 ∨ v_q.toInt = 17 ∨ v_q.toInt = 18 ∨ v_q.toInt = 19 ∨ v_q.toInt = 20 by omega) with e9_q | e9_q | e9_q | e9_q | e9_q | e9_q | e9_q | e9_q | e9_q | e9_q | e9_q
    · have e8_q : v_q = 10 := Int32.toInt_inj.mp (by rw [e9_q]; rfl)
      subst e8_q
      refine go_iload_n (pc := 0) dX4_named_0 rfl ?_
      refine go_tableIn (off := 59) (tgt := 60) (pc := 1) dX4_named_1 (by decide) (by decide) rfl (by decide) ?_
      refine go_bipush (v := -5) (pc := 60) dX4_named_60 (by decide) ?_
      exact go_iretP (pc := 62) rfl dX4_named_62 (Nat.le_of_ble_eq_true rfl) (Nat.le_of_ble_eq_true rfl) (by rcases (show w = 4 ∨ w = 5 ∨ w = 6 by omega) with rfl | rfl | rfl <;> first | decide | (exfalso; decide))
    · have e8_q : v_q = 11 := Int32.toInt_inj.mp (by rw [e9_q]; rfl)
      subst e8_q
      refine go_iload_n (pc := 0) dX4_named_0 rfl ?_
      refine go_tableIn (off := 109) (tgt := 110) (pc := 1) dX4_named_1 (by decide) (by decide) rfl (by decide) ?_
      refine go_aload_n (pc := 110) dX4_named_110 rfl ?_
      refine go_getf (pc := 111) f_X4_34 dX4_named_111 (by exact r0) (by rfl) ?_
      refine go_bipush (v := 7) (pc := 114) dX4_named_114 (by decide) ?_
      refine go_icmp_ne (tgt := 124) (pc := 116) dX4_named_116 (by decide) (fun h_116 => ?_) (fun h_116 => ?_)
      · refine go_iconst (v := 0) (pc := 124) dX4_named_124 (by decide) ?_
        exact go_iretP (pc := 125) rfl dX4_named_125 (Nat.le_of_ble_eq_true rfl) (Nat.le_of_ble_eq_true rfl) (by rcases (show w = 4 ∨ w = 5 ∨ w = 6 by omega) with rfl | rfl | rfl <;> first | decide | (exfalso; revert h_116; decide))
      · refine go_bipush (v := -2) (pc := 119) dX4_named_119 (by decide) ?_
        refine go_goto (tgt := 125) (pc := 121) dX4_named_121 (by decide) ?_
        exact go_iretP (pc := 125) rfl dX4_named_125 (Nat.le_of_ble_eq_true rfl) (Nat.le_of_ble_eq_true rfl) (by rcases (show w = 4 ∨ w = 5 ∨ w = 6 by omega) with rfl | rfl | rfl <;> first | decide | (exfalso; revert h_116; decide))
    · have e8_q : v_q = 12 := Int32.toInt_inj.mp (by rw [e9_q]; rfl)
      subst e8_q
      refine go_iload_n (pc := 0) dX4_named_0 rfl ?_
      refine go_tableIn (off := 125) (tgt := 126) (pc := 1) dX4_named_1 (by decide) (by decide) rfl (by decide) ?_
      refine go_iconst (v := 0) (pc := 126) dX4_named_126 (by decide) ?_
      exact go_iretP (pc := 127) rfl dX4_named_127 (Nat.le_of_ble_eq_true rfl) (Nat.le_of_ble_eq_true rfl) (by rcases (show w = 4 ∨ w = 5 ∨ w = 6 by omega) with rfl | rfl | rfl <;> first | decide | (exfalso; decide))
    · have e8_q : v_q = 13 := Int32.toInt_inj.mp (by rw [e9_q]; rfl)
      subst e8_q
      refine go_iload_n (pc := 0) dX4_named_0 rfl ?_
      refine go_tableIn (off := 125) (tgt := 126) (pc := 1) dX4_named_1 (by decide) (by decide) rfl (by decide) ?_
      refine go_iconst (v := 0) (pc := 126) dX4_named_126 (by decide) ?_
      exact go_iretP (pc := 127) rfl dX4_named_127 (Nat.le_of_ble_eq_true rfl) (Nat.le_of_ble_eq_true rfl) (by rcases (show w = 4 ∨ w = 5 ∨ w = 6 by omega) with rfl | rfl | rfl <;> first | decide | (exfalso; decide))
    · have e8_q : v_q = 14 := Int32.toInt_inj.mp (by rw [e9_q]; rfl)
      subst e8_q
      refine go_iload_n (pc := 0) dX4_named_0 rfl ?_
      refine go_tableIn (off := 125) (tgt := 126) (pc := 1) dX4_named_1 (by decide) (by decide) rfl (by decide) ?_
      refine go_iconst (v := 0) (pc := 126) dX4_named_126 (by decide) ?_
      exact go_iretP (pc := 127) rfl dX4_named_127 (Nat.le_of_ble_eq_true rfl) (Nat.le_of_ble_eq_true rfl) (by rcases (show w = 4 ∨ w = 5 ∨ w = 6 by omega) with rfl | rfl | rfl <;> first | decide | (exfalso; decide))
    · have e8_q : v_q = 15 := Int32.toInt_inj.mp (by rw [e9_q]; rfl)
      subst e8_q
      refine go_iload_n (pc := 0) dX4_named_0 rfl ?_
      refine go_tableIn (off := 125) (tgt := 126) (pc := 1) dX4_named_1 (by decide) (by decide) rfl (by decide) ?_
      refine go_iconst (v := 0) (pc := 126) dX4_named_126 (by decide) ?_
      exact go_iretP (pc := 127) rfl dX4_named_127 (Nat.le_of_ble_eq_true rfl) (Nat.le_of_ble_eq_true rfl) (by rcases (show w = 4 ∨ w = 5 ∨ w = 6 by omega) with rfl | rfl | rfl <;> first | decide | (exfalso; decide))
    · have e8_q : v_q = 16 := Int32.toInt_inj.mp (by rw [e9_q]; rfl)
      subst e8_q
      refine go_iload_n (pc := 0) dX4_named_0 rfl ?_
      refine go_tableIn (off := 125) (tgt := 126) (pc := 1) dX4_named_1 (by decide) (by decide) rfl (by decide) ?_
      refine go_iconst (v := 0) (pc := 126) dX4_named_126 (by decide) ?_
      exact go_iretP (pc := 127) rfl dX4_named_127 (Nat.le_of_ble_eq_true rfl) (Nat.le_of_ble_eq_true rfl) (by rcases (show w = 4 ∨ w = 5 ∨ w = 6 by omega) with rfl | rfl | rfl <;> first | decide | (exfalso; decide))
    · have e8_q : v_q = 17 := Int32.toInt_inj.mp (by rw [e9_q]; rfl)
      subst e8_q
      refine go_iload_n (pc := 0) dX4_named_0 rfl ?_
      refine go_tableIn (off := 125) (tgt := 126) (pc := 1) dX4_named_1 (by decide) (by decide) rfl (by decide) ?_
      refine go_iconst (v := 0) (pc := 126) dX4_named_126 (by decide) ?_
      exact go_iretP (pc := 127) rfl dX4_named_127 (Nat.le_of_ble_eq_true rfl) (Nat.le_of_ble_eq_true rfl) (by rcases (show w = 4 ∨ w = 5 ∨ w = 6 by omega) with rfl | rfl | rfl <;> first | decide | (exfalso; decide))
    · have e8_q : v_q = 18 := Int32.toInt_inj.mp (by rw [e9_q]; rfl)
      subst e8_q
      refine go_iload_n (pc := 0) dX4_named_0 rfl ?_
      refine go_tableIn (off := 94) (tgt := 95) (pc := 1) dX4_named_1 (by decide) (by decide) rfl (by decide) ?_
      refine go_aload_n (pc := 95) dX4_named_95 rfl ?_
      refine go_getf (pc := 96) f_X4_34 dX4_named_96 (by exact r0) (by rfl) ?_
      refine go_bipush (v := 7) (pc := 99) dX4_named_99 (by decide) ?_
      refine go_icmp_ne (tgt := 108) (pc := 101) dX4_named_101 (by decide) (fun h_101 => ?_) (fun h_101 => ?_)
      · refine go_iconst (v := 0) (pc := 108) dX4_named_108 (by decide) ?_
        exact go_iretP (pc := 109) rfl dX4_named_109 (Nat.le_of_ble_eq_true rfl) (Nat.le_of_ble_eq_true rfl) (by rcases (show w = 4 ∨ w = 5 ∨ w = 6 by omega) with rfl | rfl | rfl <;> first | decide | (exfalso; revert h_101; decide))
      · refine go_iconst (v := -1) (pc := 104) dX4_named_104 (by decide) ?_
        refine go_goto (tgt := 109) (pc := 105) dX4_named_105 (by decide) ?_
        exact go_iretP (pc := 109) rfl dX4_named_109 (Nat.le_of_ble_eq_true rfl) (Nat.le_of_ble_eq_true rfl) (by rcases (show w = 4 ∨ w = 5 ∨ w = 6 by omega) with rfl | rfl | rfl <;> first | decide | (exfalso; revert h_101; decide))
    · have e8_q : v_q = 19 := Int32.toInt_inj.mp (by rw [e9_q]; rfl)
      subst e8_q
      refine go_iload_n (pc := 0) dX4_named_0 rfl ?_
      refine go_tableIn (off := 62) (tgt := 63) (pc := 1) dX4_named_1 (by decide) (by decide) rfl (by decide) ?_
      refine go_aload_n (pc := 63) dX4_named_63 rfl ?_
      refine go_getf (pc := 64) f_X4_34 dX4_named_64 (by exact r0) (by rfl) ?_
      refine go_bipush (v := 8) (pc := 67) dX4_named_67 (by decide) ?_
      refine go_icmp_ne (tgt := 76) (pc := 69) dX4_named_69 (by decide) (fun h_69 => ?_) (fun h_69 => ?_)
      · refine go_bipush (v := -3) (pc := 76) dX4_named_76 (by decide) ?_
        exact go_iretP (pc := 78) rfl dX4_named_78 (Nat.le_of_ble_eq_true rfl) (Nat.le_of_ble_eq_true rfl) (by rcases (show w = 4 ∨ w = 5 ∨ w = 6 by omega) with rfl | rfl | rfl <;> first | decide | (exfalso; revert h_69; decide))
      · refine go_iconst (v := 0) (pc := 72) dX4_named_72 (by decide) ?_
        refine go_goto (tgt := 78) (pc := 73) dX4_named_73 (by decide) ?_
        exact go_iretP (pc := 78) rfl dX4_named_78 (Nat.le_of_ble_eq_true rfl) (Nat.le_of_ble_eq_true rfl) (by rcases (show w = 4 ∨ w = 5 ∨ w = 6 by omega) with rfl | rfl | rfl <;> first | decide | (exfalso; revert h_69; decide))
    · have e8_q : v_q = 20 := Int32.toInt_inj.mp (by rw [e9_q]; rfl)
      subst e8_q
      refine go_iload_n (pc := 0) dX4_named_0 rfl ?_
      refine go_tableIn (off := 78) (tgt := 79) (pc := 1) dX4_named_1 (by decide) (by decide) rfl (by decide) ?_
      refine go_aload_n (pc := 79) dX4_named_79 rfl ?_
      refine go_getf (pc := 80) f_X4_34 dX4_named_80 (by exact r0) (by rfl) ?_
      refine go_bipush (v := 8) (pc := 83) dX4_named_83 (by decide) ?_
      refine go_icmp_ne (tgt := 92) (pc := 85) dX4_named_85 (by decide) (fun h_85 => ?_) (fun h_85 => ?_)
      · refine go_bipush (v := -4) (pc := 92) dX4_named_92 (by decide) ?_
        exact go_iretP (pc := 94) rfl dX4_named_94 (Nat.le_of_ble_eq_true rfl) (Nat.le_of_ble_eq_true rfl) (by rcases (show w = 4 ∨ w = 5 ∨ w = 6 by omega) with rfl | rfl | rfl <;> first | decide | (exfalso; revert h_85; decide))
      · refine go_iconst (v := 0) (pc := 88) dX4_named_88 (by decide) ?_
        refine go_goto (tgt := 94) (pc := 89) dX4_named_89 (by decide) ?_
        exact go_iretP (pc := 94) rfl dX4_named_94 (Nat.le_of_ble_eq_true rfl) (Nat.le_of_ble_eq_true rfl) (by rcases (show w = 4 ∨ w = 5 ∨ w = 6 by omega) with rfl | rfl | rfl <;> first | decide | (exfalso; revert h_85; decide))
theorem cls_9 {Γ : gam} {a N b_q w d_q : Nat} {s : ps} (hw_q : 4 ≤ w ∧ w ≤ 6) (hd_q : d_q ≤ 6) (h5_q : d_q ≠ 6 → (nextP s).l.length < s.l.length → ClsOK Γ a N b_q w 5 (d_q + 1) (nextP s)) : ClsOK Γ a N b_q w 9 d_q s := by
  intro z0 n k hC ht_q hv0 hk
  have hq_q : ∀ q, q ≠ a + 71 → q ≠ a + 80 → z0 q = z0 q := fun _ _ _ => rfl
  have r0_ : rk 0 = 6 := rfl
  have r4_ : rk 4 = 4 := rfl
  have r5_ : rk 5 = 3 := rfl
  have r9_ : rk 9 = 1 := rfl
  have hst := st_tot ht_q
  obtain ⟨tk, t_q, sz, pl, r0⟩ := hC.r0
  show Sp Γ (rmk k 0 0) uX4_atom [.ref (a + 71), .int (nI d_q)] z0 n (qV fun σ' n' => n' = n ∧ CrAt Γ σ' a N b_q (nI (w + 3)) (pP N w 9 d_q s) ∧ ∀ q, q ≠ a + 71 → q ≠ a + 80 → σ' q = z0 q)
  refine sp_intro [some (.ref (a + 71)), some (.int (nI d_q)), none, none] (by decide +kernel) rfl (Nat.le_of_ble_eq_true rfl) rfl ?_
  by_cases hb_q : s.bad = 0
  · by_cases k40 : kd s.l = 40
    · by_cases h6_q : d_q = 6
      · refine go_aload_n (pc := 0) dX4_atom_0 rfl ?_
        refine go_V0I (pc := 1) v_X4_82 rfl rfl (rcv_of (ci := 4) (by exact r0) rfl) dX4_atom_1 (cp_kindT (k := k - 1) hC) (fun v_1 σ n h_q => ?_)
        obtain ⟨e1_q, e2_q, hkv⟩ := h_q
        obtain rfl := e1_q.symm
        obtain rfl := e2_q.symm
        obtain rfl := hkv hb_q
        refine go_istore_n (lw := [_, _, _, _]) (pc := 4) dX4_atom_4 (by decide) rfl ?_
        obtain ⟨tk, t_q, sz, pl, r0⟩ := hC.r0
        refine go_aload_n (pc := 5) dX4_atom_5 rfl ?_
        refine go_getf (pc := 6) f_X4_37 dX4_atom_6 (by exact r0) (by rfl) ?_
        refine go_if_eq (tgt := 13) (pc := 9) dX4_atom_9 (by decide) (fun h_9 => ?_) (fun h_9 => by exfalso; exact h_9 hb_q)
        refine go_iload_n (pc := 13) dX4_atom_13 rfl ?_
        refine go_bipush (v := 6) (pc := 14) dX4_atom_14 (by decide) ?_
        refine go_icmp_lt (tgt := 33) (pc := 16) dX4_atom_16 (by decide) (fun h_16 => by exfalso; exact absurd h_16 (by rw [h6_q]; decide)) (fun h_16 => ?_)
        refine go_iload_n (pc := 19) dX4_atom_19 rfl ?_
        refine go_bipush (v := 40) (pc := 20) dX4_atom_20 (by decide) ?_
        refine go_icmp_ne (tgt := 33) (pc := 22) dX4_atom_22 (by decide) (fun h_22 => by exfalso; exact h_22 (k40)) (fun h_22 => ?_)
        refine go_aload_n (pc := 25) dX4_atom_25 rfl ?_
        refine go_iconst (v := 4) (pc := 26) dX4_atom_26 (by decide) ?_
        refine go_V1V (pc := 27) v_X4_152 rfl rfl (rcv_of (ci := 4) (by exact r0) rfl) dX4_atom_27 (cp_failT (k := k - 1) hC (c_q := 4) (by decide)) (fun σ n h_q => ?_)
        obtain ⟨rfl, hC, hq1⟩ := h_q
        have hq_q : ∀ q, q ≠ a + 71 → q ≠ a + 80 → σ q = z0 q := fun q h1_q h2_q => (hq1 q h1_q h2_q).trans (hq_q q h1_q h2_q)
        obtain ⟨tk, t_q, sz, pl, r0⟩ := hC.r0
        refine go_goto (tgt := 127) (pc := 30) dX4_atom_30 (by decide) ?_
        exact go_vretV (pc := 127) rfl dX4_atom_127 (Nat.le_of_ble_eq_true rfl) (Nat.le_of_ble_eq_true rfl) (by rw [pP_9p hb_q (nmP_40 k40) k40, if_pos h6_q]; exact ⟨rfl, hC, hq_q⟩)
      · have n1 := nx_lt k40 (by decide)
        have n2 := tot_ne k40 (by decide)
        refine go_aload_n (pc := 0) dX4_atom_0 rfl ?_
        refine go_V0I (pc := 1) v_X4_82 rfl rfl (rcv_of (ci := 4) (by exact r0) rfl) dX4_atom_1 (cp_kindT (k := k - 1) hC) (fun v_1 σ n h_q => ?_)
        obtain ⟨e1_q, e2_q, hkv⟩ := h_q
        obtain rfl := e1_q.symm
        obtain rfl := e2_q.symm
        obtain rfl := hkv hb_q
        refine go_istore_n (lw := [_, _, _, _]) (pc := 4) dX4_atom_4 (by decide) rfl ?_
        obtain ⟨tk, t_q, sz, pl, r0⟩ := hC.r0
        refine go_aload_n (pc := 5) dX4_atom_5 rfl ?_
        refine go_getf (pc := 6) f_X4_37 dX4_atom_6 (by exact r0) (by rfl) ?_
        refine go_if_eq (tgt := 13) (pc := 9) dX4_atom_9 (by decide) (fun h_9 => ?_) (fun h_9 => by exfalso; exact h_9 hb_q)
        refine go_iload_n (pc := 13) dX4_atom_13 rfl ?_
        refine go_bipush (v := 6) (pc := 14) dX4_atom_14 (by decide) ?_
        refine go_icmp_lt (tgt := 33) (pc := 16) dX4_atom_16 (by decide) (fun h_16 => ?_) (fun h_16 => by exfalso; exact h_16 (nI_lt (b := 6) (by omega) (by decide)))
        refine go_iload_n (pc := 33) dX4_atom_33 rfl ?_
        refine go_bipush (v := 40) (pc := 34) dX4_atom_34 (by decide) ?_
        refine go_icmp_ne (tgt := 65) (pc := 36) dX4_atom_36 (by decide) (fun h_36 => by exfalso; exact h_36 (k40)) (fun h_36 => ?_)
        obtain ⟨tk, t_q, sz, pl, r0, hop, hop2⟩ := hC.op (fun _ => kd_ne k40 (by decide))
        refine go_aload_n (pc := 39) dX4_atom_39 rfl ?_
        refine go_dup (pc := 40) dX4_atom_40 rfl ?_
        refine go_getf (pc := 41) f_X4_28 dX4_atom_41 (by exact r0) (by rfl) ?_
        refine go_iconst (v := 1) (pc := 44) dX4_atom_44 (by decide) ?_
        refine go_iadd (pc := 45) dX4_atom_45 ?_
        refine go_putf (fs' := [_, _, _, _, _, _, _, _, _, _, _, _]) (pc := 46) f_X4_28 dX4_atom_46 (by exact r0) (Nat.le_of_ble_eq_true rfl) (by rfl) rfl rfl ?_
        refine go_set (P := fun x_q => CrAt Γ x_q a N b_q (nI (w + 3)) (nextP (s)) ∧ ∀ q, q ≠ a + 71 → q ≠ a + 80 → x_q q = z0 q) ⟨hop hb_q, fun q h1_q h2_q => sup_ne h1_q (hq_q q h1_q h2_q)⟩ (fun σ hx_q => ?_)
        obtain ⟨hC, hq_q⟩ := hx_q
        obtain ⟨tk, t_q, sz, pl, r0⟩ := hC.r0
        refine go_aload_n (pc := 49) dX4_atom_49 rfl ?_
        refine go_iload_n (pc := 50) dX4_atom_50 rfl ?_
        refine go_iconst (v := 1) (pc := 51) dX4_atom_51 (by decide) ?_
        refine go_iadd (pc := 52) dX4_atom_52 ?_
        rw [nI_1]
        refine go_V1V (pc := 53) v_X4_163 rfl rfl (rcv_of (ci := 4) (by exact r0) rfl) dX4_atom_53 (h5_q h6_q (by omega) _ _ (k - 1) hC (by omega) hv0.nx (by omega)) (fun σ n h_q => ?_)
        obtain ⟨rfl, hC, hq1⟩ := h_q
        have hq_q : ∀ q, q ≠ a + 71 → q ≠ a + 80 → σ q = z0 q := fun q h1_q h2_q => (hq1 q h1_q h2_q).trans (hq_q q h1_q h2_q)
        obtain ⟨tk, t_q, sz, pl, r0⟩ := hC.r0
        refine go_aload_n (pc := 56) dX4_atom_56 rfl ?_
        refine go_bipush (v := 41) (pc := 57) dX4_atom_57 (by decide) ?_
        refine go_V1V (pc := 59) v_X4_65 rfl rfl (rcv_of (ci := 4) (by exact r0) rfl) dX4_atom_59 (cp_needT (k := k - 1) hC (c_q := 41) (by decide) (by omega)) (fun σ n h_q => ?_)
        obtain ⟨rfl, hC, hq1⟩ := h_q
        have hq_q : ∀ q, q ≠ a + 71 → q ≠ a + 80 → σ q = z0 q := fun q h1_q h2_q => (hq1 q h1_q h2_q).trans (hq_q q h1_q h2_q)
        obtain ⟨tk, t_q, sz, pl, r0⟩ := hC.r0
        refine go_goto (tgt := 127) (pc := 62) dX4_atom_62 (by decide) ?_
        exact go_vretV (pc := 127) rfl dX4_atom_127 (Nat.le_of_ble_eq_true rfl) (Nat.le_of_ble_eq_true rfl) (by rw [pP_9p hb_q (nmP_40 k40) k40, if_neg h6_q]; exact ⟨rfl, hC, hq_q⟩)
    · by_cases k2 : kd s.l = 2
      · refine go_aload_n (pc := 0) dX4_atom_0 rfl ?_
        refine go_V0I (pc := 1) v_X4_82 rfl rfl (rcv_of (ci := 4) (by exact r0) rfl) dX4_atom_1 (cp_kindT (k := k - 1) hC) (fun v_1 σ n h_q => ?_)
        obtain ⟨e1_q, e2_q, hkv⟩ := h_q
        obtain rfl := e1_q.symm
        obtain rfl := e2_q.symm
        obtain rfl := hkv hb_q
        refine go_istore_n (lw := [_, _, _, _]) (pc := 4) dX4_atom_4 (by decide) rfl ?_
        obtain ⟨tk, t_q, sz, pl, r0⟩ := hC.r0
        refine go_aload_n (pc := 5) dX4_atom_5 rfl ?_
        refine go_getf (pc := 6) f_X4_37 dX4_atom_6 (by exact r0) (by rfl) ?_
        refine go_if_eq (tgt := 13) (pc := 9) dX4_atom_9 (by decide) (fun h_9 => ?_) (fun h_9 => by exfalso; exact h_9 hb_q)
        refine go_iload_n (pc := 13) dX4_atom_13 rfl ?_
        refine go_bipush (v := 6) (pc := 14) dX4_atom_14 (by decide) ?_
        refine go_icmp_lt (tgt := 33) (pc := 16) dX4_atom_16 (by decide) (fun h_16 => ?_) (fun h_16 => ?_)
        · refine go_iload_n (pc := 33) dX4_atom_33 rfl ?_
          refine go_bipush (v := 40) (pc := 34) dX4_atom_34 (by decide) ?_
          refine go_icmp_ne (tgt := 65) (pc := 36) dX4_atom_36 (by decide) (fun h_36 => ?_) (fun h_36 => by exfalso; exact absurd h_36 (k40))
          refine go_iload_n (pc := 65) dX4_atom_65 rfl ?_
          refine go_iconst (v := 2) (pc := 66) dX4_atom_66 (by decide) ?_
          refine go_icmp_ne (tgt := 96) (pc := 67) dX4_atom_67 (by decide) (fun h_67 => by exfalso; exact h_67 (k2)) (fun h_67 => ?_)
          obtain ⟨tk, sz, pl, o1, cv1, r0, r2, ho1, eV⟩ := hC.vl hb_q (kd_ne k2 (by decide))
          refine go_aload_n (pc := 70) dX4_atom_70 rfl ?_
          refine go_aload_n (pc := 71) dX4_atom_71 rfl ?_
          refine go_getf (pc := 72) f_X4_15 dX4_atom_72 (by exact r0) (by rfl) ?_
          refine go_aload_n (pc := 75) dX4_atom_75 rfl ?_
          refine go_getf (pc := 76) f_X4_28 dX4_atom_76 (by exact r0) (by rfl) ?_
          refine go_iald (pc := 79) dX4_atom_79 r2 (by exact ⟨rfl, by omega⟩) ?_
          refine go_V1V (pc := 80) v_X4_218 rfl rfl (rcv_of (ci := 4) (by exact r0) rfl) dX4_atom_80 (cp_emitT (k := k - 1) hC (c2 := 1000 + tvl s.l) (by rw [eV, trS_num (hv0.hd k2).1 (hv0.hd k2).2]) (by omega)) (fun σ n h_q => ?_)
          obtain ⟨rfl, hC, hq1⟩ := h_q
          have hq_q : ∀ q, q ≠ a + 71 → q ≠ a + 80 → σ q = z0 q := fun q h1_q h2_q => (hq1 q h1_q h2_q).trans (hq_q q h1_q h2_q)
          obtain ⟨tk, t_q, sz, pl, r0⟩ := hC.r0
          obtain ⟨tk, t_q, sz, pl, r0, hop, hop2⟩ := hC.op (fun _ => by rw [len_emit]; exact kd_ne k2 (by decide))
          refine go_aload_n (pc := 83) dX4_atom_83 rfl ?_
          refine go_dup (pc := 84) dX4_atom_84 rfl ?_
          refine go_getf (pc := 85) f_X4_28 dX4_atom_85 (by exact r0) (by rfl) ?_
          refine go_iconst (v := 1) (pc := 88) dX4_atom_88 (by decide) ?_
          refine go_iadd (pc := 89) dX4_atom_89 ?_
          refine go_putf (fs' := [_, _, _, _, _, _, _, _, _, _, _, _]) (pc := 90) f_X4_28 dX4_atom_90 (by exact r0) (Nat.le_of_ble_eq_true rfl) (by rfl) rfl rfl ?_
          refine go_set (P := fun x_q => CrAt Γ x_q a N b_q (nI (w + 3)) (nextP (emitP (1000 + tvl s.l) s)) ∧ ∀ q, q ≠ a + 71 → q ≠ a + 80 → x_q q = z0 q) ⟨hop (by rw [emitP_b]; exact hb_q), fun q h1_q h2_q => sup_ne h1_q (hq_q q h1_q h2_q)⟩ (fun σ hx_q => ?_)
          obtain ⟨hC, hq_q⟩ := hx_q
          obtain ⟨tk, t_q, sz, pl, r0⟩ := hC.r0
          refine go_goto (tgt := 127) (pc := 93) dX4_atom_93 (by decide) ?_
          exact go_vretV (pc := 127) rfl dX4_atom_127 (Nat.le_of_ble_eq_true rfl) (Nat.le_of_ble_eq_true rfl) (by rw [pP_9x hb_q k2 hv0, ← nx_em hb_q]; exact ⟨rfl, hC, hq_q⟩)
        · refine go_iload_n (pc := 19) dX4_atom_19 rfl ?_
          refine go_bipush (v := 40) (pc := 20) dX4_atom_20 (by decide) ?_
          refine go_icmp_ne (tgt := 33) (pc := 22) dX4_atom_22 (by decide) (fun h_22 => ?_) (fun h_22 => by exfalso; exact absurd h_22 (k40))
          refine go_iload_n (pc := 33) dX4_atom_33 rfl ?_
          refine go_bipush (v := 40) (pc := 34) dX4_atom_34 (by decide) ?_
          refine go_icmp_ne (tgt := 65) (pc := 36) dX4_atom_36 (by decide) (fun h_36 => ?_) (fun h_36 => by exfalso; exact absurd h_36 (k40))
          refine go_iload_n (pc := 65) dX4_atom_65 rfl ?_
          refine go_iconst (v := 2) (pc := 66) dX4_atom_66 (by decide) ?_
          refine go_icmp_ne (tgt := 96) (pc := 67) dX4_atom_67 (by decide) (fun h_67 => by exfalso; exact h_67 (k2)) (fun h_67 => ?_)
          obtain ⟨tk, sz, pl, o1, cv1, r0, r2, ho1, eV⟩ := hC.vl hb_q (kd_ne k2 (by decide))
          refine go_aload_n (pc := 70) dX4_atom_70 rfl ?_
          refine go_aload_n (pc := 71) dX4_atom_71 rfl ?_
          refine go_getf (pc := 72) f_X4_15 dX4_atom_72 (by exact r0) (by rfl) ?_
          refine go_aload_n (pc := 75) dX4_atom_75 rfl ?_
          refine go_getf (pc := 76) f_X4_28 dX4_atom_76 (by exact r0) (by rfl) ?_
          refine go_iald (pc := 79) dX4_atom_79 r2 (by exact ⟨rfl, by omega⟩) ?_
          refine go_V1V (pc := 80) v_X4_218 rfl rfl (rcv_of (ci := 4) (by exact r0) rfl) dX4_atom_80 (cp_emitT (k := k - 1) hC (c2 := 1000 + tvl s.l) (by rw [eV, trS_num (hv0.hd k2).1 (hv0.hd k2).2]) (by omega)) (fun σ n h_q => ?_)
          obtain ⟨rfl, hC, hq1⟩ := h_q
          have hq_q : ∀ q, q ≠ a + 71 → q ≠ a + 80 → σ q = z0 q := fun q h1_q h2_q => (hq1 q h1_q h2_q).trans (hq_q q h1_q h2_q)
          obtain ⟨tk, t_q, sz, pl, r0⟩ := hC.r0
          obtain ⟨tk, t_q, sz, pl, r0, hop, hop2⟩ := hC.op (fun _ => by rw [len_emit]; exact kd_ne k2 (by decide))
          refine go_aload_n (pc := 83) dX4_atom_83 rfl ?_
          refine go_dup (pc := 84) dX4_atom_84 rfl ?_
          refine go_getf (pc := 85) f_X4_28 dX4_atom_85 (by exact r0) (by rfl) ?_
          refine go_iconst (v := 1) (pc := 88) dX4_atom_88 (by decide) ?_
          refine go_iadd (pc := 89) dX4_atom_89 ?_
          refine go_putf (fs' := [_, _, _, _, _, _, _, _, _, _, _, _]) (pc := 90) f_X4_28 dX4_atom_90 (by exact r0) (Nat.le_of_ble_eq_true rfl) (by rfl) rfl rfl ?_
          refine go_set (P := fun x_q => CrAt Γ x_q a N b_q (nI (w + 3)) (nextP (emitP (1000 + tvl s.l) s)) ∧ ∀ q, q ≠ a + 71 → q ≠ a + 80 → x_q q = z0 q) ⟨hop (by rw [emitP_b]; exact hb_q), fun q h1_q h2_q => sup_ne h1_q (hq_q q h1_q h2_q)⟩ (fun σ hx_q => ?_)
          obtain ⟨hC, hq_q⟩ := hx_q
          obtain ⟨tk, t_q, sz, pl, r0⟩ := hC.r0
          refine go_goto (tgt := 127) (pc := 93) dX4_atom_93 (by decide) ?_
          exact go_vretV (pc := 127) rfl dX4_atom_127 (Nat.le_of_ble_eq_true rfl) (Nat.le_of_ble_eq_true rfl) (by rw [pP_9x hb_q k2 hv0, ← nx_em hb_q]; exact ⟨rfl, hC, hq_q⟩)
      · by_cases hz_q : nmC w (kd s.l) = 0
        · refine go_aload_n (pc := 0) dX4_atom_0 rfl ?_
          refine go_V0I (pc := 1) v_X4_82 rfl rfl (rcv_of (ci := 4) (by exact r0) rfl) dX4_atom_1 (cp_kindT (k := k - 1) hC) (fun v_1 σ n h_q => ?_)
          obtain ⟨e1_q, e2_q, hkv⟩ := h_q
          obtain rfl := e1_q.symm
          obtain rfl := e2_q.symm
          obtain rfl := hkv hb_q
          refine go_istore_n (lw := [_, _, _, _]) (pc := 4) dX4_atom_4 (by decide) rfl ?_
          obtain ⟨tk, t_q, sz, pl, r0⟩ := hC.r0
          refine go_aload_n (pc := 5) dX4_atom_5 rfl ?_
          refine go_getf (pc := 6) f_X4_37 dX4_atom_6 (by exact r0) (by rfl) ?_
          refine go_if_eq (tgt := 13) (pc := 9) dX4_atom_9 (by decide) (fun h_9 => ?_) (fun h_9 => by exfalso; exact h_9 hb_q)
          refine go_iload_n (pc := 13) dX4_atom_13 rfl ?_
          refine go_bipush (v := 6) (pc := 14) dX4_atom_14 (by decide) ?_
          refine go_icmp_lt (tgt := 33) (pc := 16) dX4_atom_16 (by decide) (fun h_16 => ?_) (fun h_16 => ?_)
          · refine go_iload_n (pc := 33) dX4_atom_33 rfl ?_
            refine go_bipush (v := 40) (pc := 34) dX4_atom_34 (by decide) ?_
            refine go_icmp_ne (tgt := 65) (pc := 36) dX4_atom_36 (by decide) (fun h_36 => ?_) (fun h_36 => by exfalso; exact absurd h_36 (k40))
            refine go_iload_n (pc := 65) dX4_atom_65 rfl ?_
            refine go_iconst (v := 2) (pc := 66) dX4_atom_66 (by decide) ?_
            refine go_icmp_ne (tgt := 96) (pc := 67) dX4_atom_67 (by decide) (fun h_67 => ?_) (fun h_67 => by exfalso; exact absurd h_67 (k2))
            refine go_aload_n (pc := 96) dX4_atom_96 rfl ?_
            refine go_iload_n (pc := 97) dX4_atom_97 rfl ?_
            refine go_V1P (pc := 98) v_X4_224 rfl rfl (rcv_of (ci := 4) (by exact r0) rfl) dX4_atom_98 (cp_named (k := k - 1) r0 hw_q) ?_
            refine go_istore_n (lw := [_, _, _, _]) (pc := 101) dX4_atom_101 (by decide) rfl ?_
            refine go_iload_n (pc := 102) dX4_atom_102 rfl ?_
            refine go_if_ne (tgt := 112) (pc := 103) dX4_atom_103 (by decide) (fun h_103 => by exfalso; exact h_103 hz_q) (fun h_103 => ?_)
            refine go_aload_n (pc := 106) dX4_atom_106 rfl ?_
            refine go_iconst (v := 2) (pc := 107) dX4_atom_107 (by decide) ?_
            refine go_V1V (pc := 108) v_X4_152 rfl rfl (rcv_of (ci := 4) (by exact r0) rfl) dX4_atom_108 (cp_failT (k := k - 1) hC (c_q := 2) (by decide)) (fun σ n h_q => ?_)
            obtain ⟨rfl, hC, hq1⟩ := h_q
            have hq_q : ∀ q, q ≠ a + 71 → q ≠ a + 80 → σ q = z0 q := fun q h1_q h2_q => (hq1 q h1_q h2_q).trans (hq_q q h1_q h2_q)
            obtain ⟨tk, t_q, sz, pl, r0⟩ := hC.r0
            exact go_vretV (pc := 111) rfl dX4_atom_111 (Nat.le_of_ble_eq_true rfl) (Nat.le_of_ble_eq_true rfl) (by rw [pP_9w hb_q (nmC_n hz_q) k40 k2]; exact ⟨rfl, hC, hq_q⟩)
          · refine go_iload_n (pc := 19) dX4_atom_19 rfl ?_
            refine go_bipush (v := 40) (pc := 20) dX4_atom_20 (by decide) ?_
            refine go_icmp_ne (tgt := 33) (pc := 22) dX4_atom_22 (by decide) (fun h_22 => ?_) (fun h_22 => by exfalso; exact absurd h_22 (k40))
            refine go_iload_n (pc := 33) dX4_atom_33 rfl ?_
            refine go_bipush (v := 40) (pc := 34) dX4_atom_34 (by decide) ?_
            refine go_icmp_ne (tgt := 65) (pc := 36) dX4_atom_36 (by decide) (fun h_36 => ?_) (fun h_36 => by exfalso; exact absurd h_36 (k40))
            refine go_iload_n (pc := 65) dX4_atom_65 rfl ?_
            refine go_iconst (v := 2) (pc := 66) dX4_atom_66 (by decide) ?_
            refine go_icmp_ne (tgt := 96) (pc := 67) dX4_atom_67 (by decide) (fun h_67 => ?_) (fun h_67 => by exfalso; exact absurd h_67 (k2))
            refine go_aload_n (pc := 96) dX4_atom_96 rfl ?_
            refine go_iload_n (pc := 97) dX4_atom_97 rfl ?_
            refine go_V1P (pc := 98) v_X4_224 rfl rfl (rcv_of (ci := 4) (by exact r0) rfl) dX4_atom_98 (cp_named (k := k - 1) r0 hw_q) ?_
            refine go_istore_n (lw := [_, _, _, _]) (pc := 101) dX4_atom_101 (by decide) rfl ?_
            refine go_iload_n (pc := 102) dX4_atom_102 rfl ?_
            refine go_if_ne (tgt := 112) (pc := 103) dX4_atom_103 (by decide) (fun h_103 => by exfalso; exact h_103 hz_q) (fun h_103 => ?_)
            refine go_aload_n (pc := 106) dX4_atom_106 rfl ?_
            refine go_iconst (v := 2) (pc := 107) dX4_atom_107 (by decide) ?_
            refine go_V1V (pc := 108) v_X4_152 rfl rfl (rcv_of (ci := 4) (by exact r0) rfl) dX4_atom_108 (cp_failT (k := k - 1) hC (c_q := 2) (by decide)) (fun σ n h_q => ?_)
            obtain ⟨rfl, hC, hq1⟩ := h_q
            have hq_q : ∀ q, q ≠ a + 71 → q ≠ a + 80 → σ q = z0 q := fun q h1_q h2_q => (hq1 q h1_q h2_q).trans (hq_q q h1_q h2_q)
            obtain ⟨tk, t_q, sz, pl, r0⟩ := hC.r0
            exact go_vretV (pc := 111) rfl dX4_atom_111 (Nat.le_of_ble_eq_true rfl) (Nat.le_of_ble_eq_true rfl) (by rw [pP_9w hb_q (nmC_n hz_q) k40 k2]; exact ⟨rfl, hC, hq_q⟩)
        · obtain ⟨c9_q, hc9, ec9⟩ := nmC_s hz_q
          refine go_aload_n (pc := 0) dX4_atom_0 rfl ?_
          refine go_V0I (pc := 1) v_X4_82 rfl rfl (rcv_of (ci := 4) (by exact r0) rfl) dX4_atom_1 (cp_kindT (k := k - 1) hC) (fun v_1 σ n h_q => ?_)
          obtain ⟨e1_q, e2_q, hkv⟩ := h_q
          obtain rfl := e1_q.symm
          obtain rfl := e2_q.symm
          obtain rfl := hkv hb_q
          refine go_istore_n (lw := [_, _, _, _]) (pc := 4) dX4_atom_4 (by decide) rfl ?_
          obtain ⟨tk, t_q, sz, pl, r0⟩ := hC.r0
          refine go_aload_n (pc := 5) dX4_atom_5 rfl ?_
          refine go_getf (pc := 6) f_X4_37 dX4_atom_6 (by exact r0) (by rfl) ?_
          refine go_if_eq (tgt := 13) (pc := 9) dX4_atom_9 (by decide) (fun h_9 => ?_) (fun h_9 => by exfalso; exact h_9 hb_q)
          refine go_iload_n (pc := 13) dX4_atom_13 rfl ?_
          refine go_bipush (v := 6) (pc := 14) dX4_atom_14 (by decide) ?_
          refine go_icmp_lt (tgt := 33) (pc := 16) dX4_atom_16 (by decide) (fun h_16 => ?_) (fun h_16 => ?_)
          · refine go_iload_n (pc := 33) dX4_atom_33 rfl ?_
            refine go_bipush (v := 40) (pc := 34) dX4_atom_34 (by decide) ?_
            refine go_icmp_ne (tgt := 65) (pc := 36) dX4_atom_36 (by decide) (fun h_36 => ?_) (fun h_36 => by exfalso; exact absurd h_36 (k40))
            refine go_iload_n (pc := 65) dX4_atom_65 rfl ?_
            refine go_iconst (v := 2) (pc := 66) dX4_atom_66 (by decide) ?_
            refine go_icmp_ne (tgt := 96) (pc := 67) dX4_atom_67 (by decide) (fun h_67 => ?_) (fun h_67 => by exfalso; exact absurd h_67 (k2))
            refine go_aload_n (pc := 96) dX4_atom_96 rfl ?_
            refine go_iload_n (pc := 97) dX4_atom_97 rfl ?_
            refine go_V1P (pc := 98) v_X4_224 rfl rfl (rcv_of (ci := 4) (by exact r0) rfl) dX4_atom_98 (cp_named (k := k - 1) r0 hw_q) ?_
            refine go_istore_n (lw := [_, _, _, _]) (pc := 101) dX4_atom_101 (by decide) rfl ?_
            refine go_iload_n (pc := 102) dX4_atom_102 rfl ?_
            refine go_if_ne (tgt := 112) (pc := 103) dX4_atom_103 (by decide) (fun h_103 => ?_) (fun h_103 => by exfalso; exact hz_q h_103)
            refine go_aload_n (pc := 112) dX4_atom_112 rfl ?_
            refine go_iload_n (pc := 113) dX4_atom_113 rfl ?_
            refine go_V1V (pc := 114) v_X4_218 rfl rfl (rcv_of (ci := 4) (by exact r0) rfl) dX4_atom_114 (cp_emitT (k := k - 1) hC (c2 := 100 + c9_q) ec9 (by omega)) (fun σ n h_q => ?_)
            obtain ⟨rfl, hC, hq1⟩ := h_q
            have hq_q : ∀ q, q ≠ a + 71 → q ≠ a + 80 → σ q = z0 q := fun q h1_q h2_q => (hq1 q h1_q h2_q).trans (hq_q q h1_q h2_q)
            obtain ⟨tk, t_q, sz, pl, r0⟩ := hC.r0
            obtain ⟨tk, t_q, sz, pl, r0, hop, hop2⟩ := hC.op (fun _ => by rw [len_emit]; exact kd_ne rfl (nmP_r hc9).2.1)
            refine go_aload_n (pc := 117) dX4_atom_117 rfl ?_
            refine go_dup (pc := 118) dX4_atom_118 rfl ?_
            refine go_getf (pc := 119) f_X4_28 dX4_atom_119 (by exact r0) (by rfl) ?_
            refine go_iconst (v := 1) (pc := 122) dX4_atom_122 (by decide) ?_
            refine go_iadd (pc := 123) dX4_atom_123 ?_
            refine go_putf (fs' := [_, _, _, _, _, _, _, _, _, _, _, _]) (pc := 124) f_X4_28 dX4_atom_124 (by exact r0) (Nat.le_of_ble_eq_true rfl) (by rfl) rfl rfl ?_
            refine go_set (P := fun x_q => CrAt Γ x_q a N b_q (nI (w + 3)) (nextP (emitP (100 + c9_q) s)) ∧ ∀ q, q ≠ a + 71 → q ≠ a + 80 → x_q q = z0 q) ⟨hop (by rw [emitP_b]; exact hb_q), fun q h1_q h2_q => sup_ne h1_q (hq_q q h1_q h2_q)⟩ (fun σ hx_q => ?_)
            obtain ⟨hC, hq_q⟩ := hx_q
            obtain ⟨tk, t_q, sz, pl, r0⟩ := hC.r0
            exact go_vretV (pc := 127) rfl dX4_atom_127 (Nat.le_of_ble_eq_true rfl) (Nat.le_of_ble_eq_true rfl) (by rw [pP_9n hb_q hc9, ← nx_em hb_q]; exact ⟨rfl, hC, hq_q⟩)
          · refine go_iload_n (pc := 19) dX4_atom_19 rfl ?_
            refine go_bipush (v := 40) (pc := 20) dX4_atom_20 (by decide) ?_
            refine go_icmp_ne (tgt := 33) (pc := 22) dX4_atom_22 (by decide) (fun h_22 => ?_) (fun h_22 => by exfalso; exact absurd h_22 (k40))
            refine go_iload_n (pc := 33) dX4_atom_33 rfl ?_
            refine go_bipush (v := 40) (pc := 34) dX4_atom_34 (by decide) ?_
            refine go_icmp_ne (tgt := 65) (pc := 36) dX4_atom_36 (by decide) (fun h_36 => ?_) (fun h_36 => by exfalso; exact absurd h_36 (k40))
            refine go_iload_n (pc := 65) dX4_atom_65 rfl ?_
            refine go_iconst (v := 2) (pc := 66) dX4_atom_66 (by decide) ?_
            refine go_icmp_ne (tgt := 96) (pc := 67) dX4_atom_67 (by decide) (fun h_67 => ?_) (fun h_67 => by exfalso; exact absurd h_67 (k2))
            refine go_aload_n (pc := 96) dX4_atom_96 rfl ?_
            refine go_iload_n (pc := 97) dX4_atom_97 rfl ?_
            refine go_V1P (pc := 98) v_X4_224 rfl rfl (rcv_of (ci := 4) (by exact r0) rfl) dX4_atom_98 (cp_named (k := k - 1) r0 hw_q) ?_
            refine go_istore_n (lw := [_, _, _, _]) (pc := 101) dX4_atom_101 (by decide) rfl ?_
            refine go_iload_n (pc := 102) dX4_atom_102 rfl ?_
            refine go_if_ne (tgt := 112) (pc := 103) dX4_atom_103 (by decide) (fun h_103 => ?_) (fun h_103 => by exfalso; exact hz_q h_103)
            refine go_aload_n (pc := 112) dX4_atom_112 rfl ?_
            refine go_iload_n (pc := 113) dX4_atom_113 rfl ?_
            refine go_V1V (pc := 114) v_X4_218 rfl rfl (rcv_of (ci := 4) (by exact r0) rfl) dX4_atom_114 (cp_emitT (k := k - 1) hC (c2 := 100 + c9_q) ec9 (by omega)) (fun σ n h_q => ?_)
            obtain ⟨rfl, hC, hq1⟩ := h_q
            have hq_q : ∀ q, q ≠ a + 71 → q ≠ a + 80 → σ q = z0 q := fun q h1_q h2_q => (hq1 q h1_q h2_q).trans (hq_q q h1_q h2_q)
            obtain ⟨tk, t_q, sz, pl, r0⟩ := hC.r0
            obtain ⟨tk, t_q, sz, pl, r0, hop, hop2⟩ := hC.op (fun _ => by rw [len_emit]; exact kd_ne rfl (nmP_r hc9).2.1)
            refine go_aload_n (pc := 117) dX4_atom_117 rfl ?_
            refine go_dup (pc := 118) dX4_atom_118 rfl ?_
            refine go_getf (pc := 119) f_X4_28 dX4_atom_119 (by exact r0) (by rfl) ?_
            refine go_iconst (v := 1) (pc := 122) dX4_atom_122 (by decide) ?_
            refine go_iadd (pc := 123) dX4_atom_123 ?_
            refine go_putf (fs' := [_, _, _, _, _, _, _, _, _, _, _, _]) (pc := 124) f_X4_28 dX4_atom_124 (by exact r0) (Nat.le_of_ble_eq_true rfl) (by rfl) rfl rfl ?_
            refine go_set (P := fun x_q => CrAt Γ x_q a N b_q (nI (w + 3)) (nextP (emitP (100 + c9_q) s)) ∧ ∀ q, q ≠ a + 71 → q ≠ a + 80 → x_q q = z0 q) ⟨hop (by rw [emitP_b]; exact hb_q), fun q h1_q h2_q => sup_ne h1_q (hq_q q h1_q h2_q)⟩ (fun σ hx_q => ?_)
            obtain ⟨hC, hq_q⟩ := hx_q
            obtain ⟨tk, t_q, sz, pl, r0⟩ := hC.r0
            exact go_vretV (pc := 127) rfl dX4_atom_127 (Nat.le_of_ble_eq_true rfl) (Nat.le_of_ble_eq_true rfl) (by rw [pP_9n hb_q hc9, ← nx_em hb_q]; exact ⟨rfl, hC, hq_q⟩)
  · refine go_aload_n (pc := 0) dX4_atom_0 rfl ?_
    refine go_V0I (pc := 1) v_X4_82 rfl rfl (rcv_of (ci := 4) (by exact r0) rfl) dX4_atom_1 (cp_kindT (k := k - 1) hC) (fun v_1 σ n h_q => ?_)
    obtain ⟨e1_q, e2_q, hkv⟩ := h_q
    obtain rfl := e1_q.symm
    obtain rfl := e2_q.symm
    refine go_istore_n (lw := [_, _, _, _]) (pc := 4) dX4_atom_4 (by decide) rfl ?_
    obtain ⟨tk, t_q, sz, pl, r0⟩ := hC.r0
    refine go_aload_n (pc := 5) dX4_atom_5 rfl ?_
    refine go_getf (pc := 6) f_X4_37 dX4_atom_6 (by exact r0) (by rfl) ?_
    refine go_if_eq (tgt := 13) (pc := 9) dX4_atom_9 (by decide) (fun h_9 => by exfalso; exact hb_q h_9) (fun h_9 => ?_)
    exact go_vretV (pc := 12) rfl dX4_atom_12 (Nat.le_of_ble_eq_true rfl) (Nat.le_of_ble_eq_true rfl) (by rw [pP_9b hb_q]; exact ⟨rfl, hC, hq_q⟩)
theorem cls_4 {Γ : gam} {a N b_q w d_q : Nat} {s : ps} (hw_q : 4 ≤ w ∧ w ≤ 6) (hd_q : d_q ≤ 6) (h5_q : ∀ s' : ps, s'.l.length ≤ s.l.length → ClsOK Γ a N b_q w 5 d_q s') (h4_q : d_q ≠ 6 → (nextP s).l.length < s.l.length → ClsOK Γ a N b_q w 4 (d_q + 1) (nextP s)) (h0_q : d_q ≠ 6 → (nextP s).l.length < s.l.length → ClsOK Γ a N b_q w 0 (d_q + 1) (nextP s)) : ClsOK Γ a N b_q w 4 d_q s := by
  intro z0 n k hC ht_q hv0 hk
  have hq_q : ∀ q, q ≠ a + 71 → q ≠ a + 80 → z0 q = z0 q := fun _ _ _ => rfl
  have r0_ : rk 0 = 6 := rfl
  have r4_ : rk 4 = 4 := rfl
  have r5_ : rk 5 = 3 := rfl
  have r9_ : rk 9 = 1 := rfl
  have hst := st_tot ht_q
  obtain ⟨tk, t_q, sz, pl, r0⟩ := hC.r0
  show Sp Γ (rmk k 0 0) uX4_unit [.ref (a + 71), .int (nI d_q)] z0 n (qV fun σ' n' => n' = n ∧ CrAt Γ σ' a N b_q (nI (w + 3)) (pP N w 4 d_q s) ∧ ∀ q, q ≠ a + 71 → q ≠ a + 80 → σ' q = z0 q)
  refine sp_intro [some (.ref (a + 71)), some (.int (nI d_q)), none, none] (by decide +kernel) rfl (Nat.le_of_ble_eq_true rfl) rfl ?_
  by_cases hb_q : s.bad = 0
  · by_cases k15 : kd s.l = 15
    · by_cases h6_q : d_q = 6
      · refine go_aload_n (pc := 0) dX4_unit_0 rfl ?_
        refine go_V0I (pc := 1) v_X4_82 rfl rfl (rcv_of (ci := 4) (by exact r0) rfl) dX4_unit_1 (cp_kindT (k := k - 1) hC) (fun v_1 σ n h_q => ?_)
        obtain ⟨e1_q, e2_q, hkv⟩ := h_q
        obtain rfl := e1_q.symm
        obtain rfl := e2_q.symm
        obtain rfl := hkv hb_q
        refine go_istore_n (lw := [_, _, _, _]) (pc := 4) dX4_unit_4 (by decide) rfl ?_
        obtain ⟨tk, t_q, sz, pl, r0⟩ := hC.r0
        refine go_aload_n (pc := 5) dX4_unit_5 rfl ?_
        refine go_getf (pc := 6) f_X4_37 dX4_unit_6 (by exact r0) (by rfl) ?_
        refine go_if_eq (tgt := 13) (pc := 9) dX4_unit_9 (by decide) (fun h_9 => ?_) (fun h_9 => by exfalso; exact h_9 hb_q)
        refine go_iload_n (pc := 13) dX4_unit_13 rfl ?_
        refine go_bipush (v := 6) (pc := 14) dX4_unit_14 (by decide) ?_
        refine go_icmp_lt (tgt := 39) (pc := 16) dX4_unit_16 (by decide) (fun h_16 => by exfalso; exact absurd h_16 (by rw [h6_q]; decide)) (fun h_16 => ?_)
        refine go_iload_n (pc := 19) dX4_unit_19 rfl ?_
        refine go_bipush (v := 15) (pc := 20) dX4_unit_20 (by decide) ?_
        refine go_icmp_eq (tgt := 31) (pc := 22) dX4_unit_22 (by decide) (fun h_22 => ?_) (fun h_22 => by exfalso; exact h_22 (k15))
        refine go_aload_n (pc := 31) dX4_unit_31 rfl ?_
        refine go_iconst (v := 4) (pc := 32) dX4_unit_32 (by decide) ?_
        refine go_V1V (pc := 33) v_X4_152 rfl rfl (rcv_of (ci := 4) (by exact r0) rfl) dX4_unit_33 (cp_failT (k := k - 1) hC (c_q := 4) (by decide)) (fun σ n h_q => ?_)
        obtain ⟨rfl, hC, hq1⟩ := h_q
        have hq_q : ∀ q, q ≠ a + 71 → q ≠ a + 80 → σ q = z0 q := fun q h1_q h2_q => (hq1 q h1_q h2_q).trans (hq_q q h1_q h2_q)
        obtain ⟨tk, t_q, sz, pl, r0⟩ := hC.r0
        refine go_goto (tgt := 180) (pc := 36) dX4_unit_36 (by decide) ?_
        exact go_vretV (pc := 180) rfl dX4_unit_180 (Nat.le_of_ble_eq_true rfl) (Nat.le_of_ble_eq_true rfl) (by rw [pP_4n hb_q k15, if_pos h6_q]; exact ⟨rfl, hC, hq_q⟩)
      · have n1 := nx_lt k15 (by decide)
        have n2 := tot_ne k15 (by decide)
        refine go_aload_n (pc := 0) dX4_unit_0 rfl ?_
        refine go_V0I (pc := 1) v_X4_82 rfl rfl (rcv_of (ci := 4) (by exact r0) rfl) dX4_unit_1 (cp_kindT (k := k - 1) hC) (fun v_1 σ n h_q => ?_)
        obtain ⟨e1_q, e2_q, hkv⟩ := h_q
        obtain rfl := e1_q.symm
        obtain rfl := e2_q.symm
        obtain rfl := hkv hb_q
        refine go_istore_n (lw := [_, _, _, _]) (pc := 4) dX4_unit_4 (by decide) rfl ?_
        obtain ⟨tk, t_q, sz, pl, r0⟩ := hC.r0
        refine go_aload_n (pc := 5) dX4_unit_5 rfl ?_
        refine go_getf (pc := 6) f_X4_37 dX4_unit_6 (by exact r0) (by rfl) ?_
        refine go_if_eq (tgt := 13) (pc := 9) dX4_unit_9 (by decide) (fun h_9 => ?_) (fun h_9 => by exfalso; exact h_9 hb_q)
        refine go_iload_n (pc := 13) dX4_unit_13 rfl ?_
        refine go_bipush (v := 6) (pc := 14) dX4_unit_14 (by decide) ?_
        refine go_icmp_lt (tgt := 39) (pc := 16) dX4_unit_16 (by decide) (fun h_16 => ?_) (fun h_16 => by exfalso; exact h_16 (nI_lt (b := 6) (by omega) (by decide)))
        refine go_iload_n (pc := 39) dX4_unit_39 rfl ?_
        refine go_bipush (v := 15) (pc := 40) dX4_unit_40 (by decide) ?_
        refine go_icmp_ne (tgt := 71) (pc := 42) dX4_unit_42 (by decide) (fun h_42 => by exfalso; exact h_42 (k15)) (fun h_42 => ?_)
        obtain ⟨tk, t_q, sz, pl, r0, hop, hop2⟩ := hC.op (fun _ => kd_ne k15 (by decide))
        refine go_aload_n (pc := 45) dX4_unit_45 rfl ?_
        refine go_dup (pc := 46) dX4_unit_46 rfl ?_
        refine go_getf (pc := 47) f_X4_28 dX4_unit_47 (by exact r0) (by rfl) ?_
        refine go_iconst (v := 1) (pc := 50) dX4_unit_50 (by decide) ?_
        refine go_iadd (pc := 51) dX4_unit_51 ?_
        refine go_putf (fs' := [_, _, _, _, _, _, _, _, _, _, _, _]) (pc := 52) f_X4_28 dX4_unit_52 (by exact r0) (Nat.le_of_ble_eq_true rfl) (by rfl) rfl rfl ?_
        refine go_set (P := fun x_q => CrAt Γ x_q a N b_q (nI (w + 3)) (nextP (s)) ∧ ∀ q, q ≠ a + 71 → q ≠ a + 80 → x_q q = z0 q) ⟨hop hb_q, fun q h1_q h2_q => sup_ne h1_q (hq_q q h1_q h2_q)⟩ (fun σ hx_q => ?_)
        obtain ⟨hC, hq_q⟩ := hx_q
        obtain ⟨tk, t_q, sz, pl, r0⟩ := hC.r0
        refine go_aload_n (pc := 55) dX4_unit_55 rfl ?_
        refine go_iload_n (pc := 56) dX4_unit_56 rfl ?_
        refine go_iconst (v := 1) (pc := 57) dX4_unit_57 (by decide) ?_
        refine go_iadd (pc := 58) dX4_unit_58 ?_
        rw [nI_1]
        refine go_V1V (pc := 59) v_X4_215 rfl rfl (rcv_of (ci := 4) (by exact r0) rfl) dX4_unit_59 (h4_q h6_q (by omega) _ _ (k - 1) hC (by omega) hv0.nx (by omega)) (fun σ n h_q => ?_)
        obtain ⟨rfl, hC, hq1⟩ := h_q
        have hq_q : ∀ q, q ≠ a + 71 → q ≠ a + 80 → σ q = z0 q := fun q h1_q h2_q => (hq1 q h1_q h2_q).trans (hq_q q h1_q h2_q)
        obtain ⟨tk, t_q, sz, pl, r0⟩ := hC.r0
        refine go_aload_n (pc := 62) dX4_unit_62 rfl ?_
        refine go_bipush (v := -6) (pc := 63) dX4_unit_63 (by decide) ?_
        refine go_V1V (pc := 65) v_X4_218 rfl rfl (rcv_of (ci := 4) (by exact r0) rfl) dX4_unit_65 (cp_emitT (k := k - 1) hC (c2 := 18) (by decide) (by have n3 := pP_tot (N := N) (w := w) (d := d_q + 1) (s := nextP s) (t := 4) (by omega); have n4 := st_tot n3; omega)) (fun σ n h_q => ?_)
        obtain ⟨rfl, hC, hq1⟩ := h_q
        have hq_q : ∀ q, q ≠ a + 71 → q ≠ a + 80 → σ q = z0 q := fun q h1_q h2_q => (hq1 q h1_q h2_q).trans (hq_q q h1_q h2_q)
        obtain ⟨tk, t_q, sz, pl, r0⟩ := hC.r0
        refine go_goto (tgt := 180) (pc := 68) dX4_unit_68 (by decide) ?_
        exact go_vretV (pc := 180) rfl dX4_unit_180 (Nat.le_of_ble_eq_true rfl) (Nat.le_of_ble_eq_true rfl) (by rw [pP_4n hb_q k15, if_neg h6_q]; exact ⟨rfl, hC, hq_q⟩)
    · by_cases k91 : kd s.l = 91
      · by_cases h6_q : d_q = 6
        · refine go_aload_n (pc := 0) dX4_unit_0 rfl ?_
          refine go_V0I (pc := 1) v_X4_82 rfl rfl (rcv_of (ci := 4) (by exact r0) rfl) dX4_unit_1 (cp_kindT (k := k - 1) hC) (fun v_1 σ n h_q => ?_)
          obtain ⟨e1_q, e2_q, hkv⟩ := h_q
          obtain rfl := e1_q.symm
          obtain rfl := e2_q.symm
          obtain rfl := hkv hb_q
          refine go_istore_n (lw := [_, _, _, _]) (pc := 4) dX4_unit_4 (by decide) rfl ?_
          obtain ⟨tk, t_q, sz, pl, r0⟩ := hC.r0
          refine go_aload_n (pc := 5) dX4_unit_5 rfl ?_
          refine go_getf (pc := 6) f_X4_37 dX4_unit_6 (by exact r0) (by rfl) ?_
          refine go_if_eq (tgt := 13) (pc := 9) dX4_unit_9 (by decide) (fun h_9 => ?_) (fun h_9 => by exfalso; exact h_9 hb_q)
          refine go_iload_n (pc := 13) dX4_unit_13 rfl ?_
          refine go_bipush (v := 6) (pc := 14) dX4_unit_14 (by decide) ?_
          refine go_icmp_lt (tgt := 39) (pc := 16) dX4_unit_16 (by decide) (fun h_16 => by exfalso; exact absurd h_16 (by rw [h6_q]; decide)) (fun h_16 => ?_)
          refine go_iload_n (pc := 19) dX4_unit_19 rfl ?_
          refine go_bipush (v := 15) (pc := 20) dX4_unit_20 (by decide) ?_
          refine go_icmp_eq (tgt := 31) (pc := 22) dX4_unit_22 (by decide) (fun h_22 => by exfalso; exact absurd h_22 (k15)) (fun h_22 => ?_)
          refine go_iload_n (pc := 25) dX4_unit_25 rfl ?_
          refine go_bipush (v := 91) (pc := 26) dX4_unit_26 (by decide) ?_
          refine go_icmp_ne (tgt := 39) (pc := 28) dX4_unit_28 (by decide) (fun h_28 => by exfalso; exact h_28 (k91)) (fun h_28 => ?_)
          refine go_aload_n (pc := 31) dX4_unit_31 rfl ?_
          refine go_iconst (v := 4) (pc := 32) dX4_unit_32 (by decide) ?_
          refine go_V1V (pc := 33) v_X4_152 rfl rfl (rcv_of (ci := 4) (by exact r0) rfl) dX4_unit_33 (cp_failT (k := k - 1) hC (c_q := 4) (by decide)) (fun σ n h_q => ?_)
          obtain ⟨rfl, hC, hq1⟩ := h_q
          have hq_q : ∀ q, q ≠ a + 71 → q ≠ a + 80 → σ q = z0 q := fun q h1_q h2_q => (hq1 q h1_q h2_q).trans (hq_q q h1_q h2_q)
          obtain ⟨tk, t_q, sz, pl, r0⟩ := hC.r0
          refine go_goto (tgt := 180) (pc := 36) dX4_unit_36 (by decide) ?_
          exact go_vretV (pc := 180) rfl dX4_unit_180 (Nat.le_of_ble_eq_true rfl) (Nat.le_of_ble_eq_true rfl) (by rw [pP_4t hb_q k91, if_pos h6_q]; exact ⟨rfl, hC, hq_q⟩)
        · have n1 := nx_lt k91 (by decide)
          have n2 := tot_ne k91 (by decide)
          refine go_aload_n (pc := 0) dX4_unit_0 rfl ?_
          refine go_V0I (pc := 1) v_X4_82 rfl rfl (rcv_of (ci := 4) (by exact r0) rfl) dX4_unit_1 (cp_kindT (k := k - 1) hC) (fun v_1 σ n h_q => ?_)
          obtain ⟨e1_q, e2_q, hkv⟩ := h_q
          obtain rfl := e1_q.symm
          obtain rfl := e2_q.symm
          obtain rfl := hkv hb_q
          refine go_istore_n (lw := [_, _, _, _]) (pc := 4) dX4_unit_4 (by decide) rfl ?_
          obtain ⟨tk, t_q, sz, pl, r0⟩ := hC.r0
          refine go_aload_n (pc := 5) dX4_unit_5 rfl ?_
          refine go_getf (pc := 6) f_X4_37 dX4_unit_6 (by exact r0) (by rfl) ?_
          refine go_if_eq (tgt := 13) (pc := 9) dX4_unit_9 (by decide) (fun h_9 => ?_) (fun h_9 => by exfalso; exact h_9 hb_q)
          refine go_iload_n (pc := 13) dX4_unit_13 rfl ?_
          refine go_bipush (v := 6) (pc := 14) dX4_unit_14 (by decide) ?_
          refine go_icmp_lt (tgt := 39) (pc := 16) dX4_unit_16 (by decide) (fun h_16 => ?_) (fun h_16 => by exfalso; exact h_16 (nI_lt (b := 6) (by omega) (by decide)))
          refine go_iload_n (pc := 39) dX4_unit_39 rfl ?_
          refine go_bipush (v := 15) (pc := 40) dX4_unit_40 (by decide) ?_
          refine go_icmp_ne (tgt := 71) (pc := 42) dX4_unit_42 (by decide) (fun h_42 => ?_) (fun h_42 => by exfalso; exact absurd h_42 (k15))
          refine go_iload_n (pc := 71) dX4_unit_71 rfl ?_
          refine go_bipush (v := 91) (pc := 72) dX4_unit_72 (by decide) ?_
          refine go_icmp_ne (tgt := 103) (pc := 74) dX4_unit_74 (by decide) (fun h_74 => by exfalso; exact h_74 (k91)) (fun h_74 => ?_)
          obtain ⟨tk, t_q, sz, pl, r0, hop, hop2⟩ := hC.op (fun _ => kd_ne k91 (by decide))
          refine go_aload_n (pc := 77) dX4_unit_77 rfl ?_
          refine go_dup (pc := 78) dX4_unit_78 rfl ?_
          refine go_getf (pc := 79) f_X4_28 dX4_unit_79 (by exact r0) (by rfl) ?_
          refine go_iconst (v := 1) (pc := 82) dX4_unit_82 (by decide) ?_
          refine go_iadd (pc := 83) dX4_unit_83 ?_
          refine go_putf (fs' := [_, _, _, _, _, _, _, _, _, _, _, _]) (pc := 84) f_X4_28 dX4_unit_84 (by exact r0) (Nat.le_of_ble_eq_true rfl) (by rfl) rfl rfl ?_
          refine go_set (P := fun x_q => CrAt Γ x_q a N b_q (nI (w + 3)) (nextP (s)) ∧ ∀ q, q ≠ a + 71 → q ≠ a + 80 → x_q q = z0 q) ⟨hop hb_q, fun q h1_q h2_q => sup_ne h1_q (hq_q q h1_q h2_q)⟩ (fun σ hx_q => ?_)
          obtain ⟨hC, hq_q⟩ := hx_q
          obtain ⟨tk, t_q, sz, pl, r0⟩ := hC.r0
          refine go_aload_n (pc := 87) dX4_unit_87 rfl ?_
          refine go_iload_n (pc := 88) dX4_unit_88 rfl ?_
          refine go_iconst (v := 1) (pc := 89) dX4_unit_89 (by decide) ?_
          refine go_iadd (pc := 90) dX4_unit_90 ?_
          rw [nI_1]
          refine go_V1V (pc := 91) v_X4_160 rfl rfl (rcv_of (ci := 4) (by exact r0) rfl) dX4_unit_91 (h0_q h6_q (by omega) _ _ (k - 1) hC (by omega) hv0.nx (by omega)) (fun σ n h_q => ?_)
          obtain ⟨rfl, hC, hq1⟩ := h_q
          have hq_q : ∀ q, q ≠ a + 71 → q ≠ a + 80 → σ q = z0 q := fun q h1_q h2_q => (hq1 q h1_q h2_q).trans (hq_q q h1_q h2_q)
          obtain ⟨tk, t_q, sz, pl, r0⟩ := hC.r0
          refine go_aload_n (pc := 94) dX4_unit_94 rfl ?_
          refine go_bipush (v := 93) (pc := 95) dX4_unit_95 (by decide) ?_
          refine go_V1V (pc := 97) v_X4_65 rfl rfl (rcv_of (ci := 4) (by exact r0) rfl) dX4_unit_97 (cp_needT (k := k - 1) hC (c_q := 93) (by decide) (by omega)) (fun σ n h_q => ?_)
          obtain ⟨rfl, hC, hq1⟩ := h_q
          have hq_q : ∀ q, q ≠ a + 71 → q ≠ a + 80 → σ q = z0 q := fun q h1_q h2_q => (hq1 q h1_q h2_q).trans (hq_q q h1_q h2_q)
          obtain ⟨tk, t_q, sz, pl, r0⟩ := hC.r0
          refine go_goto (tgt := 180) (pc := 100) dX4_unit_100 (by decide) ?_
          exact go_vretV (pc := 180) rfl dX4_unit_180 (Nat.le_of_ble_eq_true rfl) (Nat.le_of_ble_eq_true rfl) (by rw [pP_4t hb_q k91, if_neg h6_q]; exact ⟨rfl, hC, hq_q⟩)
      · refine go_aload_n (pc := 0) dX4_unit_0 rfl ?_
        refine go_V0I (pc := 1) v_X4_82 rfl rfl (rcv_of (ci := 4) (by exact r0) rfl) dX4_unit_1 (cp_kindT (k := k - 1) hC) (fun v_1 σ n h_q => ?_)
        obtain ⟨e1_q, e2_q, hkv⟩ := h_q
        obtain rfl := e1_q.symm
        obtain rfl := e2_q.symm
        obtain rfl := hkv hb_q
        refine go_istore_n (lw := [_, _, _, _]) (pc := 4) dX4_unit_4 (by decide) rfl ?_
        obtain ⟨tk, t_q, sz, pl, r0⟩ := hC.r0
        refine go_aload_n (pc := 5) dX4_unit_5 rfl ?_
        refine go_getf (pc := 6) f_X4_37 dX4_unit_6 (by exact r0) (by rfl) ?_
        refine go_if_eq (tgt := 13) (pc := 9) dX4_unit_9 (by decide) (fun h_9 => ?_) (fun h_9 => by exfalso; exact h_9 hb_q)
        refine go_iload_n (pc := 13) dX4_unit_13 rfl ?_
        refine go_bipush (v := 6) (pc := 14) dX4_unit_14 (by decide) ?_
        refine go_icmp_lt (tgt := 39) (pc := 16) dX4_unit_16 (by decide) (fun h_16 => ?_) (fun h_16 => ?_)
        · refine go_iload_n (pc := 39) dX4_unit_39 rfl ?_
          refine go_bipush (v := 15) (pc := 40) dX4_unit_40 (by decide) ?_
          refine go_icmp_ne (tgt := 71) (pc := 42) dX4_unit_42 (by decide) (fun h_42 => ?_) (fun h_42 => by exfalso; exact absurd h_42 (k15))
          refine go_iload_n (pc := 71) dX4_unit_71 rfl ?_
          refine go_bipush (v := 91) (pc := 72) dX4_unit_72 (by decide) ?_
          refine go_icmp_ne (tgt := 103) (pc := 74) dX4_unit_74 (by decide) (fun h_74 => ?_) (fun h_74 => by exfalso; exact absurd h_74 (k91))
          refine go_aload_n (pc := 103) dX4_unit_103 rfl ?_
          refine go_iload_n (pc := 104) dX4_unit_104 rfl ?_
          refine go_V1V (pc := 105) v_X4_163 rfl rfl (rcv_of (ci := 4) (by exact r0) rfl) dX4_unit_105 (h5_q s (Nat.le_refl _) _ _ (k - 1) hC ht_q hv0 (by omega)) (fun σ n h_q => ?_)
          obtain ⟨rfl, hC, hq1⟩ := h_q
          have hq_q : ∀ q, q ≠ a + 71 → q ≠ a + 80 → σ q = z0 q := fun q h1_q h2_q => (hq1 q h1_q h2_q).trans (hq_q q h1_q h2_q)
          obtain ⟨tk, t_q, sz, pl, r0⟩ := hC.r0
          refine go_aload_n (pc := 108) dX4_unit_108 rfl ?_
          refine go_V0I (pc := 109) v_X4_82 rfl rfl (rcv_of (ci := 4) (by exact r0) rfl) dX4_unit_109 (cp_kindT (k := k - 1) hC) (fun v_109 σ n h_q => ?_)
          obtain ⟨e1_q, e2_q, hkv⟩ := h_q
          obtain rfl := e1_q.symm
          obtain rfl := e2_q.symm
          by_cases kc : v_109 = 61
          · subst kc
            have hk0 : (pP N w 5 d_q s).bad = 0 → kd (pP N w 5 d_q s).l ≠ 0 := fun e_q => by rw [← hkv e_q]; decide
            have n1 := pP_len (N := N) (w := w) (d := d_q) (s := s) (t := 5) (by omega)
            have n2 := pP_tot (N := N) (w := w) (d := d_q) (s := s) (t := 5) (by omega)
            have n3 := adv_len (s := pP N w 5 d_q s)
            have n4 := adv_tot (s := pP N w 5 d_q s)
            have n5 := pP_tot (N := N) (w := w) (d := d_q) (s := adv (pP N w 5 d_q s)) (t := 5) (by omega)
            have n6 := st_tot n5
            refine go_istore_n (lw := [_, _, _, _]) (pc := 112) dX4_unit_112 (by decide) rfl ?_
            refine go_iload_n (pc := 113) dX4_unit_113 rfl ?_
            refine go_bipush (v := 61) (pc := 114) dX4_unit_114 (by decide) ?_
            refine go_icmp_eq (tgt := 137) (pc := 116) dX4_unit_116 (by decide) (fun h_116 => ?_) (fun h_116 => by exfalso; exact h_116 (rfl))
            obtain ⟨tk, t_q, sz, pl, r0, hop, hop2⟩ := hC.op (fun e_q => kd_ne rfl (hk0 e_q))
            refine go_aload_n (pc := 137) dX4_unit_137 rfl ?_
            refine go_dup (pc := 138) dX4_unit_138 rfl ?_
            refine go_getf (pc := 139) f_X4_28 dX4_unit_139 (by exact r0) (by rfl) ?_
            refine go_iconst (v := 1) (pc := 142) dX4_unit_142 (by decide) ?_
            refine go_iadd (pc := 143) dX4_unit_143 ?_
            refine go_putf (fs' := [_, _, _, _, _, _, _, _, _, _, _, _]) (pc := 144) f_X4_28 dX4_unit_144 (by exact r0) (Nat.le_of_ble_eq_true rfl) (by rfl) rfl rfl ?_
            refine go_set (P := fun x_q => CrAt Γ x_q a N b_q (nI (w + 3)) (adv (pP N w 5 d_q s)) ∧ ∀ q, q ≠ a + 71 → q ≠ a + 80 → x_q q = z0 q) ⟨(adv_c (P := CrAt Γ _ a N b_q (nI (w + 3))) hop hop2), fun q h1_q h2_q => sup_ne h1_q (hq_q q h1_q h2_q)⟩ (fun σ hx_q => ?_)
            obtain ⟨hC, hq_q⟩ := hx_q
            obtain ⟨tk, t_q, sz, pl, r0⟩ := hC.r0
            refine go_aload_n (pc := 147) dX4_unit_147 rfl ?_
            refine go_iload_n (pc := 148) dX4_unit_148 rfl ?_
            refine go_V1V (pc := 149) v_X4_163 rfl rfl (rcv_of (ci := 4) (by exact r0) rfl) dX4_unit_149 (h5_q (adv (pP N w 5 d_q s)) (by omega) _ _ (k - 1) hC (by omega) (hv0.pP (by omega)).av (by omega)) (fun σ n h_q => ?_)
            obtain ⟨rfl, hC, hq1⟩ := h_q
            have hq_q : ∀ q, q ≠ a + 71 → q ≠ a + 80 → σ q = z0 q := fun q h1_q h2_q => (hq1 q h1_q h2_q).trans (hq_q q h1_q h2_q)
            obtain ⟨tk, t_q, sz, pl, r0⟩ := hC.r0
            refine go_aload_n (pc := 152) dX4_unit_152 rfl ?_
            refine go_iload_n (pc := 153) dX4_unit_153 rfl ?_
            refine go_bipush (v := 61) (pc := 154) dX4_unit_154 (by decide) ?_
            refine go_icmp_ne (tgt := 164) (pc := 156) dX4_unit_156 (by decide) (fun h_156 => by exfalso; exact h_156 (rfl)) (fun h_156 => ?_)
            refine go_bipush (v := -9) (pc := 159) dX4_unit_159 (by decide) ?_
            refine go_goto (tgt := 177) (pc := 161) dX4_unit_161 (by decide) ?_
            refine go_V1V (pc := 177) v_X4_218 rfl rfl (rcv_of (ci := 4) (by exact r0) rfl) dX4_unit_177 (cp_emitT (k := k - 1) hC (c2 := 13) (by decide) (by omega)) (fun σ n h_q => ?_)
            obtain ⟨rfl, hC, hq1⟩ := h_q
            have hq_q : ∀ q, q ≠ a + 71 → q ≠ a + 80 → σ q = z0 q := fun q h1_q h2_q => (hq1 q h1_q h2_q).trans (hq_q q h1_q h2_q)
            obtain ⟨tk, t_q, sz, pl, r0⟩ := hC.r0
            exact go_vretV (pc := 180) rfl dX4_unit_180 (Nat.le_of_ble_eq_true rfl) (Nat.le_of_ble_eq_true rfl) (by rw [uf_some (c_q := 13) hb_q k15 k91 (by decide) hkv]; exact ⟨rfl, hC, hq_q⟩)
          · have kn61 := kc
            by_cases kc : v_109 = 60
            · subst kc
              have hk0 : (pP N w 5 d_q s).bad = 0 → kd (pP N w 5 d_q s).l ≠ 0 := fun e_q => by rw [← hkv e_q]; decide
              have n1 := pP_len (N := N) (w := w) (d := d_q) (s := s) (t := 5) (by omega)
              have n2 := pP_tot (N := N) (w := w) (d := d_q) (s := s) (t := 5) (by omega)
              have n3 := adv_len (s := pP N w 5 d_q s)
              have n4 := adv_tot (s := pP N w 5 d_q s)
              have n5 := pP_tot (N := N) (w := w) (d := d_q) (s := adv (pP N w 5 d_q s)) (t := 5) (by omega)
              have n6 := st_tot n5
              refine go_istore_n (lw := [_, _, _, _]) (pc := 112) dX4_unit_112 (by decide) rfl ?_
              refine go_iload_n (pc := 113) dX4_unit_113 rfl ?_
              refine go_bipush (v := 61) (pc := 114) dX4_unit_114 (by decide) ?_
              refine go_icmp_eq (tgt := 137) (pc := 116) dX4_unit_116 (by decide) (fun h_116 => by exfalso; exact absurd h_116 (by decide)) (fun h_116 => ?_)
              refine go_iload_n (pc := 119) dX4_unit_119 rfl ?_
              refine go_bipush (v := 60) (pc := 120) dX4_unit_120 (by decide) ?_
              refine go_icmp_eq (tgt := 137) (pc := 122) dX4_unit_122 (by decide) (fun h_122 => ?_) (fun h_122 => by exfalso; exact h_122 (rfl))
              obtain ⟨tk, t_q, sz, pl, r0, hop, hop2⟩ := hC.op (fun e_q => kd_ne rfl (hk0 e_q))
              refine go_aload_n (pc := 137) dX4_unit_137 rfl ?_
              refine go_dup (pc := 138) dX4_unit_138 rfl ?_
              refine go_getf (pc := 139) f_X4_28 dX4_unit_139 (by exact r0) (by rfl) ?_
              refine go_iconst (v := 1) (pc := 142) dX4_unit_142 (by decide) ?_
              refine go_iadd (pc := 143) dX4_unit_143 ?_
              refine go_putf (fs' := [_, _, _, _, _, _, _, _, _, _, _, _]) (pc := 144) f_X4_28 dX4_unit_144 (by exact r0) (Nat.le_of_ble_eq_true rfl) (by rfl) rfl rfl ?_
              refine go_set (P := fun x_q => CrAt Γ x_q a N b_q (nI (w + 3)) (adv (pP N w 5 d_q s)) ∧ ∀ q, q ≠ a + 71 → q ≠ a + 80 → x_q q = z0 q) ⟨(adv_c (P := CrAt Γ _ a N b_q (nI (w + 3))) hop hop2), fun q h1_q h2_q => sup_ne h1_q (hq_q q h1_q h2_q)⟩ (fun σ hx_q => ?_)
              obtain ⟨hC, hq_q⟩ := hx_q
              obtain ⟨tk, t_q, sz, pl, r0⟩ := hC.r0
              refine go_aload_n (pc := 147) dX4_unit_147 rfl ?_
              refine go_iload_n (pc := 148) dX4_unit_148 rfl ?_
              refine go_V1V (pc := 149) v_X4_163 rfl rfl (rcv_of (ci := 4) (by exact r0) rfl) dX4_unit_149 (h5_q (adv (pP N w 5 d_q s)) (by omega) _ _ (k - 1) hC (by omega) (hv0.pP (by omega)).av (by omega)) (fun σ n h_q => ?_)
              obtain ⟨rfl, hC, hq1⟩ := h_q
              have hq_q : ∀ q, q ≠ a + 71 → q ≠ a + 80 → σ q = z0 q := fun q h1_q h2_q => (hq1 q h1_q h2_q).trans (hq_q q h1_q h2_q)
              obtain ⟨tk, t_q, sz, pl, r0⟩ := hC.r0
              refine go_aload_n (pc := 152) dX4_unit_152 rfl ?_
              refine go_iload_n (pc := 153) dX4_unit_153 rfl ?_
              refine go_bipush (v := 61) (pc := 154) dX4_unit_154 (by decide) ?_
              refine go_icmp_ne (tgt := 164) (pc := 156) dX4_unit_156 (by decide) (fun h_156 => ?_) (fun h_156 => by exfalso; exact absurd h_156 (by decide))
              refine go_iload_n (pc := 164) dX4_unit_164 rfl ?_
              refine go_bipush (v := 60) (pc := 165) dX4_unit_165 (by decide) ?_
              refine go_icmp_ne (tgt := 175) (pc := 167) dX4_unit_167 (by decide) (fun h_167 => by exfalso; exact h_167 (rfl)) (fun h_167 => ?_)
              refine go_bipush (v := -10) (pc := 170) dX4_unit_170 (by decide) ?_
              refine go_goto (tgt := 177) (pc := 172) dX4_unit_172 (by decide) ?_
              refine go_V1V (pc := 177) v_X4_218 rfl rfl (rcv_of (ci := 4) (by exact r0) rfl) dX4_unit_177 (cp_emitT (k := k - 1) hC (c2 := 14) (by decide) (by omega)) (fun σ n h_q => ?_)
              obtain ⟨rfl, hC, hq1⟩ := h_q
              have hq_q : ∀ q, q ≠ a + 71 → q ≠ a + 80 → σ q = z0 q := fun q h1_q h2_q => (hq1 q h1_q h2_q).trans (hq_q q h1_q h2_q)
              obtain ⟨tk, t_q, sz, pl, r0⟩ := hC.r0
              exact go_vretV (pc := 180) rfl dX4_unit_180 (Nat.le_of_ble_eq_true rfl) (Nat.le_of_ble_eq_true rfl) (by rw [uf_some (c_q := 14) hb_q k15 k91 (by decide) hkv]; exact ⟨rfl, hC, hq_q⟩)
            · have kn60 := kc
              by_cases kc : v_109 = 62
              · subst kc
                have hk0 : (pP N w 5 d_q s).bad = 0 → kd (pP N w 5 d_q s).l ≠ 0 := fun e_q => by rw [← hkv e_q]; decide
                have n1 := pP_len (N := N) (w := w) (d := d_q) (s := s) (t := 5) (by omega)
                have n2 := pP_tot (N := N) (w := w) (d := d_q) (s := s) (t := 5) (by omega)
                have n3 := adv_len (s := pP N w 5 d_q s)
                have n4 := adv_tot (s := pP N w 5 d_q s)
                have n5 := pP_tot (N := N) (w := w) (d := d_q) (s := adv (pP N w 5 d_q s)) (t := 5) (by omega)
                have n6 := st_tot n5
                refine go_istore_n (lw := [_, _, _, _]) (pc := 112) dX4_unit_112 (by decide) rfl ?_
                refine go_iload_n (pc := 113) dX4_unit_113 rfl ?_
                refine go_bipush (v := 61) (pc := 114) dX4_unit_114 (by decide) ?_
                refine go_icmp_eq (tgt := 137) (pc := 116) dX4_unit_116 (by decide) (fun h_116 => by exfalso; exact absurd h_116 (by decide)) (fun h_116 => ?_)
                refine go_iload_n (pc := 119) dX4_unit_119 rfl ?_
                refine go_bipush (v := 60) (pc := 120) dX4_unit_120 (by decide) ?_
                refine go_icmp_eq (tgt := 137) (pc := 122) dX4_unit_122 (by decide) (fun h_122 => by exfalso; exact absurd h_122 (by decide)) (fun h_122 => ?_)
                refine go_iload_n (pc := 125) dX4_unit_125 rfl ?_
                refine go_bipush (v := 62) (pc := 126) dX4_unit_126 (by decide) ?_
                refine go_icmp_eq (tgt := 137) (pc := 128) dX4_unit_128 (by decide) (fun h_128 => ?_) (fun h_128 => by exfalso; exact h_128 (rfl))
                obtain ⟨tk, t_q, sz, pl, r0, hop, hop2⟩ := hC.op (fun e_q => kd_ne rfl (hk0 e_q))
                refine go_aload_n (pc := 137) dX4_unit_137 rfl ?_
                refine go_dup (pc := 138) dX4_unit_138 rfl ?_
                refine go_getf (pc := 139) f_X4_28 dX4_unit_139 (by exact r0) (by rfl) ?_
                refine go_iconst (v := 1) (pc := 142) dX4_unit_142 (by decide) ?_
                refine go_iadd (pc := 143) dX4_unit_143 ?_
                refine go_putf (fs' := [_, _, _, _, _, _, _, _, _, _, _, _]) (pc := 144) f_X4_28 dX4_unit_144 (by exact r0) (Nat.le_of_ble_eq_true rfl) (by rfl) rfl rfl ?_
                refine go_set (P := fun x_q => CrAt Γ x_q a N b_q (nI (w + 3)) (adv (pP N w 5 d_q s)) ∧ ∀ q, q ≠ a + 71 → q ≠ a + 80 → x_q q = z0 q) ⟨(adv_c (P := CrAt Γ _ a N b_q (nI (w + 3))) hop hop2), fun q h1_q h2_q => sup_ne h1_q (hq_q q h1_q h2_q)⟩ (fun σ hx_q => ?_)
                obtain ⟨hC, hq_q⟩ := hx_q
                obtain ⟨tk, t_q, sz, pl, r0⟩ := hC.r0
                refine go_aload_n (pc := 147) dX4_unit_147 rfl ?_
                refine go_iload_n (pc := 148) dX4_unit_148 rfl ?_
                refine go_V1V (pc := 149) v_X4_163 rfl rfl (rcv_of (ci := 4) (by exact r0) rfl) dX4_unit_149 (h5_q (adv (pP N w 5 d_q s)) (by omega) _ _ (k - 1) hC (by omega) (hv0.pP (by omega)).av (by omega)) (fun σ n h_q => ?_)
                obtain ⟨rfl, hC, hq1⟩ := h_q
                have hq_q : ∀ q, q ≠ a + 71 → q ≠ a + 80 → σ q = z0 q := fun q h1_q h2_q => (hq1 q h1_q h2_q).trans (hq_q q h1_q h2_q)
                obtain ⟨tk, t_q, sz, pl, r0⟩ := hC.r0
                refine go_aload_n (pc := 152) dX4_unit_152 rfl ?_
                refine go_iload_n (pc := 153) dX4_unit_153 rfl ?_
                refine go_bipush (v := 61) (pc := 154) dX4_unit_154 (by decide) ?_
                refine go_icmp_ne (tgt := 164) (pc := 156) dX4_unit_156 (by decide) (fun h_156 => ?_) (fun h_156 => by exfalso; exact absurd h_156 (by decide))
                refine go_iload_n (pc := 164) dX4_unit_164 rfl ?_
                refine go_bipush (v := 60) (pc := 165) dX4_unit_165 (by decide) ?_
                refine go_icmp_ne (tgt := 175) (pc := 167) dX4_unit_167 (by decide) (fun h_167 => ?_) (fun h_167 => by exfalso; exact absurd h_167 (by decide))
                refine go_bipush (v := -11) (pc := 175) dX4_unit_175 (by decide) ?_
                refine go_V1V (pc := 177) v_X4_218 rfl rfl (rcv_of (ci := 4) (by exact r0) rfl) dX4_unit_177 (cp_emitT (k := k - 1) hC (c2 := 15) (by decide) (by omega)) (fun σ n h_q => ?_)
                obtain ⟨rfl, hC, hq1⟩ := h_q
                have hq_q : ∀ q, q ≠ a + 71 → q ≠ a + 80 → σ q = z0 q := fun q h1_q h2_q => (hq1 q h1_q h2_q).trans (hq_q q h1_q h2_q)
                obtain ⟨tk, t_q, sz, pl, r0⟩ := hC.r0
                exact go_vretV (pc := 180) rfl dX4_unit_180 (Nat.le_of_ble_eq_true rfl) (Nat.le_of_ble_eq_true rfl) (by rw [uf_some (c_q := 15) hb_q k15 k91 (by decide) hkv]; exact ⟨rfl, hC, hq_q⟩)
              · have kn62 := kc
                refine go_istore_n (lw := [_, _, _, _]) (pc := 112) dX4_unit_112 (by decide) rfl ?_
                refine go_iload_n (pc := 113) dX4_unit_113 rfl ?_
                refine go_bipush (v := 61) (pc := 114) dX4_unit_114 (by decide) ?_
                refine go_icmp_eq (tgt := 137) (pc := 116) dX4_unit_116 (by decide) (fun h_116 => by exfalso; exact absurd h_116 (kn61)) (fun h_116 => ?_)
                refine go_iload_n (pc := 119) dX4_unit_119 rfl ?_
                refine go_bipush (v := 60) (pc := 120) dX4_unit_120 (by decide) ?_
                refine go_icmp_eq (tgt := 137) (pc := 122) dX4_unit_122 (by decide) (fun h_122 => by exfalso; exact absurd h_122 (kn60)) (fun h_122 => ?_)
                refine go_iload_n (pc := 125) dX4_unit_125 rfl ?_
                refine go_bipush (v := 62) (pc := 126) dX4_unit_126 (by decide) ?_
                refine go_icmp_eq (tgt := 137) (pc := 128) dX4_unit_128 (by decide) (fun h_128 => by exfalso; exact absurd h_128 (kn62)) (fun h_128 => ?_)
                refine go_aload_n (pc := 131) dX4_unit_131 rfl ?_
                refine go_iconst (v := 2) (pc := 132) dX4_unit_132 (by decide) ?_
                refine go_V1V (pc := 133) v_X4_152 rfl rfl (rcv_of (ci := 4) (by exact r0) rfl) dX4_unit_133 (cp_failT (k := k - 1) hC (c_q := 2) (by decide)) (fun σ n h_q => ?_)
                obtain ⟨rfl, hC, hq1⟩ := h_q
                have hq_q : ∀ q, q ≠ a + 71 → q ≠ a + 80 → σ q = z0 q := fun q h1_q h2_q => (hq1 q h1_q h2_q).trans (hq_q q h1_q h2_q)
                obtain ⟨tk, t_q, sz, pl, r0⟩ := hC.r0
                exact go_vretV (pc := 136) rfl dX4_unit_136 (Nat.le_of_ble_eq_true rfl) (Nat.le_of_ble_eq_true rfl) (by rw [uf_none hb_q k15 k91 (fun e_q => by rw [← hkv e_q]; exact ⟨kn61, kn60, kn62⟩)]; exact ⟨rfl, hC, hq_q⟩)
        · refine go_iload_n (pc := 19) dX4_unit_19 rfl ?_
          refine go_bipush (v := 15) (pc := 20) dX4_unit_20 (by decide) ?_
          refine go_icmp_eq (tgt := 31) (pc := 22) dX4_unit_22 (by decide) (fun h_22 => by exfalso; exact absurd h_22 (k15)) (fun h_22 => ?_)
          refine go_iload_n (pc := 25) dX4_unit_25 rfl ?_
          refine go_bipush (v := 91) (pc := 26) dX4_unit_26 (by decide) ?_
          refine go_icmp_ne (tgt := 39) (pc := 28) dX4_unit_28 (by decide) (fun h_28 => ?_) (fun h_28 => by exfalso; exact absurd h_28 (k91))
          refine go_iload_n (pc := 39) dX4_unit_39 rfl ?_
          refine go_bipush (v := 15) (pc := 40) dX4_unit_40 (by decide) ?_
          refine go_icmp_ne (tgt := 71) (pc := 42) dX4_unit_42 (by decide) (fun h_42 => ?_) (fun h_42 => by exfalso; exact absurd h_42 (k15))
          refine go_iload_n (pc := 71) dX4_unit_71 rfl ?_
          refine go_bipush (v := 91) (pc := 72) dX4_unit_72 (by decide) ?_
          refine go_icmp_ne (tgt := 103) (pc := 74) dX4_unit_74 (by decide) (fun h_74 => ?_) (fun h_74 => by exfalso; exact absurd h_74 (k91))
          refine go_aload_n (pc := 103) dX4_unit_103 rfl ?_
          refine go_iload_n (pc := 104) dX4_unit_104 rfl ?_
          refine go_V1V (pc := 105) v_X4_163 rfl rfl (rcv_of (ci := 4) (by exact r0) rfl) dX4_unit_105 (h5_q s (Nat.le_refl _) _ _ (k - 1) hC ht_q hv0 (by omega)) (fun σ n h_q => ?_)
          obtain ⟨rfl, hC, hq1⟩ := h_q
          have hq_q : ∀ q, q ≠ a + 71 → q ≠ a + 80 → σ q = z0 q := fun q h1_q h2_q => (hq1 q h1_q h2_q).trans (hq_q q h1_q h2_q)
          obtain ⟨tk, t_q, sz, pl, r0⟩ := hC.r0
          refine go_aload_n (pc := 108) dX4_unit_108 rfl ?_
          refine go_V0I (pc := 109) v_X4_82 rfl rfl (rcv_of (ci := 4) (by exact r0) rfl) dX4_unit_109 (cp_kindT (k := k - 1) hC) (fun v_109 σ n h_q => ?_)
          obtain ⟨e1_q, e2_q, hkv⟩ := h_q
          obtain rfl := e1_q.symm
          obtain rfl := e2_q.symm
          by_cases kc : v_109 = 61
          · subst kc
            have hk0 : (pP N w 5 d_q s).bad = 0 → kd (pP N w 5 d_q s).l ≠ 0 := fun e_q => by rw [← hkv e_q]; decide
            have n1 := pP_len (N := N) (w := w) (d := d_q) (s := s) (t := 5) (by omega)
            have n2 := pP_tot (N := N) (w := w) (d := d_q) (s := s) (t := 5) (by omega)
            have n3 := adv_len (s := pP N w 5 d_q s)
            have n4 := adv_tot (s := pP N w 5 d_q s)
            have n5 := pP_tot (N := N) (w := w) (d := d_q) (s := adv (pP N w 5 d_q s)) (t := 5) (by omega)
            have n6 := st_tot n5
            refine go_istore_n (lw := [_, _, _, _]) (pc := 112) dX4_unit_112 (by decide) rfl ?_
            refine go_iload_n (pc := 113) dX4_unit_113 rfl ?_
            refine go_bipush (v := 61) (pc := 114) dX4_unit_114 (by decide) ?_
            refine go_icmp_eq (tgt := 137) (pc := 116) dX4_unit_116 (by decide) (fun h_116 => ?_) (fun h_116 => by exfalso; exact h_116 (rfl))
            obtain ⟨tk, t_q, sz, pl, r0, hop, hop2⟩ := hC.op (fun e_q => kd_ne rfl (hk0 e_q))
            refine go_aload_n (pc := 137) dX4_unit_137 rfl ?_
            refine go_dup (pc := 138) dX4_unit_138 rfl ?_
            refine go_getf (pc := 139) f_X4_28 dX4_unit_139 (by exact r0) (by rfl) ?_
            refine go_iconst (v := 1) (pc := 142) dX4_unit_142 (by decide) ?_
            refine go_iadd (pc := 143) dX4_unit_143 ?_
            refine go_putf (fs' := [_, _, _, _, _, _, _, _, _, _, _, _]) (pc := 144) f_X4_28 dX4_unit_144 (by exact r0) (Nat.le_of_ble_eq_true rfl) (by rfl) rfl rfl ?_
            refine go_set (P := fun x_q => CrAt Γ x_q a N b_q (nI (w + 3)) (adv (pP N w 5 d_q s)) ∧ ∀ q, q ≠ a + 71 → q ≠ a + 80 → x_q q = z0 q) ⟨(adv_c (P := CrAt Γ _ a N b_q (nI (w + 3))) hop hop2), fun q h1_q h2_q => sup_ne h1_q (hq_q q h1_q h2_q)⟩ (fun σ hx_q => ?_)
            obtain ⟨hC, hq_q⟩ := hx_q
            obtain ⟨tk, t_q, sz, pl, r0⟩ := hC.r0
            refine go_aload_n (pc := 147) dX4_unit_147 rfl ?_
            refine go_iload_n (pc := 148) dX4_unit_148 rfl ?_
            refine go_V1V (pc := 149) v_X4_163 rfl rfl (rcv_of (ci := 4) (by exact r0) rfl) dX4_unit_149 (h5_q (adv (pP N w 5 d_q s)) (by omega) _ _ (k - 1) hC (by omega) (hv0.pP (by omega)).av (by omega)) (fun σ n h_q => ?_)
            obtain ⟨rfl, hC, hq1⟩ := h_q
            have hq_q : ∀ q, q ≠ a + 71 → q ≠ a + 80 → σ q = z0 q := fun q h1_q h2_q => (hq1 q h1_q h2_q).trans (hq_q q h1_q h2_q)
            obtain ⟨tk, t_q, sz, pl, r0⟩ := hC.r0
            refine go_aload_n (pc := 152) dX4_unit_152 rfl ?_
            refine go_iload_n (pc := 153) dX4_unit_153 rfl ?_
            refine go_bipush (v := 61) (pc := 154) dX4_unit_154 (by decide) ?_
            refine go_icmp_ne (tgt := 164) (pc := 156) dX4_unit_156 (by decide) (fun h_156 => by exfalso; exact h_156 (rfl)) (fun h_156 => ?_)
            refine go_bipush (v := -9) (pc := 159) dX4_unit_159 (by decide) ?_
            refine go_goto (tgt := 177) (pc := 161) dX4_unit_161 (by decide) ?_
            refine go_V1V (pc := 177) v_X4_218 rfl rfl (rcv_of (ci := 4) (by exact r0) rfl) dX4_unit_177 (cp_emitT (k := k - 1) hC (c2 := 13) (by decide) (by omega)) (fun σ n h_q => ?_)
            obtain ⟨rfl, hC, hq1⟩ := h_q
            have hq_q : ∀ q, q ≠ a + 71 → q ≠ a + 80 → σ q = z0 q := fun q h1_q h2_q => (hq1 q h1_q h2_q).trans (hq_q q h1_q h2_q)
            obtain ⟨tk, t_q, sz, pl, r0⟩ := hC.r0
            exact go_vretV (pc := 180) rfl dX4_unit_180 (Nat.le_of_ble_eq_true rfl) (Nat.le_of_ble_eq_true rfl) (by rw [uf_some (c_q := 13) hb_q k15 k91 (by decide) hkv]; exact ⟨rfl, hC, hq_q⟩)
          · have kn61 := kc
            by_cases kc : v_109 = 60
            · subst kc
              have hk0 : (pP N w 5 d_q s).bad = 0 → kd (pP N w 5 d_q s).l ≠ 0 := fun e_q => by rw [← hkv e_q]; decide
              have n1 := pP_len (N := N) (w := w) (d := d_q) (s := s) (t := 5) (by omega)
              have n2 := pP_tot (N := N) (w := w) (d := d_q) (s := s) (t := 5) (by omega)
              have n3 := adv_len (s := pP N w 5 d_q s)
              have n4 := adv_tot (s := pP N w 5 d_q s)
              have n5 := pP_tot (N := N) (w := w) (d := d_q) (s := adv (pP N w 5 d_q s)) (t := 5) (by omega)
              have n6 := st_tot n5
              refine go_istore_n (lw := [_, _, _, _]) (pc := 112) dX4_unit_112 (by decide) rfl ?_
              refine go_iload_n (pc := 113) dX4_unit_113 rfl ?_
              refine go_bipush (v := 61) (pc := 114) dX4_unit_114 (by decide) ?_
              refine go_icmp_eq (tgt := 137) (pc := 116) dX4_unit_116 (by decide) (fun h_116 => by exfalso; exact absurd h_116 (by decide)) (fun h_116 => ?_)
              refine go_iload_n (pc := 119) dX4_unit_119 rfl ?_
              refine go_bipush (v := 60) (pc := 120) dX4_unit_120 (by decide) ?_
              refine go_icmp_eq (tgt := 137) (pc := 122) dX4_unit_122 (by decide) (fun h_122 => ?_) (fun h_122 => by exfalso; exact h_122 (rfl))
              obtain ⟨tk, t_q, sz, pl, r0, hop, hop2⟩ := hC.op (fun e_q => kd_ne rfl (hk0 e_q))
              refine go_aload_n (pc := 137) dX4_unit_137 rfl ?_
              refine go_dup (pc := 138) dX4_unit_138 rfl ?_
              refine go_getf (pc := 139) f_X4_28 dX4_unit_139 (by exact r0) (by rfl) ?_
              refine go_iconst (v := 1) (pc := 142) dX4_unit_142 (by decide) ?_
              refine go_iadd (pc := 143) dX4_unit_143 ?_
              refine go_putf (fs' := [_, _, _, _, _, _, _, _, _, _, _, _]) (pc := 144) f_X4_28 dX4_unit_144 (by exact r0) (Nat.le_of_ble_eq_true rfl) (by rfl) rfl rfl ?_
              refine go_set (P := fun x_q => CrAt Γ x_q a N b_q (nI (w + 3)) (adv (pP N w 5 d_q s)) ∧ ∀ q, q ≠ a + 71 → q ≠ a + 80 → x_q q = z0 q) ⟨(adv_c (P := CrAt Γ _ a N b_q (nI (w + 3))) hop hop2), fun q h1_q h2_q => sup_ne h1_q (hq_q q h1_q h2_q)⟩ (fun σ hx_q => ?_)
              obtain ⟨hC, hq_q⟩ := hx_q
              obtain ⟨tk, t_q, sz, pl, r0⟩ := hC.r0
              refine go_aload_n (pc := 147) dX4_unit_147 rfl ?_
              refine go_iload_n (pc := 148) dX4_unit_148 rfl ?_
              refine go_V1V (pc := 149) v_X4_163 rfl rfl (rcv_of (ci := 4) (by exact r0) rfl) dX4_unit_149 (h5_q (adv (pP N w 5 d_q s)) (by omega) _ _ (k - 1) hC (by omega) (hv0.pP (by omega)).av (by omega)) (fun σ n h_q => ?_)
              obtain ⟨rfl, hC, hq1⟩ := h_q
              have hq_q : ∀ q, q ≠ a + 71 → q ≠ a + 80 → σ q = z0 q := fun q h1_q h2_q => (hq1 q h1_q h2_q).trans (hq_q q h1_q h2_q)
              obtain ⟨tk, t_q, sz, pl, r0⟩ := hC.r0
              refine go_aload_n (pc := 152) dX4_unit_152 rfl ?_
              refine go_iload_n (pc := 153) dX4_unit_153 rfl ?_
              refine go_bipush (v := 61) (pc := 154) dX4_unit_154 (by decide) ?_
              refine go_icmp_ne (tgt := 164) (pc := 156) dX4_unit_156 (by decide) (fun h_156 => ?_) (fun h_156 => by exfalso; exact absurd h_156 (by decide))
              refine go_iload_n (pc := 164) dX4_unit_164 rfl ?_
              refine go_bipush (v := 60) (pc := 165) dX4_unit_165 (by decide) ?_
              refine go_icmp_ne (tgt := 175) (pc := 167) dX4_unit_167 (by decide) (fun h_167 => by exfalso; exact h_167 (rfl)) (fun h_167 => ?_)
              refine go_bipush (v := -10) (pc := 170) dX4_unit_170 (by decide) ?_
              refine go_goto (tgt := 177) (pc := 172) dX4_unit_172 (by decide) ?_
              refine go_V1V (pc := 177) v_X4_218 rfl rfl (rcv_of (ci := 4) (by exact r0) rfl) dX4_unit_177 (cp_emitT (k := k - 1) hC (c2 := 14) (by decide) (by omega)) (fun σ n h_q => ?_)
              obtain ⟨rfl, hC, hq1⟩ := h_q
              have hq_q : ∀ q, q ≠ a + 71 → q ≠ a + 80 → σ q = z0 q := fun q h1_q h2_q => (hq1 q h1_q h2_q).trans (hq_q q h1_q h2_q)
              obtain ⟨tk, t_q, sz, pl, r0⟩ := hC.r0
              exact go_vretV (pc := 180) rfl dX4_unit_180 (Nat.le_of_ble_eq_true rfl) (Nat.le_of_ble_eq_true rfl) (by rw [uf_some (c_q := 14) hb_q k15 k91 (by decide) hkv]; exact ⟨rfl, hC, hq_q⟩)
            · have kn60 := kc
              by_cases kc : v_109 = 62
              · subst kc
                have hk0 : (pP N w 5 d_q s).bad = 0 → kd (pP N w 5 d_q s).l ≠ 0 := fun e_q => by rw [← hkv e_q]; decide
                have n1 := pP_len (N := N) (w := w) (d := d_q) (s := s) (t := 5) (by omega)
                have n2 := pP_tot (N := N) (w := w) (d := d_q) (s := s) (t := 5) (by omega)
                have n3 := adv_len (s := pP N w 5 d_q s)
                have n4 := adv_tot (s := pP N w 5 d_q s)
                have n5 := pP_tot (N := N) (w := w) (d := d_q) (s := adv (pP N w 5 d_q s)) (t := 5) (by omega)
                have n6 := st_tot n5
                refine go_istore_n (lw := [_, _, _, _]) (pc := 112) dX4_unit_112 (by decide) rfl ?_
                refine go_iload_n (pc := 113) dX4_unit_113 rfl ?_
                refine go_bipush (v := 61) (pc := 114) dX4_unit_114 (by decide) ?_
                refine go_icmp_eq (tgt := 137) (pc := 116) dX4_unit_116 (by decide) (fun h_116 => by exfalso; exact absurd h_116 (by decide)) (fun h_116 => ?_)
                refine go_iload_n (pc := 119) dX4_unit_119 rfl ?_
                refine go_bipush (v := 60) (pc := 120) dX4_unit_120 (by decide) ?_
                refine go_icmp_eq (tgt := 137) (pc := 122) dX4_unit_122 (by decide) (fun h_122 => by exfalso; exact absurd h_122 (by decide)) (fun h_122 => ?_)
                refine go_iload_n (pc := 125) dX4_unit_125 rfl ?_
                refine go_bipush (v := 62) (pc := 126) dX4_unit_126 (by decide) ?_
                refine go_icmp_eq (tgt := 137) (pc := 128) dX4_unit_128 (by decide) (fun h_128 => ?_) (fun h_128 => by exfalso; exact h_128 (rfl))
                obtain ⟨tk, t_q, sz, pl, r0, hop, hop2⟩ := hC.op (fun e_q => kd_ne rfl (hk0 e_q))
                refine go_aload_n (pc := 137) dX4_unit_137 rfl ?_
                refine go_dup (pc := 138) dX4_unit_138 rfl ?_
                refine go_getf (pc := 139) f_X4_28 dX4_unit_139 (by exact r0) (by rfl) ?_
                refine go_iconst (v := 1) (pc := 142) dX4_unit_142 (by decide) ?_
                refine go_iadd (pc := 143) dX4_unit_143 ?_
                refine go_putf (fs' := [_, _, _, _, _, _, _, _, _, _, _, _]) (pc := 144) f_X4_28 dX4_unit_144 (by exact r0) (Nat.le_of_ble_eq_true rfl) (by rfl) rfl rfl ?_
                refine go_set (P := fun x_q => CrAt Γ x_q a N b_q (nI (w + 3)) (adv (pP N w 5 d_q s)) ∧ ∀ q, q ≠ a + 71 → q ≠ a + 80 → x_q q = z0 q) ⟨(adv_c (P := CrAt Γ _ a N b_q (nI (w + 3))) hop hop2), fun q h1_q h2_q => sup_ne h1_q (hq_q q h1_q h2_q)⟩ (fun σ hx_q => ?_)
                obtain ⟨hC, hq_q⟩ := hx_q
                obtain ⟨tk, t_q, sz, pl, r0⟩ := hC.r0
                refine go_aload_n (pc := 147) dX4_unit_147 rfl ?_
                refine go_iload_n (pc := 148) dX4_unit_148 rfl ?_
                refine go_V1V (pc := 149) v_X4_163 rfl rfl (rcv_of (ci := 4) (by exact r0) rfl) dX4_unit_149 (h5_q (adv (pP N w 5 d_q s)) (by omega) _ _ (k - 1) hC (by omega) (hv0.pP (by omega)).av (by omega)) (fun σ n h_q => ?_)
                obtain ⟨rfl, hC, hq1⟩ := h_q
                have hq_q : ∀ q, q ≠ a + 71 → q ≠ a + 80 → σ q = z0 q := fun q h1_q h2_q => (hq1 q h1_q h2_q).trans (hq_q q h1_q h2_q)
                obtain ⟨tk, t_q, sz, pl, r0⟩ := hC.r0
                refine go_aload_n (pc := 152) dX4_unit_152 rfl ?_
                refine go_iload_n (pc := 153) dX4_unit_153 rfl ?_
                refine go_bipush (v := 61) (pc := 154) dX4_unit_154 (by decide) ?_
                refine go_icmp_ne (tgt := 164) (pc := 156) dX4_unit_156 (by decide) (fun h_156 => ?_) (fun h_156 => by exfalso; exact absurd h_156 (by decide))
                refine go_iload_n (pc := 164) dX4_unit_164 rfl ?_
                refine go_bipush (v := 60) (pc := 165) dX4_unit_165 (by decide) ?_
                refine go_icmp_ne (tgt := 175) (pc := 167) dX4_unit_167 (by decide) (fun h_167 => ?_) (fun h_167 => by exfalso; exact absurd h_167 (by decide))
                refine go_bipush (v := -11) (pc := 175) dX4_unit_175 (by decide) ?_
                refine go_V1V (pc := 177) v_X4_218 rfl rfl (rcv_of (ci := 4) (by exact r0) rfl) dX4_unit_177 (cp_emitT (k := k - 1) hC (c2 := 15) (by decide) (by omega)) (fun σ n h_q => ?_)
                obtain ⟨rfl, hC, hq1⟩ := h_q
                have hq_q : ∀ q, q ≠ a + 71 → q ≠ a + 80 → σ q = z0 q := fun q h1_q h2_q => (hq1 q h1_q h2_q).trans (hq_q q h1_q h2_q)
                obtain ⟨tk, t_q, sz, pl, r0⟩ := hC.r0
                exact go_vretV (pc := 180) rfl dX4_unit_180 (Nat.le_of_ble_eq_true rfl) (Nat.le_of_ble_eq_true rfl) (by rw [uf_some (c_q := 15) hb_q k15 k91 (by decide) hkv]; exact ⟨rfl, hC, hq_q⟩)
              · have kn62 := kc
                refine go_istore_n (lw := [_, _, _, _]) (pc := 112) dX4_unit_112 (by decide) rfl ?_
                refine go_iload_n (pc := 113) dX4_unit_113 rfl ?_
                refine go_bipush (v := 61) (pc := 114) dX4_unit_114 (by decide) ?_
                refine go_icmp_eq (tgt := 137) (pc := 116) dX4_unit_116 (by decide) (fun h_116 => by exfalso; exact absurd h_116 (kn61)) (fun h_116 => ?_)
                refine go_iload_n (pc := 119) dX4_unit_119 rfl ?_
                refine go_bipush (v := 60) (pc := 120) dX4_unit_120 (by decide) ?_
                refine go_icmp_eq (tgt := 137) (pc := 122) dX4_unit_122 (by decide) (fun h_122 => by exfalso; exact absurd h_122 (kn60)) (fun h_122 => ?_)
                refine go_iload_n (pc := 125) dX4_unit_125 rfl ?_
                refine go_bipush (v := 62) (pc := 126) dX4_unit_126 (by decide) ?_
                refine go_icmp_eq (tgt := 137) (pc := 128) dX4_unit_128 (by decide) (fun h_128 => by exfalso; exact absurd h_128 (kn62)) (fun h_128 => ?_)
                refine go_aload_n (pc := 131) dX4_unit_131 rfl ?_
                refine go_iconst (v := 2) (pc := 132) dX4_unit_132 (by decide) ?_
                refine go_V1V (pc := 133) v_X4_152 rfl rfl (rcv_of (ci := 4) (by exact r0) rfl) dX4_unit_133 (cp_failT (k := k - 1) hC (c_q := 2) (by decide)) (fun σ n h_q => ?_)
                obtain ⟨rfl, hC, hq1⟩ := h_q
                have hq_q : ∀ q, q ≠ a + 71 → q ≠ a + 80 → σ q = z0 q := fun q h1_q h2_q => (hq1 q h1_q h2_q).trans (hq_q q h1_q h2_q)
                obtain ⟨tk, t_q, sz, pl, r0⟩ := hC.r0
                exact go_vretV (pc := 136) rfl dX4_unit_136 (Nat.le_of_ble_eq_true rfl) (Nat.le_of_ble_eq_true rfl) (by rw [uf_none hb_q k15 k91 (fun e_q => by rw [← hkv e_q]; exact ⟨kn61, kn60, kn62⟩)]; exact ⟨rfl, hC, hq_q⟩)
  · refine go_aload_n (pc := 0) dX4_unit_0 rfl ?_
    refine go_V0I (pc := 1) v_X4_82 rfl rfl (rcv_of (ci := 4) (by exact r0) rfl) dX4_unit_1 (cp_kindT (k := k - 1) hC) (fun v_1 σ n h_q => ?_)
    obtain ⟨e1_q, e2_q, hkv⟩ := h_q
    obtain rfl := e1_q.symm
    obtain rfl := e2_q.symm
    refine go_istore_n (lw := [_, _, _, _]) (pc := 4) dX4_unit_4 (by decide) rfl ?_
    obtain ⟨tk, t_q, sz, pl, r0⟩ := hC.r0
    refine go_aload_n (pc := 5) dX4_unit_5 rfl ?_
    refine go_getf (pc := 6) f_X4_37 dX4_unit_6 (by exact r0) (by rfl) ?_
    refine go_if_eq (tgt := 13) (pc := 9) dX4_unit_9 (by decide) (fun h_9 => by exfalso; exact hb_q h_9) (fun h_9 => ?_)
    exact go_vretV (pc := 12) rfl dX4_unit_12 (Nat.le_of_ble_eq_true rfl) (Nat.le_of_ble_eq_true rfl) (by rw [pP_4b hb_q]; exact ⟨rfl, hC, hq_q⟩)
theorem cls_5 {Γ : gam} {a N b_q w d_q : Nat} {s : ps} (hw_q : 4 ≤ w ∧ w ≤ 6) (hd_q : d_q ≤ 6) (hc9 : ∀ s' : ps, s'.l.length ≤ s.l.length → ClsOK Γ a N b_q w 9 d_q s') : ClsOK Γ a N b_q w 5 d_q s := by
  intro z0 n k hC ht_q hv0 hk
  have hq_q : ∀ q, q ≠ a + 71 → q ≠ a + 80 → z0 q = z0 q := fun _ _ _ => rfl
  have r0_ : rk 0 = 6 := rfl
  have r4_ : rk 4 = 4 := rfl
  have r5_ : rk 5 = 3 := rfl
  have r9_ : rk 9 = 1 := rfl
  have hst := st_tot ht_q
  obtain ⟨tk, t_q, sz, pl, r0⟩ := hC.r0
  show Sp Γ (rmk k 0 0) uX4_sum [.ref (a + 71), .int (nI d_q)] z0 n (qV fun σ' n' => n' = n ∧ CrAt Γ σ' a N b_q (nI (w + 3)) (pP N w 5 d_q s) ∧ ∀ q, q ≠ a + 71 → q ≠ a + 80 → σ' q = z0 q)
  refine sp_intro [some (.ref (a + 71)), some (.int (nI d_q)), none, none, none] (by decide +kernel) rfl (Nat.le_of_ble_eq_true rfl) rfl ?_
  refine go_bipush (v := 43) (pc := 0) dX4_sum_0 (by decide) ?_
  refine go_istore_n (lw := [_, _, _, _, _]) (pc := 2) dX4_sum_2 (by decide) rfl ?_
  refine go_iconst (v := 0) (pc := 3) dX4_sum_3 (by decide) ?_
  refine go_istore_n (lw := [_, _, _, _, _]) (pc := 4) dX4_sum_4 (by decide) rfl ?_
  refine go_meas (fun m9_q lv9 s8 n9 => ∃ (s9 : ps), ∃ (sg : Int32), ∃ (i_q : Nat), ∃ (x4_q : Option Value), lv9 = [some (.ref (a + 71)), some (.int (nI d_q)), some (.int sg), some (.int (nI i_q)), x4_q] ∧ (CrAt Γ s8 a N b_q (nI (w + 3)) s9) ∧ (∀ q, q ≠ a + 71 → q ≠ a + 80 → s8 q = z0 q) ∧ (pP N w 6 d_q (eS i_q sg (pP N w 7 d_q s9)) = pP N w 5 d_q s) ∧ (s9.bad = 0 → i_q + s9.l.length ≤ 899) ∧ (i_q ≤ 900) ∧ (s9.l.length ≤ s.l.length) ∧ (tot s9 ≤ 899) ∧ (s9.bad = 0 → i_q ≠ 0 → tot s9 ≤ 898) ∧ (vOK s9.l) ∧ (sg = 43 ∨ sg = 45) ∧ m9_q = mB s9 ∧ n = n9) (mB s) ⟨s, 43, 0, _, rfl, hC, hq_q, (by rw [eS, if_pos rfl]; exact pP_5.symm), (fun _ => by unfold tot at ht_q; omega), (by omega), (Nat.le_refl _), ht_q, (fun _ e_q => absurd rfl e_q), hv0, (Or.inl rfl), rfl, rfl⟩ ?_
  rintro m9_q lv9 σ n9 ⟨s9, sg, i_q, x4_q, rfl, hC, hq_q, hE, hi_q, hi9, hl, ht9, htb, hv9_q, hsg, rfl, rfl⟩ ih0
  obtain ⟨tk, t_q, sz, pl, r0⟩ := hC.r0
  refine go_iload_n (pc := 5) dX4_sum_5 rfl ?_
  refine go_sipush (v := 900) (pc := 6) dX4_sum_6 (by decide) ?_
  refine go_icmp_ge (tgt := 133) (pc := 9) dX4_sum_9 (by decide) (fun h_9 => ?_) (fun h_9 => ?_)
  · exact go_vretV (pc := 133) rfl dX4_sum_133 (Nat.le_of_ble_eq_true rfl) (Nat.le_of_ble_eq_true rfl) (by
  have hbb : s9.bad ≠ 0 := by
    first
      | (have g_q : (900 : Int32) ≤ nI i_q := h_9
         exact fun e_q => absurd g_q (nI_ge (b := 900) (by have := hi_q e_q; omega) (by decide)))
      | (have g_q : ¬ s9.bad = 0 := h_16
         exact g_q)
  rw [pP_b7 hbb, eS_b hbb, pP_b6 hbb] at hE
  rw [← hE]
  exact ⟨rfl, hC, hq_q⟩)
  · obtain ⟨tk, t_q, sz, pl, r0⟩ := hC.r0
    refine go_aload_n (pc := 12) dX4_sum_12 rfl ?_
    refine go_getf (pc := 13) f_X4_37 dX4_sum_13 (by exact r0) (by rfl) ?_
    refine go_if_ne (tgt := 133) (pc := 16) dX4_sum_16 (by decide) (fun h_16 => ?_) (fun h_16 => ?_)
    · exact go_vretV (pc := 133) rfl dX4_sum_133 (Nat.le_of_ble_eq_true rfl) (Nat.le_of_ble_eq_true rfl) (by
  have hbb : s9.bad ≠ 0 := by
    first
      | (have g_q : (900 : Int32) ≤ nI i_q := h_9
         exact fun e_q => absurd g_q (nI_ge (b := 900) (by have := hi_q e_q; omega) (by decide)))
      | (have g_q : ¬ s9.bad = 0 := h_16
         exact g_q)
  rw [pP_b7 hbb, eS_b hbb, pP_b6 hbb] at hE
  rw [← hE]
  exact ⟨rfl, hC, hq_q⟩)
    · refine go_aload_n (pc := 19) dX4_sum_19 rfl ?_
      refine go_iload_n (pc := 20) dX4_sum_20 rfl ?_
      refine go_V1V (pc := 21) v_X4_221 rfl rfl (rcv_of (ci := 4) (by exact r0) rfl) dX4_sum_21 (hc9 (s9) hl _ _ (k - 1) hC ht9 hv9_q (by omega)) (fun σ n h_q => ?_)
      obtain ⟨rfl, hC, hq1⟩ := h_q
      have hq_q : ∀ q, q ≠ a + 71 → q ≠ a + 80 → σ q = z0 q := fun q h1_q h2_q => (hq1 q h1_q h2_q).trans (hq_q q h1_q h2_q)
      obtain ⟨tk, t_q, sz, pl, r0⟩ := hC.r0
      refine go_iconst (v := 0) (pc := 24) dX4_sum_24 (by decide) ?_
      refine go_istore (lw := [_, _, _, _, _]) (pc := 25) dX4_sum_25 (by decide) rfl ?_
      refine go_meas (fun m7 lv9 s8 n9 => ∃ (s7 : ps), ∃ (j : Nat), lv9 = [some (.ref (a + 71)), some (.int (nI d_q)), some (.int sg), some (.int (nI i_q)), some (.int (nI j))] ∧ (CrAt Γ s8 a N b_q (nI (w + 3)) s7) ∧ (∀ q, q ≠ a + 71 → q ≠ a + 80 → s8 q = z0 q) ∧ (pP N w 8 d_q s7 = pP N w 7 d_q s9) ∧ (j + s7.l.length ≤ 899) ∧ (s7.l.length ≤ s9.l.length) ∧ (tot s7 ≤ 899) ∧ (vOK s7.l) ∧ m7 = s7.l.length ∧ n = n9) ((pP N w 9 d_q s9).l.length) ⟨_, 0, rfl, hC, hq_q, pP_7.symm, (by have := pP_len (N := N) (w := w) (d := d_q) (s := s9) (t := 9) (by omega); have := hi_q h_16; omega), (pP_len (by omega)), (Nat.le_trans (pP_tot (by omega)) ht9), (hv9_q.pP (by omega)), rfl, rfl⟩ ?_
      rintro m7 lv9 σ n9 ⟨s7, j, rfl, hC, hq_q, hE7, hj_q, hl7, ht7, hv7, rfl, rfl⟩ ih1
      obtain ⟨tk, t_q, sz, pl, r0⟩ := hC.r0
      refine go_iload (pc := 27) dX4_sum_27 rfl ?_
      refine go_sipush (v := 900) (pc := 29) dX4_sum_29 (by decide) ?_
      refine go_icmp_ge (tgt := 78) (pc := 32) dX4_sum_32 (by decide) (fun h_32 => by exfalso; exact absurd h_32 (nI_ge (b := 900) (by omega) (by decide))) (fun h_32 => ?_)
      obtain ⟨tk, t_q, sz, pl, r0⟩ := hC.r0
      refine go_aload_n (pc := 35) dX4_sum_35 rfl ?_
      refine go_getf (pc := 36) f_X4_37 dX4_sum_36 (by exact r0) (by rfl) ?_
      refine go_if_ne (tgt := 78) (pc := 39) dX4_sum_39 (by decide) (fun h_39 => ?_) (fun h_39 => ?_)
      · have e7_q : pP N w 7 d_q s9 = s7 := by
          rw [← hE7, pP_8]
          first
            | (have g_q : ¬ s7.bad = 0 := h_39
               rw [if_neg (fun c_q => g_q c_q.1)])
            | (have g_q : ¬ kd s7.l = 42 := h_48
               rw [if_neg (fun c_q => g_q c_q.2)])
        rw [e7_q] at hE
        have u1 := pP_tot (N := N) (w := w) (d := d_q) (s := s9) (t := 7) (by omega)
        rw [e7_q] at u1
        have u2 : i_q ≠ 0 → tot s7 ≤ 898 := fun e_q => Nat.le_trans u1 (htb h_16 e_q)
        have u3 := st_tot u1
        have u4 := st_tot ht7
        refine go_iload_n (pc := 78) dX4_sum_78 rfl ?_
        refine go_if_le (tgt := 99) (pc := 79) dX4_sum_79 (by decide) (fun h_79 => ?_) (fun h_79 => ?_)
        · have hC : CrAt Γ σ a N b_q (nI (w + 3)) (eS i_q sg s7) := by
            first
              | (have g_q : nI i_q ≤ 0 := h_79
                 have gi : i_q = 0 := Decidable.byContradiction (fun e_q => nI_nle (by omega) (by omega) g_q)
                 rw [eS, if_pos gi]
                 exact hC)
              | (have g_q : ¬ nI i_q ≤ 0 := h_79
                 have gi : i_q ≠ 0 := fun e_q => g_q (by rw [e_q]; decide)
                 rw [eS, if_neg gi]
                 exact hC)
          have u5 : tot (eS i_q sg s7) ≤ 899 := eS_t (m := 898) ht7 u2
          have u6 : (eS i_q sg s7).l = s7.l := eS_l
          refine go_aload_n (pc := 99) dX4_sum_99 rfl ?_
          refine go_V0I (pc := 100) v_X4_82 rfl rfl (rcv_of (ci := 4) (by exact r0) rfl) dX4_sum_100 (cp_kindT (k := k - 1) hC) (fun v_100 σ n h_q => ?_)
          obtain ⟨e1_q, e2_q, hkv⟩ := h_q
          obtain rfl := e1_q.symm
          obtain rfl := e2_q.symm
          refine go_istore_n (lw := [_, _, _, _, _]) (pc := 103) dX4_sum_103 (by decide) rfl ?_
          refine go_iload_n (pc := 104) dX4_sum_104 rfl ?_
          refine go_bipush (v := 43) (pc := 105) dX4_sum_105 (by decide) ?_
          refine go_icmp_eq (tgt := 117) (pc := 107) dX4_sum_107 (by decide) (fun h_107 => ?_) (fun h_107 => ?_)
          · have hvv : v_100 = 43 ∨ v_100 = 45 := by
              first
                | (have g_q : v_100 = 43 := h_107
                   exact Or.inl g_q)
                | (have g_q : v_100 = 45 := h_113
                   exact Or.inr g_q)
            have hk0 : (eS i_q sg s7).bad = 0 → kd (eS i_q sg s7).l ≠ 0 := fun e_q => by rw [← hkv e_q]; exact hvv.elim (fun x_q => by rw [x_q]; decide) (fun x_q => by rw [x_q]; decide)
            obtain ⟨tk, t_q, sz, pl, r0, hop, hop2⟩ := hC.op (fun e_q => kd_ne rfl (hk0 e_q))
            refine go_aload_n (pc := 117) dX4_sum_117 rfl ?_
            refine go_dup (pc := 118) dX4_sum_118 rfl ?_
            refine go_getf (pc := 119) f_X4_28 dX4_sum_119 (by exact r0) (by rfl) ?_
            refine go_iconst (v := 1) (pc := 122) dX4_sum_122 (by decide) ?_
            refine go_iadd (pc := 123) dX4_sum_123 ?_
            refine go_putf (fs' := [_, _, _, _, _, _, _, _, _, _, _, _]) (pc := 124) f_X4_28 dX4_sum_124 (by exact r0) (Nat.le_of_ble_eq_true rfl) (by rfl) rfl rfl ?_
            refine go_set (P := fun x_q => CrAt Γ x_q a N b_q (nI (w + 3)) (adv (eS i_q sg s7)) ∧ ∀ q, q ≠ a + 71 → q ≠ a + 80 → x_q q = z0 q) ⟨(adv_c (P := CrAt Γ _ a N b_q (nI (w + 3))) hop hop2), fun q h1_q h2_q => sup_ne h1_q (hq_q q h1_q h2_q)⟩ (fun σ hx_q => ?_)
            obtain ⟨hC, hq_q⟩ := hx_q
            obtain ⟨tk, t_q, sz, pl, r0⟩ := hC.r0
            refine go_iinc (v := 1) (lw := [_, _, _, _, _]) (pc := 127) dX4_sum_127 rfl (by decide) (by decide) rfl ?_
            refine go_goto (tgt := 5) (pc := 130) dX4_sum_130 (by decide) ?_
            rw [nI_1]
            exact ih0 _ _ _ _ (adv_mB hk0 h_16 (by rw [u6]; exact hl7)) ⟨_, v_100, i_q + 1, _, rfl, hC, hq_q, (by rw [sm_step hkv hvv]; exact hE), (fun e_q => by have t1_q := (adv_tb hk0 e_q).2; have t2 := hi_q h_16; rw [u6] at t1_q; omega), (by have := hi_q h_16; omega), (Nat.le_trans adv_len (by rw [u6]; omega)), (Nat.le_trans adv_tot u5), (fun e_q _ => by have t1_q := (adv_tb hk0 e_q).1; omega), (vOK.av (by rw [u6]; exact hv7)), hvv, rfl, rfl⟩
          · refine go_iload_n (pc := 110) dX4_sum_110 rfl ?_
            refine go_bipush (v := 45) (pc := 111) dX4_sum_111 (by decide) ?_
            refine go_icmp_eq (tgt := 117) (pc := 113) dX4_sum_113 (by decide) (fun h_113 => ?_) (fun h_113 => ?_)
            · have hvv : v_100 = 43 ∨ v_100 = 45 := by
                first
                  | (have g_q : v_100 = 43 := h_107
                     exact Or.inl g_q)
                  | (have g_q : v_100 = 45 := h_113
                     exact Or.inr g_q)
              have hk0 : (eS i_q sg s7).bad = 0 → kd (eS i_q sg s7).l ≠ 0 := fun e_q => by rw [← hkv e_q]; exact hvv.elim (fun x_q => by rw [x_q]; decide) (fun x_q => by rw [x_q]; decide)
              obtain ⟨tk, t_q, sz, pl, r0, hop, hop2⟩ := hC.op (fun e_q => kd_ne rfl (hk0 e_q))
              refine go_aload_n (pc := 117) dX4_sum_117 rfl ?_
              refine go_dup (pc := 118) dX4_sum_118 rfl ?_
              refine go_getf (pc := 119) f_X4_28 dX4_sum_119 (by exact r0) (by rfl) ?_
              refine go_iconst (v := 1) (pc := 122) dX4_sum_122 (by decide) ?_
              refine go_iadd (pc := 123) dX4_sum_123 ?_
              refine go_putf (fs' := [_, _, _, _, _, _, _, _, _, _, _, _]) (pc := 124) f_X4_28 dX4_sum_124 (by exact r0) (Nat.le_of_ble_eq_true rfl) (by rfl) rfl rfl ?_
              refine go_set (P := fun x_q => CrAt Γ x_q a N b_q (nI (w + 3)) (adv (eS i_q sg s7)) ∧ ∀ q, q ≠ a + 71 → q ≠ a + 80 → x_q q = z0 q) ⟨(adv_c (P := CrAt Γ _ a N b_q (nI (w + 3))) hop hop2), fun q h1_q h2_q => sup_ne h1_q (hq_q q h1_q h2_q)⟩ (fun σ hx_q => ?_)
              obtain ⟨hC, hq_q⟩ := hx_q
              obtain ⟨tk, t_q, sz, pl, r0⟩ := hC.r0
              refine go_iinc (v := 1) (lw := [_, _, _, _, _]) (pc := 127) dX4_sum_127 rfl (by decide) (by decide) rfl ?_
              refine go_goto (tgt := 5) (pc := 130) dX4_sum_130 (by decide) ?_
              rw [nI_1]
              exact ih0 _ _ _ _ (adv_mB hk0 h_16 (by rw [u6]; exact hl7)) ⟨_, v_100, i_q + 1, _, rfl, hC, hq_q, (by rw [sm_step hkv hvv]; exact hE), (fun e_q => by have t1_q := (adv_tb hk0 e_q).2; have t2 := hi_q h_16; rw [u6] at t1_q; omega), (by have := hi_q h_16; omega), (Nat.le_trans adv_len (by rw [u6]; omega)), (Nat.le_trans adv_tot u5), (fun e_q _ => by have t1_q := (adv_tb hk0 e_q).1; omega), (vOK.av (by rw [u6]; exact hv7)), hvv, rfl, rfl⟩
            · exact go_vretV (pc := 116) rfl dX4_sum_116 (Nat.le_of_ble_eq_true rfl) (Nat.le_of_ble_eq_true rfl) (by rw [← hE, pP_6, if_neg (fun c_q => c_q.2.elim (fun x_q => h_107 ((hkv c_q.1).trans x_q)) (fun x_q => h_113 ((hkv c_q.1).trans x_q)))]; exact ⟨rfl, hC, hq_q⟩)
        · refine go_aload_n (pc := 82) dX4_sum_82 rfl ?_
          refine go_iload_n (pc := 83) dX4_sum_83 rfl ?_
          refine go_bipush (v := 43) (pc := 84) dX4_sum_84 (by decide) ?_
          refine go_icmp_ne (tgt := 94) (pc := 86) dX4_sum_86 (by decide) (fun h_86 => ?_) (fun h_86 => ?_)
          · refine go_bipush (v := -13) (pc := 94) dX4_sum_94 (by decide) ?_
            refine go_V1V (pc := 96) v_X4_218 rfl rfl (rcv_of (ci := 4) (by exact r0) rfl) dX4_sum_96 (cp_emitT (k := k - 1) hC (c2 := (if sg = 43 then 10 else 11)) (by first | (have g_q : sg = 43 := h_86; rw [if_pos g_q]; decide) | (have g_q : ¬ sg = 43 := h_86; rw [if_neg g_q]; decide)) (by omega)) (fun σ n h_q => ?_)
            obtain ⟨rfl, hC, hq1⟩ := h_q
            have hq_q : ∀ q, q ≠ a + 71 → q ≠ a + 80 → σ q = z0 q := fun q h1_q h2_q => (hq1 q h1_q h2_q).trans (hq_q q h1_q h2_q)
            obtain ⟨tk, t_q, sz, pl, r0⟩ := hC.r0
            have hC : CrAt Γ σ a N b_q (nI (w + 3)) (eS i_q sg s7) := by
              first
                | (have g_q : nI i_q ≤ 0 := h_79
                   have gi : i_q = 0 := Decidable.byContradiction (fun e_q => nI_nle (by omega) (by omega) g_q)
                   rw [eS, if_pos gi]
                   exact hC)
                | (have g_q : ¬ nI i_q ≤ 0 := h_79
                   have gi : i_q ≠ 0 := fun e_q => g_q (by rw [e_q]; decide)
                   rw [eS, if_neg gi]
                   exact hC)
            have u5 : tot (eS i_q sg s7) ≤ 899 := eS_t (m := 898) ht7 u2
            have u6 : (eS i_q sg s7).l = s7.l := eS_l
            refine go_aload_n (pc := 99) dX4_sum_99 rfl ?_
            refine go_V0I (pc := 100) v_X4_82 rfl rfl (rcv_of (ci := 4) (by exact r0) rfl) dX4_sum_100 (cp_kindT (k := k - 1) hC) (fun v_100 σ n h_q => ?_)
            obtain ⟨e1_q, e2_q, hkv⟩ := h_q
            obtain rfl := e1_q.symm
            obtain rfl := e2_q.symm
            refine go_istore_n (lw := [_, _, _, _, _]) (pc := 103) dX4_sum_103 (by decide) rfl ?_
            refine go_iload_n (pc := 104) dX4_sum_104 rfl ?_
            refine go_bipush (v := 43) (pc := 105) dX4_sum_105 (by decide) ?_
            refine go_icmp_eq (tgt := 117) (pc := 107) dX4_sum_107 (by decide) (fun h_107 => ?_) (fun h_107 => ?_)
            · have hvv : v_100 = 43 ∨ v_100 = 45 := by
                first
                  | (have g_q : v_100 = 43 := h_107
                     exact Or.inl g_q)
                  | (have g_q : v_100 = 45 := h_113
                     exact Or.inr g_q)
              have hk0 : (eS i_q sg s7).bad = 0 → kd (eS i_q sg s7).l ≠ 0 := fun e_q => by rw [← hkv e_q]; exact hvv.elim (fun x_q => by rw [x_q]; decide) (fun x_q => by rw [x_q]; decide)
              obtain ⟨tk, t_q, sz, pl, r0, hop, hop2⟩ := hC.op (fun e_q => kd_ne rfl (hk0 e_q))
              refine go_aload_n (pc := 117) dX4_sum_117 rfl ?_
              refine go_dup (pc := 118) dX4_sum_118 rfl ?_
              refine go_getf (pc := 119) f_X4_28 dX4_sum_119 (by exact r0) (by rfl) ?_
              refine go_iconst (v := 1) (pc := 122) dX4_sum_122 (by decide) ?_
              refine go_iadd (pc := 123) dX4_sum_123 ?_
              refine go_putf (fs' := [_, _, _, _, _, _, _, _, _, _, _, _]) (pc := 124) f_X4_28 dX4_sum_124 (by exact r0) (Nat.le_of_ble_eq_true rfl) (by rfl) rfl rfl ?_
              refine go_set (P := fun x_q => CrAt Γ x_q a N b_q (nI (w + 3)) (adv (eS i_q sg s7)) ∧ ∀ q, q ≠ a + 71 → q ≠ a + 80 → x_q q = z0 q) ⟨(adv_c (P := CrAt Γ _ a N b_q (nI (w + 3))) hop hop2), fun q h1_q h2_q => sup_ne h1_q (hq_q q h1_q h2_q)⟩ (fun σ hx_q => ?_)
              obtain ⟨hC, hq_q⟩ := hx_q
              obtain ⟨tk, t_q, sz, pl, r0⟩ := hC.r0
              refine go_iinc (v := 1) (lw := [_, _, _, _, _]) (pc := 127) dX4_sum_127 rfl (by decide) (by decide) rfl ?_
              refine go_goto (tgt := 5) (pc := 130) dX4_sum_130 (by decide) ?_
              rw [nI_1]
              exact ih0 _ _ _ _ (adv_mB hk0 h_16 (by rw [u6]; exact hl7)) ⟨_, v_100, i_q + 1, _, rfl, hC, hq_q, (by rw [sm_step hkv hvv]; exact hE), (fun e_q => by have t1_q := (adv_tb hk0 e_q).2; have t2 := hi_q h_16; rw [u6] at t1_q; omega), (by have := hi_q h_16; omega), (Nat.le_trans adv_len (by rw [u6]; omega)), (Nat.le_trans adv_tot u5), (fun e_q _ => by have t1_q := (adv_tb hk0 e_q).1; omega), (vOK.av (by rw [u6]; exact hv7)), hvv, rfl, rfl⟩
            · refine go_iload_n (pc := 110) dX4_sum_110 rfl ?_
              refine go_bipush (v := 45) (pc := 111) dX4_sum_111 (by decide) ?_
              refine go_icmp_eq (tgt := 117) (pc := 113) dX4_sum_113 (by decide) (fun h_113 => ?_) (fun h_113 => ?_)
              · have hvv : v_100 = 43 ∨ v_100 = 45 := by
                  first
                    | (have g_q : v_100 = 43 := h_107
                       exact Or.inl g_q)
                    | (have g_q : v_100 = 45 := h_113
                       exact Or.inr g_q)
                have hk0 : (eS i_q sg s7).bad = 0 → kd (eS i_q sg s7).l ≠ 0 := fun e_q => by rw [← hkv e_q]; exact hvv.elim (fun x_q => by rw [x_q]; decide) (fun x_q => by rw [x_q]; decide)
                obtain ⟨tk, t_q, sz, pl, r0, hop, hop2⟩ := hC.op (fun e_q => kd_ne rfl (hk0 e_q))
                refine go_aload_n (pc := 117) dX4_sum_117 rfl ?_
                refine go_dup (pc := 118) dX4_sum_118 rfl ?_
                refine go_getf (pc := 119) f_X4_28 dX4_sum_119 (by exact r0) (by rfl) ?_
                refine go_iconst (v := 1) (pc := 122) dX4_sum_122 (by decide) ?_
                refine go_iadd (pc := 123) dX4_sum_123 ?_
                refine go_putf (fs' := [_, _, _, _, _, _, _, _, _, _, _, _]) (pc := 124) f_X4_28 dX4_sum_124 (by exact r0) (Nat.le_of_ble_eq_true rfl) (by rfl) rfl rfl ?_
                refine go_set (P := fun x_q => CrAt Γ x_q a N b_q (nI (w + 3)) (adv (eS i_q sg s7)) ∧ ∀ q, q ≠ a + 71 → q ≠ a + 80 → x_q q = z0 q) ⟨(adv_c (P := CrAt Γ _ a N b_q (nI (w + 3))) hop hop2), fun q h1_q h2_q => sup_ne h1_q (hq_q q h1_q h2_q)⟩ (fun σ hx_q => ?_)
                obtain ⟨hC, hq_q⟩ := hx_q
                obtain ⟨tk, t_q, sz, pl, r0⟩ := hC.r0
                refine go_iinc (v := 1) (lw := [_, _, _, _, _]) (pc := 127) dX4_sum_127 rfl (by decide) (by decide) rfl ?_
                refine go_goto (tgt := 5) (pc := 130) dX4_sum_130 (by decide) ?_
                rw [nI_1]
                exact ih0 _ _ _ _ (adv_mB hk0 h_16 (by rw [u6]; exact hl7)) ⟨_, v_100, i_q + 1, _, rfl, hC, hq_q, (by rw [sm_step hkv hvv]; exact hE), (fun e_q => by have t1_q := (adv_tb hk0 e_q).2; have t2 := hi_q h_16; rw [u6] at t1_q; omega), (by have := hi_q h_16; omega), (Nat.le_trans adv_len (by rw [u6]; omega)), (Nat.le_trans adv_tot u5), (fun e_q _ => by have t1_q := (adv_tb hk0 e_q).1; omega), (vOK.av (by rw [u6]; exact hv7)), hvv, rfl, rfl⟩
              · exact go_vretV (pc := 116) rfl dX4_sum_116 (Nat.le_of_ble_eq_true rfl) (Nat.le_of_ble_eq_true rfl) (by rw [← hE, pP_6, if_neg (fun c_q => c_q.2.elim (fun x_q => h_107 ((hkv c_q.1).trans x_q)) (fun x_q => h_113 ((hkv c_q.1).trans x_q)))]; exact ⟨rfl, hC, hq_q⟩)
          · refine go_bipush (v := -12) (pc := 89) dX4_sum_89 (by decide) ?_
            refine go_goto (tgt := 96) (pc := 91) dX4_sum_91 (by decide) ?_
            refine go_V1V (pc := 96) v_X4_218 rfl rfl (rcv_of (ci := 4) (by exact r0) rfl) dX4_sum_96 (cp_emitT (k := k - 1) hC (c2 := (if sg = 43 then 10 else 11)) (by first | (have g_q : sg = 43 := h_86; rw [if_pos g_q]; decide) | (have g_q : ¬ sg = 43 := h_86; rw [if_neg g_q]; decide)) (by omega)) (fun σ n h_q => ?_)
            obtain ⟨rfl, hC, hq1⟩ := h_q
            have hq_q : ∀ q, q ≠ a + 71 → q ≠ a + 80 → σ q = z0 q := fun q h1_q h2_q => (hq1 q h1_q h2_q).trans (hq_q q h1_q h2_q)
            obtain ⟨tk, t_q, sz, pl, r0⟩ := hC.r0
            have hC : CrAt Γ σ a N b_q (nI (w + 3)) (eS i_q sg s7) := by
              first
                | (have g_q : nI i_q ≤ 0 := h_79
                   have gi : i_q = 0 := Decidable.byContradiction (fun e_q => nI_nle (by omega) (by omega) g_q)
                   rw [eS, if_pos gi]
                   exact hC)
                | (have g_q : ¬ nI i_q ≤ 0 := h_79
                   have gi : i_q ≠ 0 := fun e_q => g_q (by rw [e_q]; decide)
                   rw [eS, if_neg gi]
                   exact hC)
            have u5 : tot (eS i_q sg s7) ≤ 899 := eS_t (m := 898) ht7 u2
            have u6 : (eS i_q sg s7).l = s7.l := eS_l
            refine go_aload_n (pc := 99) dX4_sum_99 rfl ?_
            refine go_V0I (pc := 100) v_X4_82 rfl rfl (rcv_of (ci := 4) (by exact r0) rfl) dX4_sum_100 (cp_kindT (k := k - 1) hC) (fun v_100 σ n h_q => ?_)
            obtain ⟨e1_q, e2_q, hkv⟩ := h_q
            obtain rfl := e1_q.symm
            obtain rfl := e2_q.symm
            refine go_istore_n (lw := [_, _, _, _, _]) (pc := 103) dX4_sum_103 (by decide) rfl ?_
            refine go_iload_n (pc := 104) dX4_sum_104 rfl ?_
            refine go_bipush (v := 43) (pc := 105) dX4_sum_105 (by decide) ?_
            refine go_icmp_eq (tgt := 117) (pc := 107) dX4_sum_107 (by decide) (fun h_107 => ?_) (fun h_107 => ?_)
            · have hvv : v_100 = 43 ∨ v_100 = 45 := by
                first
                  | (have g_q : v_100 = 43 := h_107
                     exact Or.inl g_q)
                  | (have g_q : v_100 = 45 := h_113
                     exact Or.inr g_q)
              have hk0 : (eS i_q sg s7).bad = 0 → kd (eS i_q sg s7).l ≠ 0 := fun e_q => by rw [← hkv e_q]; exact hvv.elim (fun x_q => by rw [x_q]; decide) (fun x_q => by rw [x_q]; decide)
              obtain ⟨tk, t_q, sz, pl, r0, hop, hop2⟩ := hC.op (fun e_q => kd_ne rfl (hk0 e_q))
              refine go_aload_n (pc := 117) dX4_sum_117 rfl ?_
              refine go_dup (pc := 118) dX4_sum_118 rfl ?_
              refine go_getf (pc := 119) f_X4_28 dX4_sum_119 (by exact r0) (by rfl) ?_
              refine go_iconst (v := 1) (pc := 122) dX4_sum_122 (by decide) ?_
              refine go_iadd (pc := 123) dX4_sum_123 ?_
              refine go_putf (fs' := [_, _, _, _, _, _, _, _, _, _, _, _]) (pc := 124) f_X4_28 dX4_sum_124 (by exact r0) (Nat.le_of_ble_eq_true rfl) (by rfl) rfl rfl ?_
              refine go_set (P := fun x_q => CrAt Γ x_q a N b_q (nI (w + 3)) (adv (eS i_q sg s7)) ∧ ∀ q, q ≠ a + 71 → q ≠ a + 80 → x_q q = z0 q) ⟨(adv_c (P := CrAt Γ _ a N b_q (nI (w + 3))) hop hop2), fun q h1_q h2_q => sup_ne h1_q (hq_q q h1_q h2_q)⟩ (fun σ hx_q => ?_)
              obtain ⟨hC, hq_q⟩ := hx_q
              obtain ⟨tk, t_q, sz, pl, r0⟩ := hC.r0
              refine go_iinc (v := 1) (lw := [_, _, _, _, _]) (pc := 127) dX4_sum_127 rfl (by decide) (by decide) rfl ?_
              refine go_goto (tgt := 5) (pc := 130) dX4_sum_130 (by decide) ?_
              rw [nI_1]
              exact ih0 _ _ _ _ (adv_mB hk0 h_16 (by rw [u6]; exact hl7)) ⟨_, v_100, i_q + 1, _, rfl, hC, hq_q, (by rw [sm_step hkv hvv]; exact hE), (fun e_q => by have t1_q := (adv_tb hk0 e_q).2; have t2 := hi_q h_16; rw [u6] at t1_q; omega), (by have := hi_q h_16; omega), (Nat.le_trans adv_len (by rw [u6]; omega)), (Nat.le_trans adv_tot u5), (fun e_q _ => by have t1_q := (adv_tb hk0 e_q).1; omega), (vOK.av (by rw [u6]; exact hv7)), hvv, rfl, rfl⟩
            · refine go_iload_n (pc := 110) dX4_sum_110 rfl ?_
              refine go_bipush (v := 45) (pc := 111) dX4_sum_111 (by decide) ?_
              refine go_icmp_eq (tgt := 117) (pc := 113) dX4_sum_113 (by decide) (fun h_113 => ?_) (fun h_113 => ?_)
              · have hvv : v_100 = 43 ∨ v_100 = 45 := by
                  first
                    | (have g_q : v_100 = 43 := h_107
                       exact Or.inl g_q)
                    | (have g_q : v_100 = 45 := h_113
                       exact Or.inr g_q)
                have hk0 : (eS i_q sg s7).bad = 0 → kd (eS i_q sg s7).l ≠ 0 := fun e_q => by rw [← hkv e_q]; exact hvv.elim (fun x_q => by rw [x_q]; decide) (fun x_q => by rw [x_q]; decide)
                obtain ⟨tk, t_q, sz, pl, r0, hop, hop2⟩ := hC.op (fun e_q => kd_ne rfl (hk0 e_q))
                refine go_aload_n (pc := 117) dX4_sum_117 rfl ?_
                refine go_dup (pc := 118) dX4_sum_118 rfl ?_
                refine go_getf (pc := 119) f_X4_28 dX4_sum_119 (by exact r0) (by rfl) ?_
                refine go_iconst (v := 1) (pc := 122) dX4_sum_122 (by decide) ?_
                refine go_iadd (pc := 123) dX4_sum_123 ?_
                refine go_putf (fs' := [_, _, _, _, _, _, _, _, _, _, _, _]) (pc := 124) f_X4_28 dX4_sum_124 (by exact r0) (Nat.le_of_ble_eq_true rfl) (by rfl) rfl rfl ?_
                refine go_set (P := fun x_q => CrAt Γ x_q a N b_q (nI (w + 3)) (adv (eS i_q sg s7)) ∧ ∀ q, q ≠ a + 71 → q ≠ a + 80 → x_q q = z0 q) ⟨(adv_c (P := CrAt Γ _ a N b_q (nI (w + 3))) hop hop2), fun q h1_q h2_q => sup_ne h1_q (hq_q q h1_q h2_q)⟩ (fun σ hx_q => ?_)
                obtain ⟨hC, hq_q⟩ := hx_q
                obtain ⟨tk, t_q, sz, pl, r0⟩ := hC.r0
                refine go_iinc (v := 1) (lw := [_, _, _, _, _]) (pc := 127) dX4_sum_127 rfl (by decide) (by decide) rfl ?_
                refine go_goto (tgt := 5) (pc := 130) dX4_sum_130 (by decide) ?_
                rw [nI_1]
                exact ih0 _ _ _ _ (adv_mB hk0 h_16 (by rw [u6]; exact hl7)) ⟨_, v_100, i_q + 1, _, rfl, hC, hq_q, (by rw [sm_step hkv hvv]; exact hE), (fun e_q => by have t1_q := (adv_tb hk0 e_q).2; have t2 := hi_q h_16; rw [u6] at t1_q; omega), (by have := hi_q h_16; omega), (Nat.le_trans adv_len (by rw [u6]; omega)), (Nat.le_trans adv_tot u5), (fun e_q _ => by have t1_q := (adv_tb hk0 e_q).1; omega), (vOK.av (by rw [u6]; exact hv7)), hvv, rfl, rfl⟩
              · exact go_vretV (pc := 116) rfl dX4_sum_116 (Nat.le_of_ble_eq_true rfl) (Nat.le_of_ble_eq_true rfl) (by rw [← hE, pP_6, if_neg (fun c_q => c_q.2.elim (fun x_q => h_107 ((hkv c_q.1).trans x_q)) (fun x_q => h_113 ((hkv c_q.1).trans x_q)))]; exact ⟨rfl, hC, hq_q⟩)
      · refine go_aload_n (pc := 42) dX4_sum_42 rfl ?_
        refine go_V0I (pc := 43) v_X4_82 rfl rfl (rcv_of (ci := 4) (by exact r0) rfl) dX4_sum_43 (cp_kindT (k := k - 1) hC) (fun v_43 σ n h_q => ?_)
        obtain ⟨e1_q, e2_q, hkv⟩ := h_q
        obtain rfl := e1_q.symm
        obtain rfl := e2_q.symm
        obtain rfl := hkv h_39
        refine go_bipush (v := 42) (pc := 46) dX4_sum_46 (by decide) ?_
        refine go_icmp_ne (tgt := 78) (pc := 48) dX4_sum_48 (by decide) (fun h_48 => ?_) (fun h_48 => ?_)
        · have e7_q : pP N w 7 d_q s9 = s7 := by
            rw [← hE7, pP_8]
            first
              | (have g_q : ¬ s7.bad = 0 := h_39
                 rw [if_neg (fun c_q => g_q c_q.1)])
              | (have g_q : ¬ kd s7.l = 42 := h_48
                 rw [if_neg (fun c_q => g_q c_q.2)])
          rw [e7_q] at hE
          have u1 := pP_tot (N := N) (w := w) (d := d_q) (s := s9) (t := 7) (by omega)
          rw [e7_q] at u1
          have u2 : i_q ≠ 0 → tot s7 ≤ 898 := fun e_q => Nat.le_trans u1 (htb h_16 e_q)
          have u3 := st_tot u1
          have u4 := st_tot ht7
          refine go_iload_n (pc := 78) dX4_sum_78 rfl ?_
          refine go_if_le (tgt := 99) (pc := 79) dX4_sum_79 (by decide) (fun h_79 => ?_) (fun h_79 => ?_)
          · have hC : CrAt Γ σ a N b_q (nI (w + 3)) (eS i_q sg s7) := by
              first
                | (have g_q : nI i_q ≤ 0 := h_79
                   have gi : i_q = 0 := Decidable.byContradiction (fun e_q => nI_nle (by omega) (by omega) g_q)
                   rw [eS, if_pos gi]
                   exact hC)
                | (have g_q : ¬ nI i_q ≤ 0 := h_79
                   have gi : i_q ≠ 0 := fun e_q => g_q (by rw [e_q]; decide)
                   rw [eS, if_neg gi]
                   exact hC)
            have u5 : tot (eS i_q sg s7) ≤ 899 := eS_t (m := 898) ht7 u2
            have u6 : (eS i_q sg s7).l = s7.l := eS_l
            refine go_aload_n (pc := 99) dX4_sum_99 rfl ?_
            refine go_V0I (pc := 100) v_X4_82 rfl rfl (rcv_of (ci := 4) (by exact r0) rfl) dX4_sum_100 (cp_kindT (k := k - 1) hC) (fun v_100 σ n h_q => ?_)
            obtain ⟨e1_q, e2_q, hkv⟩ := h_q
            obtain rfl := e1_q.symm
            obtain rfl := e2_q.symm
            refine go_istore_n (lw := [_, _, _, _, _]) (pc := 103) dX4_sum_103 (by decide) rfl ?_
            refine go_iload_n (pc := 104) dX4_sum_104 rfl ?_
            refine go_bipush (v := 43) (pc := 105) dX4_sum_105 (by decide) ?_
            refine go_icmp_eq (tgt := 117) (pc := 107) dX4_sum_107 (by decide) (fun h_107 => ?_) (fun h_107 => ?_)
            · have hvv : v_100 = 43 ∨ v_100 = 45 := by
                first
                  | (have g_q : v_100 = 43 := h_107
                     exact Or.inl g_q)
                  | (have g_q : v_100 = 45 := h_113
                     exact Or.inr g_q)
              have hk0 : (eS i_q sg s7).bad = 0 → kd (eS i_q sg s7).l ≠ 0 := fun e_q => by rw [← hkv e_q]; exact hvv.elim (fun x_q => by rw [x_q]; decide) (fun x_q => by rw [x_q]; decide)
              obtain ⟨tk, t_q, sz, pl, r0, hop, hop2⟩ := hC.op (fun e_q => kd_ne rfl (hk0 e_q))
              refine go_aload_n (pc := 117) dX4_sum_117 rfl ?_
              refine go_dup (pc := 118) dX4_sum_118 rfl ?_
              refine go_getf (pc := 119) f_X4_28 dX4_sum_119 (by exact r0) (by rfl) ?_
              refine go_iconst (v := 1) (pc := 122) dX4_sum_122 (by decide) ?_
              refine go_iadd (pc := 123) dX4_sum_123 ?_
              refine go_putf (fs' := [_, _, _, _, _, _, _, _, _, _, _, _]) (pc := 124) f_X4_28 dX4_sum_124 (by exact r0) (Nat.le_of_ble_eq_true rfl) (by rfl) rfl rfl ?_
              refine go_set (P := fun x_q => CrAt Γ x_q a N b_q (nI (w + 3)) (adv (eS i_q sg s7)) ∧ ∀ q, q ≠ a + 71 → q ≠ a + 80 → x_q q = z0 q) ⟨(adv_c (P := CrAt Γ _ a N b_q (nI (w + 3))) hop hop2), fun q h1_q h2_q => sup_ne h1_q (hq_q q h1_q h2_q)⟩ (fun σ hx_q => ?_)
              obtain ⟨hC, hq_q⟩ := hx_q
              obtain ⟨tk, t_q, sz, pl, r0⟩ := hC.r0
              refine go_iinc (v := 1) (lw := [_, _, _, _, _]) (pc := 127) dX4_sum_127 rfl (by decide) (by decide) rfl ?_
              refine go_goto (tgt := 5) (pc := 130) dX4_sum_130 (by decide) ?_
              rw [nI_1]
              exact ih0 _ _ _ _ (adv_mB hk0 h_16 (by rw [u6]; exact hl7)) ⟨_, v_100, i_q + 1, _, rfl, hC, hq_q, (by rw [sm_step hkv hvv]; exact hE), (fun e_q => by have t1_q := (adv_tb hk0 e_q).2; have t2 := hi_q h_16; rw [u6] at t1_q; omega), (by have := hi_q h_16; omega), (Nat.le_trans adv_len (by rw [u6]; omega)), (Nat.le_trans adv_tot u5), (fun e_q _ => by have t1_q := (adv_tb hk0 e_q).1; omega), (vOK.av (by rw [u6]; exact hv7)), hvv, rfl, rfl⟩
            · refine go_iload_n (pc := 110) dX4_sum_110 rfl ?_
              refine go_bipush (v := 45) (pc := 111) dX4_sum_111 (by decide) ?_
              refine go_icmp_eq (tgt := 117) (pc := 113) dX4_sum_113 (by decide) (fun h_113 => ?_) (fun h_113 => ?_)
              · have hvv : v_100 = 43 ∨ v_100 = 45 := by
                  first
                    | (have g_q : v_100 = 43 := h_107
                       exact Or.inl g_q)
                    | (have g_q : v_100 = 45 := h_113
                       exact Or.inr g_q)
                have hk0 : (eS i_q sg s7).bad = 0 → kd (eS i_q sg s7).l ≠ 0 := fun e_q => by rw [← hkv e_q]; exact hvv.elim (fun x_q => by rw [x_q]; decide) (fun x_q => by rw [x_q]; decide)
                obtain ⟨tk, t_q, sz, pl, r0, hop, hop2⟩ := hC.op (fun e_q => kd_ne rfl (hk0 e_q))
                refine go_aload_n (pc := 117) dX4_sum_117 rfl ?_
                refine go_dup (pc := 118) dX4_sum_118 rfl ?_
                refine go_getf (pc := 119) f_X4_28 dX4_sum_119 (by exact r0) (by rfl) ?_
                refine go_iconst (v := 1) (pc := 122) dX4_sum_122 (by decide) ?_
                refine go_iadd (pc := 123) dX4_sum_123 ?_
                refine go_putf (fs' := [_, _, _, _, _, _, _, _, _, _, _, _]) (pc := 124) f_X4_28 dX4_sum_124 (by exact r0) (Nat.le_of_ble_eq_true rfl) (by rfl) rfl rfl ?_
                refine go_set (P := fun x_q => CrAt Γ x_q a N b_q (nI (w + 3)) (adv (eS i_q sg s7)) ∧ ∀ q, q ≠ a + 71 → q ≠ a + 80 → x_q q = z0 q) ⟨(adv_c (P := CrAt Γ _ a N b_q (nI (w + 3))) hop hop2), fun q h1_q h2_q => sup_ne h1_q (hq_q q h1_q h2_q)⟩ (fun σ hx_q => ?_)
                obtain ⟨hC, hq_q⟩ := hx_q
                obtain ⟨tk, t_q, sz, pl, r0⟩ := hC.r0
                refine go_iinc (v := 1) (lw := [_, _, _, _, _]) (pc := 127) dX4_sum_127 rfl (by decide) (by decide) rfl ?_
                refine go_goto (tgt := 5) (pc := 130) dX4_sum_130 (by decide) ?_
                rw [nI_1]
                exact ih0 _ _ _ _ (adv_mB hk0 h_16 (by rw [u6]; exact hl7)) ⟨_, v_100, i_q + 1, _, rfl, hC, hq_q, (by rw [sm_step hkv hvv]; exact hE), (fun e_q => by have t1_q := (adv_tb hk0 e_q).2; have t2 := hi_q h_16; rw [u6] at t1_q; omega), (by have := hi_q h_16; omega), (Nat.le_trans adv_len (by rw [u6]; omega)), (Nat.le_trans adv_tot u5), (fun e_q _ => by have t1_q := (adv_tb hk0 e_q).1; omega), (vOK.av (by rw [u6]; exact hv7)), hvv, rfl, rfl⟩
              · exact go_vretV (pc := 116) rfl dX4_sum_116 (Nat.le_of_ble_eq_true rfl) (Nat.le_of_ble_eq_true rfl) (by rw [← hE, pP_6, if_neg (fun c_q => c_q.2.elim (fun x_q => h_107 ((hkv c_q.1).trans x_q)) (fun x_q => h_113 ((hkv c_q.1).trans x_q)))]; exact ⟨rfl, hC, hq_q⟩)
          · refine go_aload_n (pc := 82) dX4_sum_82 rfl ?_
            refine go_iload_n (pc := 83) dX4_sum_83 rfl ?_
            refine go_bipush (v := 43) (pc := 84) dX4_sum_84 (by decide) ?_
            refine go_icmp_ne (tgt := 94) (pc := 86) dX4_sum_86 (by decide) (fun h_86 => ?_) (fun h_86 => ?_)
            · refine go_bipush (v := -13) (pc := 94) dX4_sum_94 (by decide) ?_
              refine go_V1V (pc := 96) v_X4_218 rfl rfl (rcv_of (ci := 4) (by exact r0) rfl) dX4_sum_96 (cp_emitT (k := k - 1) hC (c2 := (if sg = 43 then 10 else 11)) (by first | (have g_q : sg = 43 := h_86; rw [if_pos g_q]; decide) | (have g_q : ¬ sg = 43 := h_86; rw [if_neg g_q]; decide)) (by omega)) (fun σ n h_q => ?_)
              obtain ⟨rfl, hC, hq1⟩ := h_q
              have hq_q : ∀ q, q ≠ a + 71 → q ≠ a + 80 → σ q = z0 q := fun q h1_q h2_q => (hq1 q h1_q h2_q).trans (hq_q q h1_q h2_q)
              obtain ⟨tk, t_q, sz, pl, r0⟩ := hC.r0
              have hC : CrAt Γ σ a N b_q (nI (w + 3)) (eS i_q sg s7) := by
                first
                  | (have g_q : nI i_q ≤ 0 := h_79
                     have gi : i_q = 0 := Decidable.byContradiction (fun e_q => nI_nle (by omega) (by omega) g_q)
                     rw [eS, if_pos gi]
                     exact hC)
                  | (have g_q : ¬ nI i_q ≤ 0 := h_79
                     have gi : i_q ≠ 0 := fun e_q => g_q (by rw [e_q]; decide)
                     rw [eS, if_neg gi]
                     exact hC)
              have u5 : tot (eS i_q sg s7) ≤ 899 := eS_t (m := 898) ht7 u2
              have u6 : (eS i_q sg s7).l = s7.l := eS_l
              refine go_aload_n (pc := 99) dX4_sum_99 rfl ?_
              refine go_V0I (pc := 100) v_X4_82 rfl rfl (rcv_of (ci := 4) (by exact r0) rfl) dX4_sum_100 (cp_kindT (k := k - 1) hC) (fun v_100 σ n h_q => ?_)
              obtain ⟨e1_q, e2_q, hkv⟩ := h_q
              obtain rfl := e1_q.symm
              obtain rfl := e2_q.symm
              refine go_istore_n (lw := [_, _, _, _, _]) (pc := 103) dX4_sum_103 (by decide) rfl ?_
              refine go_iload_n (pc := 104) dX4_sum_104 rfl ?_
              refine go_bipush (v := 43) (pc := 105) dX4_sum_105 (by decide) ?_
              refine go_icmp_eq (tgt := 117) (pc := 107) dX4_sum_107 (by decide) (fun h_107 => ?_) (fun h_107 => ?_)
              · have hvv : v_100 = 43 ∨ v_100 = 45 := by
                  first
                    | (have g_q : v_100 = 43 := h_107
                       exact Or.inl g_q)
                    | (have g_q : v_100 = 45 := h_113
                       exact Or.inr g_q)
                have hk0 : (eS i_q sg s7).bad = 0 → kd (eS i_q sg s7).l ≠ 0 := fun e_q => by rw [← hkv e_q]; exact hvv.elim (fun x_q => by rw [x_q]; decide) (fun x_q => by rw [x_q]; decide)
                obtain ⟨tk, t_q, sz, pl, r0, hop, hop2⟩ := hC.op (fun e_q => kd_ne rfl (hk0 e_q))
                refine go_aload_n (pc := 117) dX4_sum_117 rfl ?_
                refine go_dup (pc := 118) dX4_sum_118 rfl ?_
                refine go_getf (pc := 119) f_X4_28 dX4_sum_119 (by exact r0) (by rfl) ?_
                refine go_iconst (v := 1) (pc := 122) dX4_sum_122 (by decide) ?_
                refine go_iadd (pc := 123) dX4_sum_123 ?_
                refine go_putf (fs' := [_, _, _, _, _, _, _, _, _, _, _, _]) (pc := 124) f_X4_28 dX4_sum_124 (by exact r0) (Nat.le_of_ble_eq_true rfl) (by rfl) rfl rfl ?_
                refine go_set (P := fun x_q => CrAt Γ x_q a N b_q (nI (w + 3)) (adv (eS i_q sg s7)) ∧ ∀ q, q ≠ a + 71 → q ≠ a + 80 → x_q q = z0 q) ⟨(adv_c (P := CrAt Γ _ a N b_q (nI (w + 3))) hop hop2), fun q h1_q h2_q => sup_ne h1_q (hq_q q h1_q h2_q)⟩ (fun σ hx_q => ?_)
                obtain ⟨hC, hq_q⟩ := hx_q
                obtain ⟨tk, t_q, sz, pl, r0⟩ := hC.r0
                refine go_iinc (v := 1) (lw := [_, _, _, _, _]) (pc := 127) dX4_sum_127 rfl (by decide) (by decide) rfl ?_
                refine go_goto (tgt := 5) (pc := 130) dX4_sum_130 (by decide) ?_
                rw [nI_1]
                exact ih0 _ _ _ _ (adv_mB hk0 h_16 (by rw [u6]; exact hl7)) ⟨_, v_100, i_q + 1, _, rfl, hC, hq_q, (by rw [sm_step hkv hvv]; exact hE), (fun e_q => by have t1_q := (adv_tb hk0 e_q).2; have t2 := hi_q h_16; rw [u6] at t1_q; omega), (by have := hi_q h_16; omega), (Nat.le_trans adv_len (by rw [u6]; omega)), (Nat.le_trans adv_tot u5), (fun e_q _ => by have t1_q := (adv_tb hk0 e_q).1; omega), (vOK.av (by rw [u6]; exact hv7)), hvv, rfl, rfl⟩
              · refine go_iload_n (pc := 110) dX4_sum_110 rfl ?_
                refine go_bipush (v := 45) (pc := 111) dX4_sum_111 (by decide) ?_
                refine go_icmp_eq (tgt := 117) (pc := 113) dX4_sum_113 (by decide) (fun h_113 => ?_) (fun h_113 => ?_)
                · have hvv : v_100 = 43 ∨ v_100 = 45 := by
                    first
                      | (have g_q : v_100 = 43 := h_107
                         exact Or.inl g_q)
                      | (have g_q : v_100 = 45 := h_113
                         exact Or.inr g_q)
                  have hk0 : (eS i_q sg s7).bad = 0 → kd (eS i_q sg s7).l ≠ 0 := fun e_q => by rw [← hkv e_q]; exact hvv.elim (fun x_q => by rw [x_q]; decide) (fun x_q => by rw [x_q]; decide)
                  obtain ⟨tk, t_q, sz, pl, r0, hop, hop2⟩ := hC.op (fun e_q => kd_ne rfl (hk0 e_q))
                  refine go_aload_n (pc := 117) dX4_sum_117 rfl ?_
                  refine go_dup (pc := 118) dX4_sum_118 rfl ?_
                  refine go_getf (pc := 119) f_X4_28 dX4_sum_119 (by exact r0) (by rfl) ?_
                  refine go_iconst (v := 1) (pc := 122) dX4_sum_122 (by decide) ?_
                  refine go_iadd (pc := 123) dX4_sum_123 ?_
                  refine go_putf (fs' := [_, _, _, _, _, _, _, _, _, _, _, _]) (pc := 124) f_X4_28 dX4_sum_124 (by exact r0) (Nat.le_of_ble_eq_true rfl) (by rfl) rfl rfl ?_
                  refine go_set (P := fun x_q => CrAt Γ x_q a N b_q (nI (w + 3)) (adv (eS i_q sg s7)) ∧ ∀ q, q ≠ a + 71 → q ≠ a + 80 → x_q q = z0 q) ⟨(adv_c (P := CrAt Γ _ a N b_q (nI (w + 3))) hop hop2), fun q h1_q h2_q => sup_ne h1_q (hq_q q h1_q h2_q)⟩ (fun σ hx_q => ?_)
                  obtain ⟨hC, hq_q⟩ := hx_q
                  obtain ⟨tk, t_q, sz, pl, r0⟩ := hC.r0
                  refine go_iinc (v := 1) (lw := [_, _, _, _, _]) (pc := 127) dX4_sum_127 rfl (by decide) (by decide) rfl ?_
                  refine go_goto (tgt := 5) (pc := 130) dX4_sum_130 (by decide) ?_
                  rw [nI_1]
                  exact ih0 _ _ _ _ (adv_mB hk0 h_16 (by rw [u6]; exact hl7)) ⟨_, v_100, i_q + 1, _, rfl, hC, hq_q, (by rw [sm_step hkv hvv]; exact hE), (fun e_q => by have t1_q := (adv_tb hk0 e_q).2; have t2 := hi_q h_16; rw [u6] at t1_q; omega), (by have := hi_q h_16; omega), (Nat.le_trans adv_len (by rw [u6]; omega)), (Nat.le_trans adv_tot u5), (fun e_q _ => by have t1_q := (adv_tb hk0 e_q).1; omega), (vOK.av (by rw [u6]; exact hv7)), hvv, rfl, rfl⟩
                · exact go_vretV (pc := 116) rfl dX4_sum_116 (Nat.le_of_ble_eq_true rfl) (Nat.le_of_ble_eq_true rfl) (by rw [← hE, pP_6, if_neg (fun c_q => c_q.2.elim (fun x_q => h_107 ((hkv c_q.1).trans x_q)) (fun x_q => h_113 ((hkv c_q.1).trans x_q)))]; exact ⟨rfl, hC, hq_q⟩)
            · refine go_bipush (v := -12) (pc := 89) dX4_sum_89 (by decide) ?_
              refine go_goto (tgt := 96) (pc := 91) dX4_sum_91 (by decide) ?_
              refine go_V1V (pc := 96) v_X4_218 rfl rfl (rcv_of (ci := 4) (by exact r0) rfl) dX4_sum_96 (cp_emitT (k := k - 1) hC (c2 := (if sg = 43 then 10 else 11)) (by first | (have g_q : sg = 43 := h_86; rw [if_pos g_q]; decide) | (have g_q : ¬ sg = 43 := h_86; rw [if_neg g_q]; decide)) (by omega)) (fun σ n h_q => ?_)
              obtain ⟨rfl, hC, hq1⟩ := h_q
              have hq_q : ∀ q, q ≠ a + 71 → q ≠ a + 80 → σ q = z0 q := fun q h1_q h2_q => (hq1 q h1_q h2_q).trans (hq_q q h1_q h2_q)
              obtain ⟨tk, t_q, sz, pl, r0⟩ := hC.r0
              have hC : CrAt Γ σ a N b_q (nI (w + 3)) (eS i_q sg s7) := by
                first
                  | (have g_q : nI i_q ≤ 0 := h_79
                     have gi : i_q = 0 := Decidable.byContradiction (fun e_q => nI_nle (by omega) (by omega) g_q)
                     rw [eS, if_pos gi]
                     exact hC)
                  | (have g_q : ¬ nI i_q ≤ 0 := h_79
                     have gi : i_q ≠ 0 := fun e_q => g_q (by rw [e_q]; decide)
                     rw [eS, if_neg gi]
                     exact hC)
              have u5 : tot (eS i_q sg s7) ≤ 899 := eS_t (m := 898) ht7 u2
              have u6 : (eS i_q sg s7).l = s7.l := eS_l
              refine go_aload_n (pc := 99) dX4_sum_99 rfl ?_
              refine go_V0I (pc := 100) v_X4_82 rfl rfl (rcv_of (ci := 4) (by exact r0) rfl) dX4_sum_100 (cp_kindT (k := k - 1) hC) (fun v_100 σ n h_q => ?_)
              obtain ⟨e1_q, e2_q, hkv⟩ := h_q
              obtain rfl := e1_q.symm
              obtain rfl := e2_q.symm
              refine go_istore_n (lw := [_, _, _, _, _]) (pc := 103) dX4_sum_103 (by decide) rfl ?_
              refine go_iload_n (pc := 104) dX4_sum_104 rfl ?_
              refine go_bipush (v := 43) (pc := 105) dX4_sum_105 (by decide) ?_
              refine go_icmp_eq (tgt := 117) (pc := 107) dX4_sum_107 (by decide) (fun h_107 => ?_) (fun h_107 => ?_)
              · have hvv : v_100 = 43 ∨ v_100 = 45 := by
                  first
                    | (have g_q : v_100 = 43 := h_107
                       exact Or.inl g_q)
                    | (have g_q : v_100 = 45 := h_113
                       exact Or.inr g_q)
                have hk0 : (eS i_q sg s7).bad = 0 → kd (eS i_q sg s7).l ≠ 0 := fun e_q => by rw [← hkv e_q]; exact hvv.elim (fun x_q => by rw [x_q]; decide) (fun x_q => by rw [x_q]; decide)
                obtain ⟨tk, t_q, sz, pl, r0, hop, hop2⟩ := hC.op (fun e_q => kd_ne rfl (hk0 e_q))
                refine go_aload_n (pc := 117) dX4_sum_117 rfl ?_
                refine go_dup (pc := 118) dX4_sum_118 rfl ?_
                refine go_getf (pc := 119) f_X4_28 dX4_sum_119 (by exact r0) (by rfl) ?_
                refine go_iconst (v := 1) (pc := 122) dX4_sum_122 (by decide) ?_
                refine go_iadd (pc := 123) dX4_sum_123 ?_
                refine go_putf (fs' := [_, _, _, _, _, _, _, _, _, _, _, _]) (pc := 124) f_X4_28 dX4_sum_124 (by exact r0) (Nat.le_of_ble_eq_true rfl) (by rfl) rfl rfl ?_
                refine go_set (P := fun x_q => CrAt Γ x_q a N b_q (nI (w + 3)) (adv (eS i_q sg s7)) ∧ ∀ q, q ≠ a + 71 → q ≠ a + 80 → x_q q = z0 q) ⟨(adv_c (P := CrAt Γ _ a N b_q (nI (w + 3))) hop hop2), fun q h1_q h2_q => sup_ne h1_q (hq_q q h1_q h2_q)⟩ (fun σ hx_q => ?_)
                obtain ⟨hC, hq_q⟩ := hx_q
                obtain ⟨tk, t_q, sz, pl, r0⟩ := hC.r0
                refine go_iinc (v := 1) (lw := [_, _, _, _, _]) (pc := 127) dX4_sum_127 rfl (by decide) (by decide) rfl ?_
                refine go_goto (tgt := 5) (pc := 130) dX4_sum_130 (by decide) ?_
                rw [nI_1]
                exact ih0 _ _ _ _ (adv_mB hk0 h_16 (by rw [u6]; exact hl7)) ⟨_, v_100, i_q + 1, _, rfl, hC, hq_q, (by rw [sm_step hkv hvv]; exact hE), (fun e_q => by have t1_q := (adv_tb hk0 e_q).2; have t2 := hi_q h_16; rw [u6] at t1_q; omega), (by have := hi_q h_16; omega), (Nat.le_trans adv_len (by rw [u6]; omega)), (Nat.le_trans adv_tot u5), (fun e_q _ => by have t1_q := (adv_tb hk0 e_q).1; omega), (vOK.av (by rw [u6]; exact hv7)), hvv, rfl, rfl⟩
              · refine go_iload_n (pc := 110) dX4_sum_110 rfl ?_
                refine go_bipush (v := 45) (pc := 111) dX4_sum_111 (by decide) ?_
                refine go_icmp_eq (tgt := 117) (pc := 113) dX4_sum_113 (by decide) (fun h_113 => ?_) (fun h_113 => ?_)
                · have hvv : v_100 = 43 ∨ v_100 = 45 := by
                    first
                      | (have g_q : v_100 = 43 := h_107
                         exact Or.inl g_q)
                      | (have g_q : v_100 = 45 := h_113
                         exact Or.inr g_q)
                  have hk0 : (eS i_q sg s7).bad = 0 → kd (eS i_q sg s7).l ≠ 0 := fun e_q => by rw [← hkv e_q]; exact hvv.elim (fun x_q => by rw [x_q]; decide) (fun x_q => by rw [x_q]; decide)
                  obtain ⟨tk, t_q, sz, pl, r0, hop, hop2⟩ := hC.op (fun e_q => kd_ne rfl (hk0 e_q))
                  refine go_aload_n (pc := 117) dX4_sum_117 rfl ?_
                  refine go_dup (pc := 118) dX4_sum_118 rfl ?_
                  refine go_getf (pc := 119) f_X4_28 dX4_sum_119 (by exact r0) (by rfl) ?_
                  refine go_iconst (v := 1) (pc := 122) dX4_sum_122 (by decide) ?_
                  refine go_iadd (pc := 123) dX4_sum_123 ?_
                  refine go_putf (fs' := [_, _, _, _, _, _, _, _, _, _, _, _]) (pc := 124) f_X4_28 dX4_sum_124 (by exact r0) (Nat.le_of_ble_eq_true rfl) (by rfl) rfl rfl ?_
                  refine go_set (P := fun x_q => CrAt Γ x_q a N b_q (nI (w + 3)) (adv (eS i_q sg s7)) ∧ ∀ q, q ≠ a + 71 → q ≠ a + 80 → x_q q = z0 q) ⟨(adv_c (P := CrAt Γ _ a N b_q (nI (w + 3))) hop hop2), fun q h1_q h2_q => sup_ne h1_q (hq_q q h1_q h2_q)⟩ (fun σ hx_q => ?_)
                  obtain ⟨hC, hq_q⟩ := hx_q
                  obtain ⟨tk, t_q, sz, pl, r0⟩ := hC.r0
                  refine go_iinc (v := 1) (lw := [_, _, _, _, _]) (pc := 127) dX4_sum_127 rfl (by decide) (by decide) rfl ?_
                  refine go_goto (tgt := 5) (pc := 130) dX4_sum_130 (by decide) ?_
                  rw [nI_1]
                  exact ih0 _ _ _ _ (adv_mB hk0 h_16 (by rw [u6]; exact hl7)) ⟨_, v_100, i_q + 1, _, rfl, hC, hq_q, (by rw [sm_step hkv hvv]; exact hE), (fun e_q => by have t1_q := (adv_tb hk0 e_q).2; have t2 := hi_q h_16; rw [u6] at t1_q; omega), (by have := hi_q h_16; omega), (Nat.le_trans adv_len (by rw [u6]; omega)), (Nat.le_trans adv_tot u5), (fun e_q _ => by have t1_q := (adv_tb hk0 e_q).1; omega), (vOK.av (by rw [u6]; exact hv7)), hvv, rfl, rfl⟩
                · exact go_vretV (pc := 116) rfl dX4_sum_116 (Nat.le_of_ble_eq_true rfl) (Nat.le_of_ble_eq_true rfl) (by rw [← hE, pP_6, if_neg (fun c_q => c_q.2.elim (fun x_q => h_107 ((hkv c_q.1).trans x_q)) (fun x_q => h_113 ((hkv c_q.1).trans x_q)))]; exact ⟨rfl, hC, hq_q⟩)
        · have g48 : kd s7.l = 42 := h_48
          have n1 := nx_lt g48 (by decide)
          have n2 := tot_ne g48 (by decide)
          have n3 := pP_len (N := N) (w := w) (d := d_q) (s := nextP s7) (t := 9) (by omega)
          have n4 := pP_tot (N := N) (w := w) (d := d_q) (s := nextP s7) (t := 9) (by omega)
          have n5 := st_tot n4
          have n6 := tot_em (c := 12) (s := pP N w 9 d_q (nextP s7))
          have n7 : (emitP 12 (pP N w 9 d_q (nextP s7))).l = _ := len_emit
          obtain ⟨tk, t_q, sz, pl, r0, hop, hop2⟩ := hC.op (fun _ => kd_ne g48 (by decide))
          refine go_aload_n (pc := 51) dX4_sum_51 rfl ?_
          refine go_dup (pc := 52) dX4_sum_52 rfl ?_
          refine go_getf (pc := 53) f_X4_28 dX4_sum_53 (by exact r0) (by rfl) ?_
          refine go_iconst (v := 1) (pc := 56) dX4_sum_56 (by decide) ?_
          refine go_iadd (pc := 57) dX4_sum_57 ?_
          refine go_putf (fs' := [_, _, _, _, _, _, _, _, _, _, _, _]) (pc := 58) f_X4_28 dX4_sum_58 (by exact r0) (Nat.le_of_ble_eq_true rfl) (by rfl) rfl rfl ?_
          refine go_set (P := fun x_q => CrAt Γ x_q a N b_q (nI (w + 3)) (nextP (s7)) ∧ ∀ q, q ≠ a + 71 → q ≠ a + 80 → x_q q = z0 q) ⟨hop h_39, fun q h1_q h2_q => sup_ne h1_q (hq_q q h1_q h2_q)⟩ (fun σ hx_q => ?_)
          obtain ⟨hC, hq_q⟩ := hx_q
          obtain ⟨tk, t_q, sz, pl, r0⟩ := hC.r0
          refine go_aload_n (pc := 61) dX4_sum_61 rfl ?_
          refine go_iload_n (pc := 62) dX4_sum_62 rfl ?_
          refine go_V1V (pc := 63) v_X4_221 rfl rfl (rcv_of (ci := 4) (by exact r0) rfl) dX4_sum_63 (hc9 (nextP s7) (by omega) _ _ (k - 1) hC (by omega) hv7.nx (by omega)) (fun σ n h_q => ?_)
          obtain ⟨rfl, hC, hq1⟩ := h_q
          have hq_q : ∀ q, q ≠ a + 71 → q ≠ a + 80 → σ q = z0 q := fun q h1_q h2_q => (hq1 q h1_q h2_q).trans (hq_q q h1_q h2_q)
          obtain ⟨tk, t_q, sz, pl, r0⟩ := hC.r0
          refine go_aload_n (pc := 66) dX4_sum_66 rfl ?_
          refine go_bipush (v := -14) (pc := 67) dX4_sum_67 (by decide) ?_
          refine go_V1V (pc := 69) v_X4_218 rfl rfl (rcv_of (ci := 4) (by exact r0) rfl) dX4_sum_69 (cp_emitT (k := k - 1) hC (c2 := 12) (by decide) (by omega)) (fun σ n h_q => ?_)
          obtain ⟨rfl, hC, hq1⟩ := h_q
          have hq_q : ∀ q, q ≠ a + 71 → q ≠ a + 80 → σ q = z0 q := fun q h1_q h2_q => (hq1 q h1_q h2_q).trans (hq_q q h1_q h2_q)
          obtain ⟨tk, t_q, sz, pl, r0⟩ := hC.r0
          refine go_iinc (v := 1) (lw := [_, _, _, _, _]) (pc := 72) dX4_sum_72 rfl (by decide) (by decide) rfl ?_
          refine go_goto (tgt := 27) (pc := 75) dX4_sum_75 (by decide) ?_
          rw [nI_1]
          exact ih1 _ _ _ _ (by rw [n7]; omega) ⟨_, j + 1, rfl, hC, hq_q, (by rw [← hE7, pP_8 (s := s7), if_pos ⟨h_39, g48⟩]), (by rw [n7]; omega), (by rw [n7]; omega), (by omega), ((hv7.nx).pP (by omega)).em, rfl, rfl⟩
theorem cls_0 {Γ : gam} {a N b_q w d_q : Nat} {s : ps} (hw_q : 4 ≤ w ∧ w ≤ 6) (hd_q : d_q ≤ 6) (hc9 : ∀ s' : ps, s'.l.length ≤ s.l.length → ClsOK Γ a N b_q w 4 d_q s') : ClsOK Γ a N b_q w 0 d_q s := by
  intro z0 n k hC ht_q hv0 hk
  have hq_q : ∀ q, q ≠ a + 71 → q ≠ a + 80 → z0 q = z0 q := fun _ _ _ => rfl
  have r0_ : rk 0 = 6 := rfl
  have r4_ : rk 4 = 4 := rfl
  have r5_ : rk 5 = 3 := rfl
  have r9_ : rk 9 = 1 := rfl
  have hst := st_tot ht_q
  obtain ⟨tk, t_q, sz, pl, r0⟩ := hC.r0
  show Sp Γ (rmk k 0 0) uX4_truth [.ref (a + 71), .int (nI d_q)] z0 n (qV fun σ' n' => n' = n ∧ CrAt Γ σ' a N b_q (nI (w + 3)) (pP N w 0 d_q s) ∧ ∀ q, q ≠ a + 71 → q ≠ a + 80 → σ' q = z0 q)
  refine sp_intro [some (.ref (a + 71)), some (.int (nI d_q)), none, none] (by decide +kernel) rfl (Nat.le_of_ble_eq_true rfl) rfl ?_
  refine go_iconst (v := 0) (pc := 0) dX4_truth_0 (by decide) ?_
  refine go_istore_n (lw := [_, _, _, _]) (pc := 1) dX4_truth_1 (by decide) rfl ?_
  refine go_meas (fun m9_q lv9 s8 n9 => ∃ (s9 : ps), ∃ (i_q : Nat), ∃ (x4_q : Option Value), lv9 = [some (.ref (a + 71)), some (.int (nI d_q)), some (.int (nI i_q)), x4_q] ∧ (CrAt Γ s8 a N b_q (nI (w + 3)) s9) ∧ (∀ q, q ≠ a + 71 → q ≠ a + 80 → s8 q = z0 q) ∧ (pP N w 1 d_q (eT i_q (pP N w 2 d_q s9)) = pP N w 0 d_q s) ∧ (s9.bad = 0 → i_q + s9.l.length ≤ 899) ∧ (i_q ≤ 900) ∧ (s9.l.length ≤ s.l.length) ∧ (tot s9 ≤ 899) ∧ (s9.bad = 0 → i_q ≠ 0 → tot s9 ≤ 898) ∧ (vOK s9.l) ∧ m9_q = mB s9 ∧ n = n9) (mB s) ⟨s, 0, _, rfl, hC, hq_q, (by rw [eT, if_pos rfl]; exact pP_0.symm), (fun _ => by unfold tot at ht_q; omega), (by omega), (Nat.le_refl _), ht_q, (fun _ e_q => absurd rfl e_q), hv0, rfl, rfl⟩ ?_
  rintro m9_q lv9 σ n9 ⟨s9, i_q, x4_q, rfl, hC, hq_q, hE, hi_q, hi9, hl, ht9, htb, hv9_q, rfl, rfl⟩ ih0
  obtain ⟨tk, t_q, sz, pl, r0⟩ := hC.r0
  refine go_iload_n (pc := 2) dX4_truth_2 rfl ?_
  refine go_sipush (v := 900) (pc := 3) dX4_truth_3 (by decide) ?_
  refine go_icmp_ge (tgt := 109) (pc := 6) dX4_truth_6 (by decide) (fun h_6 => ?_) (fun h_6 => ?_)
  · exact go_vretV (pc := 109) rfl dX4_truth_109 (Nat.le_of_ble_eq_true rfl) (Nat.le_of_ble_eq_true rfl) (by
  have hbb : s9.bad ≠ 0 := by
    first
      | (have g_q : (900 : Int32) ≤ nI i_q := h_6
         exact fun e_q => absurd g_q (nI_ge (b := 900) (by have := hi_q e_q; omega) (by decide)))
      | (have g_q : ¬ s9.bad = 0 := h_13
         exact g_q)
  rw [pP_b2 hbb, eT_b hbb, pP_b1 hbb] at hE
  rw [← hE]
  exact ⟨rfl, hC, hq_q⟩)
  · obtain ⟨tk, t_q, sz, pl, r0⟩ := hC.r0
    refine go_aload_n (pc := 9) dX4_truth_9 rfl ?_
    refine go_getf (pc := 10) f_X4_37 dX4_truth_10 (by exact r0) (by rfl) ?_
    refine go_if_ne (tgt := 109) (pc := 13) dX4_truth_13 (by decide) (fun h_13 => ?_) (fun h_13 => ?_)
    · exact go_vretV (pc := 109) rfl dX4_truth_109 (Nat.le_of_ble_eq_true rfl) (Nat.le_of_ble_eq_true rfl) (by
  have hbb : s9.bad ≠ 0 := by
    first
      | (have g_q : (900 : Int32) ≤ nI i_q := h_6
         exact fun e_q => absurd g_q (nI_ge (b := 900) (by have := hi_q e_q; omega) (by decide)))
      | (have g_q : ¬ s9.bad = 0 := h_13
         exact g_q)
  rw [pP_b2 hbb, eT_b hbb, pP_b1 hbb] at hE
  rw [← hE]
  exact ⟨rfl, hC, hq_q⟩)
    · refine go_aload_n (pc := 16) dX4_truth_16 rfl ?_
      refine go_iload_n (pc := 17) dX4_truth_17 rfl ?_
      refine go_V1V (pc := 18) v_X4_215 rfl rfl (rcv_of (ci := 4) (by exact r0) rfl) dX4_truth_18 (hc9 (s9) hl _ _ (k - 1) hC ht9 hv9_q (by omega)) (fun σ n h_q => ?_)
      obtain ⟨rfl, hC, hq1⟩ := h_q
      have hq_q : ∀ q, q ≠ a + 71 → q ≠ a + 80 → σ q = z0 q := fun q h1_q h2_q => (hq1 q h1_q h2_q).trans (hq_q q h1_q h2_q)
      obtain ⟨tk, t_q, sz, pl, r0⟩ := hC.r0
      refine go_iconst (v := 0) (pc := 21) dX4_truth_21 (by decide) ?_
      refine go_istore_n (lw := [_, _, _, _]) (pc := 22) dX4_truth_22 (by decide) rfl ?_
      refine go_meas (fun m7 lv9 s8 n9 => ∃ (s7 : ps), ∃ (j : Nat), lv9 = [some (.ref (a + 71)), some (.int (nI d_q)), some (.int (nI i_q)), some (.int (nI j))] ∧ (CrAt Γ s8 a N b_q (nI (w + 3)) s7) ∧ (∀ q, q ≠ a + 71 → q ≠ a + 80 → s8 q = z0 q) ∧ (pP N w 3 d_q s7 = pP N w 2 d_q s9) ∧ (j + s7.l.length ≤ 899) ∧ (s7.l.length ≤ s9.l.length) ∧ (tot s7 ≤ 899) ∧ (vOK s7.l) ∧ m7 = s7.l.length ∧ n = n9) ((pP N w 4 d_q s9).l.length) ⟨_, 0, rfl, hC, hq_q, pP_2.symm, (by have := pP_len (N := N) (w := w) (d := d_q) (s := s9) (t := 4) (by omega); have := hi_q h_13; omega), (pP_len (by omega)), (Nat.le_trans (pP_tot (by omega)) ht9), (hv9_q.pP (by omega)), rfl, rfl⟩ ?_
      rintro m7 lv9 σ n9 ⟨s7, j, rfl, hC, hq_q, hE7, hj_q, hl7, ht7, hv7, rfl, rfl⟩ ih1
      obtain ⟨tk, t_q, sz, pl, r0⟩ := hC.r0
      refine go_iload_n (pc := 23) dX4_truth_23 rfl ?_
      refine go_sipush (v := 900) (pc := 24) dX4_truth_24 (by decide) ?_
      refine go_icmp_ge (tgt := 73) (pc := 27) dX4_truth_27 (by decide) (fun h_27 => by exfalso; exact absurd h_27 (nI_ge (b := 900) (by omega) (by decide))) (fun h_27 => ?_)
      obtain ⟨tk, t_q, sz, pl, r0⟩ := hC.r0
      refine go_aload_n (pc := 30) dX4_truth_30 rfl ?_
      refine go_getf (pc := 31) f_X4_37 dX4_truth_31 (by exact r0) (by rfl) ?_
      refine go_if_ne (tgt := 73) (pc := 34) dX4_truth_34 (by decide) (fun h_34 => ?_) (fun h_34 => ?_)
      · have e7_q : pP N w 2 d_q s9 = s7 := by
          rw [← hE7, pP_3]
          first
            | (have g_q : ¬ s7.bad = 0 := h_34
               rw [if_neg (fun c_q => g_q c_q.1)])
            | (have g_q : ¬ kd s7.l = 16 := h_43
               rw [if_neg (fun c_q => g_q c_q.2)])
        rw [e7_q] at hE
        have u1 := pP_tot (N := N) (w := w) (d := d_q) (s := s9) (t := 2) (by omega)
        rw [e7_q] at u1
        have u2 : i_q ≠ 0 → tot s7 ≤ 898 := fun e_q => Nat.le_trans u1 (htb h_13 e_q)
        have u3 := st_tot u1
        have u4 := st_tot ht7
        refine go_iload_n (pc := 73) dX4_truth_73 rfl ?_
        refine go_if_le (tgt := 83) (pc := 74) dX4_truth_74 (by decide) (fun h_74 => ?_) (fun h_74 => ?_)
        · have hC : CrAt Γ σ a N b_q (nI (w + 3)) (eT i_q s7) := by
            first
              | (have g_q : nI i_q ≤ 0 := h_74
                 have gi : i_q = 0 := Decidable.byContradiction (fun e_q => nI_nle (by omega) (by omega) g_q)
                 rw [eT, if_pos gi]
                 exact hC)
              | (have g_q : ¬ nI i_q ≤ 0 := h_74
                 have gi : i_q ≠ 0 := fun e_q => g_q (by rw [e_q]; decide)
                 rw [eT, if_neg gi]
                 exact hC)
          have u5 : tot (eT i_q s7) ≤ 899 := eT_t (m := 898) ht7 u2
          have u6 : (eT i_q s7).l = s7.l := eT_l
          refine go_aload_n (pc := 83) dX4_truth_83 rfl ?_
          refine go_V0I (pc := 84) v_X4_82 rfl rfl (rcv_of (ci := 4) (by exact r0) rfl) dX4_truth_84 (cp_kindT (k := k - 1) hC) (fun v_84 σ n h_q => ?_)
          obtain ⟨e1_q, e2_q, hkv⟩ := h_q
          obtain rfl := e1_q.symm
          obtain rfl := e2_q.symm
          refine go_bipush (v := 17) (pc := 87) dX4_truth_87 (by decide) ?_
          refine go_icmp_eq (tgt := 93) (pc := 89) dX4_truth_89 (by decide) (fun h_89 => ?_) (fun h_89 => ?_)
          · have hk0 : (eT i_q s7).bad = 0 → kd (eT i_q s7).l ≠ 0 := fun e_q => by rw [← hkv e_q, h_89]; decide
            obtain ⟨tk, t_q, sz, pl, r0, hop, hop2⟩ := hC.op (fun e_q => kd_ne rfl (hk0 e_q))
            refine go_aload_n (pc := 93) dX4_truth_93 rfl ?_
            refine go_dup (pc := 94) dX4_truth_94 rfl ?_
            refine go_getf (pc := 95) f_X4_28 dX4_truth_95 (by exact r0) (by rfl) ?_
            refine go_iconst (v := 1) (pc := 98) dX4_truth_98 (by decide) ?_
            refine go_iadd (pc := 99) dX4_truth_99 ?_
            refine go_putf (fs' := [_, _, _, _, _, _, _, _, _, _, _, _]) (pc := 100) f_X4_28 dX4_truth_100 (by exact r0) (Nat.le_of_ble_eq_true rfl) (by rfl) rfl rfl ?_
            refine go_set (P := fun x_q => CrAt Γ x_q a N b_q (nI (w + 3)) (adv (eT i_q s7)) ∧ ∀ q, q ≠ a + 71 → q ≠ a + 80 → x_q q = z0 q) ⟨(adv_c (P := CrAt Γ _ a N b_q (nI (w + 3))) hop hop2), fun q h1_q h2_q => sup_ne h1_q (hq_q q h1_q h2_q)⟩ (fun σ hx_q => ?_)
            obtain ⟨hC, hq_q⟩ := hx_q
            obtain ⟨tk, t_q, sz, pl, r0⟩ := hC.r0
            refine go_iinc (v := 1) (lw := [_, _, _, _]) (pc := 103) dX4_truth_103 rfl (by decide) (by decide) rfl ?_
            refine go_goto (tgt := 2) (pc := 106) dX4_truth_106 (by decide) ?_
            rw [nI_1]
            exact ih0 _ _ _ _ (adv_mB hk0 h_13 (by rw [u6]; exact hl7)) ⟨_, i_q + 1, _, rfl, hC, hq_q, (by rw [tr_step (fun e_q => (hkv e_q).symm.trans h_89)]; exact hE), (fun e_q => by have t1_q := (adv_tb hk0 e_q).2; have t2 := hi_q h_13; rw [u6] at t1_q; omega), (by have := hi_q h_13; omega), (Nat.le_trans adv_len (by rw [u6]; omega)), (Nat.le_trans adv_tot u5), (fun e_q _ => by have t1_q := (adv_tb hk0 e_q).1; omega), (vOK.av (by rw [u6]; exact hv7)), rfl, rfl⟩
          · exact go_vretV (pc := 92) rfl dX4_truth_92 (Nat.le_of_ble_eq_true rfl) (Nat.le_of_ble_eq_true rfl) (by rw [← hE, pP_1, if_neg (fun c_q => h_89 ((hkv c_q.1).trans c_q.2))]; exact ⟨rfl, hC, hq_q⟩)
        · refine go_aload_n (pc := 77) dX4_truth_77 rfl ?_
          refine go_bipush (v := -8) (pc := 78) dX4_truth_78 (by decide) ?_
          refine go_V1V (pc := 80) v_X4_218 rfl rfl (rcv_of (ci := 4) (by exact r0) rfl) dX4_truth_80 (cp_emitT (k := k - 1) hC (c2 := 17) (by decide) (by omega)) (fun σ n h_q => ?_)
          obtain ⟨rfl, hC, hq1⟩ := h_q
          have hq_q : ∀ q, q ≠ a + 71 → q ≠ a + 80 → σ q = z0 q := fun q h1_q h2_q => (hq1 q h1_q h2_q).trans (hq_q q h1_q h2_q)
          obtain ⟨tk, t_q, sz, pl, r0⟩ := hC.r0
          have hC : CrAt Γ σ a N b_q (nI (w + 3)) (eT i_q s7) := by
            first
              | (have g_q : nI i_q ≤ 0 := h_74
                 have gi : i_q = 0 := Decidable.byContradiction (fun e_q => nI_nle (by omega) (by omega) g_q)
                 rw [eT, if_pos gi]
                 exact hC)
              | (have g_q : ¬ nI i_q ≤ 0 := h_74
                 have gi : i_q ≠ 0 := fun e_q => g_q (by rw [e_q]; decide)
                 rw [eT, if_neg gi]
                 exact hC)
          have u5 : tot (eT i_q s7) ≤ 899 := eT_t (m := 898) ht7 u2
          have u6 : (eT i_q s7).l = s7.l := eT_l
          refine go_aload_n (pc := 83) dX4_truth_83 rfl ?_
          refine go_V0I (pc := 84) v_X4_82 rfl rfl (rcv_of (ci := 4) (by exact r0) rfl) dX4_truth_84 (cp_kindT (k := k - 1) hC) (fun v_84 σ n h_q => ?_)
          obtain ⟨e1_q, e2_q, hkv⟩ := h_q
          obtain rfl := e1_q.symm
          obtain rfl := e2_q.symm
          refine go_bipush (v := 17) (pc := 87) dX4_truth_87 (by decide) ?_
          refine go_icmp_eq (tgt := 93) (pc := 89) dX4_truth_89 (by decide) (fun h_89 => ?_) (fun h_89 => ?_)
          · have hk0 : (eT i_q s7).bad = 0 → kd (eT i_q s7).l ≠ 0 := fun e_q => by rw [← hkv e_q, h_89]; decide
            obtain ⟨tk, t_q, sz, pl, r0, hop, hop2⟩ := hC.op (fun e_q => kd_ne rfl (hk0 e_q))
            refine go_aload_n (pc := 93) dX4_truth_93 rfl ?_
            refine go_dup (pc := 94) dX4_truth_94 rfl ?_
            refine go_getf (pc := 95) f_X4_28 dX4_truth_95 (by exact r0) (by rfl) ?_
            refine go_iconst (v := 1) (pc := 98) dX4_truth_98 (by decide) ?_
            refine go_iadd (pc := 99) dX4_truth_99 ?_
            refine go_putf (fs' := [_, _, _, _, _, _, _, _, _, _, _, _]) (pc := 100) f_X4_28 dX4_truth_100 (by exact r0) (Nat.le_of_ble_eq_true rfl) (by rfl) rfl rfl ?_
            refine go_set (P := fun x_q => CrAt Γ x_q a N b_q (nI (w + 3)) (adv (eT i_q s7)) ∧ ∀ q, q ≠ a + 71 → q ≠ a + 80 → x_q q = z0 q) ⟨(adv_c (P := CrAt Γ _ a N b_q (nI (w + 3))) hop hop2), fun q h1_q h2_q => sup_ne h1_q (hq_q q h1_q h2_q)⟩ (fun σ hx_q => ?_)
            obtain ⟨hC, hq_q⟩ := hx_q
            obtain ⟨tk, t_q, sz, pl, r0⟩ := hC.r0
            refine go_iinc (v := 1) (lw := [_, _, _, _]) (pc := 103) dX4_truth_103 rfl (by decide) (by decide) rfl ?_
            refine go_goto (tgt := 2) (pc := 106) dX4_truth_106 (by decide) ?_
            rw [nI_1]
            exact ih0 _ _ _ _ (adv_mB hk0 h_13 (by rw [u6]; exact hl7)) ⟨_, i_q + 1, _, rfl, hC, hq_q, (by rw [tr_step (fun e_q => (hkv e_q).symm.trans h_89)]; exact hE), (fun e_q => by have t1_q := (adv_tb hk0 e_q).2; have t2 := hi_q h_13; rw [u6] at t1_q; omega), (by have := hi_q h_13; omega), (Nat.le_trans adv_len (by rw [u6]; omega)), (Nat.le_trans adv_tot u5), (fun e_q _ => by have t1_q := (adv_tb hk0 e_q).1; omega), (vOK.av (by rw [u6]; exact hv7)), rfl, rfl⟩
          · exact go_vretV (pc := 92) rfl dX4_truth_92 (Nat.le_of_ble_eq_true rfl) (Nat.le_of_ble_eq_true rfl) (by rw [← hE, pP_1, if_neg (fun c_q => h_89 ((hkv c_q.1).trans c_q.2))]; exact ⟨rfl, hC, hq_q⟩)
      · refine go_aload_n (pc := 37) dX4_truth_37 rfl ?_
        refine go_V0I (pc := 38) v_X4_82 rfl rfl (rcv_of (ci := 4) (by exact r0) rfl) dX4_truth_38 (cp_kindT (k := k - 1) hC) (fun v_38 σ n h_q => ?_)
        obtain ⟨e1_q, e2_q, hkv⟩ := h_q
        obtain rfl := e1_q.symm
        obtain rfl := e2_q.symm
        obtain rfl := hkv h_34
        refine go_bipush (v := 16) (pc := 41) dX4_truth_41 (by decide) ?_
        refine go_icmp_ne (tgt := 73) (pc := 43) dX4_truth_43 (by decide) (fun h_43 => ?_) (fun h_43 => ?_)
        · have e7_q : pP N w 2 d_q s9 = s7 := by
            rw [← hE7, pP_3]
            first
              | (have g_q : ¬ s7.bad = 0 := h_34
                 rw [if_neg (fun c_q => g_q c_q.1)])
              | (have g_q : ¬ kd s7.l = 16 := h_43
                 rw [if_neg (fun c_q => g_q c_q.2)])
          rw [e7_q] at hE
          have u1 := pP_tot (N := N) (w := w) (d := d_q) (s := s9) (t := 2) (by omega)
          rw [e7_q] at u1
          have u2 : i_q ≠ 0 → tot s7 ≤ 898 := fun e_q => Nat.le_trans u1 (htb h_13 e_q)
          have u3 := st_tot u1
          have u4 := st_tot ht7
          refine go_iload_n (pc := 73) dX4_truth_73 rfl ?_
          refine go_if_le (tgt := 83) (pc := 74) dX4_truth_74 (by decide) (fun h_74 => ?_) (fun h_74 => ?_)
          · have hC : CrAt Γ σ a N b_q (nI (w + 3)) (eT i_q s7) := by
              first
                | (have g_q : nI i_q ≤ 0 := h_74
                   have gi : i_q = 0 := Decidable.byContradiction (fun e_q => nI_nle (by omega) (by omega) g_q)
                   rw [eT, if_pos gi]
                   exact hC)
                | (have g_q : ¬ nI i_q ≤ 0 := h_74
                   have gi : i_q ≠ 0 := fun e_q => g_q (by rw [e_q]; decide)
                   rw [eT, if_neg gi]
                   exact hC)
            have u5 : tot (eT i_q s7) ≤ 899 := eT_t (m := 898) ht7 u2
            have u6 : (eT i_q s7).l = s7.l := eT_l
            refine go_aload_n (pc := 83) dX4_truth_83 rfl ?_
            refine go_V0I (pc := 84) v_X4_82 rfl rfl (rcv_of (ci := 4) (by exact r0) rfl) dX4_truth_84 (cp_kindT (k := k - 1) hC) (fun v_84 σ n h_q => ?_)
            obtain ⟨e1_q, e2_q, hkv⟩ := h_q
            obtain rfl := e1_q.symm
            obtain rfl := e2_q.symm
            refine go_bipush (v := 17) (pc := 87) dX4_truth_87 (by decide) ?_
            refine go_icmp_eq (tgt := 93) (pc := 89) dX4_truth_89 (by decide) (fun h_89 => ?_) (fun h_89 => ?_)
            · have hk0 : (eT i_q s7).bad = 0 → kd (eT i_q s7).l ≠ 0 := fun e_q => by rw [← hkv e_q, h_89]; decide
              obtain ⟨tk, t_q, sz, pl, r0, hop, hop2⟩ := hC.op (fun e_q => kd_ne rfl (hk0 e_q))
              refine go_aload_n (pc := 93) dX4_truth_93 rfl ?_
              refine go_dup (pc := 94) dX4_truth_94 rfl ?_
              refine go_getf (pc := 95) f_X4_28 dX4_truth_95 (by exact r0) (by rfl) ?_
              refine go_iconst (v := 1) (pc := 98) dX4_truth_98 (by decide) ?_
              refine go_iadd (pc := 99) dX4_truth_99 ?_
              refine go_putf (fs' := [_, _, _, _, _, _, _, _, _, _, _, _]) (pc := 100) f_X4_28 dX4_truth_100 (by exact r0) (Nat.le_of_ble_eq_true rfl) (by rfl) rfl rfl ?_
              refine go_set (P := fun x_q => CrAt Γ x_q a N b_q (nI (w + 3)) (adv (eT i_q s7)) ∧ ∀ q, q ≠ a + 71 → q ≠ a + 80 → x_q q = z0 q) ⟨(adv_c (P := CrAt Γ _ a N b_q (nI (w + 3))) hop hop2), fun q h1_q h2_q => sup_ne h1_q (hq_q q h1_q h2_q)⟩ (fun σ hx_q => ?_)
              obtain ⟨hC, hq_q⟩ := hx_q
              obtain ⟨tk, t_q, sz, pl, r0⟩ := hC.r0
              refine go_iinc (v := 1) (lw := [_, _, _, _]) (pc := 103) dX4_truth_103 rfl (by decide) (by decide) rfl ?_
              refine go_goto (tgt := 2) (pc := 106) dX4_truth_106 (by decide) ?_
              rw [nI_1]
              exact ih0 _ _ _ _ (adv_mB hk0 h_13 (by rw [u6]; exact hl7)) ⟨_, i_q + 1, _, rfl, hC, hq_q, (by rw [tr_step (fun e_q => (hkv e_q).symm.trans h_89)]; exact hE), (fun e_q => by have t1_q := (adv_tb hk0 e_q).2; have t2 := hi_q h_13; rw [u6] at t1_q; omega), (by have := hi_q h_13; omega), (Nat.le_trans adv_len (by rw [u6]; omega)), (Nat.le_trans adv_tot u5), (fun e_q _ => by have t1_q := (adv_tb hk0 e_q).1; omega), (vOK.av (by rw [u6]; exact hv7)), rfl, rfl⟩
            · exact go_vretV (pc := 92) rfl dX4_truth_92 (Nat.le_of_ble_eq_true rfl) (Nat.le_of_ble_eq_true rfl) (by rw [← hE, pP_1, if_neg (fun c_q => h_89 ((hkv c_q.1).trans c_q.2))]; exact ⟨rfl, hC, hq_q⟩)
          · refine go_aload_n (pc := 77) dX4_truth_77 rfl ?_
            refine go_bipush (v := -8) (pc := 78) dX4_truth_78 (by decide) ?_
            refine go_V1V (pc := 80) v_X4_218 rfl rfl (rcv_of (ci := 4) (by exact r0) rfl) dX4_truth_80 (cp_emitT (k := k - 1) hC (c2 := 17) (by decide) (by omega)) (fun σ n h_q => ?_)
            obtain ⟨rfl, hC, hq1⟩ := h_q
            have hq_q : ∀ q, q ≠ a + 71 → q ≠ a + 80 → σ q = z0 q := fun q h1_q h2_q => (hq1 q h1_q h2_q).trans (hq_q q h1_q h2_q)
            obtain ⟨tk, t_q, sz, pl, r0⟩ := hC.r0
            have hC : CrAt Γ σ a N b_q (nI (w + 3)) (eT i_q s7) := by
              first
                | (have g_q : nI i_q ≤ 0 := h_74
                   have gi : i_q = 0 := Decidable.byContradiction (fun e_q => nI_nle (by omega) (by omega) g_q)
                   rw [eT, if_pos gi]
                   exact hC)
                | (have g_q : ¬ nI i_q ≤ 0 := h_74
                   have gi : i_q ≠ 0 := fun e_q => g_q (by rw [e_q]; decide)
                   rw [eT, if_neg gi]
                   exact hC)
            have u5 : tot (eT i_q s7) ≤ 899 := eT_t (m := 898) ht7 u2
            have u6 : (eT i_q s7).l = s7.l := eT_l
            refine go_aload_n (pc := 83) dX4_truth_83 rfl ?_
            refine go_V0I (pc := 84) v_X4_82 rfl rfl (rcv_of (ci := 4) (by exact r0) rfl) dX4_truth_84 (cp_kindT (k := k - 1) hC) (fun v_84 σ n h_q => ?_)
            obtain ⟨e1_q, e2_q, hkv⟩ := h_q
            obtain rfl := e1_q.symm
            obtain rfl := e2_q.symm
            refine go_bipush (v := 17) (pc := 87) dX4_truth_87 (by decide) ?_
            refine go_icmp_eq (tgt := 93) (pc := 89) dX4_truth_89 (by decide) (fun h_89 => ?_) (fun h_89 => ?_)
            · have hk0 : (eT i_q s7).bad = 0 → kd (eT i_q s7).l ≠ 0 := fun e_q => by rw [← hkv e_q, h_89]; decide
              obtain ⟨tk, t_q, sz, pl, r0, hop, hop2⟩ := hC.op (fun e_q => kd_ne rfl (hk0 e_q))
              refine go_aload_n (pc := 93) dX4_truth_93 rfl ?_
              refine go_dup (pc := 94) dX4_truth_94 rfl ?_
              refine go_getf (pc := 95) f_X4_28 dX4_truth_95 (by exact r0) (by rfl) ?_
              refine go_iconst (v := 1) (pc := 98) dX4_truth_98 (by decide) ?_
              refine go_iadd (pc := 99) dX4_truth_99 ?_
              refine go_putf (fs' := [_, _, _, _, _, _, _, _, _, _, _, _]) (pc := 100) f_X4_28 dX4_truth_100 (by exact r0) (Nat.le_of_ble_eq_true rfl) (by rfl) rfl rfl ?_
              refine go_set (P := fun x_q => CrAt Γ x_q a N b_q (nI (w + 3)) (adv (eT i_q s7)) ∧ ∀ q, q ≠ a + 71 → q ≠ a + 80 → x_q q = z0 q) ⟨(adv_c (P := CrAt Γ _ a N b_q (nI (w + 3))) hop hop2), fun q h1_q h2_q => sup_ne h1_q (hq_q q h1_q h2_q)⟩ (fun σ hx_q => ?_)
              obtain ⟨hC, hq_q⟩ := hx_q
              obtain ⟨tk, t_q, sz, pl, r0⟩ := hC.r0
              refine go_iinc (v := 1) (lw := [_, _, _, _]) (pc := 103) dX4_truth_103 rfl (by decide) (by decide) rfl ?_
              refine go_goto (tgt := 2) (pc := 106) dX4_truth_106 (by decide) ?_
              rw [nI_1]
              exact ih0 _ _ _ _ (adv_mB hk0 h_13 (by rw [u6]; exact hl7)) ⟨_, i_q + 1, _, rfl, hC, hq_q, (by rw [tr_step (fun e_q => (hkv e_q).symm.trans h_89)]; exact hE), (fun e_q => by have t1_q := (adv_tb hk0 e_q).2; have t2 := hi_q h_13; rw [u6] at t1_q; omega), (by have := hi_q h_13; omega), (Nat.le_trans adv_len (by rw [u6]; omega)), (Nat.le_trans adv_tot u5), (fun e_q _ => by have t1_q := (adv_tb hk0 e_q).1; omega), (vOK.av (by rw [u6]; exact hv7)), rfl, rfl⟩
            · exact go_vretV (pc := 92) rfl dX4_truth_92 (Nat.le_of_ble_eq_true rfl) (Nat.le_of_ble_eq_true rfl) (by rw [← hE, pP_1, if_neg (fun c_q => h_89 ((hkv c_q.1).trans c_q.2))]; exact ⟨rfl, hC, hq_q⟩)
        · have g48 : kd s7.l = 16 := h_43
          have n1 := nx_lt g48 (by decide)
          have n2 := tot_ne g48 (by decide)
          have n3 := pP_len (N := N) (w := w) (d := d_q) (s := nextP s7) (t := 4) (by omega)
          have n4 := pP_tot (N := N) (w := w) (d := d_q) (s := nextP s7) (t := 4) (by omega)
          have n5 := st_tot n4
          have n6 := tot_em (c := 16) (s := pP N w 4 d_q (nextP s7))
          have n7 : (emitP 16 (pP N w 4 d_q (nextP s7))).l = _ := len_emit
          obtain ⟨tk, t_q, sz, pl, r0, hop, hop2⟩ := hC.op (fun _ => kd_ne g48 (by decide))
          refine go_aload_n (pc := 46) dX4_truth_46 rfl ?_
          refine go_dup (pc := 47) dX4_truth_47 rfl ?_
          refine go_getf (pc := 48) f_X4_28 dX4_truth_48 (by exact r0) (by rfl) ?_
          refine go_iconst (v := 1) (pc := 51) dX4_truth_51 (by decide) ?_
          refine go_iadd (pc := 52) dX4_truth_52 ?_
          refine go_putf (fs' := [_, _, _, _, _, _, _, _, _, _, _, _]) (pc := 53) f_X4_28 dX4_truth_53 (by exact r0) (Nat.le_of_ble_eq_true rfl) (by rfl) rfl rfl ?_
          refine go_set (P := fun x_q => CrAt Γ x_q a N b_q (nI (w + 3)) (nextP (s7)) ∧ ∀ q, q ≠ a + 71 → q ≠ a + 80 → x_q q = z0 q) ⟨hop h_34, fun q h1_q h2_q => sup_ne h1_q (hq_q q h1_q h2_q)⟩ (fun σ hx_q => ?_)
          obtain ⟨hC, hq_q⟩ := hx_q
          obtain ⟨tk, t_q, sz, pl, r0⟩ := hC.r0
          refine go_aload_n (pc := 56) dX4_truth_56 rfl ?_
          refine go_iload_n (pc := 57) dX4_truth_57 rfl ?_
          refine go_V1V (pc := 58) v_X4_215 rfl rfl (rcv_of (ci := 4) (by exact r0) rfl) dX4_truth_58 (hc9 (nextP s7) (by omega) _ _ (k - 1) hC (by omega) hv7.nx (by omega)) (fun σ n h_q => ?_)
          obtain ⟨rfl, hC, hq1⟩ := h_q
          have hq_q : ∀ q, q ≠ a + 71 → q ≠ a + 80 → σ q = z0 q := fun q h1_q h2_q => (hq1 q h1_q h2_q).trans (hq_q q h1_q h2_q)
          obtain ⟨tk, t_q, sz, pl, r0⟩ := hC.r0
          refine go_aload_n (pc := 61) dX4_truth_61 rfl ?_
          refine go_bipush (v := -7) (pc := 62) dX4_truth_62 (by decide) ?_
          refine go_V1V (pc := 64) v_X4_218 rfl rfl (rcv_of (ci := 4) (by exact r0) rfl) dX4_truth_64 (cp_emitT (k := k - 1) hC (c2 := 16) (by decide) (by omega)) (fun σ n h_q => ?_)
          obtain ⟨rfl, hC, hq1⟩ := h_q
          have hq_q : ∀ q, q ≠ a + 71 → q ≠ a + 80 → σ q = z0 q := fun q h1_q h2_q => (hq1 q h1_q h2_q).trans (hq_q q h1_q h2_q)
          obtain ⟨tk, t_q, sz, pl, r0⟩ := hC.r0
          refine go_iinc (v := 1) (lw := [_, _, _, _]) (pc := 67) dX4_truth_67 rfl (by decide) (by decide) rfl ?_
          refine go_goto (tgt := 23) (pc := 70) dX4_truth_70 (by decide) ?_
          rw [nI_1]
          exact ih1 _ _ _ _ (by rw [n7]; omega) ⟨_, j + 1, rfl, hC, hq_q, (by rw [← hE7, pP_3 (s := s7), if_pos ⟨h_34, g48⟩]), (by rw [n7]; omega), (by rw [n7]; omega), (by omega), ((hv7.nx).pP (by omega)).em, rfl, rfl⟩
theorem cls_all {Γ : gam} {a N b_q w : Nat} (hw_q : 4 ≤ w ∧ w ≤ 6) : ∀ (m t_q d_q : Nat) (s : ps), (t_q = 0 ∨ t_q = 4 ∨ t_q = 5 ∨ t_q = 9) → d_q ≤ 6 → 7 * s.l.length + rk t_q ≤ m → ClsOK Γ a N b_q w t_q d_q s := by
  intro m
  induction m with
  | zero =>
    intro t_q d_q s ht_q hd_q h_q
    rcases ht_q with rfl | rfl | rfl | rfl <;> exact absurd h_q (by simp [rk])
  | succ m ih_q =>
    intro t_q d_q s ht_q hd_q h_q
    have r0 : rk 0 = 6 := rfl
    have r4 : rk 4 = 4 := rfl
    have r5 : rk 5 = 3 := rfl
    have r9 : rk 9 = 1 := rfl
    rcases ht_q with rfl | rfl | rfl | rfl
    · exact cls_0 hw_q hd_q (fun s' hs => ih_q 4 d_q s' (by omega) hd_q (by omega))
    · exact cls_4 hw_q hd_q (fun s' hs => ih_q 5 d_q s' (by omega) hd_q (by omega)) (fun h6_q hs => ih_q 4 (d_q + 1) _ (by omega) (by omega) (by omega)) (fun h6_q hs => ih_q 0 (d_q + 1) _ (by omega) (by omega) (by omega))
    · exact cls_5 hw_q hd_q (fun s' hs => ih_q 9 d_q s' (by omega) hd_q (by omega))
    · exact cls_9 hw_q hd_q (fun h6_q hs => ih_q 5 (d_q + 1) _ (by omega) (by omega) (by omega))
theorem cls_go {Γ : gam} {a N b_q w t_q : Nat} {s : ps} (hw_q : 4 ≤ w ∧ w ≤ 6) (ht_q : t_q = 0 ∨ t_q = 5) : ClsOK Γ a N b_q w t_q 0 s := cls_all hw_q _ t_q 0 s (by omega) (by omega) (Nat.le_refl _)
