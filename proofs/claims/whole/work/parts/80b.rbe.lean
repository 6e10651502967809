/-! ===== the reference: a beach ===== -/
def bchR (Γ : gam) (z0 : sto) (r_q N : Nat) (F K : row) (A : Nat → row) (Nm : Nat → Int64) (v_q : Int32) (σ : sto) : Prop := ∃ (F' K' : row) (A' : Nat → row), MoAt Γ σ r_q F' K' A' Nm ∧ F' 4 = 0 ∧ F' 6 = 0 ∧ F' 14 = (bchP N (A 5)).1.bad ∧ ((bchP N (A 5)).1.bad ≠ 0 → v_q = -10 - (bchP N (A 5)).1.bad ∧ K' = K ∧ F' 15 = (bchP N (A 5)).1.pl) ∧ ((bchP N (A 5)).1.bad = 0 → F' 15 = -1 ∧ telR K' (bchP N (A 5)).2 ∧ v_q = (bchP N (A 5)).2 0) ∧ (∀ j, j ≠ 4 → (j < 6 ∨ 18 < j) → F' j = F j) ∧ (∀ i_q, i_q ≠ 2 → A' i_q = A i_q) ∧ fr r_q (r_q + 16) z0 σ ∧ ∀ j, 3020 ≤ j → K' j = K j
theorem rdG_of {N : Nat} {f_q : row} : bchP N f_q = rdG N (opP N f_q) := rfl
theorem tkn_kd {f_q F : row} {N : Nat} {L : List tok} (h_q : tokF f_q N F L) (hn : ¬ F 10 = 0) : kd L ≠ 0 := by
  match L, h_q, hn with
  | [], h_q, hn => exact absurd h_q.2 hn
  | x_q :: L', h_q, hn =>
    obtain ⟨-, p, -, -, -, -, h_q⟩ := h_q
    show x_q.1 ≠ 0
    rcases h_q with ⟨a, b_q⟩ | ⟨a, b_q, -⟩ | ⟨a, b_q⟩ | ⟨a, b_q⟩
    · rw [b_q]; exact i_lt (wK_ge _).1 (by decide)
    · rw [b_q]; decide
    · rw [b_q]; decide
    · exact i_lt (sg_ge a) (by decide)
theorem len_bo {N : Nat} {s : ps} {T : row} : (bodP N s T).1.l.length ≤ s.l.length := by
  unfold bodP
  split
  · unfold perP
    split
    · show (failP N 4 s).l.length ≤ _
      rw [len_fail]; exact Nat.le_refl _
    · exact Nat.le_trans len_p5 len_next
  · split
    · exact Nat.le_trans len_num len_next
    · split
      · exact Nat.le_trans (len_lw (N := N) (s := s) (w := 4) (t := 0) (by omega)) len_next
      · split
        · exact Nat.le_trans (len_lw (N := N) (s := s) (w := 5) (t := 5) (by omega)) len_next
        · split
          · exact Nat.le_trans (len_lw (N := N) (s := s) (w := 6) (t := 5) (by omega)) len_next
          · show (failP N 2 s).l.length ≤ _
            rw [len_fail]; exact Nat.le_refl _
theorem ln_le {N : Nat} {x_q : ps × row} : (lnP N x_q).1.l.length ≤ x_q.1.l.length := Nat.le_trans len_need len_bo
theorem ln_mB {N : Nat} {x_q : ps × row} (hb_q : x_q.1.bad = 0) (hk : kd x_q.1.l ≠ 0) : mB (lnP N x_q).1 < mB x_q.1 := by
  have e9_q : mB x_q.1 = 2 * x_q.1.l.length + 1 := by rw [mB, if_pos hb_q]
  by_cases h_q : (lnP N x_q).1.bad = 0
  · have g_q : (lnP N x_q).1.l.length + 1 ≤ x_q.1.l.length := len_ln (N := N) (s := x_q.1) (T := x_q.2) hk h_q
    rw [e9_q, mB, if_pos h_q]
    omega
  · have g_q := ln_le (N := N) (x_q := x_q)
    rw [e9_q, mB, if_neg h_q]
    omega
theorem rb_131 {Γ : gam} {z0 σ : sto} {n k r_q N : Nat} {F F9 K : row} {A A9_q : Nat → row} {Nm : Nat → Int64} {x9_q : ps × row} (hM_q : MoAt Γ σ r_q F9 K A9_q Nm) (hS_q : rfR (A 5) N F9 x9_q.1) (hT_q : x9_q.1.bad = 0 → telR (A9_q 2) x9_q.2 ∧ lnI x9_q.2) (eX : bchP N (A 5) = x9_q) (h4_q : F9 4 = 0) (h6_q : F9 6 = 0) (qo : ∀ j, j ≠ 4 → (j < 6 ∨ 18 < j) → F9 j = F j) (oA : ∀ i_q, i_q ≠ 2 → A9_q i_q = A i_q) (hf_q : fr r_q (r_q + 16) z0 σ) : Go Γ (rmk k 0 0) uX8_beach (qI fun v_q σ' n' => n' = n ∧ ((some N = none ∧ v_q = 0 ∧ ∃ F' : row, MoAt Γ σ' r_q F' K A Nm ∧ F' 4 = 1 ∧ (∀ j, j ≠ 4 → F' j = F j) ∧ fr r_q (r_q + 16) z0 σ') ∨ ∃ N2, some N = some N2 ∧ bchR Γ z0 r_q N2 F K A Nm v_q σ')) 0 0 131 [some (.ref r_q), some (.int (nI N)), some (.int (nI 3020))] [] σ n := by
  by_cases hb9 : x9_q.1.bad = 0
  · refine go_aload_n (pc := 131) dX8_beach_131 rfl ?_
    refine go_aload_n (pc := 132) dX8_beach_132 rfl ?_
    refine go_getf (pc := 133) f_X8_99 dX8_beach_133 (by first | exact mo0 hM_q | exact mo2 hM_q) (by rfl) ?_
    rw [hS_q.2.1]
    refine go_mpf14 (pc := 136) hM_q dX8_beach_136 (fun σ hM_q hf9 => ?_)
    have hf_q := hf_q.tr hf9
    obtain ⟨F10, hM_q, t14, tF⟩ : ∃ F10 : row, MoAt Γ σ r_q F10 K A9_q Nm ∧ F10 14 = x9_q.1.bad ∧ ∀ j, j ≠ 14 → F10 j = F9 j := ⟨_, hM_q, pk_us, fun j hj_q => pk_un hj_q⟩
    refine go_aload_n (pc := 139) dX8_beach_139 rfl ?_
    refine go_aload_n (pc := 140) dX8_beach_140 rfl ?_
    refine go_getf (pc := 141) f_X8_99 dX8_beach_141 (by first | exact mo0 hM_q | exact mo2 hM_q) (by rfl) ?_
    rw [tF 12 (by decide), hS_q.2.1]
    refine go_if_ne (tgt := 151) (pc := 144) dX8_beach_144 (by decide) (fun h_144 => by exfalso; exact h_144 hb9) (fun h_144 => ?_)
    refine go_iconst (v := -1) (pc := 147) dX8_beach_147 (by decide) ?_
    refine go_goto (tgt := 155) (pc := 148) dX8_beach_148 (by decide) ?_
    refine go_mpf15 (pc := 155) hM_q dX8_beach_155 (fun σ hM_q hf9 => ?_)
    have hf_q := hf_q.tr hf9
    obtain ⟨F11, hM_q, t15, tG⟩ : ∃ F11 : row, MoAt Γ σ r_q F11 K A9_q Nm ∧ F11 15 = (if x9_q.1.bad = 0 then -1 else x9_q.1.pl) ∧ ∀ j, j ≠ 15 → F11 j = F10 j := ⟨_, hM_q, (by rw [pk_us]; first | (have g_q : x9_q.1.bad = 0 := h_144; rw [if_pos g_q]) | (have g_q : ¬ x9_q.1.bad = 0 := h_144; rw [if_neg g_q, tF 13 (by decide), hS_q.2.2.2 g_q])), fun j hj_q => pk_un hj_q⟩
    refine go_aload_n (pc := 158) dX8_beach_158 rfl ?_
    refine go_getf (pc := 159) f_X8_99 dX8_beach_159 (by first | exact mo0 hM_q | exact mo2 hM_q) (by rfl) ?_
    rw [tG 12 (by decide), tF 12 (by decide), hS_q.2.1]
    refine go_if_eq (tgt := 173) (pc := 162) dX8_beach_162 (by decide) (fun h_162 => ?_) (fun h_162 => by exfalso; exact h_162 hb9)
    refine go_iconst (v := 0) (pc := 173) dX8_beach_173 (by decide) ?_
    refine go_istore_n (lw := [_, _, _]) (pc := 174) dX8_beach_174 (by decide) rfl ?_
    refine go_iter (3020) (fun i_q lv9 s9 n9 => ∃ (K9_q : row), lv9 = [some (.ref r_q), some (.int (nI N)), some (.int (nI i_q))] ∧ (MoAt Γ s9 r_q F11 K9_q A9_q Nm) ∧ (∀ j, j < i_q → K9_q j = A9_q 2 j) ∧ (fr r_q (r_q + 16) z0 s9) ∧ (∀ j, 3020 ≤ j → K9_q j = K j) ∧ n = n9) ⟨K, rfl, hM_q, (fun j hj_q => absurd hj_q (by omega)), hf_q, (fun _ _ => rfl), rfl⟩ ?_ ?_
    · rintro i_q lv9 σ n9 hi_q ⟨K9_q, rfl, hM_q, h2_q, hf_q, hKt, rfl⟩ ih2_q
      refine go_iload_n (pc := 175) dX8_beach_175 rfl ?_
      refine go_sipush (v := 3020) (pc := 176) dX8_beach_176 (by decide) ?_
      refine go_icmp_ge (tgt := 200) (pc := 179) dX8_beach_179 (by decide) (fun h_179 => by exfalso; exact absurd h_179 (nI_ge (b := 3020) (by omega) (by decide))) (fun h_179 => ?_)
      refine go_aload_n (pc := 182) dX8_beach_182 rfl ?_
      refine go_getf (pc := 183) f_X8_9 dX8_beach_183 (by first | exact mo0 hM_q | exact mo2 hM_q) (by rfl) ?_
      refine go_iload_n (pc := 186) dX8_beach_186 rfl ?_
      refine go_aload_n (pc := 187) dX8_beach_187 rfl ?_
      refine go_getf (pc := 188) f_X8_13 dX8_beach_188 (by first | exact mo0 hM_q | exact mo2 hM_q) (by rfl) ?_
      refine go_iload_n (pc := 191) dX8_beach_191 rfl ?_
      refine go_iald (pc := 192) dX8_beach_192 (mo2 hM_q) (by exact ⟨rfl, by omega⟩) ?_
      refine go_mstK (pc := 193) hM_q dX8_beach_193 (by exact ⟨rfl, by omega⟩) (fun σ hM_q hf9 => ?_)
      have hf_q := hf_q.tr hf9
      refine go_iinc (v := 1) (lw := [_, _, _]) (pc := 194) dX8_beach_194 rfl (by decide) (by decide) rfl ?_
      refine go_goto (tgt := 175) (pc := 197) dX8_beach_197 (by decide) ?_
      rw [nI_1]
      exact ih2_q _ _ _ ⟨_, rfl, hM_q, (fun j hj_q => by
        by_cases e_q : j = i_q
        · rw [e_q, pk_us]
        · rw [pk_un e_q]; exact h2_q j (by omega)), hf_q, (fun j hj_q => (pk_un (by omega)).trans (hKt j hj_q)), rfl⟩
    · rintro lv9 σ n9 ⟨K9_q, rfl, hM_q, h2_q, hf_q, hKt, rfl⟩
      refine go_iload_n (pc := 175) dX8_beach_175 rfl ?_
      refine go_sipush (v := 3020) (pc := 176) dX8_beach_176 (by decide) ?_
      refine go_icmp_ge (tgt := 200) (pc := 179) dX8_beach_179 (by decide) (fun h_179 => ?_) (fun h_179 => by exfalso; exact h_179 (by decide))
      refine go_aload_n (pc := 200) dX8_beach_200 rfl ?_
      refine go_getf (pc := 201) f_X8_9 dX8_beach_201 (by first | exact mo0 hM_q | exact mo2 hM_q) (by rfl) ?_
      refine go_iconst (v := 0) (pc := 204) dX8_beach_204 (by decide) ?_
      refine go_iald (pc := 205) dX8_beach_205 (mo1 hM_q) (by exact ⟨rfl, by decide⟩) ?_
      exact go_iretI (pc := 206) rfl dX8_beach_206 (Nat.le_of_ble_eq_true rfl) (Nat.le_of_ble_eq_true rfl) (by
  have hT9 := (hT_q h_162).1
  have hI9 := (hT_q h_162).2
  have w9_q := okB_900 hI9.1
  have hK : telR K9_q x9_q.2 := ⟨fun j hj_q => (h2_q j (by omega)).trans (hT9.1 j hj_q), fun w a4 a6 j hj_q => by
    have := lwA_b (w := w)
    have := w9_q w a4 a6
    rw [h2_q _ (by omega)]
    exact hT9.2 w a4 a6 j hj_q⟩
  exact ⟨rfl, Or.inr ⟨N, rfl, F11, K9_q, A9_q, hM_q, (tG 4 (by decide)).trans ((tF 4 (by decide)).trans h4_q), (tG 6 (by decide)).trans ((tF 6 (by decide)).trans h6_q), (by rw [eX]; exact (tG 14 (by decide)).trans t14), (fun e_q => by rw [eX] at e_q; exact absurd h_162 e_q), (fun e_q => ⟨(by rw [t15, if_pos h_162]), (by rw [eX]; exact hK), (by rw [eX]; exact hK.1 0 (by omega))⟩), (fun j a1_q a2 => (tG j (by omega)).trans ((tF j (by omega)).trans (qo j a1_q a2))), oA, hf_q, hKt⟩⟩)
  · refine go_aload_n (pc := 131) dX8_beach_131 rfl ?_
    refine go_aload_n (pc := 132) dX8_beach_132 rfl ?_
    refine go_getf (pc := 133) f_X8_99 dX8_beach_133 (by first | exact mo0 hM_q | exact mo2 hM_q) (by rfl) ?_
    rw [hS_q.2.1]
    refine go_mpf14 (pc := 136) hM_q dX8_beach_136 (fun σ hM_q hf9 => ?_)
    have hf_q := hf_q.tr hf9
    obtain ⟨F10, hM_q, t14, tF⟩ : ∃ F10 : row, MoAt Γ σ r_q F10 K A9_q Nm ∧ F10 14 = x9_q.1.bad ∧ ∀ j, j ≠ 14 → F10 j = F9 j := ⟨_, hM_q, pk_us, fun j hj_q => pk_un hj_q⟩
    refine go_aload_n (pc := 139) dX8_beach_139 rfl ?_
    refine go_aload_n (pc := 140) dX8_beach_140 rfl ?_
    refine go_getf (pc := 141) f_X8_99 dX8_beach_141 (by first | exact mo0 hM_q | exact mo2 hM_q) (by rfl) ?_
    rw [tF 12 (by decide), hS_q.2.1]
    refine go_if_ne (tgt := 151) (pc := 144) dX8_beach_144 (by decide) (fun h_144 => ?_) (fun h_144 => by exfalso; exact hb9 h_144)
    have hb1 : x9_q.1.bad ≠ 0 := h_144
    refine go_aload_n (pc := 151) dX8_beach_151 rfl ?_
    refine go_getf (pc := 152) f_X8_102 dX8_beach_152 (by first | exact mo0 hM_q | exact mo2 hM_q) (by rfl) ?_
    refine go_mpf15 (pc := 155) hM_q dX8_beach_155 (fun σ hM_q hf9 => ?_)
    have hf_q := hf_q.tr hf9
    obtain ⟨F11, hM_q, t15, tG⟩ : ∃ F11 : row, MoAt Γ σ r_q F11 K A9_q Nm ∧ F11 15 = (if x9_q.1.bad = 0 then -1 else x9_q.1.pl) ∧ ∀ j, j ≠ 15 → F11 j = F10 j := ⟨_, hM_q, (by rw [pk_us]; first | (have g_q : x9_q.1.bad = 0 := h_144; rw [if_pos g_q]) | (have g_q : ¬ x9_q.1.bad = 0 := h_144; rw [if_neg g_q, tF 13 (by decide), hS_q.2.2.2 g_q])), fun j hj_q => pk_un hj_q⟩
    refine go_aload_n (pc := 158) dX8_beach_158 rfl ?_
    refine go_getf (pc := 159) f_X8_99 dX8_beach_159 (by first | exact mo0 hM_q | exact mo2 hM_q) (by rfl) ?_
    rw [tG 12 (by decide), tF 12 (by decide), hS_q.2.1]
    refine go_if_eq (tgt := 173) (pc := 162) dX8_beach_162 (by decide) (fun h_162 => by exfalso; exact hb9 h_162) (fun h_162 => ?_)
    refine go_bipush (v := -10) (pc := 165) dX8_beach_165 (by decide) ?_
    refine go_aload_n (pc := 167) dX8_beach_167 rfl ?_
    refine go_getf (pc := 168) f_X8_99 dX8_beach_168 (by first | exact mo0 hM_q | exact mo2 hM_q) (by rfl) ?_
    rw [tG 12 (by decide), tF 12 (by decide), hS_q.2.1]
    refine go_isub (pc := 171) dX8_beach_171 ?_
    exact go_iretI (pc := 172) rfl dX8_beach_172 (Nat.le_of_ble_eq_true rfl) (Nat.le_of_ble_eq_true rfl) ⟨rfl, Or.inr ⟨N, rfl, F11, K, A9_q, hM_q, (tG 4 (by decide)).trans ((tF 4 (by decide)).trans h4_q), (tG 6 (by decide)).trans ((tF 6 (by decide)).trans h6_q), (by rw [eX]; exact (tG 14 (by decide)).trans t14), (fun e_q => ⟨(by rw [eX]), rfl, (by rw [eX] at e_q ⊢; rw [t15, if_neg e_q])⟩), (fun e_q => by rw [eX] at e_q; exact absurd e_q h_162), (fun j a1_q a2 => (tG j (by omega)).trans ((tF j (by omega)).trans (qo j a1_q a2))), oA, hf_q, fun _ _ => rfl⟩⟩
theorem sp_beach {Γ : gam} {z0 : sto} {n k r_q t_q : Nat} {F K : row} {A : Nat → row} {Nm : Nat → Int64} (hM_q : MoAt Γ z0 r_q F K A Nm) (hT_q : F 6 = nI t_q) (ht_q : t_q ≤ 900) (z_q : Int32) (hk : 130 ≤ k) : Sp Γ (rmk k 0 0) uX8_beach [.ref r_q, .int z_q] z0 n (qI fun v_q σ' n' => n' = n ∧ ((rN 0 (t_q + 1) z_q.toInt = none ∧ v_q = 0 ∧ ∃ F' : row, MoAt Γ σ' r_q F' K A Nm ∧ F' 4 = 1 ∧ (∀ j, j ≠ 4 → F' j = F j) ∧ fr r_q (r_q + 16) z0 σ') ∨ ∃ N, rN 0 (t_q + 1) z_q.toInt = some N ∧ bchR Γ z0 r_q N F K A Nm v_q σ')) := by
  refine sp_intro [some (.ref r_q), some (.int z_q), none] (by decide +kernel) rfl (Nat.le_of_ble_eq_true rfl) rfl ?_
  have hf_q : fr r_q (r_q + 16) z0 z0 := fr.rf
  have hT64 : (F 6).toInt64.toInt + 1 = ((t_q + 1 : Nat) : Int) := by rw [hT_q, Int32.toInt_toInt64, nI_toInt (by omega)]; omega
  cases hz_q : rN 0 (t_q + 1) z_q.toInt with
  | none =>
    refine go_aload_n (pc := 0) dX8_beach_0 rfl ?_
    refine go_iconst (v := 0) (pc := 1) dX8_beach_1 (by decide) ?_
    refine go_mpf4 (pc := 2) hM_q dX8_beach_2 (fun σ hM_q hf9 => ?_)
    have hf_q := hf_q.tr hf9
    refine go_iload_n (pc := 5) dX8_beach_5 rfl ?_
    refine go_i2l (pc := 6) dX8_beach_6 ?_
    refine go_lconst (v := 0) (pc := 7) dX8_beach_7 rfl ?_
    refine go_aload_n (pc := 8) dX8_beach_8 rfl ?_
    refine go_getf (pc := 9) f_X8_67 dX8_beach_9 (by first | exact mo0 hM_q | exact mo2 hM_q) (by rfl) ?_
    refine go_i2l (pc := 12) dX8_beach_12 ?_
    refine go_S3P (pc := 13) s_X8_125 rfl rfl dX8_beach_13 (sp_within (k := k - 1) _ _ _) ?_
    refine go_if_ne (tgt := 25) (pc := 16) dX8_beach_16 (by decide) (fun h_16 => by exfalso; exact h_16 (wi_no hz_q (by decide) hT64)) (fun h_16 => ?_)
    refine go_aload_n (pc := 19) dX8_beach_19 rfl ?_
    refine go_iconst (v := 1) (pc := 20) dX8_beach_20 (by decide) ?_
    refine go_V1I (pc := 21) v_X8_231 rfl rfl (rcv_of (ci := 8) (by first | exact mo0 hM_q | exact mo2 hM_q) rfl) dX8_beach_21 (sp_fails (k := k - 1) hM_q _) (fun v_21 σ n h_q => ?_)
    obtain ⟨rfl, rfl, A1, hM_q, hA1, hf1⟩ := h_q
    have hf_q := hf_q.tr hf1
    have eA : A1 = A := funext (fun i_q => hA1 i_q (by simp))
    rw [eA] at hM_q
    exact go_iretI (pc := 24) rfl dX8_beach_24 (Nat.le_of_ble_eq_true rfl) (Nat.le_of_ble_eq_true rfl) ⟨rfl, Or.inl ⟨rfl, rfl, _, hM_q, pk_us, fun j hj_q => (pk_un hj_q).trans (pk_un hj_q), hf_q⟩⟩
  | some N =>
    have hz1 := rN_some hz_q
    obtain rfl := I_nat hz1.1 (by omega)
    have hN_q : N ≤ 900 := by omega
    refine go_aload_n (pc := 0) dX8_beach_0 rfl ?_
    refine go_iconst (v := 0) (pc := 1) dX8_beach_1 (by decide) ?_
    refine go_mpf4 (pc := 2) hM_q dX8_beach_2 (fun σ hM_q hf9 => ?_)
    have hf_q := hf_q.tr hf9
    refine go_iload_n (pc := 5) dX8_beach_5 rfl ?_
    refine go_i2l (pc := 6) dX8_beach_6 ?_
    refine go_lconst (v := 0) (pc := 7) dX8_beach_7 rfl ?_
    refine go_aload_n (pc := 8) dX8_beach_8 rfl ?_
    refine go_getf (pc := 9) f_X8_67 dX8_beach_9 (by first | exact mo0 hM_q | exact mo2 hM_q) (by rfl) ?_
    rw [show upd F 4 0 6 = F 6 from rfl]
    refine go_i2l (pc := 12) dX8_beach_12 ?_
    refine go_S3P (pc := 13) s_X8_125 rfl rfl dX8_beach_13 (sp_within (k := k - 1) _ _ _) ?_
    refine go_if_ne (tgt := 25) (pc := 16) dX8_beach_16 (by decide) (fun h_16 => ?_) (fun h_16 => by exfalso; rw [wi_yes hz_q (by decide) hT64] at h_16; exact absurd h_16 (by decide))
    refine go_aload_n (pc := 25) dX8_beach_25 rfl ?_
    refine go_iload_n (pc := 26) dX8_beach_26 rfl ?_
    refine go_mpf7 (pc := 27) hM_q dX8_beach_27 (fun σ hM_q hf9 => ?_)
    have hf_q := hf_q.tr hf9
    refine go_aload_n (pc := 30) dX8_beach_30 rfl ?_
    refine go_iconst (v := 0) (pc := 31) dX8_beach_31 (by decide) ?_
    refine go_mpf6 (pc := 32) hM_q dX8_beach_32 (fun σ hM_q hf9 => ?_)
    have hf_q := hf_q.tr hf9
    refine go_aload_n (pc := 35) dX8_beach_35 rfl ?_
    refine go_iconst (v := 0) (pc := 36) dX8_beach_36 (by decide) ?_
    refine go_mpf8 (pc := 37) hM_q dX8_beach_37 (fun σ hM_q hf9 => ?_)
    have hf_q := hf_q.tr hf9
    refine go_aload_n (pc := 40) dX8_beach_40 rfl ?_
    refine go_iconst (v := 0) (pc := 41) dX8_beach_41 (by decide) ?_
    refine go_mpf12 (pc := 42) hM_q dX8_beach_42 (fun σ hM_q hf9 => ?_)
    have hf_q := hf_q.tr hf9
    refine go_aload_n (pc := 45) dX8_beach_45 rfl ?_
    refine go_iconst (v := 0) (pc := 46) dX8_beach_46 (by decide) ?_
    refine go_mpf16 (pc := 47) hM_q dX8_beach_47 (fun σ hM_q hf9 => ?_)
    have hf_q := hf_q.tr hf9
    obtain ⟨F1, hM_q, q4, q6, q7, q8, q12, q16, qo⟩ : ∃ F1 : row, MoAt Γ σ r_q F1 K A Nm ∧ F1 4 = 0 ∧ F1 6 = 0 ∧ F1 7 = nI N ∧ F1 8 = nI 0 ∧ F1 12 = 0 ∧ F1 16 = 0 ∧ ∀ j, j ≠ 4 → (j < 6 ∨ 18 < j) → F1 j = F j := ⟨_, hM_q, rfl, rfl, rfl, rfl, rfl, rfl, fun j a1_q a2 => by rw [pk_un (by omega), pk_un (by omega), pk_un (by omega), pk_un (by omega), pk_un (by omega), pk_un (by omega)]⟩
    refine go_iconst (v := 0) (pc := 50) dX8_beach_50 (by decide) ?_
    refine go_istore_n (lw := [_, _, _]) (pc := 51) dX8_beach_51 (by decide) rfl ?_
    refine go_iter (3020) (fun i_q lv9 s9 n9 => ∃ (A9_q : Nat → row), lv9 = [some (.ref r_q), some (.int (nI N)), some (.int (nI i_q))] ∧ (MoAt Γ s9 r_q F1 K A9_q Nm) ∧ (∀ j, j < i_q → A9_q 2 j = 0) ∧ (∀ i2_q, i2_q ≠ 2 → A9_q i2_q = A i2_q) ∧ (fr r_q (r_q + 16) z0 s9) ∧ n = n9) ⟨A, rfl, hM_q, (fun j hj_q => absurd hj_q (by omega)), (fun _ _ => rfl), hf_q, rfl⟩ ?_ ?_
    · rintro i_q lv9 σ n9 hi_q ⟨A9_q, rfl, hM_q, h2_q, oA, hf_q, rfl⟩ ih_q
      refine go_iload_n (pc := 52) dX8_beach_52 rfl ?_
      refine go_sipush (v := 3020) (pc := 53) dX8_beach_53 (by decide) ?_
      refine go_icmp_ge (tgt := 72) (pc := 56) dX8_beach_56 (by decide) (fun h_56 => by exfalso; exact absurd h_56 (nI_ge (b := 3020) (by omega) (by decide))) (fun h_56 => ?_)
      refine go_aload_n (pc := 59) dX8_beach_59 rfl ?_
      refine go_getf (pc := 60) f_X8_13 dX8_beach_60 (by first | exact mo0 hM_q | exact mo2 hM_q) (by rfl) ?_
      refine go_iload_n (pc := 63) dX8_beach_63 rfl ?_
      refine go_iconst (v := 0) (pc := 64) dX8_beach_64 (by decide) ?_
      refine go_mst2 (pc := 65) hM_q dX8_beach_65 (by exact ⟨rfl, by omega⟩) (fun σ hM_q hf9 => ?_)
      have hf_q := hf_q.tr hf9
      refine go_iinc (v := 1) (lw := [_, _, _]) (pc := 66) dX8_beach_66 rfl (by decide) (by decide) rfl ?_
      refine go_goto (tgt := 52) (pc := 69) dX8_beach_69 (by decide) ?_
      rw [nI_1]
      exact ih_q _ _ _ ⟨_, rfl, hM_q, (fun j hj_q => by
        simp only [updA, if_true]
        by_cases e_q : j = i_q
        · rw [e_q, pk_us]
        · rw [pk_un e_q]; exact h2_q j (by omega)), (fun i2_q hi2_q => by simp only [updA, if_neg hi2_q]; exact oA i2_q hi2_q), hf_q, rfl⟩
    · rintro lv9 σ n9 ⟨A9_q, rfl, hM_q, h2_q, oA, hf_q, rfl⟩
      refine go_iload_n (pc := 52) dX8_beach_52 rfl ?_
      refine go_sipush (v := 3020) (pc := 53) dX8_beach_53 (by decide) ?_
      refine go_icmp_ge (tgt := 72) (pc := 56) dX8_beach_56 (by decide) (fun h_56 => ?_) (fun h_56 => by exfalso; exact h_56 (by decide))
      refine go_aload_n (pc := 72) dX8_beach_72 rfl ?_
      refine go_V0V (pc := 73) v_X8_118 rfl rfl (rcv_of (ci := 8) (by first | exact mo0 hM_q | exact mo2 hM_q) rfl) dX8_beach_73 (sp_readsOn (k := k - 1) hM_q hN_q q7 q8 (by omega) (by omega)) (fun σ n h_q => ?_)
      obtain ⟨rfl, F2, hM_q, hS_q, hF2, hf2⟩ := h_q
      have hf_q := hf_q.tr hf2
      have hS_q : rfR (A9_q 5) N F2 (psm (tkn (A 5) N 0) 0 (-1) stM) := by
        rw [oA 5 (by decide)] at hS_q ⊢
        exact ⟨(hF2 7 (by omega)).trans q7, (hF2 12 (by omega)).trans q12, fun _ => hS_q, fun e_q => absurd rfl e_q⟩
      refine go_aload_n (pc := 76) dX8_beach_76 rfl ?_
      refine go_ldcS (si := 32) (pc := 77) rfl dX8_beach_77 ?_
      refine go_V1V (pc := 79) v_X8_196 rfl rfl (rcv_of (ci := 8) (by first | exact mo0 hM_q | exact mo2 hM_q) rfl) dX8_beach_79 (sp_mustWord (k := k - 1) hM_q hS_q (si := 32) (q := ("FrontChairsModel", 234, "beach")) (cw := 4) rfl (by decide) wk_4 (by decide) (by decide) hN_q (by omega)) (fun σ n h_q => ?_)
      obtain ⟨rfl, F3, hM_q, hS_q, hF3, hf3⟩ := h_q
      have hf_q := hf_q.tr hf3
      refine go_aload_n (pc := 82) dX8_beach_82 rfl ?_
      refine go_getf (pc := 83) f_X8_13 dX8_beach_83 (by first | exact mo0 hM_q | exact mo2 hM_q) (by rfl) ?_
      refine go_iconst (v := 1) (pc := 86) dX8_beach_86 (by decide) ?_
      refine go_aload_n (pc := 87) dX8_beach_87 rfl ?_
      refine go_iconst (v := 1) (pc := 88) dX8_beach_88 (by decide) ?_
      refine go_iconst (v := 4) (pc := 89) dX8_beach_89 (by decide) ?_
      refine go_V2I (pc := 90) v_X8_190 rfl rfl (rcv_of (ci := 8) (by first | exact mo0 hM_q | exact mo2 hM_q) rfl) dX8_beach_90 (sp_number (k := k - 1) hM_q hS_q hN_q 1 4 (by omega)) (fun v_90 σ n h_q => ?_)
      obtain ⟨rfl, rfl, F4, hM_q, hS_q, hF4, hf4⟩ := h_q
      have hf_q := hf_q.tr hf4
      refine go_mst2 (j := 1) (pc := 93) hM_q dX8_beach_93 (by exact ⟨rfl, by decide⟩) (fun σ hM_q hf9 => ?_)
      have hf_q := hf_q.tr hf9
      obtain ⟨A1, hM_q, aA1, oA1⟩ : ∃ A1 : Nat → row, MoAt Γ σ r_q F4 K A1 Nm ∧ A1 2 = upd (A9_q 2) (1) ((op2 N (A 5)).1) ∧ ∀ i_q, i_q ≠ 2 → A1 i_q = A9_q i_q := ⟨_, hM_q, (by simp only [updA, if_true]; rfl), fun i_q hi_q => by simp [updA, hi_q]⟩
      rw [← oA1 5 (by decide)] at hS_q
      refine go_aload_n (pc := 94) dX8_beach_94 rfl ?_
      refine go_getf (pc := 95) f_X8_13 dX8_beach_95 (by first | exact mo0 hM_q | exact mo2 hM_q) (by rfl) ?_
      refine go_iconst (v := 2) (pc := 98) dX8_beach_98 (by decide) ?_
      refine go_aload_n (pc := 99) dX8_beach_99 rfl ?_
      refine go_iconst (v := 1) (pc := 100) dX8_beach_100 (by decide) ?_
      refine go_iconst (v := 5) (pc := 101) dX8_beach_101 (by decide) ?_
      refine go_V2I (pc := 102) v_X8_190 rfl rfl (rcv_of (ci := 8) (by first | exact mo0 hM_q | exact mo2 hM_q) rfl) dX8_beach_102 (sp_number (k := k - 1) hM_q hS_q hN_q 1 5 (by omega)) (fun v_102 σ n h_q => ?_)
      obtain ⟨rfl, rfl, F5, hM_q, hS_q, hF5, hf5⟩ := h_q
      have hf_q := hf_q.tr hf5
      refine go_mst2 (j := 2) (pc := 105) hM_q dX8_beach_105 (by exact ⟨rfl, by decide⟩) (fun σ hM_q hf9 => ?_)
      have hf_q := hf_q.tr hf9
      obtain ⟨A2, hM_q, aA2, oA2⟩ : ∃ A2 : Nat → row, MoAt Γ σ r_q F5 K A2 Nm ∧ A2 2 = upd (A1 2) (2) ((op3 N (A 5)).1) ∧ ∀ i_q, i_q ≠ 2 → A2 i_q = A1 i_q := ⟨_, hM_q, (by simp only [updA, if_true]; rfl), fun i_q hi_q => by simp [updA, hi_q]⟩
      rw [← oA2 5 (by decide)] at hS_q
      have oA : ∀ i_q, i_q ≠ 2 → A2 i_q = A i_q := fun i_q hi_q => (oA2 i_q hi_q).trans ((oA1 i_q hi_q).trans (oA i_q hi_q))
      have hT0 : telR (A2 2) (opT N (A 5)) := by
        have z9_q : ∀ j, j < 3020 → A2 2 j = opT N (A 5) j := fun j hj_q => by
          rw [aA2, aA1, opT]
          by_cases e2_q : j = 2
          · rw [e2_q, pk_us, pk_us]
          · rw [pk_un e2_q, pk_un e2_q]
            by_cases e1_q : j = 1
            · rw [e1_q, pk_us, pk_us]
            · rw [pk_un e1_q, pk_un e1_q]
              exact h2_q j hj_q
        have o9 : ∀ w, 4 ≤ w → opT N (A 5) w = 0 := fun w hw_q => by rw [opT, pk_un (by omega), pk_un (by omega)]
        refine ⟨fun j hj_q => z9_q j (by omega), fun w h4_q h6_q j hj_q => ?_⟩
        rw [o9 w h4_q] at hj_q
        exact absurd (show j < 0 from hj_q) (by omega)
      have hF : ∀ j, (j < 8 ∨ 13 < j) → F5 j = F1 j := fun j hj_q => (hF5 j hj_q).trans ((hF4 j hj_q).trans ((hF3 j hj_q).trans (hF2 j (by omega))))
      refine go_aload_n (pc := 106) dX8_beach_106 rfl ?_
      refine go_V0V (pc := 107) v_X8_228 rfl rfl (rcv_of (ci := 8) (by first | exact mo0 hM_q | exact mo2 hM_q) rfl) dX8_beach_107 (sp_readStop (k := k - 1) hM_q hS_q hN_q (T := opT N (A 5)) (fun _ => hT0) ((hF 16 (by omega)).trans q16) (by omega)) (fun σ n h_q => ?_)
      obtain ⟨rfl, F6, A6, hM_q, hS_q, hT6, h16, hF6, oA6, hf6⟩ := h_q
      have hf_q := hf_q.tr hf6
      have hF : ∀ j, (j < 8 ∨ 13 < j) → j ≠ 16 → j ≠ 17 → j ≠ 18 → F6 j = F1 j := fun j a1_q a2 a3 a4 => (hF6 j a1_q a2 a3 a4).trans (hF j a1_q)
      have oA : ∀ i_q, i_q ≠ 2 → A6 i_q = A i_q := fun i_q hi_q => (oA6 i_q hi_q).trans (oA i_q hi_q)
      have hS_q : rfR (A 5) N F6 (opP N (A 5)).1 := by
        rw [oA2 5 (by decide), oA1 5 (by decide)] at hS_q
        have hS_q : rfR (A9_q 5) N F6 (opP N (A 5)).1 := hS_q
        rw [show A9_q 5 = A 5 from (oA1 5 (by decide)).symm.trans ((oA2 5 (by decide)).symm.trans ((oA6 5 (by decide)).symm.trans (oA 5 (by decide))))] at hS_q
        exact hS_q
      have e01 : opT N (A 5) 0 + 1 = 1 := by rw [opT, pk_un (by omega), pk_un (by omega)]; rfl
      rw [e01] at hT6
      refine go_meas (fun m9_q lv9 s8 n9 => ∃ (x9_q : ps × row), ∃ (F9 : row), ∃ (A9_q : Nat → row), lv9 = [some (.ref r_q), some (.int (nI N)), some (.int (nI 3020))] ∧ (MoAt Γ s8 r_q F9 K A9_q Nm) ∧ (rfR (A 5) N F9 x9_q.1) ∧ (x9_q.1.bad = 0 → telR (A9_q 2) x9_q.2 ∧ lnI x9_q.2) ∧ (rdG N x9_q = bchP N (A 5)) ∧ (F9 16 = 0) ∧ (F9 4 = 0) ∧ (F9 6 = 0) ∧ (∀ j, j ≠ 4 → (j < 6 ∨ 18 < j) → F9 j = F j) ∧ (∀ i_q, i_q ≠ 2 → A9_q i_q = A i_q) ∧ (fr r_q (r_q + 16) z0 s8) ∧ (x9_q.1.l.length ≤ 900) ∧ (vOK x9_q.1.l) ∧ m9_q = mB x9_q.1 ∧ n = n9) (mB (opP N (A 5)).1) ⟨(opP N (A 5)), F6, A6, rfl, hM_q, hS_q, (fun e_q => ⟨hT6 e_q, lnI_op e_q⟩), rfl, h16, ((hF 4 (by omega) (by omega) (by omega) (by omega)).trans q4), ((hF 6 (by omega) (by omega) (by omega) (by omega)).trans q6), (fun j a1_q a2 => (hF j (by omega) (by omega) (by omega) (by omega)).trans (qo j a1_q a2)), oA, hf_q, (Nat.le_trans len_op hN_q), vOK_op, rfl, rfl⟩ ?_
      rintro m9_q lv9 σ n9 ⟨x9_q, F9, A9_q, rfl, hM_q, hS_q, hT_q, hE, h16, h4_q, h6_q, qo, oA, hf_q, hl9, hv9_q, rfl, rfl⟩ ih0
      rw [← oA 5 (by decide)] at hS_q
      refine go_aload_n (pc := 110) dX8_beach_110 rfl ?_
      refine go_getf (pc := 111) f_X8_99 dX8_beach_111 (by first | exact mo0 hM_q | exact mo2 hM_q) (by rfl) ?_
      rw [hS_q.2.1]
      refine go_if_ne (tgt := 131) (pc := 114) dX8_beach_114 (by decide) (fun h_114 => ?_) (fun h_114 => ?_)
      · have eX : bchP N (A 5) = x9_q := by
          rw [← hE]
          first
            | (have g_q : ¬ x9_q.1.bad = 0 := h_114
               exact rdG_done (fun c_q => g_q c_q.1))
            | (have g_q : F9 10 = 0 := h_121
               exact rdG_done (fun c_q => c_q.2 (by rw [(tok_end tk9).mp g_q]; rfl)))
        rw [oA 5 (by decide)] at hS_q
        exact rb_131 hM_q hS_q hT_q eX h4_q h6_q qo oA hf_q
      · have tk9 := hS_q.2.2.1 h_114
        refine go_aload_n (pc := 117) dX8_beach_117 rfl ?_
        refine go_getf (pc := 118) f_X8_79 dX8_beach_118 (by first | exact mo0 hM_q | exact mo2 hM_q) (by rfl) ?_
        refine go_if_eq (tgt := 131) (pc := 121) dX8_beach_121 (by decide) (fun h_121 => ?_) (fun h_121 => ?_)
        · have eX : bchP N (A 5) = x9_q := by
            rw [← hE]
            first
              | (have g_q : ¬ x9_q.1.bad = 0 := h_114
                 exact rdG_done (fun c_q => g_q c_q.1))
              | (have g_q : F9 10 = 0 := h_121
                 exact rdG_done (fun c_q => c_q.2 (by rw [(tok_end tk9).mp g_q]; rfl)))
          rw [oA 5 (by decide)] at hS_q
          exact rb_131 hM_q hS_q hT_q eX h4_q h6_q qo oA hf_q
        · have ne9 : x9_q.1.l ≠ [] := fun e_q => h_121 ((tok_end tk9).mpr e_q)
          have kd9 : kd x9_q.1.l ≠ 0 := tkn_kd tk9 h_121
          obtain ⟨hT9, hI9⟩ := hT_q h_114
          refine go_aload_n (pc := 124) dX8_beach_124 rfl ?_
          refine go_V0V (pc := 125) v_X8_236 rfl rfl (rcv_of (ci := 8) (by first | exact mo0 hM_q | exact mo2 hM_q) rfl) dX8_beach_125 (sp_readLine (k := k - 1) hM_q hS_q hN_q hT9 h16 h_114 ne9 hl9 hI9.1.1.1 hI9.1.1.2.1 (okB_900 hI9.1) hv9_q (by omega)) (fun σ n h_q => ?_)
          obtain ⟨rfl, F7, A7, hM_q, hS_q, hT7, h17, hF7, oA7, hf7⟩ := h_q
          have hf_q := hf_q.tr hf7
          have oA : ∀ i_q, i_q ≠ 2 → A7 i_q = A i_q := fun i_q hi_q => (oA7 i_q hi_q).trans (oA i_q hi_q)
          have hS_q : rfR (A 5) N F7 (lnP N x9_q).1 := by
            rw [(oA7 5 (by decide)).symm.trans (oA 5 (by decide))] at hS_q
            exact hS_q
          refine go_goto (tgt := 110) (pc := 128) dX8_beach_128 (by decide) ?_
          exact ih0 _ _ _ _ (ln_mB h_114 kd9) ⟨lnP N x9_q, F7, A7, rfl, hM_q, hS_q, (fun e_q => ⟨hT7 e_q, lnI_ln hI9 h_114 kd9 hl9 e_q⟩), (by rw [← hE]; exact (rdG_step ⟨h_114, kd9⟩).symm), h17, (hF7 4 (by omega) (by omega) (by omega) (by omega)).trans h4_q, (hF7 6 (by omega) (by omega) (by omega) (by omega)).trans h6_q, (fun j a1_q a2 => (hF7 j (by omega) (by omega) (by omega) (by omega)).trans (qo j a1_q a2)), oA, hf_q, Nat.le_trans ln_le hl9, vOK.ln hv9_q, rfl, rfl⟩
