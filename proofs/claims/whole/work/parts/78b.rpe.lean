/-! ===== the reference: persons, lines ===== -/
theorem rp_94 {Γ : gam} {z0 σ : sto} {n k r_q N : Nat} {F F4 K : row} {A : Nat → row} {Nm : Nat → Int64} {s : ps} {T : row} (hM_q : MoAt Γ σ r_q F4 K A Nm) (hS_q : rfR (A 5) N F4 (p3 N s T)) (hN_q : N ≤ 900) (hT_q : telR (A 2) T) (hT3 : T 3 = nI (kP T)) (h8_q : kP T < 8) (h16 : F4 16 = 0) (hF : ∀ j, (j < 8 ∨ 13 < j) → F4 j = F j) (hf_q : fr r_q (r_q + 16) z0 σ) (hk : 12 ≤ k) : Go Γ (rmk k 0 0) uX8_readPerson (qV fun σ' n' => n' = n ∧ RlP Γ z0 r_q N F K A Nm (perP N s T).1 (perP N s T).2 σ') 0 0 94 [some (.ref r_q), some (.int (nI (kP T))), some (.int (p2 N s T).1), none, none] [] σ n := by
  have eP_q : perP N s T = ((p5 N s T).1, T6 (kP T) (p2 N s T).1 (p4 N s T).1 (p5 N s T).2) := if_neg (by omega)
  rw [eP_q]
  obtain ⟨p, ep⟩ : ∃ p, kP T = p := ⟨_, rfl⟩
  have h8_q : p < 8 := by rw [← ep]; exact h8_q
  have e5_q : p5 N s T = flG N p (p4 N s T).2 (T4 p T) := by rw [p5, ep]
  rw [ep]
  have hT3 : T 3 = nI p := by rw [← ep]; exact hT3
  refine go_aload_n (pc := 94) dX8_readPerson_94 rfl ?_
  refine go_iconst (v := 0) (pc := 95) dX8_readPerson_95 (by decide) ?_
  refine go_aload_n (pc := 96) dX8_readPerson_96 rfl ?_
  refine go_getf (pc := 97) f_X8_13 dX8_readPerson_97 (by first | exact mo0 hM_q | exact mo2 hM_q) (by rfl) ?_
  refine go_iconst (v := 2) (pc := 100) dX8_readPerson_100 (by decide) ?_
  refine go_iald (j := 2) (pc := 101) dX8_readPerson_101 (by first | exact mo0 hM_q | exact mo2 hM_q) (by exact ⟨rfl, by decide⟩) ?_
  refine go_iconst (v := 1) (pc := 102) dX8_readPerson_102 (by decide) ?_
  refine go_isub (pc := 103) dX8_readPerson_103 ?_
  rw [hT_q.1 2 (by omega)]
  refine go_V2I (pc := 104) v_X8_190 rfl rfl (rcv_of (ci := 8) (by first | exact mo0 hM_q | exact mo2 hM_q) rfl) dX8_readPerson_104 (sp_number (k := k - 1) hM_q hS_q hN_q 0 (T 2 - 1) (by omega)) (fun v_104 σ n h_q => ?_)
  obtain ⟨rfl, rfl, F5, hM_q, hS_q, hF5, hf5⟩ := h_q
  have hf_q := hf_q.tr hf5
  refine go_istore_n (lw := [_, _, _, _, _]) (pc := 107) dX8_readPerson_107 (by decide) rfl ?_
  refine go_aload_n (pc := 108) dX8_readPerson_108 rfl ?_
  refine go_getf (pc := 109) f_X8_13 dX8_readPerson_109 (by first | exact mo0 hM_q | exact mo2 hM_q) (by rfl) ?_
  refine go_bipush (v := 34) (pc := 112) dX8_readPerson_112 (by decide) ?_
  refine go_iload_n (pc := 114) dX8_readPerson_114 rfl ?_
  refine go_iadd (pc := 115) dX8_readPerson_115 ?_
  refine go_iconst (v := 0) (pc := 116) dX8_readPerson_116 (by decide) ?_
  refine go_mst2 (pc := 117) hM_q dX8_readPerson_117 (by exact ⟨nI_add 34 _, by omega⟩) (fun σ hM_q hf9 => ?_)
  have hf_q := hf_q.tr hf9
  obtain ⟨A1, hM_q, aA1, oA1⟩ : ∃ A1 : Nat → row, MoAt Γ σ r_q F5 K A1 Nm ∧ A1 2 = upd (A 2) (34 + p) (0) ∧ ∀ i_q, i_q ≠ 2 → A1 i_q = A i_q := ⟨_, hM_q, by simp [updA], fun i_q hi_q => by simp [updA, hi_q]⟩
  refine go_aload_n (pc := 118) dX8_readPerson_118 rfl ?_
  refine go_getf (pc := 119) f_X8_13 dX8_readPerson_119 (by first | exact mo0 hM_q | exact mo2 hM_q) (by rfl) ?_
  refine go_bipush (v := 43) (pc := 122) dX8_readPerson_122 (by decide) ?_
  refine go_iload_n (pc := 124) dX8_readPerson_124 rfl ?_
  refine go_iadd (pc := 125) dX8_readPerson_125 ?_
  refine go_iconst (v := -1) (pc := 126) dX8_readPerson_126 (by decide) ?_
  refine go_mst2 (pc := 127) hM_q dX8_readPerson_127 (by exact ⟨nI_add 43 _, by omega⟩) (fun σ hM_q hf9 => ?_)
  have hf_q := hf_q.tr hf9
  obtain ⟨A2, hM_q, aA2, oA2⟩ : ∃ A2 : Nat → row, MoAt Γ σ r_q F5 K A2 Nm ∧ A2 2 = upd (A1 2) (43 + p) (-1) ∧ ∀ i_q, i_q ≠ 2 → A2 i_q = A1 i_q := ⟨_, hM_q, by simp [updA], fun i_q hi_q => by simp [updA, hi_q]⟩
  refine go_aload_n (pc := 128) dX8_readPerson_128 rfl ?_
  refine go_getf (pc := 129) f_X8_13 dX8_readPerson_129 (by first | exact mo0 hM_q | exact mo2 hM_q) (by rfl) ?_
  refine go_bipush (v := 51) (pc := 132) dX8_readPerson_132 (by decide) ?_
  refine go_iload_n (pc := 134) dX8_readPerson_134 rfl ?_
  refine go_iadd (pc := 135) dX8_readPerson_135 ?_
  refine go_iconst (v := -1) (pc := 136) dX8_readPerson_136 (by decide) ?_
  refine go_mst2 (pc := 137) hM_q dX8_readPerson_137 (by exact ⟨nI_add 51 _, by omega⟩) (fun σ hM_q hf9 => ?_)
  have hf_q := hf_q.tr hf9
  obtain ⟨A3, hM_q, aA3, oA3⟩ : ∃ A3 : Nat → row, MoAt Γ σ r_q F5 K A3 Nm ∧ A3 2 = upd (A2 2) (51 + p) (-1) ∧ ∀ i_q, i_q ≠ 2 → A3 i_q = A2 i_q := ⟨_, hM_q, by simp [updA], fun i_q hi_q => by simp [updA, hi_q]⟩
  have hT_q : telR (A3 2) (T4 p T) := by
    rw [aA3, aA2, aA1]
    exact ((hT_q.up (by omega) (by omega)).up (by omega) (by omega)).up (by omega) (by omega)
  have oA : ∀ i_q, i_q ≠ 2 → A3 i_q = A i_q := fun i_q hi_q => (oA3 i_q hi_q).trans ((oA2 i_q hi_q).trans (oA1 i_q hi_q))
  have hF : ∀ j, (j < 8 ∨ 13 < j) → F5 j = F j := fun j hj_q => (hF5 j hj_q).trans (hF j hj_q)
  have h16 : F5 16 = 0 := (hF5 16 (by omega)).trans h16
  have hf_q : fr r_q (r_q + 16) z0 σ := hf_q
  refine go_iconst (v := 1) (pc := 138) dX8_readPerson_138 (by decide) ?_
  refine go_istore (lw := [_, _, _, _, _]) (pc := 139) dX8_readPerson_139 (by decide) rfl ?_
  refine go_meas (fun m9_q lv9 s8 n9 => ∃ (s9 : ps), ∃ (T9 : row), ∃ (mo : Nat), ∃ (F9 : row), ∃ (A9_q : Nat → row), lv9 = [some (.ref r_q), some (.int (nI p)), some (.int (p2 N s T).1), some (.int (p4 N s T).1), some (.int (nI mo))] ∧ (MoAt Γ s8 r_q F9 K A9_q Nm) ∧ (rfR (A 5) N F9 s9) ∧ (s9.bad = 0 → telR (A9_q 2) T9) ∧ ((if mo = 1 then flG N p s9 T9 else (s9, T9)) = p5 N s T) ∧ (F9 16 = 0) ∧ (∀ j, (j < 8 ∨ 13 < j) → F9 j = F j) ∧ (∀ i_q, i_q ≠ 2 → A9_q i_q = A i_q) ∧ (fr r_q (r_q + 16) z0 s8) ∧ (mo ≤ 1) ∧ m9_q = 2 * s9.l.length + mo ∧ n = n9) (2 * (p4 N s T).2.l.length + 1) ⟨(p4 N s T).2, (T4 p T), 1, F5, A3, rfl, hM_q, hS_q, (fun _ => hT_q), (by rw [if_pos rfl, e5_q]), h16, hF, oA, hf_q, (by omega), rfl, rfl⟩ ?_
  rintro m9_q lv9 σ n9 ⟨s9, T9, mo, F9, A9_q, rfl, hM_q, hS_q, hT_q, hE, h16, hF, oA, hf_q, hmo, rfl, rfl⟩ ih0
  rw [← oA 5 (by decide)] at hS_q
  refine go_aload_n (pc := 141) dX8_readPerson_141 rfl ?_
  refine go_getf (pc := 142) f_X8_99 dX8_readPerson_142 (by first | exact mo0 hM_q | exact mo2 hM_q) (by rfl) ?_
  rw [hS_q.2.1]
  refine go_if_ne (tgt := 229) (pc := 145) dX8_readPerson_145 (by decide) (fun h_145 => ?_) (fun h_145 => ?_)
  · have hE : p5 N s T = (s9, T9) := by
      first
        | (have g_q : ¬ s9.bad = 0 := h_145
           rw [← hE]
           split
           · exact flG_b g_q
           · rfl)
        | (have g_q : nI mo = 0 := h_150
           have em : ¬ mo = 1 := fun e_q => by rw [e_q] at g_q; exact absurd g_q (by decide)
           rw [← hE, if_neg em])
    rw [hE]
    refine go_aload_n (pc := 229) dX8_readPerson_229 rfl ?_
    refine go_getf (pc := 230) f_X8_99 dX8_readPerson_230 (by first | exact mo0 hM_q | exact mo2 hM_q) (by rfl) ?_
    rw [hS_q.2.1]
    refine go_if_eq (tgt := 237) (pc := 233) dX8_readPerson_233 (by decide) (fun h_233 => ?_) (fun h_233 => ?_)
    · have hT9 := hT_q h_233
      refine go_aload_n (pc := 237) dX8_readPerson_237 rfl ?_
      refine go_getf (pc := 238) f_X8_13 dX8_readPerson_238 (by first | exact mo0 hM_q | exact mo2 hM_q) (by rfl) ?_
      refine go_bipush (v := 8) (pc := 241) dX8_readPerson_241 (by decide) ?_
      refine go_iload_n (pc := 243) dX8_readPerson_243 rfl ?_
      refine go_iadd (pc := 244) dX8_readPerson_244 ?_
      refine go_iload_n (pc := 245) dX8_readPerson_245 rfl ?_
      refine go_mst2 (pc := 246) hM_q dX8_readPerson_246 (by exact ⟨nI_add 8 _, by omega⟩) (fun σ hM_q hf9 => ?_)
      have hf_q := hf_q.tr hf9
      obtain ⟨A4, hM_q, aA4, oA4⟩ : ∃ A4 : Nat → row, MoAt Γ σ r_q F9 K A4 Nm ∧ A4 2 = upd (A9_q 2) (8 + p) ((p2 N s T).1) ∧ ∀ i_q, i_q ≠ 2 → A4 i_q = A9_q i_q := ⟨_, hM_q, by simp [updA], fun i_q hi_q => by simp [updA, hi_q]⟩
      refine go_aload_n (pc := 247) dX8_readPerson_247 rfl ?_
      refine go_getf (pc := 248) f_X8_13 dX8_readPerson_248 (by first | exact mo0 hM_q | exact mo2 hM_q) (by rfl) ?_
      refine go_bipush (v := 16) (pc := 251) dX8_readPerson_251 (by decide) ?_
      refine go_iload_n (pc := 253) dX8_readPerson_253 rfl ?_
      refine go_iadd (pc := 254) dX8_readPerson_254 ?_
      refine go_iload_n (pc := 255) dX8_readPerson_255 rfl ?_
      refine go_mst2 (pc := 256) hM_q dX8_readPerson_256 (by exact ⟨nI_add 16 _, by omega⟩) (fun σ hM_q hf9 => ?_)
      have hf_q := hf_q.tr hf9
      obtain ⟨A5, hM_q, aA5, oA5⟩ : ∃ A5 : Nat → row, MoAt Γ σ r_q F9 K A5 Nm ∧ A5 2 = upd (A4 2) (16 + p) ((p4 N s T).1) ∧ ∀ i_q, i_q ≠ 2 → A5 i_q = A4 i_q := ⟨_, hM_q, by simp [updA], fun i_q hi_q => by simp [updA, hi_q]⟩
      refine go_aload_n (pc := 257) dX8_readPerson_257 rfl ?_
      refine go_getf (pc := 258) f_X8_13 dX8_readPerson_258 (by first | exact mo0 hM_q | exact mo2 hM_q) (by rfl) ?_
      refine go_bipush (v := 24) (pc := 261) dX8_readPerson_261 (by decide) ?_
      refine go_iload_n (pc := 263) dX8_readPerson_263 rfl ?_
      refine go_iadd (pc := 264) dX8_readPerson_264 ?_
      refine go_iconst (v := -1) (pc := 265) dX8_readPerson_265 (by decide) ?_
      refine go_mst2 (pc := 266) hM_q dX8_readPerson_266 (by exact ⟨nI_add 24 _, by omega⟩) (fun σ hM_q hf9 => ?_)
      have hf_q := hf_q.tr hf9
      obtain ⟨A6, hM_q, aA6, oA6⟩ : ∃ A6 : Nat → row, MoAt Γ σ r_q F9 K A6 Nm ∧ A6 2 = upd (A5 2) (24 + p) (-1) ∧ ∀ i_q, i_q ≠ 2 → A6 i_q = A5 i_q := ⟨_, hM_q, by simp [updA], fun i_q hi_q => by simp [updA, hi_q]⟩
      refine go_aload_n (pc := 267) dX8_readPerson_267 rfl ?_
      refine go_getf (pc := 268) f_X8_13 dX8_readPerson_268 (by first | exact mo0 hM_q | exact mo2 hM_q) (by rfl) ?_
      refine go_iconst (v := 3) (pc := 271) dX8_readPerson_271 (by decide) ?_
      refine go_dup2 (pc := 272) dX8_readPerson_272 rfl rfl ?_
      refine go_iald (pc := 273) dX8_readPerson_273 (by first | exact mo0 hM_q | exact mo2 hM_q) (by exact ⟨rfl, by decide⟩) ?_
      refine go_iconst (v := 1) (pc := 274) dX8_readPerson_274 (by decide) ?_
      refine go_iadd (pc := 275) dX8_readPerson_275 ?_
      have e3_q : A6 2 3 = nI p := by
        rw [aA6, aA5, aA4, pk_un (by omega), pk_un (by omega), pk_un (by omega), hT9.1 3 (by omega)]
        have k3 : T9 3 = T 3 := by
          have := congrArg Prod.snd hE
          have : (p5 N s T).2 3 = T9 3 := by rw [hE]
          rw [← this, e5_q, flG_keep (by omega) h8_q, T4, pk_un (by omega), pk_un (by omega), pk_un (by omega)]
        rw [k3, hT3]
      rw [e3_q, nI_1]
      refine go_mst2 (j := 3) (pc := 276) hM_q dX8_readPerson_276 (by exact ⟨rfl, by decide⟩) (fun σ hM_q hf9 => ?_)
      have hf_q := hf_q.tr hf9
      obtain ⟨A7, hM_q, aA7, oA7⟩ : ∃ A7 : Nat → row, MoAt Γ σ r_q F9 K A7 Nm ∧ A7 2 = upd (A6 2) (3) (nI (p + 1)) ∧ ∀ i_q, i_q ≠ 2 → A7 i_q = A6 i_q := ⟨_, hM_q, by simp [updA], fun i_q hi_q => by simp [updA, hi_q]⟩
      exact go_vretV (pc := 277) rfl dX8_readPerson_277 (Nat.le_of_ble_eq_true rfl) (Nat.le_of_ble_eq_true rfl) ⟨rfl, F9, A7, hM_q, (by rw [oA 5 (by decide)] at hS_q; exact hS_q), fun _ => (by
  rw [aA7, aA6, aA5, aA4]
  exact (((hT9.up (by omega) (by omega)).up (by omega) (by omega)).up (by omega) (by omega)).up (by omega) (by omega)), h16, fun j a1_q _ _ _ => hF j a1_q, fun i_q hi_q => (oA7 i_q hi_q).trans ((oA6 i_q hi_q).trans ((oA5 i_q hi_q).trans ((oA4 i_q hi_q).trans (oA i_q hi_q)))), hf_q⟩
    · exact go_vretV (pc := 236) rfl dX8_readPerson_236 (Nat.le_of_ble_eq_true rfl) (Nat.le_of_ble_eq_true rfl) ⟨rfl, F9, A9_q, hM_q, (by rw [oA 5 (by decide)] at hS_q; exact hS_q), fun e_q => absurd e_q h_233, h16, fun j a1_q _ _ _ => hF j a1_q, oA, hf_q⟩
  · refine go_iload (pc := 148) dX8_readPerson_148 rfl ?_
    refine go_if_eq (tgt := 229) (pc := 150) dX8_readPerson_150 (by decide) (fun h_150 => ?_) (fun h_150 => ?_)
    · have hE : p5 N s T = (s9, T9) := by
        first
          | (have g_q : ¬ s9.bad = 0 := h_145
             rw [← hE]
             split
             · exact flG_b g_q
             · rfl)
          | (have g_q : nI mo = 0 := h_150
             have em : ¬ mo = 1 := fun e_q => by rw [e_q] at g_q; exact absurd g_q (by decide)
             rw [← hE, if_neg em])
      rw [hE]
      refine go_aload_n (pc := 229) dX8_readPerson_229 rfl ?_
      refine go_getf (pc := 230) f_X8_99 dX8_readPerson_230 (by first | exact mo0 hM_q | exact mo2 hM_q) (by rfl) ?_
      rw [hS_q.2.1]
      refine go_if_eq (tgt := 237) (pc := 233) dX8_readPerson_233 (by decide) (fun h_233 => ?_) (fun h_233 => ?_)
      · have hT9 := hT_q h_233
        refine go_aload_n (pc := 237) dX8_readPerson_237 rfl ?_
        refine go_getf (pc := 238) f_X8_13 dX8_readPerson_238 (by first | exact mo0 hM_q | exact mo2 hM_q) (by rfl) ?_
        refine go_bipush (v := 8) (pc := 241) dX8_readPerson_241 (by decide) ?_
        refine go_iload_n (pc := 243) dX8_readPerson_243 rfl ?_
        refine go_iadd (pc := 244) dX8_readPerson_244 ?_
        refine go_iload_n (pc := 245) dX8_readPerson_245 rfl ?_
        refine go_mst2 (pc := 246) hM_q dX8_readPerson_246 (by exact ⟨nI_add 8 _, by omega⟩) (fun σ hM_q hf9 => ?_)
        have hf_q := hf_q.tr hf9
        obtain ⟨A4, hM_q, aA4, oA4⟩ : ∃ A4 : Nat → row, MoAt Γ σ r_q F9 K A4 Nm ∧ A4 2 = upd (A9_q 2) (8 + p) ((p2 N s T).1) ∧ ∀ i_q, i_q ≠ 2 → A4 i_q = A9_q i_q := ⟨_, hM_q, by simp [updA], fun i_q hi_q => by simp [updA, hi_q]⟩
        refine go_aload_n (pc := 247) dX8_readPerson_247 rfl ?_
        refine go_getf (pc := 248) f_X8_13 dX8_readPerson_248 (by first | exact mo0 hM_q | exact mo2 hM_q) (by rfl) ?_
        refine go_bipush (v := 16) (pc := 251) dX8_readPerson_251 (by decide) ?_
        refine go_iload_n (pc := 253) dX8_readPerson_253 rfl ?_
        refine go_iadd (pc := 254) dX8_readPerson_254 ?_
        refine go_iload_n (pc := 255) dX8_readPerson_255 rfl ?_
        refine go_mst2 (pc := 256) hM_q dX8_readPerson_256 (by exact ⟨nI_add 16 _, by omega⟩) (fun σ hM_q hf9 => ?_)
        have hf_q := hf_q.tr hf9
        obtain ⟨A5, hM_q, aA5, oA5⟩ : ∃ A5 : Nat → row, MoAt Γ σ r_q F9 K A5 Nm ∧ A5 2 = upd (A4 2) (16 + p) ((p4 N s T).1) ∧ ∀ i_q, i_q ≠ 2 → A5 i_q = A4 i_q := ⟨_, hM_q, by simp [updA], fun i_q hi_q => by simp [updA, hi_q]⟩
        refine go_aload_n (pc := 257) dX8_readPerson_257 rfl ?_
        refine go_getf (pc := 258) f_X8_13 dX8_readPerson_258 (by first | exact mo0 hM_q | exact mo2 hM_q) (by rfl) ?_
        refine go_bipush (v := 24) (pc := 261) dX8_readPerson_261 (by decide) ?_
        refine go_iload_n (pc := 263) dX8_readPerson_263 rfl ?_
        refine go_iadd (pc := 264) dX8_readPerson_264 ?_
        refine go_iconst (v := -1) (pc := 265) dX8_readPerson_265 (by decide) ?_
        refine go_mst2 (pc := 266) hM_q dX8_readPerson_266 (by exact ⟨nI_add 24 _, by omega⟩) (fun σ hM_q hf9 => ?_)
        have hf_q := hf_q.tr hf9
        obtain ⟨A6, hM_q, aA6, oA6⟩ : ∃ A6 : Nat → row, MoAt Γ σ r_q F9 K A6 Nm ∧ A6 2 = upd (A5 2) (24 + p) (-1) ∧ ∀ i_q, i_q ≠ 2 → A6 i_q = A5 i_q := ⟨_, hM_q, by simp [updA], fun i_q hi_q => by simp [updA, hi_q]⟩
        refine go_aload_n (pc := 267) dX8_readPerson_267 rfl ?_
        refine go_getf (pc := 268) f_X8_13 dX8_readPerson_268 (by first | exact mo0 hM_q | exact mo2 hM_q) (by rfl) ?_
        refine go_iconst (v := 3) (pc := 271) dX8_readPerson_271 (by decide) ?_
        refine go_dup2 (pc := 272) dX8_readPerson_272 rfl rfl ?_
        refine go_iald (pc := 273) dX8_readPerson_273 (by first | exact mo0 hM_q | exact mo2 hM_q) (by exact ⟨rfl, by decide⟩) ?_
        refine go_iconst (v := 1) (pc := 274) dX8_readPerson_274 (by decide) ?_
        refine go_iadd (pc := 275) dX8_readPerson_275 ?_
        have e3_q : A6 2 3 = nI p := by
          rw [aA6, aA5, aA4, pk_un (by omega), pk_un (by omega), pk_un (by omega), hT9.1 3 (by omega)]
          have k3 : T9 3 = T 3 := by
            have := congrArg Prod.snd hE
            have : (p5 N s T).2 3 = T9 3 := by rw [hE]
            rw [← this, e5_q, flG_keep (by omega) h8_q, T4, pk_un (by omega), pk_un (by omega), pk_un (by omega)]
          rw [k3, hT3]
        rw [e3_q, nI_1]
        refine go_mst2 (j := 3) (pc := 276) hM_q dX8_readPerson_276 (by exact ⟨rfl, by decide⟩) (fun σ hM_q hf9 => ?_)
        have hf_q := hf_q.tr hf9
        obtain ⟨A7, hM_q, aA7, oA7⟩ : ∃ A7 : Nat → row, MoAt Γ σ r_q F9 K A7 Nm ∧ A7 2 = upd (A6 2) (3) (nI (p + 1)) ∧ ∀ i_q, i_q ≠ 2 → A7 i_q = A6 i_q := ⟨_, hM_q, by simp [updA], fun i_q hi_q => by simp [updA, hi_q]⟩
        exact go_vretV (pc := 277) rfl dX8_readPerson_277 (Nat.le_of_ble_eq_true rfl) (Nat.le_of_ble_eq_true rfl) ⟨rfl, F9, A7, hM_q, (by rw [oA 5 (by decide)] at hS_q; exact hS_q), fun _ => (by
  rw [aA7, aA6, aA5, aA4]
  exact (((hT9.up (by omega) (by omega)).up (by omega) (by omega)).up (by omega) (by omega)).up (by omega) (by omega)), h16, fun j a1_q _ _ _ => hF j a1_q, fun i_q hi_q => (oA7 i_q hi_q).trans ((oA6 i_q hi_q).trans ((oA5 i_q hi_q).trans ((oA4 i_q hi_q).trans (oA i_q hi_q)))), hf_q⟩
      · exact go_vretV (pc := 236) rfl dX8_readPerson_236 (Nat.le_of_ble_eq_true rfl) (Nat.le_of_ble_eq_true rfl) ⟨rfl, F9, A9_q, hM_q, (by rw [oA 5 (by decide)] at hS_q; exact hS_q), fun e_q => absurd e_q h_233, h16, fun j a1_q _ _ _ => hF j a1_q, oA, hf_q⟩
    · have em : mo = 1 := by
        rcases (show mo = 0 ∨ mo = 1 by omega) with e_q | e_q
        · exact absurd (by rw [e_q]; rfl) h_150
        · exact e_q
      subst em
      rw [if_pos rfl] at hE
      have hT9 := hT_q h_145
      have hF16 : ∀ F7 : row, (∀ j, (j < 8 ∨ 13 < j) → F7 j = F9 j) → F7 16 = 0 ∧ ∀ j, (j < 8 ∨ 13 < j) → F7 j = F j := fun F7 e_q => ⟨(e_q 16 (by omega)).trans h16, fun j hj_q => (e_q j hj_q).trans (hF j hj_q)⟩
      refine go_aload_n (pc := 153) dX8_readPerson_153 rfl ?_
      refine go_ldcS (si := 35) (pc := 154) rfl dX8_readPerson_154 ?_
      refine go_V1I (pc := 156) v_X8_129 rfl rfl (rcv_of (ci := 8) (by first | exact mo0 hM_q | exact mo2 hM_q) rfl) dX8_readPerson_156 (sp_took (k := k - 1) hM_q hS_q (si := 35) (q := ("FrontChairsModel", 185, "age")) (cw := 11) rfl (by decide) wk_11 (by decide) (by decide) hN_q (by omega)) (fun v_156 σ n h_q => ?_)
      obtain ⟨rfl, rfl, F6, hM_q, hS_q, hF6, hf6⟩ := h_q
      have hf_q := hf_q.tr hf6
      refine go_if_eq (tgt := 181) (pc := 159) dX8_readPerson_159 (by decide) (fun h_159 => ?_) (fun h_159 => ?_)
      · have k11 : ¬ kd s9.l = 11 := fun e_q => bI_0.mp h_159 ⟨h_145, e_q⟩
        rw [if_neg (bI_0.mp h_159)] at hS_q
        refine go_aload_n (pc := 181) dX8_readPerson_181 rfl ?_
        refine go_ldcS (si := 36) (pc := 182) rfl dX8_readPerson_182 ?_
        refine go_V1I (pc := 184) v_X8_129 rfl rfl (rcv_of (ci := 8) (by first | exact mo0 hM_q | exact mo2 hM_q) rfl) dX8_readPerson_184 (sp_took (k := k - 1) hM_q hS_q (si := 36) (q := ("FrontChairsModel", 204, "asleep")) (cw := 12) rfl (by decide) wk_12 (by decide) (by decide) hN_q (by omega)) (fun v_184 σ n h_q => ?_)
        obtain ⟨rfl, rfl, F8, hM_q, hS_q, hF8, hf8⟩ := h_q
        have hf_q := hf_q.tr hf8
        refine go_if_eq (tgt := 206) (pc := 187) dX8_readPerson_187 (by decide) (fun h_187 => ?_) (fun h_187 => ?_)
        · have k12 : ¬ kd s9.l = 12 := fun e_q => bI_0.mp h_187 ⟨h_145, e_q⟩
          rw [if_neg (bI_0.mp h_187)] at hS_q
          refine go_aload_n (pc := 206) dX8_readPerson_206 rfl ?_
          refine go_ldcS (si := 37) (pc := 207) rfl dX8_readPerson_207 ?_
          refine go_V1I (pc := 209) v_X8_129 rfl rfl (rcv_of (ci := 8) (by first | exact mo0 hM_q | exact mo2 hM_q) rfl) dX8_readPerson_209 (sp_took (k := k - 1) hM_q hS_q (si := 37) (q := ("FrontChairsModel", 206, "rises")) (cw := 13) rfl (by decide) wk_13 (by decide) (by decide) hN_q (by omega)) (fun v_209 σ n h_q => ?_)
          obtain ⟨rfl, rfl, F7, hM_q, hS_q, hF7, hf7⟩ := h_q
          have hf_q := hf_q.tr hf7
          refine go_if_eq (tgt := 223) (pc := 212) dX8_readPerson_212 (by decide) (fun h_212 => ?_) (fun h_212 => ?_)
          · have k13 : ¬ kd s9.l = 13 := fun e_q => bI_0.mp h_212 ⟨h_145, e_q⟩
            rw [if_neg (bI_0.mp h_212)] at hS_q
            have q7 := hF16 F7 (fun j hj_q => (hF7 j hj_q).trans ((hF8 j hj_q).trans (hF6 j hj_q)))
            have HE : (if (0 : Nat) = 1 then flG N p s9 T9 else (s9, T9)) = p5 N s T := by
              rw [if_neg (by omega), ← hE, flG_e k11 k12 k13]
            have HT := hT_q
            have HM : 2 * s9.l.length + 0 < 2 * s9.l.length + 1 := by omega
            refine go_iconst (v := 0) (pc := 223) dX8_readPerson_223 (by decide) ?_
            refine go_istore (lw := [_, _, _, _, _]) (pc := 224) dX8_readPerson_224 (by decide) rfl ?_
            refine go_goto (tgt := 141) (pc := 226) dX8_readPerson_226 (by decide) ?_
            exact ih0 _ _ _ _ HM ⟨_, _, _, _, _, rfl, hM_q, (by rw [oA 5 (by decide)] at hS_q; exact hS_q), HT, HE, q7.1, q7.2, oA, hf_q, (by first | exact Nat.le_refl 1 | exact Nat.zero_le 1), rfl, rfl⟩
          · have g212 : s9.bad = 0 ∧ kd s9.l = 13 := Decidable.not_not.mp (fun hc_q => h_212 (bI_0.mpr hc_q))
            rw [if_pos g212] at hS_q
            have n1 := nx_lt g212.2 (by decide)
            refine go_aload_n (pc := 215) dX8_readPerson_215 rfl ?_
            refine go_iload_n (pc := 216) dX8_readPerson_216 rfl ?_
            refine go_V1V (pc := 217) v_X8_208 rfl rfl (rcv_of (ci := 8) (by first | exact mo0 hM_q | exact mo2 hM_q) rfl) dX8_readPerson_217 (sp_readPlan (k := k - 1) hM_q hS_q hN_q (p := p) h8_q (by omega)) (fun σ n h_q => ?_)
            obtain ⟨rfl, F10, A7, hM_q, hS_q, aA7, oA7, hF10, hf10⟩ := h_q
            have hf_q := hf_q.tr hf10
            have oA : ∀ i_q, i_q ≠ 2 → A7 i_q = A i_q := fun i_q hi_q => (oA7 i_q hi_q).trans (oA i_q hi_q)
            have q7 := hF16 F10 (fun j hj_q => (hF10 j hj_q).trans ((hF7 j hj_q).trans ((hF8 j hj_q).trans (hF6 j hj_q))))
            rw [← oA7 5 (by decide)] at hS_q
            have HE : (if (1 : Nat) = 1 then flG N p (numP N 1 99 (plP N s9)).2 (upd (upd T9 (43 + p) (numP N 0 999 (nextP s9)).1) (51 + p) (numP N 1 99 (plP N s9)).1) else ((numP N 1 99 (plP N s9)).2, upd (upd T9 (43 + p) (numP N 0 999 (nextP s9)).1) (51 + p) (numP N 1 99 (plP N s9)).1)) = p5 N s T := by
              rw [if_pos rfl, ← hE, flG_r h_145 g212.2]
            have HT : (numP N 1 99 (plP N s9)).2.bad = 0 → telR (A7 2) (upd (upd T9 (43 + p) (numP N 0 999 (nextP s9)).1) (51 + p) (numP N 1 99 (plP N s9)).1) := fun _ => by rw [aA7]; exact (hT9.up (by omega) (by omega)).up (by omega) (by omega)
            have n2 := len_num (N := N) (s := plP N s9) (lo := 1) (hi := 99)
            have n3 := len_pl (N := N) (s := s9)
            have HM : 2 * (numP N 1 99 (plP N s9)).2.l.length + 1 < 2 * s9.l.length + 1 := by omega
            refine go_goto (tgt := 141) (pc := 220) dX8_readPerson_220 (by decide) ?_
            exact ih0 _ _ _ _ HM ⟨_, _, _, _, _, rfl, hM_q, (by rw [oA 5 (by decide)] at hS_q; exact hS_q), HT, HE, q7.1, q7.2, oA, hf_q, (by first | exact Nat.le_refl 1 | exact Nat.zero_le 1), rfl, rfl⟩
        · have g187 : s9.bad = 0 ∧ kd s9.l = 12 := Decidable.not_not.mp (fun hc_q => h_187 (bI_0.mpr hc_q))
          rw [if_pos g187] at hS_q
          have n1 := nx_lt g187.2 (by decide)
          refine go_aload_n (pc := 190) dX8_readPerson_190 rfl ?_
          refine go_getf (pc := 191) f_X8_13 dX8_readPerson_191 (by first | exact mo0 hM_q | exact mo2 hM_q) (by rfl) ?_
          refine go_bipush (v := 42) (pc := 194) dX8_readPerson_194 (by decide) ?_
          refine go_dup2 (pc := 196) dX8_readPerson_196 rfl rfl ?_
          refine go_iald (pc := 197) dX8_readPerson_197 (by first | exact mo0 hM_q | exact mo2 hM_q) (by exact ⟨rfl, by decide⟩) ?_
          refine go_iconst (v := 1) (pc := 198) dX8_readPerson_198 (by decide) ?_
          refine go_iload_n (pc := 199) dX8_readPerson_199 rfl ?_
          refine go_ishl (pc := 200) dX8_readPerson_200 ?_
          refine go_ior (pc := 201) dX8_readPerson_201 ?_
          rw [hT9.1 42 (by omega)]
          refine go_mst2 (j := 42) (pc := 202) hM_q dX8_readPerson_202 (by exact ⟨rfl, by decide⟩) (fun σ hM_q hf9 => ?_)
          have hf_q := hf_q.tr hf9
          obtain ⟨A7, hM_q, aA7, oA7⟩ : ∃ A7 : Nat → row, MoAt Γ σ r_q F8 K A7 Nm ∧ A7 2 = upd (A9_q 2) (42) (T9 42 ||| ((1 : Int32) <<< (nI p &&& 31))) ∧ ∀ i_q, i_q ≠ 2 → A7 i_q = A9_q i_q := ⟨_, hM_q, by simp [updA], fun i_q hi_q => by simp [updA, hi_q]⟩
          have oA : ∀ i_q, i_q ≠ 2 → A7 i_q = A i_q := fun i_q hi_q => (oA7 i_q hi_q).trans (oA i_q hi_q)
          have q7 := hF16 F8 (fun j hj_q => (hF8 j hj_q).trans (hF6 j hj_q))
          rw [← oA7 5 (by decide)] at hS_q
          have HE : (if (1 : Nat) = 1 then flG N p (nextP s9) (upd T9 42 (T9 42 ||| ((1 : Int32) <<< (nI p &&& 31)))) else (nextP s9, upd T9 42 (T9 42 ||| ((1 : Int32) <<< (nI p &&& 31))))) = p5 N s T := by
            rw [if_pos rfl, ← hE, flG_s h_145 g187.2]
          have HT : (nextP s9).bad = 0 → telR (A7 2) (upd T9 42 (T9 42 ||| ((1 : Int32) <<< (nI p &&& 31)))) := fun _ => by rw [aA7]; exact hT9.up (by omega) (by omega)
          have HM : 2 * (nextP s9).l.length + 1 < 2 * s9.l.length + 1 := by omega
          refine go_goto (tgt := 141) (pc := 203) dX8_readPerson_203 (by decide) ?_
          exact ih0 _ _ _ _ HM ⟨_, _, _, _, _, rfl, hM_q, (by rw [oA 5 (by decide)] at hS_q; exact hS_q), HT, HE, q7.1, q7.2, oA, hf_q, (by first | exact Nat.le_refl 1 | exact Nat.zero_le 1), rfl, rfl⟩
      · have g159 : s9.bad = 0 ∧ kd s9.l = 11 := Decidable.not_not.mp (fun hc_q => h_159 (bI_0.mpr hc_q))
        rw [if_pos g159] at hS_q
        have n1 := nx_lt g159.2 (by decide)
        refine go_aload_n (pc := 162) dX8_readPerson_162 rfl ?_
        refine go_getf (pc := 163) f_X8_13 dX8_readPerson_163 (by first | exact mo0 hM_q | exact mo2 hM_q) (by rfl) ?_
        refine go_bipush (v := 34) (pc := 166) dX8_readPerson_166 (by decide) ?_
        refine go_iload_n (pc := 168) dX8_readPerson_168 rfl ?_
        refine go_iadd (pc := 169) dX8_readPerson_169 ?_
        refine go_aload_n (pc := 170) dX8_readPerson_170 rfl ?_
        refine go_iconst (v := 0) (pc := 171) dX8_readPerson_171 (by decide) ?_
        refine go_bipush (v := 99) (pc := 172) dX8_readPerson_172 (by decide) ?_
        refine go_V2I (pc := 174) v_X8_190 rfl rfl (rcv_of (ci := 8) (by first | exact mo0 hM_q | exact mo2 hM_q) rfl) dX8_readPerson_174 (sp_number (k := k - 1) hM_q hS_q hN_q 0 99 (by omega)) (fun v_174 σ n h_q => ?_)
        obtain ⟨rfl, rfl, F7, hM_q, hS_q, hF7, hf7⟩ := h_q
        have hf_q := hf_q.tr hf7
        refine go_mst2 (pc := 177) hM_q dX8_readPerson_177 (by exact ⟨nI_add 34 _, by omega⟩) (fun σ hM_q hf9 => ?_)
        have hf_q := hf_q.tr hf9
        obtain ⟨A7, hM_q, aA7, oA7⟩ : ∃ A7 : Nat → row, MoAt Γ σ r_q F7 K A7 Nm ∧ A7 2 = upd (A9_q 2) (34 + p) ((numP N 0 99 (nextP s9)).1) ∧ ∀ i_q, i_q ≠ 2 → A7 i_q = A9_q i_q := ⟨_, hM_q, by simp [updA], fun i_q hi_q => by simp [updA, hi_q]⟩
        have oA : ∀ i_q, i_q ≠ 2 → A7 i_q = A i_q := fun i_q hi_q => (oA7 i_q hi_q).trans (oA i_q hi_q)
        have q7 := hF16 F7 (fun j hj_q => (hF7 j hj_q).trans (hF6 j hj_q))
        have n2 := len_num (N := N) (s := nextP s9) (lo := 0) (hi := 99)
        rw [← oA7 5 (by decide)] at hS_q
        have HE : (if (1 : Nat) = 1 then flG N p (numP N 0 99 (nextP s9)).2 (upd T9 (34 + p) (numP N 0 99 (nextP s9)).1) else ((numP N 0 99 (nextP s9)).2, upd T9 (34 + p) (numP N 0 99 (nextP s9)).1)) = p5 N s T := by
          rw [if_pos rfl, ← hE, flG_a h_145 g159.2]
        have HT : (numP N 0 99 (nextP s9)).2.bad = 0 → telR (A7 2) (upd T9 (34 + p) (numP N 0 99 (nextP s9)).1) := fun _ => by rw [aA7]; exact hT9.up (by omega) (by omega)
        have HM : 2 * (numP N 0 99 (nextP s9)).2.l.length + 1 < 2 * s9.l.length + 1 := by omega
        refine go_goto (tgt := 141) (pc := 178) dX8_readPerson_178 (by decide) ?_
        exact ih0 _ _ _ _ HM ⟨_, _, _, _, _, rfl, hM_q, (by rw [oA 5 (by decide)] at hS_q; exact hS_q), HT, HE, q7.1, q7.2, oA, hf_q, (by first | exact Nat.le_refl 1 | exact Nat.zero_le 1), rfl, rfl⟩
theorem telR.sit {A2 T : row} (h_q : telR A2 T) (h8_q : kP T ≤ 8) (c_q v_q : Int32) : sitK A2 c_q v_q = sitK T c_q v_q := by
  have e_q : kP A2 = kP T := by show (A2 3).toNatClampNeg = _; rw [h_q.1 3 (by omega)]
  unfold sitK
  rw [e_q]
  have key : ∀ m i_q, i_q + m ≤ kP T → fnd (fun p => decide (A2 (16 + p) = v_q ∧ A2 (8 + p) = c_q ∧ v_q ≠ -1)) i_q m = fnd (fun p => decide (T (16 + p) = v_q ∧ T (8 + p) = c_q ∧ v_q ≠ -1)) i_q m := by
    intro m
    induction m with
    | zero => intro i_q _; rfl
    | succ m ih_q =>
      intro i_q hi_q
      rw [fnd, fnd, h_q.1 (16 + i_q) (by omega), h_q.1 (8 + i_q) (by omega), ih_q (i_q + 1) (by omega)]
  exact key _ 0 (by omega)
theorem sp_readPerson {Γ : gam} {z0 : sto} {n k r_q N : Nat} {F K : row} {A : Nat → row} {Nm : Nat → Int64} {s : ps} (hM_q : MoAt Γ z0 r_q F K A Nm) (hS_q : rfR (A 5) N F s) (hN_q : N ≤ 900) {T : row} (hT_q : telR (A 2) T) (h16 : F 16 = 0) (hb_q : s.bad = 0) (hl : s.l ≠ []) (hT3 : T 3 = nI (kP T)) (h8_q : kP T ≤ 8) (hv_q : vOK s.l) (hk : 12 ≤ k) : Sp Γ (rmk k 0 0) uX8_readPerson [.ref r_q] z0 n (qV fun σ' n' => n' = n ∧ RlP Γ z0 r_q N F K A Nm (perP N s T).1 (perP N s T).2 σ') := by
  refine sp_intro [some (.ref r_q), none, none, none, none] (by decide +kernel) rfl (Nat.le_of_ble_eq_true rfl) rfl ?_
  by_cases e8_q : kP T = 8
  · refine go_aload_n (pc := 0) dX8_readPerson_0 rfl ?_
    refine go_getf (pc := 1) f_X8_13 dX8_readPerson_1 (by first | exact mo0 hM_q | exact mo2 hM_q) (by rfl) ?_
    refine go_iconst (v := 3) (pc := 4) dX8_readPerson_4 (by decide) ?_
    refine go_iald (j := 3) (pc := 5) dX8_readPerson_5 (by first | exact mo0 hM_q | exact mo2 hM_q) (by exact ⟨rfl, by decide⟩) ?_
    rw [hT_q.1 3 (by omega), hT3, e8_q]
    refine go_bipush (v := 8) (pc := 6) dX8_readPerson_6 (by decide) ?_
    refine go_icmp_ne (tgt := 16) (pc := 8) dX8_readPerson_8 (by decide) (fun h_8 => by exfalso; exact h_8 rfl) (fun h_8 => ?_)
    refine go_aload_n (pc := 11) dX8_readPerson_11 rfl ?_
    refine go_iconst (v := 4) (pc := 12) dX8_readPerson_12 (by decide) ?_
    refine go_V1V (pc := 13) v_X8_121 rfl rfl (rcv_of (ci := 8) (by first | exact mo0 hM_q | exact mo2 hM_q) rfl) dX8_readPerson_13 (sp_blames (k := k - 1) hM_q hS_q (c_q := 4) (by decide)) (fun σ n h_q => ?_)
    obtain ⟨rfl, F1, hM_q, hS_q, hF1, hf_q⟩ := h_q
    refine go_aload_n (pc := 16) dX8_readPerson_16 rfl ?_
    refine go_getf (pc := 17) f_X8_99 dX8_readPerson_17 (by first | exact mo0 hM_q | exact mo2 hM_q) (by rfl) ?_
    rw [hS_q.2.1]
    refine go_if_ne (tgt := 27) (pc := 20) dX8_readPerson_20 (by decide) (fun h_20 => ?_) (fun h_20 => by exfalso; exact failP_ne (by decide) hb_q h_20)
    refine go_aload_n (pc := 27) dX8_readPerson_27 rfl ?_
    refine go_getf (pc := 28) f_X8_99 dX8_readPerson_28 (by first | exact mo0 hM_q | exact mo2 hM_q) (by rfl) ?_
    rw [hS_q.2.1]
    refine go_if_eq (tgt := 35) (pc := 31) dX8_readPerson_31 (by decide) (fun h_31 => by exfalso; exact failP_ne (by decide) hb_q h_31) (fun h_31 => ?_)
    exact go_vretV (pc := 34) rfl dX8_readPerson_34 (Nat.le_of_ble_eq_true rfl) (Nat.le_of_ble_eq_true rfl) (by rw [perP, if_pos e8_q]; exact ⟨rfl, F1, A, hM_q, hS_q, fun e_q => absurd e_q (failP_ne (by decide) hb_q), (hF1 16 (by omega)).trans h16, fun j a1_q _ _ _ => hF1 j a1_q, fun _ _ => rfl, hf_q⟩)
  · refine go_aload_n (pc := 0) dX8_readPerson_0 rfl ?_
    refine go_getf (pc := 1) f_X8_13 dX8_readPerson_1 (by first | exact mo0 hM_q | exact mo2 hM_q) (by rfl) ?_
    refine go_iconst (v := 3) (pc := 4) dX8_readPerson_4 (by decide) ?_
    refine go_iald (j := 3) (pc := 5) dX8_readPerson_5 (by first | exact mo0 hM_q | exact mo2 hM_q) (by exact ⟨rfl, by decide⟩) ?_
    rw [hT_q.1 3 (by omega), hT3]
    refine go_bipush (v := 8) (pc := 6) dX8_readPerson_6 (by decide) ?_
    refine go_icmp_ne (tgt := 16) (pc := 8) dX8_readPerson_8 (by decide) (fun h_8 => ?_) (fun h_8 => by exfalso; exact e8_q ((nI_eq (b := 8) (by omega) (by decide)).mp h_8))
    refine go_aload_n (pc := 16) dX8_readPerson_16 rfl ?_
    refine go_getf (pc := 17) f_X8_99 dX8_readPerson_17 (by first | exact mo0 hM_q | exact mo2 hM_q) (by rfl) ?_
    rw [hS_q.2.1]
    refine go_if_ne (tgt := 27) (pc := 20) dX8_readPerson_20 (by decide) (fun h_20 => by exfalso; exact h_20 hb_q) (fun h_20 => ?_)
    refine go_aload_n (pc := 23) dX8_readPerson_23 rfl ?_
    refine go_V0V (pc := 24) v_X8_118 rfl rfl (rcv_of (ci := 8) (by first | exact mo0 hM_q | exact mo2 hM_q) rfl) dX8_readPerson_24 (sp_rdN (k := k - 1) hM_q hS_q hN_q hb_q hl (by omega)) (fun σ n h_q => ?_)
    obtain ⟨rfl, F1, hM_q, hS_q, hF1, hf1⟩ := h_q
    refine go_aload_n (pc := 27) dX8_readPerson_27 rfl ?_
    refine go_getf (pc := 28) f_X8_99 dX8_readPerson_28 (by first | exact mo0 hM_q | exact mo2 hM_q) (by rfl) ?_
    rw [hS_q.2.1]
    refine go_if_eq (tgt := 35) (pc := 31) dX8_readPerson_31 (by decide) (fun h_31 => ?_) (fun h_31 => by exfalso; exact h_31 hb_q)
    refine go_aload_n (pc := 35) dX8_readPerson_35 rfl ?_
    refine go_getf (pc := 36) f_X8_13 dX8_readPerson_36 (by first | exact mo0 hM_q | exact mo2 hM_q) (by rfl) ?_
    refine go_iconst (v := 3) (pc := 39) dX8_readPerson_39 (by decide) ?_
    refine go_iald (j := 3) (pc := 40) dX8_readPerson_40 (by first | exact mo0 hM_q | exact mo2 hM_q) (by exact ⟨rfl, by decide⟩) ?_
    rw [hT_q.1 3 (by omega), hT3]
    refine go_istore_n (lw := [_, _, _, _, _]) (pc := 41) dX8_readPerson_41 (by decide) rfl ?_
    refine go_aload_n (pc := 42) dX8_readPerson_42 rfl ?_
    refine go_ldcS (si := 34) (pc := 43) rfl dX8_readPerson_43 ?_
    refine go_V1V (pc := 45) v_X8_196 rfl rfl (rcv_of (ci := 8) (by first | exact mo0 hM_q | exact mo2 hM_q) rfl) dX8_readPerson_45 (sp_mustWord (k := k - 1) hM_q hS_q (si := 34) (q := ("FrontChairsModel", 194, "at")) (cw := 6) rfl (by decide) wk_6 (by decide) (by decide) hN_q (by omega)) (fun σ n h_q => ?_)
    obtain ⟨rfl, F2, hM_q, hS_q, hF2, hf2⟩ := h_q
    refine go_aload_n (pc := 48) dX8_readPerson_48 rfl ?_
    refine go_iconst (v := 0) (pc := 49) dX8_readPerson_49 (by decide) ?_
    refine go_aload_n (pc := 50) dX8_readPerson_50 rfl ?_
    refine go_getf (pc := 51) f_X8_13 dX8_readPerson_51 (by first | exact mo0 hM_q | exact mo2 hM_q) (by rfl) ?_
    refine go_iconst (v := 1) (pc := 54) dX8_readPerson_54 (by decide) ?_
    refine go_iald (j := 1) (pc := 55) dX8_readPerson_55 (by first | exact mo0 hM_q | exact mo2 hM_q) (by exact ⟨rfl, by decide⟩) ?_
    refine go_iconst (v := 1) (pc := 56) dX8_readPerson_56 (by decide) ?_
    refine go_isub (pc := 57) dX8_readPerson_57 ?_
    rw [hT_q.1 1 (by omega)]
    refine go_V2I (pc := 58) v_X8_190 rfl rfl (rcv_of (ci := 8) (by first | exact mo0 hM_q | exact mo2 hM_q) rfl) dX8_readPerson_58 (sp_number (k := k - 1) hM_q hS_q hN_q 0 (T 1 - 1) (by omega)) (fun v_58 σ n h_q => ?_)
    obtain ⟨rfl, rfl, F4, hM_q, hS_q, hF4, hf4⟩ := h_q
    have hS_q : rfR (A 5) N F4 (p2 N s T).2 := hS_q
    have hF : ∀ j, (j < 8 ∨ 13 < j) → F4 j = F j := fun j hj_q => (hF4 j hj_q).trans ((hF2 j hj_q).trans (hF1 j hj_q))
    have hf_q : fr r_q (r_q + 16) z0 σ := (hf1.tr hf2).tr hf4
    rw [show (numP N 0 (T 1 - 1) (needP N 6 (nextP s))).1 = (p2 N s T).1 from rfl]
    refine go_istore_n (lw := [_, _, _, _, _]) (pc := 61) dX8_readPerson_61 (by decide) rfl ?_
    refine go_aload_n (pc := 62) dX8_readPerson_62 rfl ?_
    refine go_getf (pc := 63) f_X8_99 dX8_readPerson_63 (by first | exact mo0 hM_q | exact mo2 hM_q) (by rfl) ?_
    rw [hS_q.2.1]
    refine go_if_ne (tgt := 94) (pc := 66) dX8_readPerson_66 (by decide) (fun h_66 => ?_) (fun h_66 => ?_)
    · have hS_q : rfR (A 5) N F4 (p3 N s T) := by
        unfold p3
        first
          | (have g_q : ¬ (p2 N s T).2.bad = 0 := h_66
             rw [if_neg (fun c_q => g_q c_q.1)]
             exact hS_q)
          | (have g_q : ¬ F4 10 = 2 := h_74
             rw [if_neg (fun c_q => g_q ((tok_num tk9).mpr c_q.2.1))]
             exact hS_q)
          | (have g_q : bI (sitK T (p2 N s T).1 (tvl (p2 N s T).2.l) ≠ none) = 0 := h_86
             rw [if_neg (fun c_q => (bI_0.mp g_q) c_q.2.2)]
             exact hS_q)
          | (have g_q : ¬ bI (sitK T (p2 N s T).1 (tvl (p2 N s T).2.l) ≠ none) = 0 := h_86
             rw [if_pos ⟨h_66, k2, Decidable.not_not.mp (fun c_q => g_q (bI_0.mpr c_q))⟩]
             exact hS_q)
      exact rp_94 hM_q hS_q hN_q hT_q hT3 (by omega) ((hF 16 (by omega)).trans h16) hF hf_q hk
    · have tk9 := hS_q.2.2.1 h_66
      refine go_aload_n (pc := 69) dX8_readPerson_69 rfl ?_
      refine go_getf (pc := 70) f_X8_79 dX8_readPerson_70 (by first | exact mo0 hM_q | exact mo2 hM_q) (by rfl) ?_
      refine go_iconst (v := 2) (pc := 73) dX8_readPerson_73 (by decide) ?_
      refine go_icmp_ne (tgt := 94) (pc := 74) dX8_readPerson_74 (by decide) (fun h_74 => ?_) (fun h_74 => ?_)
      · have hS_q : rfR (A 5) N F4 (p3 N s T) := by
          unfold p3
          first
            | (have g_q : ¬ (p2 N s T).2.bad = 0 := h_66
               rw [if_neg (fun c_q => g_q c_q.1)]
               exact hS_q)
            | (have g_q : ¬ F4 10 = 2 := h_74
               rw [if_neg (fun c_q => g_q ((tok_num tk9).mpr c_q.2.1))]
               exact hS_q)
            | (have g_q : bI (sitK T (p2 N s T).1 (tvl (p2 N s T).2.l) ≠ none) = 0 := h_86
               rw [if_neg (fun c_q => (bI_0.mp g_q) c_q.2.2)]
               exact hS_q)
            | (have g_q : ¬ bI (sitK T (p2 N s T).1 (tvl (p2 N s T).2.l) ≠ none) = 0 := h_86
               rw [if_pos ⟨h_66, k2, Decidable.not_not.mp (fun c_q => g_q (bI_0.mpr c_q))⟩]
               exact hS_q)
        exact rp_94 hM_q hS_q hN_q hT_q hT3 (by omega) ((hF 16 (by omega)).trans h16) hF hf_q hk
      · have k2 : kd (p2 N s T).2.l = 2 := (tok_num tk9).mp h_74
        have vv := vOK.hd (L := (p2 N s T).2.l) (fun x_q hx_q => hv_q x_q (sub_p2 hx_q)) k2
        have hv1 : tvl (p2 N s T).2.l ≠ -1 := fun e_q => by rw [e_q] at vv; exact absurd vv.1 (by decide)
        have eV : F4 11 = tvl (p2 N s T).2.l := tok_val tk9 k2
        refine go_aload_n (pc := 77) dX8_readPerson_77 rfl ?_
        refine go_iload_n (pc := 78) dX8_readPerson_78 rfl ?_
        refine go_aload_n (pc := 79) dX8_readPerson_79 rfl ?_
        refine go_getf (pc := 80) f_X8_93 dX8_readPerson_80 (by first | exact mo0 hM_q | exact mo2 hM_q) (by rfl) ?_
        rw [eV]
        refine go_V2P (pc := 83) v_X8_200 rfl rfl (rcv_of (ci := 8) (by first | exact mo0 hM_q | exact mo2 hM_q) rfl) dX8_readPerson_83 (sp_seatTold (k := k - 1) hM_q ((hT_q.1 3 (by omega)).trans hT3) (by omega) _ _ hv1) ?_
        have eS : sitK (A 2) (p2 N s T).1 (tvl (p2 N s T).2.l) = sitK T (p2 N s T).1 (tvl (p2 N s T).2.l) := telR.sit hT_q (by omega) _ _
        rw [eS]
        refine go_if_eq (tgt := 94) (pc := 86) dX8_readPerson_86 (by decide) (fun h_86 => ?_) (fun h_86 => ?_)
        · have hS_q : rfR (A 5) N F4 (p3 N s T) := by
            unfold p3
            first
              | (have g_q : ¬ (p2 N s T).2.bad = 0 := h_66
                 rw [if_neg (fun c_q => g_q c_q.1)]
                 exact hS_q)
              | (have g_q : ¬ F4 10 = 2 := h_74
                 rw [if_neg (fun c_q => g_q ((tok_num tk9).mpr c_q.2.1))]
                 exact hS_q)
              | (have g_q : bI (sitK T (p2 N s T).1 (tvl (p2 N s T).2.l) ≠ none) = 0 := h_86
                 rw [if_neg (fun c_q => (bI_0.mp g_q) c_q.2.2)]
                 exact hS_q)
              | (have g_q : ¬ bI (sitK T (p2 N s T).1 (tvl (p2 N s T).2.l) ≠ none) = 0 := h_86
                 rw [if_pos ⟨h_66, k2, Decidable.not_not.mp (fun c_q => g_q (bI_0.mpr c_q))⟩]
                 exact hS_q)
          exact rp_94 hM_q hS_q hN_q hT_q hT3 (by omega) ((hF 16 (by omega)).trans h16) hF hf_q hk
        · refine go_aload_n (pc := 89) dX8_readPerson_89 rfl ?_
          refine go_iconst (v := 3) (pc := 90) dX8_readPerson_90 (by decide) ?_
          refine go_V1V (pc := 91) v_X8_121 rfl rfl (rcv_of (ci := 8) (by first | exact mo0 hM_q | exact mo2 hM_q) rfl) dX8_readPerson_91 (sp_blames (k := k - 1) hM_q hS_q (c_q := 3) (by decide)) (fun σ n h_q => ?_)
          obtain ⟨rfl, F5, hM_q, hS_q, hF5, hf5⟩ := h_q
          obtain ⟨F4, hM_q, hS_q, hF, hf_q⟩ : ∃ F4 : row, MoAt Γ σ r_q F4 K A Nm ∧ rfR (A 5) N F4 (failP N 3 (p2 N s T).2) ∧ (∀ j, (j < 8 ∨ 13 < j) → F4 j = F j) ∧ fr r_q (r_q + 16) z0 σ := ⟨F5, hM_q, hS_q, fun j hj_q => (hF5 j hj_q).trans (hF j hj_q), hf_q.tr hf5⟩
          have hS_q : rfR (A 5) N F4 (p3 N s T) := by
            unfold p3
            first
              | (have g_q : ¬ (p2 N s T).2.bad = 0 := h_66
                 rw [if_neg (fun c_q => g_q c_q.1)]
                 exact hS_q)
              | (have g_q : ¬ F4 10 = 2 := h_74
                 rw [if_neg (fun c_q => g_q ((tok_num tk9).mpr c_q.2.1))]
                 exact hS_q)
              | (have g_q : bI (sitK T (p2 N s T).1 (tvl (p2 N s T).2.l) ≠ none) = 0 := h_86
                 rw [if_neg (fun c_q => (bI_0.mp g_q) c_q.2.2)]
                 exact hS_q)
              | (have g_q : ¬ bI (sitK T (p2 N s T).1 (tvl (p2 N s T).2.l) ≠ none) = 0 := h_86
                 rw [if_pos ⟨h_66, k2, Decidable.not_not.mp (fun c_q => g_q (bI_0.mpr c_q))⟩]
                 exact hS_q)
          exact rp_94 hM_q hS_q hN_q hT_q hT3 (by omega) ((hF 16 (by omega)).trans h16) hF hf_q hk
