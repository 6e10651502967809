/-! ===== the reference: its constructor ===== -/
abbrev df8 : List Value := [.null, .null, .null, .null, .int 0, .null, .int 0, .int 0, .int 0, .int 0, .int 0, .int 0, .int 0, .int 0, .int 0, .int 0, .int 0, .int 0, .int 0, .null, .null, .null, .int 0, .null, .null, .null, .int 0, .null, .null, .null, .null, .null]
theorem df8_ok : ∀ j, j < 32 → ∀ ty, parseFieldDescriptor (TX8 j).2.2.1 = some ty → defaultValue ty = vp_V df8 j := by
  intro j hj_q ty h_q
  rw [tyX8_ok j hj_q] at h_q
  obtain rfl := Option.some.inj h_q
  rcases (show j = 0 ∨ j = 1 ∨ j = 2 ∨ j = 3 ∨ j = 4 ∨ j = 5 ∨ j = 6 ∨ j = 7 ∨ j = 8 ∨ j = 9 ∨ j = 10 ∨ j = 11 ∨ j = 12 ∨ j = 13 ∨ j = 14 ∨ j = 15 ∨ j = 16 ∨ j = 17 ∨ j = 18 ∨ j = 19 ∨ j = 20 ∨ j = 21 ∨ j = 22 ∨ j = 23 ∨ j = 24 ∨ j = 25 ∨ j = 26 ∨ j = 27 ∨ j = 28 ∨ j = 29 ∨ j = 30 ∨ j = 31 by omega) with rfl | rfl | rfl | rfl | rfl | rfl | rfl | rfl | rfl | rfl | rfl | rfl | rfl | rfl | rfl | rfl | rfl | rfl | rfl | rfl | rfl | rfl | rfl | rfl | rfl | rfl | rfl | rfl | rfl | rfl | rfl | rfl <;> rfl
/-- the rows of a new object -/
def F00 : row := fun j => if j = 15 then -1 else 0
def K00 : row := upd (upd (fun _ => 0) 1 1) 2 1
def A00 : Nat → row := fun i_q => if i_q = 14 then upd (upd (upd (upd (fun _ => 0) 0 (-1)) 1 (-1)) 2 (-1)) 3 (-1) else fun _ => 0
theorem cp_newM {Γ : gam} {z0 : sto} {k r_q : Nat} (ho : z0 r_q = some (cO 8 df8)) (hk : 1 ≤ k) : Sp Γ (rmk k 16 16728) uX8_init [.ref r_q] z0 (r_q + 1) (qV fun σ' n' => n' = r_q + 17 ∧ MoAt Γ σ' r_q F00 K00 A00 (fun _ => 0) ∧ ∀ q, (q < r_q ∨ r_q + 16 < q) → σ' q = z0 q) := by
  refine sp_intro [some (.ref r_q)] (by decide +kernel) rfl (Nat.le_of_ble_eq_true rfl) rfl ?_
  refine go_aload_n (pc := 0) dX8_init_0 rfl ?_
  refine go_obj (pc := 1) kw6_52 kw1_32 (by exact kw1_33) dX8_init_1 (by show 1 ≤ k; omega) (by show 12 ≤ 40 * k; omega) ?_
  refine go_aload_n (pc := 4) dX8_init_4 rfl ?_
  refine go_sipush (v := 3020) (pc := 5) dX8_init_5 (by decide) ?_
  refine go_newI (pc := 8) dX8_init_8 (by decide) rfl (by decide) (Nat.le_of_ble_eq_true rfl) (Nat.le_of_ble_eq_true rfl) ?_
  refine go_putF (fs' := [_, _, _, _, _, _, _, _, _, _, _, _, _, _, _, _, _, _, _, _, _, _, _, _, _, _, _, _, _, _, _, _]) (pc := 10) f_X8_9 rfl (by intro K T N h_q; cases h_q; rfl) dX8_init_10 (by repeat (first | exact ho | exact sup_eq | refine sup_ne (by omega) ?_)) (Nat.le_of_ble_eq_true rfl) (by rfl) rfl rfl ?_
  refine go_aload_n (pc := 13) dX8_init_13 rfl ?_
  refine go_sipush (v := 3020) (pc := 14) dX8_init_14 (by decide) ?_
  refine go_newI (pc := 17) dX8_init_17 (by decide) rfl (by decide) (Nat.le_of_ble_eq_true rfl) (Nat.le_of_ble_eq_true rfl) ?_
  refine go_putF (fs' := [_, _, _, _, _, _, _, _, _, _, _, _, _, _, _, _, _, _, _, _, _, _, _, _, _, _, _, _, _, _, _, _]) (pc := 19) f_X8_13 rfl (by intro K T N h_q; cases h_q; rfl) dX8_init_19 (by repeat (first | exact ho | exact sup_eq | refine sup_ne (by omega) ?_)) (Nat.le_of_ble_eq_true rfl) (by rfl) rfl rfl ?_
  refine go_aload_n (pc := 22) dX8_init_22 rfl ?_
  refine go_sipush (v := 9060) (pc := 23) dX8_init_23 (by decide) ?_
  refine go_newI (pc := 26) dX8_init_26 (by decide) rfl (by decide) (Nat.le_of_ble_eq_true rfl) (Nat.le_of_ble_eq_true rfl) ?_
  refine go_putF (fs' := [_, _, _, _, _, _, _, _, _, _, _, _, _, _, _, _, _, _, _, _, _, _, _, _, _, _, _, _, _, _, _, _]) (pc := 28) f_X8_16 rfl (by intro K T N h_q; cases h_q; rfl) dX8_init_28 (by repeat (first | exact ho | exact sup_eq | refine sup_ne (by omega) ?_)) (Nat.le_of_ble_eq_true rfl) (by rfl) rfl rfl ?_
  refine go_aload_n (pc := 31) dX8_init_31 rfl ?_
  refine go_iconst (v := 3) (pc := 32) dX8_init_32 (by decide) ?_
  refine go_newZ (pc := 33) dX8_init_33 (by decide) rfl (by decide) (Nat.le_of_ble_eq_true rfl) (Nat.le_of_ble_eq_true rfl) ?_
  refine go_putF (fs' := [_, _, _, _, _, _, _, _, _, _, _, _, _, _, _, _, _, _, _, _, _, _, _, _, _, _, _, _, _, _, _, _]) (pc := 35) f_X8_19 rfl (by intro K T N h_q; cases h_q; rfl) dX8_init_35 (by repeat (first | exact ho | exact sup_eq | refine sup_ne (by omega) ?_)) (Nat.le_of_ble_eq_true rfl) (by rfl) rfl rfl ?_
  refine go_aload_n (pc := 38) dX8_init_38 rfl ?_
  refine go_sipush (v := 900) (pc := 39) dX8_init_39 (by decide) ?_
  refine go_newI (pc := 42) dX8_init_42 (by decide) rfl (by decide) (Nat.le_of_ble_eq_true rfl) (Nat.le_of_ble_eq_true rfl) ?_
  refine go_putF (fs' := [_, _, _, _, _, _, _, _, _, _, _, _, _, _, _, _, _, _, _, _, _, _, _, _, _, _, _, _, _, _, _, _]) (pc := 44) f_X8_23 rfl (by intro K T N h_q; cases h_q; rfl) dX8_init_44 (by repeat (first | exact ho | exact sup_eq | refine sup_ne (by omega) ?_)) (Nat.le_of_ble_eq_true rfl) (by rfl) rfl rfl ?_
  refine go_aload_n (pc := 47) dX8_init_47 rfl ?_
  refine go_iconst (v := -1) (pc := 48) dX8_init_48 (by decide) ?_
  refine go_putf (fs' := [_, _, _, _, _, _, _, _, _, _, _, _, _, _, _, _, _, _, _, _, _, _, _, _, _, _, _, _, _, _, _, _]) (pc := 49) f_X8_26 dX8_init_49 (by repeat (first | exact ho | exact sup_eq | refine sup_ne (by omega) ?_)) (Nat.le_of_ble_eq_true rfl) (by rfl) rfl rfl ?_
  refine go_aload_n (pc := 52) dX8_init_52 rfl ?_
  refine go_bipush (v := 64) (pc := 53) dX8_init_53 (by decide) ?_
  refine go_newI (pc := 55) dX8_init_55 (by decide) rfl (by decide) (Nat.le_of_ble_eq_true rfl) (Nat.le_of_ble_eq_true rfl) ?_
  refine go_putF (fs' := [_, _, _, _, _, _, _, _, _, _, _, _, _, _, _, _, _, _, _, _, _, _, _, _, _, _, _, _, _, _, _, _]) (pc := 57) f_X8_30 rfl (by intro K T N h_q; cases h_q; rfl) dX8_init_57 (by repeat (first | exact ho | exact sup_eq | refine sup_ne (by omega) ?_)) (Nat.le_of_ble_eq_true rfl) (by rfl) rfl rfl ?_
  refine go_aload_n (pc := 60) dX8_init_60 rfl ?_
  refine go_iconst (v := 5) (pc := 61) dX8_init_61 (by decide) ?_
  refine go_newI (pc := 62) dX8_init_62 (by decide) rfl (by decide) (Nat.le_of_ble_eq_true rfl) (Nat.le_of_ble_eq_true rfl) ?_
  refine go_putF (fs' := [_, _, _, _, _, _, _, _, _, _, _, _, _, _, _, _, _, _, _, _, _, _, _, _, _, _, _, _, _, _, _, _]) (pc := 64) f_X8_33 rfl (by intro K T N h_q; cases h_q; rfl) dX8_init_64 (by repeat (first | exact ho | exact sup_eq | refine sup_ne (by omega) ?_)) (Nat.le_of_ble_eq_true rfl) (by rfl) rfl rfl ?_
  refine go_aload_n (pc := 67) dX8_init_67 rfl ?_
  refine go_bipush (v := 26) (pc := 68) dX8_init_68 (by decide) ?_
  refine go_newI (pc := 70) dX8_init_70 (by decide) rfl (by decide) (Nat.le_of_ble_eq_true rfl) (Nat.le_of_ble_eq_true rfl) ?_
  refine go_putF (fs' := [_, _, _, _, _, _, _, _, _, _, _, _, _, _, _, _, _, _, _, _, _, _, _, _, _, _, _, _, _, _, _, _]) (pc := 72) f_X8_36 rfl (by intro K T N h_q; cases h_q; rfl) dX8_init_72 (by repeat (first | exact ho | exact sup_eq | refine sup_ne (by omega) ?_)) (Nat.le_of_ble_eq_true rfl) (by rfl) rfl rfl ?_
  refine go_aload_n (pc := 75) dX8_init_75 rfl ?_
  refine go_bipush (v := 8) (pc := 76) dX8_init_76 (by decide) ?_
  refine go_newI (pc := 78) dX8_init_78 (by decide) rfl (by decide) (Nat.le_of_ble_eq_true rfl) (Nat.le_of_ble_eq_true rfl) ?_
  refine go_putF (fs' := [_, _, _, _, _, _, _, _, _, _, _, _, _, _, _, _, _, _, _, _, _, _, _, _, _, _, _, _, _, _, _, _]) (pc := 80) f_X8_39 rfl (by intro K T N h_q; cases h_q; rfl) dX8_init_80 (by repeat (first | exact ho | exact sup_eq | refine sup_ne (by omega) ?_)) (Nat.le_of_ble_eq_true rfl) (by rfl) rfl rfl ?_
  refine go_aload_n (pc := 83) dX8_init_83 rfl ?_
  refine go_bipush (v := 8) (pc := 84) dX8_init_84 (by decide) ?_
  refine go_newI (pc := 86) dX8_init_86 (by decide) rfl (by decide) (Nat.le_of_ble_eq_true rfl) (Nat.le_of_ble_eq_true rfl) ?_
  refine go_putF (fs' := [_, _, _, _, _, _, _, _, _, _, _, _, _, _, _, _, _, _, _, _, _, _, _, _, _, _, _, _, _, _, _, _]) (pc := 88) f_X8_42 rfl (by intro K T N h_q; cases h_q; rfl) dX8_init_88 (by repeat (first | exact ho | exact sup_eq | refine sup_ne (by omega) ?_)) (Nat.le_of_ble_eq_true rfl) (by rfl) rfl rfl ?_
  refine go_aload_n (pc := 91) dX8_init_91 rfl ?_
  refine go_sipush (v := 234) (pc := 92) dX8_init_92 (by decide) ?_
  refine go_newI (pc := 95) dX8_init_95 (by decide) rfl (by decide) (Nat.le_of_ble_eq_true rfl) (Nat.le_of_ble_eq_true rfl) ?_
  refine go_putF (fs' := [_, _, _, _, _, _, _, _, _, _, _, _, _, _, _, _, _, _, _, _, _, _, _, _, _, _, _, _, _, _, _, _]) (pc := 97) f_X8_45 rfl (by intro K T N h_q; cases h_q; rfl) dX8_init_97 (by repeat (first | exact ho | exact sup_eq | refine sup_ne (by omega) ?_)) (Nat.le_of_ble_eq_true rfl) (by rfl) rfl rfl ?_
  refine go_aload_n (pc := 100) dX8_init_100 rfl ?_
  refine go_bipush (v := 28) (pc := 101) dX8_init_101 (by decide) ?_
  refine go_newI (pc := 103) dX8_init_103 (by decide) rfl (by decide) (Nat.le_of_ble_eq_true rfl) (Nat.le_of_ble_eq_true rfl) ?_
  refine go_putF (fs' := [_, _, _, _, _, _, _, _, _, _, _, _, _, _, _, _, _, _, _, _, _, _, _, _, _, _, _, _, _, _, _, _]) (pc := 105) f_X8_48 rfl (by intro K T N h_q; cases h_q; rfl) dX8_init_105 (by repeat (first | exact ho | exact sup_eq | refine sup_ne (by omega) ?_)) (Nat.le_of_ble_eq_true rfl) (by rfl) rfl rfl ?_
  refine go_aload_n (pc := 108) dX8_init_108 rfl ?_
  refine go_sipush (v := 224) (pc := 109) dX8_init_109 (by decide) ?_
  refine go_newI (pc := 112) dX8_init_112 (by decide) rfl (by decide) (Nat.le_of_ble_eq_true rfl) (Nat.le_of_ble_eq_true rfl) ?_
  refine go_putF (fs' := [_, _, _, _, _, _, _, _, _, _, _, _, _, _, _, _, _, _, _, _, _, _, _, _, _, _, _, _, _, _, _, _]) (pc := 114) f_X8_51 rfl (by intro K T N h_q; cases h_q; rfl) dX8_init_114 (by repeat (first | exact ho | exact sup_eq | refine sup_ne (by omega) ?_)) (Nat.le_of_ble_eq_true rfl) (by rfl) rfl rfl ?_
  refine go_aload_n (pc := 117) dX8_init_117 rfl ?_
  refine go_iconst (v := 4) (pc := 118) dX8_init_118 (by decide) ?_
  refine go_newI (pc := 119) dX8_init_119 (by decide) rfl (by decide) (Nat.le_of_ble_eq_true rfl) (Nat.le_of_ble_eq_true rfl) ?_
  refine go_dup (pc := 121) dX8_init_121 rfl ?_
  refine go_iconst (v := 0) (pc := 122) dX8_init_122 (by decide) ?_
  refine go_iconst (v := -1) (pc := 123) dX8_init_123 (by decide) ?_
  refine go_iast (j := 0) (pc := 124) dX8_init_124 (by repeat (first | exact ho | exact sup_eq | refine sup_ne (by omega) ?_)) (by exact ⟨rfl, by decide⟩) ?_
  refine go_dup (pc := 125) dX8_init_125 rfl ?_
  refine go_iconst (v := 1) (pc := 126) dX8_init_126 (by decide) ?_
  refine go_iconst (v := -1) (pc := 127) dX8_init_127 (by decide) ?_
  refine go_iast (j := 1) (pc := 128) dX8_init_128 (by repeat (first | exact ho | exact sup_eq | refine sup_ne (by omega) ?_)) (by exact ⟨rfl, by decide⟩) ?_
  refine go_dup (pc := 129) dX8_init_129 rfl ?_
  refine go_iconst (v := 2) (pc := 130) dX8_init_130 (by decide) ?_
  refine go_iconst (v := -1) (pc := 131) dX8_init_131 (by decide) ?_
  refine go_iast (j := 2) (pc := 132) dX8_init_132 (by repeat (first | exact ho | exact sup_eq | refine sup_ne (by omega) ?_)) (by exact ⟨rfl, by decide⟩) ?_
  refine go_dup (pc := 133) dX8_init_133 rfl ?_
  refine go_iconst (v := 3) (pc := 134) dX8_init_134 (by decide) ?_
  refine go_iconst (v := -1) (pc := 135) dX8_init_135 (by decide) ?_
  refine go_iast (j := 3) (pc := 136) dX8_init_136 (by repeat (first | exact ho | exact sup_eq | refine sup_ne (by omega) ?_)) (by exact ⟨rfl, by decide⟩) ?_
  refine go_putF (fs' := [_, _, _, _, _, _, _, _, _, _, _, _, _, _, _, _, _, _, _, _, _, _, _, _, _, _, _, _, _, _, _, _]) (pc := 137) f_X8_54 rfl (by intro K T N h_q; cases h_q; rfl) dX8_init_137 (by repeat (first | exact ho | exact sup_eq | refine sup_ne (by omega) ?_)) (Nat.le_of_ble_eq_true rfl) (by rfl) rfl rfl ?_
  refine go_aload_n (pc := 140) dX8_init_140 rfl ?_
  refine go_iconst (v := 4) (pc := 141) dX8_init_141 (by decide) ?_
  refine go_newI (pc := 142) dX8_init_142 (by decide) rfl (by decide) (Nat.le_of_ble_eq_true rfl) (Nat.le_of_ble_eq_true rfl) ?_
  refine go_putF (fs' := [_, _, _, _, _, _, _, _, _, _, _, _, _, _, _, _, _, _, _, _, _, _, _, _, _, _, _, _, _, _, _, _]) (pc := 144) f_X8_57 rfl (by intro K T N h_q; cases h_q; rfl) dX8_init_144 (by repeat (first | exact ho | exact sup_eq | refine sup_ne (by omega) ?_)) (Nat.le_of_ble_eq_true rfl) (by rfl) rfl rfl ?_
  refine go_aload_n (pc := 147) dX8_init_147 rfl ?_
  refine go_bipush (v := 120) (pc := 148) dX8_init_148 (by decide) ?_
  refine go_newJ (pc := 150) dX8_init_150 (by decide) rfl (by decide) (Nat.le_of_ble_eq_true rfl) (Nat.le_of_ble_eq_true rfl) ?_
  refine go_putF (fs' := [_, _, _, _, _, _, _, _, _, _, _, _, _, _, _, _, _, _, _, _, _, _, _, _, _, _, _, _, _, _, _, _]) (pc := 152) f_X8_60 rfl (by intro K T N h_q; cases h_q; rfl) dX8_init_152 (by repeat (first | exact ho | exact sup_eq | refine sup_ne (by omega) ?_)) (Nat.le_of_ble_eq_true rfl) (by rfl) rfl rfl ?_
  refine go_aload_n (pc := 155) dX8_init_155 rfl ?_
  refine go_getf (pc := 156) f_X8_9 dX8_init_156 (by repeat (first | exact ho | exact sup_eq | refine sup_ne (by omega) ?_)) (by rfl) ?_
  refine go_iconst (v := 1) (pc := 159) dX8_init_159 (by decide) ?_
  refine go_iconst (v := 1) (pc := 160) dX8_init_160 (by decide) ?_
  refine go_iast (j := 1) (pc := 161) dX8_init_161 (by repeat (first | exact ho | exact sup_eq | refine sup_ne (by omega) ?_)) (by exact ⟨rfl, by decide⟩) ?_
  refine go_aload_n (pc := 162) dX8_init_162 rfl ?_
  refine go_getf (pc := 163) f_X8_9 dX8_init_163 (by repeat (first | exact ho | exact sup_eq | refine sup_ne (by omega) ?_)) (by rfl) ?_
  refine go_iconst (v := 2) (pc := 166) dX8_init_166 (by decide) ?_
  refine go_iconst (v := 1) (pc := 167) dX8_init_167 (by decide) ?_
  refine go_iast (j := 2) (pc := 168) dX8_init_168 (by repeat (first | exact ho | exact sup_eq | refine sup_ne (by omega) ?_)) (by exact ⟨rfl, by decide⟩) ?_
  exact go_vretV (pc := 169) rfl dX8_init_169 (Nat.le_of_ble_eq_true rfl) (Nat.le_of_ble_eq_true rfl) ⟨rfl, ⟨(by repeat (first | exact rfl | exact sup_eq | refine sup_ne (by omega) ?_)), (by repeat (first | exact rfl | exact sup_eq | refine sup_ne (by omega) ?_)), (by repeat (first | exact rfl | exact sup_eq | refine sup_ne (by omega) ?_)), (by repeat (first | exact rfl | exact sup_eq | refine sup_ne (by omega) ?_)), (by repeat (first | exact rfl | exact sup_eq | refine sup_ne (by omega) ?_)), (by repeat (first | exact rfl | exact sup_eq | refine sup_ne (by omega) ?_)), (by repeat (first | exact rfl | exact sup_eq | refine sup_ne (by omega) ?_)), (by repeat (first | exact rfl | exact sup_eq | refine sup_ne (by omega) ?_)), (by repeat (first | exact rfl | exact sup_eq | refine sup_ne (by omega) ?_)), (by repeat (first | exact rfl | exact sup_eq | refine sup_ne (by omega) ?_)), (by repeat (first | exact rfl | exact sup_eq | refine sup_ne (by omega) ?_)), (by repeat (first | exact rfl | exact sup_eq | refine sup_ne (by omega) ?_)), (by repeat (first | exact rfl | exact sup_eq | refine sup_ne (by omega) ?_)), (by repeat (first | exact rfl | exact sup_eq | refine sup_ne (by omega) ?_)), (by repeat (first | exact rfl | exact sup_eq | refine sup_ne (by omega) ?_)), (by repeat (first | exact rfl | exact sup_eq | refine sup_ne (by omega) ?_)), (by repeat (first | exact rfl | exact sup_eq | refine sup_ne (by omega) ?_))⟩, fun q hq_q => (by repeat (first | exact rfl | exact sup_eq | refine sup_ne (by omega) ?_))⟩
