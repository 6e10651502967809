/-! ===== the class: laws run ===== -/
theorem sp_join_n14 {Γ : gam} {σ : sto} {n k : Nat} (a b : Int32) : Sp Γ (rmk k 0 0) uX3_joined [.int (-14), .int a, .int b] σ n (qP (jnC (-14) a b) σ n) := by
  refine sp_intro [some (.int (-14)), some (.int a), some (.int b), none, none] (by decide +kernel) rfl (Nat.le_of_ble_eq_true rfl) rfl ?_
  refine go_iload_n (pc := 0) dX3_joined_0 rfl ?_
  refine go_tableOut (tgt := 77) (pc := 1) dX3_joined_1 (by decide) (by decide) ?_
  refine go_iload_n (pc := 77) dX3_joined_77 rfl ?_
  refine go_i2l (pc := 78) dX3_joined_78 ?_
  refine go_iload_n (pc := 79) dX3_joined_79 rfl ?_
  refine go_i2l (pc := 80) dX3_joined_80 ?_
  refine go_lmul (pc := 81) dX3_joined_81 ?_
  refine go_lstore_n (lw := [_, _, _, _, _]) (pc := 82) dX3_joined_82 (by decide) rfl ?_
  refine go_iload_n (pc := 83) dX3_joined_83 rfl ?_
  refine go_bipush (v := -12) (pc := 84) dX3_joined_84 (by decide) ?_
  refine go_icmp_ne (tgt := 98) (pc := 86) dX3_joined_86 (by decide) (fun h_86 => ?_) (fun h_86 => by exfalso; exact absurd h_86 (by decide))
  refine go_iload_n (pc := 98) dX3_joined_98 rfl ?_
  refine go_bipush (v := -13) (pc := 99) dX3_joined_99 (by decide) ?_
  refine go_icmp_ne (tgt := 110) (pc := 101) dX3_joined_101 (by decide) (fun h_101 => ?_) (fun h_101 => by exfalso; exact absurd h_101 (by decide))
  refine go_lload_n (pc := 110) dX3_joined_110 rfl ?_
  refine go_ldc2 (pc := 111) kw2_97 dX3_joined_111 ?_
  refine go_lcmp (pc := 114) dX3_joined_114 ?_
  refine go_if_le (tgt := 124) (pc := 115) dX3_joined_115 (by decide) (fun h_115 => ?_) (fun h_115 => ?_)
  · refine go_lload_n (pc := 124) dX3_joined_124 rfl ?_
    refine go_ldc2 (pc := 125) kw2_98 dX3_joined_125 ?_
    refine go_lcmp (pc := 128) dX3_joined_128 ?_
    refine go_if_ge (tgt := 138) (pc := 129) dX3_joined_129 (by decide) (fun h_129 => ?_) (fun h_129 => ?_)
    · refine go_lload_n (pc := 138) dX3_joined_138 rfl ?_
      refine go_l2i (pc := 139) dX3_joined_139 ?_
      exact go_iretP (pc := 140) rfl dX3_joined_140 (Nat.le_of_ble_eq_true rfl) (Nat.le_of_ble_eq_true rfl) (by rw [jnC, if_neg (show ¬ (-14 : Int32) = -7 from by decide), if_neg (show ¬ (-14 : Int32) = -8 from by decide), if_neg (show ¬ (-14 : Int32) = -9 from by decide), if_neg (show ¬ (-14 : Int32) = -10 from by decide), if_neg (show ¬ (-14 : Int32) = -11 from by decide), if_neg (show ¬ (-14 : Int32) = -12 from by decide), if_neg (show ¬ (-14 : Int32) = -13 from by decide)]; unfold bndC; first | rw [if_pos ((lg_cmp_gt _ _).mp (Int32.not_le.mp h_115))] | rw [if_neg (fun hc_q => absurd h_115 (Int32.not_le.mpr ((lg_cmp_gt _ _).mpr hc_q))), if_pos ((lg_cmp_lt _ _).mp (Int32.not_le.mp h_129))] | rw [if_neg (fun hc_q => absurd h_115 (Int32.not_le.mpr ((lg_cmp_gt _ _).mpr hc_q))), if_neg (fun hc_q => absurd h_129 (Int32.not_le.mpr ((lg_cmp_lt _ _).mpr hc_q)))])
    · refine go_ldc2 (pc := 132) kw2_98 dX3_joined_132 ?_
      refine go_goto (tgt := 139) (pc := 135) dX3_joined_135 (by decide) ?_
      refine go_l2i (pc := 139) dX3_joined_139 ?_
      exact go_iretP (pc := 140) rfl dX3_joined_140 (Nat.le_of_ble_eq_true rfl) (Nat.le_of_ble_eq_true rfl) (by rw [jnC, if_neg (show ¬ (-14 : Int32) = -7 from by decide), if_neg (show ¬ (-14 : Int32) = -8 from by decide), if_neg (show ¬ (-14 : Int32) = -9 from by decide), if_neg (show ¬ (-14 : Int32) = -10 from by decide), if_neg (show ¬ (-14 : Int32) = -11 from by decide), if_neg (show ¬ (-14 : Int32) = -12 from by decide), if_neg (show ¬ (-14 : Int32) = -13 from by decide)]; unfold bndC; first | rw [if_pos ((lg_cmp_gt _ _).mp (Int32.not_le.mp h_115))] | rw [if_neg (fun hc_q => absurd h_115 (Int32.not_le.mpr ((lg_cmp_gt _ _).mpr hc_q))), if_pos ((lg_cmp_lt _ _).mp (Int32.not_le.mp h_129))] | rw [if_neg (fun hc_q => absurd h_115 (Int32.not_le.mpr ((lg_cmp_gt _ _).mpr hc_q))), if_neg (fun hc_q => absurd h_129 (Int32.not_le.mpr ((lg_cmp_lt _ _).mpr hc_q)))])
  · refine go_ldc2 (pc := 118) kw2_97 dX3_joined_118 ?_
    refine go_goto (tgt := 139) (pc := 121) dX3_joined_121 (by decide) ?_
    refine go_l2i (pc := 139) dX3_joined_139 ?_
    exact go_iretP (pc := 140) rfl dX3_joined_140 (Nat.le_of_ble_eq_true rfl) (Nat.le_of_ble_eq_true rfl) (by rw [jnC, if_neg (show ¬ (-14 : Int32) = -7 from by decide), if_neg (show ¬ (-14 : Int32) = -8 from by decide), if_neg (show ¬ (-14 : Int32) = -9 from by decide), if_neg (show ¬ (-14 : Int32) = -10 from by decide), if_neg (show ¬ (-14 : Int32) = -11 from by decide), if_neg (show ¬ (-14 : Int32) = -12 from by decide), if_neg (show ¬ (-14 : Int32) = -13 from by decide)]; unfold bndC; first | rw [if_pos ((lg_cmp_gt _ _).mp (Int32.not_le.mp h_115))] | rw [if_neg (fun hc_q => absurd h_115 (Int32.not_le.mpr ((lg_cmp_gt _ _).mpr hc_q))), if_pos ((lg_cmp_lt _ _).mp (Int32.not_le.mp h_129))] | rw [if_neg (fun hc_q => absurd h_115 (Int32.not_le.mpr ((lg_cmp_gt _ _).mpr hc_q))), if_neg (fun hc_q => absurd h_129 (Int32.not_le.mpr ((lg_cmp_lt _ _).mpr hc_q)))])
theorem sp_join_n13 {Γ : gam} {σ : sto} {n k : Nat} (a b : Int32) : Sp Γ (rmk k 0 0) uX3_joined [.int (-13), .int a, .int b] σ n (qP (jnC (-13) a b) σ n) := by
  refine sp_intro [some (.int (-13)), some (.int a), some (.int b), none, none] (by decide +kernel) rfl (Nat.le_of_ble_eq_true rfl) rfl ?_
  refine go_iload_n (pc := 0) dX3_joined_0 rfl ?_
  refine go_tableOut (tgt := 77) (pc := 1) dX3_joined_1 (by decide) (by decide) ?_
  refine go_iload_n (pc := 77) dX3_joined_77 rfl ?_
  refine go_i2l (pc := 78) dX3_joined_78 ?_
  refine go_iload_n (pc := 79) dX3_joined_79 rfl ?_
  refine go_i2l (pc := 80) dX3_joined_80 ?_
  refine go_lmul (pc := 81) dX3_joined_81 ?_
  refine go_lstore_n (lw := [_, _, _, _, _]) (pc := 82) dX3_joined_82 (by decide) rfl ?_
  refine go_iload_n (pc := 83) dX3_joined_83 rfl ?_
  refine go_bipush (v := -12) (pc := 84) dX3_joined_84 (by decide) ?_
  refine go_icmp_ne (tgt := 98) (pc := 86) dX3_joined_86 (by decide) (fun h_86 => ?_) (fun h_86 => by exfalso; exact absurd h_86 (by decide))
  refine go_iload_n (pc := 98) dX3_joined_98 rfl ?_
  refine go_bipush (v := -13) (pc := 99) dX3_joined_99 (by decide) ?_
  refine go_icmp_ne (tgt := 110) (pc := 101) dX3_joined_101 (by decide) (fun h_101 => by exfalso; exact h_101 (by decide)) (fun h_101 => ?_)
  refine go_iload_n (pc := 104) dX3_joined_104 rfl ?_
  refine go_i2l (pc := 105) dX3_joined_105 ?_
  refine go_iload_n (pc := 106) dX3_joined_106 rfl ?_
  refine go_i2l (pc := 107) dX3_joined_107 ?_
  refine go_lsub (pc := 108) dX3_joined_108 ?_
  refine go_lstore_n (lw := [_, _, _, _, _]) (pc := 109) dX3_joined_109 (by decide) rfl ?_
  refine go_lload_n (pc := 110) dX3_joined_110 rfl ?_
  refine go_ldc2 (pc := 111) kw2_97 dX3_joined_111 ?_
  refine go_lcmp (pc := 114) dX3_joined_114 ?_
  refine go_if_le (tgt := 124) (pc := 115) dX3_joined_115 (by decide) (fun h_115 => ?_) (fun h_115 => ?_)
  · refine go_lload_n (pc := 124) dX3_joined_124 rfl ?_
    refine go_ldc2 (pc := 125) kw2_98 dX3_joined_125 ?_
    refine go_lcmp (pc := 128) dX3_joined_128 ?_
    refine go_if_ge (tgt := 138) (pc := 129) dX3_joined_129 (by decide) (fun h_129 => ?_) (fun h_129 => ?_)
    · refine go_lload_n (pc := 138) dX3_joined_138 rfl ?_
      refine go_l2i (pc := 139) dX3_joined_139 ?_
      exact go_iretP (pc := 140) rfl dX3_joined_140 (Nat.le_of_ble_eq_true rfl) (Nat.le_of_ble_eq_true rfl) (by rw [jnC, if_neg (show ¬ (-13 : Int32) = -7 from by decide), if_neg (show ¬ (-13 : Int32) = -8 from by decide), if_neg (show ¬ (-13 : Int32) = -9 from by decide), if_neg (show ¬ (-13 : Int32) = -10 from by decide), if_neg (show ¬ (-13 : Int32) = -11 from by decide), if_neg (show ¬ (-13 : Int32) = -12 from by decide), if_pos (show (-13 : Int32) = -13 from rfl)]; unfold bndC; first | rw [if_pos ((lg_cmp_gt _ _).mp (Int32.not_le.mp h_115))] | rw [if_neg (fun hc_q => absurd h_115 (Int32.not_le.mpr ((lg_cmp_gt _ _).mpr hc_q))), if_pos ((lg_cmp_lt _ _).mp (Int32.not_le.mp h_129))] | rw [if_neg (fun hc_q => absurd h_115 (Int32.not_le.mpr ((lg_cmp_gt _ _).mpr hc_q))), if_neg (fun hc_q => absurd h_129 (Int32.not_le.mpr ((lg_cmp_lt _ _).mpr hc_q)))])
    · refine go_ldc2 (pc := 132) kw2_98 dX3_joined_132 ?_
      refine go_goto (tgt := 139) (pc := 135) dX3_joined_135 (by decide) ?_
      refine go_l2i (pc := 139) dX3_joined_139 ?_
      exact go_iretP (pc := 140) rfl dX3_joined_140 (Nat.le_of_ble_eq_true rfl) (Nat.le_of_ble_eq_true rfl) (by rw [jnC, if_neg (show ¬ (-13 : Int32) = -7 from by decide), if_neg (show ¬ (-13 : Int32) = -8 from by decide), if_neg (show ¬ (-13 : Int32) = -9 from by decide), if_neg (show ¬ (-13 : Int32) = -10 from by decide), if_neg (show ¬ (-13 : Int32) = -11 from by decide), if_neg (show ¬ (-13 : Int32) = -12 from by decide), if_pos (show (-13 : Int32) = -13 from rfl)]; unfold bndC; first | rw [if_pos ((lg_cmp_gt _ _).mp (Int32.not_le.mp h_115))] | rw [if_neg (fun hc_q => absurd h_115 (Int32.not_le.mpr ((lg_cmp_gt _ _).mpr hc_q))), if_pos ((lg_cmp_lt _ _).mp (Int32.not_le.mp h_129))] | rw [if_neg (fun hc_q => absurd h_115 (Int32.not_le.mpr ((lg_cmp_gt _ _).mpr hc_q))), if_neg (fun hc_q => absurd h_129 (Int32.not_le.mpr ((lg_cmp_lt _ _).mpr hc_q)))])
  · refine go_ldc2 (pc := 118) kw2_97 dX3_joined_118 ?_
    refine go_goto (tgt := 139) (pc := 121) dX3_joined_121 (by decide) ?_
    refine go_l2i (pc := 139) dX3_joined_139 ?_
    exact go_iretP (pc := 140) rfl dX3_joined_140 (Nat.le_of_ble_eq_true rfl) (Nat.le_of_ble_eq_true rfl) (by rw [jnC, if_neg (show ¬ (-13 : Int32) = -7 from by decide), if_neg (show ¬ (-13 : Int32) = -8 from by decide), if_neg (show ¬ (-13 : Int32) = -9 from by decide), if_neg (show ¬ (-13 : Int32) = -10 from by decide), if_neg (show ¬ (-13 : Int32) = -11 from by decide), if_neg (show ¬ (-13 : Int32) = -12 from by decide), if_pos (show (-13 : Int32) = -13 from rfl)]; unfold bndC; first | rw [if_pos ((lg_cmp_gt _ _).mp (Int32.not_le.mp h_115))] | rw [if_neg (fun hc_q => absurd h_115 (Int32.not_le.mpr ((lg_cmp_gt _ _).mpr hc_q))), if_pos ((lg_cmp_lt _ _).mp (Int32.not_le.mp h_129))] | rw [if_neg (fun hc_q => absurd h_115 (Int32.not_le.mpr ((lg_cmp_gt _ _).mpr hc_q))), if_neg (fun hc_q => absurd h_129 (Int32.not_le.mpr ((lg_cmp_lt _ _).mpr hc_q)))])
theorem sp_join_n12 {Γ : gam} {σ : sto} {n k : Nat} (a b : Int32) : Sp Γ (rmk k 0 0) uX3_joined [.int (-12), .int a, .int b] σ n (qP (jnC (-12) a b) σ n) := by
  refine sp_intro [some (.int (-12)), some (.int a), some (.int b), none, none] (by decide +kernel) rfl (Nat.le_of_ble_eq_true rfl) rfl ?_
  refine go_iload_n (pc := 0) dX3_joined_0 rfl ?_
  refine go_tableOut (tgt := 77) (pc := 1) dX3_joined_1 (by decide) (by decide) ?_
  refine go_iload_n (pc := 77) dX3_joined_77 rfl ?_
  refine go_i2l (pc := 78) dX3_joined_78 ?_
  refine go_iload_n (pc := 79) dX3_joined_79 rfl ?_
  refine go_i2l (pc := 80) dX3_joined_80 ?_
  refine go_lmul (pc := 81) dX3_joined_81 ?_
  refine go_lstore_n (lw := [_, _, _, _, _]) (pc := 82) dX3_joined_82 (by decide) rfl ?_
  refine go_iload_n (pc := 83) dX3_joined_83 rfl ?_
  refine go_bipush (v := -12) (pc := 84) dX3_joined_84 (by decide) ?_
  refine go_icmp_ne (tgt := 98) (pc := 86) dX3_joined_86 (by decide) (fun h_86 => by exfalso; exact h_86 (by decide)) (fun h_86 => ?_)
  refine go_iload_n (pc := 89) dX3_joined_89 rfl ?_
  refine go_i2l (pc := 90) dX3_joined_90 ?_
  refine go_iload_n (pc := 91) dX3_joined_91 rfl ?_
  refine go_i2l (pc := 92) dX3_joined_92 ?_
  refine go_ladd (pc := 93) dX3_joined_93 ?_
  refine go_lstore_n (lw := [_, _, _, _, _]) (pc := 94) dX3_joined_94 (by decide) rfl ?_
  refine go_goto (tgt := 110) (pc := 95) dX3_joined_95 (by decide) ?_
  refine go_lload_n (pc := 110) dX3_joined_110 rfl ?_
  refine go_ldc2 (pc := 111) kw2_97 dX3_joined_111 ?_
  refine go_lcmp (pc := 114) dX3_joined_114 ?_
  refine go_if_le (tgt := 124) (pc := 115) dX3_joined_115 (by decide) (fun h_115 => ?_) (fun h_115 => ?_)
  · refine go_lload_n (pc := 124) dX3_joined_124 rfl ?_
    refine go_ldc2 (pc := 125) kw2_98 dX3_joined_125 ?_
    refine go_lcmp (pc := 128) dX3_joined_128 ?_
    refine go_if_ge (tgt := 138) (pc := 129) dX3_joined_129 (by decide) (fun h_129 => ?_) (fun h_129 => ?_)
    · refine go_lload_n (pc := 138) dX3_joined_138 rfl ?_
      refine go_l2i (pc := 139) dX3_joined_139 ?_
      exact go_iretP (pc := 140) rfl dX3_joined_140 (Nat.le_of_ble_eq_true rfl) (Nat.le_of_ble_eq_true rfl) (by rw [jnC, if_neg (show ¬ (-12 : Int32) = -7 from by decide), if_neg (show ¬ (-12 : Int32) = -8 from by decide), if_neg (show ¬ (-12 : Int32) = -9 from by decide), if_neg (show ¬ (-12 : Int32) = -10 from by decide), if_neg (show ¬ (-12 : Int32) = -11 from by decide), if_pos (show (-12 : Int32) = -12 from rfl)]; unfold bndC; first | rw [if_pos ((lg_cmp_gt _ _).mp (Int32.not_le.mp h_115))] | rw [if_neg (fun hc_q => absurd h_115 (Int32.not_le.mpr ((lg_cmp_gt _ _).mpr hc_q))), if_pos ((lg_cmp_lt _ _).mp (Int32.not_le.mp h_129))] | rw [if_neg (fun hc_q => absurd h_115 (Int32.not_le.mpr ((lg_cmp_gt _ _).mpr hc_q))), if_neg (fun hc_q => absurd h_129 (Int32.not_le.mpr ((lg_cmp_lt _ _).mpr hc_q)))])
    · refine go_ldc2 (pc := 132) kw2_98 dX3_joined_132 ?_
      refine go_goto (tgt := 139) (pc := 135) dX3_joined_135 (by decide) ?_
      refine go_l2i (pc := 139) dX3_joined_139 ?_
      exact go_iretP (pc := 140) rfl dX3_joined_140 (Nat.le_of_ble_eq_true rfl) (Nat.le_of_ble_eq_true rfl) (by rw [jnC, if_neg (show ¬ (-12 : Int32) = -7 from by decide), if_neg (show ¬ (-12 : Int32) = -8 from by decide), if_neg (show ¬ (-12 : Int32) = -9 from by decide), if_neg (show ¬ (-12 : Int32) = -10 from by decide), if_neg (show ¬ (-12 : Int32) = -11 from by decide), if_pos (show (-12 : Int32) = -12 from rfl)]; unfold bndC; first | rw [if_pos ((lg_cmp_gt _ _).mp (Int32.not_le.mp h_115))] | rw [if_neg (fun hc_q => absurd h_115 (Int32.not_le.mpr ((lg_cmp_gt _ _).mpr hc_q))), if_pos ((lg_cmp_lt _ _).mp (Int32.not_le.mp h_129))] | rw [if_neg (fun hc_q => absurd h_115 (Int32.not_le.mpr ((lg_cmp_gt _ _).mpr hc_q))), if_neg (fun hc_q => absurd h_129 (Int32.not_le.mpr ((lg_cmp_lt _ _).mpr hc_q)))])
  · refine go_ldc2 (pc := 118) kw2_97 dX3_joined_118 ?_
    refine go_goto (tgt := 139) (pc := 121) dX3_joined_121 (by decide) ?_
    refine go_l2i (pc := 139) dX3_joined_139 ?_
    exact go_iretP (pc := 140) rfl dX3_joined_140 (Nat.le_of_ble_eq_true rfl) (Nat.le_of_ble_eq_true rfl) (by rw [jnC, if_neg (show ¬ (-12 : Int32) = -7 from by decide), if_neg (show ¬ (-12 : Int32) = -8 from by decide), if_neg (show ¬ (-12 : Int32) = -9 from by decide), if_neg (show ¬ (-12 : Int32) = -10 from by decide), if_neg (show ¬ (-12 : Int32) = -11 from by decide), if_pos (show (-12 : Int32) = -12 from rfl)]; unfold bndC; first | rw [if_pos ((lg_cmp_gt _ _).mp (Int32.not_le.mp h_115))] | rw [if_neg (fun hc_q => absurd h_115 (Int32.not_le.mpr ((lg_cmp_gt _ _).mpr hc_q))), if_pos ((lg_cmp_lt _ _).mp (Int32.not_le.mp h_129))] | rw [if_neg (fun hc_q => absurd h_115 (Int32.not_le.mpr ((lg_cmp_gt _ _).mpr hc_q))), if_neg (fun hc_q => absurd h_129 (Int32.not_le.mpr ((lg_cmp_lt _ _).mpr hc_q)))])
theorem sp_join_n11 {Γ : gam} {σ : sto} {n k : Nat} (a b : Int32) : Sp Γ (rmk k 0 0) uX3_joined [.int (-11), .int a, .int b] σ n (qP (jnC (-11) a b) σ n) := by
  refine sp_intro [some (.int (-11)), some (.int a), some (.int b), none, none] (by decide +kernel) rfl (Nat.le_of_ble_eq_true rfl) rfl ?_
  refine go_iload_n (pc := 0) dX3_joined_0 rfl ?_
  refine go_tableIn (off := 65) (tgt := 66) (pc := 1) dX3_joined_1 (by decide) (by decide) rfl (by decide) ?_
  refine go_iload_n (pc := 66) dX3_joined_66 rfl ?_
  refine go_iload_n (pc := 67) dX3_joined_67 rfl ?_
  refine go_icmp_le (tgt := 75) (pc := 68) dX3_joined_68 (by decide) (fun h_68 => ?_) (fun h_68 => ?_)
  · refine go_iconst (v := 0) (pc := 75) dX3_joined_75 (by decide) ?_
    exact go_iretP (pc := 76) rfl dX3_joined_76 (Nat.le_of_ble_eq_true rfl) (Nat.le_of_ble_eq_true rfl) (by rw [jnC, if_neg (show ¬ (-11 : Int32) = -7 from by decide), if_neg (show ¬ (-11 : Int32) = -8 from by decide), if_neg (show ¬ (-11 : Int32) = -9 from by decide), if_neg (show ¬ (-11 : Int32) = -10 from by decide), if_pos (show (-11 : Int32) = -11 from rfl)]; first | exact (bI_f (Int32.not_lt.mpr h_68)).symm | exact (bI_t (Int32.not_le.mp h_68)).symm)
  · refine go_iconst (v := 1) (pc := 71) dX3_joined_71 (by decide) ?_
    refine go_goto (tgt := 76) (pc := 72) dX3_joined_72 (by decide) ?_
    exact go_iretP (pc := 76) rfl dX3_joined_76 (Nat.le_of_ble_eq_true rfl) (Nat.le_of_ble_eq_true rfl) (by rw [jnC, if_neg (show ¬ (-11 : Int32) = -7 from by decide), if_neg (show ¬ (-11 : Int32) = -8 from by decide), if_neg (show ¬ (-11 : Int32) = -9 from by decide), if_neg (show ¬ (-11 : Int32) = -10 from by decide), if_pos (show (-11 : Int32) = -11 from rfl)]; first | exact (bI_f (Int32.not_lt.mpr h_68)).symm | exact (bI_t (Int32.not_le.mp h_68)).symm)
theorem sp_join_n10 {Γ : gam} {σ : sto} {n k : Nat} (a b : Int32) : Sp Γ (rmk k 0 0) uX3_joined [.int (-10), .int a, .int b] σ n (qP (jnC (-10) a b) σ n) := by
  refine sp_intro [some (.int (-10)), some (.int a), some (.int b), none, none] (by decide +kernel) rfl (Nat.le_of_ble_eq_true rfl) rfl ?_
  refine go_iload_n (pc := 0) dX3_joined_0 rfl ?_
  refine go_tableIn (off := 54) (tgt := 55) (pc := 1) dX3_joined_1 (by decide) (by decide) rfl (by decide) ?_
  refine go_iload_n (pc := 55) dX3_joined_55 rfl ?_
  refine go_iload_n (pc := 56) dX3_joined_56 rfl ?_
  refine go_icmp_ge (tgt := 64) (pc := 57) dX3_joined_57 (by decide) (fun h_57 => ?_) (fun h_57 => ?_)
  · refine go_iconst (v := 0) (pc := 64) dX3_joined_64 (by decide) ?_
    exact go_iretP (pc := 65) rfl dX3_joined_65 (Nat.le_of_ble_eq_true rfl) (Nat.le_of_ble_eq_true rfl) (by rw [jnC, if_neg (show ¬ (-10 : Int32) = -7 from by decide), if_neg (show ¬ (-10 : Int32) = -8 from by decide), if_neg (show ¬ (-10 : Int32) = -9 from by decide), if_pos (show (-10 : Int32) = -10 from rfl)]; first | exact (bI_f (Int32.not_lt.mpr h_57)).symm | exact (bI_t (Int32.not_le.mp h_57)).symm)
  · refine go_iconst (v := 1) (pc := 60) dX3_joined_60 (by decide) ?_
    refine go_goto (tgt := 65) (pc := 61) dX3_joined_61 (by decide) ?_
    exact go_iretP (pc := 65) rfl dX3_joined_65 (Nat.le_of_ble_eq_true rfl) (Nat.le_of_ble_eq_true rfl) (by rw [jnC, if_neg (show ¬ (-10 : Int32) = -7 from by decide), if_neg (show ¬ (-10 : Int32) = -8 from by decide), if_neg (show ¬ (-10 : Int32) = -9 from by decide), if_pos (show (-10 : Int32) = -10 from rfl)]; first | exact (bI_f (Int32.not_lt.mpr h_57)).symm | exact (bI_t (Int32.not_le.mp h_57)).symm)
theorem sp_join_n9 {Γ : gam} {σ : sto} {n k : Nat} (a b : Int32) : Sp Γ (rmk k 0 0) uX3_joined [.int (-9), .int a, .int b] σ n (qP (jnC (-9) a b) σ n) := by
  refine sp_intro [some (.int (-9)), some (.int a), some (.int b), none, none] (by decide +kernel) rfl (Nat.le_of_ble_eq_true rfl) rfl ?_
  refine go_iload_n (pc := 0) dX3_joined_0 rfl ?_
  refine go_tableIn (off := 43) (tgt := 44) (pc := 1) dX3_joined_1 (by decide) (by decide) rfl (by decide) ?_
  refine go_iload_n (pc := 44) dX3_joined_44 rfl ?_
  refine go_iload_n (pc := 45) dX3_joined_45 rfl ?_
  refine go_icmp_ne (tgt := 53) (pc := 46) dX3_joined_46 (by decide) (fun h_46 => ?_) (fun h_46 => ?_)
  · refine go_iconst (v := 0) (pc := 53) dX3_joined_53 (by decide) ?_
    exact go_iretP (pc := 54) rfl dX3_joined_54 (Nat.le_of_ble_eq_true rfl) (Nat.le_of_ble_eq_true rfl) (by rw [jnC, if_neg (show ¬ (-9 : Int32) = -7 from by decide), if_neg (show ¬ (-9 : Int32) = -8 from by decide), if_pos (show (-9 : Int32) = -9 from rfl)]; first | exact (bI_f h_46).symm | exact (bI_t h_46).symm)
  · refine go_iconst (v := 1) (pc := 49) dX3_joined_49 (by decide) ?_
    refine go_goto (tgt := 54) (pc := 50) dX3_joined_50 (by decide) ?_
    exact go_iretP (pc := 54) rfl dX3_joined_54 (Nat.le_of_ble_eq_true rfl) (Nat.le_of_ble_eq_true rfl) (by rw [jnC, if_neg (show ¬ (-9 : Int32) = -7 from by decide), if_neg (show ¬ (-9 : Int32) = -8 from by decide), if_pos (show (-9 : Int32) = -9 from rfl)]; first | exact (bI_f h_46).symm | exact (bI_t h_46).symm)
theorem sp_join_n8 {Γ : gam} {σ : sto} {n k : Nat} (a b : Int32) : Sp Γ (rmk k 0 0) uX3_joined [.int (-8), .int a, .int b] σ n (qP (jnC (-8) a b) σ n) := by
  refine sp_intro [some (.int (-8)), some (.int a), some (.int b), none, none] (by decide +kernel) rfl (Nat.le_of_ble_eq_true rfl) rfl ?_
  refine go_iload_n (pc := 0) dX3_joined_0 rfl ?_
  refine go_tableIn (off := 39) (tgt := 40) (pc := 1) dX3_joined_1 (by decide) (by decide) rfl (by decide) ?_
  refine go_iload_n (pc := 40) dX3_joined_40 rfl ?_
  refine go_iload_n (pc := 41) dX3_joined_41 rfl ?_
  refine go_ior (pc := 42) dX3_joined_42 ?_
  exact go_iretP (pc := 43) rfl dX3_joined_43 (Nat.le_of_ble_eq_true rfl) (Nat.le_of_ble_eq_true rfl) (by rw [jnC, if_neg (show ¬ (-8 : Int32) = -7 from by decide), if_pos (show (-8 : Int32) = -8 from rfl)])
theorem sp_join_n7 {Γ : gam} {σ : sto} {n k : Nat} (a b : Int32) : Sp Γ (rmk k 0 0) uX3_joined [.int (-7), .int a, .int b] σ n (qP (jnC (-7) a b) σ n) := by
  refine sp_intro [some (.int (-7)), some (.int a), some (.int b), none, none] (by decide +kernel) rfl (Nat.le_of_ble_eq_true rfl) rfl ?_
  refine go_iload_n (pc := 0) dX3_joined_0 rfl ?_
  refine go_tableIn (off := 35) (tgt := 36) (pc := 1) dX3_joined_1 (by decide) (by decide) rfl (by decide) ?_
  refine go_iload_n (pc := 36) dX3_joined_36 rfl ?_
  refine go_iload_n (pc := 37) dX3_joined_37 rfl ?_
  refine go_iand (pc := 38) dX3_joined_38 ?_
  exact go_iretP (pc := 39) rfl dX3_joined_39 (Nat.le_of_ble_eq_true rfl) (Nat.le_of_ble_eq_true rfl) (by rw [jnC, if_pos (show (-7 : Int32) = -7 from rfl)])
theorem sp_joined {Γ : gam} {σ : sto} {n k : Nat} {x a b : Int32} (hx_q : x = 10 ∨ x = 11 ∨ x = 12 ∨ x = 13 ∨ x = 14 ∨ x = 15 ∨ x = 16 ∨ x = 17) (h01 : x = 16 ∨ x = 17 → (a = 0 ∨ a = 1) ∧ (b = 0 ∨ b = 1)) : Sp Γ (rmk k 0 0) uX3_joined [.int (trS x), .int a, .int b] σ n (qP (doneK x a b) σ n) := by
  rw [← jn_ok hx_q h01]
  rcases hx_q with rfl | rfl | rfl | rfl | rfl | rfl | rfl | rfl
  · exact sp_join_n12 a b
  · exact sp_join_n13 a b
  · exact sp_join_n14 a b
  · exact sp_join_n9 a b
  · exact sp_join_n10 a b
  · exact sp_join_n11 a b
  · exact sp_join_n7 a b
  · exact sp_join_n8 a b
theorem lp_value {Γ : gam} {n k l : Nat} {ro : Nat → Nat} {z0 : sto} {full : List Int32} {who age cl rw mi w RES : Int32} {fb : Bool} (hk : 1 ≤ k) (hw_q : w ≤ 104) (hr2 : ro (l + 2) = 1) (hlen9 : full.length ≤ 900) :
    ∀ (cs : List Int32) (i_q : Nat) (s : List Int32) (ts : List Bool) (T : Nat) (S : row) (σ : sto), σ l = some (cO 3 [.ref (l + 1), .ref (l + 2)]) → σ (l + 1) = some (cI Γ (full.map trS).length (fun j => (full.map trS).getD j 0)) → σ (l + 2) = some (cI Γ 48 S) → frC Γ ro 1 0 z0 σ → stR S s → tyV ts s → s.length = T → T ≤ 40 → kinK w cs ts = some [fb] → (∀ j, j < cs.length → full.getD (i_q + j) 0 = cs.getD j 0) → i_q + cs.length = full.length → ((runK (ask5 mi cl rw who age) cs s).getLast?).getD 0 = RES →
    ∀ x8_q x9_q : Option Value, Go Γ (rmk k 0 0) uX3_value (qI fun v σ' n' => v = RES ∧ (fb = true → v = 0 ∨ v = 1) ∧ n' = n ∧ frC Γ ro 1 0 z0 σ') 0 0 6 [some (.ref l), some (.int who), some (.int age), some (.int cl), some (.int rw), some (.int mi), some (.int (nI T)), some (.int (nI i_q)), x8_q, x9_q] [] σ n := by
  intro cs
  induction cs with
  | nil =>
    intro i_q s ts T S σ hl0 hl1 hl2 hf_q hst hty hT_q hT40 hkin hcode hlen hres x8_q x9_q
    have hcnt : i_q = full.length := by simpa using hlen
    have hml : (full.map trS).length = full.length := List.length_map ..
    have hs1 : ts = [fb] := by simpa [kinK] using hkin
    subst hs1
    obtain ⟨v, s2, rfl, hv01, hty2⟩ := tyV_1 hty
    have hs2 : s2 = [] := List.eq_nil_of_length_eq_zero (by have := tyV_len hty2; simpa using this.symm)
    subst hs2
    have hT1 : T = 1 := by simpa using hT_q.symm
    subst hT1
    have hS0 : S 0 = v := by simpa using hst 0 (by simp)
    have hrv : RES = v := by rw [← hres]; simp [runK]
    refine go_iload (pc := 6) dX3_value_6 rfl ?_
    refine go_aload_n (pc := 8) dX3_value_8 rfl ?_
    refine go_getf (pc := 9) f_X3_13 dX3_value_9 (by repeat (first | assumption | exact sup_eq | refine sup_ne (by omega) ?_)) (by rfl) ?_
    refine go_alen (pc := 12) dX3_value_12 (by repeat (first | assumption | exact sup_eq | refine sup_ne (by omega) ?_)) (t0 := 0) rfl rfl ?_
    rw [hml]
    refine go_icmp_ge (tgt := 200) (pc := 13) dX3_value_13 (by decide) (fun h_13 => ?_) (fun h_13 => by exfalso; exact h_13 (nI_le (by omega) (by omega)))
    refine go_iload (pc := 200) dX3_value_200 rfl ?_
    refine go_if_le (tgt := 217) (pc := 202) dX3_value_202 (by decide) (fun h_202 => by exfalso; exact absurd h_202 (by decide)) (fun h_202 => ?_)
    refine go_aload_n (pc := 205) dX3_value_205 rfl ?_
    refine go_getf (pc := 206) f_X3_9 dX3_value_206 (by repeat (first | assumption | exact sup_eq | refine sup_ne (by omega) ?_)) (by rfl) ?_
    refine go_iload (pc := 209) dX3_value_209 rfl ?_
    refine go_iconst (v := 1) (pc := 211) dX3_value_211 (by decide) ?_
    refine go_isub (pc := 212) dX3_value_212 ?_
    refine go_iald (pc := 213) dX3_value_213 (by repeat (first | assumption | exact sup_eq | refine sup_ne (by omega) ?_)) (by exact ⟨show nI 1 - 1 = nI 0 from rfl, by decide⟩) ?_
    refine go_goto (tgt := 218) (pc := 214) dX3_value_214 (by decide) ?_
    exact go_iretI (pc := 218) rfl dX3_value_218 (Nat.le_of_ble_eq_true rfl) (Nat.le_of_ble_eq_true rfl) ⟨by rw [hS0, hrv], fun hb_q => by rw [hS0]; exact hv01 hb_q, rfl, hf_q⟩
  | cons x cs ih_q =>
    intro i_q s ts T S σ hl0 hl1 hl2 hf_q hst hty hT_q hT40 hkin hcode hlen hres x8_q x9_q
    have hml : (full.map trS).length = full.length := List.length_map ..
    have hil : i_q < full.length := by simp at hlen; omega
    have hc0 : (full.map trS).getD i_q 0 = trS x := by rw [map_at hil]; congr 1; simpa using hcode 0 (by simp)
    have hcode2 : ∀ j, j < cs.length → full.getD (i_q + 1 + j) 0 = cs.getD j 0 := fun j hj_q => by have := hcode (j + 1) (by simp; omega); rw [List.getD_cons_succ] at this; rw [← this]; congr 1; omega
    have hlen2 : i_q + 1 + cs.length = full.length := by simp at hlen; omega
    rcases kin_cons2 hkin with ⟨h1_q, h3_q, h4_q, hkin2⟩ | ⟨rfl, ts1, rfl, hkin2⟩ | ⟨hx_q, ts1, rfl, hkin2⟩ | ⟨hx_q, ts1, rfl, hkin2⟩ | ⟨hx_q, ts1, rfl, hkin2⟩
    · have htl := tyV_len hty
      by_cases h2_q : 1000 ≤ x
      · obtain ⟨q9_q, hq9, e1_q, e2_q⟩ := tr_big h2_q
        rw [e1_q] at hc0
        refine go_iload (pc := 6) dX3_value_6 rfl ?_
        refine go_aload_n (pc := 8) dX3_value_8 rfl ?_
        refine go_getf (pc := 9) f_X3_13 dX3_value_9 (by repeat (first | assumption | exact sup_eq | refine sup_ne (by omega) ?_)) (by rfl) ?_
        refine go_alen (pc := 12) dX3_value_12 (by repeat (first | assumption | exact sup_eq | refine sup_ne (by omega) ?_)) (t0 := 0) rfl rfl ?_
        rw [hml]
        refine go_icmp_ge (tgt := 200) (pc := 13) dX3_value_13 (by decide) (fun h_13 => by exfalso; exact absurd h_13 (nI_ge (by omega) (by omega))) (fun h_13 => ?_)
        refine go_aload_n (pc := 16) dX3_value_16 rfl ?_
        refine go_getf (pc := 17) f_X3_13 dX3_value_17 (by repeat (first | assumption | exact sup_eq | refine sup_ne (by omega) ?_)) (by rfl) ?_
        refine go_iload (pc := 20) dX3_value_20 rfl ?_
        refine go_iald (hN := by omega) (pc := 22) dX3_value_22 (by repeat (first | assumption | exact sup_eq | refine sup_ne (by omega) ?_)) (by exact ⟨rfl, by omega⟩) ?_
        rw [hc0]
        refine go_istore (lw := [_, _, _, _, _, _, _, _, _, _]) (pc := 23) dX3_value_23 (by decide) rfl ?_
        refine go_iload (pc := 25) dX3_value_25 rfl ?_
        refine go_istore (lw := [_, _, _, _, _, _, _, _, _, _]) (pc := 27) dX3_value_27 (by decide) rfl ?_
        refine go_iload (pc := 29) dX3_value_29 rfl ?_
        refine go_bipush (v := -6) (pc := 31) dX3_value_31 (by decide) ?_
        refine go_icmp_ge (tgt := 73) (pc := 33) dX3_value_33 (by decide) (fun h_33 => ?_) (fun h_33 => by exfalso; exact h_33 (m6_le hq9).1)
        refine go_iload (pc := 73) dX3_value_73 rfl ?_
        refine go_bipush (v := -6) (pc := 75) dX3_value_75 (by decide) ?_
        refine go_icmp_ne (tgt := 105) (pc := 77) dX3_value_77 (by decide) (fun h_77 => ?_) (fun h_77 => by exfalso; exact (m6_le hq9).2 h_77)
        refine go_iload (pc := 105) dX3_value_105 rfl ?_
        refine go_if_ge (tgt := 173) (pc := 107) dX3_value_107 (by decide) (fun h_107 => ?_) (fun h_107 => by exfalso; exact h_107 (nI_pos' hq9))
        refine go_iload (pc := 173) dX3_value_173 rfl ?_
        refine go_bipush (v := 48) (pc := 175) dX3_value_175 (by decide) ?_
        refine go_icmp_lt (tgt := 182) (pc := 177) dX3_value_177 (by decide) (fun h_177 => ?_) (fun h_177 => by exfalso; exact h_177 (nI_lt (b := 48) (by omega) (by decide)))
        refine go_aload_n (pc := 182) dX3_value_182 rfl ?_
        refine go_getf (pc := 183) f_X3_9 dX3_value_183 (by repeat (first | assumption | exact sup_eq | refine sup_ne (by omega) ?_)) (by rfl) ?_
        refine go_iload (pc := 186) dX3_value_186 rfl ?_
        refine go_iload (pc := 188) dX3_value_188 rfl ?_
        refine go_iast (pc := 190) dX3_value_190 (by repeat (first | assumption | exact sup_eq | refine sup_ne (by omega) ?_)) (by exact ⟨rfl, by omega⟩) ?_
        refine go_iinc (v := 1) (lw := [_, _, _, _, _, _, _, _, _, _]) (pc := 191) dX3_value_191 rfl (by decide) (by decide) rfl ?_
        refine go_iinc (v := 1) (lw := [_, _, _, _, _, _, _, _, _, _]) (pc := 194) dX3_value_194 rfl (by decide) (by decide) rfl ?_
        refine go_goto (tgt := 6) (pc := 197) dX3_value_197 (by decide) ?_
        rw [nI_1, nI_1]
        exact ih_q (i_q + 1) ((nI q9_q) :: s) (false :: ts) _ (upd S T (nI q9_q)) _ (by repeat (first | assumption | refine sup_ne (by omega) ?_)) (by repeat (first | assumption | refine sup_ne (by omega) ?_)) sup_eq (hf_q.st hr2) (by rw [← hT_q]; exact stR_push hst) ⟨fun hc_q => absurd hc_q (by decide), hty⟩ (by first | rfl | (simp; omega)) (by omega) hkin2 hcode2 hlen2 (by rw [← hres]; rw [runK, sk_push h1_q, if_pos h2_q, e2_q]) _ _
      · rcases w_five h1_q (h3_q.resolve_left h2_q) hw_q with rfl | rfl | rfl | rfl | rfl
        · refine go_iload (pc := 6) dX3_value_6 rfl ?_
          refine go_aload_n (pc := 8) dX3_value_8 rfl ?_
          refine go_getf (pc := 9) f_X3_13 dX3_value_9 (by repeat (first | assumption | exact sup_eq | refine sup_ne (by omega) ?_)) (by rfl) ?_
          refine go_alen (pc := 12) dX3_value_12 (by repeat (first | assumption | exact sup_eq | refine sup_ne (by omega) ?_)) (t0 := 0) rfl rfl ?_
          rw [hml]
          refine go_icmp_ge (tgt := 200) (pc := 13) dX3_value_13 (by decide) (fun h_13 => by exfalso; exact absurd h_13 (nI_ge (by omega) (by omega))) (fun h_13 => ?_)
          refine go_aload_n (pc := 16) dX3_value_16 rfl ?_
          refine go_getf (pc := 17) f_X3_13 dX3_value_17 (by repeat (first | assumption | exact sup_eq | refine sup_ne (by omega) ?_)) (by rfl) ?_
          refine go_iload (pc := 20) dX3_value_20 rfl ?_
          refine go_iald (hN := by omega) (pc := 22) dX3_value_22 (by repeat (first | assumption | exact sup_eq | refine sup_ne (by omega) ?_)) (by exact ⟨rfl, by omega⟩) ?_
          rw [hc0, show trS 100 = -5 from by decide]
          refine go_istore (lw := [_, _, _, _, _, _, _, _, _, _]) (pc := 23) dX3_value_23 (by decide) rfl ?_
          refine go_iload (pc := 25) dX3_value_25 rfl ?_
          refine go_istore (lw := [_, _, _, _, _, _, _, _, _, _]) (pc := 27) dX3_value_27 (by decide) rfl ?_
          refine go_iload (pc := 29) dX3_value_29 rfl ?_
          refine go_bipush (v := -6) (pc := 31) dX3_value_31 (by decide) ?_
          refine go_icmp_ge (tgt := 73) (pc := 33) dX3_value_33 (by decide) (fun h_33 => ?_) (fun h_33 => by exfalso; exact h_33 (by decide))
          refine go_iload (pc := 73) dX3_value_73 rfl ?_
          refine go_bipush (v := -6) (pc := 75) dX3_value_75 (by decide) ?_
          refine go_icmp_ne (tgt := 105) (pc := 77) dX3_value_77 (by decide) (fun h_77 => ?_) (fun h_77 => by exfalso; exact absurd h_77 (by decide))
          refine go_iload (pc := 105) dX3_value_105 rfl ?_
          refine go_if_ge (tgt := 173) (pc := 107) dX3_value_107 (by decide) (fun h_107 => by exfalso; exact absurd h_107 (by decide)) (fun h_107 => ?_)
          refine go_iload (pc := 110) dX3_value_110 rfl ?_
          refine go_tableOut (tgt := 169) (pc := 112) dX3_value_112 (by decide) (by decide) ?_
          refine go_iload (pc := 169) dX3_value_169 rfl ?_
          refine go_istore (lw := [_, _, _, _, _, _, _, _, _, _]) (pc := 171) dX3_value_171 (by decide) rfl ?_
          refine go_iload (pc := 173) dX3_value_173 rfl ?_
          refine go_bipush (v := 48) (pc := 175) dX3_value_175 (by decide) ?_
          refine go_icmp_lt (tgt := 182) (pc := 177) dX3_value_177 (by decide) (fun h_177 => ?_) (fun h_177 => by exfalso; exact h_177 (nI_lt (b := 48) (by omega) (by decide)))
          refine go_aload_n (pc := 182) dX3_value_182 rfl ?_
          refine go_getf (pc := 183) f_X3_9 dX3_value_183 (by repeat (first | assumption | exact sup_eq | refine sup_ne (by omega) ?_)) (by rfl) ?_
          refine go_iload (pc := 186) dX3_value_186 rfl ?_
          refine go_iload (pc := 188) dX3_value_188 rfl ?_
          refine go_iast (pc := 190) dX3_value_190 (by repeat (first | assumption | exact sup_eq | refine sup_ne (by omega) ?_)) (by exact ⟨rfl, by omega⟩) ?_
          refine go_iinc (v := 1) (lw := [_, _, _, _, _, _, _, _, _, _]) (pc := 191) dX3_value_191 rfl (by decide) (by decide) rfl ?_
          refine go_iinc (v := 1) (lw := [_, _, _, _, _, _, _, _, _, _]) (pc := 194) dX3_value_194 rfl (by decide) (by decide) rfl ?_
          refine go_goto (tgt := 6) (pc := 197) dX3_value_197 (by decide) ?_
          rw [nI_1, nI_1]
          exact ih_q (i_q + 1) ((mi) :: s) (false :: ts) _ (upd S T (mi)) _ (by repeat (first | assumption | refine sup_ne (by omega) ?_)) (by repeat (first | assumption | refine sup_ne (by omega) ?_)) sup_eq (hf_q.st hr2) (by rw [← hT_q]; exact stR_push hst) ⟨fun hc_q => absurd hc_q (by decide), hty⟩ (by first | rfl | (simp; omega)) (by omega) hkin2 hcode2 hlen2 (by rw [← hres]; rfl) _ _
        · refine go_iload (pc := 6) dX3_value_6 rfl ?_
          refine go_aload_n (pc := 8) dX3_value_8 rfl ?_
          refine go_getf (pc := 9) f_X3_13 dX3_value_9 (by repeat (first | assumption | exact sup_eq | refine sup_ne (by omega) ?_)) (by rfl) ?_
          refine go_alen (pc := 12) dX3_value_12 (by repeat (first | assumption | exact sup_eq | refine sup_ne (by omega) ?_)) (t0 := 0) rfl rfl ?_
          rw [hml]
          refine go_icmp_ge (tgt := 200) (pc := 13) dX3_value_13 (by decide) (fun h_13 => by exfalso; exact absurd h_13 (nI_ge (by omega) (by omega))) (fun h_13 => ?_)
          refine go_aload_n (pc := 16) dX3_value_16 rfl ?_
          refine go_getf (pc := 17) f_X3_13 dX3_value_17 (by repeat (first | assumption | exact sup_eq | refine sup_ne (by omega) ?_)) (by rfl) ?_
          refine go_iload (pc := 20) dX3_value_20 rfl ?_
          refine go_iald (hN := by omega) (pc := 22) dX3_value_22 (by repeat (first | assumption | exact sup_eq | refine sup_ne (by omega) ?_)) (by exact ⟨rfl, by omega⟩) ?_
          rw [hc0, show trS 101 = -3 from by decide]
          refine go_istore (lw := [_, _, _, _, _, _, _, _, _, _]) (pc := 23) dX3_value_23 (by decide) rfl ?_
          refine go_iload (pc := 25) dX3_value_25 rfl ?_
          refine go_istore (lw := [_, _, _, _, _, _, _, _, _, _]) (pc := 27) dX3_value_27 (by decide) rfl ?_
          refine go_iload (pc := 29) dX3_value_29 rfl ?_
          refine go_bipush (v := -6) (pc := 31) dX3_value_31 (by decide) ?_
          refine go_icmp_ge (tgt := 73) (pc := 33) dX3_value_33 (by decide) (fun h_33 => ?_) (fun h_33 => by exfalso; exact h_33 (by decide))
          refine go_iload (pc := 73) dX3_value_73 rfl ?_
          refine go_bipush (v := -6) (pc := 75) dX3_value_75 (by decide) ?_
          refine go_icmp_ne (tgt := 105) (pc := 77) dX3_value_77 (by decide) (fun h_77 => ?_) (fun h_77 => by exfalso; exact absurd h_77 (by decide))
          refine go_iload (pc := 105) dX3_value_105 rfl ?_
          refine go_if_ge (tgt := 173) (pc := 107) dX3_value_107 (by decide) (fun h_107 => by exfalso; exact absurd h_107 (by decide)) (fun h_107 => ?_)
          refine go_iload (pc := 110) dX3_value_110 rfl ?_
          refine go_tableIn (off := 44) (tgt := 156) (pc := 112) dX3_value_112 (by decide) (by decide) rfl (by decide) ?_
          refine go_iload_n (pc := 156) dX3_value_156 rfl ?_
          refine go_istore (lw := [_, _, _, _, _, _, _, _, _, _]) (pc := 157) dX3_value_157 (by decide) rfl ?_
          refine go_goto (tgt := 173) (pc := 159) dX3_value_159 (by decide) ?_
          refine go_iload (pc := 173) dX3_value_173 rfl ?_
          refine go_bipush (v := 48) (pc := 175) dX3_value_175 (by decide) ?_
          refine go_icmp_lt (tgt := 182) (pc := 177) dX3_value_177 (by decide) (fun h_177 => ?_) (fun h_177 => by exfalso; exact h_177 (nI_lt (b := 48) (by omega) (by decide)))
          refine go_aload_n (pc := 182) dX3_value_182 rfl ?_
          refine go_getf (pc := 183) f_X3_9 dX3_value_183 (by repeat (first | assumption | exact sup_eq | refine sup_ne (by omega) ?_)) (by rfl) ?_
          refine go_iload (pc := 186) dX3_value_186 rfl ?_
          refine go_iload (pc := 188) dX3_value_188 rfl ?_
          refine go_iast (pc := 190) dX3_value_190 (by repeat (first | assumption | exact sup_eq | refine sup_ne (by omega) ?_)) (by exact ⟨rfl, by omega⟩) ?_
          refine go_iinc (v := 1) (lw := [_, _, _, _, _, _, _, _, _, _]) (pc := 191) dX3_value_191 rfl (by decide) (by decide) rfl ?_
          refine go_iinc (v := 1) (lw := [_, _, _, _, _, _, _, _, _, _]) (pc := 194) dX3_value_194 rfl (by decide) (by decide) rfl ?_
          refine go_goto (tgt := 6) (pc := 197) dX3_value_197 (by decide) ?_
          rw [nI_1, nI_1]
          exact ih_q (i_q + 1) ((cl) :: s) (false :: ts) _ (upd S T (cl)) _ (by repeat (first | assumption | refine sup_ne (by omega) ?_)) (by repeat (first | assumption | refine sup_ne (by omega) ?_)) sup_eq (hf_q.st hr2) (by rw [← hT_q]; exact stR_push hst) ⟨fun hc_q => absurd hc_q (by decide), hty⟩ (by first | rfl | (simp; omega)) (by omega) hkin2 hcode2 hlen2 (by rw [← hres]; rfl) _ _
        · refine go_iload (pc := 6) dX3_value_6 rfl ?_
          refine go_aload_n (pc := 8) dX3_value_8 rfl ?_
          refine go_getf (pc := 9) f_X3_13 dX3_value_9 (by repeat (first | assumption | exact sup_eq | refine sup_ne (by omega) ?_)) (by rfl) ?_
          refine go_alen (pc := 12) dX3_value_12 (by repeat (first | assumption | exact sup_eq | refine sup_ne (by omega) ?_)) (t0 := 0) rfl rfl ?_
          rw [hml]
          refine go_icmp_ge (tgt := 200) (pc := 13) dX3_value_13 (by decide) (fun h_13 => by exfalso; exact absurd h_13 (nI_ge (by omega) (by omega))) (fun h_13 => ?_)
          refine go_aload_n (pc := 16) dX3_value_16 rfl ?_
          refine go_getf (pc := 17) f_X3_13 dX3_value_17 (by repeat (first | assumption | exact sup_eq | refine sup_ne (by omega) ?_)) (by rfl) ?_
          refine go_iload (pc := 20) dX3_value_20 rfl ?_
          refine go_iald (hN := by omega) (pc := 22) dX3_value_22 (by repeat (first | assumption | exact sup_eq | refine sup_ne (by omega) ?_)) (by exact ⟨rfl, by omega⟩) ?_
          rw [hc0, show trS 102 = -4 from by decide]
          refine go_istore (lw := [_, _, _, _, _, _, _, _, _, _]) (pc := 23) dX3_value_23 (by decide) rfl ?_
          refine go_iload (pc := 25) dX3_value_25 rfl ?_
          refine go_istore (lw := [_, _, _, _, _, _, _, _, _, _]) (pc := 27) dX3_value_27 (by decide) rfl ?_
          refine go_iload (pc := 29) dX3_value_29 rfl ?_
          refine go_bipush (v := -6) (pc := 31) dX3_value_31 (by decide) ?_
          refine go_icmp_ge (tgt := 73) (pc := 33) dX3_value_33 (by decide) (fun h_33 => ?_) (fun h_33 => by exfalso; exact h_33 (by decide))
          refine go_iload (pc := 73) dX3_value_73 rfl ?_
          refine go_bipush (v := -6) (pc := 75) dX3_value_75 (by decide) ?_
          refine go_icmp_ne (tgt := 105) (pc := 77) dX3_value_77 (by decide) (fun h_77 => ?_) (fun h_77 => by exfalso; exact absurd h_77 (by decide))
          refine go_iload (pc := 105) dX3_value_105 rfl ?_
          refine go_if_ge (tgt := 173) (pc := 107) dX3_value_107 (by decide) (fun h_107 => by exfalso; exact absurd h_107 (by decide)) (fun h_107 => ?_)
          refine go_iload (pc := 110) dX3_value_110 rfl ?_
          refine go_tableIn (off := 50) (tgt := 162) (pc := 112) dX3_value_112 (by decide) (by decide) rfl (by decide) ?_
          refine go_iload (pc := 162) dX3_value_162 rfl ?_
          refine go_istore (lw := [_, _, _, _, _, _, _, _, _, _]) (pc := 164) dX3_value_164 (by decide) rfl ?_
          refine go_goto (tgt := 173) (pc := 166) dX3_value_166 (by decide) ?_
          refine go_iload (pc := 173) dX3_value_173 rfl ?_
          refine go_bipush (v := 48) (pc := 175) dX3_value_175 (by decide) ?_
          refine go_icmp_lt (tgt := 182) (pc := 177) dX3_value_177 (by decide) (fun h_177 => ?_) (fun h_177 => by exfalso; exact h_177 (nI_lt (b := 48) (by omega) (by decide)))
          refine go_aload_n (pc := 182) dX3_value_182 rfl ?_
          refine go_getf (pc := 183) f_X3_9 dX3_value_183 (by repeat (first | assumption | exact sup_eq | refine sup_ne (by omega) ?_)) (by rfl) ?_
          refine go_iload (pc := 186) dX3_value_186 rfl ?_
          refine go_iload (pc := 188) dX3_value_188 rfl ?_
          refine go_iast (pc := 190) dX3_value_190 (by repeat (first | assumption | exact sup_eq | refine sup_ne (by omega) ?_)) (by exact ⟨rfl, by omega⟩) ?_
          refine go_iinc (v := 1) (lw := [_, _, _, _, _, _, _, _, _, _]) (pc := 191) dX3_value_191 rfl (by decide) (by decide) rfl ?_
          refine go_iinc (v := 1) (lw := [_, _, _, _, _, _, _, _, _, _]) (pc := 194) dX3_value_194 rfl (by decide) (by decide) rfl ?_
          refine go_goto (tgt := 6) (pc := 197) dX3_value_197 (by decide) ?_
          rw [nI_1, nI_1]
          exact ih_q (i_q + 1) ((rw) :: s) (false :: ts) _ (upd S T (rw)) _ (by repeat (first | assumption | refine sup_ne (by omega) ?_)) (by repeat (first | assumption | refine sup_ne (by omega) ?_)) sup_eq (hf_q.st hr2) (by rw [← hT_q]; exact stR_push hst) ⟨fun hc_q => absurd hc_q (by decide), hty⟩ (by first | rfl | (simp; omega)) (by omega) hkin2 hcode2 hlen2 (by rw [← hres]; rfl) _ _
        · refine go_iload (pc := 6) dX3_value_6 rfl ?_
          refine go_aload_n (pc := 8) dX3_value_8 rfl ?_
          refine go_getf (pc := 9) f_X3_13 dX3_value_9 (by repeat (first | assumption | exact sup_eq | refine sup_ne (by omega) ?_)) (by rfl) ?_
          refine go_alen (pc := 12) dX3_value_12 (by repeat (first | assumption | exact sup_eq | refine sup_ne (by omega) ?_)) (t0 := 0) rfl rfl ?_
          rw [hml]
          refine go_icmp_ge (tgt := 200) (pc := 13) dX3_value_13 (by decide) (fun h_13 => by exfalso; exact absurd h_13 (nI_ge (by omega) (by omega))) (fun h_13 => ?_)
          refine go_aload_n (pc := 16) dX3_value_16 rfl ?_
          refine go_getf (pc := 17) f_X3_13 dX3_value_17 (by repeat (first | assumption | exact sup_eq | refine sup_ne (by omega) ?_)) (by rfl) ?_
          refine go_iload (pc := 20) dX3_value_20 rfl ?_
          refine go_iald (hN := by omega) (pc := 22) dX3_value_22 (by repeat (first | assumption | exact sup_eq | refine sup_ne (by omega) ?_)) (by exact ⟨rfl, by omega⟩) ?_
          rw [hc0, show trS 103 = -1 from by decide]
          refine go_istore (lw := [_, _, _, _, _, _, _, _, _, _]) (pc := 23) dX3_value_23 (by decide) rfl ?_
          refine go_iload (pc := 25) dX3_value_25 rfl ?_
          refine go_istore (lw := [_, _, _, _, _, _, _, _, _, _]) (pc := 27) dX3_value_27 (by decide) rfl ?_
          refine go_iload (pc := 29) dX3_value_29 rfl ?_
          refine go_bipush (v := -6) (pc := 31) dX3_value_31 (by decide) ?_
          refine go_icmp_ge (tgt := 73) (pc := 33) dX3_value_33 (by decide) (fun h_33 => ?_) (fun h_33 => by exfalso; exact h_33 (by decide))
          refine go_iload (pc := 73) dX3_value_73 rfl ?_
          refine go_bipush (v := -6) (pc := 75) dX3_value_75 (by decide) ?_
          refine go_icmp_ne (tgt := 105) (pc := 77) dX3_value_77 (by decide) (fun h_77 => ?_) (fun h_77 => by exfalso; exact absurd h_77 (by decide))
          refine go_iload (pc := 105) dX3_value_105 rfl ?_
          refine go_if_ge (tgt := 173) (pc := 107) dX3_value_107 (by decide) (fun h_107 => by exfalso; exact absurd h_107 (by decide)) (fun h_107 => ?_)
          refine go_iload (pc := 110) dX3_value_110 rfl ?_
          refine go_tableIn (off := 32) (tgt := 144) (pc := 112) dX3_value_112 (by decide) (by decide) rfl (by decide) ?_
          refine go_iload_n (pc := 144) dX3_value_144 rfl ?_
          refine go_istore (lw := [_, _, _, _, _, _, _, _, _, _]) (pc := 145) dX3_value_145 (by decide) rfl ?_
          refine go_goto (tgt := 173) (pc := 147) dX3_value_147 (by decide) ?_
          refine go_iload (pc := 173) dX3_value_173 rfl ?_
          refine go_bipush (v := 48) (pc := 175) dX3_value_175 (by decide) ?_
          refine go_icmp_lt (tgt := 182) (pc := 177) dX3_value_177 (by decide) (fun h_177 => ?_) (fun h_177 => by exfalso; exact h_177 (nI_lt (b := 48) (by omega) (by decide)))
          refine go_aload_n (pc := 182) dX3_value_182 rfl ?_
          refine go_getf (pc := 183) f_X3_9 dX3_value_183 (by repeat (first | assumption | exact sup_eq | refine sup_ne (by omega) ?_)) (by rfl) ?_
          refine go_iload (pc := 186) dX3_value_186 rfl ?_
          refine go_iload (pc := 188) dX3_value_188 rfl ?_
          refine go_iast (pc := 190) dX3_value_190 (by repeat (first | assumption | exact sup_eq | refine sup_ne (by omega) ?_)) (by exact ⟨rfl, by omega⟩) ?_
          refine go_iinc (v := 1) (lw := [_, _, _, _, _, _, _, _, _, _]) (pc := 191) dX3_value_191 rfl (by decide) (by decide) rfl ?_
          refine go_iinc (v := 1) (lw := [_, _, _, _, _, _, _, _, _, _]) (pc := 194) dX3_value_194 rfl (by decide) (by decide) rfl ?_
          refine go_goto (tgt := 6) (pc := 197) dX3_value_197 (by decide) ?_
          rw [nI_1, nI_1]
          exact ih_q (i_q + 1) ((who) :: s) (false :: ts) _ (upd S T (who)) _ (by repeat (first | assumption | refine sup_ne (by omega) ?_)) (by repeat (first | assumption | refine sup_ne (by omega) ?_)) sup_eq (hf_q.st hr2) (by rw [← hT_q]; exact stR_push hst) ⟨fun hc_q => absurd hc_q (by decide), hty⟩ (by first | rfl | (simp; omega)) (by omega) hkin2 hcode2 hlen2 (by rw [← hres]; rfl) _ _
        · refine go_iload (pc := 6) dX3_value_6 rfl ?_
          refine go_aload_n (pc := 8) dX3_value_8 rfl ?_
          refine go_getf (pc := 9) f_X3_13 dX3_value_9 (by repeat (first | assumption | exact sup_eq | refine sup_ne (by omega) ?_)) (by rfl) ?_
          refine go_alen (pc := 12) dX3_value_12 (by repeat (first | assumption | exact sup_eq | refine sup_ne (by omega) ?_)) (t0 := 0) rfl rfl ?_
          rw [hml]
          refine go_icmp_ge (tgt := 200) (pc := 13) dX3_value_13 (by decide) (fun h_13 => by exfalso; exact absurd h_13 (nI_ge (by omega) (by omega))) (fun h_13 => ?_)
          refine go_aload_n (pc := 16) dX3_value_16 rfl ?_
          refine go_getf (pc := 17) f_X3_13 dX3_value_17 (by repeat (first | assumption | exact sup_eq | refine sup_ne (by omega) ?_)) (by rfl) ?_
          refine go_iload (pc := 20) dX3_value_20 rfl ?_
          refine go_iald (hN := by omega) (pc := 22) dX3_value_22 (by repeat (first | assumption | exact sup_eq | refine sup_ne (by omega) ?_)) (by exact ⟨rfl, by omega⟩) ?_
          rw [hc0, show trS 104 = -2 from by decide]
          refine go_istore (lw := [_, _, _, _, _, _, _, _, _, _]) (pc := 23) dX3_value_23 (by decide) rfl ?_
          refine go_iload (pc := 25) dX3_value_25 rfl ?_
          refine go_istore (lw := [_, _, _, _, _, _, _, _, _, _]) (pc := 27) dX3_value_27 (by decide) rfl ?_
          refine go_iload (pc := 29) dX3_value_29 rfl ?_
          refine go_bipush (v := -6) (pc := 31) dX3_value_31 (by decide) ?_
          refine go_icmp_ge (tgt := 73) (pc := 33) dX3_value_33 (by decide) (fun h_33 => ?_) (fun h_33 => by exfalso; exact h_33 (by decide))
          refine go_iload (pc := 73) dX3_value_73 rfl ?_
          refine go_bipush (v := -6) (pc := 75) dX3_value_75 (by decide) ?_
          refine go_icmp_ne (tgt := 105) (pc := 77) dX3_value_77 (by decide) (fun h_77 => ?_) (fun h_77 => by exfalso; exact absurd h_77 (by decide))
          refine go_iload (pc := 105) dX3_value_105 rfl ?_
          refine go_if_ge (tgt := 173) (pc := 107) dX3_value_107 (by decide) (fun h_107 => by exfalso; exact absurd h_107 (by decide)) (fun h_107 => ?_)
          refine go_iload (pc := 110) dX3_value_110 rfl ?_
          refine go_tableIn (off := 38) (tgt := 150) (pc := 112) dX3_value_112 (by decide) (by decide) rfl (by decide) ?_
          refine go_iload_n (pc := 150) dX3_value_150 rfl ?_
          refine go_istore (lw := [_, _, _, _, _, _, _, _, _, _]) (pc := 151) dX3_value_151 (by decide) rfl ?_
          refine go_goto (tgt := 173) (pc := 153) dX3_value_153 (by decide) ?_
          refine go_iload (pc := 173) dX3_value_173 rfl ?_
          refine go_bipush (v := 48) (pc := 175) dX3_value_175 (by decide) ?_
          refine go_icmp_lt (tgt := 182) (pc := 177) dX3_value_177 (by decide) (fun h_177 => ?_) (fun h_177 => by exfalso; exact h_177 (nI_lt (b := 48) (by omega) (by decide)))
          refine go_aload_n (pc := 182) dX3_value_182 rfl ?_
          refine go_getf (pc := 183) f_X3_9 dX3_value_183 (by repeat (first | assumption | exact sup_eq | refine sup_ne (by omega) ?_)) (by rfl) ?_
          refine go_iload (pc := 186) dX3_value_186 rfl ?_
          refine go_iload (pc := 188) dX3_value_188 rfl ?_
          refine go_iast (pc := 190) dX3_value_190 (by repeat (first | assumption | exact sup_eq | refine sup_ne (by omega) ?_)) (by exact ⟨rfl, by omega⟩) ?_
          refine go_iinc (v := 1) (lw := [_, _, _, _, _, _, _, _, _, _]) (pc := 191) dX3_value_191 rfl (by decide) (by decide) rfl ?_
          refine go_iinc (v := 1) (lw := [_, _, _, _, _, _, _, _, _, _]) (pc := 194) dX3_value_194 rfl (by decide) (by decide) rfl ?_
          refine go_goto (tgt := 6) (pc := 197) dX3_value_197 (by decide) ?_
          rw [nI_1, nI_1]
          exact ih_q (i_q + 1) ((age) :: s) (false :: ts) _ (upd S T (age)) _ (by repeat (first | assumption | refine sup_ne (by omega) ?_)) (by repeat (first | assumption | refine sup_ne (by omega) ?_)) sup_eq (hf_q.st hr2) (by rw [← hT_q]; exact stR_push hst) ⟨fun hc_q => absurd hc_q (by decide), hty⟩ (by first | rfl | (simp; omega)) (by omega) hkin2 hcode2 hlen2 (by rw [← hres]; rfl) _ _
    · obtain ⟨y9, s9, rfl, h01, hty9⟩ := tyV_1 hty
      obtain ⟨hs9, hst9⟩ := stR_one hst
      obtain rfl : T = s9.length + 1 := by simpa using hT_q.symm
      refine go_iload (pc := 6) dX3_value_6 rfl ?_
      refine go_aload_n (pc := 8) dX3_value_8 rfl ?_
      refine go_getf (pc := 9) f_X3_13 dX3_value_9 (by repeat (first | assumption | exact sup_eq | refine sup_ne (by omega) ?_)) (by rfl) ?_
      refine go_alen (pc := 12) dX3_value_12 (by repeat (first | assumption | exact sup_eq | refine sup_ne (by omega) ?_)) (t0 := 0) rfl rfl ?_
      rw [hml]
      refine go_icmp_ge (tgt := 200) (pc := 13) dX3_value_13 (by decide) (fun h_13 => by exfalso; exact absurd h_13 (nI_ge (by omega) (by omega))) (fun h_13 => ?_)
      refine go_aload_n (pc := 16) dX3_value_16 rfl ?_
      refine go_getf (pc := 17) f_X3_13 dX3_value_17 (by repeat (first | assumption | exact sup_eq | refine sup_ne (by omega) ?_)) (by rfl) ?_
      refine go_iload (pc := 20) dX3_value_20 rfl ?_
      refine go_iald (hN := by omega) (pc := 22) dX3_value_22 (by repeat (first | assumption | exact sup_eq | refine sup_ne (by omega) ?_)) (by exact ⟨rfl, by omega⟩) ?_
      rw [hc0, show trS 18 = -6 from by decide]
      refine go_istore (lw := [_, _, _, _, _, _, _, _, _, _]) (pc := 23) dX3_value_23 (by decide) rfl ?_
      refine go_iload (pc := 25) dX3_value_25 rfl ?_
      refine go_istore (lw := [_, _, _, _, _, _, _, _, _, _]) (pc := 27) dX3_value_27 (by decide) rfl ?_
      refine go_iload (pc := 29) dX3_value_29 rfl ?_
      refine go_bipush (v := -6) (pc := 31) dX3_value_31 (by decide) ?_
      refine go_icmp_ge (tgt := 73) (pc := 33) dX3_value_33 (by decide) (fun h_33 => ?_) (fun h_33 => by exfalso; exact h_33 (by decide))
      refine go_iload (pc := 73) dX3_value_73 rfl ?_
      refine go_bipush (v := -6) (pc := 75) dX3_value_75 (by decide) ?_
      refine go_icmp_ne (tgt := 105) (pc := 77) dX3_value_77 (by decide) (fun h_77 => by exfalso; exact h_77 (by decide)) (fun h_77 => ?_)
      refine go_iload (pc := 80) dX3_value_80 rfl ?_
      refine go_iconst (v := 1) (pc := 82) dX3_value_82 (by decide) ?_
      refine go_icmp_ge (tgt := 88) (pc := 83) dX3_value_83 (by decide) (fun h_83 => ?_) (fun h_83 => by exfalso; exact h_83 (nI_le (a := 1) (by omega) (by omega)))
      refine go_iinc (v := -1) (lw := [_, _, _, _, _, _, _, _, _, _]) (pc := 88) dX3_value_88 rfl (by decide) (by decide) rfl ?_
      rw [pk_m1]
      refine go_iconst (v := 1) (pc := 91) dX3_value_91 (by decide) ?_
      refine go_aload_n (pc := 92) dX3_value_92 rfl ?_
      refine go_getf (pc := 93) f_X3_9 dX3_value_93 (by repeat (first | assumption | exact sup_eq | refine sup_ne (by omega) ?_)) (by rfl) ?_
      refine go_iload (pc := 96) dX3_value_96 rfl ?_
      refine go_iald (pc := 98) dX3_value_98 (by repeat (first | assumption | exact sup_eq | refine sup_ne (by omega) ?_)) (by exact ⟨rfl, by omega⟩) ?_
      rw [hs9]
      refine go_isub (pc := 99) dX3_value_99 ?_
      refine go_istore (lw := [_, _, _, _, _, _, _, _, _, _]) (pc := 100) dX3_value_100 (by decide) rfl ?_
      refine go_goto (tgt := 173) (pc := 102) dX3_value_102 (by decide) ?_
      refine go_iload (pc := 173) dX3_value_173 rfl ?_
      refine go_bipush (v := 48) (pc := 175) dX3_value_175 (by decide) ?_
      refine go_icmp_lt (tgt := 182) (pc := 177) dX3_value_177 (by decide) (fun h_177 => ?_) (fun h_177 => by exfalso; exact h_177 (nI_lt (b := 48) (by omega) (by decide)))
      refine go_aload_n (pc := 182) dX3_value_182 rfl ?_
      refine go_getf (pc := 183) f_X3_9 dX3_value_183 (by repeat (first | assumption | exact sup_eq | refine sup_ne (by omega) ?_)) (by rfl) ?_
      refine go_iload (pc := 186) dX3_value_186 rfl ?_
      refine go_iload (pc := 188) dX3_value_188 rfl ?_
      refine go_iast (pc := 190) dX3_value_190 (by repeat (first | assumption | exact sup_eq | refine sup_ne (by omega) ?_)) (by exact ⟨rfl, by omega⟩) ?_
      refine go_iinc (v := 1) (lw := [_, _, _, _, _, _, _, _, _, _]) (pc := 191) dX3_value_191 rfl (by decide) (by decide) rfl ?_
      refine go_iinc (v := 1) (lw := [_, _, _, _, _, _, _, _, _, _]) (pc := 194) dX3_value_194 rfl (by decide) (by decide) rfl ?_
      refine go_goto (tgt := 6) (pc := 197) dX3_value_197 (by decide) ?_
      rw [nI_1, nI_1]
      exact ih_q (i_q + 1) ((1 - y9) :: s9) (true :: ts1) _ (upd S s9.length (1 - y9)) _ (by repeat (first | assumption | refine sup_ne (by omega) ?_)) (by repeat (first | assumption | refine sup_ne (by omega) ?_)) sup_eq (hf_q.st hr2) (by exact stR_push hst9) ⟨fun _ => by rcases h01 rfl with rfl | rfl <;> decide, hty9⟩ (by first | rfl | (simp; omega)) (by omega) hkin2 hcode2 hlen2 (by rw [← hres]; rw [runK, sk_not]) _ _
    · obtain ⟨y9, s9, rfl, h01, hty9⟩ := tyV_1 hty
      obtain ⟨y8, s8, rfl, h02, hty8⟩ := tyV_1 hty9
      obtain ⟨hs9, hst9⟩ := stR_one hst
      obtain ⟨hs8, hst8⟩ := stR_one hst9
      obtain rfl : T = s8.length + 2 := by simpa using hT_q.symm
      have hxx : x = 10 ∨ x = 11 ∨ x = 12 ∨ x = 13 ∨ x = 14 ∨ x = 15 ∨ x = 16 ∨ x = 17 := by rcases hx_q with h_q | h_q | h_q <;> simp [h_q]
      rw [List.length_cons] at hs9
      refine go_iload (pc := 6) dX3_value_6 rfl ?_
      refine go_aload_n (pc := 8) dX3_value_8 rfl ?_
      refine go_getf (pc := 9) f_X3_13 dX3_value_9 (by repeat (first | assumption | exact sup_eq | refine sup_ne (by omega) ?_)) (by rfl) ?_
      refine go_alen (pc := 12) dX3_value_12 (by repeat (first | assumption | exact sup_eq | refine sup_ne (by omega) ?_)) (t0 := 0) rfl rfl ?_
      rw [hml]
      refine go_icmp_ge (tgt := 200) (pc := 13) dX3_value_13 (by decide) (fun h_13 => by exfalso; exact absurd h_13 (nI_ge (by omega) (by omega))) (fun h_13 => ?_)
      refine go_aload_n (pc := 16) dX3_value_16 rfl ?_
      refine go_getf (pc := 17) f_X3_13 dX3_value_17 (by repeat (first | assumption | exact sup_eq | refine sup_ne (by omega) ?_)) (by rfl) ?_
      refine go_iload (pc := 20) dX3_value_20 rfl ?_
      refine go_iald (hN := by omega) (pc := 22) dX3_value_22 (by repeat (first | assumption | exact sup_eq | refine sup_ne (by omega) ?_)) (by exact ⟨rfl, by omega⟩) ?_
      rw [hc0]
      refine go_istore (lw := [_, _, _, _, _, _, _, _, _, _]) (pc := 23) dX3_value_23 (by decide) rfl ?_
      refine go_iload (pc := 25) dX3_value_25 rfl ?_
      refine go_istore (lw := [_, _, _, _, _, _, _, _, _, _]) (pc := 27) dX3_value_27 (by decide) rfl ?_
      refine go_iload (pc := 29) dX3_value_29 rfl ?_
      refine go_bipush (v := -6) (pc := 31) dX3_value_31 (by decide) ?_
      refine go_icmp_ge (tgt := 73) (pc := 33) dX3_value_33 (by decide) (fun h_33 => by exfalso; exact absurd h_33 (tr_neg hxx)) (fun h_33 => ?_)
      refine go_iload (pc := 36) dX3_value_36 rfl ?_
      refine go_iconst (v := 2) (pc := 38) dX3_value_38 (by decide) ?_
      refine go_icmp_ge (tgt := 44) (pc := 39) dX3_value_39 (by decide) (fun h_39 => ?_) (fun h_39 => by exfalso; exact h_39 (nI_le (a := 2) (by omega) (by omega)))
      refine go_iinc (v := -2) (lw := [_, _, _, _, _, _, _, _, _, _]) (pc := 44) dX3_value_44 rfl (by decide) (by decide) rfl ?_
      rw [m2_nI]
      refine go_iload (pc := 47) dX3_value_47 rfl ?_
      refine go_aload_n (pc := 49) dX3_value_49 rfl ?_
      refine go_getf (pc := 50) f_X3_9 dX3_value_50 (by repeat (first | assumption | exact sup_eq | refine sup_ne (by omega) ?_)) (by rfl) ?_
      refine go_iload (pc := 53) dX3_value_53 rfl ?_
      refine go_iald (pc := 55) dX3_value_55 (by repeat (first | assumption | exact sup_eq | refine sup_ne (by omega) ?_)) (by exact ⟨rfl, by omega⟩) ?_
      refine go_aload_n (pc := 56) dX3_value_56 rfl ?_
      refine go_getf (pc := 57) f_X3_9 dX3_value_57 (by repeat (first | assumption | exact sup_eq | refine sup_ne (by omega) ?_)) (by rfl) ?_
      refine go_iload (pc := 60) dX3_value_60 rfl ?_
      refine go_iconst (v := 1) (pc := 62) dX3_value_62 (by decide) ?_
      refine go_iadd (pc := 63) dX3_value_63 ?_
      refine go_iald (pc := 64) dX3_value_64 (by repeat (first | assumption | exact sup_eq | refine sup_ne (by omega) ?_)) (by exact ⟨nI_1 _, by omega⟩) ?_
      rw [hs8, hs9]
      refine go_S3P (pc := 65) s_X3_16 rfl rfl dX3_value_65 (sp_joined (k := k - 1) hxx (fun hc_q => by rcases hx_q with rfl | rfl | rfl <;> (rcases hc_q with hc_q | hc_q <;> exact absurd hc_q (by decide)))) ?_
      refine go_istore (lw := [_, _, _, _, _, _, _, _, _, _]) (pc := 68) dX3_value_68 (by decide) rfl ?_
      refine go_goto (tgt := 173) (pc := 70) dX3_value_70 (by decide) ?_
      refine go_iload (pc := 173) dX3_value_173 rfl ?_
      refine go_bipush (v := 48) (pc := 175) dX3_value_175 (by decide) ?_
      refine go_icmp_lt (tgt := 182) (pc := 177) dX3_value_177 (by decide) (fun h_177 => ?_) (fun h_177 => by exfalso; exact h_177 (nI_lt (b := 48) (by omega) (by decide)))
      refine go_aload_n (pc := 182) dX3_value_182 rfl ?_
      refine go_getf (pc := 183) f_X3_9 dX3_value_183 (by repeat (first | assumption | exact sup_eq | refine sup_ne (by omega) ?_)) (by rfl) ?_
      refine go_iload (pc := 186) dX3_value_186 rfl ?_
      refine go_iload (pc := 188) dX3_value_188 rfl ?_
      refine go_iast (pc := 190) dX3_value_190 (by repeat (first | assumption | exact sup_eq | refine sup_ne (by omega) ?_)) (by exact ⟨rfl, by omega⟩) ?_
      refine go_iinc (v := 1) (lw := [_, _, _, _, _, _, _, _, _, _]) (pc := 191) dX3_value_191 rfl (by decide) (by decide) rfl ?_
      refine go_iinc (v := 1) (lw := [_, _, _, _, _, _, _, _, _, _]) (pc := 194) dX3_value_194 rfl (by decide) (by decide) rfl ?_
      refine go_goto (tgt := 6) (pc := 197) dX3_value_197 (by decide) ?_
      rw [nI_1, nI_1]
      exact ih_q (i_q + 1) ((doneK x y8 y9) :: s8) (false :: ts1) _ (upd S s8.length (doneK x y8 y9)) _ (by repeat (first | assumption | refine sup_ne (by omega) ?_)) (by repeat (first | assumption | refine sup_ne (by omega) ?_)) sup_eq (hf_q.st hr2) (by exact stR_push hst8) ⟨fun hc_q => absurd hc_q (by decide), hty8⟩ (by first | rfl | (simp; omega)) (by omega) hkin2 hcode2 hlen2 (by rw [← hres]; rw [runK, sk_bin hxx]) _ _
    · obtain ⟨y9, s9, rfl, h01, hty9⟩ := tyV_1 hty
      obtain ⟨y8, s8, rfl, h02, hty8⟩ := tyV_1 hty9
      obtain ⟨hs9, hst9⟩ := stR_one hst
      obtain ⟨hs8, hst8⟩ := stR_one hst9
      obtain rfl : T = s8.length + 2 := by simpa using hT_q.symm
      have hxx : x = 10 ∨ x = 11 ∨ x = 12 ∨ x = 13 ∨ x = 14 ∨ x = 15 ∨ x = 16 ∨ x = 17 := by rcases hx_q with h_q | h_q | h_q <;> simp [h_q]
      rw [List.length_cons] at hs9
      refine go_iload (pc := 6) dX3_value_6 rfl ?_
      refine go_aload_n (pc := 8) dX3_value_8 rfl ?_
      refine go_getf (pc := 9) f_X3_13 dX3_value_9 (by repeat (first | assumption | exact sup_eq | refine sup_ne (by omega) ?_)) (by rfl) ?_
      refine go_alen (pc := 12) dX3_value_12 (by repeat (first | assumption | exact sup_eq | refine sup_ne (by omega) ?_)) (t0 := 0) rfl rfl ?_
      rw [hml]
      refine go_icmp_ge (tgt := 200) (pc := 13) dX3_value_13 (by decide) (fun h_13 => by exfalso; exact absurd h_13 (nI_ge (by omega) (by omega))) (fun h_13 => ?_)
      refine go_aload_n (pc := 16) dX3_value_16 rfl ?_
      refine go_getf (pc := 17) f_X3_13 dX3_value_17 (by repeat (first | assumption | exact sup_eq | refine sup_ne (by omega) ?_)) (by rfl) ?_
      refine go_iload (pc := 20) dX3_value_20 rfl ?_
      refine go_iald (hN := by omega) (pc := 22) dX3_value_22 (by repeat (first | assumption | exact sup_eq | refine sup_ne (by omega) ?_)) (by exact ⟨rfl, by omega⟩) ?_
      rw [hc0]
      refine go_istore (lw := [_, _, _, _, _, _, _, _, _, _]) (pc := 23) dX3_value_23 (by decide) rfl ?_
      refine go_iload (pc := 25) dX3_value_25 rfl ?_
      refine go_istore (lw := [_, _, _, _, _, _, _, _, _, _]) (pc := 27) dX3_value_27 (by decide) rfl ?_
      refine go_iload (pc := 29) dX3_value_29 rfl ?_
      refine go_bipush (v := -6) (pc := 31) dX3_value_31 (by decide) ?_
      refine go_icmp_ge (tgt := 73) (pc := 33) dX3_value_33 (by decide) (fun h_33 => by exfalso; exact absurd h_33 (tr_neg hxx)) (fun h_33 => ?_)
      refine go_iload (pc := 36) dX3_value_36 rfl ?_
      refine go_iconst (v := 2) (pc := 38) dX3_value_38 (by decide) ?_
      refine go_icmp_ge (tgt := 44) (pc := 39) dX3_value_39 (by decide) (fun h_39 => ?_) (fun h_39 => by exfalso; exact h_39 (nI_le (a := 2) (by omega) (by omega)))
      refine go_iinc (v := -2) (lw := [_, _, _, _, _, _, _, _, _, _]) (pc := 44) dX3_value_44 rfl (by decide) (by decide) rfl ?_
      rw [m2_nI]
      refine go_iload (pc := 47) dX3_value_47 rfl ?_
      refine go_aload_n (pc := 49) dX3_value_49 rfl ?_
      refine go_getf (pc := 50) f_X3_9 dX3_value_50 (by repeat (first | assumption | exact sup_eq | refine sup_ne (by omega) ?_)) (by rfl) ?_
      refine go_iload (pc := 53) dX3_value_53 rfl ?_
      refine go_iald (pc := 55) dX3_value_55 (by repeat (first | assumption | exact sup_eq | refine sup_ne (by omega) ?_)) (by exact ⟨rfl, by omega⟩) ?_
      refine go_aload_n (pc := 56) dX3_value_56 rfl ?_
      refine go_getf (pc := 57) f_X3_9 dX3_value_57 (by repeat (first | assumption | exact sup_eq | refine sup_ne (by omega) ?_)) (by rfl) ?_
      refine go_iload (pc := 60) dX3_value_60 rfl ?_
      refine go_iconst (v := 1) (pc := 62) dX3_value_62 (by decide) ?_
      refine go_iadd (pc := 63) dX3_value_63 ?_
      refine go_iald (pc := 64) dX3_value_64 (by repeat (first | assumption | exact sup_eq | refine sup_ne (by omega) ?_)) (by exact ⟨nI_1 _, by omega⟩) ?_
      rw [hs8, hs9]
      refine go_S3P (pc := 65) s_X3_16 rfl rfl dX3_value_65 (sp_joined (k := k - 1) hxx (fun hc_q => by rcases hx_q with rfl | rfl | rfl <;> (rcases hc_q with hc_q | hc_q <;> exact absurd hc_q (by decide)))) ?_
      refine go_istore (lw := [_, _, _, _, _, _, _, _, _, _]) (pc := 68) dX3_value_68 (by decide) rfl ?_
      refine go_goto (tgt := 173) (pc := 70) dX3_value_70 (by decide) ?_
      refine go_iload (pc := 173) dX3_value_173 rfl ?_
      refine go_bipush (v := 48) (pc := 175) dX3_value_175 (by decide) ?_
      refine go_icmp_lt (tgt := 182) (pc := 177) dX3_value_177 (by decide) (fun h_177 => ?_) (fun h_177 => by exfalso; exact h_177 (nI_lt (b := 48) (by omega) (by decide)))
      refine go_aload_n (pc := 182) dX3_value_182 rfl ?_
      refine go_getf (pc := 183) f_X3_9 dX3_value_183 (by repeat (first | assumption | exact sup_eq | refine sup_ne (by omega) ?_)) (by rfl) ?_
      refine go_iload (pc := 186) dX3_value_186 rfl ?_
      refine go_iload (pc := 188) dX3_value_188 rfl ?_
      refine go_iast (pc := 190) dX3_value_190 (by repeat (first | assumption | exact sup_eq | refine sup_ne (by omega) ?_)) (by exact ⟨rfl, by omega⟩) ?_
      refine go_iinc (v := 1) (lw := [_, _, _, _, _, _, _, _, _, _]) (pc := 191) dX3_value_191 rfl (by decide) (by decide) rfl ?_
      refine go_iinc (v := 1) (lw := [_, _, _, _, _, _, _, _, _, _]) (pc := 194) dX3_value_194 rfl (by decide) (by decide) rfl ?_
      refine go_goto (tgt := 6) (pc := 197) dX3_value_197 (by decide) ?_
      rw [nI_1, nI_1]
      exact ih_q (i_q + 1) ((doneK x y8 y9) :: s8) (true :: ts1) _ (upd S s8.length (doneK x y8 y9)) _ (by repeat (first | assumption | refine sup_ne (by omega) ?_)) (by repeat (first | assumption | refine sup_ne (by omega) ?_)) sup_eq (hf_q.st hr2) (by exact stR_push hst8) ⟨fun _ => done_01 (Or.inl hx_q), hty8⟩ (by first | rfl | (simp; omega)) (by omega) hkin2 hcode2 hlen2 (by rw [← hres]; rw [runK, sk_bin hxx]) _ _
    · obtain ⟨y9, s9, rfl, h01, hty9⟩ := tyV_1 hty
      obtain ⟨y8, s8, rfl, h02, hty8⟩ := tyV_1 hty9
      obtain ⟨hs9, hst9⟩ := stR_one hst
      obtain ⟨hs8, hst8⟩ := stR_one hst9
      obtain rfl : T = s8.length + 2 := by simpa using hT_q.symm
      have hxx : x = 10 ∨ x = 11 ∨ x = 12 ∨ x = 13 ∨ x = 14 ∨ x = 15 ∨ x = 16 ∨ x = 17 := by rcases hx_q with h_q | h_q <;> simp [h_q]
      rw [List.length_cons] at hs9
      refine go_iload (pc := 6) dX3_value_6 rfl ?_
      refine go_aload_n (pc := 8) dX3_value_8 rfl ?_
      refine go_getf (pc := 9) f_X3_13 dX3_value_9 (by repeat (first | assumption | exact sup_eq | refine sup_ne (by omega) ?_)) (by rfl) ?_
      refine go_alen (pc := 12) dX3_value_12 (by repeat (first | assumption | exact sup_eq | refine sup_ne (by omega) ?_)) (t0 := 0) rfl rfl ?_
      rw [hml]
      refine go_icmp_ge (tgt := 200) (pc := 13) dX3_value_13 (by decide) (fun h_13 => by exfalso; exact absurd h_13 (nI_ge (by omega) (by omega))) (fun h_13 => ?_)
      refine go_aload_n (pc := 16) dX3_value_16 rfl ?_
      refine go_getf (pc := 17) f_X3_13 dX3_value_17 (by repeat (first | assumption | exact sup_eq | refine sup_ne (by omega) ?_)) (by rfl) ?_
      refine go_iload (pc := 20) dX3_value_20 rfl ?_
      refine go_iald (hN := by omega) (pc := 22) dX3_value_22 (by repeat (first | assumption | exact sup_eq | refine sup_ne (by omega) ?_)) (by exact ⟨rfl, by omega⟩) ?_
      rw [hc0]
      refine go_istore (lw := [_, _, _, _, _, _, _, _, _, _]) (pc := 23) dX3_value_23 (by decide) rfl ?_
      refine go_iload (pc := 25) dX3_value_25 rfl ?_
      refine go_istore (lw := [_, _, _, _, _, _, _, _, _, _]) (pc := 27) dX3_value_27 (by decide) rfl ?_
      refine go_iload (pc := 29) dX3_value_29 rfl ?_
      refine go_bipush (v := -6) (pc := 31) dX3_value_31 (by decide) ?_
      refine go_icmp_ge (tgt := 73) (pc := 33) dX3_value_33 (by decide) (fun h_33 => by exfalso; exact absurd h_33 (tr_neg hxx)) (fun h_33 => ?_)
      refine go_iload (pc := 36) dX3_value_36 rfl ?_
      refine go_iconst (v := 2) (pc := 38) dX3_value_38 (by decide) ?_
      refine go_icmp_ge (tgt := 44) (pc := 39) dX3_value_39 (by decide) (fun h_39 => ?_) (fun h_39 => by exfalso; exact h_39 (nI_le (a := 2) (by omega) (by omega)))
      refine go_iinc (v := -2) (lw := [_, _, _, _, _, _, _, _, _, _]) (pc := 44) dX3_value_44 rfl (by decide) (by decide) rfl ?_
      rw [m2_nI]
      refine go_iload (pc := 47) dX3_value_47 rfl ?_
      refine go_aload_n (pc := 49) dX3_value_49 rfl ?_
      refine go_getf (pc := 50) f_X3_9 dX3_value_50 (by repeat (first | assumption | exact sup_eq | refine sup_ne (by omega) ?_)) (by rfl) ?_
      refine go_iload (pc := 53) dX3_value_53 rfl ?_
      refine go_iald (pc := 55) dX3_value_55 (by repeat (first | assumption | exact sup_eq | refine sup_ne (by omega) ?_)) (by exact ⟨rfl, by omega⟩) ?_
      refine go_aload_n (pc := 56) dX3_value_56 rfl ?_
      refine go_getf (pc := 57) f_X3_9 dX3_value_57 (by repeat (first | assumption | exact sup_eq | refine sup_ne (by omega) ?_)) (by rfl) ?_
      refine go_iload (pc := 60) dX3_value_60 rfl ?_
      refine go_iconst (v := 1) (pc := 62) dX3_value_62 (by decide) ?_
      refine go_iadd (pc := 63) dX3_value_63 ?_
      refine go_iald (pc := 64) dX3_value_64 (by repeat (first | assumption | exact sup_eq | refine sup_ne (by omega) ?_)) (by exact ⟨nI_1 _, by omega⟩) ?_
      rw [hs8, hs9]
      refine go_S3P (pc := 65) s_X3_16 rfl rfl dX3_value_65 (sp_joined (k := k - 1) hxx (fun _ => ⟨h02 rfl, h01 rfl⟩)) ?_
      refine go_istore (lw := [_, _, _, _, _, _, _, _, _, _]) (pc := 68) dX3_value_68 (by decide) rfl ?_
      refine go_goto (tgt := 173) (pc := 70) dX3_value_70 (by decide) ?_
      refine go_iload (pc := 173) dX3_value_173 rfl ?_
      refine go_bipush (v := 48) (pc := 175) dX3_value_175 (by decide) ?_
      refine go_icmp_lt (tgt := 182) (pc := 177) dX3_value_177 (by decide) (fun h_177 => ?_) (fun h_177 => by exfalso; exact h_177 (nI_lt (b := 48) (by omega) (by decide)))
      refine go_aload_n (pc := 182) dX3_value_182 rfl ?_
      refine go_getf (pc := 183) f_X3_9 dX3_value_183 (by repeat (first | assumption | exact sup_eq | refine sup_ne (by omega) ?_)) (by rfl) ?_
      refine go_iload (pc := 186) dX3_value_186 rfl ?_
      refine go_iload (pc := 188) dX3_value_188 rfl ?_
      refine go_iast (pc := 190) dX3_value_190 (by repeat (first | assumption | exact sup_eq | refine sup_ne (by omega) ?_)) (by exact ⟨rfl, by omega⟩) ?_
      refine go_iinc (v := 1) (lw := [_, _, _, _, _, _, _, _, _, _]) (pc := 191) dX3_value_191 rfl (by decide) (by decide) rfl ?_
      refine go_iinc (v := 1) (lw := [_, _, _, _, _, _, _, _, _, _]) (pc := 194) dX3_value_194 rfl (by decide) (by decide) rfl ?_
      refine go_goto (tgt := 6) (pc := 197) dX3_value_197 (by decide) ?_
      rw [nI_1, nI_1]
      exact ih_q (i_q + 1) ((doneK x y8 y9) :: s8) (true :: ts1) _ (upd S s8.length (doneK x y8 y9)) _ (by repeat (first | assumption | refine sup_ne (by omega) ?_)) (by repeat (first | assumption | refine sup_ne (by omega) ?_)) sup_eq (hf_q.st hr2) (by exact stR_push hst8) ⟨fun _ => done_01 (Or.inr hx_q), hty8⟩ (by first | rfl | (simp; omega)) (by omega) hkin2 hcode2 hlen2 (by rw [← hres]; rw [runK, sk_bin hxx]) _ _
theorem sp_value {Γ : gam} {σ : sto} {n k l D : Nat} {ro : Nat → Nat} {K : row} {mn pl : Nat} {w : Int32} {fb : Bool} (hk : 1 ≤ k) (hL : LwAt Γ D ro σ l ((codeK K mn pl).map trS)) (ho : okL K mn pl w fb) (hw_q : w ≤ 104) (who age cl rw mi : Int32) : Sp Γ (rmk k 0 0) uX3_value [.ref l, .int who, .int age, .int cl, .int rw, .int mi] σ n (qI fun v σ' n' => v = lawK K mn pl (ask5 mi cl rw who age) ∧ (fb = true → v = 0 ∨ v = 1) ∧ n' = n ∧ frC Γ ro 1 0 σ σ') := by
  obtain ⟨⟨hD, hr0, hr1, hr2⟩, hl0, hl1, S, hl2⟩ := hL
  obtain ⟨cnt, hc_q, hc9, hkin⟩ := ho
  have hlen9 : (codeK K mn pl).length ≤ 900 := by rw [codeK_len hc_q hc9]; exact hc9
  refine sp_intro [some (.ref l), some (.int who), some (.int age), some (.int cl), some (.int rw), some (.int mi), none, none, none, none] (by decide +kernel) rfl (Nat.le_of_ble_eq_true rfl) rfl ?_
  refine go_iconst (v := 0) (pc := 0) dX3_value_0 (by decide) ?_
  refine go_istore (lw := [_, _, _, _, _, _, _, _, _, _]) (pc := 1) dX3_value_1 (by decide) rfl ?_
  refine go_iconst (v := 0) (pc := 3) dX3_value_3 (by decide) ?_
  refine go_istore (lw := [_, _, _, _, _, _, _, _, _, _]) (pc := 4) dX3_value_4 (by decide) rfl ?_
  exact lp_value hk hw_q hr2 hlen9 (codeK K mn pl) 0 [] [] 0 S σ hl0 hl1 hl2 frC.rf (fun j hj_q => absurd hj_q (by simp)) trivial rfl (by omega) hkin (fun j _ => by rw [Nat.zero_add]) (by omega) rfl none none
