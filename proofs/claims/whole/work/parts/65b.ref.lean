/-! ===== the reference: tokens ===== -/
theorem sp_see {Γ : gam} {z0 : sto} {n k r_q : Nat} {F K : row} {A : Nat → row} {Nm : Nat → Int64} (hM_q : MoAt Γ z0 r_q F K A Nm) {N : Nat} (hN_q : N ≤ 900) (hL : F 7 = nI N) {h_q : Nat} (hh : h_q ≤ N) : Sp Γ (rmk k 0 0) uX8_see [.ref r_q, .int (nI h_q)] z0 n (qP (if h_q < N then A 5 h_q else 0) z0 n) := by
  refine sp_intro [some (.ref r_q), some (.int (nI h_q))] (by decide +kernel) rfl (Nat.le_of_ble_eq_true rfl) rfl ?_
  refine go_iload_n (pc := 0) dX8_see_0 rfl ?_
  refine go_aload_n (pc := 1) dX8_see_1 rfl ?_
  refine go_getf (pc := 2) f_X8_70 dX8_see_2 (by first | exact mo0 hM_q | exact mo5 hM_q) (by rfl) ?_
  refine go_icmp_ge (tgt := 17) (pc := 5) dX8_see_5 (by decide) (fun h_5 => ?_) (fun h_5 => ?_)
  · have g5_q : ¬ h_q < N := Nat.not_lt.mpr ((nI_leI (by omega) (by omega)).mp (by rw [← hL]; exact h_5))
    refine go_iconst (v := 0) (pc := 17) dX8_see_17 (by decide) ?_
    exact go_iretP (pc := 18) rfl dX8_see_18 (Nat.le_of_ble_eq_true rfl) (Nat.le_of_ble_eq_true rfl) (by first | exact (if_pos g5_q).symm | exact (if_neg g5_q).symm)
  · have g5_q : h_q < N := Nat.lt_of_not_le (fun hc_q => h_5 (by rw [hL]; exact nI_le hc_q (by omega)))
    refine go_aload_n (pc := 8) dX8_see_8 rfl ?_
    refine go_getf (pc := 9) f_X8_23 dX8_see_9 (by first | exact mo0 hM_q | exact mo5 hM_q) (by rfl) ?_
    refine go_iload_n (pc := 12) dX8_see_12 rfl ?_
    refine go_iald (pc := 13) dX8_see_13 (by first | exact mo0 hM_q | exact mo5 hM_q) (by exact ⟨rfl, by omega⟩) ?_
    refine go_goto (tgt := 18) (pc := 14) dX8_see_14 (by decide) ?_
    exact go_iretP (pc := 18) rfl dX8_see_18 (Nat.le_of_ble_eq_true rfl) (Nat.le_of_ble_eq_true rfl) (by first | exact (if_pos g5_q).symm | exact (if_neg g5_q).symm)
theorem sp_sgB {Γ : gam} {z0 : sto} {n k : Nat} (x_q : Int32) : Sp Γ (rmk k 0 0) uX8_isSignByte [.int x_q] z0 n (qP (bI (isSg x_q = true)) z0 n) := by
  refine sp_intro [some (.int x_q), none] (by decide +kernel) rfl (Nat.le_of_ble_eq_true rfl) rfl ?_
  refine go_iload_n (pc := 0) dX8_isSignByte_0 rfl ?_
  refine go_bipush (v := 91) (pc := 1) dX8_isSignByte_1 (by decide) ?_
  refine go_icmp_eq (tgt := 36) (pc := 3) dX8_isSignByte_3 (by decide) (fun h_3 => ?_) (fun h_3 => ?_)
  · refine go_iconst (v := 1) (pc := 36) dX8_isSignByte_36 (by decide) ?_
    refine go_goto (tgt := 41) (pc := 37) dX8_isSignByte_37 (by decide) ?_
    refine go_istore_n (lw := [_, _]) (pc := 41) dX8_isSignByte_41 (by decide) rfl ?_
    refine go_iload_n (pc := 42) dX8_isSignByte_42 rfl ?_
    refine go_if_ne (tgt := 82) (pc := 43) dX8_isSignByte_43 (by decide) (fun h_43 => ?_) (fun h_43 => ?_)
    · refine go_iconst (v := 1) (pc := 82) dX8_isSignByte_82 (by decide) ?_
      refine go_goto (tgt := 87) (pc := 83) dX8_isSignByte_83 (by decide) ?_
      exact go_zretP (pc := 87) rfl (by first | rfl | exact nb_bI) dX8_isSignByte_87 (Nat.le_of_ble_eq_true rfl) (Nat.le_of_ble_eq_true rfl) (by first | (refine (bI_t ?_).symm; simp_all [isSg]; done) | (refine (bI_f ?_).symm; simp_all [isSg]; done))
    · refine go_iload_n (pc := 46) dX8_isSignByte_46 rfl ?_
      refine go_bipush (v := 59) (pc := 47) dX8_isSignByte_47 (by decide) ?_
      refine go_icmp_eq (tgt := 82) (pc := 49) dX8_isSignByte_49 (by decide) (fun h_49 => ?_) (fun h_49 => ?_)
      · refine go_iconst (v := 1) (pc := 82) dX8_isSignByte_82 (by decide) ?_
        refine go_goto (tgt := 87) (pc := 83) dX8_isSignByte_83 (by decide) ?_
        exact go_zretP (pc := 87) rfl (by first | rfl | exact nb_bI) dX8_isSignByte_87 (Nat.le_of_ble_eq_true rfl) (Nat.le_of_ble_eq_true rfl) (by first | (refine (bI_t ?_).symm; simp_all [isSg]; done) | (refine (bI_f ?_).symm; simp_all [isSg]; done))
      · refine go_iload_n (pc := 52) dX8_isSignByte_52 rfl ?_
        refine go_bipush (v := 43) (pc := 53) dX8_isSignByte_53 (by decide) ?_
        refine go_icmp_eq (tgt := 82) (pc := 55) dX8_isSignByte_55 (by decide) (fun h_55 => ?_) (fun h_55 => ?_)
        · refine go_iconst (v := 1) (pc := 82) dX8_isSignByte_82 (by decide) ?_
          refine go_goto (tgt := 87) (pc := 83) dX8_isSignByte_83 (by decide) ?_
          exact go_zretP (pc := 87) rfl (by first | rfl | exact nb_bI) dX8_isSignByte_87 (Nat.le_of_ble_eq_true rfl) (Nat.le_of_ble_eq_true rfl) (by first | (refine (bI_t ?_).symm; simp_all [isSg]; done) | (refine (bI_f ?_).symm; simp_all [isSg]; done))
        · refine go_iload_n (pc := 58) dX8_isSignByte_58 rfl ?_
          refine go_bipush (v := 45) (pc := 59) dX8_isSignByte_59 (by decide) ?_
          refine go_icmp_eq (tgt := 82) (pc := 61) dX8_isSignByte_61 (by decide) (fun h_61 => ?_) (fun h_61 => ?_)
          · refine go_iconst (v := 1) (pc := 82) dX8_isSignByte_82 (by decide) ?_
            refine go_goto (tgt := 87) (pc := 83) dX8_isSignByte_83 (by decide) ?_
            exact go_zretP (pc := 87) rfl (by first | rfl | exact nb_bI) dX8_isSignByte_87 (Nat.le_of_ble_eq_true rfl) (Nat.le_of_ble_eq_true rfl) (by first | (refine (bI_t ?_).symm; simp_all [isSg]; done) | (refine (bI_f ?_).symm; simp_all [isSg]; done))
          · refine go_iload_n (pc := 64) dX8_isSignByte_64 rfl ?_
            refine go_bipush (v := 42) (pc := 65) dX8_isSignByte_65 (by decide) ?_
            refine go_icmp_eq (tgt := 82) (pc := 67) dX8_isSignByte_67 (by decide) (fun h_67 => ?_) (fun h_67 => ?_)
            · refine go_iconst (v := 1) (pc := 82) dX8_isSignByte_82 (by decide) ?_
              refine go_goto (tgt := 87) (pc := 83) dX8_isSignByte_83 (by decide) ?_
              exact go_zretP (pc := 87) rfl (by first | rfl | exact nb_bI) dX8_isSignByte_87 (Nat.le_of_ble_eq_true rfl) (Nat.le_of_ble_eq_true rfl) (by first | (refine (bI_t ?_).symm; simp_all [isSg]; done) | (refine (bI_f ?_).symm; simp_all [isSg]; done))
            · refine go_iload_n (pc := 70) dX8_isSignByte_70 rfl ?_
              refine go_bipush (v := 40) (pc := 71) dX8_isSignByte_71 (by decide) ?_
              refine go_icmp_eq (tgt := 82) (pc := 73) dX8_isSignByte_73 (by decide) (fun h_73 => ?_) (fun h_73 => ?_)
              · refine go_iconst (v := 1) (pc := 82) dX8_isSignByte_82 (by decide) ?_
                refine go_goto (tgt := 87) (pc := 83) dX8_isSignByte_83 (by decide) ?_
                exact go_zretP (pc := 87) rfl (by first | rfl | exact nb_bI) dX8_isSignByte_87 (Nat.le_of_ble_eq_true rfl) (Nat.le_of_ble_eq_true rfl) (by first | (refine (bI_t ?_).symm; simp_all [isSg]; done) | (refine (bI_f ?_).symm; simp_all [isSg]; done))
              · refine go_iload_n (pc := 76) dX8_isSignByte_76 rfl ?_
                refine go_bipush (v := 41) (pc := 77) dX8_isSignByte_77 (by decide) ?_
                refine go_icmp_ne (tgt := 86) (pc := 79) dX8_isSignByte_79 (by decide) (fun h_79 => ?_) (fun h_79 => ?_)
                · refine go_iconst (v := 0) (pc := 86) dX8_isSignByte_86 (by decide) ?_
                  exact go_zretP (pc := 87) rfl (by first | rfl | exact nb_bI) dX8_isSignByte_87 (Nat.le_of_ble_eq_true rfl) (Nat.le_of_ble_eq_true rfl) (by first | (refine (bI_t ?_).symm; simp_all [isSg]; done) | (refine (bI_f ?_).symm; simp_all [isSg]; done))
                · refine go_iconst (v := 1) (pc := 82) dX8_isSignByte_82 (by decide) ?_
                  refine go_goto (tgt := 87) (pc := 83) dX8_isSignByte_83 (by decide) ?_
                  exact go_zretP (pc := 87) rfl (by first | rfl | exact nb_bI) dX8_isSignByte_87 (Nat.le_of_ble_eq_true rfl) (Nat.le_of_ble_eq_true rfl) (by first | (refine (bI_t ?_).symm; simp_all [isSg]; done) | (refine (bI_f ?_).symm; simp_all [isSg]; done))
  · refine go_iload_n (pc := 6) dX8_isSignByte_6 rfl ?_
    refine go_bipush (v := 93) (pc := 7) dX8_isSignByte_7 (by decide) ?_
    refine go_icmp_eq (tgt := 36) (pc := 9) dX8_isSignByte_9 (by decide) (fun h_9 => ?_) (fun h_9 => ?_)
    · refine go_iconst (v := 1) (pc := 36) dX8_isSignByte_36 (by decide) ?_
      refine go_goto (tgt := 41) (pc := 37) dX8_isSignByte_37 (by decide) ?_
      refine go_istore_n (lw := [_, _]) (pc := 41) dX8_isSignByte_41 (by decide) rfl ?_
      refine go_iload_n (pc := 42) dX8_isSignByte_42 rfl ?_
      refine go_if_ne (tgt := 82) (pc := 43) dX8_isSignByte_43 (by decide) (fun h_43 => ?_) (fun h_43 => ?_)
      · refine go_iconst (v := 1) (pc := 82) dX8_isSignByte_82 (by decide) ?_
        refine go_goto (tgt := 87) (pc := 83) dX8_isSignByte_83 (by decide) ?_
        exact go_zretP (pc := 87) rfl (by first | rfl | exact nb_bI) dX8_isSignByte_87 (Nat.le_of_ble_eq_true rfl) (Nat.le_of_ble_eq_true rfl) (by first | (refine (bI_t ?_).symm; simp_all [isSg]; done) | (refine (bI_f ?_).symm; simp_all [isSg]; done))
      · refine go_iload_n (pc := 46) dX8_isSignByte_46 rfl ?_
        refine go_bipush (v := 59) (pc := 47) dX8_isSignByte_47 (by decide) ?_
        refine go_icmp_eq (tgt := 82) (pc := 49) dX8_isSignByte_49 (by decide) (fun h_49 => ?_) (fun h_49 => ?_)
        · refine go_iconst (v := 1) (pc := 82) dX8_isSignByte_82 (by decide) ?_
          refine go_goto (tgt := 87) (pc := 83) dX8_isSignByte_83 (by decide) ?_
          exact go_zretP (pc := 87) rfl (by first | rfl | exact nb_bI) dX8_isSignByte_87 (Nat.le_of_ble_eq_true rfl) (Nat.le_of_ble_eq_true rfl) (by first | (refine (bI_t ?_).symm; simp_all [isSg]; done) | (refine (bI_f ?_).symm; simp_all [isSg]; done))
        · refine go_iload_n (pc := 52) dX8_isSignByte_52 rfl ?_
          refine go_bipush (v := 43) (pc := 53) dX8_isSignByte_53 (by decide) ?_
          refine go_icmp_eq (tgt := 82) (pc := 55) dX8_isSignByte_55 (by decide) (fun h_55 => ?_) (fun h_55 => ?_)
          · refine go_iconst (v := 1) (pc := 82) dX8_isSignByte_82 (by decide) ?_
            refine go_goto (tgt := 87) (pc := 83) dX8_isSignByte_83 (by decide) ?_
            exact go_zretP (pc := 87) rfl (by first | rfl | exact nb_bI) dX8_isSignByte_87 (Nat.le_of_ble_eq_true rfl) (Nat.le_of_ble_eq_true rfl) (by first | (refine (bI_t ?_).symm; simp_all [isSg]; done) | (refine (bI_f ?_).symm; simp_all [isSg]; done))
          · refine go_iload_n (pc := 58) dX8_isSignByte_58 rfl ?_
            refine go_bipush (v := 45) (pc := 59) dX8_isSignByte_59 (by decide) ?_
            refine go_icmp_eq (tgt := 82) (pc := 61) dX8_isSignByte_61 (by decide) (fun h_61 => ?_) (fun h_61 => ?_)
            · refine go_iconst (v := 1) (pc := 82) dX8_isSignByte_82 (by decide) ?_
              refine go_goto (tgt := 87) (pc := 83) dX8_isSignByte_83 (by decide) ?_
              exact go_zretP (pc := 87) rfl (by first | rfl | exact nb_bI) dX8_isSignByte_87 (Nat.le_of_ble_eq_true rfl) (Nat.le_of_ble_eq_true rfl) (by first | (refine (bI_t ?_).symm; simp_all [isSg]; done) | (refine (bI_f ?_).symm; simp_all [isSg]; done))
            · refine go_iload_n (pc := 64) dX8_isSignByte_64 rfl ?_
              refine go_bipush (v := 42) (pc := 65) dX8_isSignByte_65 (by decide) ?_
              refine go_icmp_eq (tgt := 82) (pc := 67) dX8_isSignByte_67 (by decide) (fun h_67 => ?_) (fun h_67 => ?_)
              · refine go_iconst (v := 1) (pc := 82) dX8_isSignByte_82 (by decide) ?_
                refine go_goto (tgt := 87) (pc := 83) dX8_isSignByte_83 (by decide) ?_
                exact go_zretP (pc := 87) rfl (by first | rfl | exact nb_bI) dX8_isSignByte_87 (Nat.le_of_ble_eq_true rfl) (Nat.le_of_ble_eq_true rfl) (by first | (refine (bI_t ?_).symm; simp_all [isSg]; done) | (refine (bI_f ?_).symm; simp_all [isSg]; done))
              · refine go_iload_n (pc := 70) dX8_isSignByte_70 rfl ?_
                refine go_bipush (v := 40) (pc := 71) dX8_isSignByte_71 (by decide) ?_
                refine go_icmp_eq (tgt := 82) (pc := 73) dX8_isSignByte_73 (by decide) (fun h_73 => ?_) (fun h_73 => ?_)
                · refine go_iconst (v := 1) (pc := 82) dX8_isSignByte_82 (by decide) ?_
                  refine go_goto (tgt := 87) (pc := 83) dX8_isSignByte_83 (by decide) ?_
                  exact go_zretP (pc := 87) rfl (by first | rfl | exact nb_bI) dX8_isSignByte_87 (Nat.le_of_ble_eq_true rfl) (Nat.le_of_ble_eq_true rfl) (by first | (refine (bI_t ?_).symm; simp_all [isSg]; done) | (refine (bI_f ?_).symm; simp_all [isSg]; done))
                · refine go_iload_n (pc := 76) dX8_isSignByte_76 rfl ?_
                  refine go_bipush (v := 41) (pc := 77) dX8_isSignByte_77 (by decide) ?_
                  refine go_icmp_ne (tgt := 86) (pc := 79) dX8_isSignByte_79 (by decide) (fun h_79 => ?_) (fun h_79 => ?_)
                  · refine go_iconst (v := 0) (pc := 86) dX8_isSignByte_86 (by decide) ?_
                    exact go_zretP (pc := 87) rfl (by first | rfl | exact nb_bI) dX8_isSignByte_87 (Nat.le_of_ble_eq_true rfl) (Nat.le_of_ble_eq_true rfl) (by first | (refine (bI_t ?_).symm; simp_all [isSg]; done) | (refine (bI_f ?_).symm; simp_all [isSg]; done))
                  · refine go_iconst (v := 1) (pc := 82) dX8_isSignByte_82 (by decide) ?_
                    refine go_goto (tgt := 87) (pc := 83) dX8_isSignByte_83 (by decide) ?_
                    exact go_zretP (pc := 87) rfl (by first | rfl | exact nb_bI) dX8_isSignByte_87 (Nat.le_of_ble_eq_true rfl) (Nat.le_of_ble_eq_true rfl) (by first | (refine (bI_t ?_).symm; simp_all [isSg]; done) | (refine (bI_f ?_).symm; simp_all [isSg]; done))
    · refine go_iload_n (pc := 12) dX8_isSignByte_12 rfl ?_
      refine go_bipush (v := 61) (pc := 13) dX8_isSignByte_13 (by decide) ?_
      refine go_icmp_eq (tgt := 36) (pc := 15) dX8_isSignByte_15 (by decide) (fun h_15 => ?_) (fun h_15 => ?_)
      · refine go_iconst (v := 1) (pc := 36) dX8_isSignByte_36 (by decide) ?_
        refine go_goto (tgt := 41) (pc := 37) dX8_isSignByte_37 (by decide) ?_
        refine go_istore_n (lw := [_, _]) (pc := 41) dX8_isSignByte_41 (by decide) rfl ?_
        refine go_iload_n (pc := 42) dX8_isSignByte_42 rfl ?_
        refine go_if_ne (tgt := 82) (pc := 43) dX8_isSignByte_43 (by decide) (fun h_43 => ?_) (fun h_43 => ?_)
        · refine go_iconst (v := 1) (pc := 82) dX8_isSignByte_82 (by decide) ?_
          refine go_goto (tgt := 87) (pc := 83) dX8_isSignByte_83 (by decide) ?_
          exact go_zretP (pc := 87) rfl (by first | rfl | exact nb_bI) dX8_isSignByte_87 (Nat.le_of_ble_eq_true rfl) (Nat.le_of_ble_eq_true rfl) (by first | (refine (bI_t ?_).symm; simp_all [isSg]; done) | (refine (bI_f ?_).symm; simp_all [isSg]; done))
        · refine go_iload_n (pc := 46) dX8_isSignByte_46 rfl ?_
          refine go_bipush (v := 59) (pc := 47) dX8_isSignByte_47 (by decide) ?_
          refine go_icmp_eq (tgt := 82) (pc := 49) dX8_isSignByte_49 (by decide) (fun h_49 => ?_) (fun h_49 => ?_)
          · refine go_iconst (v := 1) (pc := 82) dX8_isSignByte_82 (by decide) ?_
            refine go_goto (tgt := 87) (pc := 83) dX8_isSignByte_83 (by decide) ?_
            exact go_zretP (pc := 87) rfl (by first | rfl | exact nb_bI) dX8_isSignByte_87 (Nat.le_of_ble_eq_true rfl) (Nat.le_of_ble_eq_true rfl) (by first | (refine (bI_t ?_).symm; simp_all [isSg]; done) | (refine (bI_f ?_).symm; simp_all [isSg]; done))
          · refine go_iload_n (pc := 52) dX8_isSignByte_52 rfl ?_
            refine go_bipush (v := 43) (pc := 53) dX8_isSignByte_53 (by decide) ?_
            refine go_icmp_eq (tgt := 82) (pc := 55) dX8_isSignByte_55 (by decide) (fun h_55 => ?_) (fun h_55 => ?_)
            · refine go_iconst (v := 1) (pc := 82) dX8_isSignByte_82 (by decide) ?_
              refine go_goto (tgt := 87) (pc := 83) dX8_isSignByte_83 (by decide) ?_
              exact go_zretP (pc := 87) rfl (by first | rfl | exact nb_bI) dX8_isSignByte_87 (Nat.le_of_ble_eq_true rfl) (Nat.le_of_ble_eq_true rfl) (by first | (refine (bI_t ?_).symm; simp_all [isSg]; done) | (refine (bI_f ?_).symm; simp_all [isSg]; done))
            · refine go_iload_n (pc := 58) dX8_isSignByte_58 rfl ?_
              refine go_bipush (v := 45) (pc := 59) dX8_isSignByte_59 (by decide) ?_
              refine go_icmp_eq (tgt := 82) (pc := 61) dX8_isSignByte_61 (by decide) (fun h_61 => ?_) (fun h_61 => ?_)
              · refine go_iconst (v := 1) (pc := 82) dX8_isSignByte_82 (by decide) ?_
                refine go_goto (tgt := 87) (pc := 83) dX8_isSignByte_83 (by decide) ?_
                exact go_zretP (pc := 87) rfl (by first | rfl | exact nb_bI) dX8_isSignByte_87 (Nat.le_of_ble_eq_true rfl) (Nat.le_of_ble_eq_true rfl) (by first | (refine (bI_t ?_).symm; simp_all [isSg]; done) | (refine (bI_f ?_).symm; simp_all [isSg]; done))
              · refine go_iload_n (pc := 64) dX8_isSignByte_64 rfl ?_
                refine go_bipush (v := 42) (pc := 65) dX8_isSignByte_65 (by decide) ?_
                refine go_icmp_eq (tgt := 82) (pc := 67) dX8_isSignByte_67 (by decide) (fun h_67 => ?_) (fun h_67 => ?_)
                · refine go_iconst (v := 1) (pc := 82) dX8_isSignByte_82 (by decide) ?_
                  refine go_goto (tgt := 87) (pc := 83) dX8_isSignByte_83 (by decide) ?_
                  exact go_zretP (pc := 87) rfl (by first | rfl | exact nb_bI) dX8_isSignByte_87 (Nat.le_of_ble_eq_true rfl) (Nat.le_of_ble_eq_true rfl) (by first | (refine (bI_t ?_).symm; simp_all [isSg]; done) | (refine (bI_f ?_).symm; simp_all [isSg]; done))
                · refine go_iload_n (pc := 70) dX8_isSignByte_70 rfl ?_
                  refine go_bipush (v := 40) (pc := 71) dX8_isSignByte_71 (by decide) ?_
                  refine go_icmp_eq (tgt := 82) (pc := 73) dX8_isSignByte_73 (by decide) (fun h_73 => ?_) (fun h_73 => ?_)
                  · refine go_iconst (v := 1) (pc := 82) dX8_isSignByte_82 (by decide) ?_
                    refine go_goto (tgt := 87) (pc := 83) dX8_isSignByte_83 (by decide) ?_
                    exact go_zretP (pc := 87) rfl (by first | rfl | exact nb_bI) dX8_isSignByte_87 (Nat.le_of_ble_eq_true rfl) (Nat.le_of_ble_eq_true rfl) (by first | (refine (bI_t ?_).symm; simp_all [isSg]; done) | (refine (bI_f ?_).symm; simp_all [isSg]; done))
                  · refine go_iload_n (pc := 76) dX8_isSignByte_76 rfl ?_
                    refine go_bipush (v := 41) (pc := 77) dX8_isSignByte_77 (by decide) ?_
                    refine go_icmp_ne (tgt := 86) (pc := 79) dX8_isSignByte_79 (by decide) (fun h_79 => ?_) (fun h_79 => ?_)
                    · refine go_iconst (v := 0) (pc := 86) dX8_isSignByte_86 (by decide) ?_
                      exact go_zretP (pc := 87) rfl (by first | rfl | exact nb_bI) dX8_isSignByte_87 (Nat.le_of_ble_eq_true rfl) (Nat.le_of_ble_eq_true rfl) (by first | (refine (bI_t ?_).symm; simp_all [isSg]; done) | (refine (bI_f ?_).symm; simp_all [isSg]; done))
                    · refine go_iconst (v := 1) (pc := 82) dX8_isSignByte_82 (by decide) ?_
                      refine go_goto (tgt := 87) (pc := 83) dX8_isSignByte_83 (by decide) ?_
                      exact go_zretP (pc := 87) rfl (by first | rfl | exact nb_bI) dX8_isSignByte_87 (Nat.le_of_ble_eq_true rfl) (Nat.le_of_ble_eq_true rfl) (by first | (refine (bI_t ?_).symm; simp_all [isSg]; done) | (refine (bI_f ?_).symm; simp_all [isSg]; done))
      · refine go_iload_n (pc := 18) dX8_isSignByte_18 rfl ?_
        refine go_bipush (v := 60) (pc := 19) dX8_isSignByte_19 (by decide) ?_
        refine go_icmp_eq (tgt := 36) (pc := 21) dX8_isSignByte_21 (by decide) (fun h_21 => ?_) (fun h_21 => ?_)
        · refine go_iconst (v := 1) (pc := 36) dX8_isSignByte_36 (by decide) ?_
          refine go_goto (tgt := 41) (pc := 37) dX8_isSignByte_37 (by decide) ?_
          refine go_istore_n (lw := [_, _]) (pc := 41) dX8_isSignByte_41 (by decide) rfl ?_
          refine go_iload_n (pc := 42) dX8_isSignByte_42 rfl ?_
          refine go_if_ne (tgt := 82) (pc := 43) dX8_isSignByte_43 (by decide) (fun h_43 => ?_) (fun h_43 => ?_)
          · refine go_iconst (v := 1) (pc := 82) dX8_isSignByte_82 (by decide) ?_
            refine go_goto (tgt := 87) (pc := 83) dX8_isSignByte_83 (by decide) ?_
            exact go_zretP (pc := 87) rfl (by first | rfl | exact nb_bI) dX8_isSignByte_87 (Nat.le_of_ble_eq_true rfl) (Nat.le_of_ble_eq_true rfl) (by first | (refine (bI_t ?_).symm; simp_all [isSg]; done) | (refine (bI_f ?_).symm; simp_all [isSg]; done))
          · refine go_iload_n (pc := 46) dX8_isSignByte_46 rfl ?_
            refine go_bipush (v := 59) (pc := 47) dX8_isSignByte_47 (by decide) ?_
            refine go_icmp_eq (tgt := 82) (pc := 49) dX8_isSignByte_49 (by decide) (fun h_49 => ?_) (fun h_49 => ?_)
            · refine go_iconst (v := 1) (pc := 82) dX8_isSignByte_82 (by decide) ?_
              refine go_goto (tgt := 87) (pc := 83) dX8_isSignByte_83 (by decide) ?_
              exact go_zretP (pc := 87) rfl (by first | rfl | exact nb_bI) dX8_isSignByte_87 (Nat.le_of_ble_eq_true rfl) (Nat.le_of_ble_eq_true rfl) (by first | (refine (bI_t ?_).symm; simp_all [isSg]; done) | (refine (bI_f ?_).symm; simp_all [isSg]; done))
            · refine go_iload_n (pc := 52) dX8_isSignByte_52 rfl ?_
              refine go_bipush (v := 43) (pc := 53) dX8_isSignByte_53 (by decide) ?_
              refine go_icmp_eq (tgt := 82) (pc := 55) dX8_isSignByte_55 (by decide) (fun h_55 => ?_) (fun h_55 => ?_)
              · refine go_iconst (v := 1) (pc := 82) dX8_isSignByte_82 (by decide) ?_
                refine go_goto (tgt := 87) (pc := 83) dX8_isSignByte_83 (by decide) ?_
                exact go_zretP (pc := 87) rfl (by first | rfl | exact nb_bI) dX8_isSignByte_87 (Nat.le_of_ble_eq_true rfl) (Nat.le_of_ble_eq_true rfl) (by first | (refine (bI_t ?_).symm; simp_all [isSg]; done) | (refine (bI_f ?_).symm; simp_all [isSg]; done))
              · refine go_iload_n (pc := 58) dX8_isSignByte_58 rfl ?_
                refine go_bipush (v := 45) (pc := 59) dX8_isSignByte_59 (by decide) ?_
                refine go_icmp_eq (tgt := 82) (pc := 61) dX8_isSignByte_61 (by decide) (fun h_61 => ?_) (fun h_61 => ?_)
                · refine go_iconst (v := 1) (pc := 82) dX8_isSignByte_82 (by decide) ?_
                  refine go_goto (tgt := 87) (pc := 83) dX8_isSignByte_83 (by decide) ?_
                  exact go_zretP (pc := 87) rfl (by first | rfl | exact nb_bI) dX8_isSignByte_87 (Nat.le_of_ble_eq_true rfl) (Nat.le_of_ble_eq_true rfl) (by first | (refine (bI_t ?_).symm; simp_all [isSg]; done) | (refine (bI_f ?_).symm; simp_all [isSg]; done))
                · refine go_iload_n (pc := 64) dX8_isSignByte_64 rfl ?_
                  refine go_bipush (v := 42) (pc := 65) dX8_isSignByte_65 (by decide) ?_
                  refine go_icmp_eq (tgt := 82) (pc := 67) dX8_isSignByte_67 (by decide) (fun h_67 => ?_) (fun h_67 => ?_)
                  · refine go_iconst (v := 1) (pc := 82) dX8_isSignByte_82 (by decide) ?_
                    refine go_goto (tgt := 87) (pc := 83) dX8_isSignByte_83 (by decide) ?_
                    exact go_zretP (pc := 87) rfl (by first | rfl | exact nb_bI) dX8_isSignByte_87 (Nat.le_of_ble_eq_true rfl) (Nat.le_of_ble_eq_true rfl) (by first | (refine (bI_t ?_).symm; simp_all [isSg]; done) | (refine (bI_f ?_).symm; simp_all [isSg]; done))
                  · refine go_iload_n (pc := 70) dX8_isSignByte_70 rfl ?_
                    refine go_bipush (v := 40) (pc := 71) dX8_isSignByte_71 (by decide) ?_
                    refine go_icmp_eq (tgt := 82) (pc := 73) dX8_isSignByte_73 (by decide) (fun h_73 => ?_) (fun h_73 => ?_)
                    · refine go_iconst (v := 1) (pc := 82) dX8_isSignByte_82 (by decide) ?_
                      refine go_goto (tgt := 87) (pc := 83) dX8_isSignByte_83 (by decide) ?_
                      exact go_zretP (pc := 87) rfl (by first | rfl | exact nb_bI) dX8_isSignByte_87 (Nat.le_of_ble_eq_true rfl) (Nat.le_of_ble_eq_true rfl) (by first | (refine (bI_t ?_).symm; simp_all [isSg]; done) | (refine (bI_f ?_).symm; simp_all [isSg]; done))
                    · refine go_iload_n (pc := 76) dX8_isSignByte_76 rfl ?_
                      refine go_bipush (v := 41) (pc := 77) dX8_isSignByte_77 (by decide) ?_
                      refine go_icmp_ne (tgt := 86) (pc := 79) dX8_isSignByte_79 (by decide) (fun h_79 => ?_) (fun h_79 => ?_)
                      · refine go_iconst (v := 0) (pc := 86) dX8_isSignByte_86 (by decide) ?_
                        exact go_zretP (pc := 87) rfl (by first | rfl | exact nb_bI) dX8_isSignByte_87 (Nat.le_of_ble_eq_true rfl) (Nat.le_of_ble_eq_true rfl) (by first | (refine (bI_t ?_).symm; simp_all [isSg]; done) | (refine (bI_f ?_).symm; simp_all [isSg]; done))
                      · refine go_iconst (v := 1) (pc := 82) dX8_isSignByte_82 (by decide) ?_
                        refine go_goto (tgt := 87) (pc := 83) dX8_isSignByte_83 (by decide) ?_
                        exact go_zretP (pc := 87) rfl (by first | rfl | exact nb_bI) dX8_isSignByte_87 (Nat.le_of_ble_eq_true rfl) (Nat.le_of_ble_eq_true rfl) (by first | (refine (bI_t ?_).symm; simp_all [isSg]; done) | (refine (bI_f ?_).symm; simp_all [isSg]; done))
        · refine go_iload_n (pc := 24) dX8_isSignByte_24 rfl ?_
          refine go_bipush (v := 62) (pc := 25) dX8_isSignByte_25 (by decide) ?_
          refine go_icmp_eq (tgt := 36) (pc := 27) dX8_isSignByte_27 (by decide) (fun h_27 => ?_) (fun h_27 => ?_)
          · refine go_iconst (v := 1) (pc := 36) dX8_isSignByte_36 (by decide) ?_
            refine go_goto (tgt := 41) (pc := 37) dX8_isSignByte_37 (by decide) ?_
            refine go_istore_n (lw := [_, _]) (pc := 41) dX8_isSignByte_41 (by decide) rfl ?_
            refine go_iload_n (pc := 42) dX8_isSignByte_42 rfl ?_
            refine go_if_ne (tgt := 82) (pc := 43) dX8_isSignByte_43 (by decide) (fun h_43 => ?_) (fun h_43 => ?_)
            · refine go_iconst (v := 1) (pc := 82) dX8_isSignByte_82 (by decide) ?_
              refine go_goto (tgt := 87) (pc := 83) dX8_isSignByte_83 (by decide) ?_
              exact go_zretP (pc := 87) rfl (by first | rfl | exact nb_bI) dX8_isSignByte_87 (Nat.le_of_ble_eq_true rfl) (Nat.le_of_ble_eq_true rfl) (by first | (refine (bI_t ?_).symm; simp_all [isSg]; done) | (refine (bI_f ?_).symm; simp_all [isSg]; done))
            · refine go_iload_n (pc := 46) dX8_isSignByte_46 rfl ?_
              refine go_bipush (v := 59) (pc := 47) dX8_isSignByte_47 (by decide) ?_
              refine go_icmp_eq (tgt := 82) (pc := 49) dX8_isSignByte_49 (by decide) (fun h_49 => ?_) (fun h_49 => ?_)
              · refine go_iconst (v := 1) (pc := 82) dX8_isSignByte_82 (by decide) ?_
                refine go_goto (tgt := 87) (pc := 83) dX8_isSignByte_83 (by decide) ?_
                exact go_zretP (pc := 87) rfl (by first | rfl | exact nb_bI) dX8_isSignByte_87 (Nat.le_of_ble_eq_true rfl) (Nat.le_of_ble_eq_true rfl) (by first | (refine (bI_t ?_).symm; simp_all [isSg]; done) | (refine (bI_f ?_).symm; simp_all [isSg]; done))
              · refine go_iload_n (pc := 52) dX8_isSignByte_52 rfl ?_
                refine go_bipush (v := 43) (pc := 53) dX8_isSignByte_53 (by decide) ?_
                refine go_icmp_eq (tgt := 82) (pc := 55) dX8_isSignByte_55 (by decide) (fun h_55 => ?_) (fun h_55 => ?_)
                · refine go_iconst (v := 1) (pc := 82) dX8_isSignByte_82 (by decide) ?_
                  refine go_goto (tgt := 87) (pc := 83) dX8_isSignByte_83 (by decide) ?_
                  exact go_zretP (pc := 87) rfl (by first | rfl | exact nb_bI) dX8_isSignByte_87 (Nat.le_of_ble_eq_true rfl) (Nat.le_of_ble_eq_true rfl) (by first | (refine (bI_t ?_).symm; simp_all [isSg]; done) | (refine (bI_f ?_).symm; simp_all [isSg]; done))
                · refine go_iload_n (pc := 58) dX8_isSignByte_58 rfl ?_
                  refine go_bipush (v := 45) (pc := 59) dX8_isSignByte_59 (by decide) ?_
                  refine go_icmp_eq (tgt := 82) (pc := 61) dX8_isSignByte_61 (by decide) (fun h_61 => ?_) (fun h_61 => ?_)
                  · refine go_iconst (v := 1) (pc := 82) dX8_isSignByte_82 (by decide) ?_
                    refine go_goto (tgt := 87) (pc := 83) dX8_isSignByte_83 (by decide) ?_
                    exact go_zretP (pc := 87) rfl (by first | rfl | exact nb_bI) dX8_isSignByte_87 (Nat.le_of_ble_eq_true rfl) (Nat.le_of_ble_eq_true rfl) (by first | (refine (bI_t ?_).symm; simp_all [isSg]; done) | (refine (bI_f ?_).symm; simp_all [isSg]; done))
                  · refine go_iload_n (pc := 64) dX8_isSignByte_64 rfl ?_
                    refine go_bipush (v := 42) (pc := 65) dX8_isSignByte_65 (by decide) ?_
                    refine go_icmp_eq (tgt := 82) (pc := 67) dX8_isSignByte_67 (by decide) (fun h_67 => ?_) (fun h_67 => ?_)
                    · refine go_iconst (v := 1) (pc := 82) dX8_isSignByte_82 (by decide) ?_
                      refine go_goto (tgt := 87) (pc := 83) dX8_isSignByte_83 (by decide) ?_
                      exact go_zretP (pc := 87) rfl (by first | rfl | exact nb_bI) dX8_isSignByte_87 (Nat.le_of_ble_eq_true rfl) (Nat.le_of_ble_eq_true rfl) (by first | (refine (bI_t ?_).symm; simp_all [isSg]; done) | (refine (bI_f ?_).symm; simp_all [isSg]; done))
                    · refine go_iload_n (pc := 70) dX8_isSignByte_70 rfl ?_
                      refine go_bipush (v := 40) (pc := 71) dX8_isSignByte_71 (by decide) ?_
                      refine go_icmp_eq (tgt := 82) (pc := 73) dX8_isSignByte_73 (by decide) (fun h_73 => ?_) (fun h_73 => ?_)
                      · refine go_iconst (v := 1) (pc := 82) dX8_isSignByte_82 (by decide) ?_
                        refine go_goto (tgt := 87) (pc := 83) dX8_isSignByte_83 (by decide) ?_
                        exact go_zretP (pc := 87) rfl (by first | rfl | exact nb_bI) dX8_isSignByte_87 (Nat.le_of_ble_eq_true rfl) (Nat.le_of_ble_eq_true rfl) (by first | (refine (bI_t ?_).symm; simp_all [isSg]; done) | (refine (bI_f ?_).symm; simp_all [isSg]; done))
                      · refine go_iload_n (pc := 76) dX8_isSignByte_76 rfl ?_
                        refine go_bipush (v := 41) (pc := 77) dX8_isSignByte_77 (by decide) ?_
                        refine go_icmp_ne (tgt := 86) (pc := 79) dX8_isSignByte_79 (by decide) (fun h_79 => ?_) (fun h_79 => ?_)
                        · refine go_iconst (v := 0) (pc := 86) dX8_isSignByte_86 (by decide) ?_
                          exact go_zretP (pc := 87) rfl (by first | rfl | exact nb_bI) dX8_isSignByte_87 (Nat.le_of_ble_eq_true rfl) (Nat.le_of_ble_eq_true rfl) (by first | (refine (bI_t ?_).symm; simp_all [isSg]; done) | (refine (bI_f ?_).symm; simp_all [isSg]; done))
                        · refine go_iconst (v := 1) (pc := 82) dX8_isSignByte_82 (by decide) ?_
                          refine go_goto (tgt := 87) (pc := 83) dX8_isSignByte_83 (by decide) ?_
                          exact go_zretP (pc := 87) rfl (by first | rfl | exact nb_bI) dX8_isSignByte_87 (Nat.le_of_ble_eq_true rfl) (Nat.le_of_ble_eq_true rfl) (by first | (refine (bI_t ?_).symm; simp_all [isSg]; done) | (refine (bI_f ?_).symm; simp_all [isSg]; done))
          · refine go_iload_n (pc := 30) dX8_isSignByte_30 rfl ?_
            refine go_bipush (v := 58) (pc := 31) dX8_isSignByte_31 (by decide) ?_
            refine go_icmp_ne (tgt := 40) (pc := 33) dX8_isSignByte_33 (by decide) (fun h_33 => ?_) (fun h_33 => ?_)
            · refine go_iconst (v := 0) (pc := 40) dX8_isSignByte_40 (by decide) ?_
              refine go_istore_n (lw := [_, _]) (pc := 41) dX8_isSignByte_41 (by decide) rfl ?_
              refine go_iload_n (pc := 42) dX8_isSignByte_42 rfl ?_
              refine go_if_ne (tgt := 82) (pc := 43) dX8_isSignByte_43 (by decide) (fun h_43 => ?_) (fun h_43 => ?_)
              · refine go_iconst (v := 1) (pc := 82) dX8_isSignByte_82 (by decide) ?_
                refine go_goto (tgt := 87) (pc := 83) dX8_isSignByte_83 (by decide) ?_
                exact go_zretP (pc := 87) rfl (by first | rfl | exact nb_bI) dX8_isSignByte_87 (Nat.le_of_ble_eq_true rfl) (Nat.le_of_ble_eq_true rfl) (by first | (refine (bI_t ?_).symm; simp_all [isSg]; done) | (refine (bI_f ?_).symm; simp_all [isSg]; done))
              · refine go_iload_n (pc := 46) dX8_isSignByte_46 rfl ?_
                refine go_bipush (v := 59) (pc := 47) dX8_isSignByte_47 (by decide) ?_
                refine go_icmp_eq (tgt := 82) (pc := 49) dX8_isSignByte_49 (by decide) (fun h_49 => ?_) (fun h_49 => ?_)
                · refine go_iconst (v := 1) (pc := 82) dX8_isSignByte_82 (by decide) ?_
                  refine go_goto (tgt := 87) (pc := 83) dX8_isSignByte_83 (by decide) ?_
                  exact go_zretP (pc := 87) rfl (by first | rfl | exact nb_bI) dX8_isSignByte_87 (Nat.le_of_ble_eq_true rfl) (Nat.le_of_ble_eq_true rfl) (by first | (refine (bI_t ?_).symm; simp_all [isSg]; done) | (refine (bI_f ?_).symm; simp_all [isSg]; done))
                · refine go_iload_n (pc := 52) dX8_isSignByte_52 rfl ?_
                  refine go_bipush (v := 43) (pc := 53) dX8_isSignByte_53 (by decide) ?_
                  refine go_icmp_eq (tgt := 82) (pc := 55) dX8_isSignByte_55 (by decide) (fun h_55 => ?_) (fun h_55 => ?_)
                  · refine go_iconst (v := 1) (pc := 82) dX8_isSignByte_82 (by decide) ?_
                    refine go_goto (tgt := 87) (pc := 83) dX8_isSignByte_83 (by decide) ?_
                    exact go_zretP (pc := 87) rfl (by first | rfl | exact nb_bI) dX8_isSignByte_87 (Nat.le_of_ble_eq_true rfl) (Nat.le_of_ble_eq_true rfl) (by first | (refine (bI_t ?_).symm; simp_all [isSg]; done) | (refine (bI_f ?_).symm; simp_all [isSg]; done))
                  · refine go_iload_n (pc := 58) dX8_isSignByte_58 rfl ?_
                    refine go_bipush (v := 45) (pc := 59) dX8_isSignByte_59 (by decide) ?_
                    refine go_icmp_eq (tgt := 82) (pc := 61) dX8_isSignByte_61 (by decide) (fun h_61 => ?_) (fun h_61 => ?_)
                    · refine go_iconst (v := 1) (pc := 82) dX8_isSignByte_82 (by decide) ?_
                      refine go_goto (tgt := 87) (pc := 83) dX8_isSignByte_83 (by decide) ?_
                      exact go_zretP (pc := 87) rfl (by first | rfl | exact nb_bI) dX8_isSignByte_87 (Nat.le_of_ble_eq_true rfl) (Nat.le_of_ble_eq_true rfl) (by first | (refine (bI_t ?_).symm; simp_all [isSg]; done) | (refine (bI_f ?_).symm; simp_all [isSg]; done))
                    · refine go_iload_n (pc := 64) dX8_isSignByte_64 rfl ?_
                      refine go_bipush (v := 42) (pc := 65) dX8_isSignByte_65 (by decide) ?_
                      refine go_icmp_eq (tgt := 82) (pc := 67) dX8_isSignByte_67 (by decide) (fun h_67 => ?_) (fun h_67 => ?_)
                      · refine go_iconst (v := 1) (pc := 82) dX8_isSignByte_82 (by decide) ?_
                        refine go_goto (tgt := 87) (pc := 83) dX8_isSignByte_83 (by decide) ?_
                        exact go_zretP (pc := 87) rfl (by first | rfl | exact nb_bI) dX8_isSignByte_87 (Nat.le_of_ble_eq_true rfl) (Nat.le_of_ble_eq_true rfl) (by first | (refine (bI_t ?_).symm; simp_all [isSg]; done) | (refine (bI_f ?_).symm; simp_all [isSg]; done))
                      · refine go_iload_n (pc := 70) dX8_isSignByte_70 rfl ?_
                        refine go_bipush (v := 40) (pc := 71) dX8_isSignByte_71 (by decide) ?_
                        refine go_icmp_eq (tgt := 82) (pc := 73) dX8_isSignByte_73 (by decide) (fun h_73 => ?_) (fun h_73 => ?_)
                        · refine go_iconst (v := 1) (pc := 82) dX8_isSignByte_82 (by decide) ?_
                          refine go_goto (tgt := 87) (pc := 83) dX8_isSignByte_83 (by decide) ?_
                          exact go_zretP (pc := 87) rfl (by first | rfl | exact nb_bI) dX8_isSignByte_87 (Nat.le_of_ble_eq_true rfl) (Nat.le_of_ble_eq_true rfl) (by first | (refine (bI_t ?_).symm; simp_all [isSg]; done) | (refine (bI_f ?_).symm; simp_all [isSg]; done))
                        · refine go_iload_n (pc := 76) dX8_isSignByte_76 rfl ?_
                          refine go_bipush (v := 41) (pc := 77) dX8_isSignByte_77 (by decide) ?_
                          refine go_icmp_ne (tgt := 86) (pc := 79) dX8_isSignByte_79 (by decide) (fun h_79 => ?_) (fun h_79 => ?_)
                          · refine go_iconst (v := 0) (pc := 86) dX8_isSignByte_86 (by decide) ?_
                            exact go_zretP (pc := 87) rfl (by first | rfl | exact nb_bI) dX8_isSignByte_87 (Nat.le_of_ble_eq_true rfl) (Nat.le_of_ble_eq_true rfl) (by first | (refine (bI_t ?_).symm; simp_all [isSg]; done) | (refine (bI_f ?_).symm; simp_all [isSg]; done))
                          · refine go_iconst (v := 1) (pc := 82) dX8_isSignByte_82 (by decide) ?_
                            refine go_goto (tgt := 87) (pc := 83) dX8_isSignByte_83 (by decide) ?_
                            exact go_zretP (pc := 87) rfl (by first | rfl | exact nb_bI) dX8_isSignByte_87 (Nat.le_of_ble_eq_true rfl) (Nat.le_of_ble_eq_true rfl) (by first | (refine (bI_t ?_).symm; simp_all [isSg]; done) | (refine (bI_f ?_).symm; simp_all [isSg]; done))
            · refine go_iconst (v := 1) (pc := 36) dX8_isSignByte_36 (by decide) ?_
              refine go_goto (tgt := 41) (pc := 37) dX8_isSignByte_37 (by decide) ?_
              refine go_istore_n (lw := [_, _]) (pc := 41) dX8_isSignByte_41 (by decide) rfl ?_
              refine go_iload_n (pc := 42) dX8_isSignByte_42 rfl ?_
              refine go_if_ne (tgt := 82) (pc := 43) dX8_isSignByte_43 (by decide) (fun h_43 => ?_) (fun h_43 => ?_)
              · refine go_iconst (v := 1) (pc := 82) dX8_isSignByte_82 (by decide) ?_
                refine go_goto (tgt := 87) (pc := 83) dX8_isSignByte_83 (by decide) ?_
                exact go_zretP (pc := 87) rfl (by first | rfl | exact nb_bI) dX8_isSignByte_87 (Nat.le_of_ble_eq_true rfl) (Nat.le_of_ble_eq_true rfl) (by first | (refine (bI_t ?_).symm; simp_all [isSg]; done) | (refine (bI_f ?_).symm; simp_all [isSg]; done))
              · refine go_iload_n (pc := 46) dX8_isSignByte_46 rfl ?_
                refine go_bipush (v := 59) (pc := 47) dX8_isSignByte_47 (by decide) ?_
                refine go_icmp_eq (tgt := 82) (pc := 49) dX8_isSignByte_49 (by decide) (fun h_49 => ?_) (fun h_49 => ?_)
                · refine go_iconst (v := 1) (pc := 82) dX8_isSignByte_82 (by decide) ?_
                  refine go_goto (tgt := 87) (pc := 83) dX8_isSignByte_83 (by decide) ?_
                  exact go_zretP (pc := 87) rfl (by first | rfl | exact nb_bI) dX8_isSignByte_87 (Nat.le_of_ble_eq_true rfl) (Nat.le_of_ble_eq_true rfl) (by first | (refine (bI_t ?_).symm; simp_all [isSg]; done) | (refine (bI_f ?_).symm; simp_all [isSg]; done))
                · refine go_iload_n (pc := 52) dX8_isSignByte_52 rfl ?_
                  refine go_bipush (v := 43) (pc := 53) dX8_isSignByte_53 (by decide) ?_
                  refine go_icmp_eq (tgt := 82) (pc := 55) dX8_isSignByte_55 (by decide) (fun h_55 => ?_) (fun h_55 => ?_)
                  · refine go_iconst (v := 1) (pc := 82) dX8_isSignByte_82 (by decide) ?_
                    refine go_goto (tgt := 87) (pc := 83) dX8_isSignByte_83 (by decide) ?_
                    exact go_zretP (pc := 87) rfl (by first | rfl | exact nb_bI) dX8_isSignByte_87 (Nat.le_of_ble_eq_true rfl) (Nat.le_of_ble_eq_true rfl) (by first | (refine (bI_t ?_).symm; simp_all [isSg]; done) | (refine (bI_f ?_).symm; simp_all [isSg]; done))
                  · refine go_iload_n (pc := 58) dX8_isSignByte_58 rfl ?_
                    refine go_bipush (v := 45) (pc := 59) dX8_isSignByte_59 (by decide) ?_
                    refine go_icmp_eq (tgt := 82) (pc := 61) dX8_isSignByte_61 (by decide) (fun h_61 => ?_) (fun h_61 => ?_)
                    · refine go_iconst (v := 1) (pc := 82) dX8_isSignByte_82 (by decide) ?_
                      refine go_goto (tgt := 87) (pc := 83) dX8_isSignByte_83 (by decide) ?_
                      exact go_zretP (pc := 87) rfl (by first | rfl | exact nb_bI) dX8_isSignByte_87 (Nat.le_of_ble_eq_true rfl) (Nat.le_of_ble_eq_true rfl) (by first | (refine (bI_t ?_).symm; simp_all [isSg]; done) | (refine (bI_f ?_).symm; simp_all [isSg]; done))
                    · refine go_iload_n (pc := 64) dX8_isSignByte_64 rfl ?_
                      refine go_bipush (v := 42) (pc := 65) dX8_isSignByte_65 (by decide) ?_
                      refine go_icmp_eq (tgt := 82) (pc := 67) dX8_isSignByte_67 (by decide) (fun h_67 => ?_) (fun h_67 => ?_)
                      · refine go_iconst (v := 1) (pc := 82) dX8_isSignByte_82 (by decide) ?_
                        refine go_goto (tgt := 87) (pc := 83) dX8_isSignByte_83 (by decide) ?_
                        exact go_zretP (pc := 87) rfl (by first | rfl | exact nb_bI) dX8_isSignByte_87 (Nat.le_of_ble_eq_true rfl) (Nat.le_of_ble_eq_true rfl) (by first | (refine (bI_t ?_).symm; simp_all [isSg]; done) | (refine (bI_f ?_).symm; simp_all [isSg]; done))
                      · refine go_iload_n (pc := 70) dX8_isSignByte_70 rfl ?_
                        refine go_bipush (v := 40) (pc := 71) dX8_isSignByte_71 (by decide) ?_
                        refine go_icmp_eq (tgt := 82) (pc := 73) dX8_isSignByte_73 (by decide) (fun h_73 => ?_) (fun h_73 => ?_)
                        · refine go_iconst (v := 1) (pc := 82) dX8_isSignByte_82 (by decide) ?_
                          refine go_goto (tgt := 87) (pc := 83) dX8_isSignByte_83 (by decide) ?_
                          exact go_zretP (pc := 87) rfl (by first | rfl | exact nb_bI) dX8_isSignByte_87 (Nat.le_of_ble_eq_true rfl) (Nat.le_of_ble_eq_true rfl) (by first | (refine (bI_t ?_).symm; simp_all [isSg]; done) | (refine (bI_f ?_).symm; simp_all [isSg]; done))
                        · refine go_iload_n (pc := 76) dX8_isSignByte_76 rfl ?_
                          refine go_bipush (v := 41) (pc := 77) dX8_isSignByte_77 (by decide) ?_
                          refine go_icmp_ne (tgt := 86) (pc := 79) dX8_isSignByte_79 (by decide) (fun h_79 => ?_) (fun h_79 => ?_)
                          · refine go_iconst (v := 0) (pc := 86) dX8_isSignByte_86 (by decide) ?_
                            exact go_zretP (pc := 87) rfl (by first | rfl | exact nb_bI) dX8_isSignByte_87 (Nat.le_of_ble_eq_true rfl) (Nat.le_of_ble_eq_true rfl) (by first | (refine (bI_t ?_).symm; simp_all [isSg]; done) | (refine (bI_f ?_).symm; simp_all [isSg]; done))
                          · refine go_iconst (v := 1) (pc := 82) dX8_isSignByte_82 (by decide) ?_
                            refine go_goto (tgt := 87) (pc := 83) dX8_isSignByte_83 (by decide) ?_
                            exact go_zretP (pc := 87) rfl (by first | rfl | exact nb_bI) dX8_isSignByte_87 (Nat.le_of_ble_eq_true rfl) (Nat.le_of_ble_eq_true rfl) (by first | (refine (bI_t ?_).symm; simp_all [isSg]; done) | (refine (bI_f ?_).symm; simp_all [isSg]; done))
section TokF
variable {f_q F : row} {N h_q : Nat}
theorem tok_0 (hh : N ≤ h_q) (h9_q : F 9 = nI N) (h10 : F 10 = 0) : tokF f_q N F (tkn f_q N h_q) := by
  rw [tkn_0 hh]
  exact ⟨h9_q, h10⟩
theorem tok_l (c_q : h_q < N) (hl : ltr (f_q h_q) = true) (h8_q : F 8 = nI (rn ltr f_q N (h_q + 1))) (h9_q : F 9 = nI h_q) (h10 : F 10 = 1) : tokF f_q N F (tkn f_q N h_q) := by
  have g1_q : h_q + 1 ≤ rn ltr f_q N (h_q + 1) := rn_ge
  rw [tkn_l c_q hl]
  exact ⟨h9_q, _, rn_le (by omega), g1_q, h8_q, rfl, Or.inl ⟨h10, rfl⟩⟩
theorem tok_d (c_q : h_q < N) (hl : ¬ ltr (f_q h_q) = true) (hd_q : dgt (f_q h_q) = true) (h8_q : F 8 = nI (rn dgt f_q N (h_q + 1))) (h9_q : F 9 = nI h_q) (h10 : F 10 = if 3 < rn dgt f_q N (h_q + 1) - h_q then 3 else 2) (h11 : F 11 = rv f_q h_q (rn dgt f_q N (h_q + 1) - h_q)) : tokF f_q N F (tkn f_q N h_q) := by
  have g1_q : h_q + 1 ≤ rn dgt f_q N (h_q + 1) := rn_ge
  rw [tkn_d c_q hl hd_q]
  refine ⟨h9_q, _, rn_le (by omega), g1_q, h8_q, rfl, ?_⟩
  by_cases e_q : 3 < rn dgt f_q N (h_q + 1) - h_q
  · rw [if_pos e_q] at h10
    exact Or.inr (Or.inr (Or.inl ⟨h10, if_pos e_q⟩))
  · rw [if_neg e_q] at h10
    refine Or.inr (Or.inl ⟨h10, if_neg e_q, ?_⟩)
    rw [h11, rv_dv (by omega) (by omega) (fun j hj_q => ?_)]
    · show dv f_q h_q _ = dv f_q h_q _
      rw [show rn dgt f_q N (h_q + 1) - h_q - 1 = rn dgt f_q N (h_q + 1) - (h_q + 1) by omega]
    · by_cases e0 : j = 0
      · subst e0; exact hd_q
      · exact rn_all (N := N) (h := h_q + 1) (by omega) (by omega)
theorem tok_s (c_q : h_q < N) (hl : ¬ ltr (f_q h_q) = true) (hd_q : ¬ dgt (f_q h_q) = true) (hw_q : ¬ wsp (f_q h_q) = true) (h8_q : F 8 = nI (h_q + 1)) (h9_q : F 9 = nI h_q) (h10 : F 10 = if isSg (f_q h_q) = true then f_q h_q else 3) : tokF f_q N F (tkn f_q N h_q) := by
  rw [tkn_s c_q hl hd_q (by simpa [wsp] using hw_q)]
  refine ⟨h9_q, h_q + 1, c_q, Nat.lt_succ_self _, h8_q, rfl, ?_⟩
  by_cases e_q : isSg (f_q h_q) = true
  · rw [if_pos e_q] at h10
    refine Or.inr (Or.inr (Or.inr ⟨?_, ?_⟩))
    · show isSg (if isSg (f_q h_q) = true then f_q h_q else 1) = true
      rw [if_pos e_q]; exact e_q
    · show F 10 = (if isSg (f_q h_q) = true then f_q h_q else 1)
      rw [if_pos e_q]; exact h10
  · rw [if_neg e_q] at h10
    exact Or.inr (Or.inr (Or.inl ⟨h10, if_neg e_q⟩))
end TokF
theorem rd_52 {Γ : gam} {z0 σ : sto} {n k r_q N h_q : Nat} {F F0 K : row} {A : Nat → row} {Nm : Nat → Int64} (hM_q : MoAt Γ σ r_q F K A Nm) (hf_q : fr r_q (r_q + 16) z0 σ) (hN_q : N ≤ 900) (hL : F 7 = nI N) (hH : F 8 = nI h_q) (hh : h_q ≤ N) (hw_q : h_q < N → ¬ wsp (A 5 h_q) = true) (hF : ∀ j, (j < 8 ∨ 11 < j) → F j = F0 j) (hk : 1 ≤ k) : Go Γ (rmk k 0 0) uX8_readsOn (qV fun σ' n' => n' = n ∧ ∃ F' : row, MoAt Γ σ' r_q F' K A Nm ∧ tokF (A 5) N F' (tkn (A 5) N h_q) ∧ (∀ j, (j < 8 ∨ 11 < j) → F' j = F0 j) ∧ fr r_q (r_q + 16) z0 σ') 0 0 52 [some (.ref r_q), none] [] σ n := by
  refine go_aload_n (pc := 52) dX8_readsOn_52 rfl ?_
  refine go_aload_n (pc := 53) dX8_readsOn_53 rfl ?_
  refine go_getf (pc := 54) f_X8_73 dX8_readsOn_54 (by first | exact mo0 hM_q | exact mo5 hM_q) (by rfl) ?_
  refine go_mpf9 (pc := 57) hM_q dX8_readsOn_57 (fun σ hM_q hf9 => ?_)
  have hf_q := hf_q.tr hf9
  obtain ⟨F1, hM_q, e8_q, e9_q, e7_q, eF⟩ : ∃ F1 : row, MoAt Γ σ r_q F1 K A Nm ∧ (F1 8 = nI h_q) ∧ (F1 9 = nI h_q) ∧ (F1 7 = nI N) ∧ (∀ j, (j < 8 ∨ 11 < j) → F1 j = F0 j) := ⟨_, hM_q, (by simp [upd, hH]), (by simp [upd, hH]), (by simp [upd, hL]), (fun j hj_q => by rw [pk_un (by omega)]; exact hF j hj_q)⟩
  refine go_aload_n (pc := 60) dX8_readsOn_60 rfl ?_
  refine go_getf (pc := 61) f_X8_73 dX8_readsOn_61 (by first | exact mo0 hM_q | exact mo5 hM_q) (by rfl) ?_
  refine go_aload_n (pc := 64) dX8_readsOn_64 rfl ?_
  refine go_getf (pc := 65) f_X8_70 dX8_readsOn_65 (by first | exact mo0 hM_q | exact mo5 hM_q) (by rfl) ?_
  rw [e8_q, e7_q]
  refine go_icmp_lt (tgt := 77) (pc := 68) dX8_readsOn_68 (by decide) (fun h_68 => ?_) (fun h_68 => ?_)
  · have hlt : h_q < N := (nI_ltI (by omega) (by omega)).mp h_68
    have gl1 : h_q + 1 ≤ rn ltr (A 5) N (h_q + 1) := rn_ge
    have gl2 : rn ltr (A 5) N (h_q + 1) ≤ N := rn_le (by omega)
    have gd1 : h_q + 1 ≤ rn dgt (A 5) N (h_q + 1) := rn_ge
    have gd2 : rn dgt (A 5) N (h_q + 1) ≤ N := rn_le (by omega)
    refine go_aload_n (pc := 77) dX8_readsOn_77 rfl ?_
    refine go_getf (pc := 78) f_X8_23 dX8_readsOn_78 (by first | exact mo0 hM_q | exact mo5 hM_q) (by rfl) ?_
    refine go_aload_n (pc := 81) dX8_readsOn_81 rfl ?_
    refine go_getf (pc := 82) f_X8_73 dX8_readsOn_82 (by first | exact mo0 hM_q | exact mo5 hM_q) (by rfl) ?_
    refine go_iald (pc := 85) dX8_readsOn_85 (by first | exact mo0 hM_q | exact mo5 hM_q) (by exact ⟨e8_q, by omega⟩) ?_
    refine go_istore_n (lw := [_, _]) (pc := 86) dX8_readsOn_86 (by decide) rfl ?_
    refine go_iload_n (pc := 87) dX8_readsOn_87 rfl ?_
    refine go_S1P (pc := 88) s_X8_82 rfl rfl dX8_readsOn_88 (sp_isLet (k := k - 1) _) ?_
    refine go_if_eq (tgt := 129) (pc := 91) dX8_readsOn_91 (by decide) (fun h_91 => ?_) (fun h_91 => ?_)
    · have hNL : ¬ ltr (A 5 h_q) = true := bI_0.mp h_91
      refine go_iload_n (pc := 129) dX8_readsOn_129 rfl ?_
      refine go_S1P (pc := 130) s_X8_90 rfl rfl dX8_readsOn_130 (sp_isDig (k := k - 1) _) ?_
      refine go_if_eq (tgt := 237) (pc := 133) dX8_readsOn_133 (by decide) (fun h_133 => ?_) (fun h_133 => ?_)
      · have hNd : ¬ dgt (A 5 h_q) = true := bI_0.mp h_133
        have hNw := hw_q hlt
        refine go_aload_n (pc := 237) dX8_readsOn_237 rfl ?_
        refine go_iload_n (pc := 238) dX8_readsOn_238 rfl ?_
        refine go_S1P (pc := 239) s_X8_96 rfl rfl dX8_readsOn_239 (sp_sgB (k := k - 1) _) ?_
        refine go_if_eq (tgt := 249) (pc := 242) dX8_readsOn_242 (by decide) (fun h_242 => ?_) (fun h_242 => ?_)
        · refine go_iconst (v := 3) (pc := 249) dX8_readsOn_249 (by decide) ?_
          refine go_mpf10 (pc := 250) hM_q dX8_readsOn_250 (fun σ hM_q hf9 => ?_)
          have hf_q := hf_q.tr hf9
          obtain ⟨F3, hM_q, t8, t10, tF⟩ : ∃ F3 : row, MoAt Γ σ r_q F3 K A Nm ∧ F3 8 = nI h_q ∧ F3 10 = (if isSg (A 5 h_q) = true then A 5 h_q else 3) ∧ ∀ j, j ≠ 10 → F3 j = F1 j := by
            first
              | (have g242 : bI (isSg (A 5 h_q) = true) = 0 := h_242
                 exact ⟨_, hM_q, (by rw [pk_un (by decide)]; exact e8_q), (by rw [pk_us, if_neg (bI_0.mp g242)]), fun j hj_q => pk_un hj_q⟩)
              | (have g242 : ¬ bI (isSg (A 5 h_q) = true) = 0 := h_242
                 exact ⟨_, hM_q, (by rw [pk_un (by decide)]; exact e8_q), (by rw [pk_us, if_pos (Decidable.not_not.mp (fun hc_q => g242 (bI_0.mpr hc_q)))]), fun j hj_q => pk_un hj_q⟩)
          refine go_aload_n (pc := 253) dX8_readsOn_253 rfl ?_
          refine go_dup (pc := 254) dX8_readsOn_254 rfl ?_
          refine go_getf (pc := 255) f_X8_73 dX8_readsOn_255 (by first | exact mo0 hM_q | exact mo5 hM_q) (by rfl) ?_
          refine go_iconst (v := 1) (pc := 258) dX8_readsOn_258 (by decide) ?_
          refine go_iadd (pc := 259) dX8_readsOn_259 ?_
          rw [t8, nI_1]
          refine go_mpf8 (pc := 260) hM_q dX8_readsOn_260 (fun σ hM_q hf9 => ?_)
          have hf_q := hf_q.tr hf9
          exact go_vretV (pc := 263) rfl dX8_readsOn_263 (Nat.le_of_ble_eq_true rfl) (Nat.le_of_ble_eq_true rfl) ⟨rfl, _, hM_q, tok_s hlt hNL hNd hNw pk_us (by rw [pk_un (by decide), tF 9 (by decide)]; exact e9_q) (by rw [pk_un (by decide)]; exact t10), fun j hj_q => by rw [pk_un (by omega), tF j (by omega)]; exact eF j hj_q, hf_q⟩
        · refine go_iload_n (pc := 245) dX8_readsOn_245 rfl ?_
          refine go_goto (tgt := 250) (pc := 246) dX8_readsOn_246 (by decide) ?_
          refine go_mpf10 (pc := 250) hM_q dX8_readsOn_250 (fun σ hM_q hf9 => ?_)
          have hf_q := hf_q.tr hf9
          obtain ⟨F3, hM_q, t8, t10, tF⟩ : ∃ F3 : row, MoAt Γ σ r_q F3 K A Nm ∧ F3 8 = nI h_q ∧ F3 10 = (if isSg (A 5 h_q) = true then A 5 h_q else 3) ∧ ∀ j, j ≠ 10 → F3 j = F1 j := by
            first
              | (have g242 : bI (isSg (A 5 h_q) = true) = 0 := h_242
                 exact ⟨_, hM_q, (by rw [pk_un (by decide)]; exact e8_q), (by rw [pk_us, if_neg (bI_0.mp g242)]), fun j hj_q => pk_un hj_q⟩)
              | (have g242 : ¬ bI (isSg (A 5 h_q) = true) = 0 := h_242
                 exact ⟨_, hM_q, (by rw [pk_un (by decide)]; exact e8_q), (by rw [pk_us, if_pos (Decidable.not_not.mp (fun hc_q => g242 (bI_0.mpr hc_q)))]), fun j hj_q => pk_un hj_q⟩)
          refine go_aload_n (pc := 253) dX8_readsOn_253 rfl ?_
          refine go_dup (pc := 254) dX8_readsOn_254 rfl ?_
          refine go_getf (pc := 255) f_X8_73 dX8_readsOn_255 (by first | exact mo0 hM_q | exact mo5 hM_q) (by rfl) ?_
          refine go_iconst (v := 1) (pc := 258) dX8_readsOn_258 (by decide) ?_
          refine go_iadd (pc := 259) dX8_readsOn_259 ?_
          rw [t8, nI_1]
          refine go_mpf8 (pc := 260) hM_q dX8_readsOn_260 (fun σ hM_q hf9 => ?_)
          have hf_q := hf_q.tr hf9
          exact go_vretV (pc := 263) rfl dX8_readsOn_263 (Nat.le_of_ble_eq_true rfl) (Nat.le_of_ble_eq_true rfl) ⟨rfl, _, hM_q, tok_s hlt hNL hNd hNw pk_us (by rw [pk_un (by decide), tF 9 (by decide)]; exact e9_q) (by rw [pk_un (by decide)]; exact t10), fun j hj_q => by rw [pk_un (by omega), tF j (by omega)]; exact eF j hj_q, hf_q⟩
      · have hDig : dgt (A 5 h_q) = true := Decidable.not_not.mp (fun hc_q => h_133 (bI_0.mpr hc_q))
        refine go_aload_n (pc := 136) dX8_readsOn_136 rfl ?_
        refine go_iconst (v := 0) (pc := 137) dX8_readsOn_137 (by decide) ?_
        refine go_mpf11 (pc := 138) hM_q dX8_readsOn_138 (fun σ hM_q hf9 => ?_)
        have hf_q := hf_q.tr hf9
        obtain ⟨F2, hM_q, d8, d11, dF⟩ : ∃ F2 : row, MoAt Γ σ r_q F2 K A Nm ∧ (F2 8 = nI h_q) ∧ (F2 11 = 0) ∧ (∀ j, j ≠ 11 → F2 j = F1 j) := ⟨_, hM_q, (by simp [upd, e8_q]), (by simp [upd]), (fun j hj_q => pk_un hj_q)⟩
        refine go_iter (rn dgt (A 5) N (h_q + 1) - h_q) (fun i_q lv9 s9 n9 => ∃ (F9 : row), lv9 = [some (.ref r_q), some (.int (A 5 h_q))] ∧ (MoAt Γ s9 r_q F9 K A Nm) ∧ (F9 8 = nI (h_q + i_q)) ∧ (F9 11 = rv (A 5) h_q i_q) ∧ (∀ j, j ≠ 8 → j ≠ 11 → F9 j = F2 j) ∧ (fr r_q (r_q + 16) z0 s9) ∧ n = n9) ⟨F2, rfl, hM_q, d8, d11, (fun j _ _ => rfl), hf_q, rfl⟩ ?_ ?_
        · rintro i_q lv9 σ n9 hi_q ⟨F9, rfl, hM_q, q8, q11, qF, hf_q, rfl⟩ ih_q
          have q7 : F9 7 = nI N := ((qF 7 (by decide) (by decide)).trans (dF 7 (by decide))).trans e7_q
          have q9_q : F9 9 = nI h_q := ((qF 9 (by decide) (by decide)).trans (dF 9 (by decide))).trans e9_q
          refine go_aload_n (pc := 141) dX8_readsOn_141 rfl ?_
          refine go_aload_n (pc := 142) dX8_readsOn_142 rfl ?_
          refine go_getf (pc := 143) f_X8_73 dX8_readsOn_143 (by first | exact mo0 hM_q | exact mo5 hM_q) (by rfl) ?_
          rw [q8]
          refine go_V1P (pc := 146) v_X8_86 rfl rfl (rcv_of (ci := 8) (by first | exact mo0 hM_q | exact mo5 hM_q) rfl) dX8_readsOn_146 (sp_see (k := k - 1) hM_q hN_q q7 (by omega)) ?_
          rw [if_pos (show h_q + i_q < N by omega)]
          refine go_S1P (pc := 149) s_X8_90 rfl rfl dX8_readsOn_149 (sp_isDig (k := k - 1) _) ?_
          refine go_if_eq (tgt := 212) (pc := 152) dX8_readsOn_152 (by decide) (fun h_152 => by exfalso; exact bI_0.mp h_152 (by by_cases e0 : i_q = 0; (rw [e0]; exact hDig); exact rn_all (N := N) (h := h_q + 1) (by omega) (by omega))) (fun h_152 => ?_)
          refine go_aload_n (pc := 155) dX8_readsOn_155 rfl ?_
          refine go_aload_n (pc := 156) dX8_readsOn_156 rfl ?_
          refine go_getf (pc := 157) f_X8_73 dX8_readsOn_157 (by first | exact mo0 hM_q | exact mo5 hM_q) (by rfl) ?_
          refine go_aload_n (pc := 160) dX8_readsOn_160 rfl ?_
          refine go_getf (pc := 161) f_X8_76 dX8_readsOn_161 (by first | exact mo0 hM_q | exact mo5 hM_q) (by rfl) ?_
          refine go_isub (pc := 164) dX8_readsOn_164 ?_
          rw [q8, q9_q, show nI (h_q + i_q) - nI h_q = nI i_q from by rw [pk_sub (by omega)]; congr 1; omega]
          refine go_iconst (v := 3) (pc := 165) dX8_readsOn_165 (by decide) ?_
          refine go_icmp_ge (tgt := 192) (pc := 166) dX8_readsOn_166 (by decide) (fun h_166 => ?_) (fun h_166 => ?_)
          · refine go_aload_n (pc := 192) dX8_readsOn_192 rfl ?_
            refine go_getf (pc := 193) f_X8_93 dX8_readsOn_193 (by first | exact mo0 hM_q | exact mo5 hM_q) (by rfl) ?_
            refine go_mpf11 (pc := 196) hM_q dX8_readsOn_196 (fun σ hM_q hf9 => ?_)
            have hf_q := hf_q.tr hf9
            obtain ⟨F3, hM_q, t8, t11, tF⟩ : ∃ F3 : row, MoAt Γ σ r_q F3 K A Nm ∧ F3 8 = nI (h_q + i_q) ∧ F3 11 = rv (A 5) h_q (i_q + 1) ∧ ∀ j, j ≠ 11 → F3 j = F9 j := by
              first
                | (have g166 : (3 : Int32) ≤ nI i_q := h_166
                   have g3_q : 3 ≤ i_q := (nI_leI (a := 3) (by decide) (by omega)).mp g166
                   exact ⟨_, hM_q, (by rw [pk_un (by decide)]; exact q8), (by rw [pk_us, rv, if_neg (by omega)]; exact q11), fun j hj_q => pk_un hj_q⟩)
                | (have g166 : ¬ (3 : Int32) ≤ nI i_q := h_166
                   have g3_q : i_q < 3 := Nat.lt_of_not_le (fun hc_q => g166 (nI_le (a := 3) hc_q (by omega)))
                   exact ⟨_, hM_q, (by rw [pk_un (by decide)]; exact q8), (by rw [pk_us, rv, if_pos g3_q, q11]), fun j hj_q => pk_un hj_q⟩)
            refine go_aload_n (pc := 199) dX8_readsOn_199 rfl ?_
            refine go_dup (pc := 200) dX8_readsOn_200 rfl ?_
            refine go_getf (pc := 201) f_X8_73 dX8_readsOn_201 (by first | exact mo0 hM_q | exact mo5 hM_q) (by rfl) ?_
            refine go_iconst (v := 1) (pc := 204) dX8_readsOn_204 (by decide) ?_
            refine go_iadd (pc := 205) dX8_readsOn_205 ?_
            rw [t8, nI_1]
            refine go_mpf8 (pc := 206) hM_q dX8_readsOn_206 (fun σ hM_q hf9 => ?_)
            have hf_q := hf_q.tr hf9
            refine go_goto (tgt := 141) (pc := 209) dX8_readsOn_209 (by decide) ?_
            exact ih_q _ _ _ ⟨_, rfl, hM_q, pk_us, (by rw [pk_un (by decide)]; exact t11), fun j h1_q h2_q => (pk_un h1_q).trans ((tF j h2_q).trans (qF j h1_q h2_q)), hf_q, rfl⟩
          · refine go_bipush (v := 10) (pc := 169) dX8_readsOn_169 (by decide) ?_
            refine go_aload_n (pc := 171) dX8_readsOn_171 rfl ?_
            refine go_getf (pc := 172) f_X8_93 dX8_readsOn_172 (by first | exact mo0 hM_q | exact mo5 hM_q) (by rfl) ?_
            refine go_imul (pc := 175) dX8_readsOn_175 ?_
            refine go_aload_n (pc := 176) dX8_readsOn_176 rfl ?_
            refine go_getf (pc := 177) f_X8_23 dX8_readsOn_177 (by first | exact mo0 hM_q | exact mo5 hM_q) (by rfl) ?_
            refine go_aload_n (pc := 180) dX8_readsOn_180 rfl ?_
            refine go_getf (pc := 181) f_X8_73 dX8_readsOn_181 (by first | exact mo0 hM_q | exact mo5 hM_q) (by rfl) ?_
            refine go_iald (pc := 184) dX8_readsOn_184 (by first | exact mo0 hM_q | exact mo5 hM_q) (by exact ⟨q8, by omega⟩) ?_
            refine go_iadd (pc := 185) dX8_readsOn_185 ?_
            refine go_bipush (v := 48) (pc := 186) dX8_readsOn_186 (by decide) ?_
            refine go_isub (pc := 188) dX8_readsOn_188 ?_
            refine go_goto (tgt := 196) (pc := 189) dX8_readsOn_189 (by decide) ?_
            refine go_mpf11 (pc := 196) hM_q dX8_readsOn_196 (fun σ hM_q hf9 => ?_)
            have hf_q := hf_q.tr hf9
            obtain ⟨F3, hM_q, t8, t11, tF⟩ : ∃ F3 : row, MoAt Γ σ r_q F3 K A Nm ∧ F3 8 = nI (h_q + i_q) ∧ F3 11 = rv (A 5) h_q (i_q + 1) ∧ ∀ j, j ≠ 11 → F3 j = F9 j := by
              first
                | (have g166 : (3 : Int32) ≤ nI i_q := h_166
                   have g3_q : 3 ≤ i_q := (nI_leI (a := 3) (by decide) (by omega)).mp g166
                   exact ⟨_, hM_q, (by rw [pk_un (by decide)]; exact q8), (by rw [pk_us, rv, if_neg (by omega)]; exact q11), fun j hj_q => pk_un hj_q⟩)
                | (have g166 : ¬ (3 : Int32) ≤ nI i_q := h_166
                   have g3_q : i_q < 3 := Nat.lt_of_not_le (fun hc_q => g166 (nI_le (a := 3) hc_q (by omega)))
                   exact ⟨_, hM_q, (by rw [pk_un (by decide)]; exact q8), (by rw [pk_us, rv, if_pos g3_q, q11]), fun j hj_q => pk_un hj_q⟩)
            refine go_aload_n (pc := 199) dX8_readsOn_199 rfl ?_
            refine go_dup (pc := 200) dX8_readsOn_200 rfl ?_
            refine go_getf (pc := 201) f_X8_73 dX8_readsOn_201 (by first | exact mo0 hM_q | exact mo5 hM_q) (by rfl) ?_
            refine go_iconst (v := 1) (pc := 204) dX8_readsOn_204 (by decide) ?_
            refine go_iadd (pc := 205) dX8_readsOn_205 ?_
            rw [t8, nI_1]
            refine go_mpf8 (pc := 206) hM_q dX8_readsOn_206 (fun σ hM_q hf9 => ?_)
            have hf_q := hf_q.tr hf9
            refine go_goto (tgt := 141) (pc := 209) dX8_readsOn_209 (by decide) ?_
            exact ih_q _ _ _ ⟨_, rfl, hM_q, pk_us, (by rw [pk_un (by decide)]; exact t11), fun j h1_q h2_q => (pk_un h1_q).trans ((tF j h2_q).trans (qF j h1_q h2_q)), hf_q, rfl⟩
        · rintro lv9 σ n9 ⟨F9, rfl, hM_q, q8, q11, qF, hf_q, rfl⟩
          have q7 : F9 7 = nI N := ((qF 7 (by decide) (by decide)).trans (dF 7 (by decide))).trans e7_q
          have q9_q : F9 9 = nI h_q := ((qF 9 (by decide) (by decide)).trans (dF 9 (by decide))).trans e9_q
          have hEQ : h_q + (rn dgt (A 5) N (h_q + 1) - h_q) = rn dgt (A 5) N (h_q + 1) := by omega
          refine go_aload_n (pc := 141) dX8_readsOn_141 rfl ?_
          refine go_aload_n (pc := 142) dX8_readsOn_142 rfl ?_
          refine go_getf (pc := 143) f_X8_73 dX8_readsOn_143 (by first | exact mo0 hM_q | exact mo5 hM_q) (by rfl) ?_
          rw [q8]
          refine go_V1P (pc := 146) v_X8_86 rfl rfl (rcv_of (ci := 8) (by first | exact mo0 hM_q | exact mo5 hM_q) rfl) dX8_readsOn_146 (sp_see (k := k - 1) hM_q hN_q q7 (by omega)) ?_
          rw [hEQ]
          refine go_S1P (pc := 149) s_X8_90 rfl rfl dX8_readsOn_149 (sp_isDig (k := k - 1) _) ?_
          refine go_if_eq (tgt := 212) (pc := 152) dX8_readsOn_152 (by decide) (fun h_152 => ?_) (fun h_152 => by exfalso; exact h_152 (bI_0.mpr (by by_cases e0 : rn dgt (A 5) N (h_q + 1) < N; (rw [if_pos e0, rn_end e0]; decide); rw [if_neg e0]; decide)))
          refine go_aload_n (pc := 212) dX8_readsOn_212 rfl ?_
          refine go_aload_n (pc := 213) dX8_readsOn_213 rfl ?_
          refine go_getf (pc := 214) f_X8_73 dX8_readsOn_214 (by first | exact mo0 hM_q | exact mo5 hM_q) (by rfl) ?_
          refine go_aload_n (pc := 217) dX8_readsOn_217 rfl ?_
          refine go_getf (pc := 218) f_X8_76 dX8_readsOn_218 (by first | exact mo0 hM_q | exact mo5 hM_q) (by rfl) ?_
          refine go_isub (pc := 221) dX8_readsOn_221 ?_
          rw [q8, q9_q, hEQ, show nI (rn dgt (A 5) N (h_q + 1)) - nI h_q = nI (rn dgt (A 5) N (h_q + 1) - h_q) from pk_sub (by omega)]
          refine go_iconst (v := 3) (pc := 222) dX8_readsOn_222 (by decide) ?_
          refine go_icmp_le (tgt := 230) (pc := 223) dX8_readsOn_223 (by decide) (fun h_223 => ?_) (fun h_223 => ?_)
          · refine go_iconst (v := 2) (pc := 230) dX8_readsOn_230 (by decide) ?_
            refine go_mpf10 (pc := 231) hM_q dX8_readsOn_231 (fun σ hM_q hf9 => ?_)
            have hf_q := hf_q.tr hf9
            obtain ⟨F3, hM_q, t10, tF⟩ : ∃ F3 : row, MoAt Γ σ r_q F3 K A Nm ∧ F3 10 = (if 3 < rn dgt (A 5) N (h_q + 1) - h_q then 3 else 2) ∧ ∀ j, j ≠ 10 → F3 j = F9 j := by
              first
                | (have g150 : ¬ (nI (rn dgt (A 5) N (h_q + 1) - h_q) ≤ 3) := h_223
                   exact ⟨_, hM_q, (by rw [pk_us, if_pos (Nat.lt_of_not_le (fun hc_q => g150 (nI_le (b := 3) hc_q (by decide))))]), fun j hj_q => pk_un hj_q⟩)
                | (have g150 : nI (rn dgt (A 5) N (h_q + 1) - h_q) ≤ 3 := h_223
                   exact ⟨_, hM_q, (by rw [pk_us, if_neg (Nat.not_lt.mpr ((nI_leI (b := 3) (by omega) (by decide)).mp g150))]), fun j hj_q => pk_un hj_q⟩)
            refine go_goto (tgt := 263) (pc := 234) dX8_readsOn_234 (by decide) ?_
            exact go_vretV (pc := 263) rfl dX8_readsOn_263 (Nat.le_of_ble_eq_true rfl) (Nat.le_of_ble_eq_true rfl) ⟨rfl, _, hM_q, tok_d hlt hNL hDig (by rw [tF 8 (by decide), q8, hEQ]) (by rw [tF 9 (by decide)]; exact q9_q) t10 (by rw [tF 11 (by decide), q11]), fun j hj_q => by rw [tF j (by omega), qF j (by omega) (by omega), dF j (by omega)]; exact eF j hj_q, hf_q⟩
          · refine go_iconst (v := 3) (pc := 226) dX8_readsOn_226 (by decide) ?_
            refine go_goto (tgt := 231) (pc := 227) dX8_readsOn_227 (by decide) ?_
            refine go_mpf10 (pc := 231) hM_q dX8_readsOn_231 (fun σ hM_q hf9 => ?_)
            have hf_q := hf_q.tr hf9
            obtain ⟨F3, hM_q, t10, tF⟩ : ∃ F3 : row, MoAt Γ σ r_q F3 K A Nm ∧ F3 10 = (if 3 < rn dgt (A 5) N (h_q + 1) - h_q then 3 else 2) ∧ ∀ j, j ≠ 10 → F3 j = F9 j := by
              first
                | (have g150 : ¬ (nI (rn dgt (A 5) N (h_q + 1) - h_q) ≤ 3) := h_223
                   exact ⟨_, hM_q, (by rw [pk_us, if_pos (Nat.lt_of_not_le (fun hc_q => g150 (nI_le (b := 3) hc_q (by decide))))]), fun j hj_q => pk_un hj_q⟩)
                | (have g150 : nI (rn dgt (A 5) N (h_q + 1) - h_q) ≤ 3 := h_223
                   exact ⟨_, hM_q, (by rw [pk_us, if_neg (Nat.not_lt.mpr ((nI_leI (b := 3) (by omega) (by decide)).mp g150))]), fun j hj_q => pk_un hj_q⟩)
            refine go_goto (tgt := 263) (pc := 234) dX8_readsOn_234 (by decide) ?_
            exact go_vretV (pc := 263) rfl dX8_readsOn_263 (Nat.le_of_ble_eq_true rfl) (Nat.le_of_ble_eq_true rfl) ⟨rfl, _, hM_q, tok_d hlt hNL hDig (by rw [tF 8 (by decide), q8, hEQ]) (by rw [tF 9 (by decide)]; exact q9_q) t10 (by rw [tF 11 (by decide), q11]), fun j hj_q => by rw [tF j (by omega), qF j (by omega) (by omega), dF j (by omega)]; exact eF j hj_q, hf_q⟩
    · refine go_iter (rn ltr (A 5) N (h_q + 1) - h_q) (fun i_q lv9 s9 n9 => ∃ (F9 : row), lv9 = [some (.ref r_q), some (.int (A 5 h_q))] ∧ (MoAt Γ s9 r_q F9 K A Nm) ∧ (F9 8 = nI (h_q + i_q)) ∧ (∀ j, j ≠ 8 → F9 j = F1 j) ∧ (fr r_q (r_q + 16) z0 s9) ∧ n = n9) ⟨F1, rfl, hM_q, e8_q, (fun j _ => rfl), hf_q, rfl⟩ ?_ ?_
      · rintro i_q lv9 σ n9 hi_q ⟨F9, rfl, hM_q, q8, qF, hf_q, rfl⟩ ih_q
        have q7 := (qF 7 (by decide)).trans e7_q
        have hLet : ltr (A 5 h_q) = true := Decidable.not_not.mp (fun hc_q => h_91 (bI_0.mpr hc_q))
        refine go_aload_n (pc := 94) dX8_readsOn_94 rfl ?_
        refine go_aload_n (pc := 95) dX8_readsOn_95 rfl ?_
        refine go_getf (pc := 96) f_X8_73 dX8_readsOn_96 (by first | exact mo0 hM_q | exact mo5 hM_q) (by rfl) ?_
        rw [q8]
        refine go_V1P (pc := 99) v_X8_86 rfl rfl (rcv_of (ci := 8) (by first | exact mo0 hM_q | exact mo5 hM_q) rfl) dX8_readsOn_99 (sp_see (k := k - 1) hM_q hN_q q7 (by omega)) ?_
        rw [if_pos (show h_q + i_q < N by omega)]
        refine go_S1P (pc := 102) s_X8_82 rfl rfl dX8_readsOn_102 (sp_isLet (k := k - 1) _) ?_
        refine go_if_eq (tgt := 121) (pc := 105) dX8_readsOn_105 (by decide) (fun h_105 => by exfalso; exact bI_0.mp h_105 (by by_cases e0 : i_q = 0; (rw [e0]; exact hLet); exact rn_all (N := N) (h := h_q + 1) (by omega) (by omega))) (fun h_105 => ?_)
        refine go_aload_n (pc := 108) dX8_readsOn_108 rfl ?_
        refine go_dup (pc := 109) dX8_readsOn_109 rfl ?_
        refine go_getf (pc := 110) f_X8_73 dX8_readsOn_110 (by first | exact mo0 hM_q | exact mo5 hM_q) (by rfl) ?_
        refine go_iconst (v := 1) (pc := 113) dX8_readsOn_113 (by decide) ?_
        refine go_iadd (pc := 114) dX8_readsOn_114 ?_
        rw [q8, nI_1]
        refine go_mpf8 (pc := 115) hM_q dX8_readsOn_115 (fun σ hM_q hf9 => ?_)
        have hf_q := hf_q.tr hf9
        refine go_goto (tgt := 94) (pc := 118) dX8_readsOn_118 (by decide) ?_
        exact ih_q _ _ _ ⟨_, rfl, hM_q, pk_us, fun j hj_q => (pk_un hj_q).trans (qF j hj_q), hf_q, rfl⟩
      · rintro lv9 σ n9 ⟨F9, rfl, hM_q, q8, qF, hf_q, rfl⟩
        have q7 := (qF 7 (by decide)).trans e7_q
        have hEQ : h_q + (rn ltr (A 5) N (h_q + 1) - h_q) = rn ltr (A 5) N (h_q + 1) := by omega
        have hLet : ltr (A 5 h_q) = true := Decidable.not_not.mp (fun hc_q => h_91 (bI_0.mpr hc_q))
        refine go_aload_n (pc := 94) dX8_readsOn_94 rfl ?_
        refine go_aload_n (pc := 95) dX8_readsOn_95 rfl ?_
        refine go_getf (pc := 96) f_X8_73 dX8_readsOn_96 (by first | exact mo0 hM_q | exact mo5 hM_q) (by rfl) ?_
        rw [q8]
        refine go_V1P (pc := 99) v_X8_86 rfl rfl (rcv_of (ci := 8) (by first | exact mo0 hM_q | exact mo5 hM_q) rfl) dX8_readsOn_99 (sp_see (k := k - 1) hM_q hN_q q7 (by omega)) ?_
        rw [hEQ]
        refine go_S1P (pc := 102) s_X8_82 rfl rfl dX8_readsOn_102 (sp_isLet (k := k - 1) _) ?_
        refine go_if_eq (tgt := 121) (pc := 105) dX8_readsOn_105 (by decide) (fun h_105 => ?_) (fun h_105 => by exfalso; exact h_105 (bI_0.mpr (by by_cases e0 : rn ltr (A 5) N (h_q + 1) < N; (rw [if_pos e0, rn_end e0]; decide); rw [if_neg e0]; decide)))
        refine go_aload_n (pc := 121) dX8_readsOn_121 rfl ?_
        refine go_iconst (v := 1) (pc := 122) dX8_readsOn_122 (by decide) ?_
        refine go_mpf10 (pc := 123) hM_q dX8_readsOn_123 (fun σ hM_q hf9 => ?_)
        have hf_q := hf_q.tr hf9
        refine go_goto (tgt := 263) (pc := 126) dX8_readsOn_126 (by decide) ?_
        exact go_vretV (pc := 263) rfl dX8_readsOn_263 (Nat.le_of_ble_eq_true rfl) (Nat.le_of_ble_eq_true rfl) ⟨rfl, _, hM_q, tok_l hlt hLet (by rw [pk_un (by decide), q8, hEQ]) (by rw [pk_un (by decide), qF 9 (by decide)]; exact e9_q) pk_us, fun j hj_q => by rw [pk_un (by omega), qF j (by omega)]; exact eF j hj_q, hf_q⟩
  · have g68 : N ≤ h_q := Nat.le_of_not_lt (fun hc_q => h_68 (nI_lt hc_q (by omega)))
    obtain rfl : h_q = N := by omega
    refine go_aload_n (pc := 71) dX8_readsOn_71 rfl ?_
    refine go_iconst (v := 0) (pc := 72) dX8_readsOn_72 (by decide) ?_
    refine go_mpf10 (pc := 73) hM_q dX8_readsOn_73 (fun σ hM_q hf9 => ?_)
    have hf_q := hf_q.tr hf9
    exact go_vretV (pc := 76) rfl dX8_readsOn_76 (Nat.le_of_ble_eq_true rfl) (Nat.le_of_ble_eq_true rfl) ⟨rfl, _, hM_q, tok_0 (Nat.le_refl _) (by simp [upd, e9_q]) (by simp [upd]), fun j hj_q => by rw [pk_un (by omega)]; exact eF j hj_q, hf_q⟩
theorem sp_readsOn {Γ : gam} {z0 : sto} {n k r_q : Nat} {F K : row} {A : Nat → row} {Nm : Nat → Int64} (hM_q : MoAt Γ z0 r_q F K A Nm) {N : Nat} (hN_q : N ≤ 900) (hL : F 7 = nI N) {h_q : Nat} (hH : F 8 = nI h_q) (hh : h_q ≤ N) (hk : 1 ≤ k) : Sp Γ (rmk k 0 0) uX8_readsOn [.ref r_q] z0 n (qV fun σ' n' => n' = n ∧ ∃ F' : row, MoAt Γ σ' r_q F' K A Nm ∧ tokF (A 5) N F' (tkn (A 5) N h_q) ∧ (∀ j, (j < 8 ∨ 11 < j) → F' j = F j) ∧ fr r_q (r_q + 16) z0 σ') := by
  have gw1 : h_q ≤ rn wsp (A 5) N h_q := rn_ge
  have gw2 : rn wsp (A 5) N h_q ≤ N := rn_le hh
  have hTK : tkn (A 5) N h_q = tkn (A 5) N (rn wsp (A 5) N h_q) := by
    have := tkn_ws (f := A 5) (N := N) (m := rn wsp (A 5) N h_q - h_q) (h := h_q) (by omega) (fun j h1_q h2_q => rn_all (N := N) h1_q (by omega))
    rw [show h_q + (rn wsp (A 5) N h_q - h_q) = rn wsp (A 5) N h_q by omega] at this
    exact this
  refine sp_intro [some (.ref r_q), none] (by decide +kernel) rfl (Nat.le_of_ble_eq_true rfl) rfl ?_
  refine go_iter (rn wsp (A 5) N h_q - h_q) (fun i_q lv9 s9 n9 => ∃ (F9 : row), lv9 = [some (.ref r_q), none] ∧ (MoAt Γ s9 r_q F9 K A Nm) ∧ (F9 8 = nI (h_q + i_q)) ∧ (∀ j, j ≠ 8 → F9 j = F j) ∧ (fr r_q (r_q + 16) z0 s9) ∧ n = n9) ⟨F, rfl, hM_q, hH, (fun j _ => rfl), fr.rf, rfl⟩ ?_ ?_
  · rintro i_q lv9 σ n9 hi_q ⟨F9, rfl, hM_q, q8, qF, hf_q, rfl⟩ ih_q
    have q7 := (qF 7 (by decide)).trans hL
    refine go_aload_n (pc := 0) dX8_readsOn_0 rfl ?_
    refine go_getf (pc := 1) f_X8_73 dX8_readsOn_1 (by first | exact mo0 hM_q | exact mo5 hM_q) (by rfl) ?_
    refine go_aload_n (pc := 4) dX8_readsOn_4 rfl ?_
    refine go_getf (pc := 5) f_X8_70 dX8_readsOn_5 (by first | exact mo0 hM_q | exact mo5 hM_q) (by rfl) ?_
    rw [q8, q7]
    refine go_icmp_ge (tgt := 52) (pc := 8) dX8_readsOn_8 (by decide) (fun h_8 => by exfalso; exact absurd h_8 (nI_ge (by omega) (by omega))) (fun h_8 => ?_)
    refine go_aload_n (pc := 11) dX8_readsOn_11 rfl ?_
    refine go_getf (pc := 12) f_X8_23 dX8_readsOn_12 (by first | exact mo0 hM_q | exact mo5 hM_q) (by rfl) ?_
    refine go_aload_n (pc := 15) dX8_readsOn_15 rfl ?_
    refine go_getf (pc := 16) f_X8_73 dX8_readsOn_16 (by first | exact mo0 hM_q | exact mo5 hM_q) (by rfl) ?_
    refine go_iald (pc := 19) dX8_readsOn_19 (by first | exact mo0 hM_q | exact mo5 hM_q) (by exact ⟨q8, by omega⟩) ?_
    refine go_bipush (v := 32) (pc := 20) dX8_readsOn_20 (by decide) ?_
    refine go_icmp_eq (tgt := 39) (pc := 22) dX8_readsOn_22 (by decide) (fun h_22 => ?_) (fun h_22 => ?_)
    · refine go_aload_n (pc := 39) dX8_readsOn_39 rfl ?_
      refine go_dup (pc := 40) dX8_readsOn_40 rfl ?_
      refine go_getf (pc := 41) f_X8_73 dX8_readsOn_41 (by first | exact mo0 hM_q | exact mo5 hM_q) (by rfl) ?_
      refine go_iconst (v := 1) (pc := 44) dX8_readsOn_44 (by decide) ?_
      refine go_iadd (pc := 45) dX8_readsOn_45 ?_
      rw [q8, nI_1]
      refine go_mpf8 (pc := 46) hM_q dX8_readsOn_46 (fun σ hM_q hf9 => ?_)
      have hf_q := hf_q.tr hf9
      refine go_goto (tgt := 0) (pc := 49) dX8_readsOn_49 (by decide) ?_
      exact ih_q _ _ _ ⟨_, rfl, hM_q, pk_us, fun j hj_q => (pk_un hj_q).trans (qF j hj_q), hf_q, rfl⟩
    · refine go_aload_n (pc := 25) dX8_readsOn_25 rfl ?_
      refine go_getf (pc := 26) f_X8_23 dX8_readsOn_26 (by first | exact mo0 hM_q | exact mo5 hM_q) (by rfl) ?_
      refine go_aload_n (pc := 29) dX8_readsOn_29 rfl ?_
      refine go_getf (pc := 30) f_X8_73 dX8_readsOn_30 (by first | exact mo0 hM_q | exact mo5 hM_q) (by rfl) ?_
      refine go_iald (pc := 33) dX8_readsOn_33 (by first | exact mo0 hM_q | exact mo5 hM_q) (by exact ⟨q8, by omega⟩) ?_
      refine go_bipush (v := 10) (pc := 34) dX8_readsOn_34 (by decide) ?_
      refine go_icmp_ne (tgt := 52) (pc := 36) dX8_readsOn_36 (by decide) (fun h_36 => by exfalso; have g_q := rn_all (p := wsp) (f := A 5) (N := N) (h := h_q) (j := h_q + i_q) (by omega) (by omega); simp only [wsp, decide_eq_true_eq] at g_q; exact g_q.elim h_22 h_36) (fun h_36 => ?_)
      refine go_aload_n (pc := 39) dX8_readsOn_39 rfl ?_
      refine go_dup (pc := 40) dX8_readsOn_40 rfl ?_
      refine go_getf (pc := 41) f_X8_73 dX8_readsOn_41 (by first | exact mo0 hM_q | exact mo5 hM_q) (by rfl) ?_
      refine go_iconst (v := 1) (pc := 44) dX8_readsOn_44 (by decide) ?_
      refine go_iadd (pc := 45) dX8_readsOn_45 ?_
      rw [q8, nI_1]
      refine go_mpf8 (pc := 46) hM_q dX8_readsOn_46 (fun σ hM_q hf9 => ?_)
      have hf_q := hf_q.tr hf9
      refine go_goto (tgt := 0) (pc := 49) dX8_readsOn_49 (by decide) ?_
      exact ih_q _ _ _ ⟨_, rfl, hM_q, pk_us, fun j hj_q => (pk_un hj_q).trans (qF j hj_q), hf_q, rfl⟩
  · rintro lv9 σ n9 ⟨F9, rfl, hM_q, q8, qF, hf_q, rfl⟩
    have q7 := (qF 7 (by decide)).trans hL
    have hEQ : h_q + (rn wsp (A 5) N h_q - h_q) = rn wsp (A 5) N h_q := by omega
    refine go_aload_n (pc := 0) dX8_readsOn_0 rfl ?_
    refine go_getf (pc := 1) f_X8_73 dX8_readsOn_1 (by first | exact mo0 hM_q | exact mo5 hM_q) (by rfl) ?_
    refine go_aload_n (pc := 4) dX8_readsOn_4 rfl ?_
    refine go_getf (pc := 5) f_X8_70 dX8_readsOn_5 (by first | exact mo0 hM_q | exact mo5 hM_q) (by rfl) ?_
    rw [q8, q7]
    refine go_icmp_ge (tgt := 52) (pc := 8) dX8_readsOn_8 (by decide) (fun h_8 => ?_) (fun h_8 => ?_)
    · rw [show tkn (A 5) N h_q = tkn (A 5) N (rn wsp (A 5) N h_q) from hTK]
      exact rd_52 hM_q hf_q hN_q q7 (by rw [q8, hEQ]) gw2 (fun hc_q => by rw [rn_end hc_q]; decide) (fun j hj_q => qF j (by omega)) hk
    · have g8_q : rn wsp (A 5) N h_q < N := by rw [hEQ] at h_8; exact Nat.lt_of_not_le (fun hc_q => h_8 (nI_le hc_q (by omega)))
      have gw := rn_end g8_q
      simp only [wsp, decide_eq_false_iff_not, not_or] at gw
      refine go_aload_n (pc := 11) dX8_readsOn_11 rfl ?_
      refine go_getf (pc := 12) f_X8_23 dX8_readsOn_12 (by first | exact mo0 hM_q | exact mo5 hM_q) (by rfl) ?_
      refine go_aload_n (pc := 15) dX8_readsOn_15 rfl ?_
      refine go_getf (pc := 16) f_X8_73 dX8_readsOn_16 (by first | exact mo0 hM_q | exact mo5 hM_q) (by rfl) ?_
      refine go_iald (pc := 19) dX8_readsOn_19 (by first | exact mo0 hM_q | exact mo5 hM_q) (by exact ⟨by rw [q8, hEQ], by omega⟩) ?_
      refine go_bipush (v := 32) (pc := 20) dX8_readsOn_20 (by decide) ?_
      refine go_icmp_eq (tgt := 39) (pc := 22) dX8_readsOn_22 (by decide) (fun h_22 => by exfalso; exact gw.1 h_22) (fun h_22 => ?_)
      refine go_aload_n (pc := 25) dX8_readsOn_25 rfl ?_
      refine go_getf (pc := 26) f_X8_23 dX8_readsOn_26 (by first | exact mo0 hM_q | exact mo5 hM_q) (by rfl) ?_
      refine go_aload_n (pc := 29) dX8_readsOn_29 rfl ?_
      refine go_getf (pc := 30) f_X8_73 dX8_readsOn_30 (by first | exact mo0 hM_q | exact mo5 hM_q) (by rfl) ?_
      refine go_iald (pc := 33) dX8_readsOn_33 (by first | exact mo0 hM_q | exact mo5 hM_q) (by exact ⟨by rw [q8, hEQ], by omega⟩) ?_
      refine go_bipush (v := 10) (pc := 34) dX8_readsOn_34 (by decide) ?_
      refine go_icmp_ne (tgt := 52) (pc := 36) dX8_readsOn_36 (by decide) (fun h_36 => ?_) (fun h_36 => by exfalso; exact gw.2 h_36)
      rw [show tkn (A 5) N h_q = tkn (A 5) N (rn wsp (A 5) N h_q) from hTK]
      exact rd_52 hM_q hf_q hN_q q7 (by rw [q8, hEQ]) gw2 (fun hc_q => by rw [rn_end hc_q]; decide) (fun j hj_q => qF j (by omega)) hk
