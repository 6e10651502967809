/-! ===== the reference: tokens ===== -/
theorem sp_see {Γ : gam} {z0 : sto} {n k r_q : Nat} {F K : row} {A : Nat → row} {Nm : Nat → Int64} (hM_q : MoAt Γ z0 r_q F K A Nm) {N : Nat} (hN_q : N ≤ 900) (hL : F 7 = nI N) {h_q : Nat} (hh : h_q ≤ N) : Sp Γ (rmk k 0 0) uX8_see [.ref r_q, .int (nI h_q)] z0 n (qP (if h_q < N then A 5 h_q else 0) z0 n) := by
  refine sp_intro [some (.ref r_q), some (.int (nI h_q))] (by decide +kernel) rfl (Nat.le_of_ble_eq_true rfl) rfl ?_
  refine go_iload_n (pc := 0) dX8_see_0 rfl ?_
  refine go_aload_n (pc := 1) dX8_see_1 rfl ?_
  refine go_getf (pc := 2) f_X8_70 dX8_see_2 (by first | exact mo0 hM_q | exact mo5 hM_q) (by rfl) ?_
  refine go_icmp_ge (tgt := 17) (pc := 5) dX8_see_5 (by decide) (fun h_5 => ?_) (fun h_5 => ?_)
  · have g5_q : ¬ h_q < N := Nat.not_lt.mpr ((nI_leI (by omega) (by omega)).mp (by rw [← hL]; exact h_5))
    refine go_iconst (v := 0) (pc := 17) dX8_see_17 (by decide) ?_
    exact go_iretP (pc := 18) rfl dX8_see_18 (Nat.le_of_ble_eq_true rfl) (Nat.le_of_ble_eq_true rfl) (by first | exact (if_pos g5_q).symm | exact (if_neg g5_q).symm)
  · have g5_q : h_q < N := Nat.lt_of_not_le (fun hc_q => h_5 (by rw [hL]; exact nI_le hc_q (by omega)))
    refine go_aload_n (pc := 8) dX8_see_8 rfl ?_
    refine go_getf (pc := 9) f_X8_23 dX8_see_9 (by first | exact mo0 hM_q | exact mo5 hM_q) (by rfl) ?_
    refine go_iload_n (pc := 12) dX8_see_12 rfl ?_
    refine go_iald (pc := 13) dX8_see_13 (by first | exact mo0 hM_q | exact mo5 hM_q) (by exact ⟨rfl, by omega⟩) ?_
    refine go_goto (tgt := 18) (pc := 14) dX8_see_14 (by decide) ?_
    exact go_iretP (pc := 18) rfl dX8_see_18 (Nat.le_of_ble_eq_true rfl) (Nat.le_of_ble_eq_true rfl) (by first | exact (if_pos g5_q).symm | exact (if_neg g5_q).symm)
theorem sp_sgB {Γ : gam} {z0 : sto} {n k : Nat} (x_q : Int32) : Sp Γ (rmk k 0 0) uX8_isSignByte [.int x_q] z0 n (qP (bI (isSg x_q = true)) z0 n) := by
  refine sp_intro [some (.int x_q), none] (by decide +kernel) rfl (Nat.le_of_ble_eq_true rfl) rfl ?_
  refine go_iload_n (pc := 0) dX8_isSignByte_0 rfl ?_
  refine go_bipush (v := 91) (pc := 1) dX8_isSignByte_1 (by decide) ?_
  refine go_icmp_eq (tgt := 36) (pc := 3) dX8_isSignByte_3 (by decide) (fun h_3 => ?_) (fun h_3 => ?_)
  · refine go_iconst (v := 1) (pc := 36) dX8_isSignByte_36 (by decide) ?_
    refine go_goto (tgt := 41) (pc := 37) dX8_isSignByte_37 (by decide) ?_
    refine go_istore_n (lw := [_, _]) (pc := 41) dX8_isSignByte_41 (by decide) rfl ?_
    refine go_iload_n (pc := 42) dX8_isSignByte_42 rfl ?_
    refine go_if_ne (tgt := 82) (pc := 43) dX8_isSignByte_43 (by decide) (fun h_43 => ?_) (fun h_43 => ?_)
    · refine go_iconst (v := 1) (pc := 82) dX8_isSignByte_82 (by decide) ?_
      refine go_goto (tgt := 87) (pc := 83) dX8_isSignByte_83 (by decide) ?_
      exact go_zretP (pc := 87) rfl (by first | rfl | exact nb_bI) dX8_isSignByte_87 (Nat.le_of_ble_eq_true rfl) (Nat.le_of_ble_eq_true rfl) (by first | (refine (bI_t ?_).symm; simp_all [isSg]; done) | (refine (bI_f ?_).symm; simp_all [isSg]; done))
    · refine go_iload_n (pc := 46) dX8_isSignByte_46 rfl ?_
      refine go_bipush (v := 59) (pc := 47) dX8_isSignByte_47 (by decide) ?_
      refine go_icmp_eq (tgt := 82) (pc := 49) dX8_isSignByte_49 (by decide) (fun h_49 => ?_) (fun h_49 => ?_)
      · refine go_iconst (v := 1) (pc := 82) dX8_isSignByte_82 (by decide) ?_
        refine go_goto (tgt := 87) (pc := 83) dX8_isSignByte_83 (by decide) ?_
        exact go_zretP (pc := 87) rfl (by first | rfl | exact nb_bI) dX8_isSignByte_87 (Nat.le_of_ble_eq_true rfl) (Nat.le_of_ble_eq_true rfl) (by first | (refine (bI_t ?_).symm; simp_all [isSg]; done) | (refine (bI_f ?_).symm; simp_all [isSg]; done))
      · refine go_iload_n (pc := 52) dX8_isSignByte_52 rfl ?_
        refine go_bipush (v := 43) (pc := 53) dX8_isSignByte_53 (by decide) ?_
        refine go_icmp_eq (tgt := 82) (pc := 55) dX8_isSignByte_55 (by decide) (fun h_55 => ?_) (fun h_55 => ?_)
        · refine go_iconst (v := 1) (pc := 82) dX8_isSignByte_82 (by decide) ?_
          refine go_goto (tgt := 87) (pc := 83) dX8_isSignByte_83 (by decide) ?_
          exact go_zretP (pc := 87) rfl (by first | rfl | exact nb_bI) dX8_isSignByte_87 (Nat.le_of_ble_eq_true rfl) (Nat.le_of_ble_eq_true rfl) (by first | (refine (bI_t ?_).symm; simp_all [isSg]; done) | (refine (bI_f ?_).symm; simp_all [isSg]; done))
        · refine go_iload_n (pc := 58) dX8_isSignByte_58 rfl ?_
          refine go_bipush (v := 45) (pc := 59) dX8_isSignByte_59 (by decide) ?_
          refine go_icmp_eq (tgt := 82) (pc := 61) dX8_isSignByte_61 (by decide) (fun h_61 => ?_) (fun h_61 => ?_)
          · refine go_iconst (v := 1) (pc := 82) dX8_isSignByte_82 (by decide) ?_
            refine go_goto (tgt := 87) (pc := 83) dX8_isSignByte_83 (by decide) ?_
            exact go_zretP (pc := 87) rfl (by first | rfl | exact nb_bI) dX8_isSignByte_87 (Nat.le_of_ble_eq_true rfl) (Nat.le_of_ble_eq_true rfl) (by first | (refine (bI_t ?_).symm; simp_all [isSg]; done) | (refine (bI_f ?_).symm; simp_all [isSg]; done))
          · refine go_iload_n (pc := 64) dX8_isSignByte_64 rfl ?_
            refine go_bipush (v := 42) (pc := 65) dX8_isSignByte_65 (by decide) ?_
            refine go_icmp_eq (tgt := 82) (pc := 67) dX8_isSignByte_67 (by decide) (fun h_67 => ?_) (fun h_67 => ?_)
            · refine go_iconst (v := 1) (pc := 82) dX8_isSignByte_82 (by decide) ?_
              refine go_goto (tgt := 87) (pc := 83) dX8_isSignByte_83 (by decide) ?_
              exact go_zretP (pc := 87) rfl (by first | rfl | exact nb_bI) dX8_isSignByte_87 (Nat.le_of_ble_eq_true rfl) (Nat.le_of_ble_eq_true rfl) (by first | (refine (bI_t ?_).symm; simp_all [isSg]; done) | (refine (bI_f ?_).symm; simp_all [isSg]; done))
            · refine go_iload_n (pc := 70) dX8_isSignByte_70 rfl ?_
              refine go_bipush (v := 40) (pc := 71) dX8_isSignByte_71 (by decide) ?_
              refine go_icmp_eq (tgt := 82) (pc := 73) dX8_isSignByte_73 (by decide) (fun h_73 => ?_) (fun h_73 => ?_)
              · refine go_iconst (v := 1) (pc := 82) dX8_isSignByte_82 (by decide) ?_
                refine go_goto (tgt := 87) (pc := 83) dX8_isSignByte_83 (by decide) ?_
                exact go_zretP (pc := 87) rfl (by first | rfl | exact nb_bI) dX8_isSignByte_87 (Nat.le_of_ble_eq_true rfl) (Nat.le_of_ble_eq_true rfl) (by first | (refine (bI_t ?_).symm; simp_all [isSg]; done) | (refine (bI_f ?_).symm; simp_all [isSg]; done))
              · refine go_iload_n (pc := 76) dX8_isSignByte_76 rfl ?_
                refine go_bipush (v := 41) (pc := 77) dX8_isSignByte_77 (by decide) ?_
                refine go_icmp_ne (tgt := 86) (pc := 79) dX8_isSignByte_79 (by decide) (fun h_79 => ?_) (fun h_79 => ?_)
                · refine go_iconst (v := 0) (pc := 86) dX8_isSignByte_86 (by decide) ?_
                  exact go_zretP (pc := 87) rfl (by first | rfl | exact nb_bI) dX8_isSignByte_87 (Nat.le_of_ble_eq_true rfl) (Nat.le_of_ble_eq_true rfl) (by first | (refine (bI_t ?_).symm; simp_all [isSg]; done) | (refine (bI_f ?_).symm; simp_all [isSg]; done))
                · refine go_iconst (v := 1) (pc := 82) dX8_isSignByte_82 (by decide) ?_
                  refine go_goto (tgt := 87) (pc := 83) dX8_isSignByte_83 (by decide) ?_
                  exact go_zretP (pc := 87) rfl (by first | rfl | exact nb_bI) dX8_isSignByte_87 (Nat.le_of_ble_eq_true rfl) (Nat.le_of_ble_eq_true rfl) (by first | (refine (bI_t ?_).symm; simp_all [isSg]; done) | (refine (bI_f ?_).symm; simp_all [isSg]; done))
  · refine go_iload_n (pc := 6) dX8_isSignByte_6 rfl ?_
    refine go_bipush (v := 93) (pc := 7) dX8_isSignByte_7 (by decide) ?_
    refine go_icmp_eq (tgt := 36) (pc := 9) dX8_isSignByte_9 (by decide) (fun h_9 => ?_) (fun h_9 => ?_)
    · refine go_iconst (v := 1) (pc := 36) dX8_isSignByte_36 (by decide) ?_
      refine go_goto (tgt := 41) (pc := 37) dX8_isSignByte_37 (by decide) ?_
      refine go_istore_n (lw := [_, _]) (pc := 41) dX8_isSignByte_41 (by decide) rfl ?_
      refine go_iload_n (pc := 42) dX8_isSignByte_42 rfl ?_
      refine go_if_ne (tgt := 82) (pc := 43) dX8_isSignByte_43 (by decide) (fun h_43 => ?_) (fun h_43 => ?_)
      · refine go_iconst (v := 1) (pc := 82) dX8_isSignByte_82 (by decide) ?_
        refine go_goto (tgt := 87) (pc := 83) dX8_isSignByte_83 (by decide) ?_
        exact go_zretP (pc := 87) rfl (by first | rfl | exact nb_bI) dX8_isSignByte_87 (Nat.le_of_ble_eq_true rfl) (Nat.le_of_ble_eq_true rfl) (by first | (refine (bI_t ?_).symm; simp_all [isSg]; done) | (refine (bI_f ?_).symm; simp_all [isSg]; done))
      · refine go_iload_n (pc := 46) dX8_isSignByte_46 rfl ?_
        refine go_bipush (v := 59) (pc := 47) dX8_isSignByte_47 (by decide) ?_
        refine go_icmp_eq (tgt := 82) (pc := 49) dX8_isSignByte_49 (by decide) (fun h_49 => ?_) (fun h_49 => ?_)
        · refine go_iconst (v := 1) (pc := 82) dX8_isSignByte_82 (by decide) ?_
          refine go_goto (tgt := 87) (pc := 83) dX8_isSignByte_83 (by decide) ?_
          exact go_zretP (pc := 87) rfl (by first | rfl | exact nb_bI) dX8_isSignByte_87 (Nat.le_of_ble_eq_true rfl) (Nat.le_of_ble_eq_true rfl) (by first | (refine (bI_t ?_).symm; simp_all [isSg]; done) | (refine (bI_f ?_).symm; simp_all [isSg]; done))
        · refine go_iload_n (pc := 52) dX8_isSignByte_52 rfl ?_
          refine go_bipush (v := 43) (pc := 53) dX8_isSignByte_53 (by decide) ?_
          refine go_icmp_eq (tgt := 82) (pc := 55) dX8_isSignByte_55 (by decide) (fun h_55 => ?_) (fun h_55 => ?_)
          · refine go_iconst (v := 1) (pc := 82) dX8_isSignByte_82 (by decide) ?_
            refine go_goto (tgt := 87) (pc := 83) dX8_isSignByte_83 (by decide) ?_
            exact go_zretP (pc := 87) rfl (by first | rfl | exact nb_bI) dX8_isSignByte_87 (Nat.le_of_ble_eq_true rfl) (Nat.le_of_ble_eq_true rfl) (by first | (refine (bI_t ?_).symm; simp_all [isSg]; done) | (refine (bI_f ?_).symm; simp_all [isSg]; done))
          · refine go_iload_n (pc := 58) dX8_isSignByte_58 rfl ?_
            refine go_bipush (v := 45) (pc := 59) dX8_isSignByte_59 (by decide) ?_
            refine go_icmp_eq (tgt := 82) (pc := 61) dX8_isSignByte_61 (by decide) (fun h_61 => ?_) (fun h_61 => ?_)
            · refine go_iconst (v := 1) (pc := 82) dX8_isSignByte_82 (by decide) ?_
              refine go_goto (tgt := 87) (pc := 83) dX8_isSignByte_83 (by decide) ?_
              exact go_zretP (pc := 87) rfl (by first | rfl | exact nb_bI) dX8_isSignByte_87 (Nat.le_of_ble_eq_true rfl) (Nat.le_of_ble_eq_true rfl) (by first | (refine (bI_t ?_).symm; simp_all [isSg]; done) | (refine (bI_f ?_).symm; simp_all [isSg]; done))
            · refine go_iload_n (pc := 64) dX8_isSignByte_64 rfl ?_
              refine go_bipush (v := 42) (pc := 65) dX8_isSignByte_65 (by decide) ?_
              refine go_icmp_eq (tgt := 82) (pc := 67) dX8_isSignByte_67 (by decide) (fun h_67 => ?_) (fun h_67 => ?_)
              · refine go_iconst (v := 1) (pc := 82) dX8_isSignByte_82 (by decide) ?_
                refine go_goto (tgt := 87) (pc := 83) dX8_isSignByte_83 (by decide) ?_
                exact go_zretP (pc := 87) rfl (by first | rfl | exact nb_bI) dX8_isSignByte_87 (Nat.le_of_ble_eq_true rfl) (Nat.le_of_ble_eq_true rfl) (by first | (refine (bI_t ?_).symm; simp_all [isSg]; done) | (refine (bI_f ?_).symm; simp_all [isSg]; done))
              · refine go_iload_n (pc := 70) dX8_isSignByte_70 rfl ?_
                refine go_bipush (v := 40) (pc := 71) dX8_isSignByte_71 (by decide) ?_
                refine go_icmp_eq (tgt := 82) (pc := 73) dX8_isSignByte_73 (by decide) (fun h_73 => ?_) (fun h_73 => ?_)
                · refine go_iconst (v := 1) (pc := 82) dX8_isSignByte_82 (by decide) ?_
                  refine go_goto (tgt := 87) (pc := 83) dX8_isSignByte_83 (by decide) ?_
                  exact go_zretP (pc := 87) rfl (by first | rfl | exact nb_bI) dX8_isSignByte_87 (Nat.le_of_ble_eq_true rfl) (Nat.le_of_ble_eq_true rfl) (by first | (refine (bI_t ?_).symm; simp_all [isSg]; done) | (refine (bI_f ?_).symm; simp_all [isSg]; done))
                · refine go_iload_n (pc := 76) dX8_isSignByte_76 rfl ?_
                  refine go_bipush (v := 41) (pc := 77) dX8_isSignByte_77 (by decide) ?_
                  refine go_icmp_ne (tgt := 86) (pc := 79) dX8_isSignByte_79 (by decide) (fun h_79 => ?_) (fun h_79 => ?_)
                  · refine go_iconst (v := 0) (pc := 86) dX8_isSignByte_86 (by decide) ?_
                    exact go_zretP (pc := 87) rfl (by first | rfl | exact nb_bI) dX8_isSignByte_87 (Nat.le_of_ble_eq_true rfl) (Nat.le_of_ble_eq_true rfl) (by first | (refine (bI_t ?_).symm; simp_all [isSg]; done) | (refine (bI_f ?_).symm; simp_all [isSg]; done))
                  · refine go_iconst (v := 1) (pc := 82) dX8_isSignByte_82 (by decide) ?_
                    refine go_goto (tgt := 87) (pc := 83) dX8_isSignByte_83 (by decide) ?_
                    exact go_zretP (pc := 87) rfl (by first | rfl | exact nb_bI) dX8_isSignByte_87 (Nat.le_of_ble_eq_true rfl) (Nat.le_of_ble_eq_true rfl) (by first | (refine (bI_t ?_).symm; simp_all [isSg]; done) | (refine (bI_f ?_).symm; simp_all [isSg]; done))
    · refine go_iload_n (pc := 12) dX8_isSignByte_12 rfl ?_
      refine go_bipush (v := 61) (pc := 13) dX8_isSignByte_13 (by decide) ?_
      refine go_icmp_eq (tgt := 36) (pc := 15) dX8_isSignByte_15 (by decide) (fun h_15 => ?_) (fun h_15 => ?_)
      · refine go_iconst (v := 1) (pc := 36) dX8_isSignByte_36 (by decide) ?_
        refine go_goto (tgt := 41) (pc := 37) dX8_isSignByte_37 (by decide) ?_
        refine go_istore_n (lw := [_, _]) (pc := 41) dX8_isSignByte_41 (by decide) rfl ?_
        refine go_iload_n (pc := 42) dX8_isSignByte_42 rfl ?_
        refine go_if_ne (tgt := 82) (pc := 43) dX8_isSignByte_43 (by decide) (fun h_43 => ?_) (fun h_43 => ?_)
        · refine go_iconst (v := 1) (pc := 82) dX8_isSignByte_82 (by decide) ?_
          refine go_goto (tgt := 87) (pc := 83) dX8_isSignByte_83 (by decide) ?_
          exact go_zretP (pc := 87) rfl (by first | rfl | exact nb_bI) dX8_isSignByte_87 (Nat.le_of_ble_eq_true rfl) (Nat.le_of_ble_eq_true rfl) (by first | (refine (bI_t ?_).symm; simp_all [isSg]; done) | (refine (bI_f ?_).symm; simp_all [isSg]; done))
        · refine go_iload_n (pc := 46) dX8_isSignByte_46 rfl ?_
          refine go_bipush (v := 59) (pc := 47) dX8_isSignByte_47 (by decide) ?_
          refine go_icmp_eq (tgt := 82) (pc := 49) dX8_isSignByte_49 (by decide) (fun h_49 => ?_) (fun h_49 => ?_)
          · refine go_iconst (v := 1) (pc := 82) dX8_isSignByte_82 (by decide) ?_
            refine go_goto (tgt := 87) (pc := 83) dX8_isSignByte_83 (by decide) ?_
            exact go_zretP (pc := 87) rfl (by first | rfl | exact nb_bI) dX8_isSignByte_87 (Nat.le_of_ble_eq_true rfl) (Nat.le_of_ble_eq_true rfl) (by first | (refine (bI_t ?_).symm; simp_all [isSg]; done) | (refine (bI_f ?_).symm; simp_all [isSg]; done))
          · refine go_iload_n (pc := 52) dX8_isSignByte_52 rfl ?_
            refine go_bipush (v := 43) (pc := 53) dX8_isSignByte_53 (by decide) ?_
            refine go_icmp_eq (tgt := 82) (pc := 55) dX8_isSignByte_55 (by decide) (fun h_55 => ?_) (fun h_55 => ?_)
            · refine go_iconst (v := 1) (pc := 82) dX8_isSignByte_82 (by decide) ?_
              refine go_goto (tgt := 87) (pc := 83) dX8_isSignByte_83 (by decide) ?_
              exact go_zretP (pc := 87) rfl (by first | rfl | exact nb_bI) dX8_isSignByte_87 (Nat.le_of_ble_eq_true rfl) (Nat.le_of_ble_eq_true rfl) (by first | (refine (bI_t ?_).symm; simp_all [isSg]; done) | (refine (bI_f ?_).symm; simp_all [isSg]; done))
            · refine go_iload_n (pc := 58) dX8_isSignByte_58 rfl ?_
              refine go_bipush (v := 45) (pc := 59) dX8_isSignByte_59 (by decide) ?_
              refine go_icmp_eq (tgt := 82) (pc := 61) dX8_isSignByte_61 (by decide) (fun h_61 => ?_) (fun h_61 => ?_)
              · refine go_iconst (v := 1) (pc := 82) dX8_isSignByte_82 (by decide) ?_
                refine go_goto (tgt := 87) (pc := 83) dX8_isSignByte_83 (by decide) ?_
                exact go_zretP (pc := 87) rfl (by first | rfl | exact nb_bI) dX8_isSignByte_87 (Nat.le_of_ble_eq_true rfl) (Nat.le_of_ble_eq_true rfl) (by first | (refine (bI_t ?_).symm; simp_all [isSg]; done) | (refine (bI_f ?_).symm; simp_all [isSg]; done))
              · refine go_iload_n (pc := 64) dX8_isSignByte_64 rfl ?_
                refine go_bipush (v := 42) (pc := 65) dX8_isSignByte_65 (by decide) ?_
                refine go_icmp_eq (tgt := 82) (pc := 67) dX8_isSignByte_67 (by decide) (fun h_67 => ?_) (fun h_67 => ?_)
                · refine go_iconst (v := 1) (pc := 82) dX8_isSignByte_82 (by decide) ?_
                  refine go_goto (tgt := 87) (pc := 83) dX8_isSignByte_83 (by decide) ?_
                  exact go_zretP (pc := 87) rfl (by first | rfl | exact nb_bI) dX8_isSignByte_87 (Nat.le_of_ble_eq_true rfl) (Nat.le_of_ble_eq_true rfl) (by first | (refine (bI_t ?_).symm; simp_all [isSg]; done) | (refine (bI_f ?_).symm; simp_all [isSg]; done))
                · refine go_iload_n (pc := 70) dX8_isSignByte_70 rfl ?_
                  refine go_bipush (v := 40) (pc := 71) dX8_isSignByte_71 (by decide) ?_
                  refine go_icmp_eq (tgt := 82) (pc := 73) dX8_isSignByte_73 (by decide) (fun h_73 => ?_) (fun h_73 => ?_)
                  · refine go_iconst (v := 1) (pc := 82) dX8_isSignByte_82 (by decide) ?_
                    refine go_goto (tgt := 87) (pc := 83) dX8_isSignByte_83 (by decide) ?_
                    exact go_zretP (pc := 87) rfl (by first | rfl | exact nb_bI) dX8_isSignByte_87 (Nat.le_of_ble_eq_true rfl) (Nat.le_of_ble_eq_true rfl) (by first | (refine (bI_t ?_).symm; simp_all [isSg]; done) | (refine (bI_f ?_).symm; simp_all [isSg]; done))
                  · refine go_iload_n (pc := 76) dX8_isSignByte_76 rfl ?_
                    refine go_bipush (v := 41) (pc := 77) dX8_isSignByte_77 (by decide) ?_
                    refine go_icmp_ne (tgt := 86) (pc := 79) dX8_isSignByte_79 (by decide) (fun h_79 => ?_) (fun h_79 => ?_)
                    · refine go_iconst (v := 0) (pc := 86) dX8_isSignByte_86 (by decide) ?_
                      exact go_zretP (pc := 87) rfl (by first | rfl | exact nb_bI) dX8_isSignByte_87 (Nat.le_of_ble_eq_true rfl) (Nat.le_of_ble_eq_true rfl) (by first | (refine (bI_t ?_).symm; simp_all [isSg]; done) | (refine (bI_f ?_).symm; simp_all [isSg]; done))
                    · refine go_iconst (v := 1) (pc := 82) dX8_isSignByte_82 (by decide) ?_
                      refine go_goto (tgt := 87) (pc := 83) dX8_isSignByte_83 (by decide) ?_
                      exact go_zretP (pc := 87) rfl (by first | rfl | exact nb_bI) dX8_isSignByte_87 (Nat.le_of_ble_eq_true rfl) (Nat.le_of_ble_eq_true rfl) (by first | (refine (bI_t ?_).symm; simp_all [isSg]; done) | (refine (bI_f ?_).symm; simp_all [isSg]; done))
      · refine go_iload_n (pc := 18) dX8_isSignByte_18 rfl ?_
        refine go_bipush (v := 60) (pc := 19) dX8_isSignByte_19 (by decide) ?_
        refine go_icmp_eq (tgt := 36) (pc := 21) dX8_isSignByte_21 (by decide) (fun h_21 => ?_) (fun h_21 => ?_)
        · refine go_iconst (v := 1) (pc := 36) dX8_isSignByte_36 (by decide) ?_
          refine go_goto (tgt := 41) (pc := 37) dX8_isSignByte_37 (by decide) ?_
          refine go_istore_n (lw := [_, _]) (pc := 41) dX8_isSignByte_41 (by decide) rfl ?_
          refine go_iload_n (pc := 42) dX8_isSignByte_42 rfl ?_
          refine go_if_ne (tgt := 82) (pc := 43) dX8_isSignByte_43 (by decide) (fun h_43 => ?_) (fun h_43 => ?_)
          · refine go_iconst (v := 1) (pc := 82) dX8_isSignByte_82 (by decide) ?_
            refine go_goto (tgt := 87) (pc := 83) dX8_isSignByte_83 (by decide) ?_
            exact go_zretP (pc := 87) rfl (by first | rfl | exact nb_bI) dX8_isSignByte_87 (Nat.le_of_ble_eq_true rfl) (Nat.le_of_ble_eq_true rfl) (by first | (refine (bI_t ?_).symm; simp_all [isSg]; done) | (refine (bI_f ?_).symm; simp_all [isSg]; done))
          · refine go_iload_n (pc := 46) dX8_isSignByte_46 rfl ?_
            refine go_bipush (v := 59) (pc := 47) dX8_isSignByte_47 (by decide) ?_
            refine go_icmp_eq (tgt := 82) (pc := 49) dX8_isSignByte_49 (by decide) (fun h_49 => ?_) (fun h_49 => ?_)
            · refine go_iconst (v := 1) (pc := 82) dX8_isSignByte_82 (by decide) ?_
              refine go_goto (tgt := 87) (pc := 83) dX8_isSignByte_83 (by decide) ?_
              exact go_zretP (pc := 87) rfl (by first | rfl | exact nb_bI) dX8_isSignByte_87 (Nat.le_of_ble_eq_true rfl) (Nat.le_of_ble_eq_true rfl) (by first | (refine (bI_t ?_).symm; simp_all [isSg]; done) | (refine (bI_f ?_).symm; simp_all [isSg]; done))
            · refine go_iload_n (pc := 52) dX8_isSignByte_52 rfl ?_
              refine go_bipush (v := 43) (pc := 53) dX8_isSignByte_53 (by decide) ?_
              refine go_icmp_eq (tgt := 82) (pc := 55) dX8_isSignByte_55 (by decide) (fun h_55 => ?_) (fun h_55 => ?_)
              · refine go_iconst (v := 1) (pc := 82) dX8_isSignByte_82 (by decide) ?_
                refine go_goto (tgt := 87) (pc := 83) dX8_isSignByte_83 (by decide) ?_
                exact go_zretP (pc := 87) rfl (by first | rfl | exact nb_bI) dX8_isSignByte_87 (Nat.le_of_ble_eq_true rfl) (Nat.le_of_ble_eq_true rfl) (by first | (refine (bI_t ?_).symm; simp_all [isSg]; done) | (refine (bI_f ?_).symm; simp_all [isSg]; done))
              · refine go_iload_n (pc := 58) dX8_isSignByte_58 rfl ?_
                refine go_bipush (v := 45) (pc := 59) dX8_isSignByte_59 (by decide) ?_
                refine go_icmp_eq (tgt := 82) (pc := 61) dX8_isSignByte_61 (by decide) (fun h_61 => ?_) (fun h_61 => ?_)
                · refine go_iconst (v := 1) (pc := 82) dX8_isSignByte_82 (by decide) ?_
                  refine go_goto (tgt := 87) (pc := 83) dX8_isSignByte_83 (by decide) ?_
                  exact go_zretP (pc := 87) rfl (by first | rfl | exact nb_bI) dX8_isSignByte_87 (Nat.le_of_ble_eq_true rfl) (Nat.le_of_ble_eq_true rfl) (by first | (refine (bI_t ?_).symm; simp_all [isSg]; done) | (refine (bI_f ?_).symm; simp_all [isSg]; done))
                · refine go_iload_n (pc := 64) dX8_isSignByte_64 rfl ?_
                  refine go_bipush (v := 42) (pc := 65) dX8_isSignByte_65 (by decide) ?_
                  refine go_icmp_eq (tgt := 82) (pc := 67) dX8_isSignByte_67 (by decide) (fun h_67 => ?_) (fun h_67 => ?_)
                  · refine go_iconst (v := 1) (pc := 82) dX8_isSignByte_82 (by decide) ?_
                    refine go_goto (tgt := 87) (pc := 83) dX8_isSignByte_83 (by decide) ?_
                    exact go_zretP (pc := 87) rfl (by first | rfl | exact nb_bI) dX8_isSignByte_87 (Nat.le_of_ble_eq_true rfl) (Nat.le_of_ble_eq_true rfl) (by first | (refine (bI_t ?_).symm; simp_all [isSg]; done) | (refine (bI_f ?_).symm; simp_all [isSg]; done))
                  · refine go_iload_n (pc := 70) dX8_isSignByte_70 rfl ?_
                    refine go_bipush (v := 40) (pc := 71) dX8_isSignByte_71 (by decide) ?_
                    refine go_icmp_eq (tgt := 82) (pc := 73) dX8_isSignByte_73 (by decide) (fun h_73 => ?_) (fun h_73 => ?_)
                    · refine go_iconst (v := 1) (pc := 82) dX8_isSignByte_82 (by decide) ?_
                      refine go_goto (tgt := 87) (pc := 83) dX8_isSignByte_83 (by decide) ?_
                      exact go_zretP (pc := 87) rfl (by first | rfl | exact nb_bI) dX8_isSignByte_87 (Nat.le_of_ble_eq_true rfl) (Nat.le_of_ble_eq_true rfl) (by first | (refine (bI_t ?_).symm; simp_all [isSg]; done) | (refine (bI_f ?_).symm; simp_all [isSg]; done))
                    · refine go_iload_n (pc := 76) dX8_isSignByte_76 rfl ?_
                      refine go_bipush (v := 41) (pc := 77) dX8_isSignByte_77 (by decide) ?_
                      refine go_icmp_ne (tgt := 86) (pc := 79) dX8_isSignByte_79 (by decide) (fun h_79 => ?_) (fun h_79 => ?_)
                      · refine go_iconst (v := 0) (pc := 86) dX8_isSignByte_86 (by decide) ?_
                        exact go_zretP (pc := 87) rfl (by first | rfl | exact nb_bI) dX8_isSignByte_87 (Nat.le_of_ble_eq_true rfl) (Nat.le_of_ble_eq_true rfl) (by first | (refine (bI_t ?_).symm; simp_all [isSg]; done) | (refine (bI_f ?_).symm; simp_all [isSg]; done))
                      · refine go_iconst (v := 1) (pc := 82) dX8_isSignByte_82 (by decide) ?_
                        refine go_goto (tgt := 87) (pc := 83) dX8_isSignByte_83 (by decide) ?_
                        exact go_zretP (pc := 87) rfl (by first | rfl | exact nb_bI) dX8_isSignByte_87 (Nat.le_of_ble_eq_true rfl) (Nat.le_of_ble_eq_true rfl) (by first | (refine (bI_t ?_).symm; simp_all [isSg]; done) | (refine (bI_f ?_).symm; simp_all [isSg]; done))
        · refine go_iload_n (pc := 24) dX8_isSignByte_24 rfl ?_
          refine go_bipush (v := 62) (pc := 25) dX8_isSignByte_25 (by decide) ?_
          refine go_icmp_eq (tgt := 36) (pc := 27) dX8_isSignByte_27 (by decide) (fun h_27 => ?_) (fun h_27 => ?_)
          · refine go_iconst (v := 1) (pc := 36) dX8_isSignByte_36 (by decide) ?_
            refine go_goto (tgt := 41) (pc := 37) dX8_isSignByte_37 (by decide) ?_
            refine go_istore_n (lw := [_, _]) (pc := 41) dX8_isSignByte_41 (by decide) rfl ?_
            refine go_iload_n (pc := 42) dX8_isSignByte_42 rfl ?_
            refine go_if_ne (tgt := 82) (pc := 43) dX8_isSignByte_43 (by decide) (fun h_43 => ?_) (fun h_43 => ?_)
            · refine go_iconst (v := 1) (pc := 82) dX8_isSignByte_82 (by decide) ?_
              refine go_goto (tgt := 87) (pc := 83) dX8_isSignByte_83 (by decide) ?_
              exact go_zretP (pc := 87) rfl (by first | rfl | exact nb_bI) dX8_isSignByte_87 (Nat.le_of_ble_eq_true rfl) (Nat.le_of_ble_eq_true rfl) (by first | (refine (bI_t ?_).symm; simp_all [isSg]; done) | (refine (bI_f ?_).symm; simp_all [isSg]; done))
            · refine go_iload_n (pc := 46) dX8_isSignByte_46 rfl ?_
              refine go_bipush (v := 59) (pc := 47) dX8_isSignByte_47 (by decide) ?_
              refine go_icmp_eq (tgt := 82) (pc := 49) dX8_isSignByte_49 (by decide) (fun h_49 => ?_) (fun h_49 => ?_)
              · refine go_iconst (v := 1) (pc := 82) dX8_isSignByte_82 (by decide) ?_
                refine go_goto (tgt := 87) (pc := 83) dX8_isSignByte_83 (by decide) ?_
                exact go_zretP (pc := 87) rfl (by first | rfl | exact nb_bI) dX8_isSignByte_87 (Nat.le_of_ble_eq_true rfl) (Nat.le_of_ble_eq_true rfl) (by first | (refine (bI_t ?_).symm; simp_all [isSg]; done) | (refine (bI_f ?_).symm; simp_all [isSg]; done))
              · refine go_iload_n (pc := 52) dX8_isSignByte_52 rfl ?_
                refine go_bipush (v := 43) (pc := 53) dX8_isSignByte_53 (by decide) ?_
                refine go_icmp_eq (tgt := 82) (pc := 55) dX8_isSignByte_55 (by decide) (fun h_55 => ?_) (fun h_55 => ?_)
                · refine go_iconst (v := 1) (pc := 82) dX8_isSignByte_82 (by decide) ?_
                  refine go_goto (tgt := 87) (pc := 83) dX8_isSignByte_83 (by decide) ?_
                  exact go_zretP (pc := 87) rfl (by first | rfl | exact nb_bI) dX8_isSignByte_87 (Nat.le_of_ble_eq_true rfl) (Nat.le_of_ble_eq_true rfl) (by first | (refine (bI_t ?_).symm; simp_all [isSg]; done) | (refine (bI_f ?_).symm; simp_all [isSg]; done))
                · refine go_iload_n (pc := 58) dX8_isSignByte_58 rfl ?_
                  refine go_bipush (v := 45) (pc := 59) dX8_isSignByte_59 (by decide) ?_
                  refine go_icmp_eq (tgt := 82) (pc := 61) dX8_isSignByte_61 (by decide) (fun h_61 => ?_) (fun h_61 => ?_)
                  · refine go_iconst (v := 1) (pc := 82) dX8_isSignByte_82 (by decide) ?_
                    refine go_goto (tgt := 87) (pc := 83) dX8_isSignByte_83 (by decide) ?_
                    exact go_zretP (pc := 87) rfl (by first | rfl | exact nb_bI) dX8_isSignByte_87 (Nat.le_of_ble_eq_true rfl) (Nat.le_of_ble_eq_true rfl) (by first | (refine (bI_t ?_).symm; simp_all [isSg]; done) | (refine (bI_f ?_).symm; simp_all [isSg]; done))
                  · refine go_iload_n (pc := 64) dX8_isSignByte_64 rfl ?_
                    refine go_bipush (v := 42) (pc := 65) dX8_isSignByte_65 (by decide) ?_
                    refine go_icmp_eq (tgt := 82) (pc := 67) dX8_isSignByte_67 (by decide) (fun h_67 => ?_) (fun h_67 => ?_)
                    · refine go_iconst (v := 1) (pc := 82) dX8_isSignByte_82 (by decide) ?_
                      refine go_goto (tgt := 87) (pc := 83) dX8_isSignByte_83 (by decide) ?_
                      exact go_zretP (pc := 87) rfl (by first | rfl | exact nb_bI) dX8_isSignByte_87 (Nat.le_of_ble_eq_true rfl) (Nat.le_of_ble_eq_true rfl) (by first | (refine (bI_t ?_).symm; simp_all [isSg]; done) | (refine (bI_f ?_).symm; simp_all [isSg]; done))
                    · refine go_iload_n (pc := 70) dX8_isSignByte_70 rfl ?_
                      refine go_bipush (v := 40) (pc := 71) dX8_isSignByte_71 (by decide) ?_
                      refine go_icmp_eq (tgt := 82) (pc := 73) dX8_isSignByte_73 (by decide) (fun h_73 => ?_) (fun h_73 => ?_)
                      · refine go_iconst (v := 1) (pc := 82) dX8_isSignByte_82 (by decide) ?_
                        refine go_goto (tgt := 87) (pc := 83) dX8_isSignByte_83 (by decide) ?_
                        exact go_zretP (pc := 87) rfl (by first | rfl | exact nb_bI) dX8_isSignByte_87 (Nat.le_of_ble_eq_true rfl) (Nat.le_of_ble_eq_true rfl) (by first | (refine (bI_t ?_).symm; simp_all [isSg]; done) | (refine (bI_f ?_).symm; simp_all [isSg]; done))
                      · refine go_iload_n (pc := 76) dX8_isSignByte_76 rfl ?_
                        refine go_bipush (v := 41) (pc := 77) dX8_isSignByte_77 (by decide) ?_
                        refine go_icmp_ne (tgt := 86) (pc := 79) dX8_isSignByte_79 (by decide) (fun h_79 => ?_) (fun h_79 => ?_)
                        · refine go_iconst (v := 0) (pc := 86) dX8_isSignByte_86 (by decide) ?_
                          exact go_zretP (pc := 87) rfl (by first | rfl | exact nb_bI) dX8_isSignByte_87 (Nat.le_of_ble_eq_true rfl) (Nat.le_of_ble_eq_true rfl) (by first | (refine (bI_t ?_).symm; simp_all [isSg]; done) | (refine (bI_f ?_).symm; simp_all [isSg]; done))
                        · refine go_iconst (v := 1) (pc := 82) dX8_isSignByte_82 (by decide) ?_
                          refine go_goto (tgt := 87) (pc := 83) dX8_isSignByte_83 (by decide) ?_
                          exact go_zretP (pc := 87) rfl (by first | rfl | exact nb_bI) dX8_isSignByte_87 (Nat.le_of_ble_eq_true rfl) (Nat.le_of_ble_eq_true rfl) (by first | (refine (bI_t ?_).symm; simp_all [isSg]; done) | (refine (bI_f ?_).symm; simp_all [isSg]; done))
          · refine go_iload_n (pc := 30) dX8_isSignByte_30 rfl ?_
            refine go_bipush (v := 58) (pc := 31) dX8_isSignByte_31 (by decide) ?_
            refine go_icmp_ne (tgt := 40) (pc := 33) dX8_isSignByte_33 (by decide) (fun h_33 => ?_) (fun h_33 => ?_)
            · refine go_iconst (v := 0) (pc := 40) dX8_isSignByte_40 (by decide) ?_
              refine go_istore_n (lw := [_, _]) (pc := 41) dX8_isSignByte_41 (by decide) rfl ?_
              refine go_iload_n (pc := 42) dX8_isSignByte_42 rfl ?_
              refine go_if_ne (tgt := 82) (pc := 43) dX8_isSignByte_43 (by decide) (fun h_43 => ?_) (fun h_43 => ?_)
              · refine go_iconst (v := 1) (pc := 82) dX8_isSignByte_82 (by decide) ?_
                refine go_goto (tgt := 87) (pc := 83) dX8_isSignByte_83 (by decide) ?_
                exact go_zretP (pc := 87) rfl (by first | rfl | exact nb_bI) dX8_isSignByte_87 (Nat.le_of_ble_eq_true rfl) (Nat.le_of_ble_eq_true rfl) (by first | (refine (bI_t ?_).symm; simp_all [isSg]; done) | (refine (bI_f ?_).symm; simp_all [isSg]; done))
              · refine go_iload_n (pc := 46) dX8_isSignByte_46 rfl ?_
                refine go_bipush (v := 59) (pc := 47) dX8_isSignByte_47 (by decide) ?_
                refine go_icmp_eq (tgt := 82) (pc := 49) dX8_isSignByte_49 (by decide) (fun h_49 => ?_) (fun h_49 => ?_)
                · refine go_iconst (v := 1) (pc := 82) dX8_isSignByte_82 (by decide) ?_
                  refine go_goto (tgt := 87) (pc := 83) dX8_isSignByte_83 (by decide) ?_
                  exact go_zretP (pc := 87) rfl (by first | rfl | exact nb_bI) dX8_isSignByte_87 (Nat.le_of_ble_eq_true rfl) (Nat.le_of_ble_eq_true rfl) (by first | (refine (bI_t ?_).symm; simp_all [isSg]; done) | (refine (bI_f ?_).symm; simp_all [isSg]; done))
                · refine go_iload_n (pc := 52) dX8_isSignByte_52 rfl ?_
                  refine go_bipush (v := 43) (pc := 53) dX8_isSignByte_53 (by decide) ?_
                  refine go_icmp_eq (tgt := 82) (pc := 55) dX8_isSignByte_55 (by decide) (fun h_55 => ?_) (fun h_55 => ?_)
                  · refine go_iconst (v := 1) (pc := 82) dX8_isSignByte_82 (by decide) ?_
                    refine go_goto (tgt := 87) (pc := 83) dX8_isSignByte_83 (by decide) ?_
                    exact go_zretP (pc := 87) rfl (by first | rfl | exact nb_bI) dX8_isSignByte_87 (Nat.le_of_ble_eq_true rfl) (Nat.le_of_ble_eq_true rfl) (by first | (refine (bI_t ?_).symm; simp_all [isSg]; done) | (refine (bI_f ?_).symm; simp_all [isSg]; done))
                  · refine go_iload_n (pc := 58) dX8_isSignByte_58 rfl ?_
                    refine go_bipush (v := 45) (pc := 59) dX8_isSignByte_59 (by decide) ?_
                    refine go_icmp_eq (tgt := 82) (pc := 61) dX8_isSignByte_61 (by decide) (fun h_61 => ?_) (fun h_61 => ?_)
                    · refine go_iconst (v := 1) (pc := 82) dX8_isSignByte_82 (by decide) ?_
                      refine go_goto (tgt := 87) (pc := 83) dX8_isSignByte_83 (by decide) ?_
                      exact go_zretP (pc := 87) rfl (by first | rfl | exact nb_bI) dX8_isSignByte_87 (Nat.le_of_ble_eq_true rfl) (Nat.le_of_ble_eq_true rfl) (by first | (refine (bI_t ?_).symm; simp_all [isSg]; done) | (refine (bI_f ?_).symm; simp_all [isSg]; done))
                    · refine go_iload_n (pc := 64) dX8_isSignByte_64 rfl ?_
                      refine go_bipush (v := 42) (pc := 65) dX8_isSignByte_65 (by decide) ?_
                      refine go_icmp_eq (tgt := 82) (pc := 67) dX8_isSignByte_67 (by decide) (fun h_67 => ?_) (fun h_67 => ?_)
                      · refine go_iconst (v := 1) (pc := 82) dX8_isSignByte_82 (by decide) ?_
                        refine go_goto (tgt := 87) (pc := 83) dX8_isSignByte_83 (by decide) ?_
                        exact go_zretP (pc := 87) rfl (by first | rfl | exact nb_bI) dX8_isSignByte_87 (Nat.le_of_ble_eq_true rfl) (Nat.le_of_ble_eq_true rfl) (by first | (refine (bI_t ?_).symm; simp_all [isSg]; done) | (refine (bI_f ?_).symm; simp_all [isSg]; done))
                      · refine go_iload_n (pc := 70) dX8_isSignByte_70 rfl ?_
                        refine go_bipush (v := 40) (pc := 71) dX8_isSignByte_71 (by decide) ?_
                        refine go_icmp_eq (tgt := 82) (pc := 73) dX8_isSignByte_73 (by decide) (fun h_73 => ?_) (fun h_73 => ?_)
                        · refine go_iconst (v := 1) (pc := 82) dX8_isSignByte_82 (by decide) ?_
                          refine go_goto (tgt := 87) (pc := 83) dX8_isSignByte_83 (by decide) ?_
                          exact go_zretP (pc := 87) rfl (by first | rfl | exact nb_bI) dX8_isSignByte_87 (Nat.le_of_ble_eq_true rfl) (Nat.le_of_ble_eq_true rfl) (by first | (refine (bI_t ?_).symm; simp_all [isSg]; done) | (refine (bI_f ?_).symm; simp_all [isSg]; done))
                        · refine go_iload_n (pc := 76) dX8_isSignByte_76 rfl ?_
                          refine go_bipush (v := 41) (pc := 77) dX8_isSignByte_77 (by decide) ?_
                          refine go_icmp_ne (tgt := 86) (pc := 79) dX8_isSignByte_79 (by decide) (fun h_79 => ?_) (fun h_79 => ?_)
                          · refine go_iconst (v := 0) (pc := 86) dX8_isSignByte_86 (by decide) ?_
                            exact go_zretP (pc := 87) rfl (by first | rfl | exact nb_bI) dX8_isSignByte_87 (Nat.le_of_ble_eq_true rfl) (Nat.le_of_ble_eq_true rfl) (by first | (refine (bI_t ?_).symm; simp_all [isSg]; done) | (refine (bI_f ?_).symm; simp_all [isSg]; done))
                          · refine go_iconst (v := 1) (pc := 82) dX8_isSignByte_82 (by decide) ?_
                            refine go_goto (tgt := 87) (pc := 83) dX8_isSignByte_83 (by decide) ?_
                            exact go_zretP (pc := 87) rfl (by first | rfl | exact nb_bI) dX8_isSignByte_87 (Nat.le_of_ble_eq_true rfl) (Nat.le_of_ble_eq_true rfl) (by first | (refine (bI_t ?_).symm; simp_all [isSg]; done) | (refine (bI_f ?_).symm; simp_all [isSg]; done))
            · refine go_iconst (v := 1) (pc := 36) dX8_isSignByte_36 (by decide) ?_
              refine go_goto (tgt := 41) (pc := 37) dX8_isSignByte_37 (by decide) ?_
              refine go_istore_n (lw := [_, _]) (pc := 41) dX8_isSignByte_41 (by decide) rfl ?_
              refine go_iload_n (pc := 42) dX8_isSignByte_42 rfl ?_
              refine go_if_ne (tgt := 82) (pc := 43) dX8_isSignByte_43 (by decide) (fun h_43 => ?_) (fun h_43 => ?_)
              · refine go_iconst (v := 1) (pc := 82) dX8_isSignByte_82 (by decide) ?_
                refine go_goto (tgt := 87) (pc := 83) dX8_isSignByte_83 (by decide) ?_
                exact go_zretP (pc := 87) rfl (by first | rfl | exact nb_bI) dX8_isSignByte_87 (Nat.le_of_ble_eq_true rfl) (Nat.le_of_ble_eq_true rfl) (by first | (refine (bI_t ?_).symm; simp_all [isSg]; done) | (refine (bI_f ?_).symm; simp_all [isSg]; done))
              · refine go_iload_n (pc := 46) dX8_isSignByte_46 rfl ?_
                refine go_bipush (v := 59) (pc := 47) dX8_isSignByte_47 (by decide) ?_
                refine go_icmp_eq (tgt := 82) (pc := 49) dX8_isSignByte_49 (by decide) (fun h_49 => ?_) (fun h_49 => ?_)
                · refine go_iconst (v := 1) (pc := 82) dX8_isSignByte_82 (by decide) ?_
                  refine go_goto (tgt := 87) (pc := 83) dX8_isSignByte_83 (by decide) ?_
                  exact go_zretP (pc := 87) rfl (by first | rfl | exact nb_bI) dX8_isSignByte_87 (Nat.le_of_ble_eq_true rfl) (Nat.le_of_ble_eq_true rfl) (by first | (refine (bI_t ?_).symm; simp_all [isSg]; done) | (refine (bI_f ?_).symm; simp_all [isSg]; done))
                · refine go_iload_n (pc := 52) dX8_isSignByte_52 rfl ?_
                  refine go_bipush (v := 43) (pc := 53) dX8_isSignByte_53 (by decide) ?_
                  refine go_icmp_eq (tgt := 82) (pc := 55) dX8_isSignByte_55 (by decide) (fun h_55 => ?_) (fun h_55 => ?_)
                  · refine go_iconst (v := 1) (pc := 82) dX8_isSignByte_82 (by decide) ?_
                    refine go_goto (tgt := 87) (pc := 83) dX8_isSignByte_83 (by decide) ?_
                    exact go_zretP (pc := 87) rfl (by first | rfl | exact nb_bI) dX8_isSignByte_87 (Nat.le_of_ble_eq_true rfl) (Nat.le_of_ble_eq_true rfl) (by first | (refine (bI_t ?_).symm; simp_all [isSg]; done) | (refine (bI_f ?_).symm; simp_all [isSg]; done))
                  · refine go_iload_n (pc := 58) dX8_isSignByte_58 rfl ?_
                    refine go_bipush (v := 45) (pc := 59) dX8_isSignByte_59 (by decide) ?_
                    refine go_icmp_eq (tgt := 82) (pc := 61) dX8_isSignByte_61 (by decide) (fun h_61 => ?_) (fun h_61 => ?_)
                    · refine go_iconst (v := 1) (pc := 82) dX8_isSignByte_82 (by decide) ?_
                      refine go_goto (tgt := 87) (pc := 83) dX8_isSignByte_83 (by decide) ?_
                      exact go_zretP (pc := 87) rfl (by first | rfl | exact nb_bI) dX8_isSignByte_87 (Nat.le_of_ble_eq_true rfl) (Nat.le_of_ble_eq_true rfl) (by first | (refine (bI_t ?_).symm; simp_all [isSg]; done) | (refine (bI_f ?_).symm; simp_all [isSg]; done))
                    · refine go_iload_n (pc := 64) dX8_isSignByte_64 rfl ?_
                      refine go_bipush (v := 42) (pc := 65) dX8_isSignByte_65 (by decide) ?_
                      refine go_icmp_eq (tgt := 82) (pc := 67) dX8_isSignByte_67 (by decide) (fun h_67 => ?_) (fun h_67 => ?_)
                      · refine go_iconst (v := 1) (pc := 82) dX8_isSignByte_82 (by decide) ?_
                        refine go_goto (tgt := 87) (pc := 83) dX8_isSignByte_83 (by decide) ?_
                        exact go_zretP (pc := 87) rfl (by first | rfl | exact nb_bI) dX8_isSignByte_87 (Nat.le_of_ble_eq_true rfl) (Nat.le_of_ble_eq_true rfl) (by first | (refine (bI_t ?_).symm; simp_all [isSg]; done) | (refine (bI_f ?_).symm; simp_all [isSg]; done))
                      · refine go_iload_n (pc := 70) dX8_isSignByte_70 rfl ?_
                        refine go_bipush (v := 40) (pc := 71) dX8_isSignByte_71 (by decide) ?_
                        refine go_icmp_eq (tgt := 82) (pc := 73) dX8_isSignByte_73 (by decide) (fun h_73 => ?_) (fun h_73 => ?_)
                        · refine go_iconst (v := 1) (pc := 82) dX8_isSignByte_82 (by decide) ?_
                          refine go_goto (tgt := 87) (pc := 83) dX8_isSignByte_83 (by decide) ?_
                          exact go_zretP (pc := 87) rfl (by first | rfl | exact nb_bI) dX8_isSignByte_87 (Nat.le_of_ble_eq_true rfl) (Nat.le_of_ble_eq_true rfl) (by first | (refine (bI_t ?_).symm; simp_all [isSg]; done) | (refine (bI_f ?_).symm; simp_all [isSg]; done))
                        · refine go_iload_n (pc := 76) dX8_isSignByte_76 rfl ?_
                          refine go_bipush (v := 41) (pc := 77) dX8_isSignByte_77 (by decide) ?_
                          refine go_icmp_ne (tgt := 86) (pc := 79) dX8_isSignByte_79 (by decide) (fun h_79 => ?_) (fun h_79 => ?_)
                          · refine go_iconst (v := 0) (pc := 86) dX8_isSignByte_86 (by decide) ?_
                            exact go_zretP (pc := 87) rfl (by first | rfl | exact nb_bI) dX8_isSignByte_87 (Nat.le_of_ble_eq_true rfl) (Nat.le_of_ble_eq_true rfl) (by first | (refine (bI_t ?_).symm; simp_all [isSg]; done) | (refine (bI_f ?_).symm; simp_all [isSg]; done))
                          · refine go_iconst (v := 1) (pc := 82) dX8_isSignByte_82 (by decide) ?_
                            refine go_goto (tgt := 87) (pc := 83) dX8_isSignByte_83 (by decide) ?_
                            exact go_zretP (pc := 87) rfl (by first | rfl | exact nb_bI) dX8_isSignByte_87 (Nat.le_of_ble_eq_true rfl) (Nat.le_of_ble_eq_true rfl) (by first | (refine (bI_t ?_).symm; simp_all [isSg]; done) | (refine (bI_f ?_).symm; simp_all [isSg]; done))
