/-! ===== the class: trays ===== -/
theorem cp_isMissing {Γ : gam} {z0 : sto} {n k T : Nat} {s1 m1 : Int32} (ho : z0 T = some (cO 6 [.int s1, .int m1, .ref (T + 1)]))  : Sp Γ (rmk k 0 0) uX6_isMissing [.ref T] z0 n (qP (bI (s1 = -1)) z0 n) := by
  refine sp_intro [some (.ref T)] (by decide +kernel) rfl (Nat.le_of_ble_eq_true rfl) rfl ?_
  refine go_aload_n (pc := 0) dX6_isMissing_0 rfl ?_
  refine go_getf (pc := 1) f_X6_9 dX6_isMissing_1 ho (by rfl) ?_
  refine go_iconst (v := -1) (pc := 4) dX6_isMissing_4 (by decide) ?_
  refine go_icmp_ne (tgt := 12) (pc := 5) dX6_isMissing_5 (by decide) (fun h_5 => ?_) (fun h_5 => ?_)
  · refine go_iconst (v := 0) (pc := 12) dX6_isMissing_12 (by decide) ?_
    exact go_zretP (pc := 13) rfl (by first | rfl | exact nb_bI) dX6_isMissing_13 (Nat.le_of_ble_eq_true rfl) (Nat.le_of_ble_eq_true rfl) (by first | exact (bI_t h_5).symm | exact (bI_f h_5).symm)
  · refine go_iconst (v := 1) (pc := 8) dX6_isMissing_8 (by decide) ?_
    refine go_goto (tgt := 13) (pc := 9) dX6_isMissing_9 (by decide) ?_
    exact go_zretP (pc := 13) rfl (by first | rfl | exact nb_bI) dX6_isMissing_13 (Nat.le_of_ble_eq_true rfl) (Nat.le_of_ble_eq_true rfl) (by first | exact (bI_t h_5).symm | exact (bI_f h_5).symm)
theorem cp_lay {Γ : gam} {z0 : sto} {n k T : Nat} {s1 m1 : Int32} {fN : Nat → Int64} (ho : z0 T = some (cO 6 [.int s1, .int m1, .ref (T + 1)])) (hn : z0 (T + 1) = some (cJ Γ 30 fN)) (hk : 2 ≤ k) (s m : Int32) : Sp Γ (rmk k 0 0) uX6_lay [.ref T, .int s, .int m] z0 n (qV fun σ' n' => n' = n ∧ σ' T = some (cO 6 [.int s, .int m, .ref (T + 1)]) ∧ (∃ f', σ' (T + 1) = some (cJ Γ 30 f') ∧ ∀ j, j < 30 → f' j = 0) ∧ ∀ q, q ≠ T → q ≠ T + 1 → σ' q = z0 q) := by
  refine sp_intro [some (.ref T), some (.int s), some (.int m)] (by decide +kernel) rfl (Nat.le_of_ble_eq_true rfl) rfl ?_
  refine go_aload_n (pc := 0) dX6_lay_0 rfl ?_
  refine go_iload_n (pc := 1) dX6_lay_1 rfl ?_
  refine go_putf (fs' := [_, _, _]) (pc := 2) f_X6_9 dX6_lay_2 (by first | exact ho | exact sup_eq) (Nat.le_of_ble_eq_true rfl) (by rfl) rfl rfl ?_
  refine go_aload_n (pc := 5) dX6_lay_5 rfl ?_
  refine go_iload_n (pc := 6) dX6_lay_6 rfl ?_
  refine go_putf (fs' := [_, _, _]) (pc := 7) f_X6_15 dX6_lay_7 (by first | exact ho | exact sup_eq) (Nat.le_of_ble_eq_true rfl) (by rfl) rfl rfl ?_
  refine go_aload_n (pc := 10) dX6_lay_10 rfl ?_
  refine go_getf (pc := 11) f_X6_18 dX6_lay_11 (by first | exact ho | exact sup_eq) (by rfl) ?_
  refine go_lconst (v := 0) (pc := 14) dX6_lay_14 rfl ?_
  refine go_S2V (pc := 15) s_X6_22 rfl rfl dX6_lay_15 (cp_fillL (k := k - 1) (N := 30) (f := fN) (sup_ne (by omega) (sup_ne (by omega) hn)) (by decide) _) (fun σ n h_q => ?_)
  obtain ⟨rfl, ⟨f9, h9_q, hz9⟩, hq9⟩ := h_q
  exact go_vretV (pc := 18) rfl dX6_lay_18 (Nat.le_of_ble_eq_true rfl) (Nat.le_of_ble_eq_true rfl) ⟨rfl, (hq9 _ (by omega)).trans sup_eq, ⟨_, h9_q, hz9⟩, fun q h1_q h2_q => (hq9 q h2_q).trans (sup_ne h1_q (sup_ne h1_q rfl))⟩
theorem cp_put6 {Γ : gam} {z0 : sto} {n k T : Nat} {i_q M s : Nat} {fN : Nat → Int64} (ho : z0 T = some (cO 6 [.int (nI s), .int (nI M), .ref (T + 1)])) (hn : z0 (T + 1) = some (cJ Γ 30 fN)) (hs : s < 4) (hi_q : i_q < M) (hM_q : M ≤ 30) (v_q : Int64) : Sp Γ (rmk k 0 0) uX6_put [.ref T, .int (nI i_q), .long v_q] z0 n (qL fun v' σ' n' => v' = cutV (nI s) v_q ∧ n' = n ∧ σ' (T + 1) = some (cJ Γ 30 (vp_updL fN i_q (cutV (nI s) v_q))) ∧ ∀ q, q ≠ T + 1 → σ' q = z0 q) := by
  refine sp_intro [some (.ref T), some (.int (nI i_q)), some (.long v_q), none, none, none] (by decide +kernel) rfl (Nat.le_of_ble_eq_true rfl) rfl ?_
  rcases (show s = 0 ∨ s = 1 ∨ s = 2 ∨ s = 3 by omega) with rfl | rfl | rfl | rfl
  · refine go_lload_n (pc := 0) dX6_put_0 rfl ?_
    refine go_lstore (lw := [_, _, _, _, _, _]) (pc := 1) dX6_put_1 (by decide) rfl ?_
    refine go_aload_n (pc := 3) dX6_put_3 rfl ?_
    refine go_getf (pc := 4) f_X6_9 dX6_put_4 (by first | exact ho | exact hn) (by rfl) ?_
    refine go_if_ne (tgt := 19) (pc := 7) dX6_put_7 (by decide) (fun h_7 => by exfalso; exact h_7 (by decide)) (fun h_7 => ?_)
    refine go_lload_n (pc := 10) dX6_put_10 rfl ?_
    refine go_l2i (pc := 11) dX6_put_11 ?_
    refine go_i2b (pc := 12) dX6_put_12 ?_
    refine go_i2l (pc := 13) dX6_put_13 ?_
    refine go_lstore (lw := [_, _, _, _, _, _]) (pc := 14) dX6_put_14 (by decide) rfl ?_
    refine go_goto (tgt := 49) (pc := 16) dX6_put_16 (by decide) ?_
    rw [cut_0]
    refine go_iload_n (pc := 49) dX6_put_49 rfl ?_
    refine go_if_lt (tgt := 69) (pc := 50) dX6_put_50 (by decide) (fun h_50 => by exfalso; exact absurd h_50 (nI_pos (by omega))) (fun h_50 => ?_)
    refine go_iload_n (pc := 53) dX6_put_53 rfl ?_
    refine go_aload_n (pc := 54) dX6_put_54 rfl ?_
    refine go_getf (pc := 55) f_X6_15 dX6_put_55 (by first | exact ho | exact hn) (by rfl) ?_
    refine go_icmp_ge (tgt := 69) (pc := 58) dX6_put_58 (by decide) (fun h_58 => by exfalso; exact absurd h_58 (nI_ge (by omega) (by omega))) (fun h_58 => ?_)
    refine go_aload_n (pc := 61) dX6_put_61 rfl ?_
    refine go_getf (pc := 62) f_X6_18 dX6_put_62 (by first | exact ho | exact hn) (by rfl) ?_
    refine go_iload_n (pc := 65) dX6_put_65 rfl ?_
    refine go_lload (pc := 66) dX6_put_66 rfl ?_
    refine go_lastF (pc := 68) dX6_put_68 (by first | exact ho | exact hn) (by exact ⟨rfl, by omega⟩) (fun σ ho9 hq9 => ?_)
    have hx_q := ho9
    refine go_lload (pc := 69) dX6_put_69 rfl ?_
    exact go_lretI (pc := 71) rfl dX6_put_71 (Nat.le_of_ble_eq_true rfl) (Nat.le_of_ble_eq_true rfl) ⟨rfl, rfl, hx_q, hq9⟩
  · refine go_lload_n (pc := 0) dX6_put_0 rfl ?_
    refine go_lstore (lw := [_, _, _, _, _, _]) (pc := 1) dX6_put_1 (by decide) rfl ?_
    refine go_aload_n (pc := 3) dX6_put_3 rfl ?_
    refine go_getf (pc := 4) f_X6_9 dX6_put_4 (by first | exact ho | exact hn) (by rfl) ?_
    refine go_if_ne (tgt := 19) (pc := 7) dX6_put_7 (by decide) (fun h_7 => ?_) (fun h_7 => by exfalso; exact absurd h_7 (by decide))
    refine go_aload_n (pc := 19) dX6_put_19 rfl ?_
    refine go_getf (pc := 20) f_X6_9 dX6_put_20 (by first | exact ho | exact hn) (by rfl) ?_
    refine go_iconst (v := 1) (pc := 23) dX6_put_23 (by decide) ?_
    refine go_icmp_ne (tgt := 36) (pc := 24) dX6_put_24 (by decide) (fun h_24 => by exfalso; exact h_24 (by decide)) (fun h_24 => ?_)
    refine go_lload_n (pc := 27) dX6_put_27 rfl ?_
    refine go_l2i (pc := 28) dX6_put_28 ?_
    refine go_i2s (pc := 29) dX6_put_29 ?_
    refine go_i2l (pc := 30) dX6_put_30 ?_
    refine go_lstore (lw := [_, _, _, _, _, _]) (pc := 31) dX6_put_31 (by decide) rfl ?_
    refine go_goto (tgt := 49) (pc := 33) dX6_put_33 (by decide) ?_
    rw [cut_1]
    refine go_iload_n (pc := 49) dX6_put_49 rfl ?_
    refine go_if_lt (tgt := 69) (pc := 50) dX6_put_50 (by decide) (fun h_50 => by exfalso; exact absurd h_50 (nI_pos (by omega))) (fun h_50 => ?_)
    refine go_iload_n (pc := 53) dX6_put_53 rfl ?_
    refine go_aload_n (pc := 54) dX6_put_54 rfl ?_
    refine go_getf (pc := 55) f_X6_15 dX6_put_55 (by first | exact ho | exact hn) (by rfl) ?_
    refine go_icmp_ge (tgt := 69) (pc := 58) dX6_put_58 (by decide) (fun h_58 => by exfalso; exact absurd h_58 (nI_ge (by omega) (by omega))) (fun h_58 => ?_)
    refine go_aload_n (pc := 61) dX6_put_61 rfl ?_
    refine go_getf (pc := 62) f_X6_18 dX6_put_62 (by first | exact ho | exact hn) (by rfl) ?_
    refine go_iload_n (pc := 65) dX6_put_65 rfl ?_
    refine go_lload (pc := 66) dX6_put_66 rfl ?_
    refine go_lastF (pc := 68) dX6_put_68 (by first | exact ho | exact hn) (by exact ⟨rfl, by omega⟩) (fun σ ho9 hq9 => ?_)
    have hx_q := ho9
    refine go_lload (pc := 69) dX6_put_69 rfl ?_
    exact go_lretI (pc := 71) rfl dX6_put_71 (Nat.le_of_ble_eq_true rfl) (Nat.le_of_ble_eq_true rfl) ⟨rfl, rfl, hx_q, hq9⟩
  · refine go_lload_n (pc := 0) dX6_put_0 rfl ?_
    refine go_lstore (lw := [_, _, _, _, _, _]) (pc := 1) dX6_put_1 (by decide) rfl ?_
    refine go_aload_n (pc := 3) dX6_put_3 rfl ?_
    refine go_getf (pc := 4) f_X6_9 dX6_put_4 (by first | exact ho | exact hn) (by rfl) ?_
    refine go_if_ne (tgt := 19) (pc := 7) dX6_put_7 (by decide) (fun h_7 => ?_) (fun h_7 => by exfalso; exact absurd h_7 (by decide))
    refine go_aload_n (pc := 19) dX6_put_19 rfl ?_
    refine go_getf (pc := 20) f_X6_9 dX6_put_20 (by first | exact ho | exact hn) (by rfl) ?_
    refine go_iconst (v := 1) (pc := 23) dX6_put_23 (by decide) ?_
    refine go_icmp_ne (tgt := 36) (pc := 24) dX6_put_24 (by decide) (fun h_24 => ?_) (fun h_24 => by exfalso; exact absurd h_24 (by decide))
    refine go_aload_n (pc := 36) dX6_put_36 rfl ?_
    refine go_getf (pc := 37) f_X6_9 dX6_put_37 (by first | exact ho | exact hn) (by rfl) ?_
    refine go_iconst (v := 2) (pc := 40) dX6_put_40 (by decide) ?_
    refine go_icmp_ne (tgt := 49) (pc := 41) dX6_put_41 (by decide) (fun h_41 => by exfalso; exact h_41 (by decide)) (fun h_41 => ?_)
    refine go_lload_n (pc := 44) dX6_put_44 rfl ?_
    refine go_l2i (pc := 45) dX6_put_45 ?_
    refine go_i2l (pc := 46) dX6_put_46 ?_
    refine go_lstore (lw := [_, _, _, _, _, _]) (pc := 47) dX6_put_47 (by decide) rfl ?_
    rw [cut_2]
    refine go_iload_n (pc := 49) dX6_put_49 rfl ?_
    refine go_if_lt (tgt := 69) (pc := 50) dX6_put_50 (by decide) (fun h_50 => by exfalso; exact absurd h_50 (nI_pos (by omega))) (fun h_50 => ?_)
    refine go_iload_n (pc := 53) dX6_put_53 rfl ?_
    refine go_aload_n (pc := 54) dX6_put_54 rfl ?_
    refine go_getf (pc := 55) f_X6_15 dX6_put_55 (by first | exact ho | exact hn) (by rfl) ?_
    refine go_icmp_ge (tgt := 69) (pc := 58) dX6_put_58 (by decide) (fun h_58 => by exfalso; exact absurd h_58 (nI_ge (by omega) (by omega))) (fun h_58 => ?_)
    refine go_aload_n (pc := 61) dX6_put_61 rfl ?_
    refine go_getf (pc := 62) f_X6_18 dX6_put_62 (by first | exact ho | exact hn) (by rfl) ?_
    refine go_iload_n (pc := 65) dX6_put_65 rfl ?_
    refine go_lload (pc := 66) dX6_put_66 rfl ?_
    refine go_lastF (pc := 68) dX6_put_68 (by first | exact ho | exact hn) (by exact ⟨rfl, by omega⟩) (fun σ ho9 hq9 => ?_)
    have hx_q := ho9
    refine go_lload (pc := 69) dX6_put_69 rfl ?_
    exact go_lretI (pc := 71) rfl dX6_put_71 (Nat.le_of_ble_eq_true rfl) (Nat.le_of_ble_eq_true rfl) ⟨rfl, rfl, hx_q, hq9⟩
  · refine go_lload_n (pc := 0) dX6_put_0 rfl ?_
    refine go_lstore (lw := [_, _, _, _, _, _]) (pc := 1) dX6_put_1 (by decide) rfl ?_
    refine go_aload_n (pc := 3) dX6_put_3 rfl ?_
    refine go_getf (pc := 4) f_X6_9 dX6_put_4 (by first | exact ho | exact hn) (by rfl) ?_
    refine go_if_ne (tgt := 19) (pc := 7) dX6_put_7 (by decide) (fun h_7 => ?_) (fun h_7 => by exfalso; exact absurd h_7 (by decide))
    refine go_aload_n (pc := 19) dX6_put_19 rfl ?_
    refine go_getf (pc := 20) f_X6_9 dX6_put_20 (by first | exact ho | exact hn) (by rfl) ?_
    refine go_iconst (v := 1) (pc := 23) dX6_put_23 (by decide) ?_
    refine go_icmp_ne (tgt := 36) (pc := 24) dX6_put_24 (by decide) (fun h_24 => ?_) (fun h_24 => by exfalso; exact absurd h_24 (by decide))
    refine go_aload_n (pc := 36) dX6_put_36 rfl ?_
    refine go_getf (pc := 37) f_X6_9 dX6_put_37 (by first | exact ho | exact hn) (by rfl) ?_
    refine go_iconst (v := 2) (pc := 40) dX6_put_40 (by decide) ?_
    refine go_icmp_ne (tgt := 49) (pc := 41) dX6_put_41 (by decide) (fun h_41 => ?_) (fun h_41 => by exfalso; exact absurd h_41 (by decide))
    refine go_iload_n (pc := 49) dX6_put_49 rfl ?_
    refine go_if_lt (tgt := 69) (pc := 50) dX6_put_50 (by decide) (fun h_50 => by exfalso; exact absurd h_50 (nI_pos (by omega))) (fun h_50 => ?_)
    refine go_iload_n (pc := 53) dX6_put_53 rfl ?_
    refine go_aload_n (pc := 54) dX6_put_54 rfl ?_
    refine go_getf (pc := 55) f_X6_15 dX6_put_55 (by first | exact ho | exact hn) (by rfl) ?_
    refine go_icmp_ge (tgt := 69) (pc := 58) dX6_put_58 (by decide) (fun h_58 => by exfalso; exact absurd h_58 (nI_ge (by omega) (by omega))) (fun h_58 => ?_)
    refine go_aload_n (pc := 61) dX6_put_61 rfl ?_
    refine go_getf (pc := 62) f_X6_18 dX6_put_62 (by first | exact ho | exact hn) (by rfl) ?_
    refine go_iload_n (pc := 65) dX6_put_65 rfl ?_
    refine go_lload (pc := 66) dX6_put_66 rfl ?_
    refine go_lastF (pc := 68) dX6_put_68 (by first | exact ho | exact hn) (by exact ⟨rfl, by omega⟩) (fun σ ho9 hq9 => ?_)
    have hx_q := ho9
    refine go_lload (pc := 69) dX6_put_69 rfl ?_
    exact go_lretI (pc := 71) rfl dX6_put_71 (Nat.le_of_ble_eq_true rfl) (Nat.le_of_ble_eq_true rfl) ⟨cut_3 v_q, rfl, (by rw [show cutV (nI 3) v_q = v_q from (cut_3 v_q).symm]; exact hx_q), hq9⟩
theorem cp_needTray {Γ : gam} {z0 : sto} {n k a : Nat} (hk : 6 ≤ k) (z_q : Int32) : Sp Γ (rmk k 1 6) uX7_needTray [.ref a, .int z_q] z0 n (qT (qV fun σ' n' => (∃ j, pN 4 z_q.toInt = some j ∧ z_q = nI j ∧ j < 4) ∧ z0 = σ' ∧ n = n') (fun x_q σ' n' => pN 4 z_q.toInt = none ∧ x_q = eNS ∧ σ' = z0 ∧ n ≤ n')) := by
  refine sp_intro [some (.ref a), some (.int z_q)] (by decide +kernel) rfl (Nat.le_of_ble_eq_true rfl) rfl ?_
  refine go_iload_n (pc := 0) dX7_needTray_0 rfl ?_
  refine go_if_lt (tgt := 9) (pc := 1) dX7_needTray_1 (by decide) (fun h_1 => ?_) (fun h_1 => ?_)
  · exact go_throwWN (si := 21) (pc := 9) rfl rfl rfl dX7_needTray_9 dX7_needTray_12 dX7_needTray_13 dX7_needTray_16 dX7_needTray_19 (fun n2 hn2 => Or.inr ⟨_, rfl, (by rw [pN, if_neg]; intro hc_q; first | (have g9_q := Int32.lt_iff_toInt_lt.mp h_1; rw [show (0 : Int32).toInt = 0 from rfl] at g9_q; omega) | (have g9_q := Int32.le_iff_toInt_le.mp (Int32.not_lt.mp h_6); rw [show (4 : Int32).toInt = 4 from rfl] at g9_q; omega)), rfl, rfl, hn2⟩)
  · refine go_iload_n (pc := 4) dX7_needTray_4 rfl ?_
    refine go_iconst (v := 4) (pc := 5) dX7_needTray_5 (by decide) ?_
    refine go_icmp_lt (tgt := 20) (pc := 6) dX7_needTray_6 (by decide) (fun h_6 => ?_) (fun h_6 => ?_)
    · exact go_vretT (pc := 20) rfl dX7_needTray_20 (Nat.le_of_ble_eq_true rfl) (Nat.le_of_ble_eq_true rfl) (by
  have g1_q := Int32.le_iff_toInt_le.mp (Int32.not_lt.mp h_1)
  have g2_q := Int32.lt_iff_toInt_lt.mp h_6
  rw [show (0 : Int32).toInt = 0 from rfl] at g1_q
  rw [show (4 : Int32).toInt = 4 from rfl] at g2_q
  exact ⟨⟨z_q.toInt.toNat, by rw [pN, if_pos (by omega)], I_nat (by omega) (by omega), by omega⟩, rfl, rfl⟩)
    · exact go_throwWN (si := 21) (pc := 9) rfl rfl rfl dX7_needTray_9 dX7_needTray_12 dX7_needTray_13 dX7_needTray_16 dX7_needTray_19 (fun n2 hn2 => Or.inr ⟨_, rfl, (by rw [pN, if_neg]; intro hc_q; first | (have g9_q := Int32.lt_iff_toInt_lt.mp h_1; rw [show (0 : Int32).toInt = 0 from rfl] at g9_q; omega) | (have g9_q := Int32.le_iff_toInt_le.mp (Int32.not_lt.mp h_6); rw [show (4 : Int32).toInt = 4 from rfl] at g9_q; omega)), rfl, rfl, hn2⟩)
theorem cp_needLaid {Γ : gam} {ro : Nat → Nat} {z0 : sto} {n k a t_q : Nat} {G g_q m : row} {im : Nat → Option Nat} {Nm : Nat → Int64} (hC : CoAt Γ ro z0 a G im) (hY : TyAt Γ ro z0 a g_q m Nm) (ht_q : t_q < 4) (hk : 6 ≤ k) : Sp Γ (rmk k 1 6) uX7_needLaid [.ref a, .int (nI t_q)] z0 n (qT (qV fun σ' n' => g_q t_q ≠ -1 ∧ z0 = σ' ∧ n = n') (fun x_q σ' n' => g_q t_q = -1 ∧ x_q = eIS ∧ σ' = z0 ∧ n ≤ n')) := by
  refine sp_intro [some (.ref a), some (.int (nI t_q))] (by decide +kernel) rfl (Nat.le_of_ble_eq_true rfl) rfl ?_
  refine go_aload_n (pc := 0) dX7_needLaid_0 rfl ?_
  refine go_getf (pc := 1) f_X7_25 dX7_needLaid_1 (by first | exact co0 hC | exact co2 hC | exact (hY.2 t_q ht_q).1) (by rfl) ?_
  refine go_iload_n (pc := 4) dX7_needLaid_4 rfl ?_
  refine go_aaload (pc := 5) dX7_needLaid_5 (by first | exact co0 hC | exact co2 hC | exact (hY.2 t_q ht_q).1) rfl (vp_in_nI (n := t_q) (N := 4) (by omega) (by decide)) (show some (a + 81 + 2 * (nI (t_q)).toNatClampNeg) = some (a + 81 + 2 * (t_q)) from by rw [nI_clamp (by omega)]) ?_
  refine go_V0P (pc := 6) v_X7_389 rfl rfl (rcv_of (ci := 6) (by first | exact co0 hC | exact co2 hC | exact (hY.2 t_q ht_q).1) rfl) dX7_needLaid_6 (cp_isMissing (k := k - 1) (hY.2 t_q ht_q).1) ?_
  refine go_if_eq (tgt := 23) (pc := 9) dX7_needLaid_9 (by decide) (fun h_9 => ?_) (fun h_9 => ?_)
  · exact go_vretT (pc := 23) rfl dX7_needLaid_23 (Nat.le_of_ble_eq_true rfl) (Nat.le_of_ble_eq_true rfl) ⟨bI_0.mp h_9, rfl, rfl⟩
  · exact go_throwW (si := 22) (pc := 12) th_IS rfl rfl rfl dX7_needLaid_12 dX7_needLaid_15 dX7_needLaid_16 dX7_needLaid_19 dX7_needLaid_22 (fun n2 hn2 => Or.inr ⟨_, rfl, Decidable.not_not.mp (fun hc_q => h_9 (bI_0.mpr hc_q)), rfl, rfl, hn2⟩)
theorem cp_tray {Γ : gam} {ro : Nat → Nat} {z0 : sto} {n k a : Nat} {G g_q m : row} {im : Nat → Option Nat} {Nm : Nat → Int64} (hC : CoAt Γ ro z0 a G im) (hY : TyAt Γ ro z0 a g_q m Nm) (hT4 : okT g_q m) (hk : 8 ≤ k) (z_q s y_q : Int32) : Sp Γ (rmk k 4 24) uX7_tray [.ref a, .int z_q, .int s, .int y_q] z0 n (qT (qV fun σ' n' => trT z_q.toInt s.toInt y_q.toInt = 0 ∧ n' = n ∧ TyAt Γ ro σ' a (upd g_q z_q.toInt.toNat s) (upd m z_q.toInt.toNat y_q) (zerN Nm z_q.toInt.toNat 30) ∧ frS Γ ro (tS a) z0 σ') (fun x_q σ' n' => exL [eNS, eIA] (trT z_q.toInt s.toInt y_q.toInt) x_q ∧ σ' = z0 ∧ n ≤ n')) := by
  refine sp_intro [some (.ref a), some (.int z_q), some (.int s), some (.int y_q)] (by decide +kernel) rfl (Nat.le_of_ble_eq_true rfl) rfl ?_
  refine go_aload_n (pc := 0) dX7_tray_0 rfl ?_
  refine go_iload_n (pc := 1) dX7_tray_1 rfl ?_
  refine go_V1Vx (pc := 2) v_X7_217 rfl rfl (rcv_of (ci := 7) (by first | exact co0 hC | exact co2 hC | exact (hY.2 t1_q ht1a).1) rfl) dX7_tray_2 (cp_needTray (k := k - 1) (by omega) _) (fun x_q σx nx hx_q => by obtain ⟨h9_q, rfl, rfl, h8_q⟩ := hx_q; exact Or.inr ⟨_, rfl, ⟨0, (by rw [show trT z_q.toInt s.toInt y_q.toInt = 1 from by simp only [trT, h9_q]]; rfl), rfl⟩, rfl, h8_q⟩) (fun σ n h_q => ?_)
  obtain ⟨⟨t1_q, ht1, rfl, ht1a⟩, rfl, rfl⟩ := h_q
  refine go_aload_n (pc := 5) dX7_tray_5 rfl ?_
  refine go_iload_n (pc := 6) dX7_tray_6 rfl ?_
  refine go_iconst (v := 0) (pc := 7) dX7_tray_7 (by decide) ?_
  refine go_iconst (v := 3) (pc := 8) dX7_tray_8 (by decide) ?_
  refine go_V3Vx (pc := 9) v_X7_90 rfl rfl (rcv_of (ci := 7) (by first | exact co0 hC | exact co2 hC | exact (hY.2 t1_q ht1a).1) rfl) dX7_tray_9 (cp_nW (k := k - 1) (lo := 0) (hi_q := 3) (by omega) (by decide) (by decide) _) (fun x_q σx nx hx_q => by obtain ⟨h9_q, rfl, rfl, h8_q⟩ := hx_q; exact Or.inr ⟨_, rfl, ⟨1, (by rw [show trT (nI t1_q).toInt s.toInt y_q.toInt = 2 from by simp only [trT, ht1, h9_q]]; rfl), rfl⟩, rfl, h8_q⟩) (fun σ n h_q => ?_)
  obtain ⟨⟨j2_q, hj2, rfl, hj2a, hj2b⟩, rfl, rfl⟩ := h_q
  refine go_aload_n (pc := 12) dX7_tray_12 rfl ?_
  refine go_iload_n (pc := 13) dX7_tray_13 rfl ?_
  refine go_iconst (v := 0) (pc := 14) dX7_tray_14 (by decide) ?_
  refine go_bipush (v := 30) (pc := 15) dX7_tray_15 (by decide) ?_
  refine go_V3Vx (pc := 17) v_X7_90 rfl rfl (rcv_of (ci := 7) (by first | exact co0 hC | exact co2 hC | exact (hY.2 t1_q ht1a).1) rfl) dX7_tray_17 (cp_nW (k := k - 1) (lo := 0) (hi_q := 30) (by omega) (by decide) (by decide) _) (fun x_q σx nx hx_q => by obtain ⟨h9_q, rfl, rfl, h8_q⟩ := hx_q; exact Or.inr ⟨_, rfl, ⟨1, (by rw [show trT (nI t1_q).toInt (nI j2_q).toInt y_q.toInt = 2 from by simp only [trT, ht1, hj2, h9_q]]; rfl), rfl⟩, rfl, h8_q⟩) (fun σ n h_q => ?_)
  obtain ⟨⟨j3_q, hj3, rfl, hj3a, hj3b⟩, rfl, rfl⟩ := h_q
  refine go_aload_n (pc := 20) dX7_tray_20 rfl ?_
  refine go_getf (pc := 21) f_X7_25 dX7_tray_21 (by first | exact co0 hC | exact co2 hC | exact (hY.2 t1_q ht1a).1) (by rfl) ?_
  refine go_iload_n (pc := 24) dX7_tray_24 rfl ?_
  refine go_aaload (pc := 25) dX7_tray_25 (by first | exact co0 hC | exact co2 hC | exact (hY.2 t1_q ht1a).1) rfl (vp_in_nI (n := t1_q) (N := 4) (by omega) (by decide)) (show some (a + 81 + 2 * (nI (t1_q)).toNatClampNeg) = some (a + 81 + 2 * (t1_q)) from by rw [nI_clamp (by omega)]) ?_
  obtain ⟨fN, hn8, hn9⟩ := (hY.2 t1_q ht1a).2
  refine go_iload_n (pc := 26) dX7_tray_26 rfl ?_
  refine go_iload_n (pc := 27) dX7_tray_27 rfl ?_
  refine go_V2V (pc := 28) v_X7_341 rfl rfl (rcv_of (ci := 6) (by first | exact co0 hC | exact co2 hC | exact (hY.2 t1_q ht1a).1) rfl) dX7_tray_28 (cp_lay (k := k - 1) (hY.2 t1_q ht1a).1 hn8 (by omega) _ _) (fun σ n h_q => ?_)
  obtain ⟨rfl, h1_q, ⟨f9, h2_q, hz9⟩, hq9⟩ := h_q
  exact go_vretT (pc := 31) rfl dX7_tray_31 (Nat.le_of_ble_eq_true rfl) (Nat.le_of_ble_eq_true rfl) (by
  have e1_q : (nI t1_q).toInt.toNat = t1_q := by rw [nI_toInt (by omega)]; rfl
  have h0_q : trT (nI t1_q).toInt (nI j2_q).toInt (nI j3_q).toInt = 0 := by simp only [trT, ht1, hj2, hj3]
  refine ⟨h0_q, rfl, ?_, ?_⟩
  · rw [e1_q]
    exact hY.one ht1a hq9 (by rw [pk_us, pk_us]; exact h1_q) h2_q (fun j hj_q => by rw [hz9 j hj_q, zer_in hj_q]) (fun q _ hne => ⟨pk_un hne, pk_un hne⟩) (fun j _ hj_q => zer_out hj_q)
  · exact ⟨fun q hq_q _ => hq9 q (fun e_q => hq_q (by omega)) (fun e_q => hq_q (by omega)), fun q hq_q _ ⟨s9, hs9⟩ => ⟨s9, by rw [hq9 q (fun e_q => hq_q (by omega)) (fun e_q => hq_q (by omega))]; exact hs9⟩⟩)
theorem cp_write {Γ : gam} {ro : Nat → Nat} {z0 : sto} {n k a : Nat} {G g_q m : row} {im : Nat → Option Nat} {Nm : Nat → Int64} (hC : CoAt Γ ro z0 a G im) (hY : TyAt Γ ro z0 a g_q m Nm) (hT4 : okT g_q m) (hk : 8 ≤ k) (z_q y_q : Int32) (v_q : Int64) : Sp Γ (rmk k 4 24) uX7_write [.ref a, .int z_q, .int y_q, .long v_q] z0 n (qT (qL fun v' σ' n' => wrT g_q m z_q.toInt y_q.toInt = 0 ∧ v' = cutV (g_q z_q.toInt.toNat) v_q ∧ n' = n ∧ TyAt Γ ro σ' a g_q m (vp_updL Nm (30 * z_q.toInt.toNat + y_q.toInt.toNat) (cutV (g_q z_q.toInt.toNat) v_q)) ∧ frS Γ ro (tS a) z0 σ') (fun x_q σ' n' => exL [eNS, eIS, eIO] (wrT g_q m z_q.toInt y_q.toInt) x_q ∧ σ' = z0 ∧ n ≤ n')) := by
  refine sp_intro [some (.ref a), some (.int z_q), some (.int y_q), some (.long v_q), none] (by decide +kernel) rfl (Nat.le_of_ble_eq_true rfl) rfl ?_
  refine go_aload_n (pc := 0) dX7_write_0 rfl ?_
  refine go_iload_n (pc := 1) dX7_write_1 rfl ?_
  refine go_V1Vx (pc := 2) v_X7_217 rfl rfl (rcv_of (ci := 7) (by first | exact co0 hC | exact co2 hC | exact (hY.2 t1_q ht1a).1) rfl) dX7_write_2 (cp_needTray (k := k - 1) (by omega) _) (fun x_q σx nx hx_q => by obtain ⟨h9_q, rfl, rfl, h8_q⟩ := hx_q; exact Or.inr ⟨_, rfl, ⟨0, (by rw [show wrT g_q m z_q.toInt y_q.toInt = 1 from by have e9_q : tyF g_q z_q.toInt = 1 := (by simp only [tyF, h9_q]); rw [wrT, e9_q, if_pos (by decide)]]; rfl), rfl⟩, rfl, h8_q⟩) (fun σ n h_q => ?_)
  obtain ⟨⟨t1_q, ht1, rfl, ht1a⟩, rfl, rfl⟩ := h_q
  refine go_aload_n (pc := 5) dX7_write_5 rfl ?_
  refine go_iload_n (pc := 6) dX7_write_6 rfl ?_
  refine go_V1Vx (pc := 7) v_X7_220 rfl rfl (rcv_of (ci := 7) (by first | exact co0 hC | exact co2 hC | exact (hY.2 t1_q ht1a).1) rfl) dX7_write_7 (cp_needLaid (k := k - 1) hC hY ht1a (by omega)) (fun x_q σx nx hx_q => by obtain ⟨h9_q, rfl, rfl, h8_q⟩ := hx_q; exact Or.inr ⟨_, rfl, ⟨1, (by rw [show wrT g_q m (nI t1_q).toInt y_q.toInt = 2 from by have e9_q : tyF g_q (nI t1_q).toInt = 2 := (by simp only [tyF, ht1]; rw [if_pos h9_q]); rw [wrT, e9_q, if_pos (by decide)]]; rfl), rfl⟩, rfl, h8_q⟩) (fun σ n h_q => ?_)
  obtain ⟨hl9, rfl, rfl⟩ := h_q
  have e1_q : (nI t1_q).toInt.toNat = t1_q := by rw [nI_toInt (by omega)]; rfl
  have h0_q : tyF g_q (nI t1_q).toInt = 0 := by simp only [tyF, ht1]; rw [if_neg hl9]
  obtain ⟨⟨M1, hM1, eM1⟩, hg1⟩ := hT4 t1_q ht1a
  obtain ⟨s1, hs1_q, es1⟩ := hg1.resolve_left hl9
  have hwr : wrT g_q m (nI t1_q).toInt y_q.toInt = (match pN M1 y_q.toInt with
      | none => 3
      | some _ => 0) := by rw [wrT, if_neg (fun hc_q => hc_q h0_q), e1_q, eM1, nI_clamp (by omega)] <;> (cases pN M1 y_q.toInt <;> rfl)
  refine go_iload_n (pc := 10) dX7_write_10 rfl ?_
  refine go_if_lt (tgt := 27) (pc := 11) dX7_write_11 (by decide) (fun h_11 => ?_) (fun h_11 => ?_)
  · exact go_throwW (si := 29) (pc := 27) th_IO rfl rfl rfl dX7_write_27 dX7_write_30 dX7_write_31 dX7_write_34 dX7_write_37 (fun n2 hn2 => Or.inr ⟨_, rfl, ⟨2, (by
  have e9_q : pN M1 y_q.toInt = none := by
    rw [pN, if_neg]
    intro hc_q
    first
      | (have g9_q := Int32.lt_iff_toInt_lt.mp h_11
         rw [show (0 : Int32).toInt = 0 from rfl] at g9_q
         omega)
      | (have g9_q := Int32.le_iff_toInt_le.mp (Int32.not_lt.mp h_24)
         rw [eM1, nI_toInt (by omega)] at g9_q
         omega)
  rw [hwr, e9_q]; rfl), rfl⟩, rfl, hn2⟩)
  · refine go_iload_n (pc := 14) dX7_write_14 rfl ?_
    refine go_aload_n (pc := 15) dX7_write_15 rfl ?_
    refine go_getf (pc := 16) f_X7_25 dX7_write_16 (by first | exact co0 hC | exact co2 hC | exact (hY.2 t1_q ht1a).1) (by rfl) ?_
    refine go_iload_n (pc := 19) dX7_write_19 rfl ?_
    refine go_aaload (pc := 20) dX7_write_20 (by first | exact co0 hC | exact co2 hC | exact (hY.2 t1_q ht1a).1) rfl (vp_in_nI (n := t1_q) (N := 4) (by omega) (by decide)) (show some (a + 81 + 2 * (nI (t1_q)).toNatClampNeg) = some (a + 81 + 2 * (t1_q)) from by rw [nI_clamp (by omega)]) ?_
    refine go_getf (pc := 21) f_X7_227 dX7_write_21 (by first | exact co0 hC | exact co2 hC | exact (hY.2 t1_q ht1a).1) (by rfl) ?_
    refine go_icmp_lt (tgt := 38) (pc := 24) dX7_write_24 (by decide) (fun h_24 => ?_) (fun h_24 => ?_)
    · have g1_q := Int32.le_iff_toInt_le.mp (Int32.not_lt.mp h_11)
      have g2_q := Int32.lt_iff_toInt_lt.mp h_24
      rw [show (0 : Int32).toInt = 0 from rfl] at g1_q
      rw [eM1, nI_toInt (by omega)] at g2_q
      obtain ⟨i1, hi1⟩ : ∃ i_q : Nat, y_q.toInt = (i_q : Int) := ⟨y_q.toInt.toNat, by omega⟩
      obtain rfl := I_nat hi1 (by omega)
      obtain ⟨fN, hn8, hn9⟩ := (hY.2 t1_q ht1a).2
      refine go_aload_n (pc := 38) dX7_write_38 rfl ?_
      refine go_getf (pc := 39) f_X7_25 dX7_write_39 (by first | exact co0 hC | exact co2 hC | exact (hY.2 t1_q ht1a).1) (by rfl) ?_
      refine go_iload_n (pc := 42) dX7_write_42 rfl ?_
      refine go_aaload (pc := 43) dX7_write_43 (by first | exact co0 hC | exact co2 hC | exact (hY.2 t1_q ht1a).1) rfl (vp_in_nI (n := t1_q) (N := 4) (by omega) (by decide)) (show some (a + 81 + 2 * (nI (t1_q)).toNatClampNeg) = some (a + 81 + 2 * (t1_q)) from by rw [nI_clamp (by omega)]) ?_
      refine go_iload_n (pc := 44) dX7_write_44 rfl ?_
      refine go_lload_n (pc := 45) dX7_write_45 rfl ?_
      refine go_V2L (pc := 46) v_X7_349 rfl rfl (rcv_of (ci := 6) (by first | exact co0 hC | exact co2 hC | exact (hY.2 t1_q ht1a).1) rfl) dX7_write_46 (cp_put6 (k := k - 1) (i_q := i1) (M := M1) (s := s1) (by rw [← es1, ← eM1]; exact (hY.2 t1_q ht1a).1) hn8 hs1_q (by omega) hM1 _) (fun v_46 σ n h_q => ?_)
      obtain ⟨rfl, rfl, h2_q, hq9⟩ := h_q
      exact go_lretT (pc := 49) rfl dX7_write_49 (Nat.le_of_ble_eq_true rfl) (Nat.le_of_ble_eq_true rfl) (by
  have e2_q : (nI i1).toInt.toNat = i1 := by rw [hi1]; rfl
  refine ⟨by rw [hwr, hi1, pN_nat (by omega)], by rw [e1_q, es1], rfl, ?_, (frS.one hq9).wk (fun q x_q => by omega)⟩
  rw [e1_q, e2_q, es1]
  exact hY.one ht1a (fun q _ h_q => hq9 q h_q) ((hq9 _ (by omega)).trans (hY.2 t1_q ht1a).1) h2_q (fun j hj_q => by
    by_cases e_q : j = i1
    · subst e_q; simp [vp_updL]
    · have e3_q : 30 * t1_q + j ≠ 30 * t1_q + i1 := by omega
      simp only [vp_updL, if_neg e_q, if_neg e3_q]; exact hn9 j hj_q) (fun q _ _ => ⟨rfl, rfl⟩) (fun j _ hj_q => by
    have e3_q : j ≠ 30 * t1_q + i1 := by omega
    simp only [vp_updL, if_neg e3_q]))
    · exact go_throwW (si := 29) (pc := 27) th_IO rfl rfl rfl dX7_write_27 dX7_write_30 dX7_write_31 dX7_write_34 dX7_write_37 (fun n2 hn2 => Or.inr ⟨_, rfl, ⟨2, (by
  have e9_q : pN M1 y_q.toInt = none := by
    rw [pN, if_neg]
    intro hc_q
    first
      | (have g9_q := Int32.lt_iff_toInt_lt.mp h_11
         rw [show (0 : Int32).toInt = 0 from rfl] at g9_q
         omega)
      | (have g9_q := Int32.le_iff_toInt_le.mp (Int32.not_lt.mp h_24)
         rw [eM1, nI_toInt (by omega)] at g9_q
         omega)
  rw [hwr, e9_q]; rfl), rfl⟩, rfl, hn2⟩)
