/-! ===== the class: king, dry ===== -/
theorem cp_king {Γ : gam} {D : Nat} {ro : Nat → Nat} {z0 : sto} {n k a b : Nat} {w : Int32} {K ag pa pf ch co rw bk G : row} {im : Nat → Option Nat} {lm lt lw : Value} (hC : CoAt Γ ro z0 a G im) (hR_q : SrAt Γ ro z0 (a + 14) b w (K 33) ch co rw bk) (hr_q : rS K ch co rw bk) (hQ_q : BrAt Γ D ro z0 b K ag pa pf lm lt lw) (hB_q : okB K) (hg_q : gS K) (hS_q : ScAt Γ ro z0 a) (hD : a + 113 < D) (hsb : b = a + 10 ∨ a + 113 < b) (hk : 12 ≤ k) (z : Int32) : Sp Γ (rmk k 4 24) uX7_king [.ref a, .int z] z0 n (qT (qI fun v σ' n' => (aKing K z.toInt).1 = 0 ∧ v = (aKing K z.toInt).2 ∧ n' = n ∧ ScAt Γ ro σ' a ∧ frS Γ ro (scr a) z0 σ') (fun x σ' n' => exL [eIA] (aKing K z.toInt).1 x ∧ σ' = z0 ∧ n ≤ n')) := by
  have hP8 := hB_q.1.2.1
  have hH5 := hB_q.1.2.2.2.1
  have hW4 := hB_q.1.2.2.2.2.2
  obtain ⟨f6, ht6⟩ := hS_q.2.1
  refine sp_intro [some (.ref a), some (.int z), none, none, none, none, none] (by decide +kernel) rfl (Nat.le_of_ble_eq_true rfl) rfl ?_
  refine go_aload_n (pc := 0) dX7_king_0 rfl ?_
  refine go_iload_n (pc := 1) dX7_king_1 rfl ?_
  refine go_iconst (v := 0) (pc := 2) dX7_king_2 (by decide) ?_
  refine go_sipush (v := 200) (pc := 3) dX7_king_3 (by decide) ?_
  refine go_V3Vx (pc := 6) v_X7_90 rfl rfl (rcv_of (ci := 7) (by first | exact co0 hC | exact sr0 hT_q | exact be0 hQ9 | exact sr3 hT_q | exact h6_q | exact co0 hC9) rfl) dX7_king_6 (cp_nW (k := k - 1) (lo := 0) (hi_q := 200) (by omega) (by decide) (by decide) _) (fun x σx nx hx_q => by obtain ⟨h9_q, rfl, rfl, h8_q⟩ := hx_q; exact Or.inr ⟨_, rfl, ⟨0, (by rw [show aKing K z.toInt = (1, 0) from by simp only [aKing, h9_q]]; rfl), rfl⟩, rfl, h8_q⟩) (fun σ n h_q => ?_)
  obtain ⟨⟨j2_q, hj2, rfl, hj2a, hj2b⟩, rfl, rfl⟩ := h_q
  refine go_aload_n (pc := 9) dX7_king_9 rfl ?_
  refine go_getf (pc := 10) f_X7_44 dX7_king_10 (by first | exact co0 hC | exact sr0 hT_q | exact be0 hQ9 | exact sr3 hT_q | exact h6_q | exact co0 hC9) (by rfl) ?_
  refine go_iconst (v := 0) (pc := 13) dX7_king_13 (by decide) ?_
  refine go_S2V (pc := 14) s_X7_258 rfl rfl dX7_king_14 (cp_fillI (k := k - 1) ht6 (by decide) _) (fun σ n h_q => ?_)
  obtain ⟨rfl, ⟨t9, h6_q, ht9⟩, hq9⟩ := h_q
  have hu := frS.one (Γ := Γ) (ro := ro) hq9
  have hC9 := hC.fs hu (fun q x z => by omega)
  have hR9 := hR_q.fs hu (fun q x y z => by omega)
  have hQ9 := hQ_q.fs hu (fun q x z => by omega) (fun q x y z => by omega)
  have hfX : frS Γ ro (fun q => q = a + 6 ∨ (a + 89 ≤ q ∧ q ≤ a + 93)) z0 σ := hu.wk (fun q z => Or.inl z)
  have hS9 := hS_q.x6 hC.1 hfX ⟨_, h6_q⟩ (hS_q.t0.fs hu (fun q x y z => by omega))
  refine go_aload_n (pc := 17) dX7_king_17 rfl ?_
  refine go_V0A (pc := 18) v_X7_223 rfl rfl (rcv_of (ci := 7) (by first | exact co0 hC | exact sr0 hT_q | exact be0 hQ9 | exact sr3 hT_q | exact h6_q | exact co0 hC9) rfl) dX7_king_18 (cp_trial (k := k - 1) hC9 hR9 hr_q hQ9 hB_q hg_q hS9 hD hsb (by omega)) (fun v_18 σ n h_q => ?_)
  obtain ⟨rfl, rfl, ⟨ch9, co9, rw9, bk9, hT_q, hr9_q⟩, hf1⟩ := h_q
  have hfX := hfX.tr (hf1.toS (S := (fun q => q = a + 6 ∨ (a + 89 ≤ q ∧ q ≤ a + 93))) (fun q x y => by omega))
  have h6_q := (hf1.1 _ (by omega) (hC.1 _ (by omega) (by omega))).trans h6_q
  have hQ9 := hQ9.fr hf1 (by omega) (by omega)
  refine go_astore_n (lw := [_, _, _, _, _, _, _]) (pc := 21) dX7_king_21 (by decide) rfl ?_
  refine go_aload_n (pc := 22) dX7_king_22 rfl ?_
  refine go_getf (pc := 23) f_X7_120 dX7_king_23 (by first | exact co0 hC | exact sr0 hT_q | exact be0 hQ9 | exact sr3 hT_q | exact h6_q | exact co0 hC9) (by rfl) ?_
  refine go_getf (pc := 26) f_X7_263 dX7_king_26 (by first | exact co0 hC | exact sr0 hT_q | exact be0 hQ9 | exact sr3 hT_q | exact h6_q | exact co0 hC9) (by rfl) ?_
  refine go_istore_n (lw := [_, _, _, _, _, _, _]) (pc := 29) dX7_king_29 (by decide) rfl ?_
  refine go_iconst (v := 0) (pc := 30) dX7_king_30 (by decide) ?_
  refine go_istore (lw := [_, _, _, _, _, _, _]) (pc := 31) dX7_king_31 (by decide) rfl ?_
  refine go_iter (j2_q + 1) (fun i_q lv9 s9 n9 => ∃ (ch9 : row), ∃ (co9 : row), ∃ (rw9 : row), ∃ (bk9 : row), ∃ (t9 : row), ∃ x5_q, ∃ x6_q, lv9 = [some (.ref a), some (.int (nI j2_q)), some (.ref (a + 89)), some (.int (K 3)), some (.int (nI i_q)), x5_q, x6_q] ∧ (SrAt Γ ro s9 (a + 89) b w (goK i_q K 33) ch9 co9 rw9 bk9) ∧ (rS (goK i_q K) ch9 co9 rw9 bk9) ∧ (BrAt Γ D ro s9 b K ag pa pf lm lt lw) ∧ (frS Γ ro (fun q => q = a + 6 ∨ (a + 89 ≤ q ∧ q ≤ a + 93)) z0 s9) ∧ (s9 (a + 6) = some (cI Γ 8 t9)) ∧ (∀ p, p < kP K → t9 p = talK i_q K p) ∧ n = n9) ⟨_, _, _, _, _, none, none, rfl, hT_q, hr9_q, hQ9, hfX, h6_q, (fun p hp_q => ht9 p (by omega)), rfl⟩ ?_ ?_
  · rintro i_q lv9 σ n9 hi_q ⟨ch9, co9, rw9, bk9, t9, x5_q, x6_q, rfl, hT_q, hr9_q, hQ9, hfX, h6_q, ht9, rfl⟩ ih_q
    have hC9 := hC.fs hfX (fun q x z => by omega)
    have hs9 : sameB K (goK i_q K) := goK_same (by omega)
    have hB9_q := hs9.okB hB_q
    have hg9_q : gS (goK i_q K) := gS_go hg_q hP8 hH5
    have eP_q := hs9.P
    have eH_q := hs9.H
    have eW := hs9.W
    refine go_iload (pc := 33) dX7_king_33 rfl ?_
    refine go_iload_n (pc := 35) dX7_king_35 rfl ?_
    refine go_icmp_gt (tgt := 86) (pc := 36) dX7_king_36 (by decide) (fun h_36 => by exfalso; exact absurd h_36 (Int32.not_lt.mpr (nI_le (by omega) (by omega)))) (fun h_36 => ?_)
    refine go_iconst (v := 0) (pc := 39) dX7_king_39 (by decide) ?_
    refine go_istore (lw := [_, _, _, _, _, _, _]) (pc := 40) dX7_king_40 (by decide) rfl ?_
    refine go_iter (kP K) (fun i2_q lv9 s9 n9 => ∃ (t9 : row), lv9 = [some (.ref a), some (.int (nI j2_q)), some (.ref (a + 89)), some (.int (K 3)), some (.int (nI i_q)), some (.int (nI i2_q)), x6_q] ∧ (SrAt Γ ro s9 (a + 89) b w (goK i_q K 33) ch9 co9 rw9 bk9) ∧ (rS (goK i_q K) ch9 co9 rw9 bk9) ∧ (BrAt Γ D ro s9 b K ag pa pf lm lt lw) ∧ (frS Γ ro (fun q => q = a + 6 ∨ (a + 89 ≤ q ∧ q ≤ a + 93)) z0 s9) ∧ (s9 (a + 6) = some (cI Γ 8 t9)) ∧ (∀ p, p < kP K → t9 p = if p < i2_q then talK (i_q + 1) K p else talK i_q K p) ∧ n = n9) ⟨_, rfl, hT_q, hr9_q, hQ9, hfX, h6_q, (fun p hp_q => by rw [if_neg (by omega)]; exact ht9 p hp_q), rfl⟩ ?_ ?_
    · rintro i2_q lv9 σ n9 hi2_q ⟨t9, rfl, hT_q, hr9_q, hQ9, hfX, h6_q, ht9, rfl⟩ ih2_q
      have hC9 := hC.fs hfX (fun q x z => by omega)
      refine go_iload (pc := 42) dX7_king_42 rfl ?_
      refine go_iload_n (pc := 44) dX7_king_44 rfl ?_
      refine go_icmp_ge (tgt := 75) (pc := 45) dX7_king_45 (by decide) (fun h_45 => by exfalso; rw [hB_q.1.1] at h_45; exact absurd h_45 (nI_ge (by omega) (by omega))) (fun h_45 => ?_)
      refine go_aload_n (pc := 48) dX7_king_48 rfl ?_
      refine go_getf (pc := 49) f_X7_141 dX7_king_49 (by first | exact co0 hC | exact sr0 hT_q | exact be0 hQ9 | exact sr3 hT_q | exact h6_q | exact co0 hC9) (by rfl) ?_
      refine go_iload (pc := 52) dX7_king_52 rfl ?_
      refine go_iald (pc := 54) dX7_king_54 (by first | exact co0 hC | exact sr0 hT_q | exact be0 hQ9 | exact sr3 hT_q | exact h6_q | exact co0 hC9) (by exact ⟨rfl, by omega⟩) ?_
      rw [(hr9_q.1 i2_q (by omega)).2.1]
      refine go_if_ne (tgt := 69) (pc := 55) dX7_king_55 (by decide) (fun h_55 => ?_) (fun h_55 => ?_)
      · refine go_iinc (v := 1) (lw := [_, _, _, _, _, _, _]) (pc := 69) dX7_king_69 rfl (by decide) (by decide) rfl ?_
        refine go_goto (tgt := 42) (pc := 72) dX7_king_72 (by decide) ?_
        rw [nI_1]
        first
          | (have g9_q : ¬ goK i_q K (16 + i2_q) = 0 := h_55
             refine ih2_q _ _ _ ⟨_, rfl, hT_q, hr9_q, hQ9, hfX, h6_q, fun p hp_q => ?_, rfl⟩
             rw [ht9 p hp_q]
             by_cases e9_q : p = i2_q
             · subst e9_q
               rw [if_neg (by omega), if_pos (by omega), tal_one, if_neg g9_q]; simp
             · by_cases e8_q : p < i2_q
               · rw [if_pos e8_q, if_pos (by omega)]
               · rw [if_neg e8_q, if_neg (by omega)])
          | (have g9_q : goK i_q K (16 + i2_q) = 0 := h_55
             refine ih2_q _ _ _ ⟨_, rfl, hT_q, hr9_q, hQ9, hfX, h6_q, fun p hp_q => ?_, rfl⟩
             by_cases e9_q : p = i2_q
             · subst e9_q
               rw [pk_us, ht9 p hp_q, if_neg (by omega), if_pos (by omega), tal_one, if_pos g9_q]
             · rw [pk_un e9_q, ht9 p hp_q]
               by_cases e8_q : p < i2_q
               · rw [if_pos e8_q, if_pos (by omega)]
               · rw [if_neg e8_q, if_neg (by omega)])
      · refine go_aload_n (pc := 58) dX7_king_58 rfl ?_
        refine go_getf (pc := 59) f_X7_44 dX7_king_59 (by first | exact co0 hC | exact sr0 hT_q | exact be0 hQ9 | exact sr3 hT_q | exact h6_q | exact co0 hC9) (by rfl) ?_
        refine go_iload (pc := 62) dX7_king_62 rfl ?_
        refine go_dup2 (pc := 64) dX7_king_64 rfl rfl ?_
        refine go_iald (pc := 65) dX7_king_65 (by first | exact co0 hC | exact sr0 hT_q | exact be0 hQ9 | exact sr3 hT_q | exact h6_q | exact co0 hC9) (by exact ⟨rfl, by omega⟩) ?_
        refine go_iconst (v := 1) (pc := 66) dX7_king_66 (by decide) ?_
        refine go_iadd (pc := 67) dX7_king_67 ?_
        refine go_iastF (pc := 68) dX7_king_68 (by first | exact co0 hC | exact sr0 hT_q | exact be0 hQ9 | exact sr3 hT_q | exact h6_q | exact co0 hC9) (by exact ⟨rfl, by omega⟩) (fun σ ho9 hq9 => ?_)
        have hu := frS.one (Γ := Γ) (ro := ro) hq9
        have hT_q := hT_q.fs hu (fun q x y z => by omega)
        have hQ9 := hQ9.fs hu (fun q x z => by omega) (fun q x y z => by omega)
        have hfX := hfX.ot hq9 (Or.inl rfl)
        have h6_q := ho9
        refine go_iinc (v := 1) (lw := [_, _, _, _, _, _, _]) (pc := 69) dX7_king_69 rfl (by decide) (by decide) rfl ?_
        refine go_goto (tgt := 42) (pc := 72) dX7_king_72 (by decide) ?_
        rw [nI_1]
        first
          | (have g9_q : ¬ goK i_q K (16 + i2_q) = 0 := h_55
             refine ih2_q _ _ _ ⟨_, rfl, hT_q, hr9_q, hQ9, hfX, h6_q, fun p hp_q => ?_, rfl⟩
             rw [ht9 p hp_q]
             by_cases e9_q : p = i2_q
             · subst e9_q
               rw [if_neg (by omega), if_pos (by omega), tal_one, if_neg g9_q]; simp
             · by_cases e8_q : p < i2_q
               · rw [if_pos e8_q, if_pos (by omega)]
               · rw [if_neg e8_q, if_neg (by omega)])
          | (have g9_q : goK i_q K (16 + i2_q) = 0 := h_55
             refine ih2_q _ _ _ ⟨_, rfl, hT_q, hr9_q, hQ9, hfX, h6_q, fun p hp_q => ?_, rfl⟩
             by_cases e9_q : p = i2_q
             · subst e9_q
               rw [pk_us, ht9 p hp_q, if_neg (by omega), if_pos (by omega), tal_one, if_pos g9_q]
             · rw [pk_un e9_q, ht9 p hp_q]
               by_cases e8_q : p < i2_q
               · rw [if_pos e8_q, if_pos (by omega)]
               · rw [if_neg e8_q, if_neg (by omega)])
    · rintro lv9 σ n9 ⟨t9, rfl, hT_q, hr9_q, hQ9, hfX, h6_q, ht9, rfl⟩
      have hC9 := hC.fs hfX (fun q x z => by omega)
      refine go_iload (pc := 42) dX7_king_42 rfl ?_
      refine go_iload_n (pc := 44) dX7_king_44 rfl ?_
      refine go_icmp_ge (tgt := 75) (pc := 45) dX7_king_45 (by decide) (fun h_45 => ?_) (fun h_45 => by exfalso; rw [hB_q.1.1] at h_45; exact h_45 (nI_le (by omega) (by omega)))
      refine go_aload_n (pc := 75) dX7_king_75 rfl ?_
      refine go_iconst (v := 0) (pc := 76) dX7_king_76 (by decide) ?_
      refine go_V1V (pc := 77) v_X7_207 rfl rfl (rcv_of (ci := 5) (by first | exact co0 hC | exact sr0 hT_q | exact be0 hQ9 | exact sr3 hT_q | exact h6_q | exact co0 hC9) rfl) dX7_king_77 (cp_pass (k := k - 1) hT_q hr9_q (hQ9.sm hs9) hB9_q hg9_q (by omega) (by omega) (by omega) _) (fun σ n h_q => ?_)
      obtain ⟨rfl, ⟨ch9, co9, rw9, bk9, hT_q, hr9_q⟩, hf1⟩ := h_q
      have hfX := hfX.tr (hf1.toS (S := (fun q => q = a + 6 ∨ (a + 89 ≤ q ∧ q ≤ a + 93))) (fun q x y => by omega))
      have h6_q := (hf1.1 _ (by omega) (hC.1 _ (by omega) (by omega))).trans h6_q
      have hQ9 := hQ9.fr hf1 (by omega) (by omega)
      rw [pasW_0 (by decide) hg9_q (by omega) (by omega)] at hT_q
      refine go_iinc (v := 1) (lw := [_, _, _, _, _, _, _]) (pc := 80) dX7_king_80 rfl (by decide) (by decide) rfl ?_
      refine go_goto (tgt := 33) (pc := 83) dX7_king_83 (by decide) ?_
      rw [nI_1]
      exact ih_q _ _ _ ⟨_, _, _, _, _, _, _, rfl, (by rw [goK_s]; exact hT_q), (by rw [goK_s]; exact hr9_q), hQ9, hfX, h6_q, (fun p hp_q => by rw [ht9 p hp_q, if_pos hp_q]), rfl⟩
  · rintro lv9 σ n9 ⟨ch9, co9, rw9, bk9, t9, x5_q, x6_q, rfl, hT_q, hr9_q, hQ9, hfX, h6_q, ht9, rfl⟩
    have hC9 := hC.fs hfX (fun q x z => by omega)
    refine go_iload (pc := 33) dX7_king_33 rfl ?_
    refine go_iload_n (pc := 35) dX7_king_35 rfl ?_
    refine go_icmp_gt (tgt := 86) (pc := 36) dX7_king_36 (by decide) (fun h_36 => ?_) (fun h_36 => by exfalso; exact h_36 (nI_lt (by omega) (by omega)))
    refine go_iconst (v := -1) (pc := 86) dX7_king_86 (by decide) ?_
    refine go_istore (lw := [_, _, _, _, _, _, _]) (pc := 87) dX7_king_87 (by decide) rfl ?_
    refine go_iconst (v := 0) (pc := 89) dX7_king_89 (by decide) ?_
    refine go_istore (lw := [_, _, _, _, _, _, _]) (pc := 90) dX7_king_90 (by decide) rfl ?_
    refine go_iconst (v := 0) (pc := 92) dX7_king_92 (by decide) ?_
    refine go_istore (lw := [_, _, _, _, _, _, _]) (pc := 93) dX7_king_93 (by decide) rfl ?_
    refine go_iter (kP K) (fun i3_q lv9 s9 n9 => ∃ (b9_q : Int32), ∃ (x9_q : Int32), lv9 = [some (.ref a), some (.int (nI j2_q)), some (.ref (a + 89)), some (.int (K 3)), some (.int b9_q), some (.int x9_q), some (.int (nI i3_q))] ∧ (argm (talK (j2_q + 1) K) (kP K - i3_q) i3_q b9_q x9_q = argm (talK (j2_q + 1) K) (kP K) 0 (-1) 0) ∧ (σ = s9) ∧ n = n9) ⟨-1, 0, rfl, rfl, rfl, rfl⟩ ?_ ?_
    · rintro i3_q lv9 σ n9 hi3_q ⟨b9_q, x9_q, rfl, hR9, rfl, rfl⟩ ih3_q
      refine go_iload (pc := 95) dX7_king_95 rfl ?_
      refine go_iload_n (pc := 97) dX7_king_97 rfl ?_
      refine go_icmp_ge (tgt := 132) (pc := 98) dX7_king_98 (by decide) (fun h_98 => by exfalso; rw [hB_q.1.1] at h_98; exact absurd h_98 (nI_ge (by omega) (by omega))) (fun h_98 => ?_)
      refine go_aload_n (pc := 101) dX7_king_101 rfl ?_
      refine go_getf (pc := 102) f_X7_44 dX7_king_102 (by first | exact co0 hC | exact sr0 hT_q | exact be0 hQ9 | exact sr3 hT_q | exact h6_q | exact co0 hC9) (by rfl) ?_
      refine go_iload (pc := 105) dX7_king_105 rfl ?_
      refine go_iald (pc := 107) dX7_king_107 (by first | exact co0 hC | exact sr0 hT_q | exact be0 hQ9 | exact sr3 hT_q | exact h6_q | exact co0 hC9) (by exact ⟨rfl, by omega⟩) ?_
      rw [ht9 i3_q hi3_q]
      refine go_iload (pc := 108) dX7_king_108 rfl ?_
      refine go_icmp_le (tgt := 126) (pc := 110) dX7_king_110 (by decide) (fun h_110 => ?_) (fun h_110 => ?_)
      · refine go_iinc (v := 1) (lw := [_, _, _, _, _, _, _]) (pc := 126) dX7_king_126 rfl (by decide) (by decide) rfl ?_
        refine go_goto (tgt := 95) (pc := 129) dX7_king_129 (by decide) ?_
        rw [nI_1]
        first
          | (have g9_q : ¬ x9_q < talK (j2_q + 1) K i3_q := Int32.not_lt.mpr h_110
             refine ih3_q _ _ _ ⟨_, _, rfl, ?_, rfl, rfl⟩
             rw [← hR9, argm_step hi3_q, if_neg g9_q])
          | (have g9_q : x9_q < talK (j2_q + 1) K i3_q := Int32.not_le.mp h_110
             refine ih3_q _ _ _ ⟨_, _, rfl, ?_, rfl, rfl⟩
             rw [← hR9, argm_step hi3_q, if_pos g9_q])
      · refine go_aload_n (pc := 113) dX7_king_113 rfl ?_
        refine go_getf (pc := 114) f_X7_44 dX7_king_114 (by first | exact co0 hC | exact sr0 hT_q | exact be0 hQ9 | exact sr3 hT_q | exact h6_q | exact co0 hC9) (by rfl) ?_
        refine go_iload (pc := 117) dX7_king_117 rfl ?_
        refine go_iald (pc := 119) dX7_king_119 (by first | exact co0 hC | exact sr0 hT_q | exact be0 hQ9 | exact sr3 hT_q | exact h6_q | exact co0 hC9) (by exact ⟨rfl, by omega⟩) ?_
        rw [ht9 i3_q hi3_q]
        refine go_istore (lw := [_, _, _, _, _, _, _]) (pc := 120) dX7_king_120 (by decide) rfl ?_
        refine go_iload (pc := 122) dX7_king_122 rfl ?_
        refine go_istore (lw := [_, _, _, _, _, _, _]) (pc := 124) dX7_king_124 (by decide) rfl ?_
        refine go_iinc (v := 1) (lw := [_, _, _, _, _, _, _]) (pc := 126) dX7_king_126 rfl (by decide) (by decide) rfl ?_
        refine go_goto (tgt := 95) (pc := 129) dX7_king_129 (by decide) ?_
        rw [nI_1]
        first
          | (have g9_q : ¬ x9_q < talK (j2_q + 1) K i3_q := Int32.not_lt.mpr h_110
             refine ih3_q _ _ _ ⟨_, _, rfl, ?_, rfl, rfl⟩
             rw [← hR9, argm_step hi3_q, if_neg g9_q])
          | (have g9_q : x9_q < talK (j2_q + 1) K i3_q := Int32.not_le.mp h_110
             refine ih3_q _ _ _ ⟨_, _, rfl, ?_, rfl, rfl⟩
             rw [← hR9, argm_step hi3_q, if_pos g9_q])
    · rintro lv9 σ n9 ⟨b9_q, x9_q, rfl, hR9, rfl, rfl⟩
      refine go_iload (pc := 95) dX7_king_95 rfl ?_
      refine go_iload_n (pc := 97) dX7_king_97 rfl ?_
      refine go_icmp_ge (tgt := 132) (pc := 98) dX7_king_98 (by decide) (fun h_98 => ?_) (fun h_98 => by exfalso; rw [hB_q.1.1] at h_98; exact h_98 (nI_le (by omega) (by omega)))
      refine go_iload (pc := 132) dX7_king_132 rfl ?_
      exact go_iretT (pc := 134) rfl dX7_king_134 (Nat.le_of_ble_eq_true rfl) (Nat.le_of_ble_eq_true rfl) ⟨by simp only [aKing, hj2], by simp only [aKing, hj2]; rw [← hR9, Nat.sub_self]; rfl, rfl, hS_q.x6 hC.1 hfX ⟨_, h6_q⟩ hT_q.T, hfX.wk (fun q z => by omega)⟩
theorem cp_common {Γ : gam} {z0 : sto} {n k : Nat} {x y : Nat} (hx_q : x < 2 ^ 63) (hy_q : y < 2 ^ 50) : Sp Γ (rmk k 0 0) uX7_commonDivisor [.long (lN x), .long (lN y)] z0 n (qPL (lN (Nat.gcd x y)) z0 n) := by
  refine sp_intro [some (.long (lN x)), none, some (.long (lN y)), none, none, none, none] (by decide +kernel) rfl (Nat.le_of_ble_eq_true rfl) rfl ?_
  refine go_iconst (v := 0) (pc := 0) dX7_commonDivisor_0 (by decide) ?_
  refine go_istore (lw := [_, _, _, _, _, _, _]) (pc := 1) dX7_commonDivisor_1 (by decide) rfl ?_
  refine go_iter (100) (fun i_q lv9 s9 n9 => ∃ (x9_q : Nat), ∃ (y9 : Nat), ∃ x5_q, lv9 = [some (.long (lN x9_q)), none, some (.long (lN y9)), none, some (.int (nI i_q)), x5_q, none] ∧ (eu (100 - i_q) x9_q y9 = Nat.gcd x y) ∧ (x9_q < 2 ^ 63) ∧ (y9 < 2 ^ 63) ∧ (z0 = s9) ∧ n = n9) ⟨x, y, none, rfl, (eu_gcd 50 x y hy_q), hx_q, (by omega), rfl, rfl⟩ ?_ ?_
  · rintro i_q lv9 σ n9 hi_q ⟨x9_q, y9, x5_q, rfl, hR9, hx9, hy_q, rfl, rfl⟩ ih_q
    refine go_iload (pc := 3) dX7_commonDivisor_3 rfl ?_
    refine go_bipush (v := 100) (pc := 5) dX7_commonDivisor_5 (by decide) ?_
    refine go_icmp_ge (tgt := 32) (pc := 7) dX7_commonDivisor_7 (by decide) (fun h_7 => by exfalso; exact absurd h_7 (nI_ge (b := 100) (by omega) (by decide))) (fun h_7 => ?_)
    refine go_lload_n (pc := 10) dX7_commonDivisor_10 rfl ?_
    refine go_lconst (v := 0) (pc := 11) dX7_commonDivisor_11 rfl ?_
    refine go_lcmp (pc := 12) dX7_commonDivisor_12 ?_
    refine go_if_eq (tgt := 32) (pc := 13) dX7_commonDivisor_13 (by decide) (fun h_13 => ?_) (fun h_13 => ?_)
    · refine go_lload_n (pc := 32) dX7_commonDivisor_32 rfl ?_
      exact go_lretP (pc := 33) rfl dX7_commonDivisor_33 (Nat.le_of_ble_eq_true rfl) (Nat.le_of_ble_eq_true rfl) (by have e9_q := (lg_cmp_eq _ _).mp h_13; have e8_q := (pk_lEQ (a := y9) (b := 0) hy_q (by omega)).mp e9_q; subst e8_q; rw [← hR9, eu_0])
    · refine go_lload_n (pc := 16) dX7_commonDivisor_16 rfl ?_
      refine go_lload_n (pc := 17) dX7_commonDivisor_17 rfl ?_
      refine go_lrem (pc := 18) dX7_commonDivisor_18 (fun hc_q => h_13 ((lg_cmp_eq _ _).mpr hc_q)) ?_
      have hy9 : y9 ≠ 0 := fun e_q => h_13 ((lg_cmp_eq _ _).mpr (by rw [e_q]; rfl))
      rw [show lN x9_q - lN x9_q / lN y9 * lN y9 = lN (x9_q % y9) from pk_lRem (by omega) (by omega) (by omega)]
      refine go_lstore (lw := [_, _, _, _, _, _, _]) (pc := 19) dX7_commonDivisor_19 (by decide) rfl ?_
      refine go_lload_n (pc := 21) dX7_commonDivisor_21 rfl ?_
      refine go_lstore_n (lw := [_, _, _, _, _, _, _]) (pc := 22) dX7_commonDivisor_22 (by decide) rfl ?_
      refine go_lload (pc := 23) dX7_commonDivisor_23 rfl ?_
      refine go_lstore_n (lw := [_, _, _, _, _, _, _]) (pc := 25) dX7_commonDivisor_25 (by decide) rfl ?_
      refine go_iinc (v := 1) (lw := [_, _, _, _, _, _, _]) (pc := 26) dX7_commonDivisor_26 rfl (by decide) (by decide) rfl ?_
      refine go_goto (tgt := 3) (pc := 29) dX7_commonDivisor_29 (by decide) ?_
      rw [nI_1]
      exact ih_q _ _ _ ⟨_, _, _, rfl, (by rw [← hR9, eu_step hi_q hy9]), hy_q, (Nat.lt_of_lt_of_le (Nat.mod_lt _ (by omega)) (by omega)), rfl, rfl⟩
  · rintro lv9 σ n9 ⟨x9_q, y9, x5_q, rfl, hR9, hx9, hy_q, rfl, rfl⟩
    refine go_iload (pc := 3) dX7_commonDivisor_3 rfl ?_
    refine go_bipush (v := 100) (pc := 5) dX7_commonDivisor_5 (by decide) ?_
    refine go_icmp_ge (tgt := 32) (pc := 7) dX7_commonDivisor_7 (by decide) (fun h_7 => ?_) (fun h_7 => by exfalso; exact h_7 (by decide))
    refine go_lload_n (pc := 32) dX7_commonDivisor_32 rfl ?_
    exact go_lretP (pc := 33) rfl dX7_commonDivisor_33 (Nat.le_of_ble_eq_true rfl) (Nat.le_of_ble_eq_true rfl) (by rw [← hR9]; rfl)
theorem cp_dry {Γ : gam} {D : Nat} {ro : Nat → Nat} {z0 : sto} {n k a b : Nat} {w : Int32} {K ag pa pf ch co rw bk G : row} {im : Nat → Option Nat} {lm lt lw : Value} (hC : CoAt Γ ro z0 a G im) (hR_q : SrAt Γ ro z0 (a + 14) b w (K 33) ch co rw bk) (hr_q : rS K ch co rw bk) (hQ_q : BrAt Γ D ro z0 b K ag pa pf lm lt lw) (hB_q : okB K) (hg_q : gS K) (hS_q : ScAt Γ ro z0 a) (hD : a + 113 < D) (hsb : b = a + 10 ∨ a + 113 < b) (hk : 12 ≤ k) (p z y : Int32) : Sp Γ (rmk k 4 24) uX7_dry [.ref a, .int p, .int z, .int y] z0 n (qT (qL fun v σ' n' => (aDry K p.toInt z.toInt y.toInt).1 = 0 ∧ v = (aDry K p.toInt z.toInt y.toInt).2 ∧ n' = n ∧ ScAt Γ ro σ' a ∧ frS Γ ro (scr a) z0 σ') (fun x σ' n' => exL [eNS, eIA] (aDry K p.toInt z.toInt y.toInt).1 x ∧ σ' = z0 ∧ n ≤ n')) := by
  have hP8 := hB_q.1.2.1
  have hH5 := hB_q.1.2.2.2.1
  have hW4 := hB_q.1.2.2.2.2.2
  refine sp_intro [some (.ref a), some (.int p), some (.int z), some (.int y), none, none, none, none, none, none] (by decide +kernel) rfl (Nat.le_of_ble_eq_true rfl) rfl ?_
  refine go_aload_n (pc := 0) dX7_dry_0 rfl ?_
  refine go_iload_n (pc := 1) dX7_dry_1 rfl ?_
  refine go_V1Vx (pc := 2) v_X7_135 rfl rfl (rcv_of (ci := 7) (by first | exact co0 hC | exact sr0 hR_q | exact be0 hQ_q | exact sr0 hT_q | exact be0 hQ9 | exact sr1 hR_q | exact sr2 hR_q | exact sr3 hR_q | exact sr4 hR_q | exact be1 hQ_q | exact be2 hQ_q | exact be3 hQ_q | exact sr3 hT_q | exact sr2 hT_q | exact sr1 hT_q | exact sr4 hT_q | exact co4 hC | exact co2 hC | exact co3 hC | exact co0 hC9 | exact sr0 hR9 | exact co4 hC9 | exact sr3 hR9 | exact sr2 hR9) rfl) dX7_dry_2 (cp_needPerson (k := k - 1) hC hR_q hr_q hQ_q hB_q (by omega) _) (fun x σx nx hx_q => by obtain ⟨h9_q, rfl, rfl, h8_q⟩ := hx_q; exact Or.inr ⟨_, rfl, ⟨0, (by rw [show aDry K p.toInt z.toInt y.toInt = (1, 0) from by have e9_q : aDryT K p.toInt z.toInt y.toInt = 1 := (by simp only [aDryT, h9_q]); rw [aDry, e9_q, if_pos (by decide)]]; rfl), rfl⟩, rfl, h8_q⟩) (fun σ n h_q => ?_)
  obtain ⟨⟨j1_q, hj1, rfl, hj1a⟩, rfl, rfl⟩ := h_q
  refine go_aload_n (pc := 5) dX7_dry_5 rfl ?_
  refine go_iload_n (pc := 6) dX7_dry_6 rfl ?_
  refine go_iconst (v := 0) (pc := 7) dX7_dry_7 (by decide) ?_
  refine go_bipush (v := 15) (pc := 8) dX7_dry_8 (by decide) ?_
  refine go_V3Vx (pc := 10) v_X7_90 rfl rfl (rcv_of (ci := 7) (by first | exact co0 hC | exact sr0 hR_q | exact be0 hQ_q | exact sr0 hT_q | exact be0 hQ9 | exact sr1 hR_q | exact sr2 hR_q | exact sr3 hR_q | exact sr4 hR_q | exact be1 hQ_q | exact be2 hQ_q | exact be3 hQ_q | exact sr3 hT_q | exact sr2 hT_q | exact sr1 hT_q | exact sr4 hT_q | exact co4 hC | exact co2 hC | exact co3 hC | exact co0 hC9 | exact sr0 hR9 | exact co4 hC9 | exact sr3 hR9 | exact sr2 hR9) rfl) dX7_dry_10 (cp_nW (k := k - 1) (lo := 0) (hi_q := 15) (by omega) (by decide) (by decide) _) (fun x σx nx hx_q => by obtain ⟨h9_q, rfl, rfl, h8_q⟩ := hx_q; exact Or.inr ⟨_, rfl, ⟨1, (by rw [show aDry K (nI j1_q).toInt z.toInt y.toInt = (2, 0) from by have e9_q : aDryT K (nI j1_q).toInt z.toInt y.toInt = 2 := (by simp only [aDryT, hj1, h9_q]); rw [aDry, e9_q, if_pos (by decide)]]; rfl), rfl⟩, rfl, h8_q⟩) (fun σ n h_q => ?_)
  obtain ⟨⟨j2_q, hj2, rfl, hj2a, hj2b⟩, rfl, rfl⟩ := h_q
  refine go_aload_n (pc := 13) dX7_dry_13 rfl ?_
  refine go_iload_n (pc := 14) dX7_dry_14 rfl ?_
  refine go_iconst (v := 0) (pc := 15) dX7_dry_15 (by decide) ?_
  refine go_iconst (v := 1) (pc := 16) dX7_dry_16 (by decide) ?_
  refine go_V3Vx (pc := 17) v_X7_90 rfl rfl (rcv_of (ci := 7) (by first | exact co0 hC | exact sr0 hR_q | exact be0 hQ_q | exact sr0 hT_q | exact be0 hQ9 | exact sr1 hR_q | exact sr2 hR_q | exact sr3 hR_q | exact sr4 hR_q | exact be1 hQ_q | exact be2 hQ_q | exact be3 hQ_q | exact sr3 hT_q | exact sr2 hT_q | exact sr1 hT_q | exact sr4 hT_q | exact co4 hC | exact co2 hC | exact co3 hC | exact co0 hC9 | exact sr0 hR9 | exact co4 hC9 | exact sr3 hR9 | exact sr2 hR9) rfl) dX7_dry_17 (cp_nW (k := k - 1) (lo := 0) (hi_q := 1) (by omega) (by decide) (by decide) _) (fun x σx nx hx_q => by obtain ⟨h9_q, rfl, rfl, h8_q⟩ := hx_q; exact Or.inr ⟨_, rfl, ⟨1, (by rw [show aDry K (nI j1_q).toInt (nI j2_q).toInt y.toInt = (2, 0) from by have e9_q : aDryT K (nI j1_q).toInt (nI j2_q).toInt y.toInt = 2 := (by simp only [aDryT, hj1, hj2, h9_q]); rw [aDry, e9_q, if_pos (by decide)]]; rfl), rfl⟩, rfl, h8_q⟩) (fun σ n h_q => ?_)
  obtain ⟨⟨j3_q, hj3, rfl, hj3a, hj3b⟩, rfl, rfl⟩ := h_q
  have h0_q : aDryT K (nI j1_q).toInt (nI j2_q).toInt (nI j3_q).toInt = 0 := by simp only [aDryT, hj1, hj2, hj3]
  have e1_q : (nI j1_q).toInt.toNat = j1_q := by rw [nI_toInt (by omega)]; rfl
  have e2_q : (nI j2_q).toInt.toNat = j2_q := by rw [nI_toInt (by omega)]; rfl
  obtain ⟨c8, hc8, ec8⟩ := dryF_nat (p := j1_q) (m := j2_q) (K := K) (v := 1) (a := 1) (b := 0) rfl (by decide) (by omega)
  rw [Nat.zero_add] at hc8
  have p10 := e15 hj2b
  refine go_aload_n (pc := 20) dX7_dry_20 rfl ?_
  refine go_V0A (pc := 21) v_X7_223 rfl rfl (rcv_of (ci := 7) (by first | exact co0 hC | exact sr0 hR_q | exact be0 hQ_q | exact sr0 hT_q | exact be0 hQ9 | exact sr1 hR_q | exact sr2 hR_q | exact sr3 hR_q | exact sr4 hR_q | exact be1 hQ_q | exact be2 hQ_q | exact be3 hQ_q | exact sr3 hT_q | exact sr2 hT_q | exact sr1 hT_q | exact sr4 hT_q | exact co4 hC | exact co2 hC | exact co3 hC | exact co0 hC9 | exact sr0 hR9 | exact co4 hC9 | exact sr3 hR9 | exact sr2 hR9) rfl) dX7_dry_21 (cp_trial (k := k - 1) hC hR_q hr_q hQ_q hB_q hg_q hS_q hD hsb (by omega)) (fun v_21 σ n h_q => ?_)
  obtain ⟨rfl, rfl, ⟨ch9, co9, rw9, bk9, hT_q, hr9_q⟩, hf_q⟩ := h_q
  have hQ9 := hQ_q.fr hf_q (by omega) (by omega)
  refine go_iload_n (pc := 24) dX7_dry_24 rfl ?_
  refine go_iload_n (pc := 25) dX7_dry_25 rfl ?_
  refine go_V2L (pc := 26) v_X7_310 rfl rfl (rcv_of (ci := 5) (by first | exact co0 hC | exact sr0 hR_q | exact be0 hQ_q | exact sr0 hT_q | exact be0 hQ9 | exact sr1 hR_q | exact sr2 hR_q | exact sr3 hR_q | exact sr4 hR_q | exact be1 hQ_q | exact be2 hQ_q | exact be3 hQ_q | exact sr3 hT_q | exact sr2 hT_q | exact sr1 hT_q | exact sr4 hT_q | exact co4 hC | exact co2 hC | exact co3 hC | exact co0 hC9 | exact sr0 hR9 | exact co4 hC9 | exact sr3 hR9 | exact sr2 hR9) rfl) dX7_dry_26 (cp_dryChances (k := k - 1) hT_q hr9_q hQ9 hB_q hg_q (by omega) (by omega) (by omega) hj1a hj2b) (fun v_26 σ n h_q => ?_)
  obtain ⟨rfl, rfl, hT9, hf1⟩ := h_q
  have hf_q := hf_q.tr hf1
  have hT9 := hT9.T
  rw [show goK 0 K = K from rfl, ec8]
  refine go_lstore (lw := [_, _, _, _, _, _, _, _, _, _]) (pc := 29) dX7_dry_29 (by decide) rfl ?_
  refine go_lconst (v := 1) (pc := 31) dX7_dry_31 rfl ?_
  refine go_lstore (lw := [_, _, _, _, _, _, _, _, _, _]) (pc := 32) dX7_dry_32 (by decide) rfl ?_
  refine go_iconst (v := 0) (pc := 34) dX7_dry_34 (by decide) ?_
  refine go_istore (lw := [_, _, _, _, _, _, _, _, _, _]) (pc := 35) dX7_dry_35 (by decide) rfl ?_
  refine go_iter (j2_q) (fun i_q lv9 s9 n9 => ∃ (y9 : Int64), lv9 = [some (.ref a), some (.int (nI j1_q)), some (.int (nI j2_q)), some (.int (nI j3_q)), some (.long (lN c8)), none, some (.long y9), none, some (.int (nI i_q)), none] ∧ (tenF (j2_q - i_q) y9 = tenF j2_q 1) ∧ (σ = s9) ∧ n = n9) ⟨1, rfl, rfl, rfl, rfl⟩ ?_ ?_
  · rintro i_q lv9 σ n9 hi_q ⟨y9, rfl, hR9, rfl, rfl⟩ ih_q
    refine go_iload (pc := 37) dX7_dry_37 rfl ?_
    refine go_iload_n (pc := 39) dX7_dry_39 rfl ?_
    refine go_icmp_ge (tgt := 57) (pc := 40) dX7_dry_40 (by decide) (fun h_40 => by exfalso; exact absurd h_40 (nI_ge (by omega) (by omega))) (fun h_40 => ?_)
    refine go_lload (pc := 43) dX7_dry_43 rfl ?_
    refine go_ldc2 (pc := 45) kw5_125 dX7_dry_45 ?_
    refine go_lmul (pc := 48) dX7_dry_48 ?_
    refine go_lstore (lw := [_, _, _, _, _, _, _, _, _, _]) (pc := 49) dX7_dry_49 (by decide) rfl ?_
    refine go_iinc (v := 1) (lw := [_, _, _, _, _, _, _, _, _, _]) (pc := 51) dX7_dry_51 rfl (by decide) (by decide) rfl ?_
    refine go_goto (tgt := 37) (pc := 54) dX7_dry_54 (by decide) ?_
    rw [nI_1]
    exact ih_q _ _ _ ⟨_, rfl, (by rw [← hR9, tenF_step hi_q]), rfl, rfl⟩
  · rintro lv9 σ n9 ⟨y9, rfl, hR9, rfl, rfl⟩
    refine go_iload (pc := 37) dX7_dry_37 rfl ?_
    refine go_iload_n (pc := 39) dX7_dry_39 rfl ?_
    refine go_icmp_ge (tgt := 57) (pc := 40) dX7_dry_40 (by decide) (fun h_40 => ?_) (fun h_40 => by exfalso; exact h_40 (nI_le (by omega) (by omega)))
    rw [Nat.sub_self] at hR9
    have hR9 : y9 = lN (10 ^ j2_q) := hR9.trans ten1
    subst hR9
    refine go_lload (pc := 57) dX7_dry_57 rfl ?_
    refine go_lload (pc := 59) dX7_dry_59 rfl ?_
    refine go_S2PL (pc := 61) s_X7_316 rfl rfl dX7_dry_61 (cp_common (k := k - 1) (by omega) (by omega)) ?_
    refine go_lstore (lw := [_, _, _, _, _, _, _, _, _, _]) (pc := 64) dX7_dry_64 (by decide) rfl ?_
    refine go_lload (pc := 66) dX7_dry_66 rfl ?_
    refine go_lconst (v := 0) (pc := 68) dX7_dry_68 rfl ?_
    refine go_lcmp (pc := 69) dX7_dry_69 ?_
    refine go_if_ne (tgt := 77) (pc := 70) dX7_dry_70 (by decide) (fun h_70 => ?_) (fun h_70 => by exfalso; exact (fun hc_q => gcd_ne (a := 10 ^ j2_q) (b := c8) p10.2 p10.1 (by rw [Nat.gcd_comm]; exact hc_q)) ((lg_cmp_eq _ _).mp h_70))
    refine go_iload_n (pc := 77) dX7_dry_77 rfl ?_
    refine go_if_ne (tgt := 89) (pc := 78) dX7_dry_78 (by decide) (fun h_78 => ?_) (fun h_78 => ?_)
    · refine go_lload (pc := 89) dX7_dry_89 rfl ?_
      refine go_lload (pc := 91) dX7_dry_91 rfl ?_
      refine go_ldiv (pc := 93) dX7_dry_93 (fun hc_q => gcd_ne (a := 10 ^ j2_q) (b := c8) p10.2 p10.1 (by rw [Nat.gcd_comm]; exact hc_q)) ?_
      exact go_lretT (pc := 94) rfl dX7_dry_94 (Nat.le_of_ble_eq_true rfl) (Nat.le_of_ble_eq_true rfl) (by
  have ev : dryN j1_q j2_q K = lN c8 := ec8
  have eg : (lN c8).toInt.toNat = c8 := by rw [pk_lT (by omega)]; rfl
  have ea : aDry K (nI j1_q).toInt (nI j2_q).toInt (nI j3_q).toInt = (0, if (nI j3_q).toInt = 0 then lN c8 / lN (Nat.gcd c8 (10 ^ j2_q)) else lN (10 ^ j2_q) / lN (Nat.gcd c8 (10 ^ j2_q))) := by
    rw [aDry, if_neg (fun hc_q => hc_q h0_q), e1_q, e2_q]
    show ((0 : Int32), if (nI j3_q).toInt = 0 then dryN j1_q j2_q K / lN (Nat.gcd (10 ^ j2_q) (dryN j1_q j2_q K).toInt.toNat) else tenF j2_q 1 / lN (Nat.gcd (10 ^ j2_q) (dryN j1_q j2_q K).toInt.toNat)) = _
    rw [ev, eg, Nat.gcd_comm, ten1]
  rw [ea]
  refine ⟨rfl, ?_, rfl, hS_q.s0 hC.1 hf_q hT9, hf_q.toS (fun q x y => by omega)⟩
  first
    | (have g9_q : nI j3_q = 0 := h_78
       rw [g9_q]; rfl)
    | (have g9_q : ¬ nI j3_q = 0 := h_78
       exact (if_neg (fun hc_q => g9_q (Int32.toInt_inj.mp (by rw [hc_q]; rfl)))).symm))
    · refine go_lload (pc := 81) dX7_dry_81 rfl ?_
      refine go_lload (pc := 83) dX7_dry_83 rfl ?_
      refine go_ldiv (pc := 85) dX7_dry_85 (fun hc_q => gcd_ne (a := 10 ^ j2_q) (b := c8) p10.2 p10.1 (by rw [Nat.gcd_comm]; exact hc_q)) ?_
      refine go_goto (tgt := 94) (pc := 86) dX7_dry_86 (by decide) ?_
      exact go_lretT (pc := 94) rfl dX7_dry_94 (Nat.le_of_ble_eq_true rfl) (Nat.le_of_ble_eq_true rfl) (by
  have ev : dryN j1_q j2_q K = lN c8 := ec8
  have eg : (lN c8).toInt.toNat = c8 := by rw [pk_lT (by omega)]; rfl
  have ea : aDry K (nI j1_q).toInt (nI j2_q).toInt (nI j3_q).toInt = (0, if (nI j3_q).toInt = 0 then lN c8 / lN (Nat.gcd c8 (10 ^ j2_q)) else lN (10 ^ j2_q) / lN (Nat.gcd c8 (10 ^ j2_q))) := by
    rw [aDry, if_neg (fun hc_q => hc_q h0_q), e1_q, e2_q]
    show ((0 : Int32), if (nI j3_q).toInt = 0 then dryN j1_q j2_q K / lN (Nat.gcd (10 ^ j2_q) (dryN j1_q j2_q K).toInt.toNat) else tenF j2_q 1 / lN (Nat.gcd (10 ^ j2_q) (dryN j1_q j2_q K).toInt.toNat)) = _
    rw [ev, eg, Nat.gcd_comm, ten1]
  rw [ea]
  refine ⟨rfl, ?_, rfl, hS_q.s0 hC.1 hf_q hT9, hf_q.toS (fun q x y => by omega)⟩
  first
    | (have g9_q : nI j3_q = 0 := h_78
       rw [g9_q]; rfl)
    | (have g9_q : ¬ nI j3_q = 0 := h_78
       exact (if_neg (fun hc_q => g9_q (Int32.toInt_inj.mp (by rw [hc_q]; rfl)))).symm))
theorem cp_driest {Γ : gam} {D : Nat} {ro : Nat → Nat} {z0 : sto} {n k a b : Nat} {w : Int32} {K ag pa pf ch co rw bk G : row} {im : Nat → Option Nat} {lm lt lw : Value} (hC : CoAt Γ ro z0 a G im) (hR_q : SrAt Γ ro z0 (a + 14) b w (K 33) ch co rw bk) (hr_q : rS K ch co rw bk) (hQ_q : BrAt Γ D ro z0 b K ag pa pf lm lt lw) (hB_q : okB K) (hg_q : gS K) (hS_q : ScAt Γ ro z0 a) (hD : a + 113 < D) (hsb : b = a + 10 ∨ a + 113 < b) (hk : 12 ≤ k) (z : Int32) : Sp Γ (rmk k 4 24) uX7_driest [.ref a, .int z] z0 n (qT (qI fun v σ' n' => (aDriest K z.toInt).1 = 0 ∧ v = (aDriest K z.toInt).2 ∧ n' = n ∧ ScAt Γ ro σ' a ∧ frS Γ ro (scr a) z0 σ') (fun x σ' n' => exL [eIA] (aDriest K z.toInt).1 x ∧ σ' = z0 ∧ n ≤ n')) := by
  have hP8 := hB_q.1.2.1
  have hH5 := hB_q.1.2.2.2.1
  have hW4 := hB_q.1.2.2.2.2.2
  refine sp_intro [some (.ref a), some (.int z), none, none, none, none, none, none] (by decide +kernel) rfl (Nat.le_of_ble_eq_true rfl) rfl ?_
  refine go_aload_n (pc := 0) dX7_driest_0 rfl ?_
  refine go_iload_n (pc := 1) dX7_driest_1 rfl ?_
  refine go_iconst (v := 0) (pc := 2) dX7_driest_2 (by decide) ?_
  refine go_bipush (v := 15) (pc := 3) dX7_driest_3 (by decide) ?_
  refine go_V3Vx (pc := 5) v_X7_90 rfl rfl (rcv_of (ci := 7) (by first | exact co0 hC | exact sr0 hR_q | exact be0 hQ_q | exact sr0 hT_q | exact be0 hQ9 | exact sr1 hR_q | exact sr2 hR_q | exact sr3 hR_q | exact sr4 hR_q | exact be1 hQ_q | exact be2 hQ_q | exact be3 hQ_q | exact sr3 hT_q | exact sr2 hT_q | exact sr1 hT_q | exact sr4 hT_q | exact co4 hC | exact co2 hC | exact co3 hC | exact co0 hC9 | exact sr0 hR9 | exact co4 hC9 | exact sr3 hR9 | exact sr2 hR9) rfl) dX7_driest_5 (cp_nW (k := k - 1) (lo := 0) (hi_q := 15) (by omega) (by decide) (by decide) _) (fun x σx nx hx_q => by obtain ⟨h9_q, rfl, rfl, h8_q⟩ := hx_q; exact Or.inr ⟨_, rfl, ⟨0, (by rw [show aDriest K z.toInt = (1, 0) from by simp only [aDriest, h9_q]]; rfl), rfl⟩, rfl, h8_q⟩) (fun σ n h_q => ?_)
  obtain ⟨⟨j2_q, hj2, rfl, hj2a, hj2b⟩, rfl, rfl⟩ := h_q
  refine go_iconst (v := -1) (pc := 8) dX7_driest_8 (by decide) ?_
  refine go_istore_n (lw := [_, _, _, _, _, _, _, _]) (pc := 9) dX7_driest_9 (by decide) rfl ?_
  refine go_ldc2 (pc := 10) kw5_129 dX7_driest_10 ?_
  refine go_lstore_n (lw := [_, _, _, _, _, _, _, _]) (pc := 13) dX7_driest_13 (by decide) rfl ?_
  refine go_iconst (v := 0) (pc := 14) dX7_driest_14 (by decide) ?_
  refine go_istore (lw := [_, _, _, _, _, _, _, _]) (pc := 15) dX7_driest_15 (by decide) rfl ?_
  refine go_iter (kP K) (fun i_q lv9 s9 n9 => ∃ (b9_q : Int32), ∃ (x9_q : Int64), ∃ x6_q, lv9 = [some (.ref a), some (.int (nI j2_q)), some (.int b9_q), some (.long x9_q), none, some (.int (nI i_q)), x6_q, none] ∧ (argL (fun p => some (dryN p j2_q K)) (kP K - i_q) i_q b9_q x9_q = argL (fun p => some (dryN p j2_q K)) (kP K) 0 (-1) (-1)) ∧ (frC Γ ro (a + 89) (a + 93) z0 s9) ∧ (TrAt Γ ro s9 (a + 89)) ∧ n = n9) ⟨-1, -1, none, rfl, rfl, frC.rf, hS_q.t0, rfl⟩ ?_ ?_
  · rintro i_q lv9 σ n9 hi_q ⟨b9_q, x9_q, x6_q, rfl, hR9e, hf_q, hT9, rfl⟩ ih_q
    have hC9 := hC.fs (hf_q.toS (S := scr a) (fun q x y => by omega)) (fun q x => by omega)
    have hR9 := hR_q.fr hf_q (by omega)
    have hQ9 := hQ_q.fr hf_q (by omega) (by omega)
    have hS9 := hS_q.s0 hC.1 hf_q hT9
    refine go_iload (pc := 17) dX7_driest_17 rfl ?_
    refine go_aload_n (pc := 19) dX7_driest_19 rfl ?_
    refine go_getf (pc := 20) f_X7_65 dX7_driest_20 (by first | exact co0 hC | exact sr0 hR_q | exact be0 hQ_q | exact sr0 hT_q | exact be0 hQ9 | exact sr1 hR_q | exact sr2 hR_q | exact sr3 hR_q | exact sr4 hR_q | exact be1 hQ_q | exact be2 hQ_q | exact be3 hQ_q | exact sr3 hT_q | exact sr2 hT_q | exact sr1 hT_q | exact sr4 hT_q | exact co4 hC | exact co2 hC | exact co3 hC | exact co0 hC9 | exact sr0 hR9 | exact co4 hC9 | exact sr3 hR9 | exact sr2 hR9) (by rfl) ?_
    refine go_getf (pc := 23) f_X7_120 dX7_driest_23 (by first | exact co0 hC | exact sr0 hR_q | exact be0 hQ_q | exact sr0 hT_q | exact be0 hQ9 | exact sr1 hR_q | exact sr2 hR_q | exact sr3 hR_q | exact sr4 hR_q | exact be1 hQ_q | exact be2 hQ_q | exact be3 hQ_q | exact sr3 hT_q | exact sr2 hT_q | exact sr1 hT_q | exact sr4 hT_q | exact co4 hC | exact co2 hC | exact co3 hC | exact co0 hC9 | exact sr0 hR9 | exact co4 hC9 | exact sr3 hR9 | exact sr2 hR9) (by rfl) ?_
    refine go_getf (pc := 26) f_X7_263 dX7_driest_26 (by first | exact co0 hC | exact sr0 hR_q | exact be0 hQ_q | exact sr0 hT_q | exact be0 hQ9 | exact sr1 hR_q | exact sr2 hR_q | exact sr3 hR_q | exact sr4 hR_q | exact be1 hQ_q | exact be2 hQ_q | exact be3 hQ_q | exact sr3 hT_q | exact sr2 hT_q | exact sr1 hT_q | exact sr4 hT_q | exact co4 hC | exact co2 hC | exact co3 hC | exact co0 hC9 | exact sr0 hR9 | exact co4 hC9 | exact sr3 hR9 | exact sr2 hR9) (by rfl) ?_
    refine go_icmp_ge (tgt := 63) (pc := 29) dX7_driest_29 (by decide) (fun h_29 => by exfalso; rw [hB_q.1.1] at h_29; exact absurd h_29 (nI_ge (by omega) (by omega))) (fun h_29 => ?_)
    refine go_aload_n (pc := 32) dX7_driest_32 rfl ?_
    refine go_V0A (pc := 33) v_X7_223 rfl rfl (rcv_of (ci := 7) (by first | exact co0 hC | exact sr0 hR_q | exact be0 hQ_q | exact sr0 hT_q | exact be0 hQ9 | exact sr1 hR_q | exact sr2 hR_q | exact sr3 hR_q | exact sr4 hR_q | exact be1 hQ_q | exact be2 hQ_q | exact be3 hQ_q | exact sr3 hT_q | exact sr2 hT_q | exact sr1 hT_q | exact sr4 hT_q | exact co4 hC | exact co2 hC | exact co3 hC | exact co0 hC9 | exact sr0 hR9 | exact co4 hC9 | exact sr3 hR9 | exact sr2 hR9) rfl) dX7_driest_33 (cp_trial (k := k - 1) hC9 hR9 hr_q hQ9 hB_q hg_q hS9 hD hsb (by omega)) (fun v_33 σ n h_q => ?_)
    obtain ⟨rfl, rfl, ⟨ch9, co9, rw9, bk9, hT_q, hr9_q⟩, hf1⟩ := h_q
    rw [show goK 0 K = K from rfl] at hT_q hr9_q
    have hQ9 := hQ9.fr hf1 (by omega) (by omega)
    have hf_q := hf_q.tr hf1
    refine go_iload (pc := 36) dX7_driest_36 rfl ?_
    refine go_iload_n (pc := 38) dX7_driest_38 rfl ?_
    refine go_V2L (pc := 39) v_X7_310 rfl rfl (rcv_of (ci := 5) (by first | exact co0 hC | exact sr0 hR_q | exact be0 hQ_q | exact sr0 hT_q | exact be0 hQ9 | exact sr1 hR_q | exact sr2 hR_q | exact sr3 hR_q | exact sr4 hR_q | exact be1 hQ_q | exact be2 hQ_q | exact be3 hQ_q | exact sr3 hT_q | exact sr2 hT_q | exact sr1 hT_q | exact sr4 hT_q | exact co4 hC | exact co2 hC | exact co3 hC | exact co0 hC9 | exact sr0 hR9 | exact co4 hC9 | exact sr3 hR9 | exact sr2 hR9) rfl) dX7_driest_39 (cp_dryChances (k := k - 1) hT_q hr9_q hQ9 hB_q hg_q (by omega) (by omega) (by omega) hi_q hj2b) (fun v_39 σ n h_q => ?_)
    obtain ⟨rfl, rfl, hT9, hf1⟩ := h_q
    have hf_q := hf_q.tr hf1
    have hT9 := hT9.T
    refine go_lstore (lw := [_, _, _, _, _, _, _, _]) (pc := 42) dX7_driest_42 (by decide) rfl ?_
    refine go_lload (pc := 44) dX7_driest_44 rfl ?_
    refine go_lload_n (pc := 46) dX7_driest_46 rfl ?_
    refine go_lcmp (pc := 47) dX7_driest_47 ?_
    refine go_if_le (tgt := 57) (pc := 48) dX7_driest_48 (by decide) (fun h_48 => ?_) (fun h_48 => ?_)
    · refine go_iinc (v := 1) (lw := [_, _, _, _, _, _, _, _]) (pc := 57) dX7_driest_57 rfl (by decide) (by decide) rfl ?_
      refine go_goto (tgt := 17) (pc := 60) dX7_driest_60 (by decide) ?_
      rw [nI_1]
      first
        | (have g9_q : ¬ x9_q < dryF i_q j2_q K 1 := fun hc_q => absurd ((lg_cmp_gt _ _).mpr hc_q) (Int32.not_lt.mpr h_48)
           refine ih_q _ _ _ ⟨_, _, _, rfl, ?_, hf_q, hT9, rfl⟩
           rw [← hR9e, argL_dn hi_q rfl g9_q])
        | (have g9_q : x9_q < dryF i_q j2_q K 1 := (lg_cmp_gt _ _).mp (Int32.not_le.mp h_48)
           refine ih_q _ _ _ ⟨_, _, _, rfl, ?_, hf_q, hT9, rfl⟩
           rw [← hR9e, argL_up hi_q rfl g9_q])
    · refine go_lload (pc := 51) dX7_driest_51 rfl ?_
      refine go_lstore_n (lw := [_, _, _, _, _, _, _, _]) (pc := 53) dX7_driest_53 (by decide) rfl ?_
      refine go_iload (pc := 54) dX7_driest_54 rfl ?_
      refine go_istore_n (lw := [_, _, _, _, _, _, _, _]) (pc := 56) dX7_driest_56 (by decide) rfl ?_
      refine go_iinc (v := 1) (lw := [_, _, _, _, _, _, _, _]) (pc := 57) dX7_driest_57 rfl (by decide) (by decide) rfl ?_
      refine go_goto (tgt := 17) (pc := 60) dX7_driest_60 (by decide) ?_
      rw [nI_1]
      first
        | (have g9_q : ¬ x9_q < dryF i_q j2_q K 1 := fun hc_q => absurd ((lg_cmp_gt _ _).mpr hc_q) (Int32.not_lt.mpr h_48)
           refine ih_q _ _ _ ⟨_, _, _, rfl, ?_, hf_q, hT9, rfl⟩
           rw [← hR9e, argL_dn hi_q rfl g9_q])
        | (have g9_q : x9_q < dryF i_q j2_q K 1 := (lg_cmp_gt _ _).mp (Int32.not_le.mp h_48)
           refine ih_q _ _ _ ⟨_, _, _, rfl, ?_, hf_q, hT9, rfl⟩
           rw [← hR9e, argL_up hi_q rfl g9_q])
  · rintro lv9 σ n9 ⟨b9_q, x9_q, x6_q, rfl, hR9e, hf_q, hT9, rfl⟩
    have hC9 := hC.fs (hf_q.toS (S := scr a) (fun q x y => by omega)) (fun q x => by omega)
    have hR9 := hR_q.fr hf_q (by omega)
    have hQ9 := hQ_q.fr hf_q (by omega) (by omega)
    have hS9 := hS_q.s0 hC.1 hf_q hT9
    refine go_iload (pc := 17) dX7_driest_17 rfl ?_
    refine go_aload_n (pc := 19) dX7_driest_19 rfl ?_
    refine go_getf (pc := 20) f_X7_65 dX7_driest_20 (by first | exact co0 hC | exact sr0 hR_q | exact be0 hQ_q | exact sr0 hT_q | exact be0 hQ9 | exact sr1 hR_q | exact sr2 hR_q | exact sr3 hR_q | exact sr4 hR_q | exact be1 hQ_q | exact be2 hQ_q | exact be3 hQ_q | exact sr3 hT_q | exact sr2 hT_q | exact sr1 hT_q | exact sr4 hT_q | exact co4 hC | exact co2 hC | exact co3 hC | exact co0 hC9 | exact sr0 hR9 | exact co4 hC9 | exact sr3 hR9 | exact sr2 hR9) (by rfl) ?_
    refine go_getf (pc := 23) f_X7_120 dX7_driest_23 (by first | exact co0 hC | exact sr0 hR_q | exact be0 hQ_q | exact sr0 hT_q | exact be0 hQ9 | exact sr1 hR_q | exact sr2 hR_q | exact sr3 hR_q | exact sr4 hR_q | exact be1 hQ_q | exact be2 hQ_q | exact be3 hQ_q | exact sr3 hT_q | exact sr2 hT_q | exact sr1 hT_q | exact sr4 hT_q | exact co4 hC | exact co2 hC | exact co3 hC | exact co0 hC9 | exact sr0 hR9 | exact co4 hC9 | exact sr3 hR9 | exact sr2 hR9) (by rfl) ?_
    refine go_getf (pc := 26) f_X7_263 dX7_driest_26 (by first | exact co0 hC | exact sr0 hR_q | exact be0 hQ_q | exact sr0 hT_q | exact be0 hQ9 | exact sr1 hR_q | exact sr2 hR_q | exact sr3 hR_q | exact sr4 hR_q | exact be1 hQ_q | exact be2 hQ_q | exact be3 hQ_q | exact sr3 hT_q | exact sr2 hT_q | exact sr1 hT_q | exact sr4 hT_q | exact co4 hC | exact co2 hC | exact co3 hC | exact co0 hC9 | exact sr0 hR9 | exact co4 hC9 | exact sr3 hR9 | exact sr2 hR9) (by rfl) ?_
    refine go_icmp_ge (tgt := 63) (pc := 29) dX7_driest_29 (by decide) (fun h_29 => ?_) (fun h_29 => by exfalso; rw [hB_q.1.1] at h_29; exact h_29 (nI_le (by omega) (by omega)))
    refine go_iload_n (pc := 63) dX7_driest_63 rfl ?_
    exact go_iretT (pc := 64) rfl dX7_driest_64 (Nat.le_of_ble_eq_true rfl) (Nat.le_of_ble_eq_true rfl) ⟨by simp only [aDriest, hj2], by simp only [aDriest, hj2]; rw [← hR9e, Nat.sub_self]; rfl, rfl, hS_q.s0 hC.1 hf_q hT9, hf_q.toS (fun q x y => by omega)⟩
theorem cp_where {Γ : gam} {D : Nat} {ro : Nat → Nat} {z0 : sto} {n k a b : Nat} {w : Int32} {K ag pa pf ch co rw bk G : row} {im : Nat → Option Nat} {lm lt lw : Value} (hC : CoAt Γ ro z0 a G im) (hR_q : SrAt Γ ro z0 (a + 14) b w (K 33) ch co rw bk) (hr_q : rS K ch co rw bk) (hQ_q : BrAt Γ D ro z0 b K ag pa pf lm lt lw) (hB_q : okB K) (hg_q : gS K) (hS_q : ScAt Γ ro z0 a) (hD : a + 113 < D) (hsb : b = a + 10 ∨ a + 113 < b) (hk : 12 ≤ k) (p z : Int32) : Sp Γ (rmk k 4 24) uX7_where [.ref a, .int p, .int z] z0 n (qT (qI fun v σ' n' => (aWhere K p.toInt z.toInt).1 = 0 ∧ v = (aWhere K p.toInt z.toInt).2 ∧ n' = n ∧ ScAt Γ ro σ' a ∧ frS Γ ro (scr a) z0 σ') (fun x σ' n' => exL [eNS, eIA, eIS] (aWhere K p.toInt z.toInt).1 x ∧ σ' = z0 ∧ n ≤ n')) := by
  have hP8 := hB_q.1.2.1
  have hH5 := hB_q.1.2.2.2.1
  have hW4 := hB_q.1.2.2.2.2.2
  refine sp_intro [some (.ref a), some (.int p), some (.int z), none, none, none, none, none, none, none] (by decide +kernel) rfl (Nat.le_of_ble_eq_true rfl) rfl ?_
  refine go_aload_n (pc := 0) dX7_where_0 rfl ?_
  refine go_iload_n (pc := 1) dX7_where_1 rfl ?_
  refine go_V1Vx (pc := 2) v_X7_135 rfl rfl (rcv_of (ci := 7) (by first | exact co0 hC | exact sr0 hR_q | exact be0 hQ_q | exact sr0 hT_q | exact be0 hQ9 | exact sr1 hR_q | exact sr2 hR_q | exact sr3 hR_q | exact sr4 hR_q | exact be1 hQ_q | exact be2 hQ_q | exact be3 hQ_q | exact sr3 hT_q | exact sr2 hT_q | exact sr1 hT_q | exact sr4 hT_q | exact co4 hC | exact co2 hC | exact co3 hC | exact co0 hC9 | exact sr0 hR9 | exact co4 hC9 | exact sr3 hR9 | exact sr2 hR9) rfl) dX7_where_2 (cp_needPerson (k := k - 1) hC hR_q hr_q hQ_q hB_q (by omega) _) (fun x σx nx hx_q => by obtain ⟨h9_q, rfl, rfl, h8_q⟩ := hx_q; exact Or.inr ⟨_, rfl, ⟨0, (by rw [show aWhere K p.toInt z.toInt = (1, 0) from by have e9_q : aWhereT K p.toInt z.toInt = 1 := (by simp only [aWhereT, h9_q]); rw [aWhere, e9_q, if_pos (by decide)]]; rfl), rfl⟩, rfl, h8_q⟩) (fun σ n h_q => ?_)
  obtain ⟨⟨j1_q, hj1, rfl, hj1a⟩, rfl, rfl⟩ := h_q
  refine go_aload_n (pc := 5) dX7_where_5 rfl ?_
  refine go_iload_n (pc := 6) dX7_where_6 rfl ?_
  refine go_iconst (v := 0) (pc := 7) dX7_where_7 (by decide) ?_
  refine go_bipush (v := 15) (pc := 8) dX7_where_8 (by decide) ?_
  refine go_V3Vx (pc := 10) v_X7_90 rfl rfl (rcv_of (ci := 7) (by first | exact co0 hC | exact sr0 hR_q | exact be0 hQ_q | exact sr0 hT_q | exact be0 hQ9 | exact sr1 hR_q | exact sr2 hR_q | exact sr3 hR_q | exact sr4 hR_q | exact be1 hQ_q | exact be2 hQ_q | exact be3 hQ_q | exact sr3 hT_q | exact sr2 hT_q | exact sr1 hT_q | exact sr4 hT_q | exact co4 hC | exact co2 hC | exact co3 hC | exact co0 hC9 | exact sr0 hR9 | exact co4 hC9 | exact sr3 hR9 | exact sr2 hR9) rfl) dX7_where_10 (cp_nW (k := k - 1) (lo := 0) (hi_q := 15) (by omega) (by decide) (by decide) _) (fun x σx nx hx_q => by obtain ⟨h9_q, rfl, rfl, h8_q⟩ := hx_q; exact Or.inr ⟨_, rfl, ⟨1, (by rw [show aWhere K (nI j1_q).toInt z.toInt = (2, 0) from by have e9_q : aWhereT K (nI j1_q).toInt z.toInt = 2 := (by simp only [aWhereT, hj1, h9_q]); rw [aWhere, e9_q, if_pos (by decide)]]; rfl), rfl⟩, rfl, h8_q⟩) (fun σ n h_q => ?_)
  obtain ⟨⟨j2_q, hj2, rfl, hj2a, hj2b⟩, rfl, rfl⟩ := h_q
  refine go_aload_n (pc := 13) dX7_where_13 rfl ?_
  refine go_getf (pc := 14) f_X7_65 dX7_where_14 (by first | exact co0 hC | exact sr0 hR_q | exact be0 hQ_q | exact sr0 hT_q | exact be0 hQ9 | exact sr1 hR_q | exact sr2 hR_q | exact sr3 hR_q | exact sr4 hR_q | exact be1 hQ_q | exact be2 hQ_q | exact be3 hQ_q | exact sr3 hT_q | exact sr2 hT_q | exact sr1 hT_q | exact sr4 hT_q | exact co4 hC | exact co2 hC | exact co3 hC | exact co0 hC9 | exact sr0 hR9 | exact co4 hC9 | exact sr3 hR9 | exact sr2 hR9) (by rfl) ?_
  refine go_getf (pc := 17) f_X7_141 dX7_where_17 (by first | exact co0 hC | exact sr0 hR_q | exact be0 hQ_q | exact sr0 hT_q | exact be0 hQ9 | exact sr1 hR_q | exact sr2 hR_q | exact sr3 hR_q | exact sr4 hR_q | exact be1 hQ_q | exact be2 hQ_q | exact be3 hQ_q | exact sr3 hT_q | exact sr2 hT_q | exact sr1 hT_q | exact sr4 hT_q | exact co4 hC | exact co2 hC | exact co3 hC | exact co0 hC9 | exact sr0 hR9 | exact co4 hC9 | exact sr3 hR9 | exact sr2 hR9) (by rfl) ?_
  refine go_iload_n (pc := 20) dX7_where_20 rfl ?_
  refine go_iald (pc := 21) dX7_where_21 (by first | exact co0 hC | exact sr0 hR_q | exact be0 hQ_q | exact sr0 hT_q | exact be0 hQ9 | exact sr1 hR_q | exact sr2 hR_q | exact sr3 hR_q | exact sr4 hR_q | exact be1 hQ_q | exact be2 hQ_q | exact be3 hQ_q | exact sr3 hT_q | exact sr2 hT_q | exact sr1 hT_q | exact sr4 hT_q | exact co4 hC | exact co2 hC | exact co3 hC | exact co0 hC9 | exact sr0 hR9 | exact co4 hC9 | exact sr3 hR9 | exact sr2 hR9) (by exact ⟨rfl, by omega⟩) ?_
  rw [(hr_q.1 j1_q hj1a).2.1]
  refine go_iconst (v := -1) (pc := 22) dX7_where_22 (by decide) ?_
  refine go_icmp_eq (tgt := 37) (pc := 23) dX7_where_23 (by decide) (fun h_23 => ?_) (fun h_23 => ?_)
  · have h0_q : aWhereT K (nI j1_q).toInt (nI j2_q).toInt = 0 := by simp only [aWhereT, hj1, hj2]; rw [if_pos h_23]
    have e1_q : (nI j1_q).toInt.toNat = j1_q := by rw [nI_toInt (by omega)]; rfl
    have e2_q : (nI j2_q).toInt.toNat = j2_q := by rw [nI_toInt (by omega)]; rfl
    refine go_iconst (v := -1) (pc := 37) dX7_where_37 (by decide) ?_
    refine go_istore_n (lw := [_, _, _, _, _, _, _, _, _, _]) (pc := 38) dX7_where_38 (by decide) rfl ?_
    refine go_ldc2 (pc := 39) kw5_129 dX7_where_39 ?_
    refine go_lstore (lw := [_, _, _, _, _, _, _, _, _, _]) (pc := 42) dX7_where_42 (by decide) rfl ?_
    refine go_iconst (v := 0) (pc := 44) dX7_where_44 (by decide) ?_
    refine go_istore (lw := [_, _, _, _, _, _, _, _, _, _]) (pc := 45) dX7_where_45 (by decide) rfl ?_
    refine go_iter (kW K) (fun i_q lv9 s9 n9 => ∃ (b9_q : Int32), ∃ (x9_q : Int64), ∃ x7_q, ∃ x8_q, lv9 = [some (.ref a), some (.int (nI j1_q)), some (.int (nI j2_q)), some (.int b9_q), some (.long x9_q), none, some (.int (nI i_q)), x7_q, x8_q, none] ∧ (argL (fun c => if freeK K (nI c) = none then none else some (dryN j1_q j2_q (sitdK K j1_q (nI c)))) (kW K - i_q) i_q b9_q x9_q = argL (fun c => if freeK K (nI c) = none then none else some (dryN j1_q j2_q (sitdK K j1_q (nI c)))) (kW K) 0 (-1) (-1)) ∧ (frC Γ ro (a + 89) (a + 93) z0 s9) ∧ (TrAt Γ ro s9 (a + 89)) ∧ n = n9) ⟨-1, -1, none, none, rfl, rfl, frC.rf, hS_q.t0, rfl⟩ ?_ ?_
    · rintro i_q lv9 σ n9 hi_q ⟨b9_q, x9_q, x7_q, x8_q, rfl, hR9e, hf_q, hT9, rfl⟩ ih_q
      have hC9 := hC.fs (hf_q.toS (S := scr a) (fun q x y => by omega)) (fun q x => by omega)
      have hR9 := hR_q.fr hf_q (by omega)
      have hQ9 := hQ_q.fr hf_q (by omega) (by omega)
      have hS9 := hS_q.s0 hC.1 hf_q hT9
      refine go_iload (pc := 47) dX7_where_47 rfl ?_
      refine go_aload_n (pc := 49) dX7_where_49 rfl ?_
      refine go_getf (pc := 50) f_X7_65 dX7_where_50 (by first | exact co0 hC | exact sr0 hR_q | exact be0 hQ_q | exact sr0 hT_q | exact be0 hQ9 | exact sr1 hR_q | exact sr2 hR_q | exact sr3 hR_q | exact sr4 hR_q | exact be1 hQ_q | exact be2 hQ_q | exact be3 hQ_q | exact sr3 hT_q | exact sr2 hT_q | exact sr1 hT_q | exact sr4 hT_q | exact co4 hC | exact co2 hC | exact co3 hC | exact co0 hC9 | exact sr0 hR9 | exact co4 hC9 | exact sr3 hR9 | exact sr2 hR9) (by rfl) ?_
      refine go_getf (pc := 53) f_X7_120 dX7_where_53 (by first | exact co0 hC | exact sr0 hR_q | exact be0 hQ_q | exact sr0 hT_q | exact be0 hQ9 | exact sr1 hR_q | exact sr2 hR_q | exact sr3 hR_q | exact sr4 hR_q | exact be1 hQ_q | exact be2 hQ_q | exact be3 hQ_q | exact sr3 hT_q | exact sr2 hT_q | exact sr1 hT_q | exact sr4 hT_q | exact co4 hC | exact co2 hC | exact co3 hC | exact co0 hC9 | exact sr0 hR9 | exact co4 hC9 | exact sr3 hR9 | exact sr2 hR9) (by rfl) ?_
      refine go_getf (pc := 56) f_X7_324 dX7_where_56 (by first | exact co0 hC | exact sr0 hR_q | exact be0 hQ_q | exact sr0 hT_q | exact be0 hQ9 | exact sr1 hR_q | exact sr2 hR_q | exact sr3 hR_q | exact sr4 hR_q | exact be1 hQ_q | exact be2 hQ_q | exact be3 hQ_q | exact sr3 hT_q | exact sr2 hT_q | exact sr1 hT_q | exact sr4 hT_q | exact co4 hC | exact co2 hC | exact co3 hC | exact co0 hC9 | exact sr0 hR9 | exact co4 hC9 | exact sr3 hR9 | exact sr2 hR9) (by rfl) ?_
      refine go_icmp_ge (tgt := 110) (pc := 59) dX7_where_59 (by decide) (fun h_59 => by exfalso; rw [hB_q.1.2.2.2.2.1] at h_59; exact absurd h_59 (nI_ge (by omega) (by omega))) (fun h_59 => ?_)
      refine go_aload_n (pc := 62) dX7_where_62 rfl ?_
      refine go_V0A (pc := 63) v_X7_223 rfl rfl (rcv_of (ci := 7) (by first | exact co0 hC | exact sr0 hR_q | exact be0 hQ_q | exact sr0 hT_q | exact be0 hQ9 | exact sr1 hR_q | exact sr2 hR_q | exact sr3 hR_q | exact sr4 hR_q | exact be1 hQ_q | exact be2 hQ_q | exact be3 hQ_q | exact sr3 hT_q | exact sr2 hT_q | exact sr1 hT_q | exact sr4 hT_q | exact co4 hC | exact co2 hC | exact co3 hC | exact co0 hC9 | exact sr0 hR9 | exact co4 hC9 | exact sr3 hR9 | exact sr2 hR9) rfl) dX7_where_63 (cp_trial (k := k - 1) hC9 hR9 hr_q hQ9 hB_q hg_q hS9 hD hsb (by omega)) (fun v_63 σ n h_q => ?_)
      obtain ⟨rfl, rfl, ⟨ch9, co9, rw9, bk9, hT_q, hr9_q⟩, hf1⟩ := h_q
      rw [show goK 0 K = K from rfl] at hT_q hr9_q
      have hQ9 := hQ9.fr hf1 (by omega) (by omega)
      have hf_q := hf_q.tr hf1
      refine go_astore (lw := [_, _, _, _, _, _, _, _, _, _]) (pc := 66) dX7_where_66 (by decide) rfl ?_
      refine go_aload (pc := 68) dX7_where_68 rfl ?_
      refine go_iload_n (pc := 70) dX7_where_70 rfl ?_
      refine go_iload (pc := 71) dX7_where_71 rfl ?_
      refine go_V2I (pc := 73) v_X7_189 rfl rfl (rcv_of (ci := 5) (by first | exact co0 hC | exact sr0 hR_q | exact be0 hQ_q | exact sr0 hT_q | exact be0 hQ9 | exact sr1 hR_q | exact sr2 hR_q | exact sr3 hR_q | exact sr4 hR_q | exact be1 hQ_q | exact be2 hQ_q | exact be3 hQ_q | exact sr3 hT_q | exact sr2 hT_q | exact sr1 hT_q | exact sr4 hT_q | exact co4 hC | exact co2 hC | exact co3 hC | exact co0 hC9 | exact sr0 hR9 | exact co4 hC9 | exact sr3 hR9 | exact sr2 hR9) rfl) dX7_where_73 (cp_take (k := k - 1) hT_q hr9_q hQ9 hB_q hg_q (by omega) (by omega) (by omega) hj1a h_23 hi_q) (fun v_73 σ n h_q => ?_)
      obtain ⟨rfl, rfl, hT9, hf1⟩ := h_q
      have hf_q := hf_q.tr hf1
      have hQ9 := hQ9.fr hf1 (by omega) (by omega)
      refine go_iconst (v := -1) (pc := 76) dX7_where_76 (by decide) ?_
      refine go_icmp_eq (tgt := 104) (pc := 77) dX7_where_77 (by decide) (fun h_77 => ?_) (fun h_77 => ?_)
      · refine go_iinc (v := 1) (lw := [_, _, _, _, _, _, _, _, _, _]) (pc := 104) dX7_where_104 rfl (by decide) (by decide) rfl ?_
        refine go_goto (tgt := 47) (pc := 107) dX7_where_107 (by decide) ?_
        rw [nI_1]
        first
          | (have g9_q : freeK K (nI i_q) = none := (freeK_none hH5).mp h_77
             refine ih_q _ _ _ ⟨_, _, _, _, rfl, ?_, hf_q, hT9.T, rfl⟩
             rw [← hR9e, argL_no hi_q (if_pos g9_q)])
          | (have g9_q : ¬ x9_q < dryF j1_q j2_q (sitdK K j1_q (nI i_q)) 1 := fun hc_q => absurd ((lg_cmp_gt _ _).mpr hc_q) (Int32.not_lt.mpr h_94)
             refine ih_q _ _ _ ⟨_, _, _, _, rfl, ?_, hf_q, hT9.T, rfl⟩
             rw [← hR9e, argL_dn hi_q (if_neg hne) g9_q])
          | (have g9_q : x9_q < dryF j1_q j2_q (sitdK K j1_q (nI i_q)) 1 := (lg_cmp_gt _ _).mp (Int32.not_le.mp h_94)
             refine ih_q _ _ _ ⟨_, _, _, _, rfl, ?_, hf_q, hT9.T, rfl⟩
             rw [← hR9e, argL_up hi_q (if_neg hne) g9_q])
      · have hne : ¬ freeK K (nI i_q) = none := fun hc_q => h_77 ((freeK_none hH5).mpr hc_q)
        have etk : takK K j1_q (nI i_q) = sitdK K j1_q (nI i_q) := if_neg hne
        rw [etk] at hT9
        obtain ⟨ch9, co9, rw9, bk9, hT_q, hr9_q⟩ := hT9
        have hs8 : sameB K (sitdK K j1_q (nI i_q)) := sitdK_same (by omega)
        have hg8 : gS (sitdK K j1_q (nI i_q)) := by rw [← etk]; exact gS_tak hP8 hH5 hj1a hg_q hi_q
        refine go_aload (pc := 80) dX7_where_80 rfl ?_
        refine go_iload_n (pc := 82) dX7_where_82 rfl ?_
        refine go_iload_n (pc := 83) dX7_where_83 rfl ?_
        refine go_V2L (pc := 84) v_X7_310 rfl rfl (rcv_of (ci := 5) (by first | exact co0 hC | exact sr0 hR_q | exact be0 hQ_q | exact sr0 hT_q | exact be0 hQ9 | exact sr1 hR_q | exact sr2 hR_q | exact sr3 hR_q | exact sr4 hR_q | exact be1 hQ_q | exact be2 hQ_q | exact be3 hQ_q | exact sr3 hT_q | exact sr2 hT_q | exact sr1 hT_q | exact sr4 hT_q | exact co4 hC | exact co2 hC | exact co3 hC | exact co0 hC9 | exact sr0 hR9 | exact co4 hC9 | exact sr3 hR9 | exact sr2 hR9) rfl) dX7_where_84 (cp_dryChances (k := k - 1) hT_q hr9_q (hQ9.sm hs8) (hs8.okB hB_q) hg8 (by omega) (by omega) (by omega) (by rw [hs8.P]; exact hj1a) hj2b) (fun v_84 σ n h_q => ?_)
        obtain ⟨rfl, rfl, hT9, hf1⟩ := h_q
        have hf_q := hf_q.tr hf1
        refine go_lstore (lw := [_, _, _, _, _, _, _, _, _, _]) (pc := 87) dX7_where_87 (by decide) rfl ?_
        refine go_lload (pc := 89) dX7_where_89 rfl ?_
        refine go_lload (pc := 91) dX7_where_91 rfl ?_
        refine go_lcmp (pc := 93) dX7_where_93 ?_
        refine go_if_le (tgt := 104) (pc := 94) dX7_where_94 (by decide) (fun h_94 => ?_) (fun h_94 => ?_)
        · refine go_iinc (v := 1) (lw := [_, _, _, _, _, _, _, _, _, _]) (pc := 104) dX7_where_104 rfl (by decide) (by decide) rfl ?_
          refine go_goto (tgt := 47) (pc := 107) dX7_where_107 (by decide) ?_
          rw [nI_1]
          first
            | (have g9_q : freeK K (nI i_q) = none := (freeK_none hH5).mp h_77
               refine ih_q _ _ _ ⟨_, _, _, _, rfl, ?_, hf_q, hT9.T, rfl⟩
               rw [← hR9e, argL_no hi_q (if_pos g9_q)])
            | (have g9_q : ¬ x9_q < dryF j1_q j2_q (sitdK K j1_q (nI i_q)) 1 := fun hc_q => absurd ((lg_cmp_gt _ _).mpr hc_q) (Int32.not_lt.mpr h_94)
               refine ih_q _ _ _ ⟨_, _, _, _, rfl, ?_, hf_q, hT9.T, rfl⟩
               rw [← hR9e, argL_dn hi_q (if_neg hne) g9_q])
            | (have g9_q : x9_q < dryF j1_q j2_q (sitdK K j1_q (nI i_q)) 1 := (lg_cmp_gt _ _).mp (Int32.not_le.mp h_94)
               refine ih_q _ _ _ ⟨_, _, _, _, rfl, ?_, hf_q, hT9.T, rfl⟩
               rw [← hR9e, argL_up hi_q (if_neg hne) g9_q])
        · refine go_lload (pc := 97) dX7_where_97 rfl ?_
          refine go_lstore (lw := [_, _, _, _, _, _, _, _, _, _]) (pc := 99) dX7_where_99 (by decide) rfl ?_
          refine go_iload (pc := 101) dX7_where_101 rfl ?_
          refine go_istore_n (lw := [_, _, _, _, _, _, _, _, _, _]) (pc := 103) dX7_where_103 (by decide) rfl ?_
          refine go_iinc (v := 1) (lw := [_, _, _, _, _, _, _, _, _, _]) (pc := 104) dX7_where_104 rfl (by decide) (by decide) rfl ?_
          refine go_goto (tgt := 47) (pc := 107) dX7_where_107 (by decide) ?_
          rw [nI_1]
          first
            | (have g9_q : freeK K (nI i_q) = none := (freeK_none hH5).mp h_77
               refine ih_q _ _ _ ⟨_, _, _, _, rfl, ?_, hf_q, hT9.T, rfl⟩
               rw [← hR9e, argL_no hi_q (if_pos g9_q)])
            | (have g9_q : ¬ x9_q < dryF j1_q j2_q (sitdK K j1_q (nI i_q)) 1 := fun hc_q => absurd ((lg_cmp_gt _ _).mpr hc_q) (Int32.not_lt.mpr h_94)
               refine ih_q _ _ _ ⟨_, _, _, _, rfl, ?_, hf_q, hT9.T, rfl⟩
               rw [← hR9e, argL_dn hi_q (if_neg hne) g9_q])
            | (have g9_q : x9_q < dryF j1_q j2_q (sitdK K j1_q (nI i_q)) 1 := (lg_cmp_gt _ _).mp (Int32.not_le.mp h_94)
               refine ih_q _ _ _ ⟨_, _, _, _, rfl, ?_, hf_q, hT9.T, rfl⟩
               rw [← hR9e, argL_up hi_q (if_neg hne) g9_q])
    · rintro lv9 σ n9 ⟨b9_q, x9_q, x7_q, x8_q, rfl, hR9e, hf_q, hT9, rfl⟩
      have hC9 := hC.fs (hf_q.toS (S := scr a) (fun q x y => by omega)) (fun q x => by omega)
      have hR9 := hR_q.fr hf_q (by omega)
      have hQ9 := hQ_q.fr hf_q (by omega) (by omega)
      have hS9 := hS_q.s0 hC.1 hf_q hT9
      refine go_iload (pc := 47) dX7_where_47 rfl ?_
      refine go_aload_n (pc := 49) dX7_where_49 rfl ?_
      refine go_getf (pc := 50) f_X7_65 dX7_where_50 (by first | exact co0 hC | exact sr0 hR_q | exact be0 hQ_q | exact sr0 hT_q | exact be0 hQ9 | exact sr1 hR_q | exact sr2 hR_q | exact sr3 hR_q | exact sr4 hR_q | exact be1 hQ_q | exact be2 hQ_q | exact be3 hQ_q | exact sr3 hT_q | exact sr2 hT_q | exact sr1 hT_q | exact sr4 hT_q | exact co4 hC | exact co2 hC | exact co3 hC | exact co0 hC9 | exact sr0 hR9 | exact co4 hC9 | exact sr3 hR9 | exact sr2 hR9) (by rfl) ?_
      refine go_getf (pc := 53) f_X7_120 dX7_where_53 (by first | exact co0 hC | exact sr0 hR_q | exact be0 hQ_q | exact sr0 hT_q | exact be0 hQ9 | exact sr1 hR_q | exact sr2 hR_q | exact sr3 hR_q | exact sr4 hR_q | exact be1 hQ_q | exact be2 hQ_q | exact be3 hQ_q | exact sr3 hT_q | exact sr2 hT_q | exact sr1 hT_q | exact sr4 hT_q | exact co4 hC | exact co2 hC | exact co3 hC | exact co0 hC9 | exact sr0 hR9 | exact co4 hC9 | exact sr3 hR9 | exact sr2 hR9) (by rfl) ?_
      refine go_getf (pc := 56) f_X7_324 dX7_where_56 (by first | exact co0 hC | exact sr0 hR_q | exact be0 hQ_q | exact sr0 hT_q | exact be0 hQ9 | exact sr1 hR_q | exact sr2 hR_q | exact sr3 hR_q | exact sr4 hR_q | exact be1 hQ_q | exact be2 hQ_q | exact be3 hQ_q | exact sr3 hT_q | exact sr2 hT_q | exact sr1 hT_q | exact sr4 hT_q | exact co4 hC | exact co2 hC | exact co3 hC | exact co0 hC9 | exact sr0 hR9 | exact co4 hC9 | exact sr3 hR9 | exact sr2 hR9) (by rfl) ?_
      refine go_icmp_ge (tgt := 110) (pc := 59) dX7_where_59 (by decide) (fun h_59 => ?_) (fun h_59 => by exfalso; rw [hB_q.1.2.2.2.2.1] at h_59; exact h_59 (nI_le (by omega) (by omega)))
      refine go_iload_n (pc := 110) dX7_where_110 rfl ?_
      exact go_iretT (pc := 111) rfl dX7_where_111 (Nat.le_of_ble_eq_true rfl) (Nat.le_of_ble_eq_true rfl) ⟨by rw [aWhere, if_neg (fun hc_q => hc_q h0_q)], by rw [aWhere, if_neg (fun hc_q => hc_q h0_q), e1_q, e2_q, ← hR9e, Nat.sub_self]; rfl, rfl, hS_q.s0 hC.1 hf_q hT9, hf_q.toS (fun q x y => by omega)⟩
  · exact go_throwW (si := 26) (pc := 26) th_IS rfl rfl rfl dX7_where_26 dX7_where_29 dX7_where_30 dX7_where_33 dX7_where_36 (fun n2 hn2 => Or.inr ⟨_, rfl, ⟨2, (by rw [show aWhere K (nI j1_q).toInt (nI j2_q).toInt = (3, 0) from by have e9_q : aWhereT K (nI j1_q).toInt (nI j2_q).toInt = 3 := (by simp only [aWhereT, hj1, hj2]; rw [if_neg h_23]); rw [aWhere, e9_q, if_pos (by decide)]]; rfl), rfl⟩, rfl, hn2⟩)
