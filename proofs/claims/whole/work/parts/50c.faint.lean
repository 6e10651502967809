/-! ===== the class: whom to have rise ===== -/
theorem cp_neigh {Γ : gam} {D : Nat} {ro : Nat → Nat} {z0 : sto} {n k a b : Nat} {w : Int32} {K ag pa pf ch co rw bk G : row} {im : Nat → Option Nat} {lm lt lw : Value} (hC : CoAt Γ ro z0 a G im) (hR_q : SrAt Γ ro z0 (a + 14) b w (K 33) ch co rw bk) (hr_q : rS K ch co rw bk) (hQ_q : BrAt Γ D ro z0 b K ag pa pf lm lt lw) (hB_q : okB K) (hk : 4 ≤ k) {p : Nat} (hp_q : p < kP K) : Sp Γ (rmk k 0 0) uX7_neighboursWhoCanRise [.ref a, .int (nI p)] z0 n (qP (fntC K p) z0 n) := by
  have hP8 := hB_q.1.2.1
  have hH5 := hB_q.1.2.2.2.1
  have hW4 := hB_q.1.2.2.2.2.2
  refine sp_intro [some (.ref a), some (.int (nI p)), none, none] (by decide +kernel) rfl (Nat.le_of_ble_eq_true rfl) rfl ?_
  refine go_iconst (v := 0) (pc := 0) dX7_neighboursWhoCanRise_0 (by decide) ?_
  refine go_istore_n (lw := [_, _, _, _]) (pc := 1) dX7_neighboursWhoCanRise_1 (by decide) rfl ?_
  refine go_iconst (v := 0) (pc := 2) dX7_neighboursWhoCanRise_2 (by decide) ?_
  refine go_istore_n (lw := [_, _, _, _]) (pc := 3) dX7_neighboursWhoCanRise_3 (by decide) rfl ?_
  refine go_iter (kP K) (fun i_q lv9 s9 n9 => ∃ (x9_q : Int32), lv9 = [some (.ref a), some (.int (nI p)), some (.int x9_q), some (.int (nI i_q))] ∧ (bits (fun q => decide (q ≠ p ∧ K (8 + q) = K (8 + p) ∧ whyR K (q : Int) = 0)) (kP K - i_q) i_q x9_q = fntC K p) ∧ (z0 = s9) ∧ n = n9) ⟨0, rfl, rfl, rfl, rfl⟩ ?_ ?_
  · rintro i_q lv9 σ n9 hi_q ⟨x9_q, rfl, hR9, rfl, rfl⟩ ih_q
    refine go_iload_n (pc := 4) dX7_neighboursWhoCanRise_4 rfl ?_
    refine go_aload_n (pc := 5) dX7_neighboursWhoCanRise_5 rfl ?_
    refine go_getf (pc := 6) f_X7_65 dX7_neighboursWhoCanRise_6 (by first | exact co0 hC | exact sr0 hR_q | exact be0 hQ_q | exact sr0 hT_q | exact be0 hQ9 | exact sr1 hR_q | exact sr2 hR_q | exact sr3 hR_q | exact sr4 hR_q | exact be1 hQ_q | exact be2 hQ_q | exact be3 hQ_q | exact sr3 hT_q | exact sr2 hT_q | exact sr1 hT_q | exact sr4 hT_q | exact co4 hC | exact co2 hC | exact co3 hC | exact co0 hC9 | exact sr0 hR9 | exact co4 hC9 | exact sr3 hR9 | exact sr2 hR9) (by rfl) ?_
    refine go_getf (pc := 9) f_X7_120 dX7_neighboursWhoCanRise_9 (by first | exact co0 hC | exact sr0 hR_q | exact be0 hQ_q | exact sr0 hT_q | exact be0 hQ9 | exact sr1 hR_q | exact sr2 hR_q | exact sr3 hR_q | exact sr4 hR_q | exact be1 hQ_q | exact be2 hQ_q | exact be3 hQ_q | exact sr3 hT_q | exact sr2 hT_q | exact sr1 hT_q | exact sr4 hT_q | exact co4 hC | exact co2 hC | exact co3 hC | exact co0 hC9 | exact sr0 hR9 | exact co4 hC9 | exact sr3 hR9 | exact sr2 hR9) (by rfl) ?_
    refine go_getf (pc := 12) f_X7_263 dX7_neighboursWhoCanRise_12 (by first | exact co0 hC | exact sr0 hR_q | exact be0 hQ_q | exact sr0 hT_q | exact be0 hQ9 | exact sr1 hR_q | exact sr2 hR_q | exact sr3 hR_q | exact sr4 hR_q | exact be1 hQ_q | exact be2 hQ_q | exact be3 hQ_q | exact sr3 hT_q | exact sr2 hT_q | exact sr1 hT_q | exact sr4 hT_q | exact co4 hC | exact co2 hC | exact co3 hC | exact co0 hC9 | exact sr0 hR9 | exact co4 hC9 | exact sr3 hR9 | exact sr2 hR9) (by rfl) ?_
    refine go_icmp_ge (tgt := 67) (pc := 15) dX7_neighboursWhoCanRise_15 (by decide) (fun h_15 => by exfalso; rw [hB_q.1.1] at h_15; exact absurd h_15 (nI_ge (by omega) (by omega))) (fun h_15 => ?_)
    refine go_iload_n (pc := 18) dX7_neighboursWhoCanRise_18 rfl ?_
    refine go_iload_n (pc := 19) dX7_neighboursWhoCanRise_19 rfl ?_
    refine go_icmp_eq (tgt := 61) (pc := 20) dX7_neighboursWhoCanRise_20 (by decide) (fun h_20 => ?_) (fun h_20 => ?_)
    · refine go_iinc (v := 1) (lw := [_, _, _, _]) (pc := 61) dX7_neighboursWhoCanRise_61 rfl (by decide) (by decide) rfl ?_
      refine go_goto (tgt := 4) (pc := 64) dX7_neighboursWhoCanRise_64 (by decide) ?_
      rw [nI_1]
      first
        | (have g9_q : i_q = p := (nI_eq (by omega) (by omega)).mp h_20
           refine ih_q _ _ _ ⟨_, rfl, ?_, rfl, rfl⟩
           rw [← hR9, bits_step hi_q, if_neg (by simp [g9_q])]; simp)
        | (have g9_q : ¬ K (8 + i_q) = K (8 + p) := h_41
           refine ih_q _ _ _ ⟨_, rfl, ?_, rfl, rfl⟩
           rw [← hR9, bits_step hi_q, if_neg (by simp [g9_q])]; simp)
        | (have g9_q : ¬ whyR K (i_q : Int) = 0 := by rw [← nI_toInt (show i_q < 2 ^ 31 by omega)]; exact h_52
           refine ih_q _ _ _ ⟨_, rfl, ?_, rfl, rfl⟩
           rw [← hR9, bits_step hi_q, if_neg (by simp [g9_q])]; simp)
        | (have g9_q : whyR K (i_q : Int) = 0 := by rw [← nI_toInt (show i_q < 2 ^ 31 by omega)]; exact h_52
           refine ih_q _ _ _ ⟨_, rfl, ?_, rfl, rfl⟩
           rw [← hR9, bits_step hi_q, if_pos (by simp only [decide_eq_true_eq]; exact ⟨fun e_q => h_20 (by rw [e_q]), h_41, g9_q⟩)])
    · refine go_aload_n (pc := 23) dX7_neighboursWhoCanRise_23 rfl ?_
      refine go_getf (pc := 24) f_X7_65 dX7_neighboursWhoCanRise_24 (by first | exact co0 hC | exact sr0 hR_q | exact be0 hQ_q | exact sr0 hT_q | exact be0 hQ9 | exact sr1 hR_q | exact sr2 hR_q | exact sr3 hR_q | exact sr4 hR_q | exact be1 hQ_q | exact be2 hQ_q | exact be3 hQ_q | exact sr3 hT_q | exact sr2 hT_q | exact sr1 hT_q | exact sr4 hT_q | exact co4 hC | exact co2 hC | exact co3 hC | exact co0 hC9 | exact sr0 hR9 | exact co4 hC9 | exact sr3 hR9 | exact sr2 hR9) (by rfl) ?_
      refine go_getf (pc := 27) f_X7_138 dX7_neighboursWhoCanRise_27 (by first | exact co0 hC | exact sr0 hR_q | exact be0 hQ_q | exact sr0 hT_q | exact be0 hQ9 | exact sr1 hR_q | exact sr2 hR_q | exact sr3 hR_q | exact sr4 hR_q | exact be1 hQ_q | exact be2 hQ_q | exact be3 hQ_q | exact sr3 hT_q | exact sr2 hT_q | exact sr1 hT_q | exact sr4 hT_q | exact co4 hC | exact co2 hC | exact co3 hC | exact co0 hC9 | exact sr0 hR9 | exact co4 hC9 | exact sr3 hR9 | exact sr2 hR9) (by rfl) ?_
      refine go_iload_n (pc := 30) dX7_neighboursWhoCanRise_30 rfl ?_
      refine go_iald (pc := 31) dX7_neighboursWhoCanRise_31 (by first | exact co0 hC | exact sr0 hR_q | exact be0 hQ_q | exact sr0 hT_q | exact be0 hQ9 | exact sr1 hR_q | exact sr2 hR_q | exact sr3 hR_q | exact sr4 hR_q | exact be1 hQ_q | exact be2 hQ_q | exact be3 hQ_q | exact sr3 hT_q | exact sr2 hT_q | exact sr1 hT_q | exact sr4 hT_q | exact co4 hC | exact co2 hC | exact co3 hC | exact co0 hC9 | exact sr0 hR9 | exact co4 hC9 | exact sr3 hR9 | exact sr2 hR9) (by exact ⟨rfl, by omega⟩) ?_
      rw [(hr_q.1 i_q hi_q).1]
      refine go_aload_n (pc := 32) dX7_neighboursWhoCanRise_32 rfl ?_
      refine go_getf (pc := 33) f_X7_65 dX7_neighboursWhoCanRise_33 (by first | exact co0 hC | exact sr0 hR_q | exact be0 hQ_q | exact sr0 hT_q | exact be0 hQ9 | exact sr1 hR_q | exact sr2 hR_q | exact sr3 hR_q | exact sr4 hR_q | exact be1 hQ_q | exact be2 hQ_q | exact be3 hQ_q | exact sr3 hT_q | exact sr2 hT_q | exact sr1 hT_q | exact sr4 hT_q | exact co4 hC | exact co2 hC | exact co3 hC | exact co0 hC9 | exact sr0 hR9 | exact co4 hC9 | exact sr3 hR9 | exact sr2 hR9) (by rfl) ?_
      refine go_getf (pc := 36) f_X7_138 dX7_neighboursWhoCanRise_36 (by first | exact co0 hC | exact sr0 hR_q | exact be0 hQ_q | exact sr0 hT_q | exact be0 hQ9 | exact sr1 hR_q | exact sr2 hR_q | exact sr3 hR_q | exact sr4 hR_q | exact be1 hQ_q | exact be2 hQ_q | exact be3 hQ_q | exact sr3 hT_q | exact sr2 hT_q | exact sr1 hT_q | exact sr4 hT_q | exact co4 hC | exact co2 hC | exact co3 hC | exact co0 hC9 | exact sr0 hR9 | exact co4 hC9 | exact sr3 hR9 | exact sr2 hR9) (by rfl) ?_
      refine go_iload_n (pc := 39) dX7_neighboursWhoCanRise_39 rfl ?_
      refine go_iald (pc := 40) dX7_neighboursWhoCanRise_40 (by first | exact co0 hC | exact sr0 hR_q | exact be0 hQ_q | exact sr0 hT_q | exact be0 hQ9 | exact sr1 hR_q | exact sr2 hR_q | exact sr3 hR_q | exact sr4 hR_q | exact be1 hQ_q | exact be2 hQ_q | exact be3 hQ_q | exact sr3 hT_q | exact sr2 hT_q | exact sr1 hT_q | exact sr4 hT_q | exact co4 hC | exact co2 hC | exact co3 hC | exact co0 hC9 | exact sr0 hR9 | exact co4 hC9 | exact sr3 hR9 | exact sr2 hR9) (by exact ⟨rfl, by omega⟩) ?_
      rw [(hr_q.1 p hp_q).1]
      refine go_icmp_ne (tgt := 61) (pc := 41) dX7_neighboursWhoCanRise_41 (by decide) (fun h_41 => ?_) (fun h_41 => ?_)
      · refine go_iinc (v := 1) (lw := [_, _, _, _]) (pc := 61) dX7_neighboursWhoCanRise_61 rfl (by decide) (by decide) rfl ?_
        refine go_goto (tgt := 4) (pc := 64) dX7_neighboursWhoCanRise_64 (by decide) ?_
        rw [nI_1]
        first
          | (have g9_q : i_q = p := (nI_eq (by omega) (by omega)).mp h_20
             refine ih_q _ _ _ ⟨_, rfl, ?_, rfl, rfl⟩
             rw [← hR9, bits_step hi_q, if_neg (by simp [g9_q])]; simp)
          | (have g9_q : ¬ K (8 + i_q) = K (8 + p) := h_41
             refine ih_q _ _ _ ⟨_, rfl, ?_, rfl, rfl⟩
             rw [← hR9, bits_step hi_q, if_neg (by simp [g9_q])]; simp)
          | (have g9_q : ¬ whyR K (i_q : Int) = 0 := by rw [← nI_toInt (show i_q < 2 ^ 31 by omega)]; exact h_52
             refine ih_q _ _ _ ⟨_, rfl, ?_, rfl, rfl⟩
             rw [← hR9, bits_step hi_q, if_neg (by simp [g9_q])]; simp)
          | (have g9_q : whyR K (i_q : Int) = 0 := by rw [← nI_toInt (show i_q < 2 ^ 31 by omega)]; exact h_52
             refine ih_q _ _ _ ⟨_, rfl, ?_, rfl, rfl⟩
             rw [← hR9, bits_step hi_q, if_pos (by simp only [decide_eq_true_eq]; exact ⟨fun e_q => h_20 (by rw [e_q]), h_41, g9_q⟩)])
      · refine go_aload_n (pc := 44) dX7_neighboursWhoCanRise_44 rfl ?_
        refine go_getf (pc := 45) f_X7_65 dX7_neighboursWhoCanRise_45 (by first | exact co0 hC | exact sr0 hR_q | exact be0 hQ_q | exact sr0 hT_q | exact be0 hQ9 | exact sr1 hR_q | exact sr2 hR_q | exact sr3 hR_q | exact sr4 hR_q | exact be1 hQ_q | exact be2 hQ_q | exact be3 hQ_q | exact sr3 hT_q | exact sr2 hT_q | exact sr1 hT_q | exact sr4 hT_q | exact co4 hC | exact co2 hC | exact co3 hC | exact co0 hC9 | exact sr0 hR9 | exact co4 hC9 | exact sr3 hR9 | exact sr2 hR9) (by rfl) ?_
        refine go_iload_n (pc := 48) dX7_neighboursWhoCanRise_48 rfl ?_
        refine go_V1P (pc := 49) v_X7_177 rfl rfl (rcv_of (ci := 5) (by first | exact co0 hC | exact sr0 hR_q | exact be0 hQ_q | exact sr0 hT_q | exact be0 hQ9 | exact sr1 hR_q | exact sr2 hR_q | exact sr3 hR_q | exact sr4 hR_q | exact be1 hQ_q | exact be2 hQ_q | exact be3 hQ_q | exact sr3 hT_q | exact sr2 hT_q | exact sr1 hT_q | exact sr4 hT_q | exact co4 hC | exact co2 hC | exact co3 hC | exact co0 hC9 | exact sr0 hR9 | exact co4 hC9 | exact sr3 hR9 | exact sr2 hR9) rfl) dX7_neighboursWhoCanRise_49 (cp_whyNotLeave (k := k - 1) hR_q hr_q hQ_q (by omega) hB_q _) ?_
        refine go_if_ne (tgt := 61) (pc := 52) dX7_neighboursWhoCanRise_52 (by decide) (fun h_52 => ?_) (fun h_52 => ?_)
        · refine go_iinc (v := 1) (lw := [_, _, _, _]) (pc := 61) dX7_neighboursWhoCanRise_61 rfl (by decide) (by decide) rfl ?_
          refine go_goto (tgt := 4) (pc := 64) dX7_neighboursWhoCanRise_64 (by decide) ?_
          rw [nI_1]
          first
            | (have g9_q : i_q = p := (nI_eq (by omega) (by omega)).mp h_20
               refine ih_q _ _ _ ⟨_, rfl, ?_, rfl, rfl⟩
               rw [← hR9, bits_step hi_q, if_neg (by simp [g9_q])]; simp)
            | (have g9_q : ¬ K (8 + i_q) = K (8 + p) := h_41
               refine ih_q _ _ _ ⟨_, rfl, ?_, rfl, rfl⟩
               rw [← hR9, bits_step hi_q, if_neg (by simp [g9_q])]; simp)
            | (have g9_q : ¬ whyR K (i_q : Int) = 0 := by rw [← nI_toInt (show i_q < 2 ^ 31 by omega)]; exact h_52
               refine ih_q _ _ _ ⟨_, rfl, ?_, rfl, rfl⟩
               rw [← hR9, bits_step hi_q, if_neg (by simp [g9_q])]; simp)
            | (have g9_q : whyR K (i_q : Int) = 0 := by rw [← nI_toInt (show i_q < 2 ^ 31 by omega)]; exact h_52
               refine ih_q _ _ _ ⟨_, rfl, ?_, rfl, rfl⟩
               rw [← hR9, bits_step hi_q, if_pos (by simp only [decide_eq_true_eq]; exact ⟨fun e_q => h_20 (by rw [e_q]), h_41, g9_q⟩)])
        · refine go_iload_n (pc := 55) dX7_neighboursWhoCanRise_55 rfl ?_
          refine go_iconst (v := 1) (pc := 56) dX7_neighboursWhoCanRise_56 (by decide) ?_
          refine go_iload_n (pc := 57) dX7_neighboursWhoCanRise_57 rfl ?_
          refine go_ishl (pc := 58) dX7_neighboursWhoCanRise_58 ?_
          refine go_ior (pc := 59) dX7_neighboursWhoCanRise_59 ?_
          refine go_istore_n (lw := [_, _, _, _]) (pc := 60) dX7_neighboursWhoCanRise_60 (by decide) rfl ?_
          refine go_iinc (v := 1) (lw := [_, _, _, _]) (pc := 61) dX7_neighboursWhoCanRise_61 rfl (by decide) (by decide) rfl ?_
          refine go_goto (tgt := 4) (pc := 64) dX7_neighboursWhoCanRise_64 (by decide) ?_
          rw [nI_1]
          first
            | (have g9_q : i_q = p := (nI_eq (by omega) (by omega)).mp h_20
               refine ih_q _ _ _ ⟨_, rfl, ?_, rfl, rfl⟩
               rw [← hR9, bits_step hi_q, if_neg (by simp [g9_q])]; simp)
            | (have g9_q : ¬ K (8 + i_q) = K (8 + p) := h_41
               refine ih_q _ _ _ ⟨_, rfl, ?_, rfl, rfl⟩
               rw [← hR9, bits_step hi_q, if_neg (by simp [g9_q])]; simp)
            | (have g9_q : ¬ whyR K (i_q : Int) = 0 := by rw [← nI_toInt (show i_q < 2 ^ 31 by omega)]; exact h_52
               refine ih_q _ _ _ ⟨_, rfl, ?_, rfl, rfl⟩
               rw [← hR9, bits_step hi_q, if_neg (by simp [g9_q])]; simp)
            | (have g9_q : whyR K (i_q : Int) = 0 := by rw [← nI_toInt (show i_q < 2 ^ 31 by omega)]; exact h_52
               refine ih_q _ _ _ ⟨_, rfl, ?_, rfl, rfl⟩
               rw [← hR9, bits_step hi_q, if_pos (by simp only [decide_eq_true_eq]; exact ⟨fun e_q => h_20 (by rw [e_q]), h_41, g9_q⟩)])
  · rintro lv9 σ n9 ⟨x9_q, rfl, hR9, rfl, rfl⟩
    refine go_iload_n (pc := 4) dX7_neighboursWhoCanRise_4 rfl ?_
    refine go_aload_n (pc := 5) dX7_neighboursWhoCanRise_5 rfl ?_
    refine go_getf (pc := 6) f_X7_65 dX7_neighboursWhoCanRise_6 (by first | exact co0 hC | exact sr0 hR_q | exact be0 hQ_q | exact sr0 hT_q | exact be0 hQ9 | exact sr1 hR_q | exact sr2 hR_q | exact sr3 hR_q | exact sr4 hR_q | exact be1 hQ_q | exact be2 hQ_q | exact be3 hQ_q | exact sr3 hT_q | exact sr2 hT_q | exact sr1 hT_q | exact sr4 hT_q | exact co4 hC | exact co2 hC | exact co3 hC | exact co0 hC9 | exact sr0 hR9 | exact co4 hC9 | exact sr3 hR9 | exact sr2 hR9) (by rfl) ?_
    refine go_getf (pc := 9) f_X7_120 dX7_neighboursWhoCanRise_9 (by first | exact co0 hC | exact sr0 hR_q | exact be0 hQ_q | exact sr0 hT_q | exact be0 hQ9 | exact sr1 hR_q | exact sr2 hR_q | exact sr3 hR_q | exact sr4 hR_q | exact be1 hQ_q | exact be2 hQ_q | exact be3 hQ_q | exact sr3 hT_q | exact sr2 hT_q | exact sr1 hT_q | exact sr4 hT_q | exact co4 hC | exact co2 hC | exact co3 hC | exact co0 hC9 | exact sr0 hR9 | exact co4 hC9 | exact sr3 hR9 | exact sr2 hR9) (by rfl) ?_
    refine go_getf (pc := 12) f_X7_263 dX7_neighboursWhoCanRise_12 (by first | exact co0 hC | exact sr0 hR_q | exact be0 hQ_q | exact sr0 hT_q | exact be0 hQ9 | exact sr1 hR_q | exact sr2 hR_q | exact sr3 hR_q | exact sr4 hR_q | exact be1 hQ_q | exact be2 hQ_q | exact be3 hQ_q | exact sr3 hT_q | exact sr2 hT_q | exact sr1 hT_q | exact sr4 hT_q | exact co4 hC | exact co2 hC | exact co3 hC | exact co0 hC9 | exact sr0 hR9 | exact co4 hC9 | exact sr3 hR9 | exact sr2 hR9) (by rfl) ?_
    refine go_icmp_ge (tgt := 67) (pc := 15) dX7_neighboursWhoCanRise_15 (by decide) (fun h_15 => ?_) (fun h_15 => by exfalso; rw [hB_q.1.1] at h_15; exact h_15 (nI_le (by omega) (by omega)))
    refine go_iload_n (pc := 67) dX7_neighboursWhoCanRise_67 rfl ?_
    exact go_iretP (pc := 68) rfl dX7_neighboursWhoCanRise_68 (Nat.le_of_ble_eq_true rfl) (Nat.le_of_ble_eq_true rfl) (by rw [← hR9, Nat.sub_self]; rfl)
/-- those of a set who come first have risen -/
def fntI (s : Int32) : Nat → row → row
  | 0, K => K
  | m + 1, K => if hasB s (nI m) = true then (riseK (fntI s m K) m (-1)).1 else fntI s m K
theorem fntR_app {s : Int32} : ∀ {m q : Nat} {K : row}, fntR s (m + 1) q K = (if hasB s (nI (q + m)) = true then (riseK (fntR s m q K) (q + m) (-1)).1 else fntR s m q K)
  | 0, q, K => by rw [fntR, fntR, Nat.add_zero]; rfl
  | m + 1, q, K => by rw [fntR, fntR_app (m := m), show q + 1 + m = q + (m + 1) by omega]; rfl
theorem fntI_R {s : Int32} {K : row} : ∀ m, fntI s m K = fntR s m 0 K
  | 0 => rfl
  | m + 1 => by rw [fntI, fntR_app, fntI_R m, Nat.zero_add]
theorem fntI_all {s : Int32} {K : row} (h8_q : kP K ≤ 8) (h5_q : kH K ≤ 5) (hg_q : gS K) (hsub : ∀ q, q < kP K → hasB s (nI q) = true → K (16 + q) ≠ -1) : ∀ i_q, i_q ≤ kP K → (sameB K (fntI s i_q K) ∧ gS (fntI s i_q K)) ∧ ∀ z, i_q ≤ z → z < kP K → K (16 + z) ≠ -1 → fntI s i_q K (16 + z) ≠ -1
  | 0, _ => ⟨⟨sameB.rf, hg_q⟩, fun z _ _ h_q => h_q⟩
  | i_q + 1, hi_q => by
    obtain ⟨⟨h1_q, h2_q⟩, h3_q⟩ := fntI_all h8_q h5_q hg_q hsub i_q (by omega)
    rw [fntI]
    split
    · rename_i hb_q
      have hu := h3_q i_q (by omega) (by omega) (hsub i_q (by omega) hb_q)
      exact ⟨⟨h1_q.tr (riseK_same (by rw [h1_q.P]; exact h8_q) (by omega)), gS_rise (by rw [h1_q.P]; exact h8_q) (by rw [h1_q.H]; exact h5_q) (by rw [h1_q.P]; omega) h2_q hu⟩, fun z hz_q hz2 h_q => rise_sits (by rw [h1_q.P]; exact h8_q) (by rw [h1_q.H]; exact h5_q) h2_q.1 (by rw [h1_q.P]; omega) (by omega) hu (by omega) (h3_q z (by omega) hz2 h_q)⟩
    · exact ⟨⟨h1_q, h2_q⟩, fun z hz_q hz2 h_q => h3_q z (by omega) hz2 h_q⟩
theorem fntI_ok {s : Int32} {K : row} (h8_q : kP K ≤ 8) (h5_q : kH K ≤ 5) (hg_q : gS K) (hsub : ∀ q, q < kP K → hasB s (nI q) = true → K (16 + q) ≠ -1) (i_q : Nat) (hi_q : i_q ≤ kP K) : sameB K (fntI s i_q K) ∧ gS (fntI s i_q K) := (fntI_all h8_q h5_q hg_q hsub i_q hi_q).1
theorem fnt_sits {s : Int32} {K : row} (h8_q : kP K ≤ 8) (h5_q : kH K ≤ 5) (hg_q : gS K) (hsub : ∀ q, q < kP K → hasB s (nI q) = true → K (16 + q) ≠ -1) {i_q : Nat} (hi_q : i_q ≤ kP K) (hi2_q : i_q < kP K) (hb_q : hasB s (nI i_q) = true) : fntI s i_q K (16 + i_q) ≠ -1 := (fntI_all h8_q h5_q hg_q hsub i_q hi_q).2 i_q (Nat.le_refl _) hi2_q (hsub i_q hi2_q hb_q)
theorem cp_bringsToFront {Γ : gam} {D : Nat} {ro : Nat → Nat} {z0 : sto} {n k a b : Nat} {w : Int32} {K ag pa pf ch co rw bk G : row} {im : Nat → Option Nat} {lm lt lw : Value} (hC : CoAt Γ ro z0 a G im) (hR_q : SrAt Γ ro z0 (a + 14) b w (K 33) ch co rw bk) (hr_q : rS K ch co rw bk) (hQ_q : BrAt Γ D ro z0 b K ag pa pf lm lt lw) (hB_q : okB K) (hg_q : gS K) (hS_q : ScAt Γ ro z0 a) (hD : a + 113 < D) (hsb : b = a + 10 ∨ a + 113 < b) (hk : 10 ≤ k) {s : Int32} {p m : Nat} (hp_q : p < kP K) (hm_q : m < 1000) (hsub : ∀ q, q < kP K → hasB s (nI q) = true → K (16 + q) ≠ -1) : Sp Γ (rmk k 0 0) uX7_bringsToFront [.ref a, .int s, .int (nI p), .int (nI m)] z0 n (qI fun v σ' n' => v = bI (fntO K p m s = true) ∧ n' = n ∧ ScAt Γ ro σ' a ∧ frS Γ ro (scr a) z0 σ') := by
  have hP8 := hB_q.1.2.1
  have hH5 := hB_q.1.2.2.2.1
  have hW4 := hB_q.1.2.2.2.2.2
  refine sp_intro [some (.ref a), some (.int s), some (.int (nI p)), some (.int (nI m)), none, none] (by decide +kernel) rfl (Nat.le_of_ble_eq_true rfl) rfl ?_
  refine go_aload_n (pc := 0) dX7_bringsToFront_0 rfl ?_
  refine go_V0A (pc := 1) v_X7_223 rfl rfl (rcv_of (ci := 7) (by first | exact co0 hC | exact sr0 hR_q | exact be0 hQ_q | exact sr0 hT_q | exact be0 hQ9 | exact sr1 hR_q | exact sr2 hR_q | exact sr3 hR_q | exact sr4 hR_q | exact be1 hQ_q | exact be2 hQ_q | exact be3 hQ_q | exact sr3 hT_q | exact sr2 hT_q | exact sr1 hT_q | exact sr4 hT_q | exact co4 hC | exact co2 hC | exact co3 hC | exact co0 hC9 | exact sr0 hR9 | exact co4 hC9 | exact sr3 hR9 | exact sr2 hR9) rfl) dX7_bringsToFront_1 (cp_trial (k := k - 1) hC hR_q hr_q hQ_q hB_q hg_q hS_q hD hsb (by omega)) (fun v_1 σ n h_q => ?_)
  obtain ⟨rfl, rfl, ⟨ch9, co9, rw9, bk9, hT_q, hr9_q⟩, hf_q⟩ := h_q
  have hQ9 := hQ_q.fr hf_q (by omega) (by omega)
  refine go_astore (lw := [_, _, _, _, _, _]) (pc := 4) dX7_bringsToFront_4 (by decide) rfl ?_
  refine go_iconst (v := 0) (pc := 6) dX7_bringsToFront_6 (by decide) ?_
  refine go_istore (lw := [_, _, _, _, _, _]) (pc := 7) dX7_bringsToFront_7 (by decide) rfl ?_
  refine go_iter (kP K) (fun i_q lv9 s9 n9 => ∃ (ch9 : row), ∃ (co9 : row), ∃ (rw9 : row), ∃ (bk9 : row), lv9 = [some (.ref a), some (.int s), some (.int (nI p)), some (.int (nI m)), some (.ref (a + 89)), some (.int (nI i_q))] ∧ (SrAt Γ ro s9 (a + 89) b w (fntI s i_q K 33) ch9 co9 rw9 bk9) ∧ (rS (fntI s i_q K) ch9 co9 rw9 bk9) ∧ (BrAt Γ D ro s9 b K ag pa pf lm lt lw) ∧ (frC Γ ro (a + 89) (a + 93) z0 s9) ∧ n = n9) ⟨_, _, _, _, rfl, hT_q, hr9_q, hQ9, hf_q, rfl⟩ ?_ ?_
  · rintro i_q lv9 σ n9 hi_q ⟨ch9, co9, rw9, bk9, rfl, hT_q, hr9_q, hQ9, hf_q, rfl⟩ ih_q
    obtain ⟨hs9, hg9_q⟩ := fntI_ok hP8 hH5 hg_q hsub i_q (by omega)
    have hB9_q := hs9.okB hB_q
    have eP_q := hs9.P
    have eH_q := hs9.H
    refine go_iload (pc := 9) dX7_bringsToFront_9 rfl ?_
    refine go_aload (pc := 11) dX7_bringsToFront_11 rfl ?_
    refine go_getf (pc := 13) f_X7_120 dX7_bringsToFront_13 (by first | exact co0 hC | exact sr0 hR_q | exact be0 hQ_q | exact sr0 hT_q | exact be0 hQ9 | exact sr1 hR_q | exact sr2 hR_q | exact sr3 hR_q | exact sr4 hR_q | exact be1 hQ_q | exact be2 hQ_q | exact be3 hQ_q | exact sr3 hT_q | exact sr2 hT_q | exact sr1 hT_q | exact sr4 hT_q | exact co4 hC | exact co2 hC | exact co3 hC | exact co0 hC9 | exact sr0 hR9 | exact co4 hC9 | exact sr3 hR9 | exact sr2 hR9) (by rfl) ?_
    refine go_getf (pc := 16) f_X7_263 dX7_bringsToFront_16 (by first | exact co0 hC | exact sr0 hR_q | exact be0 hQ_q | exact sr0 hT_q | exact be0 hQ9 | exact sr1 hR_q | exact sr2 hR_q | exact sr3 hR_q | exact sr4 hR_q | exact be1 hQ_q | exact be2 hQ_q | exact be3 hQ_q | exact sr3 hT_q | exact sr2 hT_q | exact sr1 hT_q | exact sr4 hT_q | exact co4 hC | exact co2 hC | exact co3 hC | exact co0 hC9 | exact sr0 hR9 | exact co4 hC9 | exact sr3 hR9 | exact sr2 hR9) (by rfl) ?_
    refine go_icmp_ge (tgt := 46) (pc := 19) dX7_bringsToFront_19 (by decide) (fun h_19 => by exfalso; rw [hB_q.1.1] at h_19; exact absurd h_19 (nI_ge (by omega) (by omega))) (fun h_19 => ?_)
    refine go_iload_n (pc := 22) dX7_bringsToFront_22 rfl ?_
    refine go_iload (pc := 23) dX7_bringsToFront_23 rfl ?_
    refine go_ishr (pc := 25) dX7_bringsToFront_25 ?_
    refine go_iconst (v := 1) (pc := 26) dX7_bringsToFront_26 (by decide) ?_
    refine go_iand (pc := 27) dX7_bringsToFront_27 ?_
    refine go_iconst (v := 1) (pc := 28) dX7_bringsToFront_28 (by decide) ?_
    refine go_icmp_ne (tgt := 40) (pc := 29) dX7_bringsToFront_29 (by decide) (fun h_29 => ?_) (fun h_29 => ?_)
    · refine go_iinc (v := 1) (lw := [_, _, _, _, _, _]) (pc := 40) dX7_bringsToFront_40 rfl (by decide) (by decide) rfl ?_
      refine go_goto (tgt := 9) (pc := 43) dX7_bringsToFront_43 (by decide) ?_
      rw [nI_1]
      first
        | (have g9_q : ¬ s >>> (nI i_q &&& 31) &&& 1 = 1 := h_29
           have g8_q : ¬ hasB s (nI i_q) = true := by simp [hasB, g9_q]
           have g7_q : fntI s (i_q + 1) K = fntI s i_q K := if_neg g8_q
           rw [← g7_q] at hT_q hr9_q
           exact ih_q _ _ _ ⟨_, _, _, _, rfl, hT_q, hr9_q, hQ9, hf_q, rfl⟩)
        | (have g9_q : s >>> (nI i_q &&& 31) &&& 1 = 1 := h_29
           have g8_q : hasB s (nI i_q) = true := by simp [hasB, g9_q]
           have g7_q : fntI s (i_q + 1) K = (riseK (fntI s i_q K) i_q (-1)).1 := if_pos g8_q
           rw [← g7_q] at hT_q hr9_q
           exact ih_q _ _ _ ⟨_, _, _, _, rfl, hT_q, hr9_q, hQ9, hf_q, rfl⟩)
    · have hb9 : hasB s (nI i_q) = true := by simp [hasB, h_29]
      have hu9 := fnt_sits hP8 hH5 hg_q hsub (by omega) hi_q hb9
      refine go_aload (pc := 32) dX7_bringsToFront_32 rfl ?_
      refine go_iload (pc := 34) dX7_bringsToFront_34 rfl ?_
      refine go_V1I (pc := 36) v_X7_183 rfl rfl (rcv_of (ci := 5) (by first | exact co0 hC | exact sr0 hR_q | exact be0 hQ_q | exact sr0 hT_q | exact be0 hQ9 | exact sr1 hR_q | exact sr2 hR_q | exact sr3 hR_q | exact sr4 hR_q | exact be1 hQ_q | exact be2 hQ_q | exact be3 hQ_q | exact sr3 hT_q | exact sr2 hT_q | exact sr1 hT_q | exact sr4 hT_q | exact co4 hC | exact co2 hC | exact co3 hC | exact co0 hC9 | exact sr0 hR9 | exact co4 hC9 | exact sr3 hR9 | exact sr2 hR9) rfl) dX7_bringsToFront_36 (cp_leave (k := k - 1) hT_q hr9_q (hQ9.sm hs9) hB9_q hg9_q (by omega) (by omega) (by omega) (by omega) hu9) (fun v_36 σ n h_q => ?_)
      obtain ⟨rfl, rfl, ⟨ch9, co9, rw9, bk9, hT_q, hr9_q⟩, hf1⟩ := h_q
      have hf_q := hf_q.tr hf1
      have hQ9 := hQ9.fr hf1 (by omega) (by omega)
      refine go_pop (pc := 39) dX7_bringsToFront_39 rfl ?_
      refine go_iinc (v := 1) (lw := [_, _, _, _, _, _]) (pc := 40) dX7_bringsToFront_40 rfl (by decide) (by decide) rfl ?_
      refine go_goto (tgt := 9) (pc := 43) dX7_bringsToFront_43 (by decide) ?_
      rw [nI_1]
      first
        | (have g9_q : ¬ s >>> (nI i_q &&& 31) &&& 1 = 1 := h_29
           have g8_q : ¬ hasB s (nI i_q) = true := by simp [hasB, g9_q]
           have g7_q : fntI s (i_q + 1) K = fntI s i_q K := if_neg g8_q
           rw [← g7_q] at hT_q hr9_q
           exact ih_q _ _ _ ⟨_, _, _, _, rfl, hT_q, hr9_q, hQ9, hf_q, rfl⟩)
        | (have g9_q : s >>> (nI i_q &&& 31) &&& 1 = 1 := h_29
           have g8_q : hasB s (nI i_q) = true := by simp [hasB, g9_q]
           have g7_q : fntI s (i_q + 1) K = (riseK (fntI s i_q K) i_q (-1)).1 := if_pos g8_q
           rw [← g7_q] at hT_q hr9_q
           exact ih_q _ _ _ ⟨_, _, _, _, rfl, hT_q, hr9_q, hQ9, hf_q, rfl⟩)
  · rintro lv9 σ n9 ⟨ch9, co9, rw9, bk9, rfl, hT_q, hr9_q, hQ9, hf_q, rfl⟩
    obtain ⟨hs9, hg9_q⟩ := fntI_ok hP8 hH5 hg_q hsub (kP K) (by omega)
    have hB9_q := hs9.okB hB_q
    have eP_q := hs9.P
    have eH_q := hs9.H
    refine go_iload (pc := 9) dX7_bringsToFront_9 rfl ?_
    refine go_aload (pc := 11) dX7_bringsToFront_11 rfl ?_
    refine go_getf (pc := 13) f_X7_120 dX7_bringsToFront_13 (by first | exact co0 hC | exact sr0 hR_q | exact be0 hQ_q | exact sr0 hT_q | exact be0 hQ9 | exact sr1 hR_q | exact sr2 hR_q | exact sr3 hR_q | exact sr4 hR_q | exact be1 hQ_q | exact be2 hQ_q | exact be3 hQ_q | exact sr3 hT_q | exact sr2 hT_q | exact sr1 hT_q | exact sr4 hT_q | exact co4 hC | exact co2 hC | exact co3 hC | exact co0 hC9 | exact sr0 hR9 | exact co4 hC9 | exact sr3 hR9 | exact sr2 hR9) (by rfl) ?_
    refine go_getf (pc := 16) f_X7_263 dX7_bringsToFront_16 (by first | exact co0 hC | exact sr0 hR_q | exact be0 hQ_q | exact sr0 hT_q | exact be0 hQ9 | exact sr1 hR_q | exact sr2 hR_q | exact sr3 hR_q | exact sr4 hR_q | exact be1 hQ_q | exact be2 hQ_q | exact be3 hQ_q | exact sr3 hT_q | exact sr2 hT_q | exact sr1 hT_q | exact sr4 hT_q | exact co4 hC | exact co2 hC | exact co3 hC | exact co0 hC9 | exact sr0 hR9 | exact co4 hC9 | exact sr3 hR9 | exact sr2 hR9) (by rfl) ?_
    refine go_icmp_ge (tgt := 46) (pc := 19) dX7_bringsToFront_19 (by decide) (fun h_19 => ?_) (fun h_19 => by exfalso; rw [hB_q.1.1] at h_19; exact h_19 (nI_le (by omega) (by omega)))
    refine go_iconst (v := 0) (pc := 46) dX7_bringsToFront_46 (by decide) ?_
    refine go_istore (lw := [_, _, _, _, _, _]) (pc := 47) dX7_bringsToFront_47 (by decide) rfl ?_
    refine go_iter (m) (fun i2_q lv9 s9 n9 => ∃ (ch9 : row), ∃ (co9 : row), ∃ (rw9 : row), ∃ (bk9 : row), lv9 = [some (.ref a), some (.int s), some (.int (nI p)), some (.int (nI m)), some (.ref (a + 89)), some (.int (nI i2_q))] ∧ (SrAt Γ ro s9 (a + 89) b w (goK i2_q (fntI s (kP K) K) 33) ch9 co9 rw9 bk9) ∧ (rS (goK i2_q (fntI s (kP K) K)) ch9 co9 rw9 bk9) ∧ (BrAt Γ D ro s9 b K ag pa pf lm lt lw) ∧ (frC Γ ro (a + 89) (a + 93) z0 s9) ∧ n = n9) ⟨_, _, _, _, rfl, hT_q, hr9_q, hQ9, hf_q, rfl⟩ ?_ ?_
    · rintro i2_q lv9 σ n9 hi2_q ⟨ch9, co9, rw9, bk9, rfl, hT_q, hr9_q, hQ9, hf_q, rfl⟩ ih2_q
      have hs7 : sameB (fntI s (kP K) K) (goK i2_q (fntI s (kP K) K)) := goK_same (by omega)
      have hB7 := hs7.okB hB9_q
      have hg7 : gS (goK i2_q (fntI s (kP K) K)) := gS_go hg9_q (by omega) (by omega)
      have eP7 := hs7.P
      have eH7 := hs7.H
      refine go_iload (pc := 49) dX7_bringsToFront_49 rfl ?_
      refine go_iload_n (pc := 51) dX7_bringsToFront_51 rfl ?_
      refine go_icmp_ge (tgt := 67) (pc := 52) dX7_bringsToFront_52 (by decide) (fun h_52 => by exfalso; exact absurd h_52 (nI_ge (by omega) (by omega))) (fun h_52 => ?_)
      refine go_aload (pc := 55) dX7_bringsToFront_55 rfl ?_
      refine go_iconst (v := 0) (pc := 57) dX7_bringsToFront_57 (by decide) ?_
      refine go_V1V (pc := 58) v_X7_207 rfl rfl (rcv_of (ci := 5) (by first | exact co0 hC | exact sr0 hR_q | exact be0 hQ_q | exact sr0 hT_q | exact be0 hQ9 | exact sr1 hR_q | exact sr2 hR_q | exact sr3 hR_q | exact sr4 hR_q | exact be1 hQ_q | exact be2 hQ_q | exact be3 hQ_q | exact sr3 hT_q | exact sr2 hT_q | exact sr1 hT_q | exact sr4 hT_q | exact co4 hC | exact co2 hC | exact co3 hC | exact co0 hC9 | exact sr0 hR9 | exact co4 hC9 | exact sr3 hR9 | exact sr2 hR9) rfl) dX7_bringsToFront_58 (cp_pass (k := k - 1) hT_q hr9_q (hQ9.sm (hs9.tr hs7)) hB7 hg7 (by omega) (by omega) (by omega) _) (fun σ n h_q => ?_)
      obtain ⟨rfl, ⟨ch9, co9, rw9, bk9, hT_q, hr9_q⟩, hf1⟩ := h_q
      have hf_q := hf_q.tr hf1
      have hQ9 := hQ9.fr hf1 (by omega) (by omega)
      rw [pasW_0 (by decide) hg7 (by omega) (by omega)] at hT_q
      refine go_iinc (v := 1) (lw := [_, _, _, _, _, _]) (pc := 61) dX7_bringsToFront_61 rfl (by decide) (by decide) rfl ?_
      refine go_goto (tgt := 49) (pc := 64) dX7_bringsToFront_64 (by decide) ?_
      rw [nI_1]
      exact ih2_q _ _ _ ⟨_, _, _, _, rfl, (by rw [goK_s]; exact hT_q), (by rw [goK_s]; exact hr9_q), hQ9, hf_q, rfl⟩
    · rintro lv9 σ n9 ⟨ch9, co9, rw9, bk9, rfl, hT_q, hr9_q, hQ9, hf_q, rfl⟩
      have hs7 : sameB (fntI s (kP K) K) (goK m (fntI s (kP K) K)) := goK_same (by omega)
      have hB7 := hs7.okB hB9_q
      have hg7 : gS (goK m (fntI s (kP K) K)) := gS_go hg9_q (by omega) (by omega)
      have eP7 := hs7.P
      have eH7 := hs7.H
      refine go_iload (pc := 49) dX7_bringsToFront_49 rfl ?_
      refine go_iload_n (pc := 51) dX7_bringsToFront_51 rfl ?_
      refine go_icmp_ge (tgt := 67) (pc := 52) dX7_bringsToFront_52 (by decide) (fun h_52 => ?_) (fun h_52 => by exfalso; exact h_52 (nI_le (by omega) (by omega)))
      refine go_aload (pc := 67) dX7_bringsToFront_67 rfl ?_
      refine go_getf (pc := 69) f_X7_141 dX7_bringsToFront_69 (by first | exact co0 hC | exact sr0 hR_q | exact be0 hQ_q | exact sr0 hT_q | exact be0 hQ9 | exact sr1 hR_q | exact sr2 hR_q | exact sr3 hR_q | exact sr4 hR_q | exact be1 hQ_q | exact be2 hQ_q | exact be3 hQ_q | exact sr3 hT_q | exact sr2 hT_q | exact sr1 hT_q | exact sr4 hT_q | exact co4 hC | exact co2 hC | exact co3 hC | exact co0 hC9 | exact sr0 hR9 | exact co4 hC9 | exact sr3 hR9 | exact sr2 hR9) (by rfl) ?_
      refine go_iload_n (pc := 72) dX7_bringsToFront_72 rfl ?_
      refine go_iald (pc := 73) dX7_bringsToFront_73 (by first | exact co0 hC | exact sr0 hR_q | exact be0 hQ_q | exact sr0 hT_q | exact be0 hQ9 | exact sr1 hR_q | exact sr2 hR_q | exact sr3 hR_q | exact sr4 hR_q | exact be1 hQ_q | exact be2 hQ_q | exact be3 hQ_q | exact sr3 hT_q | exact sr2 hT_q | exact sr1 hT_q | exact sr4 hT_q | exact co4 hC | exact co2 hC | exact co3 hC | exact co0 hC9 | exact sr0 hR9 | exact co4 hC9 | exact sr3 hR9 | exact sr2 hR9) (by exact ⟨rfl, by omega⟩) ?_
      rw [(hr9_q.1 p (by omega)).2.1]
      refine go_if_ne (tgt := 81) (pc := 74) dX7_bringsToFront_74 (by decide) (fun h_74 => ?_) (fun h_74 => ?_)
      · refine go_iconst (v := 0) (pc := 81) dX7_bringsToFront_81 (by decide) ?_
        exact go_zretI (pc := 82) rfl (by first | rfl | exact nb_bI) dX7_bringsToFront_82 (Nat.le_of_ble_eq_true rfl) (Nat.le_of_ble_eq_true rfl) ⟨(by first | (exact (bI_t (by simp only [fntO, ← fntI_R, decide_eq_true_eq]; exact h_74)).symm) | (exact (bI_f (by simp only [fntO, ← fntI_R, decide_eq_true_eq]; exact h_74)).symm)), rfl, hS_q.s0 hC.1 hf_q hT_q.T, hf_q.toS (fun q x y => by omega)⟩
      · refine go_iconst (v := 1) (pc := 77) dX7_bringsToFront_77 (by decide) ?_
        refine go_goto (tgt := 82) (pc := 78) dX7_bringsToFront_78 (by decide) ?_
        exact go_zretI (pc := 82) rfl (by first | rfl | exact nb_bI) dX7_bringsToFront_82 (Nat.le_of_ble_eq_true rfl) (Nat.le_of_ble_eq_true rfl) ⟨(by first | (exact (bI_t (by simp only [fntO, ← fntI_R, decide_eq_true_eq]; exact h_74)).symm) | (exact (bI_f (by simp only [fntO, ← fntI_R, decide_eq_true_eq]; exact h_74)).symm)), rfl, hS_q.s0 hC.1 hf_q hT_q.T, hf_q.toS (fun q x y => by omega)⟩
theorem cp_faints {Γ : gam} {D : Nat} {ro : Nat → Nat} {z0 : sto} {n k a b : Nat} {w : Int32} {K ag pa pf ch co rw bk G : row} {im : Nat → Option Nat} {lm lt lw : Value} (hC : CoAt Γ ro z0 a G im) (hR_q : SrAt Γ ro z0 (a + 14) b w (K 33) ch co rw bk) (hr_q : rS K ch co rw bk) (hQ_q : BrAt Γ D ro z0 b K ag pa pf lm lt lw) (hB_q : okB K) (hg_q : gS K) (hS_q : ScAt Γ ro z0 a) (hD : a + 113 < D) (hsb : b = a + 10 ∨ a + 113 < b) (hk : 14 ≤ k) (p z y : Int32) : Sp Γ (rmk k 4 24) uX7_faints [.ref a, .int p, .int z, .int y] z0 n (qT (qI fun v σ' n' => (aFaints K p.toInt z.toInt y.toInt).1 = 0 ∧ v = (aFaints K p.toInt z.toInt y.toInt).2 ∧ n' = n ∧ ScAt Γ ro σ' a ∧ frS Γ ro (scr a) z0 σ') (fun x σ' n' => exL [eNS, eIA] (aFaints K p.toInt z.toInt y.toInt).1 x ∧ σ' = z0 ∧ n ≤ n')) := by
  have hP8 := hB_q.1.2.1
  have hH5 := hB_q.1.2.2.2.1
  have hW4 := hB_q.1.2.2.2.2.2
  refine sp_intro [some (.ref a), some (.int p), some (.int z), some (.int y), none, none, none, none, none] (by decide +kernel) rfl (Nat.le_of_ble_eq_true rfl) rfl ?_
  refine go_aload_n (pc := 0) dX7_faints_0 rfl ?_
  refine go_iload_n (pc := 1) dX7_faints_1 rfl ?_
  refine go_V1Vx (pc := 2) v_X7_135 rfl rfl (rcv_of (ci := 7) (by first | exact co0 hC | exact sr0 hR_q | exact be0 hQ_q | exact sr0 hT_q | exact be0 hQ9 | exact sr1 hR_q | exact sr2 hR_q | exact sr3 hR_q | exact sr4 hR_q | exact be1 hQ_q | exact be2 hQ_q | exact be3 hQ_q | exact sr3 hT_q | exact sr2 hT_q | exact sr1 hT_q | exact sr4 hT_q | exact co4 hC | exact co2 hC | exact co3 hC | exact co0 hC9 | exact sr0 hR9 | exact co4 hC9 | exact sr3 hR9 | exact sr2 hR9) rfl) dX7_faints_2 (cp_needPerson (k := k - 1) hC hR_q hr_q hQ_q hB_q (by omega) _) (fun x σx nx hx_q => by obtain ⟨h9_q, rfl, rfl, h8_q⟩ := hx_q; exact Or.inr ⟨_, rfl, ⟨0, (by rw [show aFaints K p.toInt z.toInt y.toInt = (1, 0) from by have e9_q : fntT K p.toInt z.toInt y.toInt = 1 := (by simp only [fntT, h9_q]); rw [aFaints, e9_q, if_pos (by decide)]]; rfl), rfl⟩, rfl, h8_q⟩) (fun σ n h_q => ?_)
  obtain ⟨⟨j1_q, hj1, rfl, hj1a⟩, rfl, rfl⟩ := h_q
  refine go_aload_n (pc := 5) dX7_faints_5 rfl ?_
  refine go_iload_n (pc := 6) dX7_faints_6 rfl ?_
  refine go_iconst (v := 0) (pc := 7) dX7_faints_7 (by decide) ?_
  refine go_bipush (v := 60) (pc := 8) dX7_faints_8 (by decide) ?_
  refine go_V3Vx (pc := 10) v_X7_90 rfl rfl (rcv_of (ci := 7) (by first | exact co0 hC | exact sr0 hR_q | exact be0 hQ_q | exact sr0 hT_q | exact be0 hQ9 | exact sr1 hR_q | exact sr2 hR_q | exact sr3 hR_q | exact sr4 hR_q | exact be1 hQ_q | exact be2 hQ_q | exact be3 hQ_q | exact sr3 hT_q | exact sr2 hT_q | exact sr1 hT_q | exact sr4 hT_q | exact co4 hC | exact co2 hC | exact co3 hC | exact co0 hC9 | exact sr0 hR9 | exact co4 hC9 | exact sr3 hR9 | exact sr2 hR9) rfl) dX7_faints_10 (cp_nW (k := k - 1) (lo := 0) (hi_q := 60) (by omega) (by decide) (by decide) _) (fun x σx nx hx_q => by obtain ⟨h9_q, rfl, rfl, h8_q⟩ := hx_q; exact Or.inr ⟨_, rfl, ⟨1, (by rw [show aFaints K (nI j1_q).toInt z.toInt y.toInt = (2, 0) from by have e9_q : fntT K (nI j1_q).toInt z.toInt y.toInt = 2 := (by simp only [fntT, hj1, h9_q]); rw [aFaints, e9_q, if_pos (by decide)]]; rfl), rfl⟩, rfl, h8_q⟩) (fun σ n h_q => ?_)
  obtain ⟨⟨j2_q, hj2, rfl, hj2a, hj2b⟩, rfl, rfl⟩ := h_q
  refine go_aload_n (pc := 13) dX7_faints_13 rfl ?_
  refine go_iload_n (pc := 14) dX7_faints_14 rfl ?_
  refine go_iconst (v := 0) (pc := 15) dX7_faints_15 (by decide) ?_
  refine go_iconst (v := 1) (pc := 16) dX7_faints_16 (by decide) ?_
  refine go_V3Vx (pc := 17) v_X7_90 rfl rfl (rcv_of (ci := 7) (by first | exact co0 hC | exact sr0 hR_q | exact be0 hQ_q | exact sr0 hT_q | exact be0 hQ9 | exact sr1 hR_q | exact sr2 hR_q | exact sr3 hR_q | exact sr4 hR_q | exact be1 hQ_q | exact be2 hQ_q | exact be3 hQ_q | exact sr3 hT_q | exact sr2 hT_q | exact sr1 hT_q | exact sr4 hT_q | exact co4 hC | exact co2 hC | exact co3 hC | exact co0 hC9 | exact sr0 hR9 | exact co4 hC9 | exact sr3 hR9 | exact sr2 hR9) rfl) dX7_faints_17 (cp_nW (k := k - 1) (lo := 0) (hi_q := 1) (by omega) (by decide) (by decide) _) (fun x σx nx hx_q => by obtain ⟨h9_q, rfl, rfl, h8_q⟩ := hx_q; exact Or.inr ⟨_, rfl, ⟨1, (by rw [show aFaints K (nI j1_q).toInt (nI j2_q).toInt y.toInt = (2, 0) from by have e9_q : fntT K (nI j1_q).toInt (nI j2_q).toInt y.toInt = 2 := (by simp only [fntT, hj1, hj2, h9_q]); rw [aFaints, e9_q, if_pos (by decide)]]; rfl), rfl⟩, rfl, h8_q⟩) (fun σ n h_q => ?_)
  obtain ⟨⟨j3_q, hj3, rfl, hj3a, hj3b⟩, rfl, rfl⟩ := h_q
  have h0_q : fntT K (nI j1_q).toInt (nI j2_q).toInt (nI j3_q).toInt = 0 := by simp only [fntT, hj1, hj2, hj3]
  have e1_q : (nI j1_q).toInt.toNat = j1_q := by rw [nI_toInt (by omega)]; rfl
  have e2_q : (nI j2_q).toInt.toNat = j2_q := by rw [nI_toInt (by omega)]; rfl
  refine go_aload_n (pc := 20) dX7_faints_20 rfl ?_
  refine go_iload_n (pc := 21) dX7_faints_21 rfl ?_
  refine go_V1P (pc := 22) v_X7_272 rfl rfl (rcv_of (ci := 7) (by first | exact co0 hC | exact sr0 hR_q | exact be0 hQ_q | exact sr0 hT_q | exact be0 hQ9 | exact sr1 hR_q | exact sr2 hR_q | exact sr3 hR_q | exact sr4 hR_q | exact be1 hQ_q | exact be2 hQ_q | exact be3 hQ_q | exact sr3 hT_q | exact sr2 hT_q | exact sr1 hT_q | exact sr4 hT_q | exact co4 hC | exact co2 hC | exact co3 hC | exact co0 hC9 | exact sr0 hR9 | exact co4 hC9 | exact sr3 hR9 | exact sr2 hR9) rfl) dX7_faints_22 (cp_neigh (k := k - 1) hC hR_q hr_q hQ_q hB_q (by omega) hj1a) ?_
  refine go_istore (lw := [_, _, _, _, _, _, _, _, _]) (pc := 25) dX7_faints_25 (by decide) rfl ?_
  refine go_bipush (v := 9) (pc := 27) dX7_faints_27 (by decide) ?_
  refine go_istore (lw := [_, _, _, _, _, _, _, _, _]) (pc := 29) dX7_faints_29 (by decide) rfl ?_
  refine go_iconst (v := -1) (pc := 31) dX7_faints_31 (by decide) ?_
  refine go_istore (lw := [_, _, _, _, _, _, _, _, _]) (pc := 32) dX7_faints_32 (by decide) rfl ?_
  refine go_iconst (v := 0) (pc := 34) dX7_faints_34 (by decide) ?_
  refine go_istore (lw := [_, _, _, _, _, _, _, _, _]) (pc := 35) dX7_faints_35 (by decide) rfl ?_
  refine go_iter (256) (fun i_q lv9 s9 n9 => ∃ (w9_q : Int32), ∃ (b9_q : Int32), ∃ x8_q, lv9 = [some (.ref a), some (.int (nI j1_q)), some (.int (nI j2_q)), some (.int (nI j3_q)), some (.int (fntC K j1_q)), some (.int w9_q), some (.int b9_q), some (.int (nI i_q)), x8_q] ∧ (fntF (fntO K j1_q j2_q) (fntC K j1_q) (256 - i_q) i_q b9_q = fntK K j1_q j2_q) ∧ ((b9_q = -1 ∧ w9_q = 9) ∨ (∃ s9 : Nat, s9 < 256 ∧ b9_q = nI s9 ∧ w9_q = szI b9_q)) ∧ (frS Γ ro (scr a) z0 s9) ∧ (ScAt Γ ro s9 a) ∧ n = n9) ⟨9, -1, none, rfl, (faint_eq hB_q hj1a), (Or.inl ⟨rfl, rfl⟩), frS.rf, hS_q, rfl⟩ ?_ ?_
  · rintro i_q lv9 σ n9 hi_q ⟨w9_q, b9_q, x8_q, rfl, hR9e, hw9, hfX, hS9, rfl⟩ ih_q
    have hC9 := hC.fs hfX (fun q x z => by omega)
    have hR9 := hR_q.fs hfX (fun q x y z => by omega)
    have hQ9 := hQ_q.fs hfX (fun q x z => by omega) (fun q x y z => by omega)
    refine go_iload (pc := 37) dX7_faints_37 rfl ?_
    refine go_sipush (v := 256) (pc := 39) dX7_faints_39 (by decide) ?_
    refine go_icmp_ge (tgt := 94) (pc := 42) dX7_faints_42 (by decide) (fun h_42 => by exfalso; exact absurd h_42 (nI_ge (b := 256) (by omega) (by decide))) (fun h_42 => ?_)
    refine go_iload (pc := 45) dX7_faints_45 rfl ?_
    refine go_S1P (pc := 47) s_X7_198 rfl rfl dX7_faints_47 (cp_bitCount (k := k - 1) ⟨i_q, hi_q, rfl⟩) ?_
    refine go_istore (lw := [_, _, _, _, _, _, _, _, _]) (pc := 50) dX7_faints_50 (by decide) rfl ?_
    refine go_iload (pc := 52) dX7_faints_52 rfl ?_
    refine go_iload (pc := 54) dX7_faints_54 rfl ?_
    refine go_iconst (v := -1) (pc := 56) dX7_faints_56 (by decide) ?_
    refine go_ixor (pc := 57) dX7_faints_57 ?_
    refine go_iand (pc := 58) dX7_faints_58 ?_
    refine go_if_ne (tgt := 88) (pc := 59) dX7_faints_59 (by decide) (fun h_59 => ?_) (fun h_59 => ?_)
    · refine go_iinc (v := 1) (lw := [_, _, _, _, _, _, _, _, _]) (pc := 88) dX7_faints_88 rfl (by decide) (by decide) rfl ?_
      refine go_goto (tgt := 37) (pc := 91) dX7_faints_91 (by decide) ?_
      rw [nI_1]
      have hlt : (b9_q = -1 ∨ szI (nI i_q) < szI b9_q) ↔ szI (nI i_q) < w9_q := by
        rcases hw9 with ⟨g8_q, g7_q⟩ | ⟨s8, l8, g8_q, g7_q⟩
        · rw [g8_q, g7_q]
          have h9_q : szK 8 (nI i_q) ≤ 8 := (sz_rec ⟨i_q, hi_q⟩).2.2.2
          exact ⟨fun _ => nI_lt (b := 9) (by omega) (by decide), fun _ => Or.inl rfl⟩
        · rw [g7_q]
          exact ⟨fun h_q => h_q.resolve_left (by rw [g8_q]; exact nI_ne1 (by omega)), Or.inr⟩
      first
        | (have g9_q : ¬ nI i_q &&& (fntC K j1_q ^^^ (-1)) = 0 := h_59
           refine ih_q _ _ _ ⟨_, _, _, rfl, ?_, hw9, hfX, hS9, rfl⟩
           rw [← hR9e, fntF_step hi_q, if_neg (by simp only [fntB, Bool.and_eq_true, decide_eq_true_eq]; exact fun hc_q => g9_q hc_q.1.1)])
        | (have g9_q : ¬ szI (nI i_q) < w9_q := Int32.not_lt.mpr h_66
           refine ih_q _ _ _ ⟨_, _, _, rfl, ?_, hw9, hfX, hS9, rfl⟩
           rw [← hR9e, fntF_step hi_q, if_neg (by simp only [fntB, Bool.and_eq_true, decide_eq_true_eq]; exact fun hc_q => g9_q (hlt.mp hc_q.1.2))])
        | (have g9_q : ¬ fntO K j1_q j2_q (nI i_q) = true := bI_0.mp h_77
           refine ih_q _ _ _ ⟨_, _, _, rfl, ?_, hw9, hfX, hS9, rfl⟩
           rw [← hR9e, fntF_step hi_q, if_neg (by simp only [fntB, Bool.and_eq_true, decide_eq_true_eq]; exact fun hc_q => g9_q hc_q.2)])
        | (have g9_q : fntO K j1_q j2_q (nI i_q) = true := Decidable.not_not.mp (fun hc_q => h_77 (bI_0.mpr hc_q))
           refine ih_q _ _ _ ⟨_, _, _, rfl, ?_, Or.inr ⟨i_q, hi_q, rfl, rfl⟩, hfX, hS9, rfl⟩
           rw [← hR9e, fntF_step hi_q, if_pos (by simp only [fntB, Bool.and_eq_true, decide_eq_true_eq]; exact ⟨⟨h_59, hlt.mpr (Int32.not_le.mp h_66)⟩, g9_q⟩)])
    · refine go_iload (pc := 62) dX7_faints_62 rfl ?_
      refine go_iload (pc := 64) dX7_faints_64 rfl ?_
      refine go_icmp_ge (tgt := 88) (pc := 66) dX7_faints_66 (by decide) (fun h_66 => ?_) (fun h_66 => ?_)
      · refine go_iinc (v := 1) (lw := [_, _, _, _, _, _, _, _, _]) (pc := 88) dX7_faints_88 rfl (by decide) (by decide) rfl ?_
        refine go_goto (tgt := 37) (pc := 91) dX7_faints_91 (by decide) ?_
        rw [nI_1]
        have hlt : (b9_q = -1 ∨ szI (nI i_q) < szI b9_q) ↔ szI (nI i_q) < w9_q := by
          rcases hw9 with ⟨g8_q, g7_q⟩ | ⟨s8, l8, g8_q, g7_q⟩
          · rw [g8_q, g7_q]
            have h9_q : szK 8 (nI i_q) ≤ 8 := (sz_rec ⟨i_q, hi_q⟩).2.2.2
            exact ⟨fun _ => nI_lt (b := 9) (by omega) (by decide), fun _ => Or.inl rfl⟩
          · rw [g7_q]
            exact ⟨fun h_q => h_q.resolve_left (by rw [g8_q]; exact nI_ne1 (by omega)), Or.inr⟩
        first
          | (have g9_q : ¬ nI i_q &&& (fntC K j1_q ^^^ (-1)) = 0 := h_59
             refine ih_q _ _ _ ⟨_, _, _, rfl, ?_, hw9, hfX, hS9, rfl⟩
             rw [← hR9e, fntF_step hi_q, if_neg (by simp only [fntB, Bool.and_eq_true, decide_eq_true_eq]; exact fun hc_q => g9_q hc_q.1.1)])
          | (have g9_q : ¬ szI (nI i_q) < w9_q := Int32.not_lt.mpr h_66
             refine ih_q _ _ _ ⟨_, _, _, rfl, ?_, hw9, hfX, hS9, rfl⟩
             rw [← hR9e, fntF_step hi_q, if_neg (by simp only [fntB, Bool.and_eq_true, decide_eq_true_eq]; exact fun hc_q => g9_q (hlt.mp hc_q.1.2))])
          | (have g9_q : ¬ fntO K j1_q j2_q (nI i_q) = true := bI_0.mp h_77
             refine ih_q _ _ _ ⟨_, _, _, rfl, ?_, hw9, hfX, hS9, rfl⟩
             rw [← hR9e, fntF_step hi_q, if_neg (by simp only [fntB, Bool.and_eq_true, decide_eq_true_eq]; exact fun hc_q => g9_q hc_q.2)])
          | (have g9_q : fntO K j1_q j2_q (nI i_q) = true := Decidable.not_not.mp (fun hc_q => h_77 (bI_0.mpr hc_q))
             refine ih_q _ _ _ ⟨_, _, _, rfl, ?_, Or.inr ⟨i_q, hi_q, rfl, rfl⟩, hfX, hS9, rfl⟩
             rw [← hR9e, fntF_step hi_q, if_pos (by simp only [fntB, Bool.and_eq_true, decide_eq_true_eq]; exact ⟨⟨h_59, hlt.mpr (Int32.not_le.mp h_66)⟩, g9_q⟩)])
      · refine go_aload_n (pc := 69) dX7_faints_69 rfl ?_
        refine go_iload (pc := 70) dX7_faints_70 rfl ?_
        refine go_iload_n (pc := 72) dX7_faints_72 rfl ?_
        refine go_iload_n (pc := 73) dX7_faints_73 rfl ?_
        refine go_V3I (pc := 74) v_X7_275 rfl rfl (rcv_of (ci := 7) (by first | exact co0 hC | exact sr0 hR_q | exact be0 hQ_q | exact sr0 hT_q | exact be0 hQ9 | exact sr1 hR_q | exact sr2 hR_q | exact sr3 hR_q | exact sr4 hR_q | exact be1 hQ_q | exact be2 hQ_q | exact be3 hQ_q | exact sr3 hT_q | exact sr2 hT_q | exact sr1 hT_q | exact sr4 hT_q | exact co4 hC | exact co2 hC | exact co3 hC | exact co0 hC9 | exact sr0 hR9 | exact co4 hC9 | exact sr3 hR9 | exact sr2 hR9) rfl) dX7_faints_74 (cp_bringsToFront (k := k - 1) hC9 hR9 hr_q hQ9 hB_q hg_q hS9 hD hsb (by omega) hj1a (by omega) (fun q hq_q hb_q => by
  have hcc := (sub_has hi_q (setP_bits (by omega) setP_0)).mp (show subN i_q (fntC K j1_q) from h_59) q (by omega) hb_q
  rw [bits_has (by omega) (by omega) setP_0, has_0 (by omega)] at hcc
  simp only [Bool.false_or, Bool.and_eq_true, decide_eq_true_eq] at hcc
  exact ((whyR_i hq_q).mp hcc.2.2.2).1)) (fun v_74 σ n h_q => ?_)
        obtain ⟨rfl, rfl, hS9, hf1⟩ := h_q
        have hfX := hfX.tr hf1
        refine go_if_eq (tgt := 88) (pc := 77) dX7_faints_77 (by decide) (fun h_77 => ?_) (fun h_77 => ?_)
        · refine go_iinc (v := 1) (lw := [_, _, _, _, _, _, _, _, _]) (pc := 88) dX7_faints_88 rfl (by decide) (by decide) rfl ?_
          refine go_goto (tgt := 37) (pc := 91) dX7_faints_91 (by decide) ?_
          rw [nI_1]
          have hlt : (b9_q = -1 ∨ szI (nI i_q) < szI b9_q) ↔ szI (nI i_q) < w9_q := by
            rcases hw9 with ⟨g8_q, g7_q⟩ | ⟨s8, l8, g8_q, g7_q⟩
            · rw [g8_q, g7_q]
              have h9_q : szK 8 (nI i_q) ≤ 8 := (sz_rec ⟨i_q, hi_q⟩).2.2.2
              exact ⟨fun _ => nI_lt (b := 9) (by omega) (by decide), fun _ => Or.inl rfl⟩
            · rw [g7_q]
              exact ⟨fun h_q => h_q.resolve_left (by rw [g8_q]; exact nI_ne1 (by omega)), Or.inr⟩
          first
            | (have g9_q : ¬ nI i_q &&& (fntC K j1_q ^^^ (-1)) = 0 := h_59
               refine ih_q _ _ _ ⟨_, _, _, rfl, ?_, hw9, hfX, hS9, rfl⟩
               rw [← hR9e, fntF_step hi_q, if_neg (by simp only [fntB, Bool.and_eq_true, decide_eq_true_eq]; exact fun hc_q => g9_q hc_q.1.1)])
            | (have g9_q : ¬ szI (nI i_q) < w9_q := Int32.not_lt.mpr h_66
               refine ih_q _ _ _ ⟨_, _, _, rfl, ?_, hw9, hfX, hS9, rfl⟩
               rw [← hR9e, fntF_step hi_q, if_neg (by simp only [fntB, Bool.and_eq_true, decide_eq_true_eq]; exact fun hc_q => g9_q (hlt.mp hc_q.1.2))])
            | (have g9_q : ¬ fntO K j1_q j2_q (nI i_q) = true := bI_0.mp h_77
               refine ih_q _ _ _ ⟨_, _, _, rfl, ?_, hw9, hfX, hS9, rfl⟩
               rw [← hR9e, fntF_step hi_q, if_neg (by simp only [fntB, Bool.and_eq_true, decide_eq_true_eq]; exact fun hc_q => g9_q hc_q.2)])
            | (have g9_q : fntO K j1_q j2_q (nI i_q) = true := Decidable.not_not.mp (fun hc_q => h_77 (bI_0.mpr hc_q))
               refine ih_q _ _ _ ⟨_, _, _, rfl, ?_, Or.inr ⟨i_q, hi_q, rfl, rfl⟩, hfX, hS9, rfl⟩
               rw [← hR9e, fntF_step hi_q, if_pos (by simp only [fntB, Bool.and_eq_true, decide_eq_true_eq]; exact ⟨⟨h_59, hlt.mpr (Int32.not_le.mp h_66)⟩, g9_q⟩)])
        · refine go_iload (pc := 80) dX7_faints_80 rfl ?_
          refine go_istore (lw := [_, _, _, _, _, _, _, _, _]) (pc := 82) dX7_faints_82 (by decide) rfl ?_
          refine go_iload (pc := 84) dX7_faints_84 rfl ?_
          refine go_istore (lw := [_, _, _, _, _, _, _, _, _]) (pc := 86) dX7_faints_86 (by decide) rfl ?_
          refine go_iinc (v := 1) (lw := [_, _, _, _, _, _, _, _, _]) (pc := 88) dX7_faints_88 rfl (by decide) (by decide) rfl ?_
          refine go_goto (tgt := 37) (pc := 91) dX7_faints_91 (by decide) ?_
          rw [nI_1]
          have hlt : (b9_q = -1 ∨ szI (nI i_q) < szI b9_q) ↔ szI (nI i_q) < w9_q := by
            rcases hw9 with ⟨g8_q, g7_q⟩ | ⟨s8, l8, g8_q, g7_q⟩
            · rw [g8_q, g7_q]
              have h9_q : szK 8 (nI i_q) ≤ 8 := (sz_rec ⟨i_q, hi_q⟩).2.2.2
              exact ⟨fun _ => nI_lt (b := 9) (by omega) (by decide), fun _ => Or.inl rfl⟩
            · rw [g7_q]
              exact ⟨fun h_q => h_q.resolve_left (by rw [g8_q]; exact nI_ne1 (by omega)), Or.inr⟩
          first
            | (have g9_q : ¬ nI i_q &&& (fntC K j1_q ^^^ (-1)) = 0 := h_59
               refine ih_q _ _ _ ⟨_, _, _, rfl, ?_, hw9, hfX, hS9, rfl⟩
               rw [← hR9e, fntF_step hi_q, if_neg (by simp only [fntB, Bool.and_eq_true, decide_eq_true_eq]; exact fun hc_q => g9_q hc_q.1.1)])
            | (have g9_q : ¬ szI (nI i_q) < w9_q := Int32.not_lt.mpr h_66
               refine ih_q _ _ _ ⟨_, _, _, rfl, ?_, hw9, hfX, hS9, rfl⟩
               rw [← hR9e, fntF_step hi_q, if_neg (by simp only [fntB, Bool.and_eq_true, decide_eq_true_eq]; exact fun hc_q => g9_q (hlt.mp hc_q.1.2))])
            | (have g9_q : ¬ fntO K j1_q j2_q (nI i_q) = true := bI_0.mp h_77
               refine ih_q _ _ _ ⟨_, _, _, rfl, ?_, hw9, hfX, hS9, rfl⟩
               rw [← hR9e, fntF_step hi_q, if_neg (by simp only [fntB, Bool.and_eq_true, decide_eq_true_eq]; exact fun hc_q => g9_q hc_q.2)])
            | (have g9_q : fntO K j1_q j2_q (nI i_q) = true := Decidable.not_not.mp (fun hc_q => h_77 (bI_0.mpr hc_q))
               refine ih_q _ _ _ ⟨_, _, _, rfl, ?_, Or.inr ⟨i_q, hi_q, rfl, rfl⟩, hfX, hS9, rfl⟩
               rw [← hR9e, fntF_step hi_q, if_pos (by simp only [fntB, Bool.and_eq_true, decide_eq_true_eq]; exact ⟨⟨h_59, hlt.mpr (Int32.not_le.mp h_66)⟩, g9_q⟩)])
  · rintro lv9 σ n9 ⟨w9_q, b9_q, x8_q, rfl, hR9e, hw9, hfX, hS9, rfl⟩
    have hC9 := hC.fs hfX (fun q x z => by omega)
    have hR9 := hR_q.fs hfX (fun q x y z => by omega)
    have hQ9 := hQ_q.fs hfX (fun q x z => by omega) (fun q x y z => by omega)
    refine go_iload (pc := 37) dX7_faints_37 rfl ?_
    refine go_sipush (v := 256) (pc := 39) dX7_faints_39 (by decide) ?_
    refine go_icmp_ge (tgt := 94) (pc := 42) dX7_faints_42 (by decide) (fun h_42 => ?_) (fun h_42 => by exfalso; exact h_42 (by decide))
    rw [Nat.sub_self] at hR9e
    have hR9e : b9_q = fntK K j1_q j2_q := hR9e
    refine go_iload (pc := 94) dX7_faints_94 rfl ?_
    refine go_iconst (v := -1) (pc := 96) dX7_faints_96 (by decide) ?_
    refine go_icmp_ne (tgt := 102) (pc := 97) dX7_faints_97 (by decide) (fun h_97 => ?_) (fun h_97 => ?_)
    · refine go_iload_n (pc := 102) dX7_faints_102 rfl ?_
      refine go_if_ne (tgt := 111) (pc := 103) dX7_faints_103 (by decide) (fun h_103 => ?_) (fun h_103 => ?_)
      · refine go_iload (pc := 111) dX7_faints_111 rfl ?_
        exact go_iretT (pc := 113) rfl dX7_faints_113 (Nat.le_of_ble_eq_true rfl) (Nat.le_of_ble_eq_true rfl) (by
  refine ⟨by rw [aFaints, if_neg (fun hc_q => hc_q h0_q)], ?_, rfl, hS9, hfX⟩
  rw [aFaints, if_neg (fun hc_q => hc_q h0_q), e1_q, e2_q, ← hR9e]
  have hw8 : w9_q = szI b9_q := by
    rcases hw9 with ⟨g8_q, -⟩ | ⟨s8, -, -, g8_q⟩
    · exact absurd g8_q h_97
    · exact g8_q
  have e3_q : (nI j3_q).toInt = (j3_q : Int) := nI_toInt (by omega)
  first
    | (have g9_q : ¬ nI j3_q = 0 := h_103
       have e5_q : j3_q ≠ 0 := fun e_q => g9_q (by rw [e_q]; rfl)
       have e4_q : j3_q = 1 := by omega
       exact (if_pos (Or.inr (by rw [e3_q, e4_q]; rfl))).symm)
    | (have g9_q : nI j3_q = 0 := h_103
       have e4_q : j3_q = 0 := (nI_eq (a := j3_q) (b := 0) (by omega) (by omega)).mp g9_q
       rw [hw8]
       exact (if_neg (fun hc_q => hc_q.elim h_97 (fun hc_q => absurd hc_q (by rw [e3_q, e4_q]; decide)))).symm))
      · refine go_iload (pc := 106) dX7_faints_106 rfl ?_
        refine go_goto (tgt := 113) (pc := 108) dX7_faints_108 (by decide) ?_
        exact go_iretT (pc := 113) rfl dX7_faints_113 (Nat.le_of_ble_eq_true rfl) (Nat.le_of_ble_eq_true rfl) (by
  refine ⟨by rw [aFaints, if_neg (fun hc_q => hc_q h0_q)], ?_, rfl, hS9, hfX⟩
  rw [aFaints, if_neg (fun hc_q => hc_q h0_q), e1_q, e2_q, ← hR9e]
  have hw8 : w9_q = szI b9_q := by
    rcases hw9 with ⟨g8_q, -⟩ | ⟨s8, -, -, g8_q⟩
    · exact absurd g8_q h_97
    · exact g8_q
  have e3_q : (nI j3_q).toInt = (j3_q : Int) := nI_toInt (by omega)
  first
    | (have g9_q : ¬ nI j3_q = 0 := h_103
       have e5_q : j3_q ≠ 0 := fun e_q => g9_q (by rw [e_q]; rfl)
       have e4_q : j3_q = 1 := by omega
       exact (if_pos (Or.inr (by rw [e3_q, e4_q]; rfl))).symm)
    | (have g9_q : nI j3_q = 0 := h_103
       have e4_q : j3_q = 0 := (nI_eq (a := j3_q) (b := 0) (by omega) (by omega)).mp g9_q
       rw [hw8]
       exact (if_neg (fun hc_q => hc_q.elim h_97 (fun hc_q => absurd hc_q (by rw [e3_q, e4_q]; decide)))).symm))
    · refine go_iconst (v := -1) (pc := 100) dX7_faints_100 (by decide) ?_
      exact go_iretT (pc := 101) rfl dX7_faints_101 (Nat.le_of_ble_eq_true rfl) (Nat.le_of_ble_eq_true rfl) ⟨by rw [aFaints, if_neg (fun hc_q => hc_q h0_q)], by rw [aFaints, if_neg (fun hc_q => hc_q h0_q), e1_q, e2_q, ← hR9e]; exact ((if_pos (Or.inl h_97)).trans h_97).symm, rfl, hS9, hfX⟩
