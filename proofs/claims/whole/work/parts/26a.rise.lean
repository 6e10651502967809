/-! ===== the reference: one rises, two swap, a minute ===== -/
theorem sw_ix0 {p : Nat} : 8 + (0 : Int32) + nI p = nI (8 + p) := nI_add 8 p
theorem sw_ix8 {p : Nat} : 8 + (8 : Int32) + nI p = nI (16 + p) := nI_add 16 p
theorem swap_eq {K : row} {p q : Nat} (hp : p < 8) (hq : q < 8) : upd (upd (upd (upd K (8 + p) (K (8 + q))) (8 + q) (K (8 + p))) (16 + p) (upd (upd K (8 + p) (K (8 + q))) (8 + q) (K (8 + p)) (16 + q))) (16 + q) (upd (upd K (8 + p) (K (8 + q))) (8 + q) (K (8 + p)) (16 + p)) = swapK K p q := by
  have e1 : ∀ z, z < 8 → upd (upd K (8 + p) (K (8 + q))) (8 + q) (K (8 + p)) (16 + z) = K (16 + z) := fun z hz => by simp [upd, show 16 + z ≠ 8 + p by omega, show 16 + z ≠ 8 + q by omega]
  rw [e1 q hq, e1 p hp]
  rfl
theorem sp_swaps {Γ : gam} {σ : sto} {n k r : Nat} {F K : row} {A : Nat → row} {Nm : Nat → Int64} (hM : MoAt Γ σ r F K A Nm) {p q : Nat} (hp : p < 8) (hq : q < 8) : Sp Γ (rmk k 0 0) uX8_swaps [.ref r, .int (nI p), .int (nI q)] σ n (qV fun σ' n' => moJ Γ r F (swapK K p q) A Nm σ n [6, 7] σ' n') := by
  have hf : fr r (r + 16) σ σ := fr.rf
  refine sp_intro [some (.ref r), some (.int (nI p)), some (.int (nI q)), none, none] (by decide +kernel) rfl (Nat.le_of_ble_eq_true rfl) rfl ?_
  refine go_iconst (v := 0) (pc := 0) dX8_swaps_0 (by decide) ?_
  refine go_istore_n (lw := [_, _, _, _, _]) (pc := 1) dX8_swaps_1 (by decide) rfl ?_
  refine go_iload_n (pc := 2) dX8_swaps_2 rfl ?_
  refine go_bipush (v := 9) (pc := 3) dX8_swaps_3 (by decide) ?_
  refine go_icmp_ge (tgt := 62) (pc := 5) dX8_swaps_5 (by decide) (fun h_5 => by exfalso; exact absurd h_5 (by decide)) (fun h_5 => ?_)
  refine go_aload_n (pc := 8) dX8_swaps_8 rfl ?_
  refine go_getf (pc := 9) f_X8_9 dX8_swaps_9 (by first | exact mo0 hM | exact mo1 hM | exact mo6 hM | exact mo7 hM | exact mo8 hM | exact mo2 hM | exact mo3 hM | exact mo4 hM | exact mo5 hM | exact mo9 hM | exact mo10 hM | exact mo11 hM | exact mo12 hM | exact mo13 hM | exact mo14 hM | exact mo15 hM | exact mo16 hM) (by rfl) ?_
  refine go_bipush (v := 8) (pc := 12) dX8_swaps_12 (by decide) ?_
  refine go_iload_n (pc := 14) dX8_swaps_14 rfl ?_
  refine go_iadd (pc := 15) dX8_swaps_15 ?_
  refine go_iload_n (pc := 16) dX8_swaps_16 rfl ?_
  refine go_iadd (pc := 17) dX8_swaps_17 ?_
  refine go_iald (pc := 18) dX8_swaps_18 (by first | exact mo0 hM | exact mo1 hM | exact mo6 hM | exact mo7 hM | exact mo8 hM | exact mo2 hM | exact mo3 hM | exact mo4 hM | exact mo5 hM | exact mo9 hM | exact mo10 hM | exact mo11 hM | exact mo12 hM | exact mo13 hM | exact mo14 hM | exact mo15 hM | exact mo16 hM) (by exact ⟨sw_ix0, by omega⟩) ?_
  refine go_istore (lw := [_, _, _, _, _]) (pc := 19) dX8_swaps_19 (by decide) rfl ?_
  refine go_aload_n (pc := 21) dX8_swaps_21 rfl ?_
  refine go_getf (pc := 22) f_X8_9 dX8_swaps_22 (by first | exact mo0 hM | exact mo1 hM | exact mo6 hM | exact mo7 hM | exact mo8 hM | exact mo2 hM | exact mo3 hM | exact mo4 hM | exact mo5 hM | exact mo9 hM | exact mo10 hM | exact mo11 hM | exact mo12 hM | exact mo13 hM | exact mo14 hM | exact mo15 hM | exact mo16 hM) (by rfl) ?_
  refine go_bipush (v := 8) (pc := 25) dX8_swaps_25 (by decide) ?_
  refine go_iload_n (pc := 27) dX8_swaps_27 rfl ?_
  refine go_iadd (pc := 28) dX8_swaps_28 ?_
  refine go_iload_n (pc := 29) dX8_swaps_29 rfl ?_
  refine go_iadd (pc := 30) dX8_swaps_30 ?_
  refine go_aload_n (pc := 31) dX8_swaps_31 rfl ?_
  refine go_getf (pc := 32) f_X8_9 dX8_swaps_32 (by first | exact mo0 hM | exact mo1 hM | exact mo6 hM | exact mo7 hM | exact mo8 hM | exact mo2 hM | exact mo3 hM | exact mo4 hM | exact mo5 hM | exact mo9 hM | exact mo10 hM | exact mo11 hM | exact mo12 hM | exact mo13 hM | exact mo14 hM | exact mo15 hM | exact mo16 hM) (by rfl) ?_
  refine go_bipush (v := 8) (pc := 35) dX8_swaps_35 (by decide) ?_
  refine go_iload_n (pc := 37) dX8_swaps_37 rfl ?_
  refine go_iadd (pc := 38) dX8_swaps_38 ?_
  refine go_iload_n (pc := 39) dX8_swaps_39 rfl ?_
  refine go_iadd (pc := 40) dX8_swaps_40 ?_
  refine go_iald (pc := 41) dX8_swaps_41 (by first | exact mo0 hM | exact mo1 hM | exact mo6 hM | exact mo7 hM | exact mo8 hM | exact mo2 hM | exact mo3 hM | exact mo4 hM | exact mo5 hM | exact mo9 hM | exact mo10 hM | exact mo11 hM | exact mo12 hM | exact mo13 hM | exact mo14 hM | exact mo15 hM | exact mo16 hM) (by exact ⟨sw_ix0, by omega⟩) ?_
  refine go_mstK (pc := 42) hM dX8_swaps_42 (by exact ⟨sw_ix0, by omega⟩) (fun σ hM hf9 => ?_)
  have hf := hf.tr hf9
  refine go_aload_n (pc := 43) dX8_swaps_43 rfl ?_
  refine go_getf (pc := 44) f_X8_9 dX8_swaps_44 (by first | exact mo0 hM | exact mo1 hM | exact mo6 hM | exact mo7 hM | exact mo8 hM | exact mo2 hM | exact mo3 hM | exact mo4 hM | exact mo5 hM | exact mo9 hM | exact mo10 hM | exact mo11 hM | exact mo12 hM | exact mo13 hM | exact mo14 hM | exact mo15 hM | exact mo16 hM) (by rfl) ?_
  refine go_bipush (v := 8) (pc := 47) dX8_swaps_47 (by decide) ?_
  refine go_iload_n (pc := 49) dX8_swaps_49 rfl ?_
  refine go_iadd (pc := 50) dX8_swaps_50 ?_
  refine go_iload_n (pc := 51) dX8_swaps_51 rfl ?_
  refine go_iadd (pc := 52) dX8_swaps_52 ?_
  refine go_iload (pc := 53) dX8_swaps_53 rfl ?_
  refine go_mstK (pc := 55) hM dX8_swaps_55 (by exact ⟨sw_ix0, by omega⟩) (fun σ hM hf9 => ?_)
  have hf := hf.tr hf9
  refine go_iinc (v := 8) (lw := [_, _, _, _, _]) (pc := 56) dX8_swaps_56 rfl (by decide) (by decide) rfl ?_
  refine go_goto (tgt := 2) (pc := 59) dX8_swaps_59 (by decide) ?_
  rw [show (0 : Int32) + 8 = 8 by decide]
  refine go_iload_n (pc := 2) dX8_swaps_2 rfl ?_
  refine go_bipush (v := 9) (pc := 3) dX8_swaps_3 (by decide) ?_
  refine go_icmp_ge (tgt := 62) (pc := 5) dX8_swaps_5 (by decide) (fun h_5 => by exfalso; exact absurd h_5 (by decide)) (fun h_5 => ?_)
  refine go_aload_n (pc := 8) dX8_swaps_8 rfl ?_
  refine go_getf (pc := 9) f_X8_9 dX8_swaps_9 (by first | exact mo0 hM | exact mo1 hM | exact mo6 hM | exact mo7 hM | exact mo8 hM | exact mo2 hM | exact mo3 hM | exact mo4 hM | exact mo5 hM | exact mo9 hM | exact mo10 hM | exact mo11 hM | exact mo12 hM | exact mo13 hM | exact mo14 hM | exact mo15 hM | exact mo16 hM) (by rfl) ?_
  refine go_bipush (v := 8) (pc := 12) dX8_swaps_12 (by decide) ?_
  refine go_iload_n (pc := 14) dX8_swaps_14 rfl ?_
  refine go_iadd (pc := 15) dX8_swaps_15 ?_
  refine go_iload_n (pc := 16) dX8_swaps_16 rfl ?_
  refine go_iadd (pc := 17) dX8_swaps_17 ?_
  refine go_iald (pc := 18) dX8_swaps_18 (by first | exact mo0 hM | exact mo1 hM | exact mo6 hM | exact mo7 hM | exact mo8 hM | exact mo2 hM | exact mo3 hM | exact mo4 hM | exact mo5 hM | exact mo9 hM | exact mo10 hM | exact mo11 hM | exact mo12 hM | exact mo13 hM | exact mo14 hM | exact mo15 hM | exact mo16 hM) (by exact ⟨sw_ix8, by omega⟩) ?_
  refine go_istore (lw := [_, _, _, _, _]) (pc := 19) dX8_swaps_19 (by decide) rfl ?_
  refine go_aload_n (pc := 21) dX8_swaps_21 rfl ?_
  refine go_getf (pc := 22) f_X8_9 dX8_swaps_22 (by first | exact mo0 hM | exact mo1 hM | exact mo6 hM | exact mo7 hM | exact mo8 hM | exact mo2 hM | exact mo3 hM | exact mo4 hM | exact mo5 hM | exact mo9 hM | exact mo10 hM | exact mo11 hM | exact mo12 hM | exact mo13 hM | exact mo14 hM | exact mo15 hM | exact mo16 hM) (by rfl) ?_
  refine go_bipush (v := 8) (pc := 25) dX8_swaps_25 (by decide) ?_
  refine go_iload_n (pc := 27) dX8_swaps_27 rfl ?_
  refine go_iadd (pc := 28) dX8_swaps_28 ?_
  refine go_iload_n (pc := 29) dX8_swaps_29 rfl ?_
  refine go_iadd (pc := 30) dX8_swaps_30 ?_
  refine go_aload_n (pc := 31) dX8_swaps_31 rfl ?_
  refine go_getf (pc := 32) f_X8_9 dX8_swaps_32 (by first | exact mo0 hM | exact mo1 hM | exact mo6 hM | exact mo7 hM | exact mo8 hM | exact mo2 hM | exact mo3 hM | exact mo4 hM | exact mo5 hM | exact mo9 hM | exact mo10 hM | exact mo11 hM | exact mo12 hM | exact mo13 hM | exact mo14 hM | exact mo15 hM | exact mo16 hM) (by rfl) ?_
  refine go_bipush (v := 8) (pc := 35) dX8_swaps_35 (by decide) ?_
  refine go_iload_n (pc := 37) dX8_swaps_37 rfl ?_
  refine go_iadd (pc := 38) dX8_swaps_38 ?_
  refine go_iload_n (pc := 39) dX8_swaps_39 rfl ?_
  refine go_iadd (pc := 40) dX8_swaps_40 ?_
  refine go_iald (pc := 41) dX8_swaps_41 (by first | exact mo0 hM | exact mo1 hM | exact mo6 hM | exact mo7 hM | exact mo8 hM | exact mo2 hM | exact mo3 hM | exact mo4 hM | exact mo5 hM | exact mo9 hM | exact mo10 hM | exact mo11 hM | exact mo12 hM | exact mo13 hM | exact mo14 hM | exact mo15 hM | exact mo16 hM) (by exact ⟨sw_ix8, by omega⟩) ?_
  refine go_mstK (pc := 42) hM dX8_swaps_42 (by exact ⟨sw_ix8, by omega⟩) (fun σ hM hf9 => ?_)
  have hf := hf.tr hf9
  refine go_aload_n (pc := 43) dX8_swaps_43 rfl ?_
  refine go_getf (pc := 44) f_X8_9 dX8_swaps_44 (by first | exact mo0 hM | exact mo1 hM | exact mo6 hM | exact mo7 hM | exact mo8 hM | exact mo2 hM | exact mo3 hM | exact mo4 hM | exact mo5 hM | exact mo9 hM | exact mo10 hM | exact mo11 hM | exact mo12 hM | exact mo13 hM | exact mo14 hM | exact mo15 hM | exact mo16 hM) (by rfl) ?_
  refine go_bipush (v := 8) (pc := 47) dX8_swaps_47 (by decide) ?_
  refine go_iload_n (pc := 49) dX8_swaps_49 rfl ?_
  refine go_iadd (pc := 50) dX8_swaps_50 ?_
  refine go_iload_n (pc := 51) dX8_swaps_51 rfl ?_
  refine go_iadd (pc := 52) dX8_swaps_52 ?_
  refine go_iload (pc := 53) dX8_swaps_53 rfl ?_
  refine go_mstK (pc := 55) hM dX8_swaps_55 (by exact ⟨sw_ix8, by omega⟩) (fun σ hM hf9 => ?_)
  have hf := hf.tr hf9
  refine go_iinc (v := 8) (lw := [_, _, _, _, _]) (pc := 56) dX8_swaps_56 rfl (by decide) (by decide) rfl ?_
  refine go_goto (tgt := 2) (pc := 59) dX8_swaps_59 (by decide) ?_
  rw [show (8 : Int32) + 8 = 16 by decide]
  refine go_iload_n (pc := 2) dX8_swaps_2 rfl ?_
  refine go_bipush (v := 9) (pc := 3) dX8_swaps_3 (by decide) ?_
  refine go_icmp_ge (tgt := 62) (pc := 5) dX8_swaps_5 (by decide) (fun h_5 => ?_) (fun h_5 => by exfalso; exact h_5 (by decide))
  exact go_vretV (pc := 62) rfl dX8_swaps_62 (Nat.le_of_ble_eq_true rfl) (Nat.le_of_ble_eq_true rfl) ⟨rfl, A, (by have e : (_ : row) = swapK K p q := swap_eq hp hq; exact e ▸ hM), eqx.rf, hf⟩
theorem sp_rises {Γ : gam} {σ : sto} {n k r : Nat} {F K : row} {A : Nat → row} {Nm : Nat → Int64} (hM : MoAt Γ σ r F K A Nm) (hk : 6 ≤ k) (hB : okB K) (hv : vS K) {p : Nat} (hp : p < kP K) (hu : K (16 + p) ≠ -1) (s : Int32) : Sp Γ (rmk k 0 0) uX8_rises [.ref r, .int (nI p), .int s] σ n (qI fun v σ' n' => v = nI (riseK K p s).2 ∧ moJ Γ r F (riseK K p s).1 A Nm σ n [6, 7] σ' n') := by
  have hH5 := hB.1.2.2.2.1
  have hP8 := hB.1.2.1
  obtain ⟨w0, hw0, hw⟩ := (hv p hp).2.resolve_left hu
  have hw1 : (K (16 + p)).toNatClampNeg = w0 := by rw [hw, nI_clamp (by omega)]
  have hf : fr r (r + 16) σ σ := fr.rf
  have hA : eqx [6, 7] A A := eqx.rf
  have hB0 : sameB K (upd (upd K (16 + p) (-1)) (24 + p) s) := (sameB.rf.up (by omega)).up (by omega)
  obtain ⟨c, hc⟩ : ∃ c, c = K (8 + p) := ⟨_, rfl⟩
  have key : ∀ (m fre : Nat), fre + m = kH K → fre < kH K → ∀ (K9 : row) (A9 : Nat → row) (x7 : Option Value) (cnt : Nat) (s9 : sto), MoAt Γ s9 r F K9 A9 Nm → eqx [6, 7] A A9 → fr r (r + 16) σ s9 → sameB K K9 → fwd c (kH K - (fre + 1)) (fre + 1) fre K9 cnt = riseK K p s → Go Γ (rmk k 0 0) uX8_rises (qI fun v σ' n' => v = nI (riseK K p s).2 ∧ moJ Γ r F (riseK K p s).1 A Nm σ n [6, 7] σ' n') 0 0 53 [some (.ref r), some (.int (nI p)), some (.int s), some (.int c), some (.int (nI fre)), some (.int (nI cnt)), some (.int (whoC K9 c fre (fre + 1) (kH K - (fre + 1)))), x7] [] s9 n := by
    intro m
    induction m using Nat.strongRecOn with
    | _ m ih =>
      intro fre hm hfre K9 A9 x7 cnt σ hM hA hf hB9 hR
      have hB := hB9.okB hB
      have eH := hB9.H
      have eP := hB9.P
      cases hn : fnd (comes K9 c fre) (fre + 1) (kH K - (fre + 1)) with
      | none =>
        have ew : whoC K9 c fre (fre + 1) (kH K - (fre + 1)) = -1 := by simp [whoC, hn]
        rw [ew]
        refine go_iload (pc := 53) dX8_rises_53 rfl ?_
        refine go_iconst (v := -1) (pc := 55) dX8_rises_55 (by decide) ?_
        refine go_icmp_eq (tgt := 102) (pc := 56) dX8_rises_56 (by decide) (fun h_56 => ?_) (fun h_56 => by exfalso; exact h_56 rfl)
        refine go_iload (pc := 102) dX8_rises_102 rfl ?_
        exact go_iretI (pc := 104) rfl dX8_rises_104 (Nat.le_of_ble_eq_true rfl) (Nat.le_of_ble_eq_true rfl) ⟨(by rw [← hR, fwd_none hn]), rfl, A9, (by rw [← hR, fwd_none hn]; exact hM), hA, hf⟩
      | some q0 =>
        obtain ⟨g1, g2, g3⟩ := fnd_lt hn
        cases hs : sitK K9 c (nI q0) with
        | none => simp [comes, hs] at g3
        | some q =>
          obtain ⟨j1, j2, j3, j4⟩ := sitK_lt hs
          have ew : whoC K9 c fre (fre + 1) (kH K - (fre + 1)) = nI q := by simp [whoC, hn, hs, oI]
          rw [ew]
          have hB1 : sameB K9 (upd K9 (16 + q) (nI fre)) := sameB.rf.up (by omega)
          refine go_iload (pc := 53) dX8_rises_53 rfl ?_
          refine go_iconst (v := -1) (pc := 55) dX8_rises_55 (by decide) ?_
          refine go_icmp_eq (tgt := 102) (pc := 56) dX8_rises_56 (by decide) (fun h_56 => by exfalso; exact absurd h_56 (nI_ne1 (by omega))) (fun h_56 => ?_)
          refine go_aload_n (pc := 59) dX8_rises_59 rfl ?_
          refine go_getf (pc := 60) f_X8_9 dX8_rises_60 (by first | exact mo0 hM | exact mo1 hM | exact mo6 hM | exact mo7 hM | exact mo8 hM | exact mo2 hM | exact mo3 hM | exact mo4 hM | exact mo5 hM | exact mo9 hM | exact mo10 hM | exact mo11 hM | exact mo12 hM | exact mo13 hM | exact mo14 hM | exact mo15 hM | exact mo16 hM) (by rfl) ?_
          refine go_bipush (v := 16) (pc := 63) dX8_rises_63 (by decide) ?_
          refine go_iload (pc := 65) dX8_rises_65 rfl ?_
          refine go_iadd (pc := 67) dX8_rises_67 ?_
          refine go_iald (pc := 68) dX8_rises_68 (by first | exact mo0 hM | exact mo1 hM | exact mo6 hM | exact mo7 hM | exact mo8 hM | exact mo2 hM | exact mo3 hM | exact mo4 hM | exact mo5 hM | exact mo9 hM | exact mo10 hM | exact mo11 hM | exact mo12 hM | exact mo13 hM | exact mo14 hM | exact mo15 hM | exact mo16 hM) (by exact ⟨nI_add 16 _, by omega⟩) ?_
          rw [j2]
          refine go_istore (lw := [_, _, _, _, _, _, _, _]) (pc := 69) dX8_rises_69 (by decide) rfl ?_
          refine go_aload_n (pc := 71) dX8_rises_71 rfl ?_
          refine go_getf (pc := 72) f_X8_9 dX8_rises_72 (by first | exact mo0 hM | exact mo1 hM | exact mo6 hM | exact mo7 hM | exact mo8 hM | exact mo2 hM | exact mo3 hM | exact mo4 hM | exact mo5 hM | exact mo9 hM | exact mo10 hM | exact mo11 hM | exact mo12 hM | exact mo13 hM | exact mo14 hM | exact mo15 hM | exact mo16 hM) (by rfl) ?_
          refine go_bipush (v := 16) (pc := 75) dX8_rises_75 (by decide) ?_
          refine go_iload (pc := 77) dX8_rises_77 rfl ?_
          refine go_iadd (pc := 79) dX8_rises_79 ?_
          refine go_iload (pc := 80) dX8_rises_80 rfl ?_
          refine go_mstK (pc := 82) hM dX8_rises_82 (by exact ⟨nI_add 16 _, by omega⟩) (fun σ hM hf9 => ?_)
          have hf := hf.tr hf9
          refine go_iload (pc := 83) dX8_rises_83 rfl ?_
          refine go_istore (lw := [_, _, _, _, _, _, _, _]) (pc := 85) dX8_rises_85 (by decide) rfl ?_
          refine go_iinc (v := 1) (lw := [_, _, _, _, _, _, _, _]) (pc := 87) dX8_rises_87 rfl (by decide) (by decide) rfl ?_
          refine go_aload_n (pc := 90) dX8_rises_90 rfl ?_
          refine go_iload_n (pc := 91) dX8_rises_91 rfl ?_
          refine go_iload (pc := 92) dX8_rises_92 rfl ?_
          refine go_V2I (pc := 94) v_X8_290 rfl rfl (rcv_of (ci := 8) (by first | exact mo0 hM | exact mo1 hM | exact mo6 hM | exact mo7 hM | exact mo8 hM | exact mo2 hM | exact mo3 hM | exact mo4 hM | exact mo5 hM | exact mo9 hM | exact mo10 hM | exact mo11 hM | exact mo12 hM | exact mo13 hM | exact mo14 hM | exact mo15 hM | exact mo16 hM) rfl) dX8_rises_94 (sp_comer (k := k - 1) hM (by omega) (hB1.okB hB) _ (by rw [hB1.H, eH]; omega)) (fun v_94 σ n h => ?_)
          obtain ⟨rfl, rfl, A1, hM, hA1, hf1⟩ := h
          have hA := eqx.tr (L := [6, 7]) (by repeat (first | assumption | exact eqx.rf | refine eqx.up ?_ (by decide))) (hA1.wk (by decide))
          have hf := hf.tr hf1
          refine go_istore (lw := [_, _, _, _, _, _, _, _]) (pc := 97) dX8_rises_97 (by decide) rfl ?_
          refine go_goto (tgt := 53) (pc := 99) dX8_rises_99 (by decide) ?_
          rw [nI_1, show kH (upd K9 (16 + q) (nI fre)) = kH K from hB1.H.trans eH]
          exact ih (kH K - q0) (by omega) q0 (by omega) (by omega) _ _ _ _ _ hM hA hf (hB9.tr hB1) (by rw [← hR, fwd_some hn hs, show fre + 1 + (kH K - (fre + 1)) - (q0 + 1) = kH K - (q0 + 1) by omega])
  refine sp_intro [some (.ref r), some (.int (nI p)), some (.int s), none, none, none, none, none] (by decide +kernel) rfl (Nat.le_of_ble_eq_true rfl) rfl ?_
  refine go_aload_n (pc := 0) dX8_rises_0 rfl ?_
  refine go_getf (pc := 1) f_X8_9 dX8_rises_1 (by first | exact mo0 hM | exact mo1 hM | exact mo6 hM | exact mo7 hM | exact mo8 hM | exact mo2 hM | exact mo3 hM | exact mo4 hM | exact mo5 hM | exact mo9 hM | exact mo10 hM | exact mo11 hM | exact mo12 hM | exact mo13 hM | exact mo14 hM | exact mo15 hM | exact mo16 hM) (by rfl) ?_
  refine go_bipush (v := 8) (pc := 4) dX8_rises_4 (by decide) ?_
  refine go_iload_n (pc := 6) dX8_rises_6 rfl ?_
  refine go_iadd (pc := 7) dX8_rises_7 ?_
  refine go_iald (pc := 8) dX8_rises_8 (by first | exact mo0 hM | exact mo1 hM | exact mo6 hM | exact mo7 hM | exact mo8 hM | exact mo2 hM | exact mo3 hM | exact mo4 hM | exact mo5 hM | exact mo9 hM | exact mo10 hM | exact mo11 hM | exact mo12 hM | exact mo13 hM | exact mo14 hM | exact mo15 hM | exact mo16 hM) (by exact ⟨nI_add 8 _, by omega⟩) ?_
  rw [← hc]
  refine go_istore_n (lw := [_, _, _, _, _, _, _, _]) (pc := 9) dX8_rises_9 (by decide) rfl ?_
  refine go_aload_n (pc := 10) dX8_rises_10 rfl ?_
  refine go_getf (pc := 11) f_X8_9 dX8_rises_11 (by first | exact mo0 hM | exact mo1 hM | exact mo6 hM | exact mo7 hM | exact mo8 hM | exact mo2 hM | exact mo3 hM | exact mo4 hM | exact mo5 hM | exact mo9 hM | exact mo10 hM | exact mo11 hM | exact mo12 hM | exact mo13 hM | exact mo14 hM | exact mo15 hM | exact mo16 hM) (by rfl) ?_
  refine go_bipush (v := 16) (pc := 14) dX8_rises_14 (by decide) ?_
  refine go_iload_n (pc := 16) dX8_rises_16 rfl ?_
  refine go_iadd (pc := 17) dX8_rises_17 ?_
  refine go_iald (pc := 18) dX8_rises_18 (by first | exact mo0 hM | exact mo1 hM | exact mo6 hM | exact mo7 hM | exact mo8 hM | exact mo2 hM | exact mo3 hM | exact mo4 hM | exact mo5 hM | exact mo9 hM | exact mo10 hM | exact mo11 hM | exact mo12 hM | exact mo13 hM | exact mo14 hM | exact mo15 hM | exact mo16 hM) (by exact ⟨nI_add 16 _, by omega⟩) ?_
  rw [hw]
  refine go_istore (lw := [_, _, _, _, _, _, _, _]) (pc := 19) dX8_rises_19 (by decide) rfl ?_
  refine go_aload_n (pc := 21) dX8_rises_21 rfl ?_
  refine go_getf (pc := 22) f_X8_9 dX8_rises_22 (by first | exact mo0 hM | exact mo1 hM | exact mo6 hM | exact mo7 hM | exact mo8 hM | exact mo2 hM | exact mo3 hM | exact mo4 hM | exact mo5 hM | exact mo9 hM | exact mo10 hM | exact mo11 hM | exact mo12 hM | exact mo13 hM | exact mo14 hM | exact mo15 hM | exact mo16 hM) (by rfl) ?_
  refine go_bipush (v := 16) (pc := 25) dX8_rises_25 (by decide) ?_
  refine go_iload_n (pc := 27) dX8_rises_27 rfl ?_
  refine go_iadd (pc := 28) dX8_rises_28 ?_
  refine go_iconst (v := -1) (pc := 29) dX8_rises_29 (by decide) ?_
  refine go_mstK (pc := 30) hM dX8_rises_30 (by exact ⟨nI_add 16 _, by omega⟩) (fun σ hM hf9 => ?_)
  have hf := hf.tr hf9
  refine go_aload_n (pc := 31) dX8_rises_31 rfl ?_
  refine go_getf (pc := 32) f_X8_9 dX8_rises_32 (by first | exact mo0 hM | exact mo1 hM | exact mo6 hM | exact mo7 hM | exact mo8 hM | exact mo2 hM | exact mo3 hM | exact mo4 hM | exact mo5 hM | exact mo9 hM | exact mo10 hM | exact mo11 hM | exact mo12 hM | exact mo13 hM | exact mo14 hM | exact mo15 hM | exact mo16 hM) (by rfl) ?_
  refine go_bipush (v := 24) (pc := 35) dX8_rises_35 (by decide) ?_
  refine go_iload_n (pc := 37) dX8_rises_37 rfl ?_
  refine go_iadd (pc := 38) dX8_rises_38 ?_
  refine go_iload_n (pc := 39) dX8_rises_39 rfl ?_
  refine go_mstK (pc := 40) hM dX8_rises_40 (by exact ⟨nI_add 24 _, by omega⟩) (fun σ hM hf9 => ?_)
  have hf := hf.tr hf9
  refine go_iconst (v := 0) (pc := 41) dX8_rises_41 (by decide) ?_
  refine go_istore (lw := [_, _, _, _, _, _, _, _]) (pc := 42) dX8_rises_42 (by decide) rfl ?_
  refine go_aload_n (pc := 44) dX8_rises_44 rfl ?_
  refine go_iload_n (pc := 45) dX8_rises_45 rfl ?_
  refine go_iload (pc := 46) dX8_rises_46 rfl ?_
  refine go_V2I (pc := 48) v_X8_290 rfl rfl (rcv_of (ci := 8) (by first | exact mo0 hM | exact mo1 hM | exact mo6 hM | exact mo7 hM | exact mo8 hM | exact mo2 hM | exact mo3 hM | exact mo4 hM | exact mo5 hM | exact mo9 hM | exact mo10 hM | exact mo11 hM | exact mo12 hM | exact mo13 hM | exact mo14 hM | exact mo15 hM | exact mo16 hM) rfl) dX8_rises_48 (sp_comer (k := k - 1) hM (by omega) (hB0.okB hB) _ (by rw [hB0.H]; exact hw0)) (fun v_48 σ n h => ?_)
  obtain ⟨rfl, rfl, A1, hM, hA1, hf1⟩ := h
  have hA := eqx.tr (L := [6, 7]) (by repeat (first | assumption | exact eqx.rf | refine eqx.up ?_ (by decide))) (hA1.wk (by decide))
  have hf := hf.tr hf1
  refine go_istore (lw := [_, _, _, _, _, _, _, _]) (pc := 51) dX8_rises_51 (by decide) rfl ?_
  rw [show kH (upd (upd K (16 + p) (-1)) (24 + p) s) = kH K from hB0.H]
  exact key (kH K - w0) w0 (by omega) hw0 _ _ none 0 _ hM hA hf hB0 (by simp only [riseK]; rw [hw1, hc])
