/-! ===== the law's own methods: a call, or which exception ===== -/
theorem lw_beach {Γ : gam} {z0 : sto} {n k x_q o_q C S : Nat} {fs : List Value} {p0_ : Int32} {X : Int32 → sto → Nat → Prop} {t_q : Int32} (hx_q : z0 x_q = some (cO 7 fs)) (sp : Sp Γ (rmk k C S) uX7_beach [.ref x_q, .int p0_] z0 n (qT (qI X) (fun x9_q σ' n' => exL [eIA] t_q x9_q ∧ σ' = z0 ∧ n ≤ n'))) (ho : ∀ v_q σ' n', X v_q σ' n' → ∃ fo, σ' o_q = some (cJ Γ 1 fo)) : Sp Γ (rmk (k + 1) C S) uL_beach [.ref x_q, .int p0_, .ref o_q] z0 n (qI fun r9 σ' n' => (r9 = 0 ∧ ∃ v_q σ1 fo, X v_q σ1 n' ∧ σ1 o_q = some (cJ Γ 1 fo) ∧ σ' = sup σ1 o_q (cJ Γ 1 (vp_updL fo 0 v_q.toInt64))) ∨ (r9 = t_q ∧ t_q ≠ 0 ∧ σ' = z0 ∧ n ≤ n')) := by
  refine sp_introH [some (.ref x_q), some (.int p0_), some (.ref o_q), none] (by decide +kernel) rfl (Nat.le_of_ble_eq_true rfl) rfl ?_
  refine go_aload_n (pc := 0) dL_beach_0 rfl ?_
  refine go_iconst (v := 0) (pc := 1) dL_beach_1 (by decide) ?_
  refine go_aload_n (pc := 2) dL_beach_2 rfl ?_
  refine go_iload_n (pc := 3) dL_beach_3 rfl ?_
  refine go_cvH (As := [.int p0_]) (rest := [.int 0, .ref o_q]) (R' := rmk k C S) (pc := 4) v_L_7 rfl rfl (rcv_of (ci := 7) hx_q rfl) dL_beach_4 sp (rm_ok (Nat.le_of_ble_eq_true rfl) (Nat.le_refl _)) ⟨by show 0 + C ≤ C; omega, by show 0 + S ≤ S; omega⟩ (Nat.le_of_ble_eq_true rfl) (fun r9 σ' n' h_q => ?_) (fun E9 σ' n' h_q => ?_)
  · rcases h_q with ⟨v_q, e_q, hX⟩ | ⟨y_q, e_q, -⟩
    · cases e_q
      obtain ⟨fo, ho9⟩ := ho _ _ _ hX
      show Go Γ (rmk (k + 1) C S) uL_beach _ (0 + C) (0 + S) 7 _ (.int v_q :: [.int 0, .ref o_q]) σ' n'
      refine go_i2l (pc := 7) dL_beach_7 ?_
      refine go_last (j := 0) (pc := 8) dL_beach_8 ho9 (by exact ⟨rfl, by decide⟩) ?_
      refine go_goto (tgt := 15) (pc := 9) dL_beach_9 (by decide) ?_
      refine go_iconst (v := 0) (pc := 15) dL_beach_15 (by decide) ?_
      exact go_iretI (pc := 16) rfl dL_beach_16 (by show 0 + C ≤ C; omega) (by show 0 + S ≤ S; omega) (Or.inl ⟨rfl, v_q, _, fo, hX, ho9, rfl⟩)
    · cases e_q
  · rcases h_q with ⟨v_q, e_q, -⟩ | ⟨y_q, e_q, ⟨i_q, ht_q, hL⟩, hs, hn⟩
    · cases e_q
    · cases e_q
      subst hs
      match i_q, ht_q, hL with
      | 0, ht_q, hL =>
        cases hL
        refine ⟨12, ⟨by decide, [], (0, 9, 12, 13), [], rfl, ⟨by decide, by decide⟩, by decide, kw2_186, rfl, fun y9 hy9 => absurd hy9 List.not_mem_nil⟩, fun q => ?_⟩
        refine go_astore_n (lw := [_, _, _, _]) (pc := 12) dL_beach_12 (by decide) rfl ?_
        refine go_iconst (v := 1) (pc := 13) dL_beach_13 (by decide) ?_
        exact go_iretI (pc := 14) rfl dL_beach_14 (by show 0 + C ≤ C; omega) (by show 0 + S ≤ S; omega) (Or.inr ⟨ht_q.symm, by rw [ht_q]; decide, rfl, hn⟩)
      | i_q + 1, ht_q, hL => simp at hL
theorem lw_chair {Γ : gam} {z0 : sto} {n k x_q o_q C S : Nat} {fs : List Value} {p0_ : Int32} {p1_ : Int32} {X : Int32 → sto → Nat → Prop} {t_q : Int32} (hx_q : z0 x_q = some (cO 7 fs)) (sp : Sp Γ (rmk k C S) uX7_chair [.ref x_q, .int p0_, .int p1_] z0 n (qT (qI X) (fun x9_q σ' n' => exL [eNS] t_q x9_q ∧ σ' = z0 ∧ n ≤ n'))) (ho : ∀ v_q σ' n', X v_q σ' n' → ∃ fo, σ' o_q = some (cJ Γ 1 fo)) : Sp Γ (rmk (k + 1) C S) uL_chair [.ref x_q, .int p0_, .int p1_, .ref o_q] z0 n (qI fun r9 σ' n' => (r9 = 0 ∧ ∃ v_q σ1 fo, X v_q σ1 n' ∧ σ1 o_q = some (cJ Γ 1 fo) ∧ σ' = sup σ1 o_q (cJ Γ 1 (vp_updL fo 0 v_q.toInt64))) ∨ (r9 = t_q ∧ t_q ≠ 0 ∧ σ' = z0 ∧ n ≤ n')) := by
  refine sp_introH [some (.ref x_q), some (.int p0_), some (.int p1_), some (.ref o_q), none] (by decide +kernel) rfl (Nat.le_of_ble_eq_true rfl) rfl ?_
  refine go_aload_n (pc := 0) dL_chair_0 rfl ?_
  refine go_iconst (v := 0) (pc := 1) dL_chair_1 (by decide) ?_
  refine go_aload_n (pc := 2) dL_chair_2 rfl ?_
  refine go_iload_n (pc := 3) dL_chair_3 rfl ?_
  refine go_iload_n (pc := 4) dL_chair_4 rfl ?_
  refine go_cvH (As := [.int p0_, .int p1_]) (rest := [.int 0, .ref o_q]) (R' := rmk k C S) (pc := 5) v_L_15 rfl rfl (rcv_of (ci := 7) hx_q rfl) dL_chair_5 sp (rm_ok (Nat.le_of_ble_eq_true rfl) (Nat.le_refl _)) ⟨by show 0 + C ≤ C; omega, by show 0 + S ≤ S; omega⟩ (Nat.le_of_ble_eq_true rfl) (fun r9 σ' n' h_q => ?_) (fun E9 σ' n' h_q => ?_)
  · rcases h_q with ⟨v_q, e_q, hX⟩ | ⟨y_q, e_q, -⟩
    · cases e_q
      obtain ⟨fo, ho9⟩ := ho _ _ _ hX
      show Go Γ (rmk (k + 1) C S) uL_chair _ (0 + C) (0 + S) 8 _ (.int v_q :: [.int 0, .ref o_q]) σ' n'
      refine go_i2l (pc := 8) dL_chair_8 ?_
      refine go_last (j := 0) (pc := 9) dL_chair_9 ho9 (by exact ⟨rfl, by decide⟩) ?_
      refine go_goto (tgt := 17) (pc := 10) dL_chair_10 (by decide) ?_
      refine go_iconst (v := 0) (pc := 17) dL_chair_17 (by decide) ?_
      exact go_iretI (pc := 18) rfl dL_chair_18 (by show 0 + C ≤ C; omega) (by show 0 + S ≤ S; omega) (Or.inl ⟨rfl, v_q, _, fo, hX, ho9, rfl⟩)
    · cases e_q
  · rcases h_q with ⟨v_q, e_q, -⟩ | ⟨y_q, e_q, ⟨i_q, ht_q, hL⟩, hs, hn⟩
    · cases e_q
    · cases e_q
      subst hs
      match i_q, ht_q, hL with
      | 0, ht_q, hL =>
        cases hL
        refine ⟨13, ⟨by decide, [], (0, 10, 13, 19), [], rfl, ⟨by decide, by decide⟩, by decide, kw4_37, rfl, fun y9 hy9 => absurd hy9 List.not_mem_nil⟩, fun q => ?_⟩
        refine go_astore (lw := [_, _, _, _, _]) (pc := 13) dL_chair_13 (by decide) rfl ?_
        refine go_iconst (v := 1) (pc := 15) dL_chair_15 (by decide) ?_
        exact go_iretI (pc := 16) rfl dL_chair_16 (by show 0 + C ≤ C; omega) (by show 0 + S ≤ S; omega) (Or.inr ⟨ht_q.symm, by rw [ht_q]; decide, rfl, hn⟩)
      | i_q + 1, ht_q, hL => simp at hL
theorem lw_person {Γ : gam} {z0 : sto} {n k x_q o_q C S : Nat} {fs : List Value} {p0_ : Int32} {p1_ : Int32} {X : Int32 → sto → Nat → Prop} {t_q : Int32} (hx_q : z0 x_q = some (cO 7 fs)) (sp : Sp Γ (rmk k C S) uX7_person [.ref x_q, .int p0_, .int p1_] z0 n (qT (qI X) (fun x9_q σ' n' => exL [eNS, eIA] t_q x9_q ∧ σ' = z0 ∧ n ≤ n'))) (ho : ∀ v_q σ' n', X v_q σ' n' → ∃ fo, σ' o_q = some (cJ Γ 1 fo)) : Sp Γ (rmk (k + 1) C S) uL_person [.ref x_q, .int p0_, .int p1_, .ref o_q] z0 n (qI fun r9 σ' n' => (r9 = 0 ∧ ∃ v_q σ1 fo, X v_q σ1 n' ∧ σ1 o_q = some (cJ Γ 1 fo) ∧ σ' = sup σ1 o_q (cJ Γ 1 (vp_updL fo 0 v_q.toInt64))) ∨ (r9 = t_q ∧ t_q ≠ 0 ∧ σ' = z0 ∧ n ≤ n')) := by
  refine sp_introH [some (.ref x_q), some (.int p0_), some (.int p1_), some (.ref o_q), none] (by decide +kernel) rfl (Nat.le_of_ble_eq_true rfl) rfl ?_
  refine go_aload_n (pc := 0) dL_person_0 rfl ?_
  refine go_iconst (v := 0) (pc := 1) dL_person_1 (by decide) ?_
  refine go_aload_n (pc := 2) dL_person_2 rfl ?_
  refine go_iload_n (pc := 3) dL_person_3 rfl ?_
  refine go_iload_n (pc := 4) dL_person_4 rfl ?_
  refine go_cvH (As := [.int p0_, .int p1_]) (rest := [.int 0, .ref o_q]) (R' := rmk k C S) (pc := 5) v_L_21 rfl rfl (rcv_of (ci := 7) hx_q rfl) dL_person_5 sp (rm_ok (Nat.le_of_ble_eq_true rfl) (Nat.le_refl _)) ⟨by show 0 + C ≤ C; omega, by show 0 + S ≤ S; omega⟩ (Nat.le_of_ble_eq_true rfl) (fun r9 σ' n' h_q => ?_) (fun E9 σ' n' h_q => ?_)
  · rcases h_q with ⟨v_q, e_q, hX⟩ | ⟨y_q, e_q, -⟩
    · cases e_q
      obtain ⟨fo, ho9⟩ := ho _ _ _ hX
      show Go Γ (rmk (k + 1) C S) uL_person _ (0 + C) (0 + S) 8 _ (.int v_q :: [.int 0, .ref o_q]) σ' n'
      refine go_i2l (pc := 8) dL_person_8 ?_
      refine go_last (j := 0) (pc := 9) dL_person_9 ho9 (by exact ⟨rfl, by decide⟩) ?_
      refine go_goto (tgt := 21) (pc := 10) dL_person_10 (by decide) ?_
      refine go_iconst (v := 0) (pc := 21) dL_person_21 (by decide) ?_
      exact go_iretI (pc := 22) rfl dL_person_22 (by show 0 + C ≤ C; omega) (by show 0 + S ≤ S; omega) (Or.inl ⟨rfl, v_q, _, fo, hX, ho9, rfl⟩)
    · cases e_q
  · rcases h_q with ⟨v_q, e_q, -⟩ | ⟨y_q, e_q, ⟨i_q, ht_q, hL⟩, hs, hn⟩
    · cases e_q
    · cases e_q
      subst hs
      match i_q, ht_q, hL with
      | 0, ht_q, hL =>
        cases hL
        refine ⟨13, ⟨by decide, [], (0, 10, 13, 19), [(0, 10, 17, 13)], rfl, ⟨by decide, by decide⟩, by decide, kw4_37, rfl, fun y9 hy9 => absurd hy9 List.not_mem_nil⟩, fun q => ?_⟩
        refine go_astore (lw := [_, _, _, _, _]) (pc := 13) dL_person_13 (by decide) rfl ?_
        refine go_iconst (v := 1) (pc := 15) dL_person_15 (by decide) ?_
        exact go_iretI (pc := 16) rfl dL_person_16 (by show 0 + C ≤ C; omega) (by show 0 + S ≤ S; omega) (Or.inr ⟨ht_q.symm, by rw [ht_q]; decide, rfl, hn⟩)
      | 1, ht_q, hL =>
        cases hL
        refine ⟨17, ⟨by decide, [(0, 10, 13, 19)], (0, 10, 17, 13), [], rfl, ⟨by decide, by decide⟩, by decide, kw2_186, rfl, fun y9 hy9 => by simp only [List.mem_cons, List.not_mem_nil, or_false] at hy9; rcases hy9 with rfl; exact ⟨⟨by decide, by decide⟩, by decide, eNS, by decide, by decide, kw4_37⟩⟩, fun q => ?_⟩
        refine go_astore (lw := [_, _, _, _, _]) (pc := 17) dL_person_17 (by decide) rfl ?_
        refine go_iconst (v := 2) (pc := 19) dL_person_19 (by decide) ?_
        exact go_iretI (pc := 20) rfl dL_person_20 (by show 0 + C ≤ C; omega) (by show 0 + S ≤ S; omega) (Or.inr ⟨ht_q.symm, by rw [ht_q]; decide, rfl, hn⟩)
      | i_q + 2, ht_q, hL => simp at hL
theorem lw_tide {Γ : gam} {z0 : sto} {n k x_q o_q C S : Nat} {fs : List Value} {p0_ : Int32} {X : Int32 → sto → Nat → Prop} {t_q : Int32} (hx_q : z0 x_q = some (cO 7 fs)) (sp : Sp Γ (rmk k C S) uX7_tide [.ref x_q, .int p0_] z0 n (qT (qI X) (fun x9_q σ' n' => exL [eIA] t_q x9_q ∧ σ' = z0 ∧ n ≤ n'))) (ho : ∀ v_q σ' n', X v_q σ' n' → ∃ fo, σ' o_q = some (cJ Γ 1 fo)) : Sp Γ (rmk (k + 1) C S) uL_tide [.ref x_q, .int p0_, .ref o_q] z0 n (qI fun r9 σ' n' => (r9 = 0 ∧ ∃ v_q σ1 fo, X v_q σ1 n' ∧ σ1 o_q = some (cJ Γ 1 fo) ∧ σ' = sup σ1 o_q (cJ Γ 1 (vp_updL fo 0 v_q.toInt64))) ∨ (r9 = t_q ∧ t_q ≠ 0 ∧ σ' = z0 ∧ n ≤ n')) := by
  refine sp_introH [some (.ref x_q), some (.int p0_), some (.ref o_q), none] (by decide +kernel) rfl (Nat.le_of_ble_eq_true rfl) rfl ?_
  refine go_aload_n (pc := 0) dL_tide_0 rfl ?_
  refine go_iconst (v := 0) (pc := 1) dL_tide_1 (by decide) ?_
  refine go_aload_n (pc := 2) dL_tide_2 rfl ?_
  refine go_iload_n (pc := 3) dL_tide_3 rfl ?_
  refine go_cvH (As := [.int p0_]) (rest := [.int 0, .ref o_q]) (R' := rmk k C S) (pc := 4) v_L_24 rfl rfl (rcv_of (ci := 7) hx_q rfl) dL_tide_4 sp (rm_ok (Nat.le_of_ble_eq_true rfl) (Nat.le_refl _)) ⟨by show 0 + C ≤ C; omega, by show 0 + S ≤ S; omega⟩ (Nat.le_of_ble_eq_true rfl) (fun r9 σ' n' h_q => ?_) (fun E9 σ' n' h_q => ?_)
  · rcases h_q with ⟨v_q, e_q, hX⟩ | ⟨y_q, e_q, -⟩
    · cases e_q
      obtain ⟨fo, ho9⟩ := ho _ _ _ hX
      show Go Γ (rmk (k + 1) C S) uL_tide _ (0 + C) (0 + S) 7 _ (.int v_q :: [.int 0, .ref o_q]) σ' n'
      refine go_i2l (pc := 7) dL_tide_7 ?_
      refine go_last (j := 0) (pc := 8) dL_tide_8 ho9 (by exact ⟨rfl, by decide⟩) ?_
      refine go_goto (tgt := 15) (pc := 9) dL_tide_9 (by decide) ?_
      refine go_iconst (v := 0) (pc := 15) dL_tide_15 (by decide) ?_
      exact go_iretI (pc := 16) rfl dL_tide_16 (by show 0 + C ≤ C; omega) (by show 0 + S ≤ S; omega) (Or.inl ⟨rfl, v_q, _, fo, hX, ho9, rfl⟩)
    · cases e_q
  · rcases h_q with ⟨v_q, e_q, -⟩ | ⟨y_q, e_q, ⟨i_q, ht_q, hL⟩, hs, hn⟩
    · cases e_q
    · cases e_q
      subst hs
      match i_q, ht_q, hL with
      | 0, ht_q, hL =>
        cases hL
        refine ⟨12, ⟨by decide, [], (0, 9, 12, 13), [], rfl, ⟨by decide, by decide⟩, by decide, kw2_186, rfl, fun y9 hy9 => absurd hy9 List.not_mem_nil⟩, fun q => ?_⟩
        refine go_astore_n (lw := [_, _, _, _]) (pc := 12) dL_tide_12 (by decide) rfl ?_
        refine go_iconst (v := 1) (pc := 13) dL_tide_13 (by decide) ?_
        exact go_iretI (pc := 14) rfl dL_tide_14 (by show 0 + C ≤ C; omega) (by show 0 + S ≤ S; omega) (Or.inr ⟨ht_q.symm, by rw [ht_q]; decide, rfl, hn⟩)
      | i_q + 1, ht_q, hL => simp at hL
theorem lw_moves {Γ : gam} {z0 : sto} {n k x_q o_q C S : Nat} {fs : List Value} {p0_ : Int32} {p1_ : Int32} {p2_ : Int32} {X : Int32 → sto → Nat → Prop} {t_q : Int32} (hx_q : z0 x_q = some (cO 7 fs)) (sp : Sp Γ (rmk k C S) uX7_moves [.ref x_q, .int p0_, .int p1_, .int p2_] z0 n (qT (qI X) (fun x9_q σ' n' => exL [eNS] t_q x9_q ∧ σ' = z0 ∧ n ≤ n'))) (ho : ∀ v_q σ' n', X v_q σ' n' → ∃ fo, σ' o_q = some (cJ Γ 1 fo)) : Sp Γ (rmk (k + 1) C S) uL_moves [.ref x_q, .int p0_, .int p1_, .int p2_, .ref o_q] z0 n (qI fun r9 σ' n' => (r9 = 0 ∧ ∃ v_q σ1 fo, X v_q σ1 n' ∧ σ1 o_q = some (cJ Γ 1 fo) ∧ σ' = sup σ1 o_q (cJ Γ 1 (vp_updL fo 0 (if v_q = 0 then 0 else 1)))) ∨ (r9 = t_q ∧ t_q ≠ 0 ∧ σ' = z0 ∧ n ≤ n')) := by
  refine sp_introH [some (.ref x_q), some (.int p0_), some (.int p1_), some (.int p2_), some (.ref o_q), none] (by decide +kernel) rfl (Nat.le_of_ble_eq_true rfl) rfl ?_
  refine go_aload (pc := 0) dL_moves_0 rfl ?_
  refine go_iconst (v := 0) (pc := 2) dL_moves_2 (by decide) ?_
  refine go_aload_n (pc := 3) dL_moves_3 rfl ?_
  refine go_iload_n (pc := 4) dL_moves_4 rfl ?_
  refine go_iload_n (pc := 5) dL_moves_5 rfl ?_
  refine go_iload_n (pc := 6) dL_moves_6 rfl ?_
  refine go_cvH (As := [.int p0_, .int p1_, .int p2_]) (rest := [.int 0, .ref o_q]) (R' := rmk k C S) (pc := 7) v_L_27 rfl rfl (rcv_of (ci := 7) hx_q rfl) dL_moves_7 sp (rm_ok (Nat.le_of_ble_eq_true rfl) (Nat.le_refl _)) ⟨by show 0 + C ≤ C; omega, by show 0 + S ≤ S; omega⟩ (Nat.le_of_ble_eq_true rfl) (fun r9 σ' n' h_q => ?_) (fun E9 σ' n' h_q => ?_)
  · rcases h_q with ⟨v_q, e_q, hX⟩ | ⟨y_q, e_q, -⟩
    · cases e_q
      obtain ⟨fo, ho9⟩ := ho _ _ _ hX
      show Go Γ (rmk (k + 1) C S) uL_moves _ (0 + C) (0 + S) 10 _ (.int v_q :: [.int 0, .ref o_q]) σ' n'
      refine go_if_eq (tgt := 17) (pc := 10) dL_moves_10 (by decide) (fun h_10 => ?_) (fun h_10 => ?_)
      · refine go_lconst (v := 0) (pc := 17) dL_moves_17 rfl ?_
        refine go_last (j := 0) (pc := 18) dL_moves_18 ho9 (by exact ⟨rfl, by decide⟩) ?_
        refine go_goto (tgt := 26) (pc := 19) dL_moves_19 (by decide) ?_
        refine go_iconst (v := 0) (pc := 26) dL_moves_26 (by decide) ?_
        exact go_iretI (pc := 27) rfl dL_moves_27 (by show 0 + C ≤ C; omega) (by show 0 + S ≤ S; omega) (by first | (have g_q : v_q = 0 := h_10; exact Or.inl ⟨rfl, v_q, _, fo, hX, ho9, (by rw [if_pos g_q])⟩) | (have g_q : ¬ v_q = 0 := h_10; exact Or.inl ⟨rfl, v_q, _, fo, hX, ho9, (by rw [if_neg g_q])⟩))
      · refine go_lconst (v := 1) (pc := 13) dL_moves_13 rfl ?_
        refine go_goto (tgt := 18) (pc := 14) dL_moves_14 (by decide) ?_
        refine go_last (j := 0) (pc := 18) dL_moves_18 ho9 (by exact ⟨rfl, by decide⟩) ?_
        refine go_goto (tgt := 26) (pc := 19) dL_moves_19 (by decide) ?_
        refine go_iconst (v := 0) (pc := 26) dL_moves_26 (by decide) ?_
        exact go_iretI (pc := 27) rfl dL_moves_27 (by show 0 + C ≤ C; omega) (by show 0 + S ≤ S; omega) (by first | (have g_q : v_q = 0 := h_10; exact Or.inl ⟨rfl, v_q, _, fo, hX, ho9, (by rw [if_pos g_q])⟩) | (have g_q : ¬ v_q = 0 := h_10; exact Or.inl ⟨rfl, v_q, _, fo, hX, ho9, (by rw [if_neg g_q])⟩))
    · cases e_q
  · rcases h_q with ⟨v_q, e_q, -⟩ | ⟨y_q, e_q, ⟨i_q, ht_q, hL⟩, hs, hn⟩
    · cases e_q
    · cases e_q
      subst hs
      match i_q, ht_q, hL with
      | 0, ht_q, hL =>
        cases hL
        refine ⟨22, ⟨by decide, [], (0, 19, 22, 19), [], rfl, ⟨by decide, by decide⟩, by decide, kw4_37, rfl, fun y9 hy9 => absurd hy9 List.not_mem_nil⟩, fun q => ?_⟩
        refine go_astore (lw := [_, _, _, _, _, _]) (pc := 22) dL_moves_22 (by decide) rfl ?_
        refine go_iconst (v := 1) (pc := 24) dL_moves_24 (by decide) ?_
        exact go_iretI (pc := 25) rfl dL_moves_25 (by show 0 + C ≤ C; omega) (by show 0 + S ≤ S; omega) (Or.inr ⟨ht_q.symm, by rw [ht_q]; decide, rfl, hn⟩)
      | i_q + 1, ht_q, hL => simp at hL
theorem lw_wets {Γ : gam} {z0 : sto} {n k x_q o_q C S : Nat} {fs : List Value} {p0_ : Int32} {p1_ : Int32} {p2_ : Int32} {X : Int32 → sto → Nat → Prop} {t_q : Int32} (hx_q : z0 x_q = some (cO 7 fs)) (sp : Sp Γ (rmk k C S) uX7_wets [.ref x_q, .int p0_, .int p1_, .int p2_] z0 n (qT (qI X) (fun x9_q σ' n' => exL [eNS, eIA] t_q x9_q ∧ σ' = z0 ∧ n ≤ n'))) (ho : ∀ v_q σ' n', X v_q σ' n' → ∃ fo, σ' o_q = some (cJ Γ 1 fo)) : Sp Γ (rmk (k + 1) C S) uL_wets [.ref x_q, .int p0_, .int p1_, .int p2_, .ref o_q] z0 n (qI fun r9 σ' n' => (r9 = 0 ∧ ∃ v_q σ1 fo, X v_q σ1 n' ∧ σ1 o_q = some (cJ Γ 1 fo) ∧ σ' = sup σ1 o_q (cJ Γ 1 (vp_updL fo 0 v_q.toInt64))) ∨ (r9 = t_q ∧ t_q ≠ 0 ∧ σ' = z0 ∧ n ≤ n')) := by
  refine sp_introH [some (.ref x_q), some (.int p0_), some (.int p1_), some (.int p2_), some (.ref o_q), none] (by decide +kernel) rfl (Nat.le_of_ble_eq_true rfl) rfl ?_
  refine go_aload (pc := 0) dL_wets_0 rfl ?_
  refine go_iconst (v := 0) (pc := 2) dL_wets_2 (by decide) ?_
  refine go_aload_n (pc := 3) dL_wets_3 rfl ?_
  refine go_iload_n (pc := 4) dL_wets_4 rfl ?_
  refine go_iload_n (pc := 5) dL_wets_5 rfl ?_
  refine go_iload_n (pc := 6) dL_wets_6 rfl ?_
  refine go_cvH (As := [.int p0_, .int p1_, .int p2_]) (rest := [.int 0, .ref o_q]) (R' := rmk k C S) (pc := 7) v_L_31 rfl rfl (rcv_of (ci := 7) hx_q rfl) dL_wets_7 sp (rm_ok (Nat.le_of_ble_eq_true rfl) (Nat.le_refl _)) ⟨by show 0 + C ≤ C; omega, by show 0 + S ≤ S; omega⟩ (Nat.le_of_ble_eq_true rfl) (fun r9 σ' n' h_q => ?_) (fun E9 σ' n' h_q => ?_)
  · rcases h_q with ⟨v_q, e_q, hX⟩ | ⟨y_q, e_q, -⟩
    · cases e_q
      obtain ⟨fo, ho9⟩ := ho _ _ _ hX
      show Go Γ (rmk (k + 1) C S) uL_wets _ (0 + C) (0 + S) 10 _ (.int v_q :: [.int 0, .ref o_q]) σ' n'
      refine go_i2l (pc := 10) dL_wets_10 ?_
      refine go_last (j := 0) (pc := 11) dL_wets_11 ho9 (by exact ⟨rfl, by decide⟩) ?_
      refine go_goto (tgt := 23) (pc := 12) dL_wets_12 (by decide) ?_
      refine go_iconst (v := 0) (pc := 23) dL_wets_23 (by decide) ?_
      exact go_iretI (pc := 24) rfl dL_wets_24 (by show 0 + C ≤ C; omega) (by show 0 + S ≤ S; omega) (Or.inl ⟨rfl, v_q, _, fo, hX, ho9, rfl⟩)
    · cases e_q
  · rcases h_q with ⟨v_q, e_q, -⟩ | ⟨y_q, e_q, ⟨i_q, ht_q, hL⟩, hs, hn⟩
    · cases e_q
    · cases e_q
      subst hs
      match i_q, ht_q, hL with
      | 0, ht_q, hL =>
        cases hL
        refine ⟨15, ⟨by decide, [], (0, 12, 15, 19), [(0, 12, 19, 13)], rfl, ⟨by decide, by decide⟩, by decide, kw4_37, rfl, fun y9 hy9 => absurd hy9 List.not_mem_nil⟩, fun q => ?_⟩
        refine go_astore (lw := [_, _, _, _, _, _]) (pc := 15) dL_wets_15 (by decide) rfl ?_
        refine go_iconst (v := 1) (pc := 17) dL_wets_17 (by decide) ?_
        exact go_iretI (pc := 18) rfl dL_wets_18 (by show 0 + C ≤ C; omega) (by show 0 + S ≤ S; omega) (Or.inr ⟨ht_q.symm, by rw [ht_q]; decide, rfl, hn⟩)
      | 1, ht_q, hL =>
        cases hL
        refine ⟨19, ⟨by decide, [(0, 12, 15, 19)], (0, 12, 19, 13), [], rfl, ⟨by decide, by decide⟩, by decide, kw2_186, rfl, fun y9 hy9 => by simp only [List.mem_cons, List.not_mem_nil, or_false] at hy9; rcases hy9 with rfl; exact ⟨⟨by decide, by decide⟩, by decide, eNS, by decide, by decide, kw4_37⟩⟩, fun q => ?_⟩
        refine go_astore (lw := [_, _, _, _, _, _]) (pc := 19) dL_wets_19 (by decide) rfl ?_
        refine go_iconst (v := 2) (pc := 21) dL_wets_21 (by decide) ?_
        exact go_iretI (pc := 22) rfl dL_wets_22 (by show 0 + C ≤ C; omega) (by show 0 + S ≤ S; omega) (Or.inr ⟨ht_q.symm, by rw [ht_q]; decide, rfl, hn⟩)
      | i_q + 2, ht_q, hL => simp at hL
theorem lw_minutes {Γ : gam} {z0 : sto} {n k x_q o_q C S : Nat} {fs : List Value} {p0_ : Int32} {X : Int32 → sto → Nat → Prop} {t_q : Int32} (hx_q : z0 x_q = some (cO 7 fs)) (sp : Sp Γ (rmk k C S) uX7_minutes [.ref x_q, .int p0_] z0 n (qT (qI X) (fun x9_q σ' n' => exL [eIA] t_q x9_q ∧ σ' = z0 ∧ n ≤ n'))) (ho : ∀ v_q σ' n', X v_q σ' n' → ∃ fo, σ' o_q = some (cJ Γ 1 fo)) : Sp Γ (rmk (k + 1) C S) uL_minutes [.ref x_q, .int p0_, .ref o_q] z0 n (qI fun r9 σ' n' => (r9 = 0 ∧ ∃ v_q σ1 fo, X v_q σ1 n' ∧ σ1 o_q = some (cJ Γ 1 fo) ∧ σ' = sup σ1 o_q (cJ Γ 1 (vp_updL fo 0 v_q.toInt64))) ∨ (r9 = t_q ∧ t_q ≠ 0 ∧ σ' = z0 ∧ n ≤ n')) := by
  refine sp_introH [some (.ref x_q), some (.int p0_), some (.ref o_q), none] (by decide +kernel) rfl (Nat.le_of_ble_eq_true rfl) rfl ?_
  refine go_aload_n (pc := 0) dL_minutes_0 rfl ?_
  refine go_iconst (v := 0) (pc := 1) dL_minutes_1 (by decide) ?_
  refine go_aload_n (pc := 2) dL_minutes_2 rfl ?_
  refine go_iload_n (pc := 3) dL_minutes_3 rfl ?_
  refine go_cvH (As := [.int p0_]) (rest := [.int 0, .ref o_q]) (R' := rmk k C S) (pc := 4) v_L_35 rfl rfl (rcv_of (ci := 7) hx_q rfl) dL_minutes_4 sp (rm_ok (Nat.le_of_ble_eq_true rfl) (Nat.le_refl _)) ⟨by show 0 + C ≤ C; omega, by show 0 + S ≤ S; omega⟩ (Nat.le_of_ble_eq_true rfl) (fun r9 σ' n' h_q => ?_) (fun E9 σ' n' h_q => ?_)
  · rcases h_q with ⟨v_q, e_q, hX⟩ | ⟨y_q, e_q, -⟩
    · cases e_q
      obtain ⟨fo, ho9⟩ := ho _ _ _ hX
      show Go Γ (rmk (k + 1) C S) uL_minutes _ (0 + C) (0 + S) 7 _ (.int v_q :: [.int 0, .ref o_q]) σ' n'
      refine go_i2l (pc := 7) dL_minutes_7 ?_
      refine go_last (j := 0) (pc := 8) dL_minutes_8 ho9 (by exact ⟨rfl, by decide⟩) ?_
      refine go_goto (tgt := 15) (pc := 9) dL_minutes_9 (by decide) ?_
      refine go_iconst (v := 0) (pc := 15) dL_minutes_15 (by decide) ?_
      exact go_iretI (pc := 16) rfl dL_minutes_16 (by show 0 + C ≤ C; omega) (by show 0 + S ≤ S; omega) (Or.inl ⟨rfl, v_q, _, fo, hX, ho9, rfl⟩)
    · cases e_q
  · rcases h_q with ⟨v_q, e_q, -⟩ | ⟨y_q, e_q, ⟨i_q, ht_q, hL⟩, hs, hn⟩
    · cases e_q
    · cases e_q
      subst hs
      match i_q, ht_q, hL with
      | 0, ht_q, hL =>
        cases hL
        refine ⟨12, ⟨by decide, [], (0, 9, 12, 13), [], rfl, ⟨by decide, by decide⟩, by decide, kw2_186, rfl, fun y9 hy9 => absurd hy9 List.not_mem_nil⟩, fun q => ?_⟩
        refine go_astore_n (lw := [_, _, _, _]) (pc := 12) dL_minutes_12 (by decide) rfl ?_
        refine go_iconst (v := 1) (pc := 13) dL_minutes_13 (by decide) ?_
        exact go_iretI (pc := 14) rfl dL_minutes_14 (by show 0 + C ≤ C; omega) (by show 0 + S ≤ S; omega) (Or.inr ⟨ht_q.symm, by rw [ht_q]; decide, rfl, hn⟩)
      | i_q + 1, ht_q, hL => simp at hL
theorem lw_undo {Γ : gam} {z0 : sto} {n k x_q o_q C S : Nat} {fs : List Value} {p0_ : Int32} {X : Int32 → sto → Nat → Prop} {t_q : Int32} (hx_q : z0 x_q = some (cO 7 fs)) (sp : Sp Γ (rmk k C S) uX7_undo [.ref x_q, .int p0_] z0 n (qT (qI X) (fun x9_q σ' n' => exL [eIA] t_q x9_q ∧ σ' = z0 ∧ n ≤ n'))) (ho : ∀ v_q σ' n', X v_q σ' n' → ∃ fo, σ' o_q = some (cJ Γ 1 fo)) : Sp Γ (rmk (k + 1) C S) uL_undo [.ref x_q, .int p0_, .ref o_q] z0 n (qI fun r9 σ' n' => (r9 = 0 ∧ ∃ v_q σ1 fo, X v_q σ1 n' ∧ σ1 o_q = some (cJ Γ 1 fo) ∧ σ' = sup σ1 o_q (cJ Γ 1 (vp_updL fo 0 v_q.toInt64))) ∨ (r9 = t_q ∧ t_q ≠ 0 ∧ σ' = z0 ∧ n ≤ n')) := by
  refine sp_introH [some (.ref x_q), some (.int p0_), some (.ref o_q), none] (by decide +kernel) rfl (Nat.le_of_ble_eq_true rfl) rfl ?_
  refine go_aload_n (pc := 0) dL_undo_0 rfl ?_
  refine go_iconst (v := 0) (pc := 1) dL_undo_1 (by decide) ?_
  refine go_aload_n (pc := 2) dL_undo_2 rfl ?_
  refine go_iload_n (pc := 3) dL_undo_3 rfl ?_
  refine go_cvH (As := [.int p0_]) (rest := [.int 0, .ref o_q]) (R' := rmk k C S) (pc := 4) v_L_38 rfl rfl (rcv_of (ci := 7) hx_q rfl) dL_undo_4 sp (rm_ok (Nat.le_of_ble_eq_true rfl) (Nat.le_refl _)) ⟨by show 0 + C ≤ C; omega, by show 0 + S ≤ S; omega⟩ (Nat.le_of_ble_eq_true rfl) (fun r9 σ' n' h_q => ?_) (fun E9 σ' n' h_q => ?_)
  · rcases h_q with ⟨v_q, e_q, hX⟩ | ⟨y_q, e_q, -⟩
    · cases e_q
      obtain ⟨fo, ho9⟩ := ho _ _ _ hX
      show Go Γ (rmk (k + 1) C S) uL_undo _ (0 + C) (0 + S) 7 _ (.int v_q :: [.int 0, .ref o_q]) σ' n'
      refine go_i2l (pc := 7) dL_undo_7 ?_
      refine go_last (j := 0) (pc := 8) dL_undo_8 ho9 (by exact ⟨rfl, by decide⟩) ?_
      refine go_goto (tgt := 15) (pc := 9) dL_undo_9 (by decide) ?_
      refine go_iconst (v := 0) (pc := 15) dL_undo_15 (by decide) ?_
      exact go_iretI (pc := 16) rfl dL_undo_16 (by show 0 + C ≤ C; omega) (by show 0 + S ≤ S; omega) (Or.inl ⟨rfl, v_q, _, fo, hX, ho9, rfl⟩)
    · cases e_q
  · rcases h_q with ⟨v_q, e_q, -⟩ | ⟨y_q, e_q, ⟨i_q, ht_q, hL⟩, hs, hn⟩
    · cases e_q
    · cases e_q
      subst hs
      match i_q, ht_q, hL with
      | 0, ht_q, hL =>
        cases hL
        refine ⟨12, ⟨by decide, [], (0, 9, 12, 13), [], rfl, ⟨by decide, by decide⟩, by decide, kw2_186, rfl, fun y9 hy9 => absurd hy9 List.not_mem_nil⟩, fun q => ?_⟩
        refine go_astore_n (lw := [_, _, _, _]) (pc := 12) dL_undo_12 (by decide) rfl ?_
        refine go_iconst (v := 1) (pc := 13) dL_undo_13 (by decide) ?_
        exact go_iretI (pc := 14) rfl dL_undo_14 (by show 0 + C ≤ C; omega) (by show 0 + S ≤ S; omega) (Or.inr ⟨ht_q.symm, by rw [ht_q]; decide, rfl, hn⟩)
      | i_q + 1, ht_q, hL => simp at hL
theorem lw_judge {Γ : gam} {z0 : sto} {n k x_q o_q C S : Nat} {fs : List Value} {p0_ : Int32} {p1_ : Int32} {X : Int32 → sto → Nat → Prop} {t_q : Int32} (hx_q : z0 x_q = some (cO 7 fs)) (sp : Sp Γ (rmk k C S) uX7_judge [.ref x_q, .int p0_, .int p1_] z0 n (qT (qI X) (fun x9_q σ' n' => exL [eNS, eIS, eIA] t_q x9_q ∧ σ' = z0 ∧ n ≤ n'))) (ho : ∀ v_q σ' n', X v_q σ' n' → ∃ fo, σ' o_q = some (cJ Γ 1 fo)) : Sp Γ (rmk (k + 1) C S) uL_judge [.ref x_q, .int p0_, .int p1_, .ref o_q] z0 n (qI fun r9 σ' n' => (r9 = 0 ∧ ∃ v_q σ1 fo, X v_q σ1 n' ∧ σ1 o_q = some (cJ Γ 1 fo) ∧ σ' = sup σ1 o_q (cJ Γ 1 (vp_updL fo 0 v_q.toInt64))) ∨ (r9 = t_q ∧ t_q ≠ 0 ∧ σ' = z0 ∧ n ≤ n')) := by
  refine sp_introH [some (.ref x_q), some (.int p0_), some (.int p1_), some (.ref o_q), none] (by decide +kernel) rfl (Nat.le_of_ble_eq_true rfl) rfl ?_
  refine go_aload_n (pc := 0) dL_judge_0 rfl ?_
  refine go_iconst (v := 0) (pc := 1) dL_judge_1 (by decide) ?_
  refine go_aload_n (pc := 2) dL_judge_2 rfl ?_
  refine go_iload_n (pc := 3) dL_judge_3 rfl ?_
  refine go_iload_n (pc := 4) dL_judge_4 rfl ?_
  refine go_cvH (As := [.int p0_, .int p1_]) (rest := [.int 0, .ref o_q]) (R' := rmk k C S) (pc := 5) v_L_41 rfl rfl (rcv_of (ci := 7) hx_q rfl) dL_judge_5 sp (rm_ok (Nat.le_of_ble_eq_true rfl) (Nat.le_refl _)) ⟨by show 0 + C ≤ C; omega, by show 0 + S ≤ S; omega⟩ (Nat.le_of_ble_eq_true rfl) (fun r9 σ' n' h_q => ?_) (fun E9 σ' n' h_q => ?_)
  · rcases h_q with ⟨v_q, e_q, hX⟩ | ⟨y_q, e_q, -⟩
    · cases e_q
      obtain ⟨fo, ho9⟩ := ho _ _ _ hX
      show Go Γ (rmk (k + 1) C S) uL_judge _ (0 + C) (0 + S) 8 _ (.int v_q :: [.int 0, .ref o_q]) σ' n'
      refine go_i2l (pc := 8) dL_judge_8 ?_
      refine go_last (j := 0) (pc := 9) dL_judge_9 ho9 (by exact ⟨rfl, by decide⟩) ?_
      refine go_goto (tgt := 25) (pc := 10) dL_judge_10 (by decide) ?_
      refine go_iconst (v := 0) (pc := 25) dL_judge_25 (by decide) ?_
      exact go_iretI (pc := 26) rfl dL_judge_26 (by show 0 + C ≤ C; omega) (by show 0 + S ≤ S; omega) (Or.inl ⟨rfl, v_q, _, fo, hX, ho9, rfl⟩)
    · cases e_q
  · rcases h_q with ⟨v_q, e_q, -⟩ | ⟨y_q, e_q, ⟨i_q, ht_q, hL⟩, hs, hn⟩
    · cases e_q
    · cases e_q
      subst hs
      match i_q, ht_q, hL with
      | 0, ht_q, hL =>
        cases hL
        refine ⟨13, ⟨by decide, [], (0, 10, 13, 19), [(0, 10, 17, 44), (0, 10, 21, 13)], rfl, ⟨by decide, by decide⟩, by decide, kw4_37, rfl, fun y9 hy9 => absurd hy9 List.not_mem_nil⟩, fun q => ?_⟩
        refine go_astore (lw := [_, _, _, _, _]) (pc := 13) dL_judge_13 (by decide) rfl ?_
        refine go_iconst (v := 1) (pc := 15) dL_judge_15 (by decide) ?_
        exact go_iretI (pc := 16) rfl dL_judge_16 (by show 0 + C ≤ C; omega) (by show 0 + S ≤ S; omega) (Or.inr ⟨ht_q.symm, by rw [ht_q]; decide, rfl, hn⟩)
      | 1, ht_q, hL =>
        cases hL
        refine ⟨17, ⟨by decide, [(0, 10, 13, 19)], (0, 10, 17, 44), [(0, 10, 21, 13)], rfl, ⟨by decide, by decide⟩, by decide, kw4_141, rfl, fun y9 hy9 => by simp only [List.mem_cons, List.not_mem_nil, or_false] at hy9; rcases hy9 with rfl; exact ⟨⟨by decide, by decide⟩, by decide, eNS, by decide, by decide, kw4_37⟩⟩, fun q => ?_⟩
        refine go_astore (lw := [_, _, _, _, _]) (pc := 17) dL_judge_17 (by decide) rfl ?_
        refine go_iconst (v := 2) (pc := 19) dL_judge_19 (by decide) ?_
        exact go_iretI (pc := 20) rfl dL_judge_20 (by show 0 + C ≤ C; omega) (by show 0 + S ≤ S; omega) (Or.inr ⟨ht_q.symm, by rw [ht_q]; decide, rfl, hn⟩)
      | 2, ht_q, hL =>
        cases hL
        refine ⟨21, ⟨by decide, [(0, 10, 13, 19), (0, 10, 17, 44)], (0, 10, 21, 13), [], rfl, ⟨by decide, by decide⟩, by decide, kw2_186, rfl, fun y9 hy9 => ?_⟩, fun q => ?_⟩
        · simp only [List.mem_cons, List.not_mem_nil, or_false] at hy9
          rcases hy9 with rfl | rfl
          · exact ⟨⟨by decide, by decide⟩, by decide, eNS, by decide, by decide, kw4_37⟩
          · exact ⟨⟨by decide, by decide⟩, by decide, eIS, by decide, by decide, kw4_141⟩
        refine go_astore (lw := [_, _, _, _, _]) (pc := 21) dL_judge_21 (by decide) rfl ?_
        refine go_iconst (v := 3) (pc := 23) dL_judge_23 (by decide) ?_
        exact go_iretI (pc := 24) rfl dL_judge_24 (by show 0 + C ≤ C; omega) (by show 0 + S ≤ S; omega) (Or.inr ⟨ht_q.symm, by rw [ht_q]; decide, rfl, hn⟩)
      | i_q + 3, ht_q, hL => simp at hL
theorem lw_perform {Γ : gam} {z0 : sto} {n k x_q o_q C S : Nat} {fs : List Value} {p0_ : Int32} {X : Int32 → sto → Nat → Prop} {t_q : Int32} (hx_q : z0 x_q = some (cO 7 fs)) (sp : Sp Γ (rmk k C S) uX7_perform [.ref x_q, .int p0_] z0 n (qT (qI X) (fun x9_q σ' n' => exL [eNS, eIS] t_q x9_q ∧ σ' = z0 ∧ n ≤ n'))) (ho : ∀ v_q σ' n', X v_q σ' n' → ∃ fo, σ' o_q = some (cJ Γ 1 fo)) : Sp Γ (rmk (k + 1) C S) uL_perform [.ref x_q, .int p0_, .ref o_q] z0 n (qI fun r9 σ' n' => (r9 = 0 ∧ ∃ v_q σ1 fo, X v_q σ1 n' ∧ σ1 o_q = some (cJ Γ 1 fo) ∧ σ' = sup σ1 o_q (cJ Γ 1 (vp_updL fo 0 v_q.toInt64))) ∨ (r9 = t_q ∧ t_q ≠ 0 ∧ σ' = z0 ∧ n ≤ n')) := by
  refine sp_introH [some (.ref x_q), some (.int p0_), some (.ref o_q), none] (by decide +kernel) rfl (Nat.le_of_ble_eq_true rfl) rfl ?_
  refine go_aload_n (pc := 0) dL_perform_0 rfl ?_
  refine go_iconst (v := 0) (pc := 1) dL_perform_1 (by decide) ?_
  refine go_aload_n (pc := 2) dL_perform_2 rfl ?_
  refine go_iload_n (pc := 3) dL_perform_3 rfl ?_
  refine go_cvH (As := [.int p0_]) (rest := [.int 0, .ref o_q]) (R' := rmk k C S) (pc := 4) v_L_46 rfl rfl (rcv_of (ci := 7) hx_q rfl) dL_perform_4 sp (rm_ok (Nat.le_of_ble_eq_true rfl) (Nat.le_refl _)) ⟨by show 0 + C ≤ C; omega, by show 0 + S ≤ S; omega⟩ (Nat.le_of_ble_eq_true rfl) (fun r9 σ' n' h_q => ?_) (fun E9 σ' n' h_q => ?_)
  · rcases h_q with ⟨v_q, e_q, hX⟩ | ⟨y_q, e_q, -⟩
    · cases e_q
      obtain ⟨fo, ho9⟩ := ho _ _ _ hX
      show Go Γ (rmk (k + 1) C S) uL_perform _ (0 + C) (0 + S) 7 _ (.int v_q :: [.int 0, .ref o_q]) σ' n'
      refine go_i2l (pc := 7) dL_perform_7 ?_
      refine go_last (j := 0) (pc := 8) dL_perform_8 ho9 (by exact ⟨rfl, by decide⟩) ?_
      refine go_goto (tgt := 18) (pc := 9) dL_perform_9 (by decide) ?_
      refine go_iconst (v := 0) (pc := 18) dL_perform_18 (by decide) ?_
      exact go_iretI (pc := 19) rfl dL_perform_19 (by show 0 + C ≤ C; omega) (by show 0 + S ≤ S; omega) (Or.inl ⟨rfl, v_q, _, fo, hX, ho9, rfl⟩)
    · cases e_q
  · rcases h_q with ⟨v_q, e_q, -⟩ | ⟨y_q, e_q, ⟨i_q, ht_q, hL⟩, hs, hn⟩
    · cases e_q
    · cases e_q
      subst hs
      match i_q, ht_q, hL with
      | 0, ht_q, hL =>
        cases hL
        refine ⟨12, ⟨by decide, [], (0, 9, 12, 19), [(0, 9, 15, 44)], rfl, ⟨by decide, by decide⟩, by decide, kw4_37, rfl, fun y9 hy9 => absurd hy9 List.not_mem_nil⟩, fun q => ?_⟩
        refine go_astore_n (lw := [_, _, _, _]) (pc := 12) dL_perform_12 (by decide) rfl ?_
        refine go_iconst (v := 1) (pc := 13) dL_perform_13 (by decide) ?_
        exact go_iretI (pc := 14) rfl dL_perform_14 (by show 0 + C ≤ C; omega) (by show 0 + S ≤ S; omega) (Or.inr ⟨ht_q.symm, by rw [ht_q]; decide, rfl, hn⟩)
      | 1, ht_q, hL =>
        cases hL
        refine ⟨15, ⟨by decide, [(0, 9, 12, 19)], (0, 9, 15, 44), [], rfl, ⟨by decide, by decide⟩, by decide, kw4_141, rfl, fun y9 hy9 => by simp only [List.mem_cons, List.not_mem_nil, or_false] at hy9; rcases hy9 with rfl; exact ⟨⟨by decide, by decide⟩, by decide, eNS, by decide, by decide, kw4_37⟩⟩, fun q => ?_⟩
        refine go_astore_n (lw := [_, _, _, _]) (pc := 15) dL_perform_15 (by decide) rfl ?_
        refine go_iconst (v := 2) (pc := 16) dL_perform_16 (by decide) ?_
        exact go_iretI (pc := 17) rfl dL_perform_17 (by show 0 + C ≤ C; omega) (by show 0 + S ≤ S; omega) (Or.inr ⟨ht_q.symm, by rw [ht_q]; decide, rfl, hn⟩)
      | i_q + 2, ht_q, hL => simp at hL
theorem lw_afternoon {Γ : gam} {z0 : sto} {n k x_q o_q C S : Nat} {fs : List Value} {p0_ : Int32} {p1_ : Int32} {X : Int32 → sto → Nat → Prop} {t_q : Int32} (hx_q : z0 x_q = some (cO 7 fs)) (sp : Sp Γ (rmk k C S) uX7_afternoon [.ref x_q, .int p0_, .int p1_] z0 n (qT (qI X) (fun x9_q σ' n' => exL [eIA] t_q x9_q ∧ σ' = z0 ∧ n ≤ n'))) (ho : ∀ v_q σ' n', X v_q σ' n' → ∃ fo, σ' o_q = some (cJ Γ 1 fo)) : Sp Γ (rmk (k + 1) C S) uL_afternoon [.ref x_q, .int p0_, .int p1_, .ref o_q] z0 n (qI fun r9 σ' n' => (r9 = 0 ∧ ∃ v_q σ1 fo, X v_q σ1 n' ∧ σ1 o_q = some (cJ Γ 1 fo) ∧ σ' = sup σ1 o_q (cJ Γ 1 (vp_updL fo 0 v_q.toInt64))) ∨ (r9 = t_q ∧ t_q ≠ 0 ∧ σ' = z0 ∧ n ≤ n')) := by
  refine sp_introH [some (.ref x_q), some (.int p0_), some (.int p1_), some (.ref o_q), none] (by decide +kernel) rfl (Nat.le_of_ble_eq_true rfl) rfl ?_
  refine go_aload_n (pc := 0) dL_afternoon_0 rfl ?_
  refine go_iconst (v := 0) (pc := 1) dL_afternoon_1 (by decide) ?_
  refine go_aload_n (pc := 2) dL_afternoon_2 rfl ?_
  refine go_iload_n (pc := 3) dL_afternoon_3 rfl ?_
  refine go_iload_n (pc := 4) dL_afternoon_4 rfl ?_
  refine go_cvH (As := [.int p0_, .int p1_]) (rest := [.int 0, .ref o_q]) (R' := rmk k C S) (pc := 5) v_L_49 rfl rfl (rcv_of (ci := 7) hx_q rfl) dL_afternoon_5 sp (rm_ok (Nat.le_of_ble_eq_true rfl) (Nat.le_refl _)) ⟨by show 0 + C ≤ C; omega, by show 0 + S ≤ S; omega⟩ (Nat.le_of_ble_eq_true rfl) (fun r9 σ' n' h_q => ?_) (fun E9 σ' n' h_q => ?_)
  · rcases h_q with ⟨v_q, e_q, hX⟩ | ⟨y_q, e_q, -⟩
    · cases e_q
      obtain ⟨fo, ho9⟩ := ho _ _ _ hX
      show Go Γ (rmk (k + 1) C S) uL_afternoon _ (0 + C) (0 + S) 8 _ (.int v_q :: [.int 0, .ref o_q]) σ' n'
      refine go_i2l (pc := 8) dL_afternoon_8 ?_
      refine go_last (j := 0) (pc := 9) dL_afternoon_9 ho9 (by exact ⟨rfl, by decide⟩) ?_
      refine go_goto (tgt := 17) (pc := 10) dL_afternoon_10 (by decide) ?_
      refine go_iconst (v := 0) (pc := 17) dL_afternoon_17 (by decide) ?_
      exact go_iretI (pc := 18) rfl dL_afternoon_18 (by show 0 + C ≤ C; omega) (by show 0 + S ≤ S; omega) (Or.inl ⟨rfl, v_q, _, fo, hX, ho9, rfl⟩)
    · cases e_q
  · rcases h_q with ⟨v_q, e_q, -⟩ | ⟨y_q, e_q, ⟨i_q, ht_q, hL⟩, hs, hn⟩
    · cases e_q
    · cases e_q
      subst hs
      match i_q, ht_q, hL with
      | 0, ht_q, hL =>
        cases hL
        refine ⟨13, ⟨by decide, [], (0, 10, 13, 13), [], rfl, ⟨by decide, by decide⟩, by decide, kw2_186, rfl, fun y9 hy9 => absurd hy9 List.not_mem_nil⟩, fun q => ?_⟩
        refine go_astore (lw := [_, _, _, _, _]) (pc := 13) dL_afternoon_13 (by decide) rfl ?_
        refine go_iconst (v := 1) (pc := 15) dL_afternoon_15 (by decide) ?_
        exact go_iretI (pc := 16) rfl dL_afternoon_16 (by show 0 + C ≤ C; omega) (by show 0 + S ≤ S; omega) (Or.inr ⟨ht_q.symm, by rw [ht_q]; decide, rfl, hn⟩)
      | i_q + 1, ht_q, hL => simp at hL
theorem lw_sits {Γ : gam} {z0 : sto} {n k x_q o_q C S : Nat} {fs : List Value} {p0_ : Int32} {p1_ : Int32} {X : Int32 → sto → Nat → Prop} {t_q : Int32} (hx_q : z0 x_q = some (cO 7 fs)) (sp : Sp Γ (rmk k C S) uX7_sits [.ref x_q, .int p0_, .int p1_] z0 n (qT (qI X) (fun x9_q σ' n' => exL [eNS, eIA] t_q x9_q ∧ σ' = z0 ∧ n ≤ n'))) (ho : ∀ v_q σ' n', X v_q σ' n' → ∃ fo, σ' o_q = some (cJ Γ 1 fo)) : Sp Γ (rmk (k + 1) C S) uL_sits [.ref x_q, .int p0_, .int p1_, .ref o_q] z0 n (qI fun r9 σ' n' => (r9 = 0 ∧ ∃ v_q σ1 fo, X v_q σ1 n' ∧ σ1 o_q = some (cJ Γ 1 fo) ∧ σ' = sup σ1 o_q (cJ Γ 1 (vp_updL fo 0 v_q.toInt64))) ∨ (r9 = t_q ∧ t_q ≠ 0 ∧ σ' = z0 ∧ n ≤ n')) := by
  refine sp_introH [some (.ref x_q), some (.int p0_), some (.int p1_), some (.ref o_q), none] (by decide +kernel) rfl (Nat.le_of_ble_eq_true rfl) rfl ?_
  refine go_aload_n (pc := 0) dL_sits_0 rfl ?_
  refine go_iconst (v := 0) (pc := 1) dL_sits_1 (by decide) ?_
  refine go_aload_n (pc := 2) dL_sits_2 rfl ?_
  refine go_iload_n (pc := 3) dL_sits_3 rfl ?_
  refine go_iload_n (pc := 4) dL_sits_4 rfl ?_
  refine go_cvH (As := [.int p0_, .int p1_]) (rest := [.int 0, .ref o_q]) (R' := rmk k C S) (pc := 5) v_L_52 rfl rfl (rcv_of (ci := 7) hx_q rfl) dL_sits_5 sp (rm_ok (Nat.le_of_ble_eq_true rfl) (Nat.le_refl _)) ⟨by show 0 + C ≤ C; omega, by show 0 + S ≤ S; omega⟩ (Nat.le_of_ble_eq_true rfl) (fun r9 σ' n' h_q => ?_) (fun E9 σ' n' h_q => ?_)
  · rcases h_q with ⟨v_q, e_q, hX⟩ | ⟨y_q, e_q, -⟩
    · cases e_q
      obtain ⟨fo, ho9⟩ := ho _ _ _ hX
      show Go Γ (rmk (k + 1) C S) uL_sits _ (0 + C) (0 + S) 8 _ (.int v_q :: [.int 0, .ref o_q]) σ' n'
      refine go_i2l (pc := 8) dL_sits_8 ?_
      refine go_last (j := 0) (pc := 9) dL_sits_9 ho9 (by exact ⟨rfl, by decide⟩) ?_
      refine go_goto (tgt := 21) (pc := 10) dL_sits_10 (by decide) ?_
      refine go_iconst (v := 0) (pc := 21) dL_sits_21 (by decide) ?_
      exact go_iretI (pc := 22) rfl dL_sits_22 (by show 0 + C ≤ C; omega) (by show 0 + S ≤ S; omega) (Or.inl ⟨rfl, v_q, _, fo, hX, ho9, rfl⟩)
    · cases e_q
  · rcases h_q with ⟨v_q, e_q, -⟩ | ⟨y_q, e_q, ⟨i_q, ht_q, hL⟩, hs, hn⟩
    · cases e_q
    · cases e_q
      subst hs
      match i_q, ht_q, hL with
      | 0, ht_q, hL =>
        cases hL
        refine ⟨13, ⟨by decide, [], (0, 10, 13, 19), [(0, 10, 17, 13)], rfl, ⟨by decide, by decide⟩, by decide, kw4_37, rfl, fun y9 hy9 => absurd hy9 List.not_mem_nil⟩, fun q => ?_⟩
        refine go_astore (lw := [_, _, _, _, _]) (pc := 13) dL_sits_13 (by decide) rfl ?_
        refine go_iconst (v := 1) (pc := 15) dL_sits_15 (by decide) ?_
        exact go_iretI (pc := 16) rfl dL_sits_16 (by show 0 + C ≤ C; omega) (by show 0 + S ≤ S; omega) (Or.inr ⟨ht_q.symm, by rw [ht_q]; decide, rfl, hn⟩)
      | 1, ht_q, hL =>
        cases hL
        refine ⟨17, ⟨by decide, [(0, 10, 13, 19)], (0, 10, 17, 13), [], rfl, ⟨by decide, by decide⟩, by decide, kw2_186, rfl, fun y9 hy9 => by simp only [List.mem_cons, List.not_mem_nil, or_false] at hy9; rcases hy9 with rfl; exact ⟨⟨by decide, by decide⟩, by decide, eNS, by decide, by decide, kw4_37⟩⟩, fun q => ?_⟩
        refine go_astore (lw := [_, _, _, _, _]) (pc := 17) dL_sits_17 (by decide) rfl ?_
        refine go_iconst (v := 2) (pc := 19) dL_sits_19 (by decide) ?_
        exact go_iretI (pc := 20) rfl dL_sits_20 (by show 0 + C ≤ C; omega) (by show 0 + S ≤ S; omega) (Or.inr ⟨ht_q.symm, by rw [ht_q]; decide, rfl, hn⟩)
      | i_q + 2, ht_q, hL => simp at hL
theorem lw_wetIn {Γ : gam} {z0 : sto} {n k x_q o_q C S : Nat} {fs : List Value} {p0_ : Int32} {X : Int32 → sto → Nat → Prop} {t_q : Int32} (hx_q : z0 x_q = some (cO 7 fs)) (sp : Sp Γ (rmk k C S) uX7_wetIn [.ref x_q, .int p0_] z0 n (qT (qI X) (fun x9_q σ' n' => exL [eNS] t_q x9_q ∧ σ' = z0 ∧ n ≤ n'))) (ho : ∀ v_q σ' n', X v_q σ' n' → ∃ fo, σ' o_q = some (cJ Γ 1 fo)) : Sp Γ (rmk (k + 1) C S) uL_wetIn [.ref x_q, .int p0_, .ref o_q] z0 n (qI fun r9 σ' n' => (r9 = 0 ∧ ∃ v_q σ1 fo, X v_q σ1 n' ∧ σ1 o_q = some (cJ Γ 1 fo) ∧ σ' = sup σ1 o_q (cJ Γ 1 (vp_updL fo 0 v_q.toInt64))) ∨ (r9 = t_q ∧ t_q ≠ 0 ∧ σ' = z0 ∧ n ≤ n')) := by
  refine sp_introH [some (.ref x_q), some (.int p0_), some (.ref o_q), none] (by decide +kernel) rfl (Nat.le_of_ble_eq_true rfl) rfl ?_
  refine go_aload_n (pc := 0) dL_wetIn_0 rfl ?_
  refine go_iconst (v := 0) (pc := 1) dL_wetIn_1 (by decide) ?_
  refine go_aload_n (pc := 2) dL_wetIn_2 rfl ?_
  refine go_iload_n (pc := 3) dL_wetIn_3 rfl ?_
  refine go_cvH (As := [.int p0_]) (rest := [.int 0, .ref o_q]) (R' := rmk k C S) (pc := 4) v_L_55 rfl rfl (rcv_of (ci := 7) hx_q rfl) dL_wetIn_4 sp (rm_ok (Nat.le_of_ble_eq_true rfl) (Nat.le_refl _)) ⟨by show 0 + C ≤ C; omega, by show 0 + S ≤ S; omega⟩ (Nat.le_of_ble_eq_true rfl) (fun r9 σ' n' h_q => ?_) (fun E9 σ' n' h_q => ?_)
  · rcases h_q with ⟨v_q, e_q, hX⟩ | ⟨y_q, e_q, -⟩
    · cases e_q
      obtain ⟨fo, ho9⟩ := ho _ _ _ hX
      show Go Γ (rmk (k + 1) C S) uL_wetIn _ (0 + C) (0 + S) 7 _ (.int v_q :: [.int 0, .ref o_q]) σ' n'
      refine go_i2l (pc := 7) dL_wetIn_7 ?_
      refine go_last (j := 0) (pc := 8) dL_wetIn_8 ho9 (by exact ⟨rfl, by decide⟩) ?_
      refine go_goto (tgt := 15) (pc := 9) dL_wetIn_9 (by decide) ?_
      refine go_iconst (v := 0) (pc := 15) dL_wetIn_15 (by decide) ?_
      exact go_iretI (pc := 16) rfl dL_wetIn_16 (by show 0 + C ≤ C; omega) (by show 0 + S ≤ S; omega) (Or.inl ⟨rfl, v_q, _, fo, hX, ho9, rfl⟩)
    · cases e_q
  · rcases h_q with ⟨v_q, e_q, -⟩ | ⟨y_q, e_q, ⟨i_q, ht_q, hL⟩, hs, hn⟩
    · cases e_q
    · cases e_q
      subst hs
      match i_q, ht_q, hL with
      | 0, ht_q, hL =>
        cases hL
        refine ⟨12, ⟨by decide, [], (0, 9, 12, 19), [], rfl, ⟨by decide, by decide⟩, by decide, kw4_37, rfl, fun y9 hy9 => absurd hy9 List.not_mem_nil⟩, fun q => ?_⟩
        refine go_astore_n (lw := [_, _, _, _]) (pc := 12) dL_wetIn_12 (by decide) rfl ?_
        refine go_iconst (v := 1) (pc := 13) dL_wetIn_13 (by decide) ?_
        exact go_iretI (pc := 14) rfl dL_wetIn_14 (by show 0 + C ≤ C; omega) (by show 0 + S ≤ S; omega) (Or.inr ⟨ht_q.symm, by rw [ht_q]; decide, rfl, hn⟩)
      | i_q + 1, ht_q, hL => simp at hL
theorem lw_wetBy {Γ : gam} {z0 : sto} {n k x_q o_q C S : Nat} {fs : List Value} {p0_ : Int32} {X : Int32 → sto → Nat → Prop} {t_q : Int32} (hx_q : z0 x_q = some (cO 7 fs)) (sp : Sp Γ (rmk k C S) uX7_wetBy [.ref x_q, .int p0_] z0 n (qT (qI X) (fun x9_q σ' n' => exL [eIA] t_q x9_q ∧ σ' = z0 ∧ n ≤ n'))) (ho : ∀ v_q σ' n', X v_q σ' n' → ∃ fo, σ' o_q = some (cJ Γ 1 fo)) : Sp Γ (rmk (k + 1) C S) uL_wetBy [.ref x_q, .int p0_, .ref o_q] z0 n (qI fun r9 σ' n' => (r9 = 0 ∧ ∃ v_q σ1 fo, X v_q σ1 n' ∧ σ1 o_q = some (cJ Γ 1 fo) ∧ σ' = sup σ1 o_q (cJ Γ 1 (vp_updL fo 0 v_q.toInt64))) ∨ (r9 = t_q ∧ t_q ≠ 0 ∧ σ' = z0 ∧ n ≤ n')) := by
  refine sp_introH [some (.ref x_q), some (.int p0_), some (.ref o_q), none] (by decide +kernel) rfl (Nat.le_of_ble_eq_true rfl) rfl ?_
  refine go_aload_n (pc := 0) dL_wetBy_0 rfl ?_
  refine go_iconst (v := 0) (pc := 1) dL_wetBy_1 (by decide) ?_
  refine go_aload_n (pc := 2) dL_wetBy_2 rfl ?_
  refine go_iload_n (pc := 3) dL_wetBy_3 rfl ?_
  refine go_cvH (As := [.int p0_]) (rest := [.int 0, .ref o_q]) (R' := rmk k C S) (pc := 4) v_L_58 rfl rfl (rcv_of (ci := 7) hx_q rfl) dL_wetBy_4 sp (rm_ok (Nat.le_of_ble_eq_true rfl) (Nat.le_refl _)) ⟨by show 0 + C ≤ C; omega, by show 0 + S ≤ S; omega⟩ (Nat.le_of_ble_eq_true rfl) (fun r9 σ' n' h_q => ?_) (fun E9 σ' n' h_q => ?_)
  · rcases h_q with ⟨v_q, e_q, hX⟩ | ⟨y_q, e_q, -⟩
    · cases e_q
      obtain ⟨fo, ho9⟩ := ho _ _ _ hX
      show Go Γ (rmk (k + 1) C S) uL_wetBy _ (0 + C) (0 + S) 7 _ (.int v_q :: [.int 0, .ref o_q]) σ' n'
      refine go_i2l (pc := 7) dL_wetBy_7 ?_
      refine go_last (j := 0) (pc := 8) dL_wetBy_8 ho9 (by exact ⟨rfl, by decide⟩) ?_
      refine go_goto (tgt := 15) (pc := 9) dL_wetBy_9 (by decide) ?_
      refine go_iconst (v := 0) (pc := 15) dL_wetBy_15 (by decide) ?_
      exact go_iretI (pc := 16) rfl dL_wetBy_16 (by show 0 + C ≤ C; omega) (by show 0 + S ≤ S; omega) (Or.inl ⟨rfl, v_q, _, fo, hX, ho9, rfl⟩)
    · cases e_q
  · rcases h_q with ⟨v_q, e_q, -⟩ | ⟨y_q, e_q, ⟨i_q, ht_q, hL⟩, hs, hn⟩
    · cases e_q
    · cases e_q
      subst hs
      match i_q, ht_q, hL with
      | 0, ht_q, hL =>
        cases hL
        refine ⟨12, ⟨by decide, [], (0, 9, 12, 13), [], rfl, ⟨by decide, by decide⟩, by decide, kw2_186, rfl, fun y9 hy9 => absurd hy9 List.not_mem_nil⟩, fun q => ?_⟩
        refine go_astore_n (lw := [_, _, _, _]) (pc := 12) dL_wetBy_12 (by decide) rfl ?_
        refine go_iconst (v := 1) (pc := 13) dL_wetBy_13 (by decide) ?_
        exact go_iretI (pc := 14) rfl dL_wetBy_14 (by show 0 + C ≤ C; omega) (by show 0 + S ≤ S; omega) (Or.inr ⟨ht_q.symm, by rw [ht_q]; decide, rfl, hn⟩)
      | i_q + 1, ht_q, hL => simp at hL
theorem lw_frontIn {Γ : gam} {z0 : sto} {n k x_q o_q C S : Nat} {fs : List Value} {p0_ : Int32} {X : Int32 → sto → Nat → Prop} {t_q : Int32} (hx_q : z0 x_q = some (cO 7 fs)) (sp : Sp Γ (rmk k C S) uX7_frontIn [.ref x_q, .int p0_] z0 n (qT (qI X) (fun x9_q σ' n' => exL [eNS] t_q x9_q ∧ σ' = z0 ∧ n ≤ n'))) (ho : ∀ v_q σ' n', X v_q σ' n' → ∃ fo, σ' o_q = some (cJ Γ 1 fo)) : Sp Γ (rmk (k + 1) C S) uL_frontIn [.ref x_q, .int p0_, .ref o_q] z0 n (qI fun r9 σ' n' => (r9 = 0 ∧ ∃ v_q σ1 fo, X v_q σ1 n' ∧ σ1 o_q = some (cJ Γ 1 fo) ∧ σ' = sup σ1 o_q (cJ Γ 1 (vp_updL fo 0 v_q.toInt64))) ∨ (r9 = t_q ∧ t_q ≠ 0 ∧ σ' = z0 ∧ n ≤ n')) := by
  refine sp_introH [some (.ref x_q), some (.int p0_), some (.ref o_q), none] (by decide +kernel) rfl (Nat.le_of_ble_eq_true rfl) rfl ?_
  refine go_aload_n (pc := 0) dL_frontIn_0 rfl ?_
  refine go_iconst (v := 0) (pc := 1) dL_frontIn_1 (by decide) ?_
  refine go_aload_n (pc := 2) dL_frontIn_2 rfl ?_
  refine go_iload_n (pc := 3) dL_frontIn_3 rfl ?_
  refine go_cvH (As := [.int p0_]) (rest := [.int 0, .ref o_q]) (R' := rmk k C S) (pc := 4) v_L_61 rfl rfl (rcv_of (ci := 7) hx_q rfl) dL_frontIn_4 sp (rm_ok (Nat.le_of_ble_eq_true rfl) (Nat.le_refl _)) ⟨by show 0 + C ≤ C; omega, by show 0 + S ≤ S; omega⟩ (Nat.le_of_ble_eq_true rfl) (fun r9 σ' n' h_q => ?_) (fun E9 σ' n' h_q => ?_)
  · rcases h_q with ⟨v_q, e_q, hX⟩ | ⟨y_q, e_q, -⟩
    · cases e_q
      obtain ⟨fo, ho9⟩ := ho _ _ _ hX
      show Go Γ (rmk (k + 1) C S) uL_frontIn _ (0 + C) (0 + S) 7 _ (.int v_q :: [.int 0, .ref o_q]) σ' n'
      refine go_i2l (pc := 7) dL_frontIn_7 ?_
      refine go_last (j := 0) (pc := 8) dL_frontIn_8 ho9 (by exact ⟨rfl, by decide⟩) ?_
      refine go_goto (tgt := 15) (pc := 9) dL_frontIn_9 (by decide) ?_
      refine go_iconst (v := 0) (pc := 15) dL_frontIn_15 (by decide) ?_
      exact go_iretI (pc := 16) rfl dL_frontIn_16 (by show 0 + C ≤ C; omega) (by show 0 + S ≤ S; omega) (Or.inl ⟨rfl, v_q, _, fo, hX, ho9, rfl⟩)
    · cases e_q
  · rcases h_q with ⟨v_q, e_q, -⟩ | ⟨y_q, e_q, ⟨i_q, ht_q, hL⟩, hs, hn⟩
    · cases e_q
    · cases e_q
      subst hs
      match i_q, ht_q, hL with
      | 0, ht_q, hL =>
        cases hL
        refine ⟨12, ⟨by decide, [], (0, 9, 12, 19), [], rfl, ⟨by decide, by decide⟩, by decide, kw4_37, rfl, fun y9 hy9 => absurd hy9 List.not_mem_nil⟩, fun q => ?_⟩
        refine go_astore_n (lw := [_, _, _, _]) (pc := 12) dL_frontIn_12 (by decide) rfl ?_
        refine go_iconst (v := 1) (pc := 13) dL_frontIn_13 (by decide) ?_
        exact go_iretI (pc := 14) rfl dL_frontIn_14 (by show 0 + C ≤ C; omega) (by show 0 + S ≤ S; omega) (Or.inr ⟨ht_q.symm, by rw [ht_q]; decide, rfl, hn⟩)
      | i_q + 1, ht_q, hL => simp at hL
theorem lw_front {Γ : gam} {z0 : sto} {n k x_q o_q C S : Nat} {fs : List Value} {p0_ : Int32} {X : Int32 → sto → Nat → Prop} {t_q : Int32} (hx_q : z0 x_q = some (cO 7 fs)) (sp : Sp Γ (rmk k C S) uX7_front [.ref x_q, .int p0_] z0 n (qT (qI X) (fun x9_q σ' n' => exL [eIA] t_q x9_q ∧ σ' = z0 ∧ n ≤ n'))) (ho : ∀ v_q σ' n', X v_q σ' n' → ∃ fo, σ' o_q = some (cJ Γ 1 fo)) : Sp Γ (rmk (k + 1) C S) uL_front [.ref x_q, .int p0_, .ref o_q] z0 n (qI fun r9 σ' n' => (r9 = 0 ∧ ∃ v_q σ1 fo, X v_q σ1 n' ∧ σ1 o_q = some (cJ Γ 1 fo) ∧ σ' = sup σ1 o_q (cJ Γ 1 (vp_updL fo 0 v_q.toInt64))) ∨ (r9 = t_q ∧ t_q ≠ 0 ∧ σ' = z0 ∧ n ≤ n')) := by
  refine sp_introH [some (.ref x_q), some (.int p0_), some (.ref o_q), none] (by decide +kernel) rfl (Nat.le_of_ble_eq_true rfl) rfl ?_
  refine go_aload_n (pc := 0) dL_front_0 rfl ?_
  refine go_iconst (v := 0) (pc := 1) dL_front_1 (by decide) ?_
  refine go_aload_n (pc := 2) dL_front_2 rfl ?_
  refine go_iload_n (pc := 3) dL_front_3 rfl ?_
  refine go_cvH (As := [.int p0_]) (rest := [.int 0, .ref o_q]) (R' := rmk k C S) (pc := 4) v_L_64 rfl rfl (rcv_of (ci := 7) hx_q rfl) dL_front_4 sp (rm_ok (Nat.le_of_ble_eq_true rfl) (Nat.le_refl _)) ⟨by show 0 + C ≤ C; omega, by show 0 + S ≤ S; omega⟩ (Nat.le_of_ble_eq_true rfl) (fun r9 σ' n' h_q => ?_) (fun E9 σ' n' h_q => ?_)
  · rcases h_q with ⟨v_q, e_q, hX⟩ | ⟨y_q, e_q, -⟩
    · cases e_q
      obtain ⟨fo, ho9⟩ := ho _ _ _ hX
      show Go Γ (rmk (k + 1) C S) uL_front _ (0 + C) (0 + S) 7 _ (.int v_q :: [.int 0, .ref o_q]) σ' n'
      refine go_i2l (pc := 7) dL_front_7 ?_
      refine go_last (j := 0) (pc := 8) dL_front_8 ho9 (by exact ⟨rfl, by decide⟩) ?_
      refine go_goto (tgt := 15) (pc := 9) dL_front_9 (by decide) ?_
      refine go_iconst (v := 0) (pc := 15) dL_front_15 (by decide) ?_
      exact go_iretI (pc := 16) rfl dL_front_16 (by show 0 + C ≤ C; omega) (by show 0 + S ≤ S; omega) (Or.inl ⟨rfl, v_q, _, fo, hX, ho9, rfl⟩)
    · cases e_q
  · rcases h_q with ⟨v_q, e_q, -⟩ | ⟨y_q, e_q, ⟨i_q, ht_q, hL⟩, hs, hn⟩
    · cases e_q
    · cases e_q
      subst hs
      match i_q, ht_q, hL with
      | 0, ht_q, hL =>
        cases hL
        refine ⟨12, ⟨by decide, [], (0, 9, 12, 13), [], rfl, ⟨by decide, by decide⟩, by decide, kw2_186, rfl, fun y9 hy9 => absurd hy9 List.not_mem_nil⟩, fun q => ?_⟩
        refine go_astore_n (lw := [_, _, _, _]) (pc := 12) dL_front_12 (by decide) rfl ?_
        refine go_iconst (v := 1) (pc := 13) dL_front_13 (by decide) ?_
        exact go_iretI (pc := 14) rfl dL_front_14 (by show 0 + C ≤ C; omega) (by show 0 + S ≤ S; omega) (Or.inr ⟨ht_q.symm, by rw [ht_q]; decide, rfl, hn⟩)
      | i_q + 1, ht_q, hL => simp at hL
theorem lw_king {Γ : gam} {z0 : sto} {n k x_q o_q C S : Nat} {fs : List Value} {p0_ : Int32} {X : Int32 → sto → Nat → Prop} {t_q : Int32} (hx_q : z0 x_q = some (cO 7 fs)) (sp : Sp Γ (rmk k C S) uX7_king [.ref x_q, .int p0_] z0 n (qT (qI X) (fun x9_q σ' n' => exL [eIA] t_q x9_q ∧ σ' = z0 ∧ n ≤ n'))) (ho : ∀ v_q σ' n', X v_q σ' n' → ∃ fo, σ' o_q = some (cJ Γ 1 fo)) : Sp Γ (rmk (k + 1) C S) uL_king [.ref x_q, .int p0_, .ref o_q] z0 n (qI fun r9 σ' n' => (r9 = 0 ∧ ∃ v_q σ1 fo, X v_q σ1 n' ∧ σ1 o_q = some (cJ Γ 1 fo) ∧ σ' = sup σ1 o_q (cJ Γ 1 (vp_updL fo 0 v_q.toInt64))) ∨ (r9 = t_q ∧ t_q ≠ 0 ∧ σ' = z0 ∧ n ≤ n')) := by
  refine sp_introH [some (.ref x_q), some (.int p0_), some (.ref o_q), none] (by decide +kernel) rfl (Nat.le_of_ble_eq_true rfl) rfl ?_
  refine go_aload_n (pc := 0) dL_king_0 rfl ?_
  refine go_iconst (v := 0) (pc := 1) dL_king_1 (by decide) ?_
  refine go_aload_n (pc := 2) dL_king_2 rfl ?_
  refine go_iload_n (pc := 3) dL_king_3 rfl ?_
  refine go_cvH (As := [.int p0_]) (rest := [.int 0, .ref o_q]) (R' := rmk k C S) (pc := 4) v_L_67 rfl rfl (rcv_of (ci := 7) hx_q rfl) dL_king_4 sp (rm_ok (Nat.le_of_ble_eq_true rfl) (Nat.le_refl _)) ⟨by show 0 + C ≤ C; omega, by show 0 + S ≤ S; omega⟩ (Nat.le_of_ble_eq_true rfl) (fun r9 σ' n' h_q => ?_) (fun E9 σ' n' h_q => ?_)
  · rcases h_q with ⟨v_q, e_q, hX⟩ | ⟨y_q, e_q, -⟩
    · cases e_q
      obtain ⟨fo, ho9⟩ := ho _ _ _ hX
      show Go Γ (rmk (k + 1) C S) uL_king _ (0 + C) (0 + S) 7 _ (.int v_q :: [.int 0, .ref o_q]) σ' n'
      refine go_i2l (pc := 7) dL_king_7 ?_
      refine go_last (j := 0) (pc := 8) dL_king_8 ho9 (by exact ⟨rfl, by decide⟩) ?_
      refine go_goto (tgt := 15) (pc := 9) dL_king_9 (by decide) ?_
      refine go_iconst (v := 0) (pc := 15) dL_king_15 (by decide) ?_
      exact go_iretI (pc := 16) rfl dL_king_16 (by show 0 + C ≤ C; omega) (by show 0 + S ≤ S; omega) (Or.inl ⟨rfl, v_q, _, fo, hX, ho9, rfl⟩)
    · cases e_q
  · rcases h_q with ⟨v_q, e_q, -⟩ | ⟨y_q, e_q, ⟨i_q, ht_q, hL⟩, hs, hn⟩
    · cases e_q
    · cases e_q
      subst hs
      match i_q, ht_q, hL with
      | 0, ht_q, hL =>
        cases hL
        refine ⟨12, ⟨by decide, [], (0, 9, 12, 13), [], rfl, ⟨by decide, by decide⟩, by decide, kw2_186, rfl, fun y9 hy9 => absurd hy9 List.not_mem_nil⟩, fun q => ?_⟩
        refine go_astore_n (lw := [_, _, _, _]) (pc := 12) dL_king_12 (by decide) rfl ?_
        refine go_iconst (v := 1) (pc := 13) dL_king_13 (by decide) ?_
        exact go_iretI (pc := 14) rfl dL_king_14 (by show 0 + C ≤ C; omega) (by show 0 + S ≤ S; omega) (Or.inr ⟨ht_q.symm, by rw [ht_q]; decide, rfl, hn⟩)
      | i_q + 1, ht_q, hL => simp at hL
theorem lw_bring {Γ : gam} {z0 : sto} {n k x_q o_q C S : Nat} {fs : List Value} {p0_ : Int32} {p1_ : Int32} {p2_ : Int32} {X : Int32 → sto → Nat → Prop} {t_q : Int32} (hx_q : z0 x_q = some (cO 7 fs)) (sp : Sp Γ (rmk k C S) uX7_bring [.ref x_q, .int p0_, .int p1_, .int p2_] z0 n (qT (qI X) (fun x9_q σ' n' => exL [eNS, eIA] t_q x9_q ∧ σ' = z0 ∧ n ≤ n'))) (ho : ∀ v_q σ' n', X v_q σ' n' → ∃ fo, σ' o_q = some (cJ Γ 1 fo)) : Sp Γ (rmk (k + 1) C S) uL_bring [.ref x_q, .int p0_, .int p1_, .int p2_, .ref o_q] z0 n (qI fun r9 σ' n' => (r9 = 0 ∧ ∃ v_q σ1 fo, X v_q σ1 n' ∧ σ1 o_q = some (cJ Γ 1 fo) ∧ σ' = sup σ1 o_q (cJ Γ 1 (vp_updL fo 0 v_q.toInt64))) ∨ (r9 = t_q ∧ t_q ≠ 0 ∧ σ' = z0 ∧ n ≤ n')) := by
  refine sp_introH [some (.ref x_q), some (.int p0_), some (.int p1_), some (.int p2_), some (.ref o_q), none] (by decide +kernel) rfl (Nat.le_of_ble_eq_true rfl) rfl ?_
  refine go_aload (pc := 0) dL_bring_0 rfl ?_
  refine go_iconst (v := 0) (pc := 2) dL_bring_2 (by decide) ?_
  refine go_aload_n (pc := 3) dL_bring_3 rfl ?_
  refine go_iload_n (pc := 4) dL_bring_4 rfl ?_
  refine go_iload_n (pc := 5) dL_bring_5 rfl ?_
  refine go_iload_n (pc := 6) dL_bring_6 rfl ?_
  refine go_cvH (As := [.int p0_, .int p1_, .int p2_]) (rest := [.int 0, .ref o_q]) (R' := rmk k C S) (pc := 7) v_L_70 rfl rfl (rcv_of (ci := 7) hx_q rfl) dL_bring_7 sp (rm_ok (Nat.le_of_ble_eq_true rfl) (Nat.le_refl _)) ⟨by show 0 + C ≤ C; omega, by show 0 + S ≤ S; omega⟩ (Nat.le_of_ble_eq_true rfl) (fun r9 σ' n' h_q => ?_) (fun E9 σ' n' h_q => ?_)
  · rcases h_q with ⟨v_q, e_q, hX⟩ | ⟨y_q, e_q, -⟩
    · cases e_q
      obtain ⟨fo, ho9⟩ := ho _ _ _ hX
      show Go Γ (rmk (k + 1) C S) uL_bring _ (0 + C) (0 + S) 10 _ (.int v_q :: [.int 0, .ref o_q]) σ' n'
      refine go_i2l (pc := 10) dL_bring_10 ?_
      refine go_last (j := 0) (pc := 11) dL_bring_11 ho9 (by exact ⟨rfl, by decide⟩) ?_
      refine go_goto (tgt := 23) (pc := 12) dL_bring_12 (by decide) ?_
      refine go_iconst (v := 0) (pc := 23) dL_bring_23 (by decide) ?_
      exact go_iretI (pc := 24) rfl dL_bring_24 (by show 0 + C ≤ C; omega) (by show 0 + S ≤ S; omega) (Or.inl ⟨rfl, v_q, _, fo, hX, ho9, rfl⟩)
    · cases e_q
  · rcases h_q with ⟨v_q, e_q, -⟩ | ⟨y_q, e_q, ⟨i_q, ht_q, hL⟩, hs, hn⟩
    · cases e_q
    · cases e_q
      subst hs
      match i_q, ht_q, hL with
      | 0, ht_q, hL =>
        cases hL
        refine ⟨15, ⟨by decide, [], (0, 12, 15, 19), [(0, 12, 19, 13)], rfl, ⟨by decide, by decide⟩, by decide, kw4_37, rfl, fun y9 hy9 => absurd hy9 List.not_mem_nil⟩, fun q => ?_⟩
        refine go_astore (lw := [_, _, _, _, _, _]) (pc := 15) dL_bring_15 (by decide) rfl ?_
        refine go_iconst (v := 1) (pc := 17) dL_bring_17 (by decide) ?_
        exact go_iretI (pc := 18) rfl dL_bring_18 (by show 0 + C ≤ C; omega) (by show 0 + S ≤ S; omega) (Or.inr ⟨ht_q.symm, by rw [ht_q]; decide, rfl, hn⟩)
      | 1, ht_q, hL =>
        cases hL
        refine ⟨19, ⟨by decide, [(0, 12, 15, 19)], (0, 12, 19, 13), [], rfl, ⟨by decide, by decide⟩, by decide, kw2_186, rfl, fun y9 hy9 => by simp only [List.mem_cons, List.not_mem_nil, or_false] at hy9; rcases hy9 with rfl; exact ⟨⟨by decide, by decide⟩, by decide, eNS, by decide, by decide, kw4_37⟩⟩, fun q => ?_⟩
        refine go_astore (lw := [_, _, _, _, _, _]) (pc := 19) dL_bring_19 (by decide) rfl ?_
        refine go_iconst (v := 2) (pc := 21) dL_bring_21 (by decide) ?_
        exact go_iretI (pc := 22) rfl dL_bring_22 (by show 0 + C ≤ C; omega) (by show 0 + S ≤ S; omega) (Or.inr ⟨ht_q.symm, by rw [ht_q]; decide, rfl, hn⟩)
      | i_q + 2, ht_q, hL => simp at hL
theorem lw_faints {Γ : gam} {z0 : sto} {n k x_q o_q C S : Nat} {fs : List Value} {p0_ : Int32} {p1_ : Int32} {p2_ : Int32} {X : Int32 → sto → Nat → Prop} {t_q : Int32} (hx_q : z0 x_q = some (cO 7 fs)) (sp : Sp Γ (rmk k C S) uX7_faints [.ref x_q, .int p0_, .int p1_, .int p2_] z0 n (qT (qI X) (fun x9_q σ' n' => exL [eNS, eIA] t_q x9_q ∧ σ' = z0 ∧ n ≤ n'))) (ho : ∀ v_q σ' n', X v_q σ' n' → ∃ fo, σ' o_q = some (cJ Γ 1 fo)) : Sp Γ (rmk (k + 1) C S) uL_faints [.ref x_q, .int p0_, .int p1_, .int p2_, .ref o_q] z0 n (qI fun r9 σ' n' => (r9 = 0 ∧ ∃ v_q σ1 fo, X v_q σ1 n' ∧ σ1 o_q = some (cJ Γ 1 fo) ∧ σ' = sup σ1 o_q (cJ Γ 1 (vp_updL fo 0 v_q.toInt64))) ∨ (r9 = t_q ∧ t_q ≠ 0 ∧ σ' = z0 ∧ n ≤ n')) := by
  refine sp_introH [some (.ref x_q), some (.int p0_), some (.int p1_), some (.int p2_), some (.ref o_q), none] (by decide +kernel) rfl (Nat.le_of_ble_eq_true rfl) rfl ?_
  refine go_aload (pc := 0) dL_faints_0 rfl ?_
  refine go_iconst (v := 0) (pc := 2) dL_faints_2 (by decide) ?_
  refine go_aload_n (pc := 3) dL_faints_3 rfl ?_
  refine go_iload_n (pc := 4) dL_faints_4 rfl ?_
  refine go_iload_n (pc := 5) dL_faints_5 rfl ?_
  refine go_iload_n (pc := 6) dL_faints_6 rfl ?_
  refine go_cvH (As := [.int p0_, .int p1_, .int p2_]) (rest := [.int 0, .ref o_q]) (R' := rmk k C S) (pc := 7) v_L_73 rfl rfl (rcv_of (ci := 7) hx_q rfl) dL_faints_7 sp (rm_ok (Nat.le_of_ble_eq_true rfl) (Nat.le_refl _)) ⟨by show 0 + C ≤ C; omega, by show 0 + S ≤ S; omega⟩ (Nat.le_of_ble_eq_true rfl) (fun r9 σ' n' h_q => ?_) (fun E9 σ' n' h_q => ?_)
  · rcases h_q with ⟨v_q, e_q, hX⟩ | ⟨y_q, e_q, -⟩
    · cases e_q
      obtain ⟨fo, ho9⟩ := ho _ _ _ hX
      show Go Γ (rmk (k + 1) C S) uL_faints _ (0 + C) (0 + S) 10 _ (.int v_q :: [.int 0, .ref o_q]) σ' n'
      refine go_i2l (pc := 10) dL_faints_10 ?_
      refine go_last (j := 0) (pc := 11) dL_faints_11 ho9 (by exact ⟨rfl, by decide⟩) ?_
      refine go_goto (tgt := 23) (pc := 12) dL_faints_12 (by decide) ?_
      refine go_iconst (v := 0) (pc := 23) dL_faints_23 (by decide) ?_
      exact go_iretI (pc := 24) rfl dL_faints_24 (by show 0 + C ≤ C; omega) (by show 0 + S ≤ S; omega) (Or.inl ⟨rfl, v_q, _, fo, hX, ho9, rfl⟩)
    · cases e_q
  · rcases h_q with ⟨v_q, e_q, -⟩ | ⟨y_q, e_q, ⟨i_q, ht_q, hL⟩, hs, hn⟩
    · cases e_q
    · cases e_q
      subst hs
      match i_q, ht_q, hL with
      | 0, ht_q, hL =>
        cases hL
        refine ⟨15, ⟨by decide, [], (0, 12, 15, 19), [(0, 12, 19, 13)], rfl, ⟨by decide, by decide⟩, by decide, kw4_37, rfl, fun y9 hy9 => absurd hy9 List.not_mem_nil⟩, fun q => ?_⟩
        refine go_astore (lw := [_, _, _, _, _, _]) (pc := 15) dL_faints_15 (by decide) rfl ?_
        refine go_iconst (v := 1) (pc := 17) dL_faints_17 (by decide) ?_
        exact go_iretI (pc := 18) rfl dL_faints_18 (by show 0 + C ≤ C; omega) (by show 0 + S ≤ S; omega) (Or.inr ⟨ht_q.symm, by rw [ht_q]; decide, rfl, hn⟩)
      | 1, ht_q, hL =>
        cases hL
        refine ⟨19, ⟨by decide, [(0, 12, 15, 19)], (0, 12, 19, 13), [], rfl, ⟨by decide, by decide⟩, by decide, kw2_186, rfl, fun y9 hy9 => by simp only [List.mem_cons, List.not_mem_nil, or_false] at hy9; rcases hy9 with rfl; exact ⟨⟨by decide, by decide⟩, by decide, eNS, by decide, by decide, kw4_37⟩⟩, fun q => ?_⟩
        refine go_astore (lw := [_, _, _, _, _, _]) (pc := 19) dL_faints_19 (by decide) rfl ?_
        refine go_iconst (v := 2) (pc := 21) dL_faints_21 (by decide) ?_
        exact go_iretI (pc := 22) rfl dL_faints_22 (by show 0 + C ≤ C; omega) (by show 0 + S ≤ S; omega) (Or.inr ⟨ht_q.symm, by rw [ht_q]; decide, rfl, hn⟩)
      | i_q + 2, ht_q, hL => simp at hL
theorem lw_round {Γ : gam} {z0 : sto} {n k x_q o_q C S : Nat} {fs : List Value} {p0_ : Int32} {X : Int32 → sto → Nat → Prop} {t_q : Int32} (hx_q : z0 x_q = some (cO 7 fs)) (sp : Sp Γ (rmk k C S) uX7_round [.ref x_q, .int p0_] z0 n (qT (qI X) (fun x9_q σ' n' => exL [eNS] t_q x9_q ∧ σ' = z0 ∧ n ≤ n'))) (ho : ∀ v_q σ' n', X v_q σ' n' → ∃ fo, σ' o_q = some (cJ Γ 1 fo)) : Sp Γ (rmk (k + 1) C S) uL_round [.ref x_q, .int p0_, .ref o_q] z0 n (qI fun r9 σ' n' => (r9 = 0 ∧ ∃ v_q σ1 fo, X v_q σ1 n' ∧ σ1 o_q = some (cJ Γ 1 fo) ∧ σ' = sup σ1 o_q (cJ Γ 1 (vp_updL fo 0 v_q.toInt64))) ∨ (r9 = t_q ∧ t_q ≠ 0 ∧ σ' = z0 ∧ n ≤ n')) := by
  refine sp_introH [some (.ref x_q), some (.int p0_), some (.ref o_q), none] (by decide +kernel) rfl (Nat.le_of_ble_eq_true rfl) rfl ?_
  refine go_aload_n (pc := 0) dL_round_0 rfl ?_
  refine go_iconst (v := 0) (pc := 1) dL_round_1 (by decide) ?_
  refine go_aload_n (pc := 2) dL_round_2 rfl ?_
  refine go_iload_n (pc := 3) dL_round_3 rfl ?_
  refine go_cvH (As := [.int p0_]) (rest := [.int 0, .ref o_q]) (R' := rmk k C S) (pc := 4) v_L_76 rfl rfl (rcv_of (ci := 7) hx_q rfl) dL_round_4 sp (rm_ok (Nat.le_of_ble_eq_true rfl) (Nat.le_refl _)) ⟨by show 0 + C ≤ C; omega, by show 0 + S ≤ S; omega⟩ (Nat.le_of_ble_eq_true rfl) (fun r9 σ' n' h_q => ?_) (fun E9 σ' n' h_q => ?_)
  · rcases h_q with ⟨v_q, e_q, hX⟩ | ⟨y_q, e_q, -⟩
    · cases e_q
      obtain ⟨fo, ho9⟩ := ho _ _ _ hX
      show Go Γ (rmk (k + 1) C S) uL_round _ (0 + C) (0 + S) 7 _ (.int v_q :: [.int 0, .ref o_q]) σ' n'
      refine go_i2l (pc := 7) dL_round_7 ?_
      refine go_last (j := 0) (pc := 8) dL_round_8 ho9 (by exact ⟨rfl, by decide⟩) ?_
      refine go_goto (tgt := 15) (pc := 9) dL_round_9 (by decide) ?_
      refine go_iconst (v := 0) (pc := 15) dL_round_15 (by decide) ?_
      exact go_iretI (pc := 16) rfl dL_round_16 (by show 0 + C ≤ C; omega) (by show 0 + S ≤ S; omega) (Or.inl ⟨rfl, v_q, _, fo, hX, ho9, rfl⟩)
    · cases e_q
  · rcases h_q with ⟨v_q, e_q, -⟩ | ⟨y_q, e_q, ⟨i_q, ht_q, hL⟩, hs, hn⟩
    · cases e_q
    · cases e_q
      subst hs
      match i_q, ht_q, hL with
      | 0, ht_q, hL =>
        cases hL
        refine ⟨12, ⟨by decide, [], (0, 9, 12, 19), [], rfl, ⟨by decide, by decide⟩, by decide, kw4_37, rfl, fun y9 hy9 => absurd hy9 List.not_mem_nil⟩, fun q => ?_⟩
        refine go_astore_n (lw := [_, _, _, _]) (pc := 12) dL_round_12 (by decide) rfl ?_
        refine go_iconst (v := 1) (pc := 13) dL_round_13 (by decide) ?_
        exact go_iretI (pc := 14) rfl dL_round_14 (by show 0 + C ≤ C; omega) (by show 0 + S ≤ S; omega) (Or.inr ⟨ht_q.symm, by rw [ht_q]; decide, rfl, hn⟩)
      | i_q + 1, ht_q, hL => simp at hL
theorem lw_hands {Γ : gam} {z0 : sto} {n k x_q o_q C S : Nat} {fs : List Value} {p0_ : Int32} {p1_ : Int32} {X : Int32 → sto → Nat → Prop} {t_q : Int32} (hx_q : z0 x_q = some (cO 7 fs)) (sp : Sp Γ (rmk k C S) uX7_hands [.ref x_q, .int p0_, .int p1_] z0 n (qT (qI X) (fun x9_q σ' n' => exL [eNS, eIA, eIS] t_q x9_q ∧ σ' = z0 ∧ n ≤ n'))) (ho : ∀ v_q σ' n', X v_q σ' n' → ∃ fo, σ' o_q = some (cJ Γ 1 fo)) : Sp Γ (rmk (k + 1) C S) uL_hands [.ref x_q, .int p0_, .int p1_, .ref o_q] z0 n (qI fun r9 σ' n' => (r9 = 0 ∧ ∃ v_q σ1 fo, X v_q σ1 n' ∧ σ1 o_q = some (cJ Γ 1 fo) ∧ σ' = sup σ1 o_q (cJ Γ 1 (vp_updL fo 0 v_q.toInt64))) ∨ (r9 = t_q ∧ t_q ≠ 0 ∧ σ' = z0 ∧ n ≤ n')) := by
  refine sp_introH [some (.ref x_q), some (.int p0_), some (.int p1_), some (.ref o_q), none] (by decide +kernel) rfl (Nat.le_of_ble_eq_true rfl) rfl ?_
  refine go_aload_n (pc := 0) dL_hands_0 rfl ?_
  refine go_iconst (v := 0) (pc := 1) dL_hands_1 (by decide) ?_
  refine go_aload_n (pc := 2) dL_hands_2 rfl ?_
  refine go_iload_n (pc := 3) dL_hands_3 rfl ?_
  refine go_iload_n (pc := 4) dL_hands_4 rfl ?_
  refine go_cvH (As := [.int p0_, .int p1_]) (rest := [.int 0, .ref o_q]) (R' := rmk k C S) (pc := 5) v_L_79 rfl rfl (rcv_of (ci := 7) hx_q rfl) dL_hands_5 sp (rm_ok (Nat.le_of_ble_eq_true rfl) (Nat.le_refl _)) ⟨by show 0 + C ≤ C; omega, by show 0 + S ≤ S; omega⟩ (Nat.le_of_ble_eq_true rfl) (fun r9 σ' n' h_q => ?_) (fun E9 σ' n' h_q => ?_)
  · rcases h_q with ⟨v_q, e_q, hX⟩ | ⟨y_q, e_q, -⟩
    · cases e_q
      obtain ⟨fo, ho9⟩ := ho _ _ _ hX
      show Go Γ (rmk (k + 1) C S) uL_hands _ (0 + C) (0 + S) 8 _ (.int v_q :: [.int 0, .ref o_q]) σ' n'
      refine go_i2l (pc := 8) dL_hands_8 ?_
      refine go_last (j := 0) (pc := 9) dL_hands_9 ho9 (by exact ⟨rfl, by decide⟩) ?_
      refine go_goto (tgt := 25) (pc := 10) dL_hands_10 (by decide) ?_
      refine go_iconst (v := 0) (pc := 25) dL_hands_25 (by decide) ?_
      exact go_iretI (pc := 26) rfl dL_hands_26 (by show 0 + C ≤ C; omega) (by show 0 + S ≤ S; omega) (Or.inl ⟨rfl, v_q, _, fo, hX, ho9, rfl⟩)
    · cases e_q
  · rcases h_q with ⟨v_q, e_q, -⟩ | ⟨y_q, e_q, ⟨i_q, ht_q, hL⟩, hs, hn⟩
    · cases e_q
    · cases e_q
      subst hs
      match i_q, ht_q, hL with
      | 0, ht_q, hL =>
        cases hL
        refine ⟨13, ⟨by decide, [], (0, 10, 13, 19), [(0, 10, 17, 13), (0, 10, 21, 44)], rfl, ⟨by decide, by decide⟩, by decide, kw4_37, rfl, fun y9 hy9 => absurd hy9 List.not_mem_nil⟩, fun q => ?_⟩
        refine go_astore (lw := [_, _, _, _, _]) (pc := 13) dL_hands_13 (by decide) rfl ?_
        refine go_iconst (v := 1) (pc := 15) dL_hands_15 (by decide) ?_
        exact go_iretI (pc := 16) rfl dL_hands_16 (by show 0 + C ≤ C; omega) (by show 0 + S ≤ S; omega) (Or.inr ⟨ht_q.symm, by rw [ht_q]; decide, rfl, hn⟩)
      | 1, ht_q, hL =>
        cases hL
        refine ⟨17, ⟨by decide, [(0, 10, 13, 19)], (0, 10, 17, 13), [(0, 10, 21, 44)], rfl, ⟨by decide, by decide⟩, by decide, kw2_186, rfl, fun y9 hy9 => by simp only [List.mem_cons, List.not_mem_nil, or_false] at hy9; rcases hy9 with rfl; exact ⟨⟨by decide, by decide⟩, by decide, eNS, by decide, by decide, kw4_37⟩⟩, fun q => ?_⟩
        refine go_astore (lw := [_, _, _, _, _]) (pc := 17) dL_hands_17 (by decide) rfl ?_
        refine go_iconst (v := 2) (pc := 19) dL_hands_19 (by decide) ?_
        exact go_iretI (pc := 20) rfl dL_hands_20 (by show 0 + C ≤ C; omega) (by show 0 + S ≤ S; omega) (Or.inr ⟨ht_q.symm, by rw [ht_q]; decide, rfl, hn⟩)
      | 2, ht_q, hL =>
        cases hL
        refine ⟨21, ⟨by decide, [(0, 10, 13, 19), (0, 10, 17, 13)], (0, 10, 21, 44), [], rfl, ⟨by decide, by decide⟩, by decide, kw4_141, rfl, fun y9 hy9 => ?_⟩, fun q => ?_⟩
        · simp only [List.mem_cons, List.not_mem_nil, or_false] at hy9
          rcases hy9 with rfl | rfl
          · exact ⟨⟨by decide, by decide⟩, by decide, eNS, by decide, by decide, kw4_37⟩
          · exact ⟨⟨by decide, by decide⟩, by decide, eIA, by decide, by decide, kw2_186⟩
        refine go_astore (lw := [_, _, _, _, _]) (pc := 21) dL_hands_21 (by decide) rfl ?_
        refine go_iconst (v := 3) (pc := 23) dL_hands_23 (by decide) ?_
        exact go_iretI (pc := 24) rfl dL_hands_24 (by show 0 + C ≤ C; omega) (by show 0 + S ≤ S; omega) (Or.inr ⟨ht_q.symm, by rw [ht_q]; decide, rfl, hn⟩)
      | i_q + 3, ht_q, hL => simp at hL
theorem lw_relay {Γ : gam} {z0 : sto} {n k x_q o_q C S : Nat} {fs : List Value} {p0_ : Int32} {X : Int32 → sto → Nat → Prop} {t_q : Int32} (hx_q : z0 x_q = some (cO 7 fs)) (sp : Sp Γ (rmk k C S) uX7_relay [.ref x_q, .int p0_] z0 n (qT (qI X) (fun x9_q σ' n' => exL [eNS, eIS] t_q x9_q ∧ σ' = z0 ∧ n ≤ n'))) (ho : ∀ v_q σ' n', X v_q σ' n' → ∃ fo, σ' o_q = some (cJ Γ 1 fo)) : Sp Γ (rmk (k + 1) C S) uL_relay [.ref x_q, .int p0_, .ref o_q] z0 n (qI fun r9 σ' n' => (r9 = 0 ∧ ∃ v_q σ1 fo, X v_q σ1 n' ∧ σ1 o_q = some (cJ Γ 1 fo) ∧ σ' = sup σ1 o_q (cJ Γ 1 (vp_updL fo 0 v_q.toInt64))) ∨ (r9 = t_q ∧ t_q ≠ 0 ∧ σ' = z0 ∧ n ≤ n')) := by
  refine sp_introH [some (.ref x_q), some (.int p0_), some (.ref o_q), none] (by decide +kernel) rfl (Nat.le_of_ble_eq_true rfl) rfl ?_
  refine go_aload_n (pc := 0) dL_relay_0 rfl ?_
  refine go_iconst (v := 0) (pc := 1) dL_relay_1 (by decide) ?_
  refine go_aload_n (pc := 2) dL_relay_2 rfl ?_
  refine go_iload_n (pc := 3) dL_relay_3 rfl ?_
  refine go_cvH (As := [.int p0_]) (rest := [.int 0, .ref o_q]) (R' := rmk k C S) (pc := 4) v_L_82 rfl rfl (rcv_of (ci := 7) hx_q rfl) dL_relay_4 sp (rm_ok (Nat.le_of_ble_eq_true rfl) (Nat.le_refl _)) ⟨by show 0 + C ≤ C; omega, by show 0 + S ≤ S; omega⟩ (Nat.le_of_ble_eq_true rfl) (fun r9 σ' n' h_q => ?_) (fun E9 σ' n' h_q => ?_)
  · rcases h_q with ⟨v_q, e_q, hX⟩ | ⟨y_q, e_q, -⟩
    · cases e_q
      obtain ⟨fo, ho9⟩ := ho _ _ _ hX
      show Go Γ (rmk (k + 1) C S) uL_relay _ (0 + C) (0 + S) 7 _ (.int v_q :: [.int 0, .ref o_q]) σ' n'
      refine go_i2l (pc := 7) dL_relay_7 ?_
      refine go_last (j := 0) (pc := 8) dL_relay_8 ho9 (by exact ⟨rfl, by decide⟩) ?_
      refine go_goto (tgt := 18) (pc := 9) dL_relay_9 (by decide) ?_
      refine go_iconst (v := 0) (pc := 18) dL_relay_18 (by decide) ?_
      exact go_iretI (pc := 19) rfl dL_relay_19 (by show 0 + C ≤ C; omega) (by show 0 + S ≤ S; omega) (Or.inl ⟨rfl, v_q, _, fo, hX, ho9, rfl⟩)
    · cases e_q
  · rcases h_q with ⟨v_q, e_q, -⟩ | ⟨y_q, e_q, ⟨i_q, ht_q, hL⟩, hs, hn⟩
    · cases e_q
    · cases e_q
      subst hs
      match i_q, ht_q, hL with
      | 0, ht_q, hL =>
        cases hL
        refine ⟨12, ⟨by decide, [], (0, 9, 12, 19), [(0, 9, 15, 44)], rfl, ⟨by decide, by decide⟩, by decide, kw4_37, rfl, fun y9 hy9 => absurd hy9 List.not_mem_nil⟩, fun q => ?_⟩
        refine go_astore_n (lw := [_, _, _, _]) (pc := 12) dL_relay_12 (by decide) rfl ?_
        refine go_iconst (v := 1) (pc := 13) dL_relay_13 (by decide) ?_
        exact go_iretI (pc := 14) rfl dL_relay_14 (by show 0 + C ≤ C; omega) (by show 0 + S ≤ S; omega) (Or.inr ⟨ht_q.symm, by rw [ht_q]; decide, rfl, hn⟩)
      | 1, ht_q, hL =>
        cases hL
        refine ⟨15, ⟨by decide, [(0, 9, 12, 19)], (0, 9, 15, 44), [], rfl, ⟨by decide, by decide⟩, by decide, kw4_141, rfl, fun y9 hy9 => by simp only [List.mem_cons, List.not_mem_nil, or_false] at hy9; rcases hy9 with rfl; exact ⟨⟨by decide, by decide⟩, by decide, eNS, by decide, by decide, kw4_37⟩⟩, fun q => ?_⟩
        refine go_astore_n (lw := [_, _, _, _]) (pc := 15) dL_relay_15 (by decide) rfl ?_
        refine go_iconst (v := 2) (pc := 16) dL_relay_16 (by decide) ?_
        exact go_iretI (pc := 17) rfl dL_relay_17 (by show 0 + C ≤ C; omega) (by show 0 + S ≤ S; omega) (Or.inr ⟨ht_q.symm, by rw [ht_q]; decide, rfl, hn⟩)
      | i_q + 2, ht_q, hL => simp at hL
theorem lw_cut {Γ : gam} {z0 : sto} {n k x_q o_q C S : Nat} {fs : List Value} {p0_ : Int32} {p1_ : Int32} {X : Int32 → sto → Nat → Prop} {t_q : Int32} (hx_q : z0 x_q = some (cO 7 fs)) (sp : Sp Γ (rmk k C S) uX7_cut [.ref x_q, .int p0_, .int p1_] z0 n (qT (qI X) (fun x9_q σ' n' => exL [eNS, eIA, eIS] t_q x9_q ∧ σ' = z0 ∧ n ≤ n'))) (ho : ∀ v_q σ' n', X v_q σ' n' → ∃ fo, σ' o_q = some (cJ Γ 1 fo)) : Sp Γ (rmk (k + 1) C S) uL_cut [.ref x_q, .int p0_, .int p1_, .ref o_q] z0 n (qI fun r9 σ' n' => (r9 = 0 ∧ ∃ v_q σ1 fo, X v_q σ1 n' ∧ σ1 o_q = some (cJ Γ 1 fo) ∧ σ' = sup σ1 o_q (cJ Γ 1 (vp_updL fo 0 v_q.toInt64))) ∨ (r9 = t_q ∧ t_q ≠ 0 ∧ σ' = z0 ∧ n ≤ n')) := by
  refine sp_introH [some (.ref x_q), some (.int p0_), some (.int p1_), some (.ref o_q), none] (by decide +kernel) rfl (Nat.le_of_ble_eq_true rfl) rfl ?_
  refine go_aload_n (pc := 0) dL_cut_0 rfl ?_
  refine go_iconst (v := 0) (pc := 1) dL_cut_1 (by decide) ?_
  refine go_aload_n (pc := 2) dL_cut_2 rfl ?_
  refine go_iload_n (pc := 3) dL_cut_3 rfl ?_
  refine go_iload_n (pc := 4) dL_cut_4 rfl ?_
  refine go_cvH (As := [.int p0_, .int p1_]) (rest := [.int 0, .ref o_q]) (R' := rmk k C S) (pc := 5) v_L_85 rfl rfl (rcv_of (ci := 7) hx_q rfl) dL_cut_5 sp (rm_ok (Nat.le_of_ble_eq_true rfl) (Nat.le_refl _)) ⟨by show 0 + C ≤ C; omega, by show 0 + S ≤ S; omega⟩ (Nat.le_of_ble_eq_true rfl) (fun r9 σ' n' h_q => ?_) (fun E9 σ' n' h_q => ?_)
  · rcases h_q with ⟨v_q, e_q, hX⟩ | ⟨y_q, e_q, -⟩
    · cases e_q
      obtain ⟨fo, ho9⟩ := ho _ _ _ hX
      show Go Γ (rmk (k + 1) C S) uL_cut _ (0 + C) (0 + S) 8 _ (.int v_q :: [.int 0, .ref o_q]) σ' n'
      refine go_i2l (pc := 8) dL_cut_8 ?_
      refine go_last (j := 0) (pc := 9) dL_cut_9 ho9 (by exact ⟨rfl, by decide⟩) ?_
      refine go_goto (tgt := 25) (pc := 10) dL_cut_10 (by decide) ?_
      refine go_iconst (v := 0) (pc := 25) dL_cut_25 (by decide) ?_
      exact go_iretI (pc := 26) rfl dL_cut_26 (by show 0 + C ≤ C; omega) (by show 0 + S ≤ S; omega) (Or.inl ⟨rfl, v_q, _, fo, hX, ho9, rfl⟩)
    · cases e_q
  · rcases h_q with ⟨v_q, e_q, -⟩ | ⟨y_q, e_q, ⟨i_q, ht_q, hL⟩, hs, hn⟩
    · cases e_q
    · cases e_q
      subst hs
      match i_q, ht_q, hL with
      | 0, ht_q, hL =>
        cases hL
        refine ⟨13, ⟨by decide, [], (0, 10, 13, 19), [(0, 10, 17, 13), (0, 10, 21, 44)], rfl, ⟨by decide, by decide⟩, by decide, kw4_37, rfl, fun y9 hy9 => absurd hy9 List.not_mem_nil⟩, fun q => ?_⟩
        refine go_astore (lw := [_, _, _, _, _]) (pc := 13) dL_cut_13 (by decide) rfl ?_
        refine go_iconst (v := 1) (pc := 15) dL_cut_15 (by decide) ?_
        exact go_iretI (pc := 16) rfl dL_cut_16 (by show 0 + C ≤ C; omega) (by show 0 + S ≤ S; omega) (Or.inr ⟨ht_q.symm, by rw [ht_q]; decide, rfl, hn⟩)
      | 1, ht_q, hL =>
        cases hL
        refine ⟨17, ⟨by decide, [(0, 10, 13, 19)], (0, 10, 17, 13), [(0, 10, 21, 44)], rfl, ⟨by decide, by decide⟩, by decide, kw2_186, rfl, fun y9 hy9 => by simp only [List.mem_cons, List.not_mem_nil, or_false] at hy9; rcases hy9 with rfl; exact ⟨⟨by decide, by decide⟩, by decide, eNS, by decide, by decide, kw4_37⟩⟩, fun q => ?_⟩
        refine go_astore (lw := [_, _, _, _, _]) (pc := 17) dL_cut_17 (by decide) rfl ?_
        refine go_iconst (v := 2) (pc := 19) dL_cut_19 (by decide) ?_
        exact go_iretI (pc := 20) rfl dL_cut_20 (by show 0 + C ≤ C; omega) (by show 0 + S ≤ S; omega) (Or.inr ⟨ht_q.symm, by rw [ht_q]; decide, rfl, hn⟩)
      | 2, ht_q, hL =>
        cases hL
        refine ⟨21, ⟨by decide, [(0, 10, 13, 19), (0, 10, 17, 13)], (0, 10, 21, 44), [], rfl, ⟨by decide, by decide⟩, by decide, kw4_141, rfl, fun y9 hy9 => ?_⟩, fun q => ?_⟩
        · simp only [List.mem_cons, List.not_mem_nil, or_false] at hy9
          rcases hy9 with rfl | rfl
          · exact ⟨⟨by decide, by decide⟩, by decide, eNS, by decide, by decide, kw4_37⟩
          · exact ⟨⟨by decide, by decide⟩, by decide, eIA, by decide, by decide, kw2_186⟩
        refine go_astore (lw := [_, _, _, _, _]) (pc := 21) dL_cut_21 (by decide) rfl ?_
        refine go_iconst (v := 3) (pc := 23) dL_cut_23 (by decide) ?_
        exact go_iretI (pc := 24) rfl dL_cut_24 (by show 0 + C ≤ C; omega) (by show 0 + S ≤ S; omega) (Or.inr ⟨ht_q.symm, by rw [ht_q]; decide, rfl, hn⟩)
      | i_q + 3, ht_q, hL => simp at hL
theorem lw_dry {Γ : gam} {z0 : sto} {n k x_q o_q C S : Nat} {fs : List Value} {p0_ : Int32} {p1_ : Int32} {p2_ : Int32} {X : Int64 → sto → Nat → Prop} {t_q : Int32} (hx_q : z0 x_q = some (cO 7 fs)) (sp : Sp Γ (rmk k C S) uX7_dry [.ref x_q, .int p0_, .int p1_, .int p2_] z0 n (qT (qL X) (fun x9_q σ' n' => exL [eNS, eIA] t_q x9_q ∧ σ' = z0 ∧ n ≤ n'))) (ho : ∀ v_q σ' n', X v_q σ' n' → ∃ fo, σ' o_q = some (cJ Γ 1 fo)) : Sp Γ (rmk (k + 1) C S) uL_dry [.ref x_q, .int p0_, .int p1_, .int p2_, .ref o_q] z0 n (qI fun r9 σ' n' => (r9 = 0 ∧ ∃ v_q σ1 fo, X v_q σ1 n' ∧ σ1 o_q = some (cJ Γ 1 fo) ∧ σ' = sup σ1 o_q (cJ Γ 1 (vp_updL fo 0 v_q))) ∨ (r9 = t_q ∧ t_q ≠ 0 ∧ σ' = z0 ∧ n ≤ n')) := by
  refine sp_introH [some (.ref x_q), some (.int p0_), some (.int p1_), some (.int p2_), some (.ref o_q), none] (by decide +kernel) rfl (Nat.le_of_ble_eq_true rfl) rfl ?_
  refine go_aload (pc := 0) dL_dry_0 rfl ?_
  refine go_iconst (v := 0) (pc := 2) dL_dry_2 (by decide) ?_
  refine go_aload_n (pc := 3) dL_dry_3 rfl ?_
  refine go_iload_n (pc := 4) dL_dry_4 rfl ?_
  refine go_iload_n (pc := 5) dL_dry_5 rfl ?_
  refine go_iload_n (pc := 6) dL_dry_6 rfl ?_
  refine go_cvH (As := [.int p0_, .int p1_, .int p2_]) (rest := [.int 0, .ref o_q]) (R' := rmk k C S) (pc := 7) v_L_88 rfl rfl (rcv_of (ci := 7) hx_q rfl) dL_dry_7 sp (rm_ok (Nat.le_of_ble_eq_true rfl) (Nat.le_refl _)) ⟨by show 0 + C ≤ C; omega, by show 0 + S ≤ S; omega⟩ (Nat.le_of_ble_eq_true rfl) (fun r9 σ' n' h_q => ?_) (fun E9 σ' n' h_q => ?_)
  · rcases h_q with ⟨v_q, e_q, hX⟩ | ⟨y_q, e_q, -⟩
    · cases e_q
      obtain ⟨fo, ho9⟩ := ho _ _ _ hX
      show Go Γ (rmk (k + 1) C S) uL_dry _ (0 + C) (0 + S) 10 _ (.long v_q :: [.int 0, .ref o_q]) σ' n'
      refine go_last (j := 0) (pc := 10) dL_dry_10 ho9 (by exact ⟨rfl, by decide⟩) ?_
      refine go_goto (tgt := 22) (pc := 11) dL_dry_11 (by decide) ?_
      refine go_iconst (v := 0) (pc := 22) dL_dry_22 (by decide) ?_
      exact go_iretI (pc := 23) rfl dL_dry_23 (by show 0 + C ≤ C; omega) (by show 0 + S ≤ S; omega) (Or.inl ⟨rfl, v_q, _, fo, hX, ho9, rfl⟩)
    · cases e_q
  · rcases h_q with ⟨v_q, e_q, -⟩ | ⟨y_q, e_q, ⟨i_q, ht_q, hL⟩, hs, hn⟩
    · cases e_q
    · cases e_q
      subst hs
      match i_q, ht_q, hL with
      | 0, ht_q, hL =>
        cases hL
        refine ⟨14, ⟨by decide, [], (0, 11, 14, 19), [(0, 11, 18, 13)], rfl, ⟨by decide, by decide⟩, by decide, kw4_37, rfl, fun y9 hy9 => absurd hy9 List.not_mem_nil⟩, fun q => ?_⟩
        refine go_astore (lw := [_, _, _, _, _, _]) (pc := 14) dL_dry_14 (by decide) rfl ?_
        refine go_iconst (v := 1) (pc := 16) dL_dry_16 (by decide) ?_
        exact go_iretI (pc := 17) rfl dL_dry_17 (by show 0 + C ≤ C; omega) (by show 0 + S ≤ S; omega) (Or.inr ⟨ht_q.symm, by rw [ht_q]; decide, rfl, hn⟩)
      | 1, ht_q, hL =>
        cases hL
        refine ⟨18, ⟨by decide, [(0, 11, 14, 19)], (0, 11, 18, 13), [], rfl, ⟨by decide, by decide⟩, by decide, kw2_186, rfl, fun y9 hy9 => by simp only [List.mem_cons, List.not_mem_nil, or_false] at hy9; rcases hy9 with rfl; exact ⟨⟨by decide, by decide⟩, by decide, eNS, by decide, by decide, kw4_37⟩⟩, fun q => ?_⟩
        refine go_astore (lw := [_, _, _, _, _, _]) (pc := 18) dL_dry_18 (by decide) rfl ?_
        refine go_iconst (v := 2) (pc := 20) dL_dry_20 (by decide) ?_
        exact go_iretI (pc := 21) rfl dL_dry_21 (by show 0 + C ≤ C; omega) (by show 0 + S ≤ S; omega) (Or.inr ⟨ht_q.symm, by rw [ht_q]; decide, rfl, hn⟩)
      | i_q + 2, ht_q, hL => simp at hL
theorem lw_driest {Γ : gam} {z0 : sto} {n k x_q o_q C S : Nat} {fs : List Value} {p0_ : Int32} {X : Int32 → sto → Nat → Prop} {t_q : Int32} (hx_q : z0 x_q = some (cO 7 fs)) (sp : Sp Γ (rmk k C S) uX7_driest [.ref x_q, .int p0_] z0 n (qT (qI X) (fun x9_q σ' n' => exL [eIA] t_q x9_q ∧ σ' = z0 ∧ n ≤ n'))) (ho : ∀ v_q σ' n', X v_q σ' n' → ∃ fo, σ' o_q = some (cJ Γ 1 fo)) : Sp Γ (rmk (k + 1) C S) uL_driest [.ref x_q, .int p0_, .ref o_q] z0 n (qI fun r9 σ' n' => (r9 = 0 ∧ ∃ v_q σ1 fo, X v_q σ1 n' ∧ σ1 o_q = some (cJ Γ 1 fo) ∧ σ' = sup σ1 o_q (cJ Γ 1 (vp_updL fo 0 v_q.toInt64))) ∨ (r9 = t_q ∧ t_q ≠ 0 ∧ σ' = z0 ∧ n ≤ n')) := by
  refine sp_introH [some (.ref x_q), some (.int p0_), some (.ref o_q), none] (by decide +kernel) rfl (Nat.le_of_ble_eq_true rfl) rfl ?_
  refine go_aload_n (pc := 0) dL_driest_0 rfl ?_
  refine go_iconst (v := 0) (pc := 1) dL_driest_1 (by decide) ?_
  refine go_aload_n (pc := 2) dL_driest_2 rfl ?_
  refine go_iload_n (pc := 3) dL_driest_3 rfl ?_
  refine go_cvH (As := [.int p0_]) (rest := [.int 0, .ref o_q]) (R' := rmk k C S) (pc := 4) v_L_92 rfl rfl (rcv_of (ci := 7) hx_q rfl) dL_driest_4 sp (rm_ok (Nat.le_of_ble_eq_true rfl) (Nat.le_refl _)) ⟨by show 0 + C ≤ C; omega, by show 0 + S ≤ S; omega⟩ (Nat.le_of_ble_eq_true rfl) (fun r9 σ' n' h_q => ?_) (fun E9 σ' n' h_q => ?_)
  · rcases h_q with ⟨v_q, e_q, hX⟩ | ⟨y_q, e_q, -⟩
    · cases e_q
      obtain ⟨fo, ho9⟩ := ho _ _ _ hX
      show Go Γ (rmk (k + 1) C S) uL_driest _ (0 + C) (0 + S) 7 _ (.int v_q :: [.int 0, .ref o_q]) σ' n'
      refine go_i2l (pc := 7) dL_driest_7 ?_
      refine go_last (j := 0) (pc := 8) dL_driest_8 ho9 (by exact ⟨rfl, by decide⟩) ?_
      refine go_goto (tgt := 15) (pc := 9) dL_driest_9 (by decide) ?_
      refine go_iconst (v := 0) (pc := 15) dL_driest_15 (by decide) ?_
      exact go_iretI (pc := 16) rfl dL_driest_16 (by show 0 + C ≤ C; omega) (by show 0 + S ≤ S; omega) (Or.inl ⟨rfl, v_q, _, fo, hX, ho9, rfl⟩)
    · cases e_q
  · rcases h_q with ⟨v_q, e_q, -⟩ | ⟨y_q, e_q, ⟨i_q, ht_q, hL⟩, hs, hn⟩
    · cases e_q
    · cases e_q
      subst hs
      match i_q, ht_q, hL with
      | 0, ht_q, hL =>
        cases hL
        refine ⟨12, ⟨by decide, [], (0, 9, 12, 13), [], rfl, ⟨by decide, by decide⟩, by decide, kw2_186, rfl, fun y9 hy9 => absurd hy9 List.not_mem_nil⟩, fun q => ?_⟩
        refine go_astore_n (lw := [_, _, _, _]) (pc := 12) dL_driest_12 (by decide) rfl ?_
        refine go_iconst (v := 1) (pc := 13) dL_driest_13 (by decide) ?_
        exact go_iretI (pc := 14) rfl dL_driest_14 (by show 0 + C ≤ C; omega) (by show 0 + S ≤ S; omega) (Or.inr ⟨ht_q.symm, by rw [ht_q]; decide, rfl, hn⟩)
      | i_q + 1, ht_q, hL => simp at hL
theorem lw_where {Γ : gam} {z0 : sto} {n k x_q o_q C S : Nat} {fs : List Value} {p0_ : Int32} {p1_ : Int32} {X : Int32 → sto → Nat → Prop} {t_q : Int32} (hx_q : z0 x_q = some (cO 7 fs)) (sp : Sp Γ (rmk k C S) uX7_where [.ref x_q, .int p0_, .int p1_] z0 n (qT (qI X) (fun x9_q σ' n' => exL [eNS, eIA, eIS] t_q x9_q ∧ σ' = z0 ∧ n ≤ n'))) (ho : ∀ v_q σ' n', X v_q σ' n' → ∃ fo, σ' o_q = some (cJ Γ 1 fo)) : Sp Γ (rmk (k + 1) C S) uL_where [.ref x_q, .int p0_, .int p1_, .ref o_q] z0 n (qI fun r9 σ' n' => (r9 = 0 ∧ ∃ v_q σ1 fo, X v_q σ1 n' ∧ σ1 o_q = some (cJ Γ 1 fo) ∧ σ' = sup σ1 o_q (cJ Γ 1 (vp_updL fo 0 v_q.toInt64))) ∨ (r9 = t_q ∧ t_q ≠ 0 ∧ σ' = z0 ∧ n ≤ n')) := by
  refine sp_introH [some (.ref x_q), some (.int p0_), some (.int p1_), some (.ref o_q), none] (by decide +kernel) rfl (Nat.le_of_ble_eq_true rfl) rfl ?_
  refine go_aload_n (pc := 0) dL_where_0 rfl ?_
  refine go_iconst (v := 0) (pc := 1) dL_where_1 (by decide) ?_
  refine go_aload_n (pc := 2) dL_where_2 rfl ?_
  refine go_iload_n (pc := 3) dL_where_3 rfl ?_
  refine go_iload_n (pc := 4) dL_where_4 rfl ?_
  refine go_cvH (As := [.int p0_, .int p1_]) (rest := [.int 0, .ref o_q]) (R' := rmk k C S) (pc := 5) v_L_95 rfl rfl (rcv_of (ci := 7) hx_q rfl) dL_where_5 sp (rm_ok (Nat.le_of_ble_eq_true rfl) (Nat.le_refl _)) ⟨by show 0 + C ≤ C; omega, by show 0 + S ≤ S; omega⟩ (Nat.le_of_ble_eq_true rfl) (fun r9 σ' n' h_q => ?_) (fun E9 σ' n' h_q => ?_)
  · rcases h_q with ⟨v_q, e_q, hX⟩ | ⟨y_q, e_q, -⟩
    · cases e_q
      obtain ⟨fo, ho9⟩ := ho _ _ _ hX
      show Go Γ (rmk (k + 1) C S) uL_where _ (0 + C) (0 + S) 8 _ (.int v_q :: [.int 0, .ref o_q]) σ' n'
      refine go_i2l (pc := 8) dL_where_8 ?_
      refine go_last (j := 0) (pc := 9) dL_where_9 ho9 (by exact ⟨rfl, by decide⟩) ?_
      refine go_goto (tgt := 25) (pc := 10) dL_where_10 (by decide) ?_
      refine go_iconst (v := 0) (pc := 25) dL_where_25 (by decide) ?_
      exact go_iretI (pc := 26) rfl dL_where_26 (by show 0 + C ≤ C; omega) (by show 0 + S ≤ S; omega) (Or.inl ⟨rfl, v_q, _, fo, hX, ho9, rfl⟩)
    · cases e_q
  · rcases h_q with ⟨v_q, e_q, -⟩ | ⟨y_q, e_q, ⟨i_q, ht_q, hL⟩, hs, hn⟩
    · cases e_q
    · cases e_q
      subst hs
      match i_q, ht_q, hL with
      | 0, ht_q, hL =>
        cases hL
        refine ⟨13, ⟨by decide, [], (0, 10, 13, 19), [(0, 10, 17, 13), (0, 10, 21, 44)], rfl, ⟨by decide, by decide⟩, by decide, kw4_37, rfl, fun y9 hy9 => absurd hy9 List.not_mem_nil⟩, fun q => ?_⟩
        refine go_astore (lw := [_, _, _, _, _]) (pc := 13) dL_where_13 (by decide) rfl ?_
        refine go_iconst (v := 1) (pc := 15) dL_where_15 (by decide) ?_
        exact go_iretI (pc := 16) rfl dL_where_16 (by show 0 + C ≤ C; omega) (by show 0 + S ≤ S; omega) (Or.inr ⟨ht_q.symm, by rw [ht_q]; decide, rfl, hn⟩)
      | 1, ht_q, hL =>
        cases hL
        refine ⟨17, ⟨by decide, [(0, 10, 13, 19)], (0, 10, 17, 13), [(0, 10, 21, 44)], rfl, ⟨by decide, by decide⟩, by decide, kw2_186, rfl, fun y9 hy9 => by simp only [List.mem_cons, List.not_mem_nil, or_false] at hy9; rcases hy9 with rfl; exact ⟨⟨by decide, by decide⟩, by decide, eNS, by decide, by decide, kw4_37⟩⟩, fun q => ?_⟩
        refine go_astore (lw := [_, _, _, _, _]) (pc := 17) dL_where_17 (by decide) rfl ?_
        refine go_iconst (v := 2) (pc := 19) dL_where_19 (by decide) ?_
        exact go_iretI (pc := 20) rfl dL_where_20 (by show 0 + C ≤ C; omega) (by show 0 + S ≤ S; omega) (Or.inr ⟨ht_q.symm, by rw [ht_q]; decide, rfl, hn⟩)
      | 2, ht_q, hL =>
        cases hL
        refine ⟨21, ⟨by decide, [(0, 10, 13, 19), (0, 10, 17, 13)], (0, 10, 21, 44), [], rfl, ⟨by decide, by decide⟩, by decide, kw4_141, rfl, fun y9 hy9 => ?_⟩, fun q => ?_⟩
        · simp only [List.mem_cons, List.not_mem_nil, or_false] at hy9
          rcases hy9 with rfl | rfl
          · exact ⟨⟨by decide, by decide⟩, by decide, eNS, by decide, by decide, kw4_37⟩
          · exact ⟨⟨by decide, by decide⟩, by decide, eIA, by decide, by decide, kw2_186⟩
        refine go_astore (lw := [_, _, _, _, _]) (pc := 21) dL_where_21 (by decide) rfl ?_
        refine go_iconst (v := 3) (pc := 23) dL_where_23 (by decide) ?_
        exact go_iretI (pc := 24) rfl dL_where_24 (by show 0 + C ≤ C; omega) (by show 0 + S ≤ S; omega) (Or.inr ⟨ht_q.symm, by rw [ht_q]; decide, rfl, hn⟩)
      | i_q + 3, ht_q, hL => simp at hL
theorem lw_changed {Γ : gam} {z0 : sto} {n k x_q o_q C S : Nat} {fs : List Value} {p0_ : Int32} {p1_ : Int32} {X : Int32 → sto → Nat → Prop} {t_q : Int32} (hx_q : z0 x_q = some (cO 7 fs)) (sp : Sp Γ (rmk k C S) uX7_changed [.ref x_q, .int p0_, .int p1_] z0 n (qT (qI X) (fun x9_q σ' n' => exL [eIA] t_q x9_q ∧ σ' = z0 ∧ n ≤ n'))) (ho : ∀ v_q σ' n', X v_q σ' n' → ∃ fo, σ' o_q = some (cJ Γ 1 fo)) : Sp Γ (rmk (k + 1) C S) uL_changed [.ref x_q, .int p0_, .int p1_, .ref o_q] z0 n (qI fun r9 σ' n' => (r9 = 0 ∧ ∃ v_q σ1 fo, X v_q σ1 n' ∧ σ1 o_q = some (cJ Γ 1 fo) ∧ σ' = sup σ1 o_q (cJ Γ 1 (vp_updL fo 0 v_q.toInt64))) ∨ (r9 = t_q ∧ t_q ≠ 0 ∧ σ' = z0 ∧ n ≤ n')) := by
  refine sp_introH [some (.ref x_q), some (.int p0_), some (.int p1_), some (.ref o_q), none] (by decide +kernel) rfl (Nat.le_of_ble_eq_true rfl) rfl ?_
  refine go_aload_n (pc := 0) dL_changed_0 rfl ?_
  refine go_iconst (v := 0) (pc := 1) dL_changed_1 (by decide) ?_
  refine go_aload_n (pc := 2) dL_changed_2 rfl ?_
  refine go_iload_n (pc := 3) dL_changed_3 rfl ?_
  refine go_iload_n (pc := 4) dL_changed_4 rfl ?_
  refine go_cvH (As := [.int p0_, .int p1_]) (rest := [.int 0, .ref o_q]) (R' := rmk k C S) (pc := 5) v_L_98 rfl rfl (rcv_of (ci := 7) hx_q rfl) dL_changed_5 sp (rm_ok (Nat.le_of_ble_eq_true rfl) (Nat.le_refl _)) ⟨by show 0 + C ≤ C; omega, by show 0 + S ≤ S; omega⟩ (Nat.le_of_ble_eq_true rfl) (fun r9 σ' n' h_q => ?_) (fun E9 σ' n' h_q => ?_)
  · rcases h_q with ⟨v_q, e_q, hX⟩ | ⟨y_q, e_q, -⟩
    · cases e_q
      obtain ⟨fo, ho9⟩ := ho _ _ _ hX
      show Go Γ (rmk (k + 1) C S) uL_changed _ (0 + C) (0 + S) 8 _ (.int v_q :: [.int 0, .ref o_q]) σ' n'
      refine go_i2l (pc := 8) dL_changed_8 ?_
      refine go_last (j := 0) (pc := 9) dL_changed_9 ho9 (by exact ⟨rfl, by decide⟩) ?_
      refine go_goto (tgt := 17) (pc := 10) dL_changed_10 (by decide) ?_
      refine go_iconst (v := 0) (pc := 17) dL_changed_17 (by decide) ?_
      exact go_iretI (pc := 18) rfl dL_changed_18 (by show 0 + C ≤ C; omega) (by show 0 + S ≤ S; omega) (Or.inl ⟨rfl, v_q, _, fo, hX, ho9, rfl⟩)
    · cases e_q
  · rcases h_q with ⟨v_q, e_q, -⟩ | ⟨y_q, e_q, ⟨i_q, ht_q, hL⟩, hs, hn⟩
    · cases e_q
    · cases e_q
      subst hs
      match i_q, ht_q, hL with
      | 0, ht_q, hL =>
        cases hL
        refine ⟨13, ⟨by decide, [], (0, 10, 13, 13), [], rfl, ⟨by decide, by decide⟩, by decide, kw2_186, rfl, fun y9 hy9 => absurd hy9 List.not_mem_nil⟩, fun q => ?_⟩
        refine go_astore (lw := [_, _, _, _, _]) (pc := 13) dL_changed_13 (by decide) rfl ?_
        refine go_iconst (v := 1) (pc := 15) dL_changed_15 (by decide) ?_
        exact go_iretI (pc := 16) rfl dL_changed_16 (by show 0 + C ≤ C; omega) (by show 0 + S ≤ S; omega) (Or.inr ⟨ht_q.symm, by rw [ht_q]; decide, rfl, hn⟩)
      | i_q + 1, ht_q, hL => simp at hL
theorem lw_changedAt {Γ : gam} {z0 : sto} {n k x_q o_q C S : Nat} {fs : List Value} {p0_ : Int32} {p1_ : Int32} {p2_ : Int32} {X : Int32 → sto → Nat → Prop} {t_q : Int32} (hx_q : z0 x_q = some (cO 7 fs)) (sp : Sp Γ (rmk k C S) uX7_changedAt [.ref x_q, .int p0_, .int p1_, .int p2_] z0 n (qT (qI X) (fun x9_q σ' n' => exL [eIA] t_q x9_q ∧ σ' = z0 ∧ n ≤ n'))) (ho : ∀ v_q σ' n', X v_q σ' n' → ∃ fo, σ' o_q = some (cJ Γ 1 fo)) : Sp Γ (rmk (k + 1) C S) uL_changedAt [.ref x_q, .int p0_, .int p1_, .int p2_, .ref o_q] z0 n (qI fun r9 σ' n' => (r9 = 0 ∧ ∃ v_q σ1 fo, X v_q σ1 n' ∧ σ1 o_q = some (cJ Γ 1 fo) ∧ σ' = sup σ1 o_q (cJ Γ 1 (vp_updL fo 0 v_q.toInt64))) ∨ (r9 = t_q ∧ t_q ≠ 0 ∧ σ' = z0 ∧ n ≤ n')) := by
  refine sp_introH [some (.ref x_q), some (.int p0_), some (.int p1_), some (.int p2_), some (.ref o_q), none] (by decide +kernel) rfl (Nat.le_of_ble_eq_true rfl) rfl ?_
  refine go_aload (pc := 0) dL_changedAt_0 rfl ?_
  refine go_iconst (v := 0) (pc := 2) dL_changedAt_2 (by decide) ?_
  refine go_aload_n (pc := 3) dL_changedAt_3 rfl ?_
  refine go_iload_n (pc := 4) dL_changedAt_4 rfl ?_
  refine go_iload_n (pc := 5) dL_changedAt_5 rfl ?_
  refine go_iload_n (pc := 6) dL_changedAt_6 rfl ?_
  refine go_cvH (As := [.int p0_, .int p1_, .int p2_]) (rest := [.int 0, .ref o_q]) (R' := rmk k C S) (pc := 7) v_L_101 rfl rfl (rcv_of (ci := 7) hx_q rfl) dL_changedAt_7 sp (rm_ok (Nat.le_of_ble_eq_true rfl) (Nat.le_refl _)) ⟨by show 0 + C ≤ C; omega, by show 0 + S ≤ S; omega⟩ (Nat.le_of_ble_eq_true rfl) (fun r9 σ' n' h_q => ?_) (fun E9 σ' n' h_q => ?_)
  · rcases h_q with ⟨v_q, e_q, hX⟩ | ⟨y_q, e_q, -⟩
    · cases e_q
      obtain ⟨fo, ho9⟩ := ho _ _ _ hX
      show Go Γ (rmk (k + 1) C S) uL_changedAt _ (0 + C) (0 + S) 10 _ (.int v_q :: [.int 0, .ref o_q]) σ' n'
      refine go_i2l (pc := 10) dL_changedAt_10 ?_
      refine go_last (j := 0) (pc := 11) dL_changedAt_11 ho9 (by exact ⟨rfl, by decide⟩) ?_
      refine go_goto (tgt := 19) (pc := 12) dL_changedAt_12 (by decide) ?_
      refine go_iconst (v := 0) (pc := 19) dL_changedAt_19 (by decide) ?_
      exact go_iretI (pc := 20) rfl dL_changedAt_20 (by show 0 + C ≤ C; omega) (by show 0 + S ≤ S; omega) (Or.inl ⟨rfl, v_q, _, fo, hX, ho9, rfl⟩)
    · cases e_q
  · rcases h_q with ⟨v_q, e_q, -⟩ | ⟨y_q, e_q, ⟨i_q, ht_q, hL⟩, hs, hn⟩
    · cases e_q
    · cases e_q
      subst hs
      match i_q, ht_q, hL with
      | 0, ht_q, hL =>
        cases hL
        refine ⟨15, ⟨by decide, [], (0, 12, 15, 13), [], rfl, ⟨by decide, by decide⟩, by decide, kw2_186, rfl, fun y9 hy9 => absurd hy9 List.not_mem_nil⟩, fun q => ?_⟩
        refine go_astore (lw := [_, _, _, _, _, _]) (pc := 15) dL_changedAt_15 (by decide) rfl ?_
        refine go_iconst (v := 1) (pc := 17) dL_changedAt_17 (by decide) ?_
        exact go_iretI (pc := 18) rfl dL_changedAt_18 (by show 0 + C ≤ C; omega) (by show 0 + S ≤ S; omega) (Or.inr ⟨ht_q.symm, by rw [ht_q]; decide, rfl, hn⟩)
      | i_q + 1, ht_q, hL => simp at hL
theorem lw_sure {Γ : gam} {z0 : sto} {n k x_q o_q C S : Nat} {fs : List Value} {p0_ : Int32} {p1_ : Int32} {X : Int32 → sto → Nat → Prop} {t_q : Int32} (hx_q : z0 x_q = some (cO 7 fs)) (sp : Sp Γ (rmk k C S) uX7_sure [.ref x_q, .int p0_, .int p1_] z0 n (qT (qI X) (fun x9_q σ' n' => exL [eIA] t_q x9_q ∧ σ' = z0 ∧ n ≤ n'))) (ho : ∀ v_q σ' n', X v_q σ' n' → ∃ fo, σ' o_q = some (cJ Γ 1 fo)) : Sp Γ (rmk (k + 1) C S) uL_sure [.ref x_q, .int p0_, .int p1_, .ref o_q] z0 n (qI fun r9 σ' n' => (r9 = 0 ∧ ∃ v_q σ1 fo, X v_q σ1 n' ∧ σ1 o_q = some (cJ Γ 1 fo) ∧ σ' = sup σ1 o_q (cJ Γ 1 (vp_updL fo 0 v_q.toInt64))) ∨ (r9 = t_q ∧ t_q ≠ 0 ∧ σ' = z0 ∧ n ≤ n')) := by
  refine sp_introH [some (.ref x_q), some (.int p0_), some (.int p1_), some (.ref o_q), none] (by decide +kernel) rfl (Nat.le_of_ble_eq_true rfl) rfl ?_
  refine go_aload_n (pc := 0) dL_sure_0 rfl ?_
  refine go_iconst (v := 0) (pc := 1) dL_sure_1 (by decide) ?_
  refine go_aload_n (pc := 2) dL_sure_2 rfl ?_
  refine go_iload_n (pc := 3) dL_sure_3 rfl ?_
  refine go_iload_n (pc := 4) dL_sure_4 rfl ?_
  refine go_cvH (As := [.int p0_, .int p1_]) (rest := [.int 0, .ref o_q]) (R' := rmk k C S) (pc := 5) v_L_104 rfl rfl (rcv_of (ci := 7) hx_q rfl) dL_sure_5 sp (rm_ok (Nat.le_of_ble_eq_true rfl) (Nat.le_refl _)) ⟨by show 0 + C ≤ C; omega, by show 0 + S ≤ S; omega⟩ (Nat.le_of_ble_eq_true rfl) (fun r9 σ' n' h_q => ?_) (fun E9 σ' n' h_q => ?_)
  · rcases h_q with ⟨v_q, e_q, hX⟩ | ⟨y_q, e_q, -⟩
    · cases e_q
      obtain ⟨fo, ho9⟩ := ho _ _ _ hX
      show Go Γ (rmk (k + 1) C S) uL_sure _ (0 + C) (0 + S) 8 _ (.int v_q :: [.int 0, .ref o_q]) σ' n'
      refine go_i2l (pc := 8) dL_sure_8 ?_
      refine go_last (j := 0) (pc := 9) dL_sure_9 ho9 (by exact ⟨rfl, by decide⟩) ?_
      refine go_goto (tgt := 17) (pc := 10) dL_sure_10 (by decide) ?_
      refine go_iconst (v := 0) (pc := 17) dL_sure_17 (by decide) ?_
      exact go_iretI (pc := 18) rfl dL_sure_18 (by show 0 + C ≤ C; omega) (by show 0 + S ≤ S; omega) (Or.inl ⟨rfl, v_q, _, fo, hX, ho9, rfl⟩)
    · cases e_q
  · rcases h_q with ⟨v_q, e_q, -⟩ | ⟨y_q, e_q, ⟨i_q, ht_q, hL⟩, hs, hn⟩
    · cases e_q
    · cases e_q
      subst hs
      match i_q, ht_q, hL with
      | 0, ht_q, hL =>
        cases hL
        refine ⟨13, ⟨by decide, [], (0, 10, 13, 13), [], rfl, ⟨by decide, by decide⟩, by decide, kw2_186, rfl, fun y9 hy9 => absurd hy9 List.not_mem_nil⟩, fun q => ?_⟩
        refine go_astore (lw := [_, _, _, _, _]) (pc := 13) dL_sure_13 (by decide) rfl ?_
        refine go_iconst (v := 1) (pc := 15) dL_sure_15 (by decide) ?_
        exact go_iretI (pc := 16) rfl dL_sure_16 (by show 0 + C ≤ C; omega) (by show 0 + S ≤ S; omega) (Or.inr ⟨ht_q.symm, by rw [ht_q]; decide, rfl, hn⟩)
      | i_q + 1, ht_q, hL => simp at hL
theorem lw_look {Γ : gam} {z0 : sto} {n k x_q o_q C S : Nat} {fs : List Value} {p0_ : Int32} {p1_ : Int32} {X : Int32 → sto → Nat → Prop} {t_q : Int32} (hx_q : z0 x_q = some (cO 7 fs)) (sp : Sp Γ (rmk k C S) uX7_look [.ref x_q, .int p0_, .int p1_] z0 n (qT (qI X) (fun x9_q σ' n' => exL [eIA] t_q x9_q ∧ σ' = z0 ∧ n ≤ n'))) (ho : ∀ v_q σ' n', X v_q σ' n' → ∃ fo, σ' o_q = some (cJ Γ 1 fo)) : Sp Γ (rmk (k + 1) C S) uL_look [.ref x_q, .int p0_, .int p1_, .ref o_q] z0 n (qI fun r9 σ' n' => (r9 = 0 ∧ ∃ v_q σ1 fo, X v_q σ1 n' ∧ σ1 o_q = some (cJ Γ 1 fo) ∧ σ' = sup σ1 o_q (cJ Γ 1 (vp_updL fo 0 v_q.toInt64))) ∨ (r9 = t_q ∧ t_q ≠ 0 ∧ σ' = z0 ∧ n ≤ n')) := by
  refine sp_introH [some (.ref x_q), some (.int p0_), some (.int p1_), some (.ref o_q), none] (by decide +kernel) rfl (Nat.le_of_ble_eq_true rfl) rfl ?_
  refine go_aload_n (pc := 0) dL_look_0 rfl ?_
  refine go_iconst (v := 0) (pc := 1) dL_look_1 (by decide) ?_
  refine go_aload_n (pc := 2) dL_look_2 rfl ?_
  refine go_iload_n (pc := 3) dL_look_3 rfl ?_
  refine go_iload_n (pc := 4) dL_look_4 rfl ?_
  refine go_cvH (As := [.int p0_, .int p1_]) (rest := [.int 0, .ref o_q]) (R' := rmk k C S) (pc := 5) v_L_107 rfl rfl (rcv_of (ci := 7) hx_q rfl) dL_look_5 sp (rm_ok (Nat.le_of_ble_eq_true rfl) (Nat.le_refl _)) ⟨by show 0 + C ≤ C; omega, by show 0 + S ≤ S; omega⟩ (Nat.le_of_ble_eq_true rfl) (fun r9 σ' n' h_q => ?_) (fun E9 σ' n' h_q => ?_)
  · rcases h_q with ⟨v_q, e_q, hX⟩ | ⟨y_q, e_q, -⟩
    · cases e_q
      obtain ⟨fo, ho9⟩ := ho _ _ _ hX
      show Go Γ (rmk (k + 1) C S) uL_look _ (0 + C) (0 + S) 8 _ (.int v_q :: [.int 0, .ref o_q]) σ' n'
      refine go_i2l (pc := 8) dL_look_8 ?_
      refine go_last (j := 0) (pc := 9) dL_look_9 ho9 (by exact ⟨rfl, by decide⟩) ?_
      refine go_goto (tgt := 17) (pc := 10) dL_look_10 (by decide) ?_
      refine go_iconst (v := 0) (pc := 17) dL_look_17 (by decide) ?_
      exact go_iretI (pc := 18) rfl dL_look_18 (by show 0 + C ≤ C; omega) (by show 0 + S ≤ S; omega) (Or.inl ⟨rfl, v_q, _, fo, hX, ho9, rfl⟩)
    · cases e_q
  · rcases h_q with ⟨v_q, e_q, -⟩ | ⟨y_q, e_q, ⟨i_q, ht_q, hL⟩, hs, hn⟩
    · cases e_q
    · cases e_q
      subst hs
      match i_q, ht_q, hL with
      | 0, ht_q, hL =>
        cases hL
        refine ⟨13, ⟨by decide, [], (0, 10, 13, 13), [], rfl, ⟨by decide, by decide⟩, by decide, kw2_186, rfl, fun y9 hy9 => absurd hy9 List.not_mem_nil⟩, fun q => ?_⟩
        refine go_astore (lw := [_, _, _, _, _]) (pc := 13) dL_look_13 (by decide) rfl ?_
        refine go_iconst (v := 1) (pc := 15) dL_look_15 (by decide) ?_
        exact go_iretI (pc := 16) rfl dL_look_16 (by show 0 + C ≤ C; omega) (by show 0 + S ≤ S; omega) (Or.inr ⟨ht_q.symm, by rw [ht_q]; decide, rfl, hn⟩)
      | i_q + 1, ht_q, hL => simp at hL
theorem lw_tray {Γ : gam} {z0 : sto} {n k x_q o_q C S : Nat} {fs : List Value} {p0_ : Int32} {p1_ : Int32} {p2_ : Int32} {X : sto → Nat → Prop} {t_q : Int32} (hx_q : z0 x_q = some (cO 7 fs)) (sp : Sp Γ (rmk k C S) uX7_tray [.ref x_q, .int p0_, .int p1_, .int p2_] z0 n (qT (qV X) (fun x9_q σ' n' => exL [eNS, eIA] t_q x9_q ∧ σ' = z0 ∧ n ≤ n'))) : Sp Γ (rmk (k + 1) C S) uL_tray [.ref x_q, .int p0_, .int p1_, .int p2_] z0 n (qI fun r9 σ' n' => (r9 = 0 ∧ X σ' n') ∨ (r9 = t_q ∧ t_q ≠ 0 ∧ σ' = z0 ∧ n ≤ n')) := by
  refine sp_introH [some (.ref x_q), some (.int p0_), some (.int p1_), some (.int p2_), none] (by decide +kernel) rfl (Nat.le_of_ble_eq_true rfl) rfl ?_
  refine go_aload_n (pc := 0) dL_tray_0 rfl ?_
  refine go_iload_n (pc := 1) dL_tray_1 rfl ?_
  refine go_iload_n (pc := 2) dL_tray_2 rfl ?_
  refine go_iload_n (pc := 3) dL_tray_3 rfl ?_
  refine go_cvH (As := [.int p0_, .int p1_, .int p2_]) (rest := []) (R' := rmk k C S) (pc := 4) v_L_110 rfl rfl (rcv_of (ci := 7) hx_q rfl) dL_tray_4 sp (rm_ok (Nat.le_of_ble_eq_true rfl) (Nat.le_refl _)) ⟨by show 0 + C ≤ C; omega, by show 0 + S ≤ S; omega⟩ (Nat.le_of_ble_eq_true rfl) (fun r9 σ' n' h_q => ?_) (fun E9 σ' n' h_q => ?_)
  · rcases h_q with ⟨e_q, hX⟩ | ⟨y_q, e_q, -⟩
    · cases e_q
      refine go_goto (tgt := 18) (pc := 7) dL_tray_7 (by decide) ?_
      refine go_iconst (v := 0) (pc := 18) dL_tray_18 (by decide) ?_
      exact go_iretI (pc := 19) rfl dL_tray_19 (by show 0 + C ≤ C; omega) (by show 0 + S ≤ S; omega) (Or.inl ⟨rfl, hX⟩)
    · cases e_q
  · rcases h_q with ⟨e_q, -⟩ | ⟨y_q, e_q, ⟨i_q, ht_q, hL⟩, hs, hn⟩
    · cases e_q
    · cases e_q
      subst hs
      match i_q, ht_q, hL with
      | 0, ht_q, hL =>
        cases hL
        refine ⟨10, ⟨by decide, [], (0, 7, 10, 19), [(0, 7, 14, 13)], rfl, ⟨by decide, by decide⟩, by decide, kw4_37, rfl, fun y9 hy9 => absurd hy9 List.not_mem_nil⟩, fun q => ?_⟩
        refine go_astore (lw := [_, _, _, _, _]) (pc := 10) dL_tray_10 (by decide) rfl ?_
        refine go_iconst (v := 1) (pc := 12) dL_tray_12 (by decide) ?_
        exact go_iretI (pc := 13) rfl dL_tray_13 (by show 0 + C ≤ C; omega) (by show 0 + S ≤ S; omega) (Or.inr ⟨ht_q.symm, by rw [ht_q]; decide, rfl, hn⟩)
      | 1, ht_q, hL =>
        cases hL
        refine ⟨14, ⟨by decide, [(0, 7, 10, 19)], (0, 7, 14, 13), [], rfl, ⟨by decide, by decide⟩, by decide, kw2_186, rfl, fun y9 hy9 => by simp only [List.mem_cons, List.not_mem_nil, or_false] at hy9; rcases hy9 with rfl; exact ⟨⟨by decide, by decide⟩, by decide, eNS, by decide, by decide, kw4_37⟩⟩, fun q => ?_⟩
        refine go_astore (lw := [_, _, _, _, _]) (pc := 14) dL_tray_14 (by decide) rfl ?_
        refine go_iconst (v := 2) (pc := 16) dL_tray_16 (by decide) ?_
        exact go_iretI (pc := 17) rfl dL_tray_17 (by show 0 + C ≤ C; omega) (by show 0 + S ≤ S; omega) (Or.inr ⟨ht_q.symm, by rw [ht_q]; decide, rfl, hn⟩)
      | i_q + 2, ht_q, hL => simp at hL
theorem lw_write {Γ : gam} {z0 : sto} {n k x_q o_q C S : Nat} {fs : List Value} {p0_ : Int32} {p1_ : Int32} {p2_ : Int64} {X : Int64 → sto → Nat → Prop} {t_q : Int32} (hx_q : z0 x_q = some (cO 7 fs)) (sp : Sp Γ (rmk k C S) uX7_write [.ref x_q, .int p0_, .int p1_, .long p2_] z0 n (qT (qL X) (fun x9_q σ' n' => exL [eNS, eIS, eIO] t_q x9_q ∧ σ' = z0 ∧ n ≤ n'))) (ho : ∀ v_q σ' n', X v_q σ' n' → ∃ fo, σ' o_q = some (cJ Γ 1 fo)) : Sp Γ (rmk (k + 1) C S) uL_write [.ref x_q, .int p0_, .int p1_, .long p2_, .ref o_q] z0 n (qI fun r9 σ' n' => (r9 = 0 ∧ ∃ v_q σ1 fo, X v_q σ1 n' ∧ σ1 o_q = some (cJ Γ 1 fo) ∧ σ' = sup σ1 o_q (cJ Γ 1 (vp_updL fo 0 v_q))) ∨ (r9 = t_q ∧ t_q ≠ 0 ∧ σ' = z0 ∧ n ≤ n')) := by
  refine sp_introH [some (.ref x_q), some (.int p0_), some (.int p1_), some (.long p2_), none, some (.ref o_q), none] (by decide +kernel) rfl (Nat.le_of_ble_eq_true rfl) rfl ?_
  refine go_aload (pc := 0) dL_write_0 rfl ?_
  refine go_iconst (v := 0) (pc := 2) dL_write_2 (by decide) ?_
  refine go_aload_n (pc := 3) dL_write_3 rfl ?_
  refine go_iload_n (pc := 4) dL_write_4 rfl ?_
  refine go_iload_n (pc := 5) dL_write_5 rfl ?_
  refine go_lload_n (pc := 6) dL_write_6 rfl ?_
  refine go_cvH (As := [.int p0_, .int p1_, .long p2_]) (rest := [.int 0, .ref o_q]) (R' := rmk k C S) (pc := 7) v_L_114 rfl rfl (rcv_of (ci := 7) hx_q rfl) dL_write_7 sp (rm_ok (Nat.le_of_ble_eq_true rfl) (Nat.le_refl _)) ⟨by show 0 + C ≤ C; omega, by show 0 + S ≤ S; omega⟩ (Nat.le_of_ble_eq_true rfl) (fun r9 σ' n' h_q => ?_) (fun E9 σ' n' h_q => ?_)
  · rcases h_q with ⟨v_q, e_q, hX⟩ | ⟨y_q, e_q, -⟩
    · cases e_q
      obtain ⟨fo, ho9⟩ := ho _ _ _ hX
      show Go Γ (rmk (k + 1) C S) uL_write _ (0 + C) (0 + S) 10 _ (.long v_q :: [.int 0, .ref o_q]) σ' n'
      refine go_last (j := 0) (pc := 10) dL_write_10 ho9 (by exact ⟨rfl, by decide⟩) ?_
      refine go_goto (tgt := 26) (pc := 11) dL_write_11 (by decide) ?_
      refine go_iconst (v := 0) (pc := 26) dL_write_26 (by decide) ?_
      exact go_iretI (pc := 27) rfl dL_write_27 (by show 0 + C ≤ C; omega) (by show 0 + S ≤ S; omega) (Or.inl ⟨rfl, v_q, _, fo, hX, ho9, rfl⟩)
    · cases e_q
  · rcases h_q with ⟨v_q, e_q, -⟩ | ⟨y_q, e_q, ⟨i_q, ht_q, hL⟩, hs, hn⟩
    · cases e_q
    · cases e_q
      subst hs
      match i_q, ht_q, hL with
      | 0, ht_q, hL =>
        cases hL
        refine ⟨14, ⟨by decide, [], (0, 11, 14, 19), [(0, 11, 18, 44), (0, 11, 22, 118)], rfl, ⟨by decide, by decide⟩, by decide, kw4_37, rfl, fun y9 hy9 => absurd hy9 List.not_mem_nil⟩, fun q => ?_⟩
        refine go_astore (lw := [_, _, _, _, _, _, _]) (pc := 14) dL_write_14 (by decide) rfl ?_
        refine go_iconst (v := 1) (pc := 16) dL_write_16 (by decide) ?_
        exact go_iretI (pc := 17) rfl dL_write_17 (by show 0 + C ≤ C; omega) (by show 0 + S ≤ S; omega) (Or.inr ⟨ht_q.symm, by rw [ht_q]; decide, rfl, hn⟩)
      | 1, ht_q, hL =>
        cases hL
        refine ⟨18, ⟨by decide, [(0, 11, 14, 19)], (0, 11, 18, 44), [(0, 11, 22, 118)], rfl, ⟨by decide, by decide⟩, by decide, kw4_141, rfl, fun y9 hy9 => by simp only [List.mem_cons, List.not_mem_nil, or_false] at hy9; rcases hy9 with rfl; exact ⟨⟨by decide, by decide⟩, by decide, eNS, by decide, by decide, kw4_37⟩⟩, fun q => ?_⟩
        refine go_astore (lw := [_, _, _, _, _, _, _]) (pc := 18) dL_write_18 (by decide) rfl ?_
        refine go_iconst (v := 2) (pc := 20) dL_write_20 (by decide) ?_
        exact go_iretI (pc := 21) rfl dL_write_21 (by show 0 + C ≤ C; omega) (by show 0 + S ≤ S; omega) (Or.inr ⟨ht_q.symm, by rw [ht_q]; decide, rfl, hn⟩)
      | 2, ht_q, hL =>
        cases hL
        refine ⟨22, ⟨by decide, [(0, 11, 14, 19), (0, 11, 18, 44)], (0, 11, 22, 118), [], rfl, ⟨by decide, by decide⟩, by decide, kw5_213, rfl, fun y9 hy9 => ?_⟩, fun q => ?_⟩
        · simp only [List.mem_cons, List.not_mem_nil, or_false] at hy9
          rcases hy9 with rfl | rfl
          · exact ⟨⟨by decide, by decide⟩, by decide, eNS, by decide, by decide, kw4_37⟩
          · exact ⟨⟨by decide, by decide⟩, by decide, eIS, by decide, by decide, kw4_141⟩
        refine go_astore (lw := [_, _, _, _, _, _, _]) (pc := 22) dL_write_22 (by decide) rfl ?_
        refine go_iconst (v := 3) (pc := 24) dL_write_24 (by decide) ?_
        exact go_iretI (pc := 25) rfl dL_write_25 (by show 0 + C ≤ C; omega) (by show 0 + S ≤ S; omega) (Or.inr ⟨ht_q.symm, by rw [ht_q]; decide, rfl, hn⟩)
      | i_q + 3, ht_q, hL => simp at hL
theorem lw_copy {Γ : gam} {z0 : sto} {n k x_q o_q C S : Nat} {fs : List Value} {p0_ : Int32} {p1_ : Int32} {X : Int32 → sto → Nat → Prop} {t_q : Int32} (hx_q : z0 x_q = some (cO 7 fs)) (sp : Sp Γ (rmk k C S) uX7_copy [.ref x_q, .int p0_, .int p1_] z0 n (qT (qI X) (fun x9_q σ' n' => exL [eNS, eIS] t_q x9_q ∧ σ' = z0 ∧ n ≤ n'))) (ho : ∀ v_q σ' n', X v_q σ' n' → ∃ fo, σ' o_q = some (cJ Γ 1 fo)) : Sp Γ (rmk (k + 1) C S) uL_copy [.ref x_q, .int p0_, .int p1_, .ref o_q] z0 n (qI fun r9 σ' n' => (r9 = 0 ∧ ∃ v_q σ1 fo, X v_q σ1 n' ∧ σ1 o_q = some (cJ Γ 1 fo) ∧ σ' = sup σ1 o_q (cJ Γ 1 (vp_updL fo 0 v_q.toInt64))) ∨ (r9 = t_q ∧ t_q ≠ 0 ∧ σ' = z0 ∧ n ≤ n')) := by
  refine sp_introH [some (.ref x_q), some (.int p0_), some (.int p1_), some (.ref o_q), none] (by decide +kernel) rfl (Nat.le_of_ble_eq_true rfl) rfl ?_
  refine go_aload_n (pc := 0) dL_copy_0 rfl ?_
  refine go_iconst (v := 0) (pc := 1) dL_copy_1 (by decide) ?_
  refine go_aload_n (pc := 2) dL_copy_2 rfl ?_
  refine go_iload_n (pc := 3) dL_copy_3 rfl ?_
  refine go_iload_n (pc := 4) dL_copy_4 rfl ?_
  refine go_cvH (As := [.int p0_, .int p1_]) (rest := [.int 0, .ref o_q]) (R' := rmk k C S) (pc := 5) v_L_120 rfl rfl (rcv_of (ci := 7) hx_q rfl) dL_copy_5 sp (rm_ok (Nat.le_of_ble_eq_true rfl) (Nat.le_refl _)) ⟨by show 0 + C ≤ C; omega, by show 0 + S ≤ S; omega⟩ (Nat.le_of_ble_eq_true rfl) (fun r9 σ' n' h_q => ?_) (fun E9 σ' n' h_q => ?_)
  · rcases h_q with ⟨v_q, e_q, hX⟩ | ⟨y_q, e_q, -⟩
    · cases e_q
      obtain ⟨fo, ho9⟩ := ho _ _ _ hX
      show Go Γ (rmk (k + 1) C S) uL_copy _ (0 + C) (0 + S) 8 _ (.int v_q :: [.int 0, .ref o_q]) σ' n'
      refine go_i2l (pc := 8) dL_copy_8 ?_
      refine go_last (j := 0) (pc := 9) dL_copy_9 ho9 (by exact ⟨rfl, by decide⟩) ?_
      refine go_goto (tgt := 21) (pc := 10) dL_copy_10 (by decide) ?_
      refine go_iconst (v := 0) (pc := 21) dL_copy_21 (by decide) ?_
      exact go_iretI (pc := 22) rfl dL_copy_22 (by show 0 + C ≤ C; omega) (by show 0 + S ≤ S; omega) (Or.inl ⟨rfl, v_q, _, fo, hX, ho9, rfl⟩)
    · cases e_q
  · rcases h_q with ⟨v_q, e_q, -⟩ | ⟨y_q, e_q, ⟨i_q, ht_q, hL⟩, hs, hn⟩
    · cases e_q
    · cases e_q
      subst hs
      match i_q, ht_q, hL with
      | 0, ht_q, hL =>
        cases hL
        refine ⟨13, ⟨by decide, [], (0, 10, 13, 19), [(0, 10, 17, 44)], rfl, ⟨by decide, by decide⟩, by decide, kw4_37, rfl, fun y9 hy9 => absurd hy9 List.not_mem_nil⟩, fun q => ?_⟩
        refine go_astore (lw := [_, _, _, _, _]) (pc := 13) dL_copy_13 (by decide) rfl ?_
        refine go_iconst (v := 1) (pc := 15) dL_copy_15 (by decide) ?_
        exact go_iretI (pc := 16) rfl dL_copy_16 (by show 0 + C ≤ C; omega) (by show 0 + S ≤ S; omega) (Or.inr ⟨ht_q.symm, by rw [ht_q]; decide, rfl, hn⟩)
      | 1, ht_q, hL =>
        cases hL
        refine ⟨17, ⟨by decide, [(0, 10, 13, 19)], (0, 10, 17, 44), [], rfl, ⟨by decide, by decide⟩, by decide, kw4_141, rfl, fun y9 hy9 => by simp only [List.mem_cons, List.not_mem_nil, or_false] at hy9; rcases hy9 with rfl; exact ⟨⟨by decide, by decide⟩, by decide, eNS, by decide, by decide, kw4_37⟩⟩, fun q => ?_⟩
        refine go_astore (lw := [_, _, _, _, _]) (pc := 17) dL_copy_17 (by decide) rfl ?_
        refine go_iconst (v := 2) (pc := 19) dL_copy_19 (by decide) ?_
        exact go_iretI (pc := 20) rfl dL_copy_20 (by show 0 + C ≤ C; omega) (by show 0 + S ≤ S; omega) (Or.inr ⟨ht_q.symm, by rw [ht_q]; decide, rfl, hn⟩)
      | i_q + 2, ht_q, hL => simp at hL
theorem lw_image {Γ : gam} {z0 : sto} {n k x_q o_q C S : Nat} {fs : List Value} {p0_ : Int32} {X : sto → Nat → Prop} {t_q : Int32} (hx_q : z0 x_q = some (cO 7 fs)) (sp : Sp Γ (rmk k C S) uX7_image [.ref x_q, .int p0_] z0 n (qT (qV X) (fun x9_q σ' n' => exL [eNS] t_q x9_q ∧ σ' = z0 ∧ n ≤ n'))) : Sp Γ (rmk (k + 1) C S) uL_image [.ref x_q, .int p0_] z0 n (qI fun r9 σ' n' => (r9 = 0 ∧ X σ' n') ∨ (r9 = t_q ∧ t_q ≠ 0 ∧ σ' = z0 ∧ n ≤ n')) := by
  refine sp_introH [some (.ref x_q), some (.int p0_), none] (by decide +kernel) rfl (Nat.le_of_ble_eq_true rfl) rfl ?_
  refine go_aload_n (pc := 0) dL_image_0 rfl ?_
  refine go_iload_n (pc := 1) dL_image_1 rfl ?_
  refine go_cvH (As := [.int p0_]) (rest := []) (R' := rmk k C S) (pc := 2) v_L_123 rfl rfl (rcv_of (ci := 7) hx_q rfl) dL_image_2 sp (rm_ok (Nat.le_of_ble_eq_true rfl) (Nat.le_refl _)) ⟨by show 0 + C ≤ C; omega, by show 0 + S ≤ S; omega⟩ (Nat.le_of_ble_eq_true rfl) (fun r9 σ' n' h_q => ?_) (fun E9 σ' n' h_q => ?_)
  · rcases h_q with ⟨e_q, hX⟩ | ⟨y_q, e_q, -⟩
    · cases e_q
      refine go_goto (tgt := 11) (pc := 5) dL_image_5 (by decide) ?_
      refine go_iconst (v := 0) (pc := 11) dL_image_11 (by decide) ?_
      exact go_iretI (pc := 12) rfl dL_image_12 (by show 0 + C ≤ C; omega) (by show 0 + S ≤ S; omega) (Or.inl ⟨rfl, hX⟩)
    · cases e_q
  · rcases h_q with ⟨e_q, -⟩ | ⟨y_q, e_q, ⟨i_q, ht_q, hL⟩, hs, hn⟩
    · cases e_q
    · cases e_q
      subst hs
      match i_q, ht_q, hL with
      | 0, ht_q, hL =>
        cases hL
        refine ⟨8, ⟨by decide, [], (0, 5, 8, 19), [], rfl, ⟨by decide, by decide⟩, by decide, kw4_37, rfl, fun y9 hy9 => absurd hy9 List.not_mem_nil⟩, fun q => ?_⟩
        refine go_astore_n (lw := [_, _, _]) (pc := 8) dL_image_8 (by decide) rfl ?_
        refine go_iconst (v := 1) (pc := 9) dL_image_9 (by decide) ?_
        exact go_iretI (pc := 10) rfl dL_image_10 (by show 0 + C ≤ C; omega) (by show 0 + S ≤ S; omega) (Or.inr ⟨ht_q.symm, by rw [ht_q]; decide, rfl, hn⟩)
      | i_q + 1, ht_q, hL => simp at hL
theorem lw_restore {Γ : gam} {z0 : sto} {n k x_q o_q C S : Nat} {fs : List Value} {p0_ : Int32} {X : sto → Nat → Prop} {t_q : Int32} (hx_q : z0 x_q = some (cO 7 fs)) (sp : Sp Γ (rmk k C S) uX7_restore [.ref x_q, .int p0_] z0 n (qT (qV X) (fun x9_q σ' n' => exL [eNS, eIS] t_q x9_q ∧ σ' = z0 ∧ n ≤ n'))) : Sp Γ (rmk (k + 1) C S) uL_restore [.ref x_q, .int p0_] z0 n (qI fun r9 σ' n' => (r9 = 0 ∧ X σ' n') ∨ (r9 = t_q ∧ t_q ≠ 0 ∧ σ' = z0 ∧ n ≤ n')) := by
  refine sp_introH [some (.ref x_q), some (.int p0_), none] (by decide +kernel) rfl (Nat.le_of_ble_eq_true rfl) rfl ?_
  refine go_aload_n (pc := 0) dL_restore_0 rfl ?_
  refine go_iload_n (pc := 1) dL_restore_1 rfl ?_
  refine go_cvH (As := [.int p0_]) (rest := []) (R' := rmk k C S) (pc := 2) v_L_127 rfl rfl (rcv_of (ci := 7) hx_q rfl) dL_restore_2 sp (rm_ok (Nat.le_of_ble_eq_true rfl) (Nat.le_refl _)) ⟨by show 0 + C ≤ C; omega, by show 0 + S ≤ S; omega⟩ (Nat.le_of_ble_eq_true rfl) (fun r9 σ' n' h_q => ?_) (fun E9 σ' n' h_q => ?_)
  · rcases h_q with ⟨e_q, hX⟩ | ⟨y_q, e_q, -⟩
    · cases e_q
      refine go_goto (tgt := 14) (pc := 5) dL_restore_5 (by decide) ?_
      refine go_iconst (v := 0) (pc := 14) dL_restore_14 (by decide) ?_
      exact go_iretI (pc := 15) rfl dL_restore_15 (by show 0 + C ≤ C; omega) (by show 0 + S ≤ S; omega) (Or.inl ⟨rfl, hX⟩)
    · cases e_q
  · rcases h_q with ⟨e_q, -⟩ | ⟨y_q, e_q, ⟨i_q, ht_q, hL⟩, hs, hn⟩
    · cases e_q
    · cases e_q
      subst hs
      match i_q, ht_q, hL with
      | 0, ht_q, hL =>
        cases hL
        refine ⟨8, ⟨by decide, [], (0, 5, 8, 19), [(0, 5, 11, 44)], rfl, ⟨by decide, by decide⟩, by decide, kw4_37, rfl, fun y9 hy9 => absurd hy9 List.not_mem_nil⟩, fun q => ?_⟩
        refine go_astore_n (lw := [_, _, _]) (pc := 8) dL_restore_8 (by decide) rfl ?_
        refine go_iconst (v := 1) (pc := 9) dL_restore_9 (by decide) ?_
        exact go_iretI (pc := 10) rfl dL_restore_10 (by show 0 + C ≤ C; omega) (by show 0 + S ≤ S; omega) (Or.inr ⟨ht_q.symm, by rw [ht_q]; decide, rfl, hn⟩)
      | 1, ht_q, hL =>
        cases hL
        refine ⟨11, ⟨by decide, [(0, 5, 8, 19)], (0, 5, 11, 44), [], rfl, ⟨by decide, by decide⟩, by decide, kw4_141, rfl, fun y9 hy9 => by simp only [List.mem_cons, List.not_mem_nil, or_false] at hy9; rcases hy9 with rfl; exact ⟨⟨by decide, by decide⟩, by decide, eNS, by decide, by decide, kw4_37⟩⟩, fun q => ?_⟩
        refine go_astore_n (lw := [_, _, _]) (pc := 11) dL_restore_11 (by decide) rfl ?_
        refine go_iconst (v := 2) (pc := 12) dL_restore_12 (by decide) ?_
        exact go_iretI (pc := 13) rfl dL_restore_13 (by show 0 + C ≤ C; omega) (by show 0 + S ≤ S; omega) (Or.inr ⟨ht_q.symm, by rw [ht_q]; decide, rfl, hn⟩)
      | i_q + 2, ht_q, hL => simp at hL
