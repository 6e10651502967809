/-! ===== the class: bits counted, rows filled; what is_q to come ===== -/
def bcA (x : Int32) : Int32 := x - ((x.toUInt32 >>> (Int32.toUInt32 1 &&& Int32.toUInt32 31)).toInt32 &&& 1431655765)
def bcB (x : Int32) : Int32 := (x &&& 858993459) + ((x.toUInt32 >>> (Int32.toUInt32 2 &&& Int32.toUInt32 31)).toInt32 &&& 858993459)
def bcC (x : Int32) : Int32 := (x + (x.toUInt32 >>> (Int32.toUInt32 4 &&& Int32.toUInt32 31)).toInt32) &&& 252645135
def bcD (x : Int32) : Int32 := x + (x.toUInt32 >>> (Int32.toUInt32 8 &&& Int32.toUInt32 31)).toInt32
def bcE (x : Int32) : Int32 := x + (x.toUInt32 >>> (Int32.toUInt32 16 &&& Int32.toUInt32 31)).toInt32
theorem bc_fin : ∀ v : Fin 256, bcE (bcD (bcC (bcB (bcA (nI v.val))))) &&& 63 = szI (nI v.val) := by decide +kernel
theorem bc_ok {s : Int32} (hs : setP s) : bcE (bcD (bcC (bcB (bcA s)))) &&& 63 = szI s := by
  obtain ⟨v, hv_q, rfl⟩ := hs
  exact bc_fin ⟨v, hv_q⟩
theorem cp_bitCount {Γ : gam} {z0 : sto} {n k : Nat} {s : Int32} (hs : setP s) : Sp Γ (rmk k 0 0) uJ6_bitCount_0f7a4 [.int s] z0 n (qP (szI s) z0 n) := by
  refine sp_intro [some (.int s)] (by decide +kernel) rfl (Nat.le_of_ble_eq_true rfl) rfl ?_
  refine go_iload_n (pc := 0) dJ6_bitCount_0f7a4_0 rfl ?_
  refine go_iload_n (pc := 1) dJ6_bitCount_0f7a4_1 rfl ?_
  refine go_iconst (v := 1) (pc := 2) dJ6_bitCount_0f7a4_2 (by decide) ?_
  refine go_iushr (pc := 3) dJ6_bitCount_0f7a4_3 ?_
  refine go_ldcw (pc := 4) kw2_180 dJ6_bitCount_0f7a4_4 ?_
  refine go_iand (pc := 7) dJ6_bitCount_0f7a4_7 ?_
  refine go_isub (pc := 8) dJ6_bitCount_0f7a4_8 ?_
  refine go_istore_n (lw := [_]) (pc := 9) dJ6_bitCount_0f7a4_9 (by decide) rfl ?_
  refine go_iload_n (pc := 10) dJ6_bitCount_0f7a4_10 rfl ?_
  refine go_ldcw (pc := 11) kw2_181 dJ6_bitCount_0f7a4_11 ?_
  refine go_iand (pc := 14) dJ6_bitCount_0f7a4_14 ?_
  refine go_iload_n (pc := 15) dJ6_bitCount_0f7a4_15 rfl ?_
  refine go_iconst (v := 2) (pc := 16) dJ6_bitCount_0f7a4_16 (by decide) ?_
  refine go_iushr (pc := 17) dJ6_bitCount_0f7a4_17 ?_
  refine go_ldcw (pc := 18) kw2_181 dJ6_bitCount_0f7a4_18 ?_
  refine go_iand (pc := 21) dJ6_bitCount_0f7a4_21 ?_
  refine go_iadd (pc := 22) dJ6_bitCount_0f7a4_22 ?_
  refine go_istore_n (lw := [_]) (pc := 23) dJ6_bitCount_0f7a4_23 (by decide) rfl ?_
  refine go_iload_n (pc := 24) dJ6_bitCount_0f7a4_24 rfl ?_
  refine go_iload_n (pc := 25) dJ6_bitCount_0f7a4_25 rfl ?_
  refine go_iconst (v := 4) (pc := 26) dJ6_bitCount_0f7a4_26 (by decide) ?_
  refine go_iushr (pc := 27) dJ6_bitCount_0f7a4_27 ?_
  refine go_iadd (pc := 28) dJ6_bitCount_0f7a4_28 ?_
  refine go_ldcw (pc := 29) kw2_182 dJ6_bitCount_0f7a4_29 ?_
  refine go_iand (pc := 32) dJ6_bitCount_0f7a4_32 ?_
  refine go_istore_n (lw := [_]) (pc := 33) dJ6_bitCount_0f7a4_33 (by decide) rfl ?_
  refine go_iload_n (pc := 34) dJ6_bitCount_0f7a4_34 rfl ?_
  refine go_iload_n (pc := 35) dJ6_bitCount_0f7a4_35 rfl ?_
  refine go_bipush (v := 8) (pc := 36) dJ6_bitCount_0f7a4_36 (by decide) ?_
  refine go_iushr (pc := 38) dJ6_bitCount_0f7a4_38 ?_
  refine go_iadd (pc := 39) dJ6_bitCount_0f7a4_39 ?_
  refine go_istore_n (lw := [_]) (pc := 40) dJ6_bitCount_0f7a4_40 (by decide) rfl ?_
  refine go_iload_n (pc := 41) dJ6_bitCount_0f7a4_41 rfl ?_
  refine go_iload_n (pc := 42) dJ6_bitCount_0f7a4_42 rfl ?_
  refine go_bipush (v := 16) (pc := 43) dJ6_bitCount_0f7a4_43 (by decide) ?_
  refine go_iushr (pc := 45) dJ6_bitCount_0f7a4_45 ?_
  refine go_iadd (pc := 46) dJ6_bitCount_0f7a4_46 ?_
  refine go_istore_n (lw := [_]) (pc := 47) dJ6_bitCount_0f7a4_47 (by decide) rfl ?_
  refine go_iload_n (pc := 48) dJ6_bitCount_0f7a4_48 rfl ?_
  refine go_bipush (v := 63) (pc := 49) dJ6_bitCount_0f7a4_49 (by decide) ?_
  refine go_iand (pc := 51) dJ6_bitCount_0f7a4_51 ?_
  exact go_iretP (pc := 52) rfl dJ6_bitCount_0f7a4_52 (Nat.le_of_ble_eq_true rfl) (Nat.le_of_ble_eq_true rfl) (bc_ok hs)
theorem fil_upd {f : Nat → Int32} {i_q : Nat} {v : Int32} (h_q : ∀ j, j < i_q → f j = v) : ∀ j, j < i_q + 1 → upd f i_q v j = v := fun j hj_q => by
  unfold upd
  split
  · rfl
  · exact h_q j (by omega)
theorem fil_vp_updL {f : Nat → Int64} {i_q : Nat} {v : Int64} (h_q : ∀ j, j < i_q → f j = v) : ∀ j, j < i_q + 1 → vp_updL f i_q v j = v := fun j hj_q => by
  unfold vp_updL
  split
  · rfl
  · exact h_q j (by omega)
theorem cp_fillI {Γ : gam} {z0 : sto} {n k x N : Nat} {f : Nat → Int32} (ho : z0 x = some (cI Γ N f)) (hN_q : N < 2 ^ 31) (v : Int32) : Sp Γ (rmk k 0 0) uJ7_fill_53178 [.ref x, .int v] z0 n (qV fun σ' n' => n' = n ∧ (∃ f' : Nat → Int32, σ' x = some (cI Γ N f') ∧ ∀ j, j < N → f' j = v) ∧ ∀ q, q ≠ x → σ' q = z0 q) := by
  refine sp_intro [some (.ref x), some (.int v), none, none] (by decide +kernel) rfl (Nat.le_of_ble_eq_true rfl) rfl ?_
  refine go_iconst (v := 0) (pc := 0) dJ7_fill_53178_0 (by decide) ?_
  refine go_istore_n (lw := [_, _, _, _]) (pc := 1) dJ7_fill_53178_1 (by decide) rfl ?_
  refine go_aload_n (pc := 2) dJ7_fill_53178_2 rfl ?_
  refine go_alen (pc := 3) dJ7_fill_53178_3 ho (t0 := 0) rfl rfl ?_
  refine go_istore_n (lw := [_, _, _, _]) (pc := 4) dJ7_fill_53178_4 (by decide) rfl ?_
  refine go_iter (N) (fun i_q lv9 s9 n9 => ∃ (f9 : Nat → Int32), lv9 = [some (.ref x), some (.int v), some (.int (nI i_q)), some (.int (nI N))] ∧ (s9 x = some (cI Γ N f9)) ∧ (∀ j, j < i_q → f9 j = v) ∧ (∀ q, q ≠ x → s9 q = z0 q) ∧ n = n9) ⟨f, rfl, ho, (fun j hj_q => by omega), (fun q _ => rfl), rfl⟩ ?_ ?_
  · rintro i_q lv9 σ n9 hi_q ⟨f9, rfl, ho, hfi, hq_q, rfl⟩ ih_q
    refine go_iload_n (pc := 5) dJ7_fill_53178_5 rfl ?_
    refine go_iload_n (pc := 6) dJ7_fill_53178_6 rfl ?_
    refine go_icmp_ge (tgt := 20) (pc := 7) dJ7_fill_53178_7 (by decide) (fun h_7 => by exfalso; exact absurd h_7 (nI_ge (by omega) (by omega))) (fun h_7 => ?_)
    refine go_aload_n (pc := 10) dJ7_fill_53178_10 rfl ?_
    refine go_iload_n (pc := 11) dJ7_fill_53178_11 rfl ?_
    refine go_iload_n (pc := 12) dJ7_fill_53178_12 rfl ?_
    refine go_iast (hN := hN_q) (pc := 13) dJ7_fill_53178_13 ho (by exact ⟨rfl, hi_q⟩) ?_
    refine go_iinc (v := 1) (lw := [_, _, _, _]) (pc := 14) dJ7_fill_53178_14 rfl (by decide) (by decide) rfl ?_
    refine go_goto (tgt := 5) (pc := 17) dJ7_fill_53178_17 (by decide) ?_
    rw [nI_1]
    exact ih_q _ _ _ ⟨_, rfl, sup_eq, (fil_upd hfi), (fun q h_q => sup_ne h_q (hq_q q h_q)), rfl⟩
  · rintro lv9 σ n9 ⟨f9, rfl, ho, hfi, hq_q, rfl⟩
    refine go_iload_n (pc := 5) dJ7_fill_53178_5 rfl ?_
    refine go_iload_n (pc := 6) dJ7_fill_53178_6 rfl ?_
    refine go_icmp_ge (tgt := 20) (pc := 7) dJ7_fill_53178_7 (by decide) (fun h_7 => ?_) (fun h_7 => by exfalso; exact h_7 (nI_le (by omega) (by omega)))
    exact go_vretV (pc := 20) rfl dJ7_fill_53178_20 (Nat.le_of_ble_eq_true rfl) (Nat.le_of_ble_eq_true rfl) ⟨rfl, ⟨_, ho, hfi⟩, hq_q⟩
theorem cp_fillL {Γ : gam} {z0 : sto} {n k x N : Nat} {f : Nat → Int64} (ho : z0 x = some (cJ Γ N f)) (hN_q : N < 2 ^ 31) (v : Int64) : Sp Γ (rmk k 0 0) uJ7_fill_d0a16 [.ref x, .long v] z0 n (qV fun σ' n' => n' = n ∧ (∃ f' : Nat → Int64, σ' x = some (cJ Γ N f') ∧ ∀ j, j < N → f' j = v) ∧ ∀ q, q ≠ x → σ' q = z0 q) := by
  refine sp_intro [some (.ref x), some (.long v), none, none, none] (by decide +kernel) rfl (Nat.le_of_ble_eq_true rfl) rfl ?_
  refine go_iconst (v := 0) (pc := 0) dJ7_fill_d0a16_0 (by decide) ?_
  refine go_istore_n (lw := [_, _, _, _, _]) (pc := 1) dJ7_fill_d0a16_1 (by decide) rfl ?_
  refine go_aload_n (pc := 2) dJ7_fill_d0a16_2 rfl ?_
  refine go_alen (pc := 3) dJ7_fill_d0a16_3 ho (t0 := 1) rfl rfl ?_
  refine go_istore (lw := [_, _, _, _, _]) (pc := 4) dJ7_fill_d0a16_4 (by decide) rfl ?_
  refine go_iter (N) (fun i_q lv9 s9 n9 => ∃ (f9 : Nat → Int64), lv9 = [some (.ref x), some (.long v), none, some (.int (nI i_q)), some (.int (nI N))] ∧ (s9 x = some (cJ Γ N f9)) ∧ (∀ j, j < i_q → f9 j = v) ∧ (∀ q, q ≠ x → s9 q = z0 q) ∧ n = n9) ⟨f, rfl, ho, (fun j hj_q => by omega), (fun q _ => rfl), rfl⟩ ?_ ?_
  · rintro i_q lv9 σ n9 hi_q ⟨f9, rfl, ho, hfi, hq_q, rfl⟩ ih_q
    refine go_iload_n (pc := 6) dJ7_fill_d0a16_6 rfl ?_
    refine go_iload (pc := 7) dJ7_fill_d0a16_7 rfl ?_
    refine go_icmp_ge (tgt := 22) (pc := 9) dJ7_fill_d0a16_9 (by decide) (fun h_9 => by exfalso; exact absurd h_9 (nI_ge (by omega) (by omega))) (fun h_9 => ?_)
    refine go_aload_n (pc := 12) dJ7_fill_d0a16_12 rfl ?_
    refine go_iload_n (pc := 13) dJ7_fill_d0a16_13 rfl ?_
    refine go_lload_n (pc := 14) dJ7_fill_d0a16_14 rfl ?_
    refine go_last (hN := hN_q) (pc := 15) dJ7_fill_d0a16_15 ho (by exact ⟨rfl, hi_q⟩) ?_
    refine go_iinc (v := 1) (lw := [_, _, _, _, _]) (pc := 16) dJ7_fill_d0a16_16 rfl (by decide) (by decide) rfl ?_
    refine go_goto (tgt := 6) (pc := 19) dJ7_fill_d0a16_19 (by decide) ?_
    rw [nI_1]
    exact ih_q _ _ _ ⟨_, rfl, sup_eq, (fil_vp_updL hfi), (fun q h_q => sup_ne h_q (hq_q q h_q)), rfl⟩
  · rintro lv9 σ n9 ⟨f9, rfl, ho, hfi, hq_q, rfl⟩
    refine go_iload_n (pc := 6) dJ7_fill_d0a16_6 rfl ?_
    refine go_iload (pc := 7) dJ7_fill_d0a16_7 rfl ?_
    refine go_icmp_ge (tgt := 22) (pc := 9) dJ7_fill_d0a16_9 (by decide) (fun h_9 => ?_) (fun h_9 => by exfalso; exact h_9 (nI_le (by omega) (by omega)))
    exact go_vretV (pc := 22) rfl dJ7_fill_d0a16_22 (Nat.le_of_ble_eq_true rfl) (Nat.le_of_ble_eq_true rfl) ⟨rfl, ⟨_, ho, hfi⟩, hq_q⟩
theorem bit_v (s p : Int32) : (s >>> (p &&& 31)) &&& 1 = bI (hasB s p = true) := by
  unfold bI hasB
  obtain ⟨j, hj_q, e_q⟩ := pk_andE (s >>> (p &&& 31)) (m := 1) 1 (by decide)
  rw [e_q]
  rcases (show j = 0 ∨ j = 1 by omega) with rfl | rfl <;> simp <;> rfl
theorem cp_person {Γ : gam} {D : Nat} {ro : Nat → Nat} {z0 : sto} {n k a b : Nat} {w : Int32} {K ag pa pf ch co rw bk G : row} {im : Nat → Option Nat} {lm lt lw : Value} (hC : CoAt Γ ro z0 a G im) (hR_q : SrAt Γ ro z0 (a + 14) b w (K 33) ch co rw bk) (hr_q : rS K ch co rw bk) (hQ_q : BrAt Γ D ro z0 b K ag pa pf lm lt lw) (hB_q : okB K) (hg_q : gS K) (hS_q : ScAt Γ ro z0 a) (hD : a + 113 < D) (hsb : b = a + 10 ∨ a + 113 < b) (hw_q : w = K 32) (hk : 12 ≤ k) (p z : Int32) : Sp Γ (rmk k 4 24) uX7_person [.ref a, .int p, .int z] z0 n (qT (qI fun v σ' n' => (aPerson K p.toInt z.toInt).1 = 0 ∧ v = (aPerson K p.toInt z.toInt).2 ∧ n' = n ∧ ScAt Γ ro σ' a ∧ frS Γ ro (scr a) z0 σ') (fun x σ' n' => exL [eNS, eIA] (aPerson K p.toInt z.toInt).1 x ∧ σ' = z0 ∧ n ≤ n')) := by
  have hP8 := hB_q.1.2.1
  have hH5 := hB_q.1.2.2.2.1
  have hW4 := hB_q.1.2.2.2.2.2
  refine sp_intro [some (.ref a), some (.int p), some (.int z), none] (by decide +kernel) rfl (Nat.le_of_ble_eq_true rfl) rfl ?_
  refine go_aload_n (pc := 0) dX7_person_0 rfl ?_
  refine go_iload_n (pc := 1) dX7_person_1 rfl ?_
  refine go_V1Vx (pc := 2) v_X7_135 rfl rfl (rcv_of (ci := 7) (by first | exact co0 hC | exact sr0 hR_q | exact be0 hQ_q | exact sr0 hT_q | exact be0 hQ9 | exact sr1 hR_q | exact sr2 hR_q | exact sr3 hR_q | exact sr4 hR_q | exact be1 hQ_q | exact be2 hQ_q | exact be3 hQ_q | exact sr3 hT_q | exact sr2 hT_q | exact sr1 hT_q | exact sr4 hT_q | exact co4 hC | exact co2 hC | exact co3 hC | exact co0 hC9 | exact sr0 hR9 | exact co4 hC9 | exact sr3 hR9 | exact sr2 hR9) rfl) dX7_person_2 (cp_needPerson (k := k - 1) hC hR_q hr_q hQ_q hB_q (by omega) _) (fun x σx nx hx_q => by obtain ⟨h9_q, rfl, rfl, h8_q⟩ := hx_q; exact Or.inr ⟨_, rfl, ⟨0, (by rw [show aPerson K p.toInt z.toInt = (1, 0) from by simp only [aPerson, h9_q]]; rfl), rfl⟩, rfl, h8_q⟩) (fun σ n h_q => ?_)
  obtain ⟨⟨j1_q, hj1, rfl, hj1a⟩, rfl, rfl⟩ := h_q
  refine go_aload_n (pc := 5) dX7_person_5 rfl ?_
  refine go_iload_n (pc := 6) dX7_person_6 rfl ?_
  refine go_iconst (v := 0) (pc := 7) dX7_person_7 (by decide) ?_
  refine go_bipush (v := 7) (pc := 8) dX7_person_8 (by decide) ?_
  refine go_V3Vx (pc := 10) v_X7_90 rfl rfl (rcv_of (ci := 7) (by first | exact co0 hC | exact sr0 hR_q | exact be0 hQ_q | exact sr0 hT_q | exact be0 hQ9 | exact sr1 hR_q | exact sr2 hR_q | exact sr3 hR_q | exact sr4 hR_q | exact be1 hQ_q | exact be2 hQ_q | exact be3 hQ_q | exact sr3 hT_q | exact sr2 hT_q | exact sr1 hT_q | exact sr4 hT_q | exact co4 hC | exact co2 hC | exact co3 hC | exact co0 hC9 | exact sr0 hR9 | exact co4 hC9 | exact sr3 hR9 | exact sr2 hR9) rfl) dX7_person_10 (cp_nW (k := k - 1) (lo := 0) (hi_q := 7) (by omega) (by decide) (by decide) _) (fun x σx nx hx_q => by obtain ⟨h9_q, rfl, rfl, h8_q⟩ := hx_q; exact Or.inr ⟨_, rfl, ⟨1, (by rw [show aPerson K (nI j1_q).toInt z.toInt = (2, 0) from by simp only [aPerson, hj1, h9_q]]; rfl), rfl⟩, rfl, h8_q⟩) (fun σ n h_q => ?_)
  obtain ⟨⟨j2_q, hj2, rfl, hj2a, hj2b⟩, rfl, rfl⟩ := h_q
  rcases (show j2_q = 0 ∨ j2_q = 1 ∨ j2_q = 2 ∨ j2_q = 3 ∨ j2_q = 4 ∨ j2_q = 5 ∨ j2_q = 6 ∨ j2_q = 7 by omega) with rfl | rfl | rfl | rfl | rfl | rfl | rfl | rfl
  · refine go_aload_n (pc := 13) dX7_person_13 rfl ?_
    refine go_getf (pc := 14) f_X7_65 dX7_person_14 (by first | exact co0 hC | exact sr0 hR_q | exact be0 hQ_q | exact sr0 hT_q | exact be0 hQ9 | exact sr1 hR_q | exact sr2 hR_q | exact sr3 hR_q | exact sr4 hR_q | exact be1 hQ_q | exact be2 hQ_q | exact be3 hQ_q | exact sr3 hT_q | exact sr2 hT_q | exact sr1 hT_q | exact sr4 hT_q | exact co4 hC | exact co2 hC | exact co3 hC | exact co0 hC9 | exact sr0 hR9 | exact co4 hC9 | exact sr3 hR9 | exact sr2 hR9) (by rfl) ?_
    refine go_getf (pc := 17) f_X7_120 dX7_person_17 (by first | exact co0 hC | exact sr0 hR_q | exact be0 hQ_q | exact sr0 hT_q | exact be0 hQ9 | exact sr1 hR_q | exact sr2 hR_q | exact sr3 hR_q | exact sr4 hR_q | exact be1 hQ_q | exact be2 hQ_q | exact be3 hQ_q | exact sr3 hT_q | exact sr2 hT_q | exact sr1 hT_q | exact sr4 hT_q | exact co4 hC | exact co2 hC | exact co3 hC | exact co0 hC9 | exact sr0 hR9 | exact co4 hC9 | exact sr3 hR9 | exact sr2 hR9) (by rfl) ?_
    refine go_astore_n (lw := [_, _, _, _]) (pc := 20) dX7_person_20 (by decide) rfl ?_
    refine go_iload_n (pc := 21) dX7_person_21 rfl ?_
    refine go_tableIn (off := 42) (tgt := 64) (pc := 22) dX7_person_22 (by decide) (by decide) rfl (by decide) ?_
    refine go_aload_n (pc := 64) dX7_person_64 rfl ?_
    refine go_getf (pc := 65) f_X7_65 dX7_person_65 (by first | exact co0 hC | exact sr0 hR_q | exact be0 hQ_q | exact sr0 hT_q | exact be0 hQ9 | exact sr1 hR_q | exact sr2 hR_q | exact sr3 hR_q | exact sr4 hR_q | exact be1 hQ_q | exact be2 hQ_q | exact be3 hQ_q | exact sr3 hT_q | exact sr2 hT_q | exact sr1 hT_q | exact sr4 hT_q | exact co4 hC | exact co2 hC | exact co3 hC | exact co0 hC9 | exact sr0 hR9 | exact co4 hC9 | exact sr3 hR9 | exact sr2 hR9) (by rfl) ?_
    refine go_getf (pc := 68) f_X7_138 dX7_person_68 (by first | exact co0 hC | exact sr0 hR_q | exact be0 hQ_q | exact sr0 hT_q | exact be0 hQ9 | exact sr1 hR_q | exact sr2 hR_q | exact sr3 hR_q | exact sr4 hR_q | exact be1 hQ_q | exact be2 hQ_q | exact be3 hQ_q | exact sr3 hT_q | exact sr2 hT_q | exact sr1 hT_q | exact sr4 hT_q | exact co4 hC | exact co2 hC | exact co3 hC | exact co0 hC9 | exact sr0 hR9 | exact co4 hC9 | exact sr3 hR9 | exact sr2 hR9) (by rfl) ?_
    refine go_iload_n (pc := 71) dX7_person_71 rfl ?_
    refine go_iald (pc := 72) dX7_person_72 (by first | exact co0 hC | exact sr0 hR_q | exact be0 hQ_q | exact sr0 hT_q | exact be0 hQ9 | exact sr1 hR_q | exact sr2 hR_q | exact sr3 hR_q | exact sr4 hR_q | exact be1 hQ_q | exact be2 hQ_q | exact be3 hQ_q | exact sr3 hT_q | exact sr2 hT_q | exact sr1 hT_q | exact sr4 hT_q | exact co4 hC | exact co2 hC | exact co3 hC | exact co0 hC9 | exact sr0 hR9 | exact co4 hC9 | exact sr3 hR9 | exact sr2 hR9) (by exact ⟨rfl, by omega⟩) ?_
    exact go_iretT (pc := 73) rfl dX7_person_73 (Nat.le_of_ble_eq_true rfl) (Nat.le_of_ble_eq_true rfl) ⟨by simp only [aPerson, hj1, hj2], by simp only [aPerson, hj1, hj2]; rw [(hr_q.1 j1_q hj1a).1]; rfl, rfl, hS_q, frS.rf⟩
  · refine go_aload_n (pc := 13) dX7_person_13 rfl ?_
    refine go_getf (pc := 14) f_X7_65 dX7_person_14 (by first | exact co0 hC | exact sr0 hR_q | exact be0 hQ_q | exact sr0 hT_q | exact be0 hQ9 | exact sr1 hR_q | exact sr2 hR_q | exact sr3 hR_q | exact sr4 hR_q | exact be1 hQ_q | exact be2 hQ_q | exact be3 hQ_q | exact sr3 hT_q | exact sr2 hT_q | exact sr1 hT_q | exact sr4 hT_q | exact co4 hC | exact co2 hC | exact co3 hC | exact co0 hC9 | exact sr0 hR9 | exact co4 hC9 | exact sr3 hR9 | exact sr2 hR9) (by rfl) ?_
    refine go_getf (pc := 17) f_X7_120 dX7_person_17 (by first | exact co0 hC | exact sr0 hR_q | exact be0 hQ_q | exact sr0 hT_q | exact be0 hQ9 | exact sr1 hR_q | exact sr2 hR_q | exact sr3 hR_q | exact sr4 hR_q | exact be1 hQ_q | exact be2 hQ_q | exact be3 hQ_q | exact sr3 hT_q | exact sr2 hT_q | exact sr1 hT_q | exact sr4 hT_q | exact co4 hC | exact co2 hC | exact co3 hC | exact co0 hC9 | exact sr0 hR9 | exact co4 hC9 | exact sr3 hR9 | exact sr2 hR9) (by rfl) ?_
    refine go_astore_n (lw := [_, _, _, _]) (pc := 20) dX7_person_20 (by decide) rfl ?_
    refine go_iload_n (pc := 21) dX7_person_21 rfl ?_
    refine go_tableIn (off := 52) (tgt := 74) (pc := 22) dX7_person_22 (by decide) (by decide) rfl (by decide) ?_
    refine go_aload_n (pc := 74) dX7_person_74 rfl ?_
    refine go_getf (pc := 75) f_X7_65 dX7_person_75 (by first | exact co0 hC | exact sr0 hR_q | exact be0 hQ_q | exact sr0 hT_q | exact be0 hQ9 | exact sr1 hR_q | exact sr2 hR_q | exact sr3 hR_q | exact sr4 hR_q | exact be1 hQ_q | exact be2 hQ_q | exact be3 hQ_q | exact sr3 hT_q | exact sr2 hT_q | exact sr1 hT_q | exact sr4 hT_q | exact co4 hC | exact co2 hC | exact co3 hC | exact co0 hC9 | exact sr0 hR9 | exact co4 hC9 | exact sr3 hR9 | exact sr2 hR9) (by rfl) ?_
    refine go_getf (pc := 78) f_X7_141 dX7_person_78 (by first | exact co0 hC | exact sr0 hR_q | exact be0 hQ_q | exact sr0 hT_q | exact be0 hQ9 | exact sr1 hR_q | exact sr2 hR_q | exact sr3 hR_q | exact sr4 hR_q | exact be1 hQ_q | exact be2 hQ_q | exact be3 hQ_q | exact sr3 hT_q | exact sr2 hT_q | exact sr1 hT_q | exact sr4 hT_q | exact co4 hC | exact co2 hC | exact co3 hC | exact co0 hC9 | exact sr0 hR9 | exact co4 hC9 | exact sr3 hR9 | exact sr2 hR9) (by rfl) ?_
    refine go_iload_n (pc := 81) dX7_person_81 rfl ?_
    refine go_iald (pc := 82) dX7_person_82 (by first | exact co0 hC | exact sr0 hR_q | exact be0 hQ_q | exact sr0 hT_q | exact be0 hQ9 | exact sr1 hR_q | exact sr2 hR_q | exact sr3 hR_q | exact sr4 hR_q | exact be1 hQ_q | exact be2 hQ_q | exact be3 hQ_q | exact sr3 hT_q | exact sr2 hT_q | exact sr1 hT_q | exact sr4 hT_q | exact co4 hC | exact co2 hC | exact co3 hC | exact co0 hC9 | exact sr0 hR9 | exact co4 hC9 | exact sr3 hR9 | exact sr2 hR9) (by exact ⟨rfl, by omega⟩) ?_
    exact go_iretT (pc := 83) rfl dX7_person_83 (Nat.le_of_ble_eq_true rfl) (Nat.le_of_ble_eq_true rfl) ⟨by simp only [aPerson, hj1, hj2], by simp only [aPerson, hj1, hj2]; rw [(hr_q.1 j1_q hj1a).2.1]; rfl, rfl, hS_q, frS.rf⟩
  · refine go_aload_n (pc := 13) dX7_person_13 rfl ?_
    refine go_getf (pc := 14) f_X7_65 dX7_person_14 (by first | exact co0 hC | exact sr0 hR_q | exact be0 hQ_q | exact sr0 hT_q | exact be0 hQ9 | exact sr1 hR_q | exact sr2 hR_q | exact sr3 hR_q | exact sr4 hR_q | exact be1 hQ_q | exact be2 hQ_q | exact be3 hQ_q | exact sr3 hT_q | exact sr2 hT_q | exact sr1 hT_q | exact sr4 hT_q | exact co4 hC | exact co2 hC | exact co3 hC | exact co0 hC9 | exact sr0 hR9 | exact co4 hC9 | exact sr3 hR9 | exact sr2 hR9) (by rfl) ?_
    refine go_getf (pc := 17) f_X7_120 dX7_person_17 (by first | exact co0 hC | exact sr0 hR_q | exact be0 hQ_q | exact sr0 hT_q | exact be0 hQ9 | exact sr1 hR_q | exact sr2 hR_q | exact sr3 hR_q | exact sr4 hR_q | exact be1 hQ_q | exact be2 hQ_q | exact be3 hQ_q | exact sr3 hT_q | exact sr2 hT_q | exact sr1 hT_q | exact sr4 hT_q | exact co4 hC | exact co2 hC | exact co3 hC | exact co0 hC9 | exact sr0 hR9 | exact co4 hC9 | exact sr3 hR9 | exact sr2 hR9) (by rfl) ?_
    refine go_astore_n (lw := [_, _, _, _]) (pc := 20) dX7_person_20 (by decide) rfl ?_
    refine go_iload_n (pc := 21) dX7_person_21 rfl ?_
    refine go_tableIn (off := 62) (tgt := 84) (pc := 22) dX7_person_22 (by decide) (by decide) rfl (by decide) ?_
    refine go_aload_n (pc := 84) dX7_person_84 rfl ?_
    refine go_getf (pc := 85) f_X7_144 dX7_person_85 (by first | exact co0 hC | exact sr0 hR_q | exact be0 hQ_q | exact sr0 hT_q | exact be0 hQ9 | exact sr1 hR_q | exact sr2 hR_q | exact sr3 hR_q | exact sr4 hR_q | exact be1 hQ_q | exact be2 hQ_q | exact be3 hQ_q | exact sr3 hT_q | exact sr2 hT_q | exact sr1 hT_q | exact sr4 hT_q | exact co4 hC | exact co2 hC | exact co3 hC | exact co0 hC9 | exact sr0 hR9 | exact co4 hC9 | exact sr3 hR9 | exact sr2 hR9) (by rfl) ?_
    refine go_iload_n (pc := 88) dX7_person_88 rfl ?_
    refine go_iald (pc := 89) dX7_person_89 (by first | exact co0 hC | exact sr0 hR_q | exact be0 hQ_q | exact sr0 hT_q | exact be0 hQ9 | exact sr1 hR_q | exact sr2 hR_q | exact sr3 hR_q | exact sr4 hR_q | exact be1 hQ_q | exact be2 hQ_q | exact be3 hQ_q | exact sr3 hT_q | exact sr2 hT_q | exact sr1 hT_q | exact sr4 hT_q | exact co4 hC | exact co2 hC | exact co3 hC | exact co0 hC9 | exact sr0 hR9 | exact co4 hC9 | exact sr3 hR9 | exact sr2 hR9) (by exact ⟨rfl, by omega⟩) ?_
    exact go_iretT (pc := 90) rfl dX7_person_90 (Nat.le_of_ble_eq_true rfl) (Nat.le_of_ble_eq_true rfl) ⟨by simp only [aPerson, hj1, hj2], by simp only [aPerson, hj1, hj2]; rw [(hQ_q.2.2.2.2.2.2.2.2 j1_q hj1a).1]; rfl, rfl, hS_q, frS.rf⟩
  · refine go_aload_n (pc := 13) dX7_person_13 rfl ?_
    refine go_getf (pc := 14) f_X7_65 dX7_person_14 (by first | exact co0 hC | exact sr0 hR_q | exact be0 hQ_q | exact sr0 hT_q | exact be0 hQ9 | exact sr1 hR_q | exact sr2 hR_q | exact sr3 hR_q | exact sr4 hR_q | exact be1 hQ_q | exact be2 hQ_q | exact be3 hQ_q | exact sr3 hT_q | exact sr2 hT_q | exact sr1 hT_q | exact sr4 hT_q | exact co4 hC | exact co2 hC | exact co3 hC | exact co0 hC9 | exact sr0 hR9 | exact co4 hC9 | exact sr3 hR9 | exact sr2 hR9) (by rfl) ?_
    refine go_getf (pc := 17) f_X7_120 dX7_person_17 (by first | exact co0 hC | exact sr0 hR_q | exact be0 hQ_q | exact sr0 hT_q | exact be0 hQ9 | exact sr1 hR_q | exact sr2 hR_q | exact sr3 hR_q | exact sr4 hR_q | exact be1 hQ_q | exact be2 hQ_q | exact be3 hQ_q | exact sr3 hT_q | exact sr2 hT_q | exact sr1 hT_q | exact sr4 hT_q | exact co4 hC | exact co2 hC | exact co3 hC | exact co0 hC9 | exact sr0 hR9 | exact co4 hC9 | exact sr3 hR9 | exact sr2 hR9) (by rfl) ?_
    refine go_astore_n (lw := [_, _, _, _]) (pc := 20) dX7_person_20 (by decide) rfl ?_
    refine go_iload_n (pc := 21) dX7_person_21 rfl ?_
    refine go_tableIn (off := 69) (tgt := 91) (pc := 22) dX7_person_22 (by decide) (by decide) rfl (by decide) ?_
    refine go_aload_n (pc := 91) dX7_person_91 rfl ?_
    refine go_getf (pc := 92) f_X7_147 dX7_person_92 (by first | exact co0 hC | exact sr0 hR_q | exact be0 hQ_q | exact sr0 hT_q | exact be0 hQ9 | exact sr1 hR_q | exact sr2 hR_q | exact sr3 hR_q | exact sr4 hR_q | exact be1 hQ_q | exact be2 hQ_q | exact be3 hQ_q | exact sr3 hT_q | exact sr2 hT_q | exact sr1 hT_q | exact sr4 hT_q | exact co4 hC | exact co2 hC | exact co3 hC | exact co0 hC9 | exact sr0 hR9 | exact co4 hC9 | exact sr3 hR9 | exact sr2 hR9) (by rfl) ?_
    refine go_iload_n (pc := 95) dX7_person_95 rfl ?_
    refine go_ishr (pc := 96) dX7_person_96 ?_
    refine go_iconst (v := 1) (pc := 97) dX7_person_97 (by decide) ?_
    refine go_iand (pc := 98) dX7_person_98 ?_
    exact go_iretT (pc := 99) rfl dX7_person_99 (Nat.le_of_ble_eq_true rfl) (Nat.le_of_ble_eq_true rfl) ⟨by simp only [aPerson, hj1, hj2], by simp only [aPerson, hj1, hj2]; exact (bit_v (K 42) (nI j1_q)), rfl, hS_q, frS.rf⟩
  · refine go_aload_n (pc := 13) dX7_person_13 rfl ?_
    refine go_getf (pc := 14) f_X7_65 dX7_person_14 (by first | exact co0 hC | exact sr0 hR_q | exact be0 hQ_q | exact sr0 hT_q | exact be0 hQ9 | exact sr1 hR_q | exact sr2 hR_q | exact sr3 hR_q | exact sr4 hR_q | exact be1 hQ_q | exact be2 hQ_q | exact be3 hQ_q | exact sr3 hT_q | exact sr2 hT_q | exact sr1 hT_q | exact sr4 hT_q | exact co4 hC | exact co2 hC | exact co3 hC | exact co0 hC9 | exact sr0 hR9 | exact co4 hC9 | exact sr3 hR9 | exact sr2 hR9) (by rfl) ?_
    refine go_getf (pc := 17) f_X7_120 dX7_person_17 (by first | exact co0 hC | exact sr0 hR_q | exact be0 hQ_q | exact sr0 hT_q | exact be0 hQ9 | exact sr1 hR_q | exact sr2 hR_q | exact sr3 hR_q | exact sr4 hR_q | exact be1 hQ_q | exact be2 hQ_q | exact be3 hQ_q | exact sr3 hT_q | exact sr2 hT_q | exact sr1 hT_q | exact sr4 hT_q | exact co4 hC | exact co2 hC | exact co3 hC | exact co0 hC9 | exact sr0 hR9 | exact co4 hC9 | exact sr3 hR9 | exact sr2 hR9) (by rfl) ?_
    refine go_astore_n (lw := [_, _, _, _]) (pc := 20) dX7_person_20 (by decide) rfl ?_
    refine go_iload_n (pc := 21) dX7_person_21 rfl ?_
    refine go_tableIn (off := 78) (tgt := 100) (pc := 22) dX7_person_22 (by decide) (by decide) rfl (by decide) ?_
    refine go_aload_n (pc := 100) dX7_person_100 rfl ?_
    refine go_getf (pc := 101) f_X7_65 dX7_person_101 (by first | exact co0 hC | exact sr0 hR_q | exact be0 hQ_q | exact sr0 hT_q | exact be0 hQ9 | exact sr1 hR_q | exact sr2 hR_q | exact sr3 hR_q | exact sr4 hR_q | exact be1 hQ_q | exact be2 hQ_q | exact be3 hQ_q | exact sr3 hT_q | exact sr2 hT_q | exact sr1 hT_q | exact sr4 hT_q | exact co4 hC | exact co2 hC | exact co3 hC | exact co0 hC9 | exact sr0 hR9 | exact co4 hC9 | exact sr3 hR9 | exact sr2 hR9) (by rfl) ?_
    refine go_getf (pc := 104) f_X7_150 dX7_person_104 (by first | exact co0 hC | exact sr0 hR_q | exact be0 hQ_q | exact sr0 hT_q | exact be0 hQ9 | exact sr1 hR_q | exact sr2 hR_q | exact sr3 hR_q | exact sr4 hR_q | exact be1 hQ_q | exact be2 hQ_q | exact be3 hQ_q | exact sr3 hT_q | exact sr2 hT_q | exact sr1 hT_q | exact sr4 hT_q | exact co4 hC | exact co2 hC | exact co3 hC | exact co0 hC9 | exact sr0 hR9 | exact co4 hC9 | exact sr3 hR9 | exact sr2 hR9) (by rfl) ?_
    refine go_iload_n (pc := 107) dX7_person_107 rfl ?_
    refine go_ishr (pc := 108) dX7_person_108 ?_
    refine go_iconst (v := 1) (pc := 109) dX7_person_109 (by decide) ?_
    refine go_iand (pc := 110) dX7_person_110 ?_
    exact go_iretT (pc := 111) rfl dX7_person_111 (Nat.le_of_ble_eq_true rfl) (Nat.le_of_ble_eq_true rfl) ⟨by simp only [aPerson, hj1, hj2], by simp only [aPerson, hj1, hj2]; subst hw_q; exact (bit_v (K 32) (nI j1_q)), rfl, hS_q, frS.rf⟩
  · refine go_aload_n (pc := 13) dX7_person_13 rfl ?_
    refine go_getf (pc := 14) f_X7_65 dX7_person_14 (by first | exact co0 hC | exact sr0 hR_q | exact be0 hQ_q | exact sr0 hT_q | exact be0 hQ9 | exact sr1 hR_q | exact sr2 hR_q | exact sr3 hR_q | exact sr4 hR_q | exact be1 hQ_q | exact be2 hQ_q | exact be3 hQ_q | exact sr3 hT_q | exact sr2 hT_q | exact sr1 hT_q | exact sr4 hT_q | exact co4 hC | exact co2 hC | exact co3 hC | exact co0 hC9 | exact sr0 hR9 | exact co4 hC9 | exact sr3 hR9 | exact sr2 hR9) (by rfl) ?_
    refine go_getf (pc := 17) f_X7_120 dX7_person_17 (by first | exact co0 hC | exact sr0 hR_q | exact be0 hQ_q | exact sr0 hT_q | exact be0 hQ9 | exact sr1 hR_q | exact sr2 hR_q | exact sr3 hR_q | exact sr4 hR_q | exact be1 hQ_q | exact be2 hQ_q | exact be3 hQ_q | exact sr3 hT_q | exact sr2 hT_q | exact sr1 hT_q | exact sr4 hT_q | exact co4 hC | exact co2 hC | exact co3 hC | exact co0 hC9 | exact sr0 hR9 | exact co4 hC9 | exact sr3 hR9 | exact sr2 hR9) (by rfl) ?_
    refine go_astore_n (lw := [_, _, _, _]) (pc := 20) dX7_person_20 (by decide) rfl ?_
    refine go_iload_n (pc := 21) dX7_person_21 rfl ?_
    refine go_tableIn (off := 90) (tgt := 112) (pc := 22) dX7_person_22 (by decide) (by decide) rfl (by decide) ?_
    refine go_aload_n (pc := 112) dX7_person_112 rfl ?_
    refine go_getf (pc := 113) f_X7_153 dX7_person_113 (by first | exact co0 hC | exact sr0 hR_q | exact be0 hQ_q | exact sr0 hT_q | exact be0 hQ9 | exact sr1 hR_q | exact sr2 hR_q | exact sr3 hR_q | exact sr4 hR_q | exact be1 hQ_q | exact be2 hQ_q | exact be3 hQ_q | exact sr3 hT_q | exact sr2 hT_q | exact sr1 hT_q | exact sr4 hT_q | exact co4 hC | exact co2 hC | exact co3 hC | exact co0 hC9 | exact sr0 hR9 | exact co4 hC9 | exact sr3 hR9 | exact sr2 hR9) (by rfl) ?_
    refine go_iload_n (pc := 116) dX7_person_116 rfl ?_
    refine go_iald (pc := 117) dX7_person_117 (by first | exact co0 hC | exact sr0 hR_q | exact be0 hQ_q | exact sr0 hT_q | exact be0 hQ9 | exact sr1 hR_q | exact sr2 hR_q | exact sr3 hR_q | exact sr4 hR_q | exact be1 hQ_q | exact be2 hQ_q | exact be3 hQ_q | exact sr3 hT_q | exact sr2 hT_q | exact sr1 hT_q | exact sr4 hT_q | exact co4 hC | exact co2 hC | exact co3 hC | exact co0 hC9 | exact sr0 hR9 | exact co4 hC9 | exact sr3 hR9 | exact sr2 hR9) (by exact ⟨rfl, by omega⟩) ?_
    exact go_iretT (pc := 118) rfl dX7_person_118 (Nat.le_of_ble_eq_true rfl) (Nat.le_of_ble_eq_true rfl) ⟨by simp only [aPerson, hj1, hj2], by simp only [aPerson, hj1, hj2]; rw [(hQ_q.2.2.2.2.2.2.2.2 j1_q hj1a).2.1]; rfl, rfl, hS_q, frS.rf⟩
  · refine go_aload_n (pc := 13) dX7_person_13 rfl ?_
    refine go_getf (pc := 14) f_X7_65 dX7_person_14 (by first | exact co0 hC | exact sr0 hR_q | exact be0 hQ_q | exact sr0 hT_q | exact be0 hQ9 | exact sr1 hR_q | exact sr2 hR_q | exact sr3 hR_q | exact sr4 hR_q | exact be1 hQ_q | exact be2 hQ_q | exact be3 hQ_q | exact sr3 hT_q | exact sr2 hT_q | exact sr1 hT_q | exact sr4 hT_q | exact co4 hC | exact co2 hC | exact co3 hC | exact co0 hC9 | exact sr0 hR9 | exact co4 hC9 | exact sr3 hR9 | exact sr2 hR9) (by rfl) ?_
    refine go_getf (pc := 17) f_X7_120 dX7_person_17 (by first | exact co0 hC | exact sr0 hR_q | exact be0 hQ_q | exact sr0 hT_q | exact be0 hQ9 | exact sr1 hR_q | exact sr2 hR_q | exact sr3 hR_q | exact sr4 hR_q | exact be1 hQ_q | exact be2 hQ_q | exact be3 hQ_q | exact sr3 hT_q | exact sr2 hT_q | exact sr1 hT_q | exact sr4 hT_q | exact co4 hC | exact co2 hC | exact co3 hC | exact co0 hC9 | exact sr0 hR9 | exact co4 hC9 | exact sr3 hR9 | exact sr2 hR9) (by rfl) ?_
    refine go_astore_n (lw := [_, _, _, _]) (pc := 20) dX7_person_20 (by decide) rfl ?_
    refine go_iload_n (pc := 21) dX7_person_21 rfl ?_
    refine go_tableIn (off := 97) (tgt := 119) (pc := 22) dX7_person_22 (by decide) (by decide) rfl (by decide) ?_
    refine go_aload_n (pc := 119) dX7_person_119 rfl ?_
    refine go_getf (pc := 120) f_X7_156 dX7_person_120 (by first | exact co0 hC | exact sr0 hR_q | exact be0 hQ_q | exact sr0 hT_q | exact be0 hQ9 | exact sr1 hR_q | exact sr2 hR_q | exact sr3 hR_q | exact sr4 hR_q | exact be1 hQ_q | exact be2 hQ_q | exact be3 hQ_q | exact sr3 hT_q | exact sr2 hT_q | exact sr1 hT_q | exact sr4 hT_q | exact co4 hC | exact co2 hC | exact co3 hC | exact co0 hC9 | exact sr0 hR9 | exact co4 hC9 | exact sr3 hR9 | exact sr2 hR9) (by rfl) ?_
    refine go_iload_n (pc := 123) dX7_person_123 rfl ?_
    refine go_iald (pc := 124) dX7_person_124 (by first | exact co0 hC | exact sr0 hR_q | exact be0 hQ_q | exact sr0 hT_q | exact be0 hQ9 | exact sr1 hR_q | exact sr2 hR_q | exact sr3 hR_q | exact sr4 hR_q | exact be1 hQ_q | exact be2 hQ_q | exact be3 hQ_q | exact sr3 hT_q | exact sr2 hT_q | exact sr1 hT_q | exact sr4 hT_q | exact co4 hC | exact co2 hC | exact co3 hC | exact co0 hC9 | exact sr0 hR9 | exact co4 hC9 | exact sr3 hR9 | exact sr2 hR9) (by exact ⟨rfl, by omega⟩) ?_
    exact go_iretT (pc := 125) rfl dX7_person_125 (Nat.le_of_ble_eq_true rfl) (Nat.le_of_ble_eq_true rfl) ⟨by simp only [aPerson, hj1, hj2], by simp only [aPerson, hj1, hj2]; rw [(hQ_q.2.2.2.2.2.2.2.2 j1_q hj1a).2.2]; rfl, rfl, hS_q, frS.rf⟩
  · refine go_aload_n (pc := 13) dX7_person_13 rfl ?_
    refine go_getf (pc := 14) f_X7_65 dX7_person_14 (by first | exact co0 hC | exact sr0 hR_q | exact be0 hQ_q | exact sr0 hT_q | exact be0 hQ9 | exact sr1 hR_q | exact sr2 hR_q | exact sr3 hR_q | exact sr4 hR_q | exact be1 hQ_q | exact be2 hQ_q | exact be3 hQ_q | exact sr3 hT_q | exact sr2 hT_q | exact sr1 hT_q | exact sr4 hT_q | exact co4 hC | exact co2 hC | exact co3 hC | exact co0 hC9 | exact sr0 hR9 | exact co4 hC9 | exact sr3 hR9 | exact sr2 hR9) (by rfl) ?_
    refine go_getf (pc := 17) f_X7_120 dX7_person_17 (by first | exact co0 hC | exact sr0 hR_q | exact be0 hQ_q | exact sr0 hT_q | exact be0 hQ9 | exact sr1 hR_q | exact sr2 hR_q | exact sr3 hR_q | exact sr4 hR_q | exact be1 hQ_q | exact be2 hQ_q | exact be3 hQ_q | exact sr3 hT_q | exact sr2 hT_q | exact sr1 hT_q | exact sr4 hT_q | exact co4 hC | exact co2 hC | exact co3 hC | exact co0 hC9 | exact sr0 hR9 | exact co4 hC9 | exact sr3 hR9 | exact sr2 hR9) (by rfl) ?_
    refine go_astore_n (lw := [_, _, _, _]) (pc := 20) dX7_person_20 (by decide) rfl ?_
    refine go_iload_n (pc := 21) dX7_person_21 rfl ?_
    refine go_tableOut (tgt := 126) (pc := 22) dX7_person_22 (by decide) (by decide) ?_
    refine go_aload_n (pc := 126) dX7_person_126 rfl ?_
    refine go_getf (pc := 127) f_X7_65 dX7_person_127 (by first | exact co0 hC | exact sr0 hR_q | exact be0 hQ_q | exact sr0 hT_q | exact be0 hQ9 | exact sr1 hR_q | exact sr2 hR_q | exact sr3 hR_q | exact sr4 hR_q | exact be1 hQ_q | exact be2 hQ_q | exact be3 hQ_q | exact sr3 hT_q | exact sr2 hT_q | exact sr1 hT_q | exact sr4 hT_q | exact co4 hC | exact co2 hC | exact co3 hC | exact co0 hC9 | exact sr0 hR9 | exact co4 hC9 | exact sr3 hR9 | exact sr2 hR9) (by rfl) ?_
    refine go_getf (pc := 130) f_X7_159 dX7_person_130 (by first | exact co0 hC | exact sr0 hR_q | exact be0 hQ_q | exact sr0 hT_q | exact be0 hQ9 | exact sr1 hR_q | exact sr2 hR_q | exact sr3 hR_q | exact sr4 hR_q | exact be1 hQ_q | exact be2 hQ_q | exact be3 hQ_q | exact sr3 hT_q | exact sr2 hT_q | exact sr1 hT_q | exact sr4 hT_q | exact co4 hC | exact co2 hC | exact co3 hC | exact co0 hC9 | exact sr0 hR9 | exact co4 hC9 | exact sr3 hR9 | exact sr2 hR9) (by rfl) ?_
    refine go_iload_n (pc := 133) dX7_person_133 rfl ?_
    refine go_iald (pc := 134) dX7_person_134 (by first | exact co0 hC | exact sr0 hR_q | exact be0 hQ_q | exact sr0 hT_q | exact be0 hQ9 | exact sr1 hR_q | exact sr2 hR_q | exact sr3 hR_q | exact sr4 hR_q | exact be1 hQ_q | exact be2 hQ_q | exact be3 hQ_q | exact sr3 hT_q | exact sr2 hT_q | exact sr1 hT_q | exact sr4 hT_q | exact co4 hC | exact co2 hC | exact co3 hC | exact co0 hC9 | exact sr0 hR9 | exact co4 hC9 | exact sr3 hR9 | exact sr2 hR9) (by exact ⟨rfl, by omega⟩) ?_
    exact go_iretT (pc := 135) rfl dX7_person_135 (Nat.le_of_ble_eq_true rfl) (Nat.le_of_ble_eq_true rfl) ⟨by simp only [aPerson, hj1, hj2], by simp only [aPerson, hj1, hj2]; rw [(hr_q.1 j1_q hj1a).2.2]; rfl, rfl, hS_q, frS.rf⟩
theorem cp_sits {Γ : gam} {D : Nat} {ro : Nat → Nat} {z0 : sto} {n k a b : Nat} {w : Int32} {K ag pa pf ch co rw bk G : row} {im : Nat → Option Nat} {lm lt lw : Value} (hC : CoAt Γ ro z0 a G im) (hR_q : SrAt Γ ro z0 (a + 14) b w (K 33) ch co rw bk) (hr_q : rS K ch co rw bk) (hQ_q : BrAt Γ D ro z0 b K ag pa pf lm lt lw) (hB_q : okB K) (hg_q : gS K) (hS_q : ScAt Γ ro z0 a) (hD : a + 113 < D) (hsb : b = a + 10 ∨ a + 113 < b) (hk : 12 ≤ k) (p z : Int32) : Sp Γ (rmk k 4 24) uX7_sits [.ref a, .int p, .int z] z0 n (qT (qI fun v σ' n' => (aSits K p.toInt z.toInt).1 = 0 ∧ v = (aSits K p.toInt z.toInt).2 ∧ n' = n ∧ ScAt Γ ro σ' a ∧ frS Γ ro (scr a) z0 σ') (fun x σ' n' => exL [eNS, eIA] (aSits K p.toInt z.toInt).1 x ∧ σ' = z0 ∧ n ≤ n')) := by
  have hP8 := hB_q.1.2.1
  have hH5 := hB_q.1.2.2.2.1
  have hW4 := hB_q.1.2.2.2.2.2
  refine sp_intro [some (.ref a), some (.int p), some (.int z)] (by decide +kernel) rfl (Nat.le_of_ble_eq_true rfl) rfl ?_
  refine go_aload_n (pc := 0) dX7_sits_0 rfl ?_
  refine go_iload_n (pc := 1) dX7_sits_1 rfl ?_
  refine go_V1Vx (pc := 2) v_X7_135 rfl rfl (rcv_of (ci := 7) (by first | exact co0 hC | exact sr0 hR_q | exact be0 hQ_q | exact sr0 hT_q | exact be0 hQ9 | exact sr1 hR_q | exact sr2 hR_q | exact sr3 hR_q | exact sr4 hR_q | exact be1 hQ_q | exact be2 hQ_q | exact be3 hQ_q | exact sr3 hT_q | exact sr2 hT_q | exact sr1 hT_q | exact sr4 hT_q | exact co4 hC | exact co2 hC | exact co3 hC | exact co0 hC9 | exact sr0 hR9 | exact co4 hC9 | exact sr3 hR9 | exact sr2 hR9) rfl) dX7_sits_2 (cp_needPerson (k := k - 1) hC hR_q hr_q hQ_q hB_q (by omega) _) (fun x σx nx hx_q => by obtain ⟨h9_q, rfl, rfl, h8_q⟩ := hx_q; exact Or.inr ⟨_, rfl, ⟨0, (by rw [show aSits K p.toInt z.toInt = (1, 0) from by simp only [aSits, h9_q]]; rfl), rfl⟩, rfl, h8_q⟩) (fun σ n h_q => ?_)
  obtain ⟨⟨j1_q, hj1, rfl, hj1a⟩, rfl, rfl⟩ := h_q
  refine go_aload_n (pc := 5) dX7_sits_5 rfl ?_
  refine go_iload_n (pc := 6) dX7_sits_6 rfl ?_
  refine go_iconst (v := 0) (pc := 7) dX7_sits_7 (by decide) ?_
  refine go_sipush (v := 200) (pc := 8) dX7_sits_8 (by decide) ?_
  refine go_V3Vx (pc := 11) v_X7_90 rfl rfl (rcv_of (ci := 7) (by first | exact co0 hC | exact sr0 hR_q | exact be0 hQ_q | exact sr0 hT_q | exact be0 hQ9 | exact sr1 hR_q | exact sr2 hR_q | exact sr3 hR_q | exact sr4 hR_q | exact be1 hQ_q | exact be2 hQ_q | exact be3 hQ_q | exact sr3 hT_q | exact sr2 hT_q | exact sr1 hT_q | exact sr4 hT_q | exact co4 hC | exact co2 hC | exact co3 hC | exact co0 hC9 | exact sr0 hR9 | exact co4 hC9 | exact sr3 hR9 | exact sr2 hR9) rfl) dX7_sits_11 (cp_nW (k := k - 1) (lo := 0) (hi_q := 200) (by omega) (by decide) (by decide) _) (fun x σx nx hx_q => by obtain ⟨h9_q, rfl, rfl, h8_q⟩ := hx_q; exact Or.inr ⟨_, rfl, ⟨1, (by rw [show aSits K (nI j1_q).toInt z.toInt = (2, 0) from by simp only [aSits, hj1, h9_q]]; rfl), rfl⟩, rfl, h8_q⟩) (fun σ n h_q => ?_)
  obtain ⟨⟨j2_q, hj2, rfl, hj2a, hj2b⟩, rfl, rfl⟩ := h_q
  refine go_aload_n (pc := 14) dX7_sits_14 rfl ?_
  refine go_iload_n (pc := 15) dX7_sits_15 rfl ?_
  refine go_V1A (pc := 16) v_X7_252 rfl rfl (rcv_of (ci := 7) (by first | exact co0 hC | exact sr0 hR_q | exact be0 hQ_q | exact sr0 hT_q | exact be0 hQ9 | exact sr1 hR_q | exact sr2 hR_q | exact sr3 hR_q | exact sr4 hR_q | exact be1 hQ_q | exact be2 hQ_q | exact be3 hQ_q | exact sr3 hT_q | exact sr2 hT_q | exact sr1 hT_q | exact sr4 hT_q | exact co4 hC | exact co2 hC | exact co3 hC | exact co0 hC9 | exact sr0 hR9 | exact co4 hC9 | exact sr3 hR9 | exact sr2 hR9) rfl) dX7_sits_16 (cp_ahead (k := k - 1) hC hR_q hr_q hQ_q hB_q hg_q hS_q hD hsb (by omega) (by omega)) (fun v_16 σ n h_q => ?_)
  obtain ⟨rfl, rfl, ⟨ch9, co9, rw9, bk9, hT_q, hr9_q⟩, hf_q⟩ := h_q
  have hQ9 := hQ_q.fr hf_q (by omega) (by omega)
  refine go_iload_n (pc := 19) dX7_sits_19 rfl ?_
  refine go_V1P (pc := 20) v_X7_256 rfl rfl (rcv_of (ci := 5) (by first | exact co0 hC | exact sr0 hR_q | exact be0 hQ_q | exact sr0 hT_q | exact be0 hQ9 | exact sr1 hR_q | exact sr2 hR_q | exact sr3 hR_q | exact sr4 hR_q | exact be1 hQ_q | exact be2 hQ_q | exact be3 hQ_q | exact sr3 hT_q | exact sr2 hT_q | exact sr1 hT_q | exact sr4 hT_q | exact co4 hC | exact co2 hC | exact co3 hC | exact co0 hC9 | exact sr0 hR9 | exact co4 hC9 | exact sr3 hR9 | exact sr2 hR9) rfl) dX7_sits_20 (cp_place (k := k - 1) hT_q hr9_q (hQ9.sm (goK_same hP8)) ((goK_same hP8).okB hB_q) (by rw [(goK_same hP8).P]; exact hj1a)) ?_
  exact go_iretT (pc := 23) rfl dX7_sits_23 (Nat.le_of_ble_eq_true rfl) (Nat.le_of_ble_eq_true rfl) ⟨by simp only [aSits, hj1, hj2], by simp only [aSits, hj1, hj2], rfl, hS_q.s0 hC.1 hf_q hT_q.T, hf_q.toS (fun q x y => by omega)⟩
theorem fnd_n {f : Nat → Bool} {P i_q : Nat} (h_q : i_q < P) (hn : ¬ f i_q = true) : fnd f i_q (P - i_q) = fnd f (i_q + 1) (P - (i_q + 1)) := by
  rw [show P - i_q = (P - (i_q + 1)) + 1 by omega, fnd, if_neg hn]
theorem fnd_y {f : Nat → Bool} {P i_q : Nat} (h_q : i_q < P) (hn : f i_q = true) : fnd f i_q (P - i_q) = some i_q := by
  rw [show P - i_q = (P - (i_q + 1)) + 1 by omega, fnd, if_pos hn]
theorem cp_wetIn {Γ : gam} {D : Nat} {ro : Nat → Nat} {z0 : sto} {n k a b : Nat} {w : Int32} {K ag pa pf ch co rw bk G : row} {im : Nat → Option Nat} {lm lt lw : Value} (hC : CoAt Γ ro z0 a G im) (hR_q : SrAt Γ ro z0 (a + 14) b w (K 33) ch co rw bk) (hr_q : rS K ch co rw bk) (hQ_q : BrAt Γ D ro z0 b K ag pa pf lm lt lw) (hB_q : okB K) (hg_q : gS K) (hS_q : ScAt Γ ro z0 a) (hD : a + 113 < D) (hsb : b = a + 10 ∨ a + 113 < b) (hw_q : w = K 32) (hk : 12 ≤ k) (p : Int32) : Sp Γ (rmk k 4 24) uX7_wetIn [.ref a, .int p] z0 n (qT (qI fun v σ' n' => (aWetIn K p.toInt).1 = 0 ∧ v = (aWetIn K p.toInt).2 ∧ n' = n ∧ ScAt Γ ro σ' a ∧ frS Γ ro (scr a) z0 σ') (fun x σ' n' => exL [eNS] (aWetIn K p.toInt).1 x ∧ σ' = z0 ∧ n ≤ n')) := by
  have hP8 := hB_q.1.2.1
  have hH5 := hB_q.1.2.2.2.1
  have hW4 := hB_q.1.2.2.2.2.2
  refine sp_intro [some (.ref a), some (.int p), none, none] (by decide +kernel) rfl (Nat.le_of_ble_eq_true rfl) rfl ?_
  refine go_aload_n (pc := 0) dX7_wetIn_0 rfl ?_
  refine go_iload_n (pc := 1) dX7_wetIn_1 rfl ?_
  refine go_V1Vx (pc := 2) v_X7_135 rfl rfl (rcv_of (ci := 7) (by first | exact co0 hC | exact sr0 hR_q | exact be0 hQ_q | exact sr0 hT_q | exact be0 hQ9 | exact sr1 hR_q | exact sr2 hR_q | exact sr3 hR_q | exact sr4 hR_q | exact be1 hQ_q | exact be2 hQ_q | exact be3 hQ_q | exact sr3 hT_q | exact sr2 hT_q | exact sr1 hT_q | exact sr4 hT_q | exact co4 hC | exact co2 hC | exact co3 hC | exact co0 hC9 | exact sr0 hR9 | exact co4 hC9 | exact sr3 hR9 | exact sr2 hR9) rfl) dX7_wetIn_2 (cp_needPerson (k := k - 1) hC hR_q hr_q hQ_q hB_q (by omega) _) (fun x σx nx hx_q => by obtain ⟨h9_q, rfl, rfl, h8_q⟩ := hx_q; exact Or.inr ⟨_, rfl, ⟨0, (by rw [show aWetIn K p.toInt = (1, 0) from by simp only [aWetIn, h9_q]]; rfl), rfl⟩, rfl, h8_q⟩) (fun σ n h_q => ?_)
  obtain ⟨⟨j1_q, hj1, rfl, hj1a⟩, rfl, rfl⟩ := h_q
  refine go_aload_n (pc := 5) dX7_wetIn_5 rfl ?_
  refine go_V0A (pc := 6) v_X7_223 rfl rfl (rcv_of (ci := 7) (by first | exact co0 hC | exact sr0 hR_q | exact be0 hQ_q | exact sr0 hT_q | exact be0 hQ9 | exact sr1 hR_q | exact sr2 hR_q | exact sr3 hR_q | exact sr4 hR_q | exact be1 hQ_q | exact be2 hQ_q | exact be3 hQ_q | exact sr3 hT_q | exact sr2 hT_q | exact sr1 hT_q | exact sr4 hT_q | exact co4 hC | exact co2 hC | exact co3 hC | exact co0 hC9 | exact sr0 hR9 | exact co4 hC9 | exact sr3 hR9 | exact sr2 hR9) rfl) dX7_wetIn_6 (cp_trial (k := k - 1) hC hR_q hr_q hQ_q hB_q hg_q hS_q hD hsb (by omega)) (fun v_6 σ n h_q => ?_)
  obtain ⟨rfl, rfl, ⟨ch9, co9, rw9, bk9, hT_q, hr9_q⟩, hf_q⟩ := h_q
  have hQ9 := hQ_q.fr hf_q (by omega) (by omega)
  refine go_astore_n (lw := [_, _, _, _]) (pc := 9) dX7_wetIn_9 (by decide) rfl ?_
  refine go_iconst (v := 0) (pc := 10) dX7_wetIn_10 (by decide) ?_
  refine go_istore_n (lw := [_, _, _, _]) (pc := 11) dX7_wetIn_11 (by decide) rfl ?_
  refine go_iter (201) (fun i_q lv9 s9 n9 => ∃ (ch9 : row), ∃ (co9 : row), ∃ (rw9 : row), ∃ (bk9 : row), lv9 = [some (.ref a), some (.int (nI j1_q)), some (.ref (a + 89)), some (.int (nI i_q))] ∧ (SrAt Γ ro s9 (a + 89) b (goK i_q K 32) (goK i_q K 33) ch9 co9 rw9 bk9) ∧ (rS (goK i_q K) ch9 co9 rw9 bk9) ∧ (BrAt Γ D ro s9 b K ag pa pf lm lt lw) ∧ (frC Γ ro (a + 89) (a + 93) z0 s9) ∧ (fnd (fun m => hasB (goK m K 32) (nI j1_q)) i_q (201 - i_q) = fnd (fun m => hasB (goK m K 32) (nI j1_q)) 0 201) ∧ n = n9) ⟨_, _, _, _, rfl, (by subst hw_q; exact hT_q), hr9_q, hQ9, hf_q, rfl, rfl⟩ ?_ ?_
  · rintro i_q lv9 σ n9 hi_q ⟨ch9, co9, rw9, bk9, rfl, hT_q, hr9_q, hQ9, hf_q, hR9, rfl⟩ ih_q
    have hs9 : sameB K (goK i_q K) := goK_same (by omega)
    have hB9_q := hs9.okB hB_q
    have hg9_q : gS (goK i_q K) := gS_go hg_q hP8 hH5
    have eP_q := hs9.P
    have eH_q := hs9.H
    have eW := hs9.W
    refine go_iload_n (pc := 12) dX7_wetIn_12 rfl ?_
    refine go_sipush (v := 200) (pc := 13) dX7_wetIn_13 (by decide) ?_
    refine go_icmp_gt (tgt := 47) (pc := 16) dX7_wetIn_16 (by decide) (fun h_16 => by exfalso; exact absurd h_16 (Int32.not_lt.mpr (nI_le (b := 200) (by omega) (by decide)))) (fun h_16 => ?_)
    refine go_aload_n (pc := 19) dX7_wetIn_19 rfl ?_
    refine go_getf (pc := 20) f_X7_150 dX7_wetIn_20 (by first | exact co0 hC | exact sr0 hR_q | exact be0 hQ_q | exact sr0 hT_q | exact be0 hQ9 | exact sr1 hR_q | exact sr2 hR_q | exact sr3 hR_q | exact sr4 hR_q | exact be1 hQ_q | exact be2 hQ_q | exact be3 hQ_q | exact sr3 hT_q | exact sr2 hT_q | exact sr1 hT_q | exact sr4 hT_q | exact co4 hC | exact co2 hC | exact co3 hC | exact co0 hC9 | exact sr0 hR9 | exact co4 hC9 | exact sr3 hR9 | exact sr2 hR9) (by rfl) ?_
    refine go_iload_n (pc := 23) dX7_wetIn_23 rfl ?_
    refine go_ishr (pc := 24) dX7_wetIn_24 ?_
    refine go_iconst (v := 1) (pc := 25) dX7_wetIn_25 (by decide) ?_
    refine go_iand (pc := 26) dX7_wetIn_26 ?_
    refine go_iconst (v := 1) (pc := 27) dX7_wetIn_27 (by decide) ?_
    refine go_icmp_ne (tgt := 33) (pc := 28) dX7_wetIn_28 (by decide) (fun h_28 => ?_) (fun h_28 => ?_)
    · refine go_aload_n (pc := 33) dX7_wetIn_33 rfl ?_
      refine go_aload_n (pc := 34) dX7_wetIn_34 rfl ?_
      refine go_V0I (pc := 35) v_X7_203 rfl rfl (rcv_of (ci := 5) (by first | exact co0 hC | exact sr0 hR_q | exact be0 hQ_q | exact sr0 hT_q | exact be0 hQ9 | exact sr1 hR_q | exact sr2 hR_q | exact sr3 hR_q | exact sr4 hR_q | exact be1 hQ_q | exact be2 hQ_q | exact be3 hQ_q | exact sr3 hT_q | exact sr2 hT_q | exact sr1 hT_q | exact sr4 hT_q | exact co4 hC | exact co2 hC | exact co3 hC | exact co0 hC9 | exact sr0 hR9 | exact co4 hC9 | exact sr3 hR9 | exact sr2 hR9) rfl) dX7_wetIn_35 (cp_level (k := k - 1) hT_q hr9_q (hQ9.sm hs9) (by omega) hB9_q) (fun v_35 σ n h_q => ?_)
      obtain ⟨rfl, rfl, hf1⟩ := h_q
      have hT_q := hT_q.fe hf1
      have hQ9 := hQ9.fe hf1
      have hf_q := hf_q.tr (hf1.wk (by omega))
      refine go_V1V (pc := 38) v_X7_207 rfl rfl (rcv_of (ci := 5) (by first | exact co0 hC | exact sr0 hR_q | exact be0 hQ_q | exact sr0 hT_q | exact be0 hQ9 | exact sr1 hR_q | exact sr2 hR_q | exact sr3 hR_q | exact sr4 hR_q | exact be1 hQ_q | exact be2 hQ_q | exact be3 hQ_q | exact sr3 hT_q | exact sr2 hT_q | exact sr1 hT_q | exact sr4 hT_q | exact co4 hC | exact co2 hC | exact co3 hC | exact co0 hC9 | exact sr0 hR9 | exact co4 hC9 | exact sr3 hR9 | exact sr2 hR9) rfl) dX7_wetIn_38 (cp_pass (k := k - 1) hT_q hr9_q (hQ9.sm hs9) hB9_q hg9_q (by omega) (by omega) (by omega) _) (fun σ n h_q => ?_)
      obtain ⟨rfl, ⟨ch9, co9, rw9, bk9, hT_q, hr9_q⟩, hf1⟩ := h_q
      have hf_q := hf_q.tr hf1
      have hQ9 := hQ9.fr hf1 (by omega) (by omega)
      rw [← minK_32 (by omega)] at hT_q
      refine go_iinc (v := 1) (lw := [_, _, _, _]) (pc := 41) dX7_wetIn_41 rfl (by decide) (by decide) rfl ?_
      refine go_goto (tgt := 12) (pc := 44) dX7_wetIn_44 (by decide) ?_
      rw [nI_1]
      exact ih_q _ _ _ ⟨_, _, _, _, rfl, (by rw [goK_s]; exact hT_q), (by rw [goK_s]; exact hr9_q), hQ9, hf_q, (by rw [← hR9, fnd_n hi_q (by simpa [hasB] using h_28)]), rfl⟩
    · refine go_iload_n (pc := 31) dX7_wetIn_31 rfl ?_
      exact go_iretT (pc := 32) rfl dX7_wetIn_32 (Nat.le_of_ble_eq_true rfl) (Nat.le_of_ble_eq_true rfl) ⟨by simp only [aWetIn, hj1], by simp only [aWetIn, hj1]; rw [← hR9, fnd_y hi_q (by simpa [hasB] using h_28)]; rfl, rfl, hS_q.s0 hC.1 hf_q hT_q.T, hf_q.toS (fun q x y => by omega)⟩
  · rintro lv9 σ n9 ⟨ch9, co9, rw9, bk9, rfl, hT_q, hr9_q, hQ9, hf_q, hR9, rfl⟩
    refine go_iload_n (pc := 12) dX7_wetIn_12 rfl ?_
    refine go_sipush (v := 200) (pc := 13) dX7_wetIn_13 (by decide) ?_
    refine go_icmp_gt (tgt := 47) (pc := 16) dX7_wetIn_16 (by decide) (fun h_16 => ?_) (fun h_16 => by exfalso; exact h_16 (nI_lt (a := 200) (b := 201) (by decide) (by decide)))
    refine go_iconst (v := -1) (pc := 47) dX7_wetIn_47 (by decide) ?_
    exact go_iretT (pc := 48) rfl dX7_wetIn_48 (Nat.le_of_ble_eq_true rfl) (Nat.le_of_ble_eq_true rfl) ⟨by simp only [aWetIn, hj1], by simp only [aWetIn, hj1]; rw [← hR9, Nat.sub_self]; rfl, rfl, hS_q.s0 hC.1 hf_q hT_q.T, hf_q.toS (fun q x y => by omega)⟩
theorem cp_wetBy {Γ : gam} {D : Nat} {ro : Nat → Nat} {z0 : sto} {n k a b : Nat} {w : Int32} {K ag pa pf ch co rw bk G : row} {im : Nat → Option Nat} {lm lt lw : Value} (hC : CoAt Γ ro z0 a G im) (hR_q : SrAt Γ ro z0 (a + 14) b w (K 33) ch co rw bk) (hr_q : rS K ch co rw bk) (hQ_q : BrAt Γ D ro z0 b K ag pa pf lm lt lw) (hB_q : okB K) (hg_q : gS K) (hS_q : ScAt Γ ro z0 a) (hD : a + 113 < D) (hsb : b = a + 10 ∨ a + 113 < b) (hw_q : w = K 32) (hk : 12 ≤ k) (z : Int32) : Sp Γ (rmk k 4 24) uX7_wetBy [.ref a, .int z] z0 n (qT (qI fun v σ' n' => (aWetBy K z.toInt).1 = 0 ∧ v = (aWetBy K z.toInt).2 ∧ n' = n ∧ ScAt Γ ro σ' a ∧ frS Γ ro (scr a) z0 σ') (fun x σ' n' => exL [eIA] (aWetBy K z.toInt).1 x ∧ σ' = z0 ∧ n ≤ n')) := by
  have hP8 := hB_q.1.2.1
  have hH5 := hB_q.1.2.2.2.1
  have hW4 := hB_q.1.2.2.2.2.2
  refine sp_intro [some (.ref a), some (.int z), none, none] (by decide +kernel) rfl (Nat.le_of_ble_eq_true rfl) rfl ?_
  refine go_aload_n (pc := 0) dX7_wetBy_0 rfl ?_
  refine go_iload_n (pc := 1) dX7_wetBy_1 rfl ?_
  refine go_iconst (v := 0) (pc := 2) dX7_wetBy_2 (by decide) ?_
  refine go_sipush (v := 200) (pc := 3) dX7_wetBy_3 (by decide) ?_
  refine go_V3Vx (pc := 6) v_X7_90 rfl rfl (rcv_of (ci := 7) (by first | exact co0 hC | exact sr0 hR_q | exact be0 hQ_q | exact sr0 hT_q | exact be0 hQ9 | exact sr1 hR_q | exact sr2 hR_q | exact sr3 hR_q | exact sr4 hR_q | exact be1 hQ_q | exact be2 hQ_q | exact be3 hQ_q | exact sr3 hT_q | exact sr2 hT_q | exact sr1 hT_q | exact sr4 hT_q | exact co4 hC | exact co2 hC | exact co3 hC | exact co0 hC9 | exact sr0 hR9 | exact co4 hC9 | exact sr3 hR9 | exact sr2 hR9) rfl) dX7_wetBy_6 (cp_nW (k := k - 1) (lo := 0) (hi_q := 200) (by omega) (by decide) (by decide) _) (fun x σx nx hx_q => by obtain ⟨h9_q, rfl, rfl, h8_q⟩ := hx_q; exact Or.inr ⟨_, rfl, ⟨0, (by rw [show aWetBy K z.toInt = (1, 0) from by simp only [aWetBy, h9_q]]; rfl), rfl⟩, rfl, h8_q⟩) (fun σ n h_q => ?_)
  obtain ⟨⟨j2_q, hj2, rfl, hj2a, hj2b⟩, rfl, rfl⟩ := h_q
  refine go_aload_n (pc := 9) dX7_wetBy_9 rfl ?_
  refine go_V0A (pc := 10) v_X7_223 rfl rfl (rcv_of (ci := 7) (by first | exact co0 hC | exact sr0 hR_q | exact be0 hQ_q | exact sr0 hT_q | exact be0 hQ9 | exact sr1 hR_q | exact sr2 hR_q | exact sr3 hR_q | exact sr4 hR_q | exact be1 hQ_q | exact be2 hQ_q | exact be3 hQ_q | exact sr3 hT_q | exact sr2 hT_q | exact sr1 hT_q | exact sr4 hT_q | exact co4 hC | exact co2 hC | exact co3 hC | exact co0 hC9 | exact sr0 hR9 | exact co4 hC9 | exact sr3 hR9 | exact sr2 hR9) rfl) dX7_wetBy_10 (cp_trial (k := k - 1) hC hR_q hr_q hQ_q hB_q hg_q hS_q hD hsb (by omega)) (fun v_10 σ n h_q => ?_)
  obtain ⟨rfl, rfl, ⟨ch9, co9, rw9, bk9, hT_q, hr9_q⟩, hf_q⟩ := h_q
  have hQ9 := hQ_q.fr hf_q (by omega) (by omega)
  refine go_astore_n (lw := [_, _, _, _]) (pc := 13) dX7_wetBy_13 (by decide) rfl ?_
  refine go_iconst (v := 0) (pc := 14) dX7_wetBy_14 (by decide) ?_
  refine go_istore_n (lw := [_, _, _, _]) (pc := 15) dX7_wetBy_15 (by decide) rfl ?_
  refine go_iter (j2_q) (fun i_q lv9 s9 n9 => ∃ (ch9 : row), ∃ (co9 : row), ∃ (rw9 : row), ∃ (bk9 : row), lv9 = [some (.ref a), some (.int (nI j2_q)), some (.ref (a + 89)), some (.int (nI i_q))] ∧ (SrAt Γ ro s9 (a + 89) b (goK i_q K 32) (goK i_q K 33) ch9 co9 rw9 bk9) ∧ (rS (goK i_q K) ch9 co9 rw9 bk9) ∧ (BrAt Γ D ro s9 b K ag pa pf lm lt lw) ∧ (frC Γ ro (a + 89) (a + 93) z0 s9) ∧ n = n9) ⟨_, _, _, _, rfl, (by subst hw_q; exact hT_q), hr9_q, hQ9, hf_q, rfl⟩ ?_ ?_
  · rintro i_q lv9 σ n9 hi_q ⟨ch9, co9, rw9, bk9, rfl, hT_q, hr9_q, hQ9, hf_q, rfl⟩ ih_q
    have hs9 : sameB K (goK i_q K) := goK_same (by omega)
    have hB9_q := hs9.okB hB_q
    have hg9_q : gS (goK i_q K) := gS_go hg_q hP8 hH5
    have eP_q := hs9.P
    have eH_q := hs9.H
    have eW := hs9.W
    refine go_iload_n (pc := 16) dX7_wetBy_16 rfl ?_
    refine go_iload_n (pc := 17) dX7_wetBy_17 rfl ?_
    refine go_icmp_ge (tgt := 35) (pc := 18) dX7_wetBy_18 (by decide) (fun h_18 => by exfalso; exact absurd h_18 (nI_ge (by omega) (by omega))) (fun h_18 => ?_)
    refine go_aload_n (pc := 21) dX7_wetBy_21 rfl ?_
    refine go_aload_n (pc := 22) dX7_wetBy_22 rfl ?_
    refine go_V0I (pc := 23) v_X7_203 rfl rfl (rcv_of (ci := 5) (by first | exact co0 hC | exact sr0 hR_q | exact be0 hQ_q | exact sr0 hT_q | exact be0 hQ9 | exact sr1 hR_q | exact sr2 hR_q | exact sr3 hR_q | exact sr4 hR_q | exact be1 hQ_q | exact be2 hQ_q | exact be3 hQ_q | exact sr3 hT_q | exact sr2 hT_q | exact sr1 hT_q | exact sr4 hT_q | exact co4 hC | exact co2 hC | exact co3 hC | exact co0 hC9 | exact sr0 hR9 | exact co4 hC9 | exact sr3 hR9 | exact sr2 hR9) rfl) dX7_wetBy_23 (cp_level (k := k - 1) hT_q hr9_q (hQ9.sm hs9) (by omega) hB9_q) (fun v_23 σ n h_q => ?_)
    obtain ⟨rfl, rfl, hf1⟩ := h_q
    have hT_q := hT_q.fe hf1
    have hQ9 := hQ9.fe hf1
    have hf_q := hf_q.tr (hf1.wk (by omega))
    refine go_V1V (pc := 26) v_X7_207 rfl rfl (rcv_of (ci := 5) (by first | exact co0 hC | exact sr0 hR_q | exact be0 hQ_q | exact sr0 hT_q | exact be0 hQ9 | exact sr1 hR_q | exact sr2 hR_q | exact sr3 hR_q | exact sr4 hR_q | exact be1 hQ_q | exact be2 hQ_q | exact be3 hQ_q | exact sr3 hT_q | exact sr2 hT_q | exact sr1 hT_q | exact sr4 hT_q | exact co4 hC | exact co2 hC | exact co3 hC | exact co0 hC9 | exact sr0 hR9 | exact co4 hC9 | exact sr3 hR9 | exact sr2 hR9) rfl) dX7_wetBy_26 (cp_pass (k := k - 1) hT_q hr9_q (hQ9.sm hs9) hB9_q hg9_q (by omega) (by omega) (by omega) _) (fun σ n h_q => ?_)
    obtain ⟨rfl, ⟨ch9, co9, rw9, bk9, hT_q, hr9_q⟩, hf1⟩ := h_q
    have hf_q := hf_q.tr hf1
    have hQ9 := hQ9.fr hf1 (by omega) (by omega)
    rw [← minK_32 (by omega)] at hT_q
    refine go_iinc (v := 1) (lw := [_, _, _, _]) (pc := 29) dX7_wetBy_29 rfl (by decide) (by decide) rfl ?_
    refine go_goto (tgt := 16) (pc := 32) dX7_wetBy_32 (by decide) ?_
    rw [nI_1]
    exact ih_q _ _ _ ⟨_, _, _, _, rfl, (by rw [goK_s]; exact hT_q), (by rw [goK_s]; exact hr9_q), hQ9, hf_q, rfl⟩
  · rintro lv9 σ n9 ⟨ch9, co9, rw9, bk9, rfl, hT_q, hr9_q, hQ9, hf_q, rfl⟩
    refine go_iload_n (pc := 16) dX7_wetBy_16 rfl ?_
    refine go_iload_n (pc := 17) dX7_wetBy_17 rfl ?_
    refine go_icmp_ge (tgt := 35) (pc := 18) dX7_wetBy_18 (by decide) (fun h_18 => ?_) (fun h_18 => by exfalso; exact h_18 (nI_le (by omega) (by omega)))
    refine go_aload_n (pc := 35) dX7_wetBy_35 rfl ?_
    refine go_getf (pc := 36) f_X7_150 dX7_wetBy_36 (by first | exact co0 hC | exact sr0 hR_q | exact be0 hQ_q | exact sr0 hT_q | exact be0 hQ9 | exact sr1 hR_q | exact sr2 hR_q | exact sr3 hR_q | exact sr4 hR_q | exact be1 hQ_q | exact be2 hQ_q | exact be3 hQ_q | exact sr3 hT_q | exact sr2 hT_q | exact sr1 hT_q | exact sr4 hT_q | exact co4 hC | exact co2 hC | exact co3 hC | exact co0 hC9 | exact sr0 hR9 | exact co4 hC9 | exact sr3 hR9 | exact sr2 hR9) (by rfl) ?_
    exact go_iretT (pc := 39) rfl dX7_wetBy_39 (Nat.le_of_ble_eq_true rfl) (Nat.le_of_ble_eq_true rfl) ⟨by simp only [aWetBy, hj2], by simp only [aWetBy, hj2], rfl, hS_q.s0 hC.1 hf_q hT_q.T, hf_q.toS (fun q x y => by omega)⟩
theorem cp_frontIn {Γ : gam} {D : Nat} {ro : Nat → Nat} {z0 : sto} {n k a b : Nat} {w : Int32} {K ag pa pf ch co rw bk G : row} {im : Nat → Option Nat} {lm lt lw : Value} (hC : CoAt Γ ro z0 a G im) (hR_q : SrAt Γ ro z0 (a + 14) b w (K 33) ch co rw bk) (hr_q : rS K ch co rw bk) (hQ_q : BrAt Γ D ro z0 b K ag pa pf lm lt lw) (hB_q : okB K) (hg_q : gS K) (hS_q : ScAt Γ ro z0 a) (hD : a + 113 < D) (hsb : b = a + 10 ∨ a + 113 < b) (hk : 12 ≤ k) (p : Int32) : Sp Γ (rmk k 4 24) uX7_frontIn [.ref a, .int p] z0 n (qT (qI fun v σ' n' => (aFrontIn K p.toInt).1 = 0 ∧ v = (aFrontIn K p.toInt).2 ∧ n' = n ∧ ScAt Γ ro σ' a ∧ frS Γ ro (scr a) z0 σ') (fun x σ' n' => exL [eNS] (aFrontIn K p.toInt).1 x ∧ σ' = z0 ∧ n ≤ n')) := by
  have hP8 := hB_q.1.2.1
  have hH5 := hB_q.1.2.2.2.1
  have hW4 := hB_q.1.2.2.2.2.2
  refine sp_intro [some (.ref a), some (.int p), none, none] (by decide +kernel) rfl (Nat.le_of_ble_eq_true rfl) rfl ?_
  refine go_aload_n (pc := 0) dX7_frontIn_0 rfl ?_
  refine go_iload_n (pc := 1) dX7_frontIn_1 rfl ?_
  refine go_V1Vx (pc := 2) v_X7_135 rfl rfl (rcv_of (ci := 7) (by first | exact co0 hC | exact sr0 hR_q | exact be0 hQ_q | exact sr0 hT_q | exact be0 hQ9 | exact sr1 hR_q | exact sr2 hR_q | exact sr3 hR_q | exact sr4 hR_q | exact be1 hQ_q | exact be2 hQ_q | exact be3 hQ_q | exact sr3 hT_q | exact sr2 hT_q | exact sr1 hT_q | exact sr4 hT_q | exact co4 hC | exact co2 hC | exact co3 hC | exact co0 hC9 | exact sr0 hR9 | exact co4 hC9 | exact sr3 hR9 | exact sr2 hR9) rfl) dX7_frontIn_2 (cp_needPerson (k := k - 1) hC hR_q hr_q hQ_q hB_q (by omega) _) (fun x σx nx hx_q => by obtain ⟨h9_q, rfl, rfl, h8_q⟩ := hx_q; exact Or.inr ⟨_, rfl, ⟨0, (by rw [show aFrontIn K p.toInt = (1, 0) from by simp only [aFrontIn, h9_q]]; rfl), rfl⟩, rfl, h8_q⟩) (fun σ n h_q => ?_)
  obtain ⟨⟨j1_q, hj1, rfl, hj1a⟩, rfl, rfl⟩ := h_q
  refine go_aload_n (pc := 5) dX7_frontIn_5 rfl ?_
  refine go_V0A (pc := 6) v_X7_223 rfl rfl (rcv_of (ci := 7) (by first | exact co0 hC | exact sr0 hR_q | exact be0 hQ_q | exact sr0 hT_q | exact be0 hQ9 | exact sr1 hR_q | exact sr2 hR_q | exact sr3 hR_q | exact sr4 hR_q | exact be1 hQ_q | exact be2 hQ_q | exact be3 hQ_q | exact sr3 hT_q | exact sr2 hT_q | exact sr1 hT_q | exact sr4 hT_q | exact co4 hC | exact co2 hC | exact co3 hC | exact co0 hC9 | exact sr0 hR9 | exact co4 hC9 | exact sr3 hR9 | exact sr2 hR9) rfl) dX7_frontIn_6 (cp_trial (k := k - 1) hC hR_q hr_q hQ_q hB_q hg_q hS_q hD hsb (by omega)) (fun v_6 σ n h_q => ?_)
  obtain ⟨rfl, rfl, ⟨ch9, co9, rw9, bk9, hT_q, hr9_q⟩, hf_q⟩ := h_q
  have hQ9 := hQ_q.fr hf_q (by omega) (by omega)
  refine go_astore_n (lw := [_, _, _, _]) (pc := 9) dX7_frontIn_9 (by decide) rfl ?_
  refine go_iconst (v := 0) (pc := 10) dX7_frontIn_10 (by decide) ?_
  refine go_istore_n (lw := [_, _, _, _]) (pc := 11) dX7_frontIn_11 (by decide) rfl ?_
  refine go_iter (201) (fun i_q lv9 s9 n9 => ∃ (ch9 : row), ∃ (co9 : row), ∃ (rw9 : row), ∃ (bk9 : row), lv9 = [some (.ref a), some (.int (nI j1_q)), some (.ref (a + 89)), some (.int (nI i_q))] ∧ (SrAt Γ ro s9 (a + 89) b w (goK i_q K 33) ch9 co9 rw9 bk9) ∧ (rS (goK i_q K) ch9 co9 rw9 bk9) ∧ (BrAt Γ D ro s9 b K ag pa pf lm lt lw) ∧ (frC Γ ro (a + 89) (a + 93) z0 s9) ∧ (fnd (fun m => decide (goK m K (16 + j1_q) = 0)) i_q (201 - i_q) = fnd (fun m => decide (goK m K (16 + j1_q) = 0)) 0 201) ∧ n = n9) ⟨_, _, _, _, rfl, hT_q, hr9_q, hQ9, hf_q, rfl, rfl⟩ ?_ ?_
  · rintro i_q lv9 σ n9 hi_q ⟨ch9, co9, rw9, bk9, rfl, hT_q, hr9_q, hQ9, hf_q, hR9, rfl⟩ ih_q
    have hs9 : sameB K (goK i_q K) := goK_same (by omega)
    have hB9_q := hs9.okB hB_q
    have hg9_q : gS (goK i_q K) := gS_go hg_q hP8 hH5
    have eP_q := hs9.P
    have eH_q := hs9.H
    have eW := hs9.W
    refine go_iload_n (pc := 12) dX7_frontIn_12 rfl ?_
    refine go_sipush (v := 200) (pc := 13) dX7_frontIn_13 (by decide) ?_
    refine go_icmp_gt (tgt := 41) (pc := 16) dX7_frontIn_16 (by decide) (fun h_16 => by exfalso; exact absurd h_16 (Int32.not_lt.mpr (nI_le (b := 200) (by omega) (by decide)))) (fun h_16 => ?_)
    refine go_aload_n (pc := 19) dX7_frontIn_19 rfl ?_
    refine go_getf (pc := 20) f_X7_141 dX7_frontIn_20 (by first | exact co0 hC | exact sr0 hR_q | exact be0 hQ_q | exact sr0 hT_q | exact be0 hQ9 | exact sr1 hR_q | exact sr2 hR_q | exact sr3 hR_q | exact sr4 hR_q | exact be1 hQ_q | exact be2 hQ_q | exact be3 hQ_q | exact sr3 hT_q | exact sr2 hT_q | exact sr1 hT_q | exact sr4 hT_q | exact co4 hC | exact co2 hC | exact co3 hC | exact co0 hC9 | exact sr0 hR9 | exact co4 hC9 | exact sr3 hR9 | exact sr2 hR9) (by rfl) ?_
    refine go_iload_n (pc := 23) dX7_frontIn_23 rfl ?_
    refine go_iald (pc := 24) dX7_frontIn_24 (by first | exact co0 hC | exact sr0 hR_q | exact be0 hQ_q | exact sr0 hT_q | exact be0 hQ9 | exact sr1 hR_q | exact sr2 hR_q | exact sr3 hR_q | exact sr4 hR_q | exact be1 hQ_q | exact be2 hQ_q | exact be3 hQ_q | exact sr3 hT_q | exact sr2 hT_q | exact sr1 hT_q | exact sr4 hT_q | exact co4 hC | exact co2 hC | exact co3 hC | exact co0 hC9 | exact sr0 hR9 | exact co4 hC9 | exact sr3 hR9 | exact sr2 hR9) (by exact ⟨rfl, by omega⟩) ?_
    rw [(hr9_q.1 j1_q (by omega)).2.1]
    refine go_if_ne (tgt := 30) (pc := 25) dX7_frontIn_25 (by decide) (fun h_25 => ?_) (fun h_25 => ?_)
    · refine go_aload_n (pc := 30) dX7_frontIn_30 rfl ?_
      refine go_iconst (v := 0) (pc := 31) dX7_frontIn_31 (by decide) ?_
      refine go_V1V (pc := 32) v_X7_207 rfl rfl (rcv_of (ci := 5) (by first | exact co0 hC | exact sr0 hR_q | exact be0 hQ_q | exact sr0 hT_q | exact be0 hQ9 | exact sr1 hR_q | exact sr2 hR_q | exact sr3 hR_q | exact sr4 hR_q | exact be1 hQ_q | exact be2 hQ_q | exact be3 hQ_q | exact sr3 hT_q | exact sr2 hT_q | exact sr1 hT_q | exact sr4 hT_q | exact co4 hC | exact co2 hC | exact co3 hC | exact co0 hC9 | exact sr0 hR9 | exact co4 hC9 | exact sr3 hR9 | exact sr2 hR9) rfl) dX7_frontIn_32 (cp_pass (k := k - 1) hT_q hr9_q (hQ9.sm hs9) hB9_q hg9_q (by omega) (by omega) (by omega) _) (fun σ n h_q => ?_)
      obtain ⟨rfl, ⟨ch9, co9, rw9, bk9, hT_q, hr9_q⟩, hf1⟩ := h_q
      have hf_q := hf_q.tr hf1
      have hQ9 := hQ9.fr hf1 (by omega) (by omega)
      rw [pasW_0 (by decide) hg9_q (by omega) (by omega)] at hT_q
      refine go_iinc (v := 1) (lw := [_, _, _, _]) (pc := 35) dX7_frontIn_35 rfl (by decide) (by decide) rfl ?_
      refine go_goto (tgt := 12) (pc := 38) dX7_frontIn_38 (by decide) ?_
      rw [nI_1]
      exact ih_q _ _ _ ⟨_, _, _, _, rfl, (by rw [goK_s]; exact hT_q), (by rw [goK_s]; exact hr9_q), hQ9, hf_q, (by rw [← hR9, fnd_n hi_q (by simpa using h_25)]), rfl⟩
    · refine go_iload_n (pc := 28) dX7_frontIn_28 rfl ?_
      exact go_iretT (pc := 29) rfl dX7_frontIn_29 (Nat.le_of_ble_eq_true rfl) (Nat.le_of_ble_eq_true rfl) ⟨by simp only [aFrontIn, hj1], by simp only [aFrontIn, hj1]; rw [← hR9, fnd_y hi_q (by simpa using h_25)]; rfl, rfl, hS_q.s0 hC.1 hf_q hT_q.T, hf_q.toS (fun q x y => by omega)⟩
  · rintro lv9 σ n9 ⟨ch9, co9, rw9, bk9, rfl, hT_q, hr9_q, hQ9, hf_q, hR9, rfl⟩
    refine go_iload_n (pc := 12) dX7_frontIn_12 rfl ?_
    refine go_sipush (v := 200) (pc := 13) dX7_frontIn_13 (by decide) ?_
    refine go_icmp_gt (tgt := 41) (pc := 16) dX7_frontIn_16 (by decide) (fun h_16 => ?_) (fun h_16 => by exfalso; exact h_16 (nI_lt (a := 200) (b := 201) (by decide) (by decide)))
    refine go_iconst (v := -1) (pc := 41) dX7_frontIn_41 (by decide) ?_
    exact go_iretT (pc := 42) rfl dX7_frontIn_42 (Nat.le_of_ble_eq_true rfl) (Nat.le_of_ble_eq_true rfl) ⟨by simp only [aFrontIn, hj1], by simp only [aFrontIn, hj1]; rw [← hR9, Nat.sub_self]; rfl, rfl, hS_q.s0 hC.1 hf_q hT_q.T, hf_q.toS (fun q x y => by omega)⟩
theorem cp_front {Γ : gam} {D : Nat} {ro : Nat → Nat} {z0 : sto} {n k a b : Nat} {w : Int32} {K ag pa pf ch co rw bk G : row} {im : Nat → Option Nat} {lm lt lw : Value} (hC : CoAt Γ ro z0 a G im) (hR_q : SrAt Γ ro z0 (a + 14) b w (K 33) ch co rw bk) (hr_q : rS K ch co rw bk) (hQ_q : BrAt Γ D ro z0 b K ag pa pf lm lt lw) (hB_q : okB K) (hg_q : gS K) (hS_q : ScAt Γ ro z0 a) (hD : a + 113 < D) (hsb : b = a + 10 ∨ a + 113 < b) (hk : 12 ≤ k) (z : Int32) : Sp Γ (rmk k 4 24) uX7_front [.ref a, .int z] z0 n (qT (qI fun v σ' n' => (aFront K z.toInt).1 = 0 ∧ v = (aFront K z.toInt).2 ∧ n' = n ∧ ScAt Γ ro σ' a ∧ frS Γ ro (scr a) z0 σ') (fun x σ' n' => exL [eIA] (aFront K z.toInt).1 x ∧ σ' = z0 ∧ n ≤ n')) := by
  have hP8 := hB_q.1.2.1
  have hH5 := hB_q.1.2.2.2.1
  have hW4 := hB_q.1.2.2.2.2.2
  refine sp_intro [some (.ref a), some (.int z)] (by decide +kernel) rfl (Nat.le_of_ble_eq_true rfl) rfl ?_
  refine go_aload_n (pc := 0) dX7_front_0 rfl ?_
  refine go_iload_n (pc := 1) dX7_front_1 rfl ?_
  refine go_iconst (v := 0) (pc := 2) dX7_front_2 (by decide) ?_
  refine go_sipush (v := 200) (pc := 3) dX7_front_3 (by decide) ?_
  refine go_V3Vx (pc := 6) v_X7_90 rfl rfl (rcv_of (ci := 7) (by first | exact co0 hC | exact sr0 hR_q | exact be0 hQ_q | exact sr0 hT_q | exact be0 hQ9 | exact sr1 hR_q | exact sr2 hR_q | exact sr3 hR_q | exact sr4 hR_q | exact be1 hQ_q | exact be2 hQ_q | exact be3 hQ_q | exact sr3 hT_q | exact sr2 hT_q | exact sr1 hT_q | exact sr4 hT_q | exact co4 hC | exact co2 hC | exact co3 hC | exact co0 hC9 | exact sr0 hR9 | exact co4 hC9 | exact sr3 hR9 | exact sr2 hR9) rfl) dX7_front_6 (cp_nW (k := k - 1) (lo := 0) (hi_q := 200) (by omega) (by decide) (by decide) _) (fun x σx nx hx_q => by obtain ⟨h9_q, rfl, rfl, h8_q⟩ := hx_q; exact Or.inr ⟨_, rfl, ⟨0, (by rw [show aFront K z.toInt = (1, 0) from by simp only [aFront, h9_q]]; rfl), rfl⟩, rfl, h8_q⟩) (fun σ n h_q => ?_)
  obtain ⟨⟨j2_q, hj2, rfl, hj2a, hj2b⟩, rfl, rfl⟩ := h_q
  refine go_aload_n (pc := 9) dX7_front_9 rfl ?_
  refine go_iload_n (pc := 10) dX7_front_10 rfl ?_
  refine go_V1A (pc := 11) v_X7_252 rfl rfl (rcv_of (ci := 7) (by first | exact co0 hC | exact sr0 hR_q | exact be0 hQ_q | exact sr0 hT_q | exact be0 hQ9 | exact sr1 hR_q | exact sr2 hR_q | exact sr3 hR_q | exact sr4 hR_q | exact be1 hQ_q | exact be2 hQ_q | exact be3 hQ_q | exact sr3 hT_q | exact sr2 hT_q | exact sr1 hT_q | exact sr4 hT_q | exact co4 hC | exact co2 hC | exact co3 hC | exact co0 hC9 | exact sr0 hR9 | exact co4 hC9 | exact sr3 hR9 | exact sr2 hR9) rfl) dX7_front_11 (cp_ahead (k := k - 1) hC hR_q hr_q hQ_q hB_q hg_q hS_q hD hsb (by omega) (by omega)) (fun v_11 σ n h_q => ?_)
  obtain ⟨rfl, rfl, ⟨ch9, co9, rw9, bk9, hT_q, hr9_q⟩, hf_q⟩ := h_q
  have hQ9 := hQ_q.fr hf_q (by omega) (by omega)
  refine go_V0P (pc := 14) v_X7_242 rfl rfl (rcv_of (ci := 5) (by first | exact co0 hC | exact sr0 hR_q | exact be0 hQ_q | exact sr0 hT_q | exact be0 hQ9 | exact sr1 hR_q | exact sr2 hR_q | exact sr3 hR_q | exact sr4 hR_q | exact be1 hQ_q | exact be2 hQ_q | exact be3 hQ_q | exact sr3 hT_q | exact sr2 hT_q | exact sr1 hT_q | exact sr4 hT_q | exact co4 hC | exact co2 hC | exact co3 hC | exact co0 hC9 | exact sr0 hR9 | exact co4 hC9 | exact sr3 hR9 | exact sr2 hR9) rfl) dX7_front_14 (cp_inFront (k := k - 1) hT_q hr9_q (hQ9.sm (goK_same hP8)) ((goK_same hP8).okB hB_q) (by omega)) ?_
  exact go_iretT (pc := 17) rfl dX7_front_17 (Nat.le_of_ble_eq_true rfl) (Nat.le_of_ble_eq_true rfl) ⟨by simp only [aFront, hj2], by simp only [aFront, hj2], rfl, hS_q.s0 hC.1 hf_q hT_q.T, hf_q.toS (fun q x y => by omega)⟩
