/-! ===== the class: laws kept ===== -/
theorem go_eqI {Γ : gam} {R : Room} {M : mth} {Q : qp} {cells slots pc : Nat} {lv : List (Option Value)} {st : List Value} {σ : sto} {n a N : Nat} {f_q : Nat → Int32} (f' : Nat → Int32) (ho : σ a = some (cI Γ N f_q)) (he : ∀ j, j < N → f' j = f_q j) (kk : Go Γ R M Q cells slots pc lv st (sup σ a (cI Γ N f')) n) : Go Γ R M Q cells slots pc lv st σ n := by
  intro p e_q s m args below meth c_q H locs ls C W0 S0 L0
  refine kk p e_q s m args below meth c_q H locs ls C (W0.put ho rfl (fun _ _ => rfl) ?_) S0 L0
  have h1_q := (W0.2.2.2 a _ ho).2.2
  show H[a]? = some (vp_cell _ _)
  have h2_q : H[a]? = some (vp_cell _ _) := h1_q
  rw [h2_q, vp_cell_i, vp_cell_i]
  congr 1
  exact (arrV_cg (fun j hj_q => by rw [he j hj_q])).symm
theorem cp_copyOf {Γ : gam} {z0 : sto} {n k x_q N m : Nat} {f_q : row} (ho : z0 x_q = some (cI Γ N f_q)) (hN_q : N < 2 ^ 20) (hm_q : m < N) (hx_q : x_q < n) (hk : 2 ≤ k) : Sp Γ (rmk k 1 m) uJ7_copyOf_59c91 [.ref x_q, .int (nI m)] z0 n (qA fun v_q σ' n' => v_q = n ∧ n' = n + 1 ∧ (∃ g_q : row, σ' n = some (cI Γ m g_q) ∧ ∀ j, j < m → g_q j = f_q j) ∧ ∀ q, q ≠ n → σ' q = z0 q) := by
  refine sp_intro [some (.ref x_q), some (.int (nI m)), none] (by decide +kernel) rfl (Nat.le_of_ble_eq_true rfl) rfl ?_
  refine go_iload_n (pc := 0) dJ7_copyOf_59c91_0 rfl ?_
  refine go_aload_n (pc := 1) dJ7_copyOf_59c91_1 rfl ?_
  refine go_alen (pc := 2) dJ7_copyOf_59c91_2 ho (t0 := 0) rfl rfl ?_
  refine go_icmp_ne (tgt := 14) (pc := 3) dJ7_copyOf_59c91_3 (by decide) (fun h_3 => ?_) (fun h_3 => by exfalso; have := (nI_eq (a := m) (b := N) (by omega) (by omega)).mp h_3; omega)
  refine go_iload_n (pc := 14) dJ7_copyOf_59c91_14 rfl ?_
  refine go_newI (N := m) (pc := 15) dJ7_copyOf_59c91_15 (nI_pos (by omega)) (nI_clamp (by omega)) (by show m * 4 ≤ 536870912; omega) (Nat.le_of_ble_eq_true rfl) (by show 0 + m ≤ m; omega) ?_
  refine go_astore_n (lw := [_, _, _]) (pc := 17) dJ7_copyOf_59c91_17 (by decide) rfl ?_
  refine go_aload_n (pc := 18) dJ7_copyOf_59c91_18 rfl ?_
  refine go_iconst (v := 0) (pc := 19) dJ7_copyOf_59c91_19 (by decide) ?_
  refine go_aload_n (pc := 20) dJ7_copyOf_59c91_20 rfl ?_
  refine go_iconst (v := 0) (pc := 21) dJ7_copyOf_59c91_21 (by decide) ?_
  refine go_aload_n (pc := 22) dJ7_copyOf_59c91_22 rfl ?_
  refine go_alen (pc := 23) dJ7_copyOf_59c91_23 (sup_ne (by omega) ho) (t0 := 0) rfl rfl ?_
  refine go_iload_n (pc := 24) dJ7_copyOf_59c91_24 rfl ?_
  refine go_mmin (pc := 25) s_J7_304 dJ7_copyOf_59c91_25 ?_ (hss := by show 0 + m ≤ m; omega)
  rw [show (if nI m < Int32.ofNat (N, Sum.inl f_q).1 then nI m else Int32.ofNat (N, Sum.inl f_q).1) = nI m from if_pos (nI_lt hm_q (by omega))]
  refine go_copyI (pc := 28) kw4_18 dJ7_copyOf_59c91_28 (sup_ne (by omega) ho) sup_eq (by decide) (by decide) (nI_pos (by omega)) (by rw [nI_clamp (by omega)]; show 0 + m ≤ N; omega) (by rw [nI_clamp (by omega)]; show 0 + m ≤ m; omega) ?_
  refine go_aload_n (pc := 31) dJ7_copyOf_59c91_31 rfl ?_
  exact go_aretA (pc := 32) rfl (Or.inr ⟨_, rfl⟩) dJ7_copyOf_59c91_32 (Nat.le_of_ble_eq_true rfl) (by show 0 + m ≤ m; omega) ⟨rfl, rfl, ⟨_, sup_eq, fun j hj_q => by rw [nI_clamp (by omega)]; exact cpy_at hj_q⟩, fun q hq_q => sup_ne hq_q (sup_ne hq_q rfl)⟩
theorem cp_newL {Γ : gam} {z0 : sto} {n k x_q c_q : Nat} (ho : z0 x_q = some (cO 3 df3)) (hx_q : x_q < n) (hk : 1 ≤ k) : Sp Γ (rmk k 1 48) uX3_init [.ref x_q, .ref c_q] z0 (n) (qV fun σ' n' => n' = n + 1 ∧ σ' x_q = some (cO 3 [.ref c_q, .ref n]) ∧ stkC Γ σ' n ∧ ∀ q, q ≠ x_q → q ≠ n → σ' q = z0 q) := by
  refine sp_intro [some (.ref x_q), some (.ref c_q)] (by decide +kernel) rfl (Nat.le_of_ble_eq_true rfl) rfl ?_
  refine go_aload_n (pc := 0) dX3_init_0 rfl ?_
  refine go_obj (pc := 1) kw4_22 kw1_32 (by exact kw1_33) dX3_init_1 (by show 1 ≤ k; omega) (by show 12 ≤ 40 * k; omega) ?_
  refine go_aload_n (pc := 4) dX3_init_4 rfl ?_
  refine go_bipush (v := 48) (pc := 5) dX3_init_5 (by decide) ?_
  refine go_newI (pc := 7) dX3_init_7 (by decide) rfl (by decide) (Nat.le_of_ble_eq_true rfl) (Nat.le_of_ble_eq_true rfl) ?_
  refine go_putF (fs' := [_, _]) (pc := 9) f_X3_9 rfl (by intro K T N h_q; cases h_q; rfl) dX3_init_9 (by repeat (first | exact ho | exact sup_eq | refine sup_ne (by omega) ?_)) (Nat.le_of_ble_eq_true rfl) (by rfl) rfl rfl ?_
  refine go_aload_n (pc := 12) dX3_init_12 rfl ?_
  refine go_aload_n (pc := 13) dX3_init_13 rfl ?_
  refine go_putF (fs' := [_, _]) (pc := 14) f_X3_13 rfl (by intro K T N h_q; cases h_q; rfl) dX3_init_14 (by repeat (first | exact ho | exact sup_eq | refine sup_ne (by omega) ?_)) (Nat.le_of_ble_eq_true rfl) (by rfl) rfl rfl ?_
  exact go_vretV (pc := 17) rfl dX3_init_17 (Nat.le_of_ble_eq_true rfl) (Nat.le_of_ble_eq_true rfl) ⟨rfl, sup_eq, ⟨_, (by repeat (first | exact sup_eq | refine sup_ne (by omega) ?_))⟩, fun q h1_q h2_q => (by repeat (first | exact rfl | exact sup_eq | refine sup_ne (by omega) ?_))⟩
theorem cr_kp {Γ : gam} {σ σ1 : sto} {a N b_q : Nat} {lw : Int32} {s : ps} (hC : CrAt Γ σ a N b_q lw s) (hq_q : ∀ q, (q = a + 71 ∨ (a + 77 ≤ q ∧ q ≤ a + 80)) → σ1 q = σ q) : CrAt Γ σ1 a N b_q lw s := by
  obtain ⟨T, t_q, sz, pl, ck, cv, cp, cc, ⟨r0, r1, r2, r3, r4⟩, hT_q, hpl, hl, hst⟩ := hC
  exact ⟨T, t_q, sz, pl, ck, cv, cp, cc, ⟨(hq_q _ (by omega)).trans r0, (hq_q _ (by omega)).trans r1, (hq_q _ (by omega)).trans r2, (hq_q _ (by omega)).trans r3, (hq_q _ (by omega)).trans r4⟩, hT_q, hpl, hl, hst⟩
theorem cp_keepLaw {Γ : gam} {D : Nat} {ro : Nat → Nat} {z0 : sto} {n k a b_q N w : Nat} {s : ps} {T : row} (hC : CrAt Γ z0 a N b_q (nI (w + 3)) s) (hG_q : ClG Γ D ro z0 a b_q T) (hw_q : 4 ≤ w ∧ w ≤ 6) (hb_q : s.bad = 0) (hne : s.st ≠ []) (hL : s.st.length ≤ 899) (hT_q : ∀ w2_q, 4 ≤ w2_q → w2_q ≤ 6 → (T w2_q).toNatClampNeg ≤ 900) (h8_q : kP T ≤ 8) (hab : a + 113 < b_q) (hbD : b_q + 4 ≤ D) (hn : D ≤ n) (hro : ro n = 0 ∧ ro (n + 1) = 0 ∧ ro (n + 2) = 1) (hk : 5 ≤ k) : Sp Γ (rmk k 3 (50 + s.st.length)) uX4_keepLaw [.ref (a + 71)] z0 n (qV fun σ' n' => n' = n + 3 ∧ CrAt Γ σ' a N b_q (nI (w + 3)) s ∧ ClG Γ D ro σ' a b_q (layT w s.st T) ∧ ∀ q, q < n → q ≠ b_q → σ' q = z0 q) := by
  have hC0 := hC
  obtain ⟨T9, t_q, sz, pl, ck, cv, cp, cc, ⟨r0, r1, r2, r3, r4⟩, hT9, hpl, hl, hst⟩ := hC0
  simp only [RdC] at r0
  obtain ⟨esz, hsz, hcc⟩ := hst hb_q (by omega)
  subst esz
  obtain ⟨ag, pa, pf, lm, lt, lw, ch, co, rw, bk, hQ_q, hdf, hR_q, hr_q, hbk⟩ := hG_q
  refine sp_intro [some (.ref (a + 71)), none] (by decide +kernel) rfl (Nat.le_of_ble_eq_true rfl) rfl ?_
  refine go_low (fun hlow => ?_)
  rcases (show w = 4 ∨ w = 5 ∨ w = 6 by omega) with e4_q | e4_q | e4_q
  · refine go_aload_n (pc := 0) dX4_keepLaw_0 rfl ?_
    refine go_getf (pc := 1) f_X4_37 dX4_keepLaw_1 (by first | exact r0 | exact sup_ne (by omega) r0) (by rfl) ?_
    refine go_if_eq (tgt := 8) (pc := 4) dX4_keepLaw_4 (by decide) (fun h_4 => ?_) (fun h_4 => by exfalso; exact h_4 hb_q)
    have an : a + 113 < n := by omega
    refine go_new (ci := 3) (fs := df3) (pc := 8) n_X4_169 rfl df3_ok dX4_keepLaw_8 (Nat.le_of_ble_eq_true rfl) (by show 0 + 2 ≤ 50 + s.st.length; omega) ?_
    refine go_dup (pc := 11) dX4_keepLaw_11 rfl ?_
    refine go_aload_n (pc := 12) dX4_keepLaw_12 rfl ?_
    refine go_getf (pc := 13) f_X4_21 dX4_keepLaw_13 (by first | exact r0 | exact sup_ne (by omega) r0) (by rfl) ?_
    refine go_aload_n (pc := 16) dX4_keepLaw_16 rfl ?_
    refine go_getf (pc := 17) f_X4_31 dX4_keepLaw_17 (by first | exact r0 | exact sup_ne (by omega) r0) (by rfl) ?_
    refine go_S2A (pc := 20) s_X4_171 rfl rfl dX4_keepLaw_20 (cp_copyOf (k := k - 1) (sup_ne (by omega) r4) (by decide) (by omega) (by omega) (by omega)) (fun v_20 σ n h_q => ?_) (hC := ⟨Nat.le_of_ble_eq_true rfl, by show 0 + 2 + s.st.length ≤ 50 + s.st.length; omega⟩)
    obtain ⟨rfl, rfl, ⟨g9_q, y1_q, yg⟩, yq⟩ := h_q
    have y0 := (yq n (by omega)).trans (sup_eq (σ := z0) (a := n) (e := cO 3 df3))
    refine go_I1V (pc := 23) i_X4_177 rfl rfl dX4_keepLaw_23 (cp_newL (k := k - 1) y0 (by omega) (by omega)) (fun σ n h_q => ?_) (hC := ⟨Nat.le_of_ble_eq_true rfl, by show 0 + 2 + s.st.length + 48 ≤ 50 + s.st.length; omega⟩)
    obtain ⟨rfl, x0, x2_q, xq⟩ := h_q
    have x1_q := (xq (n + 1) (by omega) (by omega)).trans y1_q
    have xo : ∀ q, q < n → σ q = z0 q := fun q hq_q => (xq q (by omega) (by omega)).trans ((yq q (by omega)).trans (sup_ne (by omega) rfl))
    refine go_eqI (fun j => (s.st.map trS).getD j 0) x1_q (fun j hj_q => ?_) ?_
    · rw [yg j hj_q, hcc j hj_q, List.getD_eq_getElem?_getD, List.getD_eq_getElem?_getD, List.getElem?_map, List.getElem?_eq_getElem hj_q]
      rfl
    refine go_set (P := fun x_q => LwAt Γ D ro x_q n (s.st.map trS) ∧ ∀ q, q < n → x_q q = z0 q) ⟨⟨⟨hn, hro⟩, sup_ne (by omega) x0, (by rw [List.length_map]; exact sup_eq), stk_kp x2_q (sup_ne (by omega) rfl)⟩, fun q hq_q => sup_ne (by omega) (xo q hq_q)⟩ (fun σ hP => ?_)
    obtain ⟨hLw, xo⟩ := hP
    have r0 := (xo (a + 71) (by omega)).trans r0
    have q0 := (xo b_q (by omega)).trans (be0 hQ_q)
    have hO : ∀ q, D ≤ q → z0 q ≠ none → σ q = z0 q := fun q h1_q h2_q => by
      cases e_q : z0 q with
      | none => exact absurd e_q h2_q
      | some e9_q => rw [← e_q]; exact xo q (hlow q e9_q e_q)
    refine go_astore_n (lw := [_, _]) (pc := 26) dX4_keepLaw_26 (by decide) rfl ?_
    refine go_aload_n (pc := 27) dX4_keepLaw_27 rfl ?_
    refine go_getf (pc := 28) f_X4_34 dX4_keepLaw_28 (by first | exact r0 | exact sup_ne (by omega) r0) (by rfl) ?_
    refine go_bipush (v := 7) (pc := 31) dX4_keepLaw_31 (by decide) ?_
    refine go_icmp_ne (tgt := 47) (pc := 33) dX4_keepLaw_33 (by decide) (fun h_33 => by exfalso; exact h_33 (by rw [e4_q]; rfl)) (fun h_33 => ?_)
    refine go_aload_n (pc := 36) dX4_keepLaw_36 rfl ?_
    refine go_getf (pc := 37) f_X4_53 dX4_keepLaw_37 r0 (by rfl) ?_
    refine go_aload_n (pc := 40) dX4_keepLaw_40 rfl ?_
    refine go_putf (fs' := [_, _, _, _, _, _, _, _, _, _, _]) (pc := 41) f_X4_180 dX4_keepLaw_41 q0 (Nat.le_of_ble_eq_true rfl) (by rfl) rfl rfl ?_
    refine go_goto (tgt := 75) (pc := 44) dX4_keepLaw_44 (by decide) ?_
    exact go_vretV (pc := 75) rfl dX4_keepLaw_75 (Nat.le_of_ble_eq_true rfl) (by show _ ≤ 50 + s.st.length; simp only [rmk]; omega) (by
  subst e4_q
  have hl9 : s.st.length ≤ 900 := by omega
  have lo : ∀ j, j < 319 → j ≠ 4 → layT 4 s.st T j = T j := fun j h1_q h2_q => lay_o h2_q (by have := lwA_b (w := 4); omega)
  have hsD : ∀ (v_q : va_E) (q : Nat), q ≠ b_q → sup σ b_q v_q q = σ q := fun v_q q hq_q => sup_ne hq_q rfl
  have hLw2 : ∀ v_q : va_E, LwAt Γ D ro (sup σ b_q v_q) n (s.st.map trS) := fun v_q => hLw.kq (fun q hq_q => sup_ne (by omega) rfl)
  have hO2 : ∀ (v_q : va_E) (q : Nat), D ≤ q → z0 q ≠ none → sup σ b_q v_q q = z0 q := fun v_q q h1_q h2_q => (sup_ne (by omega) rfl).trans (hO q h1_q h2_q)
  refine ⟨rfl, ?_, ⟨ag, pa, pf, .ref n, lt, lw, ch, co, rw, bk, ⟨hQ_q.1, ?_, sup_ne (by omega) ((xo _ (by omega)).trans (be1 hQ_q)), sup_ne (by omega) ((xo _ (by omega)).trans (be2 hQ_q)), sup_ne (by omega) ((xo _ (by omega)).trans (be3 hQ_q)), ?_, ?_, ?_, ?_⟩, ?_, ?_, ?_, hbk⟩, fun q h1_q h2_q => sup_ne h2_q (xo q h1_q)⟩
  · exact cr_kp hC (fun q h1_q => sup_ne (by omega) (xo q (by omega)))
  · rw [lo 1 (by omega) (by omega), lo 2 (by omega) (by omega), lo 3 (by omega) (by omega), lo 0 (by omega) (by omega), lo 42 (by omega) (by omega)]
    exact sup_eq
  · exact LwV.nw (w := 4) (by omega) hl9 hne (hLw2 _)
  · exact LwV.ot (w2 := 5) (w := 4) (by omega) (by omega) (by omega) (by omega) (by omega) hl9 (hT_q 5 (by omega) (by omega)) hQ_q.2.2.2.2.2.2.1 (hO2 _)
  · exact LwV.ot (w2 := 6) (w := 4) (by omega) (by omega) (by omega) (by omega) (by omega) hl9 (hT_q 6 (by omega) (by omega)) hQ_q.2.2.2.2.2.2.2.1 (hO2 _)
  · intro p hp_q
    have hp_q : p < kP T := by
      have : kP (layT 4 s.st T) = kP T := by show (layT 4 s.st T 3).toNatClampNeg = _; rw [lo 3 (by omega) (by omega)]
      rw [this] at hp_q
      exact hp_q
    by_cases h9_q : p < 8
    · rw [lo (34 + p) (by omega) (by omega), lo (43 + p) (by omega) (by omega), lo (51 + p) (by omega) (by omega)]
      exact hQ_q.2.2.2.2.2.2.2.2 p hp_q
    · omega
  · have : kP (layT 4 s.st T) = kP T := by show (layT 4 s.st T 3).toNatClampNeg = _; rw [lo 3 (by omega) (by omega)]
    rw [this]
    exact hdf
  · rw [lo 33 (by omega) (by omega)]
    exact hR_q.kq (fun q h1_q h2_q => sup_ne (by omega) (xo q (by omega)))
  · exact rS_eq hr_q h8_q (fun j hj_q => lo j (by omega) (by omega)))
  · refine go_aload_n (pc := 0) dX4_keepLaw_0 rfl ?_
    refine go_getf (pc := 1) f_X4_37 dX4_keepLaw_1 (by first | exact r0 | exact sup_ne (by omega) r0) (by rfl) ?_
    refine go_if_eq (tgt := 8) (pc := 4) dX4_keepLaw_4 (by decide) (fun h_4 => ?_) (fun h_4 => by exfalso; exact h_4 hb_q)
    have an : a + 113 < n := by omega
    refine go_new (ci := 3) (fs := df3) (pc := 8) n_X4_169 rfl df3_ok dX4_keepLaw_8 (Nat.le_of_ble_eq_true rfl) (by show 0 + 2 ≤ 50 + s.st.length; omega) ?_
    refine go_dup (pc := 11) dX4_keepLaw_11 rfl ?_
    refine go_aload_n (pc := 12) dX4_keepLaw_12 rfl ?_
    refine go_getf (pc := 13) f_X4_21 dX4_keepLaw_13 (by first | exact r0 | exact sup_ne (by omega) r0) (by rfl) ?_
    refine go_aload_n (pc := 16) dX4_keepLaw_16 rfl ?_
    refine go_getf (pc := 17) f_X4_31 dX4_keepLaw_17 (by first | exact r0 | exact sup_ne (by omega) r0) (by rfl) ?_
    refine go_S2A (pc := 20) s_X4_171 rfl rfl dX4_keepLaw_20 (cp_copyOf (k := k - 1) (sup_ne (by omega) r4) (by decide) (by omega) (by omega) (by omega)) (fun v_20 σ n h_q => ?_) (hC := ⟨Nat.le_of_ble_eq_true rfl, by show 0 + 2 + s.st.length ≤ 50 + s.st.length; omega⟩)
    obtain ⟨rfl, rfl, ⟨g9_q, y1_q, yg⟩, yq⟩ := h_q
    have y0 := (yq n (by omega)).trans (sup_eq (σ := z0) (a := n) (e := cO 3 df3))
    refine go_I1V (pc := 23) i_X4_177 rfl rfl dX4_keepLaw_23 (cp_newL (k := k - 1) y0 (by omega) (by omega)) (fun σ n h_q => ?_) (hC := ⟨Nat.le_of_ble_eq_true rfl, by show 0 + 2 + s.st.length + 48 ≤ 50 + s.st.length; omega⟩)
    obtain ⟨rfl, x0, x2_q, xq⟩ := h_q
    have x1_q := (xq (n + 1) (by omega) (by omega)).trans y1_q
    have xo : ∀ q, q < n → σ q = z0 q := fun q hq_q => (xq q (by omega) (by omega)).trans ((yq q (by omega)).trans (sup_ne (by omega) rfl))
    refine go_eqI (fun j => (s.st.map trS).getD j 0) x1_q (fun j hj_q => ?_) ?_
    · rw [yg j hj_q, hcc j hj_q, List.getD_eq_getElem?_getD, List.getD_eq_getElem?_getD, List.getElem?_map, List.getElem?_eq_getElem hj_q]
      rfl
    refine go_set (P := fun x_q => LwAt Γ D ro x_q n (s.st.map trS) ∧ ∀ q, q < n → x_q q = z0 q) ⟨⟨⟨hn, hro⟩, sup_ne (by omega) x0, (by rw [List.length_map]; exact sup_eq), stk_kp x2_q (sup_ne (by omega) rfl)⟩, fun q hq_q => sup_ne (by omega) (xo q hq_q)⟩ (fun σ hP => ?_)
    obtain ⟨hLw, xo⟩ := hP
    have r0 := (xo (a + 71) (by omega)).trans r0
    have q0 := (xo b_q (by omega)).trans (be0 hQ_q)
    have hO : ∀ q, D ≤ q → z0 q ≠ none → σ q = z0 q := fun q h1_q h2_q => by
      cases e_q : z0 q with
      | none => exact absurd e_q h2_q
      | some e9_q => rw [← e_q]; exact xo q (hlow q e9_q e_q)
    refine go_astore_n (lw := [_, _]) (pc := 26) dX4_keepLaw_26 (by decide) rfl ?_
    refine go_aload_n (pc := 27) dX4_keepLaw_27 rfl ?_
    refine go_getf (pc := 28) f_X4_34 dX4_keepLaw_28 (by first | exact r0 | exact sup_ne (by omega) r0) (by rfl) ?_
    refine go_bipush (v := 7) (pc := 31) dX4_keepLaw_31 (by decide) ?_
    refine go_icmp_ne (tgt := 47) (pc := 33) dX4_keepLaw_33 (by decide) (fun h_33 => ?_) (fun h_33 => by exfalso; rw [e4_q] at h_33; exact absurd h_33 (by decide))
    refine go_aload_n (pc := 47) dX4_keepLaw_47 rfl ?_
    refine go_getf (pc := 48) f_X4_34 dX4_keepLaw_48 (by first | exact r0 | exact sup_ne (by omega) r0) (by rfl) ?_
    refine go_bipush (v := 8) (pc := 51) dX4_keepLaw_51 (by decide) ?_
    refine go_icmp_ne (tgt := 67) (pc := 53) dX4_keepLaw_53 (by decide) (fun h_53 => by exfalso; exact h_53 (by rw [e4_q]; rfl)) (fun h_53 => ?_)
    refine go_aload_n (pc := 56) dX4_keepLaw_56 rfl ?_
    refine go_getf (pc := 57) f_X4_53 dX4_keepLaw_57 (by first | exact r0 | exact sup_ne (by omega) r0) (by rfl) ?_
    refine go_aload_n (pc := 60) dX4_keepLaw_60 rfl ?_
    refine go_putf (fs' := [_, _, _, _, _, _, _, _, _, _, _]) (pc := 61) f_X4_184 dX4_keepLaw_61 q0 (Nat.le_of_ble_eq_true rfl) (by rfl) rfl rfl ?_
    refine go_goto (tgt := 75) (pc := 64) dX4_keepLaw_64 (by decide) ?_
    exact go_vretV (pc := 75) rfl dX4_keepLaw_75 (Nat.le_of_ble_eq_true rfl) (by show _ ≤ 50 + s.st.length; simp only [rmk]; omega) (by
  subst e4_q
  have hl9 : s.st.length ≤ 900 := by omega
  have lo : ∀ j, j < 319 → j ≠ 5 → layT 5 s.st T j = T j := fun j h1_q h2_q => lay_o h2_q (by have := lwA_b (w := 5); omega)
  have hsD : ∀ (v_q : va_E) (q : Nat), q ≠ b_q → sup σ b_q v_q q = σ q := fun v_q q hq_q => sup_ne hq_q rfl
  have hLw2 : ∀ v_q : va_E, LwAt Γ D ro (sup σ b_q v_q) n (s.st.map trS) := fun v_q => hLw.kq (fun q hq_q => sup_ne (by omega) rfl)
  have hO2 : ∀ (v_q : va_E) (q : Nat), D ≤ q → z0 q ≠ none → sup σ b_q v_q q = z0 q := fun v_q q h1_q h2_q => (sup_ne (by omega) rfl).trans (hO q h1_q h2_q)
  refine ⟨rfl, ?_, ⟨ag, pa, pf, lm, .ref n, lw, ch, co, rw, bk, ⟨hQ_q.1, ?_, sup_ne (by omega) ((xo _ (by omega)).trans (be1 hQ_q)), sup_ne (by omega) ((xo _ (by omega)).trans (be2 hQ_q)), sup_ne (by omega) ((xo _ (by omega)).trans (be3 hQ_q)), ?_, ?_, ?_, ?_⟩, ?_, ?_, ?_, hbk⟩, fun q h1_q h2_q => sup_ne h2_q (xo q h1_q)⟩
  · exact cr_kp hC (fun q h1_q => sup_ne (by omega) (xo q (by omega)))
  · rw [lo 1 (by omega) (by omega), lo 2 (by omega) (by omega), lo 3 (by omega) (by omega), lo 0 (by omega) (by omega), lo 42 (by omega) (by omega)]
    exact sup_eq
  · exact LwV.ot (w2 := 4) (w := 5) (by omega) (by omega) (by omega) (by omega) (by omega) hl9 (hT_q 4 (by omega) (by omega)) hQ_q.2.2.2.2.2.1 (hO2 _)
  · exact LwV.nw (w := 5) (by omega) hl9 hne (hLw2 _)
  · exact LwV.ot (w2 := 6) (w := 5) (by omega) (by omega) (by omega) (by omega) (by omega) hl9 (hT_q 6 (by omega) (by omega)) hQ_q.2.2.2.2.2.2.2.1 (hO2 _)
  · intro p hp_q
    have hp_q : p < kP T := by
      have : kP (layT 5 s.st T) = kP T := by show (layT 5 s.st T 3).toNatClampNeg = _; rw [lo 3 (by omega) (by omega)]
      rw [this] at hp_q
      exact hp_q
    by_cases h9_q : p < 8
    · rw [lo (34 + p) (by omega) (by omega), lo (43 + p) (by omega) (by omega), lo (51 + p) (by omega) (by omega)]
      exact hQ_q.2.2.2.2.2.2.2.2 p hp_q
    · omega
  · have : kP (layT 5 s.st T) = kP T := by show (layT 5 s.st T 3).toNatClampNeg = _; rw [lo 3 (by omega) (by omega)]
    rw [this]
    exact hdf
  · rw [lo 33 (by omega) (by omega)]
    exact hR_q.kq (fun q h1_q h2_q => sup_ne (by omega) (xo q (by omega)))
  · exact rS_eq hr_q h8_q (fun j hj_q => lo j (by omega) (by omega)))
  · refine go_aload_n (pc := 0) dX4_keepLaw_0 rfl ?_
    refine go_getf (pc := 1) f_X4_37 dX4_keepLaw_1 (by first | exact r0 | exact sup_ne (by omega) r0) (by rfl) ?_
    refine go_if_eq (tgt := 8) (pc := 4) dX4_keepLaw_4 (by decide) (fun h_4 => ?_) (fun h_4 => by exfalso; exact h_4 hb_q)
    have an : a + 113 < n := by omega
    refine go_new (ci := 3) (fs := df3) (pc := 8) n_X4_169 rfl df3_ok dX4_keepLaw_8 (Nat.le_of_ble_eq_true rfl) (by show 0 + 2 ≤ 50 + s.st.length; omega) ?_
    refine go_dup (pc := 11) dX4_keepLaw_11 rfl ?_
    refine go_aload_n (pc := 12) dX4_keepLaw_12 rfl ?_
    refine go_getf (pc := 13) f_X4_21 dX4_keepLaw_13 (by first | exact r0 | exact sup_ne (by omega) r0) (by rfl) ?_
    refine go_aload_n (pc := 16) dX4_keepLaw_16 rfl ?_
    refine go_getf (pc := 17) f_X4_31 dX4_keepLaw_17 (by first | exact r0 | exact sup_ne (by omega) r0) (by rfl) ?_
    refine go_S2A (pc := 20) s_X4_171 rfl rfl dX4_keepLaw_20 (cp_copyOf (k := k - 1) (sup_ne (by omega) r4) (by decide) (by omega) (by omega) (by omega)) (fun v_20 σ n h_q => ?_) (hC := ⟨Nat.le_of_ble_eq_true rfl, by show 0 + 2 + s.st.length ≤ 50 + s.st.length; omega⟩)
    obtain ⟨rfl, rfl, ⟨g9_q, y1_q, yg⟩, yq⟩ := h_q
    have y0 := (yq n (by omega)).trans (sup_eq (σ := z0) (a := n) (e := cO 3 df3))
    refine go_I1V (pc := 23) i_X4_177 rfl rfl dX4_keepLaw_23 (cp_newL (k := k - 1) y0 (by omega) (by omega)) (fun σ n h_q => ?_) (hC := ⟨Nat.le_of_ble_eq_true rfl, by show 0 + 2 + s.st.length + 48 ≤ 50 + s.st.length; omega⟩)
    obtain ⟨rfl, x0, x2_q, xq⟩ := h_q
    have x1_q := (xq (n + 1) (by omega) (by omega)).trans y1_q
    have xo : ∀ q, q < n → σ q = z0 q := fun q hq_q => (xq q (by omega) (by omega)).trans ((yq q (by omega)).trans (sup_ne (by omega) rfl))
    refine go_eqI (fun j => (s.st.map trS).getD j 0) x1_q (fun j hj_q => ?_) ?_
    · rw [yg j hj_q, hcc j hj_q, List.getD_eq_getElem?_getD, List.getD_eq_getElem?_getD, List.getElem?_map, List.getElem?_eq_getElem hj_q]
      rfl
    refine go_set (P := fun x_q => LwAt Γ D ro x_q n (s.st.map trS) ∧ ∀ q, q < n → x_q q = z0 q) ⟨⟨⟨hn, hro⟩, sup_ne (by omega) x0, (by rw [List.length_map]; exact sup_eq), stk_kp x2_q (sup_ne (by omega) rfl)⟩, fun q hq_q => sup_ne (by omega) (xo q hq_q)⟩ (fun σ hP => ?_)
    obtain ⟨hLw, xo⟩ := hP
    have r0 := (xo (a + 71) (by omega)).trans r0
    have q0 := (xo b_q (by omega)).trans (be0 hQ_q)
    have hO : ∀ q, D ≤ q → z0 q ≠ none → σ q = z0 q := fun q h1_q h2_q => by
      cases e_q : z0 q with
      | none => exact absurd e_q h2_q
      | some e9_q => rw [← e_q]; exact xo q (hlow q e9_q e_q)
    refine go_astore_n (lw := [_, _]) (pc := 26) dX4_keepLaw_26 (by decide) rfl ?_
    refine go_aload_n (pc := 27) dX4_keepLaw_27 rfl ?_
    refine go_getf (pc := 28) f_X4_34 dX4_keepLaw_28 (by first | exact r0 | exact sup_ne (by omega) r0) (by rfl) ?_
    refine go_bipush (v := 7) (pc := 31) dX4_keepLaw_31 (by decide) ?_
    refine go_icmp_ne (tgt := 47) (pc := 33) dX4_keepLaw_33 (by decide) (fun h_33 => ?_) (fun h_33 => by exfalso; rw [e4_q] at h_33; exact absurd h_33 (by decide))
    refine go_aload_n (pc := 47) dX4_keepLaw_47 rfl ?_
    refine go_getf (pc := 48) f_X4_34 dX4_keepLaw_48 (by first | exact r0 | exact sup_ne (by omega) r0) (by rfl) ?_
    refine go_bipush (v := 8) (pc := 51) dX4_keepLaw_51 (by decide) ?_
    refine go_icmp_ne (tgt := 67) (pc := 53) dX4_keepLaw_53 (by decide) (fun h_53 => ?_) (fun h_53 => by exfalso; rw [e4_q] at h_53; exact absurd h_53 (by decide))
    refine go_aload_n (pc := 67) dX4_keepLaw_67 rfl ?_
    refine go_getf (pc := 68) f_X4_53 dX4_keepLaw_68 (by first | exact r0 | exact sup_ne (by omega) r0) (by rfl) ?_
    refine go_aload_n (pc := 71) dX4_keepLaw_71 rfl ?_
    refine go_putf (fs' := [_, _, _, _, _, _, _, _, _, _, _]) (pc := 72) f_X4_187 dX4_keepLaw_72 q0 (Nat.le_of_ble_eq_true rfl) (by rfl) rfl rfl ?_
    exact go_vretV (pc := 75) rfl dX4_keepLaw_75 (Nat.le_of_ble_eq_true rfl) (by show _ ≤ 50 + s.st.length; simp only [rmk]; omega) (by
  subst e4_q
  have hl9 : s.st.length ≤ 900 := by omega
  have lo : ∀ j, j < 319 → j ≠ 6 → layT 6 s.st T j = T j := fun j h1_q h2_q => lay_o h2_q (by have := lwA_b (w := 6); omega)
  have hsD : ∀ (v_q : va_E) (q : Nat), q ≠ b_q → sup σ b_q v_q q = σ q := fun v_q q hq_q => sup_ne hq_q rfl
  have hLw2 : ∀ v_q : va_E, LwAt Γ D ro (sup σ b_q v_q) n (s.st.map trS) := fun v_q => hLw.kq (fun q hq_q => sup_ne (by omega) rfl)
  have hO2 : ∀ (v_q : va_E) (q : Nat), D ≤ q → z0 q ≠ none → sup σ b_q v_q q = z0 q := fun v_q q h1_q h2_q => (sup_ne (by omega) rfl).trans (hO q h1_q h2_q)
  refine ⟨rfl, ?_, ⟨ag, pa, pf, lm, lt, .ref n, ch, co, rw, bk, ⟨hQ_q.1, ?_, sup_ne (by omega) ((xo _ (by omega)).trans (be1 hQ_q)), sup_ne (by omega) ((xo _ (by omega)).trans (be2 hQ_q)), sup_ne (by omega) ((xo _ (by omega)).trans (be3 hQ_q)), ?_, ?_, ?_, ?_⟩, ?_, ?_, ?_, hbk⟩, fun q h1_q h2_q => sup_ne h2_q (xo q h1_q)⟩
  · exact cr_kp hC (fun q h1_q => sup_ne (by omega) (xo q (by omega)))
  · rw [lo 1 (by omega) (by omega), lo 2 (by omega) (by omega), lo 3 (by omega) (by omega), lo 0 (by omega) (by omega), lo 42 (by omega) (by omega)]
    exact sup_eq
  · exact LwV.ot (w2 := 4) (w := 6) (by omega) (by omega) (by omega) (by omega) (by omega) hl9 (hT_q 4 (by omega) (by omega)) hQ_q.2.2.2.2.2.1 (hO2 _)
  · exact LwV.ot (w2 := 5) (w := 6) (by omega) (by omega) (by omega) (by omega) (by omega) hl9 (hT_q 5 (by omega) (by omega)) hQ_q.2.2.2.2.2.2.1 (hO2 _)
  · exact LwV.nw (w := 6) (by omega) hl9 hne (hLw2 _)
  · intro p hp_q
    have hp_q : p < kP T := by
      have : kP (layT 6 s.st T) = kP T := by show (layT 6 s.st T 3).toNatClampNeg = _; rw [lo 3 (by omega) (by omega)]
      rw [this] at hp_q
      exact hp_q
    by_cases h9_q : p < 8
    · rw [lo (34 + p) (by omega) (by omega), lo (43 + p) (by omega) (by omega), lo (51 + p) (by omega) (by omega)]
      exact hQ_q.2.2.2.2.2.2.2.2 p hp_q
    · omega
  · have : kP (layT 6 s.st T) = kP T := by show (layT 6 s.st T 3).toNatClampNeg = _; rw [lo 3 (by omega) (by omega)]
    rw [this]
    exact hdf
  · rw [lo 33 (by omega) (by omega)]
    exact hR_q.kq (fun q h1_q h2_q => sup_ne (by omega) (xo q (by omega)))
  · exact rS_eq hr_q h8_q (fun j hj_q => lo j (by omega) (by omega)))
theorem cp_keepLawB {Γ : gam} {z0 : sto} {n k a b_q N : Nat} {lw : Int32} {s : ps} (hC : CrAt Γ z0 a N b_q lw s) (hb_q : s.bad ≠ 0) : Sp Γ (rmk k 0 0) uX4_keepLaw [.ref (a + 71)] z0 n (qV fun σ' n' => n' = n ∧ σ' = z0) := by
  obtain ⟨tk, t_q, sz, pl, r0⟩ := hC.r0
  refine sp_intro [some (.ref (a + 71)), none] (by decide +kernel) rfl (Nat.le_of_ble_eq_true rfl) rfl ?_
  refine go_aload_n (pc := 0) dX4_keepLaw_0 rfl ?_
  refine go_getf (pc := 1) f_X4_37 dX4_keepLaw_1 (by exact r0) (by rfl) ?_
  refine go_if_eq (tgt := 8) (pc := 4) dX4_keepLaw_4 (by decide) (fun h_4 => by exfalso; exact hb_q h_4) (fun h_4 => ?_)
  exact go_vretV (pc := 7) rfl dX4_keepLaw_7 (Nat.le_of_ble_eq_true rfl) (Nat.le_of_ble_eq_true rfl) ⟨rfl, rfl⟩
