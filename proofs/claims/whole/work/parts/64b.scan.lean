/-! ===== the class: tokens ===== -/
theorem cp_keepT {Γ : gam} {z0 : sto} {n k a T b_q : Nat} {t_q sz lw fl pl : Int32} {ck cv cp cc : row} (hR_q : RrAt Γ z0 a (nI T) t_q sz lw b_q fl pl ck cv cp cc) (hT_q : T < 901) (kd v_q p : Int32) : Sp Γ (rmk k 0 0) uX4_keep [.ref (a + 71), .int kd, .int v_q, .int p] z0 n (qV fun σ' n' => n' = n ∧ RrAt Γ σ' a (nI (T + 1)) t_q sz lw b_q fl pl (upd ck T kd) (upd cv T v_q) (upd cp T p) cc ∧ ∀ q, q ≠ a + 71 → (q < a + 77 ∨ a + 79 < q) → σ' q = z0 q) := by
  obtain ⟨r0, r1, r2, r3, r4⟩ := hR_q
  simp only [RdC] at r0
  refine sp_intro [some (.ref (a + 71)), some (.int kd), some (.int v_q), some (.int p)] (by decide +kernel) rfl (Nat.le_of_ble_eq_true rfl) rfl ?_
  refine go_aload_n (pc := 0) dX4_keep_0 rfl ?_
  refine go_getf (pc := 1) f_X4_24 dX4_keep_1 (by repeat (first | exact r0 | exact r1 | exact r2 | exact r3 | exact sup_eq | refine sup_ne (by omega) ?_)) (by rfl) ?_
  refine go_aload_n (pc := 4) dX4_keep_4 rfl ?_
  refine go_getf (pc := 5) f_X4_9 dX4_keep_5 (by repeat (first | exact r0 | exact r1 | exact r2 | exact r3 | exact sup_eq | refine sup_ne (by omega) ?_)) (by rfl) ?_
  refine go_alen (pc := 8) dX4_keep_8 (by repeat (first | exact r0 | exact r1 | exact r2 | exact r3 | exact sup_eq | refine sup_ne (by omega) ?_)) (t0 := 0) rfl rfl ?_
  refine go_icmp_ge (tgt := 52) (pc := 9) dX4_keep_9 (by decide) (fun h_9 => by exfalso; exact absurd h_9 (nI_ge (b := 901) (by omega) (by decide))) (fun h_9 => ?_)
  refine go_aload_n (pc := 12) dX4_keep_12 rfl ?_
  refine go_getf (pc := 13) f_X4_9 dX4_keep_13 (by repeat (first | exact r0 | exact r1 | exact r2 | exact r3 | exact sup_eq | refine sup_ne (by omega) ?_)) (by rfl) ?_
  refine go_aload_n (pc := 16) dX4_keep_16 rfl ?_
  refine go_getf (pc := 17) f_X4_24 dX4_keep_17 (by repeat (first | exact r0 | exact r1 | exact r2 | exact r3 | exact sup_eq | refine sup_ne (by omega) ?_)) (by rfl) ?_
  refine go_iload_n (pc := 20) dX4_keep_20 rfl ?_
  refine go_iast (pc := 21) dX4_keep_21 (by repeat (first | exact r0 | exact r1 | exact r2 | exact r3 | exact sup_eq | refine sup_ne (by omega) ?_)) (by exact ⟨rfl, hT_q⟩) ?_
  refine go_aload_n (pc := 22) dX4_keep_22 rfl ?_
  refine go_getf (pc := 23) f_X4_15 dX4_keep_23 (by repeat (first | exact r0 | exact r1 | exact r2 | exact r3 | exact sup_eq | refine sup_ne (by omega) ?_)) (by rfl) ?_
  refine go_aload_n (pc := 26) dX4_keep_26 rfl ?_
  refine go_getf (pc := 27) f_X4_24 dX4_keep_27 (by repeat (first | exact r0 | exact r1 | exact r2 | exact r3 | exact sup_eq | refine sup_ne (by omega) ?_)) (by rfl) ?_
  refine go_iload_n (pc := 30) dX4_keep_30 rfl ?_
  refine go_iast (pc := 31) dX4_keep_31 (by repeat (first | exact r0 | exact r1 | exact r2 | exact r3 | exact sup_eq | refine sup_ne (by omega) ?_)) (by exact ⟨rfl, hT_q⟩) ?_
  refine go_aload_n (pc := 32) dX4_keep_32 rfl ?_
  refine go_getf (pc := 33) f_X4_18 dX4_keep_33 (by repeat (first | exact r0 | exact r1 | exact r2 | exact r3 | exact sup_eq | refine sup_ne (by omega) ?_)) (by rfl) ?_
  refine go_aload_n (pc := 36) dX4_keep_36 rfl ?_
  refine go_getf (pc := 37) f_X4_24 dX4_keep_37 (by repeat (first | exact r0 | exact r1 | exact r2 | exact r3 | exact sup_eq | refine sup_ne (by omega) ?_)) (by rfl) ?_
  refine go_iload_n (pc := 40) dX4_keep_40 rfl ?_
  refine go_iast (pc := 41) dX4_keep_41 (by repeat (first | exact r0 | exact r1 | exact r2 | exact r3 | exact sup_eq | refine sup_ne (by omega) ?_)) (by exact ⟨rfl, hT_q⟩) ?_
  refine go_aload_n (pc := 42) dX4_keep_42 rfl ?_
  refine go_dup (pc := 43) dX4_keep_43 rfl ?_
  refine go_getf (pc := 44) f_X4_24 dX4_keep_44 (by repeat (first | exact r0 | exact r1 | exact r2 | exact r3 | exact sup_eq | refine sup_ne (by omega) ?_)) (by rfl) ?_
  refine go_iconst (v := 1) (pc := 47) dX4_keep_47 (by decide) ?_
  refine go_iadd (pc := 48) dX4_keep_48 ?_
  rw [nI_1]
  refine go_putf (fs' := [_, _, _, _, _, _, _, _, _, _, _, _]) (pc := 49) f_X4_24 dX4_keep_49 (by repeat (first | exact r0 | exact r1 | exact r2 | exact r3 | exact sup_eq | refine sup_ne (by omega) ?_)) (Nat.le_of_ble_eq_true rfl) (by rfl) rfl rfl ?_
  exact go_vretV (pc := 52) rfl dX4_keep_52 (Nat.le_of_ble_eq_true rfl) (Nat.le_of_ble_eq_true rfl) ⟨rfl, ⟨sup_eq, (by repeat (first | exact rfl | exact sup_eq | refine sup_ne (by omega) ?_)), (by repeat (first | exact rfl | exact sup_eq | refine sup_ne (by omega) ?_)), (by repeat (first | exact rfl | exact sup_eq | refine sup_ne (by omega) ?_)), (by repeat (first | exact r4 | exact sup_eq | refine sup_ne (by omega) ?_))⟩, fun q h1_q h2_q => (by repeat (first | exact rfl | exact sup_eq | refine sup_ne (by omega) ?_))⟩
theorem cp_scan {Γ : gam} {z0 : sto} {n k a N b_q x_q : Nat} {tk t_q sz lw fl pl : Int32} {ck cv cp cc f_q : row} (hR_q : RrAt Γ z0 a tk t_q sz lw b_q fl pl ck cv cp cc) (ho : z0 x_q = some (cI Γ 900 f_q)) (hx_q : x_q < a + 71) (hN_q : N ≤ 900) (hb_q : ∀ j, j < N → ∃ c_q, c_q < 256 ∧ f_q j = nI c_q) (hk : 9 ≤ k) : Sp Γ (rmk k 0 0) uX4_scan [.ref (a + 71), .ref x_q, .int (nI N)] z0 n (qV fun σ' n' => n' = n ∧ ∃ k1 u1 p1, RrAt Γ σ' a (nI ((tkn f_q N 0).length + 1)) t_q sz lw b_q fl pl k1 u1 p1 cc ∧ tkR k1 u1 p1 0 (tkn f_q N 0) ∧ k1 (tkn f_q N 0).length = 0 ∧ p1 (tkn f_q N 0).length = nI N ∧ (tkn f_q N 0).length ≤ N ∧ ∀ q, q ≠ a + 71 → (q < a + 77 ∨ a + 79 < q) → σ' q = z0 q) := by
  have hs : sTab[18]? = some ("FrontChairs$Reader", 101, sgT) := rfl
  obtain ⟨r0, r1, r2, r3, r4⟩ := hR_q
  simp only [RdC] at r0
  refine sp_intro [some (.ref (a + 71)), some (.ref x_q), some (.int (nI N)), none, none, none, none] (by decide +kernel) rfl (Nat.le_of_ble_eq_true rfl) rfl ?_
  refine go_aload_n (pc := 0) dX4_scan_0 rfl ?_
  refine go_iconst (v := 0) (pc := 1) dX4_scan_1 (by decide) ?_
  refine go_putf (fs' := [_, _, _, _, _, _, _, _, _, _, _, _]) (pc := 2) f_X4_24 dX4_scan_2 r0 (Nat.le_of_ble_eq_true rfl) (by rfl) rfl rfl ?_
  refine go_set (P := fun s => RrAt Γ s a (nI 0) t_q sz lw b_q fl pl ck cv cp cc ∧ s x_q = some (cI Γ 900 f_q) ∧ ∀ q, q ≠ a + 71 → (q < a + 77 ∨ a + 79 < q) → s q = z0 q) ⟨⟨sup_eq, sup_ne (by omega) r1, sup_ne (by omega) r2, sup_ne (by omega) r3, sup_ne (by omega) r4⟩, sup_ne (by omega) ho, fun q h1_q h2_q => sup_ne h1_q rfl⟩ (fun σ hP => ?_)
  obtain ⟨hR9, ho9, hq_q⟩ := hP
  refine go_iconst (v := 0) (pc := 5) dX4_scan_5 (by decide) ?_
  refine go_istore_n (lw := [_, _, _, _, _, _, _]) (pc := 6) dX4_scan_6 (by decide) rfl ?_
  refine go_iconst (v := 0) (pc := 7) dX4_scan_7 (by decide) ?_
  refine go_istore (lw := [_, _, _, _, _, _, _]) (pc := 8) dX4_scan_8 (by decide) rfl ?_
  refine go_meas (fun m9_q lv9 s9 n9 => ∃ (P : List tok), ∃ (h_q : Nat), ∃ (k9 : row), ∃ (u9 : row), ∃ (p9_q : row), ∃ (x5_q : Option Value), ∃ (x6_q : Option Value), lv9 = [some (.ref (a + 71)), some (.ref x_q), some (.int (nI N)), some (.int (nI h_q)), some (.int (nI h_q)), x5_q, x6_q] ∧ (RrAt Γ s9 a (nI P.length) t_q sz lw b_q fl pl k9 u9 p9_q cc) ∧ (tkR k9 u9 p9_q 0 P) ∧ (P ++ tkn f_q N h_q = tkn f_q N 0) ∧ (P.length ≤ h_q) ∧ (h_q ≤ N) ∧ (∀ q, q ≠ a + 71 → (q < a + 77 ∨ a + 79 < q) → s9 q = z0 q) ∧ m9_q = N - h_q ∧ n = n9) (N) ⟨[], 0, ck, cv, cp, none, none, rfl, hR9, (fun j y_q hy_q => by simp at hy_q), rfl, (Nat.le_refl _), (Nat.zero_le _), hq_q, rfl, rfl⟩ ?_
  rintro m9_q lv9 σ n9 ⟨P, h_q, k9, u9, p9_q, x5_q, x6_q, rfl, hR9, hK, hP, hPh, hhN, hq_q, rfl, rfl⟩ ih0
  have ho9 := (hq_q x_q (by omega) (by omega)).trans ho
  refine go_iload (pc := 10) dX4_scan_10 rfl ?_
  refine go_iload_n (pc := 12) dX4_scan_12 rfl ?_
  refine go_icmp_ge (tgt := 212) (pc := 13) dX4_scan_13 (by decide) (fun h_13 => ?_) (fun h_13 => ?_)
  · have hNh : N ≤ h_q := (nI_leI (by omega) (by omega)).mp h_13
    rw [tkn_0 hNh, List.append_nil] at hP
    refine go_aload_n (pc := 212) dX4_scan_212 rfl ?_
    refine go_iconst (v := 0) (pc := 213) dX4_scan_213 (by decide) ?_
    refine go_iconst (v := 0) (pc := 214) dX4_scan_214 (by decide) ?_
    refine go_iload_n (pc := 215) dX4_scan_215 rfl ?_
    refine go_V3V (pc := 216) v_X4_94 rfl rfl (rcv_of (ci := 4) (by first | exact ho9 | exact r0 | exact hR9.1) rfl) dX4_scan_216 (cp_keepT (k := k - 1) hR9 (by omega) _ _ _) (fun σ n h_q => ?_)
    obtain ⟨rfl, hR8, hq8⟩ := h_q
    exact go_vretV (pc := 219) rfl dX4_scan_219 (Nat.le_of_ble_eq_true rfl) (Nat.le_of_ble_eq_true rfl) (by
  rw [hP] at hR8 hK hPh
  refine ⟨rfl, _, _, _, hR8, fun j y_q hy_q => ?_, pk_us, pk_us, by omega, fun q h1_q h2_q => (hq8 q h1_q h2_q).trans (hq_q q h1_q h2_q)⟩
  have hl := (List.getElem?_eq_some_iff.mp hy_q).1
  rw [Nat.zero_add, pk_un (by omega), pk_un (by omega), pk_un (by omega)]
  have := hK j y_q hy_q
  rw [Nat.zero_add] at this
  exact this)
  · have hlt : h_q < N := Nat.lt_of_not_le (fun hc_q => h_13 (nI_le hc_q (by omega)))
    obtain ⟨c_q, hc_q, ec⟩ := hb_q h_q hlt
    have gl1 : h_q + 1 ≤ rn ltr f_q N (h_q + 1) := rn_ge
    have gl2 : rn ltr f_q N (h_q + 1) ≤ N := rn_le (by omega)
    have gd1 : h_q + 1 ≤ rn dgt f_q N (h_q + 1) := rn_ge
    have gd2 : rn dgt f_q N (h_q + 1) ≤ N := rn_le (by omega)
    refine go_iload (pc := 16) dX4_scan_16 rfl ?_
    refine go_aload_n (pc := 18) dX4_scan_18 rfl ?_
    refine go_alen (pc := 19) dX4_scan_19 (by first | exact ho9 | exact r0 | exact hR9.1) (t0 := 0) rfl rfl ?_
    refine go_icmp_ge (tgt := 212) (pc := 20) dX4_scan_20 (by decide) (fun h_20 => by exfalso; exact absurd h_20 (nI_ge (b := 900) (by omega) (by decide))) (fun h_20 => ?_)
    refine go_aload_n (pc := 23) dX4_scan_23 rfl ?_
    refine go_iload (pc := 24) dX4_scan_24 rfl ?_
    refine go_iald (pc := 26) dX4_scan_26 (by first | exact ho9 | exact r0 | exact hR9.1) (by exact ⟨rfl, by omega⟩) ?_
    refine go_istore (lw := [_, _, _, _, _, _, _]) (pc := 27) dX4_scan_27 (by decide) rfl ?_
    refine go_iload (pc := 29) dX4_scan_29 rfl ?_
    refine go_iconst (v := 1) (pc := 31) dX4_scan_31 (by decide) ?_
    refine go_iadd (pc := 32) dX4_scan_32 ?_
    rw [nI_1]
    refine go_istore_n (lw := [_, _, _, _, _, _, _]) (pc := 33) dX4_scan_33 (by decide) rfl ?_
    refine go_iload (pc := 34) dX4_scan_34 rfl ?_
    refine go_S1P (pc := 36) s_X4_86 rfl rfl dX4_scan_36 (cp_isLet (k := k - 1) _) ?_
    refine go_if_eq (tgt := 85) (pc := 39) dX4_scan_39 (by decide) (fun h_39 => ?_) (fun h_39 => ?_)
    · have g39 : ¬ ltr (f_q h_q) = true := bI_0.mp h_39
      refine go_iload (pc := 85) dX4_scan_85 rfl ?_
      refine go_S1P (pc := 87) s_X4_98 rfl rfl dX4_scan_87 (cp_isDig (k := k - 1) _) ?_
      refine go_if_eq (tgt := 168) (pc := 90) dX4_scan_90 (by decide) (fun h_90 => ?_) (fun h_90 => ?_)
      · have g90 : ¬ dgt (f_q h_q) = true := bI_0.mp h_90
        refine go_iload (pc := 168) dX4_scan_168 rfl ?_
        refine go_bipush (v := 32) (pc := 170) dX4_scan_170 (by decide) ?_
        refine go_icmp_eq (tgt := 206) (pc := 172) dX4_scan_172 (by decide) (fun h_172 => ?_) (fun h_172 => ?_)
        · first
            | (obtain ⟨P1, k1, u1, p1, hR7, hK7, hP7, hPh7, hq7⟩ := hX9)
            | (have g9_q : f_q h_q = 32 ∨ f_q h_q = 10 := Or.inl h_172
               obtain ⟨P1, k1, u1, p1, hR7, hK7, hP7, hPh7, hq7⟩ : ∃ (P1 : List tok) (k1 u1 p1 : row), RrAt Γ σ a (nI P1.length) t_q sz lw b_q fl pl k1 u1 p1 cc ∧ tkR k1 u1 p1 0 P1 ∧ P1 ++ tkn f_q N (h_q + 1) = tkn f_q N 0 ∧ P1.length ≤ h_q + 1 ∧ ∀ q, q ≠ a + 71 → (q < a + 77 ∨ a + 79 < q) → σ q = z0 q := ⟨P, k9, u9, p9_q, hR9, hK, by rw [← tkn_w hlt g39 g90 g9_q]; exact hP, by omega, hq_q⟩)
            | (have g9_q : f_q h_q = 32 ∨ f_q h_q = 10 := Or.inr h_179
               obtain ⟨P1, k1, u1, p1, hR7, hK7, hP7, hPh7, hq7⟩ : ∃ (P1 : List tok) (k1 u1 p1 : row), RrAt Γ σ a (nI P1.length) t_q sz lw b_q fl pl k1 u1 p1 cc ∧ tkR k1 u1 p1 0 P1 ∧ P1 ++ tkn f_q N (h_q + 1) = tkn f_q N 0 ∧ P1.length ≤ h_q + 1 ∧ ∀ q, q ≠ a + 71 → (q < a + 77 ∨ a + 79 < q) → σ q = z0 q := ⟨P, k9, u9, p9_q, hR9, hK, by rw [← tkn_w hlt g39 g90 g9_q]; exact hP, by omega, hq_q⟩)
          refine go_iload_n (pc := 206) dX4_scan_206 rfl ?_
          refine go_istore (lw := [_, _, _, _, _, _, _]) (pc := 207) dX4_scan_207 (by decide) rfl ?_
          refine go_goto (tgt := 10) (pc := 209) dX4_scan_209 (by decide) ?_
          exact ih0 _ _ _ _ (by omega) ⟨P1, _, k1, u1, p1, _, _, rfl, hR7, hK7, hP7, hPh7, by omega, hq7, rfl, rfl⟩
        · refine go_iload (pc := 175) dX4_scan_175 rfl ?_
          refine go_bipush (v := 10) (pc := 177) dX4_scan_177 (by decide) ?_
          refine go_icmp_eq (tgt := 206) (pc := 179) dX4_scan_179 (by decide) (fun h_179 => ?_) (fun h_179 => ?_)
          · first
              | (obtain ⟨P1, k1, u1, p1, hR7, hK7, hP7, hPh7, hq7⟩ := hX9)
              | (have g9_q : f_q h_q = 32 ∨ f_q h_q = 10 := Or.inl h_172
                 obtain ⟨P1, k1, u1, p1, hR7, hK7, hP7, hPh7, hq7⟩ : ∃ (P1 : List tok) (k1 u1 p1 : row), RrAt Γ σ a (nI P1.length) t_q sz lw b_q fl pl k1 u1 p1 cc ∧ tkR k1 u1 p1 0 P1 ∧ P1 ++ tkn f_q N (h_q + 1) = tkn f_q N 0 ∧ P1.length ≤ h_q + 1 ∧ ∀ q, q ≠ a + 71 → (q < a + 77 ∨ a + 79 < q) → σ q = z0 q := ⟨P, k9, u9, p9_q, hR9, hK, by rw [← tkn_w hlt g39 g90 g9_q]; exact hP, by omega, hq_q⟩)
              | (have g9_q : f_q h_q = 32 ∨ f_q h_q = 10 := Or.inr h_179
                 obtain ⟨P1, k1, u1, p1, hR7, hK7, hP7, hPh7, hq7⟩ : ∃ (P1 : List tok) (k1 u1 p1 : row), RrAt Γ σ a (nI P1.length) t_q sz lw b_q fl pl k1 u1 p1 cc ∧ tkR k1 u1 p1 0 P1 ∧ P1 ++ tkn f_q N (h_q + 1) = tkn f_q N 0 ∧ P1.length ≤ h_q + 1 ∧ ∀ q, q ≠ a + 71 → (q < a + 77 ∨ a + 79 < q) → σ q = z0 q := ⟨P, k9, u9, p9_q, hR9, hK, by rw [← tkn_w hlt g39 g90 g9_q]; exact hP, by omega, hq_q⟩)
            refine go_iload_n (pc := 206) dX4_scan_206 rfl ?_
            refine go_istore (lw := [_, _, _, _, _, _, _]) (pc := 207) dX4_scan_207 (by decide) rfl ?_
            refine go_goto (tgt := 10) (pc := 209) dX4_scan_209 (by decide) ?_
            exact ih0 _ _ _ _ (by omega) ⟨P1, _, k1, u1, p1, _, _, rfl, hR7, hK7, hP7, hPh7, by omega, hq7, rfl, rfl⟩
          · refine go_aload_n (pc := 182) dX4_scan_182 rfl ?_
            refine go_ldcS (si := 18) (pc := 183) rfl dX4_scan_183 ?_
            refine go_iload (pc := 185) dX4_scan_185 rfl ?_
            refine go_i2c (pc := 187) dX4_scan_187 ?_
            rw [i2c_b hc_q ec]
            refine go_V1I (pc := 188) v_X4_103 rfl rfl (rcv_str hs) dX4_scan_188 (cp_sgIx (k := k - 1) hc_q (by omega)) (fun v_188 σ n h_q => ?_)
            obtain ⟨rfl, rfl, hsg⟩ := h_q
            refine go_if_lt (tgt := 199) (pc := 191) dX4_scan_191 (by decide) (fun h_191 => ?_) (fun h_191 => ?_)
            · refine go_iconst (v := 1) (pc := 199) dX4_scan_199 (by decide) ?_
              refine go_iconst (v := 0) (pc := 200) dX4_scan_200 (by decide) ?_
              refine go_iload (pc := 201) dX4_scan_201 rfl ?_
              refine go_V3V (pc := 203) v_X4_94 rfl rfl (rcv_of (ci := 4) (by first | exact ho9 | exact r0 | exact hR9.1) rfl) dX4_scan_203 (cp_keepT (k := k - 1) hR9 (by omega) _ _ _) (fun σ n h_q => ?_)
              obtain ⟨rfl, hR8, hq8⟩ := h_q
              have hws : ¬ (f_q h_q = 32 ∨ f_q h_q = 10) := fun hc_q => hc_q.elim h_172 h_179
              first
                | (have g191 : v_188 < 0 := h_191
                   have g3_q : (if isSg (f_q h_q) = true then f_q h_q else 1) = 1 := if_neg (by rw [ec, hsg.mp g191]; decide)
                   rw [← g3_q] at hR8)
                | (have g191 : ¬ v_188 < 0 := h_191
                   have g3_q : (if isSg (f_q h_q) = true then f_q h_q else 1) = f_q h_q := if_pos (by cases e9_q : isSg (f_q h_q) with
                     | true => rfl
                     | false => exact absurd (hsg.mpr (by rw [← ec]; exact e9_q)) g191)
                   rw [← g3_q] at hR8)
              have hX9 : ∃ (P1 : List tok) (k1 u1 p1 : row), RrAt Γ σ a (nI P1.length) t_q sz lw b_q fl pl k1 u1 p1 cc ∧ tkR k1 u1 p1 0 P1 ∧ P1 ++ tkn f_q N (h_q + 1) = tkn f_q N 0 ∧ P1.length ≤ h_q + 1 ∧ ∀ q, q ≠ a + 71 → (q < a + 77 ∨ a + 79 < q) → σ q = z0 q := by
                refine ⟨P ++ [(if isSg (f_q h_q) = true then f_q h_q else 1, 0, h_q)], _, _, _, ?_, tkR_app (x := (if isSg (f_q h_q) = true then f_q h_q else 1, 0, h_q)) hK, ?_, ?_, fun q h1_q h2_q => (hq8 q h1_q h2_q).trans (hq_q q h1_q h2_q)⟩
                · rw [List.length_append, List.length_singleton]
                  exact hR8
                · rw [← hP, tkn_s hlt g39 g90 hws, List.append_assoc]
                  rfl
                · rw [List.length_append, List.length_singleton]
                  omega
              first
                | (obtain ⟨P1, k1, u1, p1, hR7, hK7, hP7, hPh7, hq7⟩ := hX9)
                | (have g9_q : f_q h_q = 32 ∨ f_q h_q = 10 := Or.inl h_172
                   obtain ⟨P1, k1, u1, p1, hR7, hK7, hP7, hPh7, hq7⟩ : ∃ (P1 : List tok) (k1 u1 p1 : row), RrAt Γ σ a (nI P1.length) t_q sz lw b_q fl pl k1 u1 p1 cc ∧ tkR k1 u1 p1 0 P1 ∧ P1 ++ tkn f_q N (h_q + 1) = tkn f_q N 0 ∧ P1.length ≤ h_q + 1 ∧ ∀ q, q ≠ a + 71 → (q < a + 77 ∨ a + 79 < q) → σ q = z0 q := ⟨P, k9, u9, p9_q, hR9, hK, by rw [← tkn_w hlt g39 g90 g9_q]; exact hP, by omega, hq_q⟩)
                | (have g9_q : f_q h_q = 32 ∨ f_q h_q = 10 := Or.inr h_179
                   obtain ⟨P1, k1, u1, p1, hR7, hK7, hP7, hPh7, hq7⟩ : ∃ (P1 : List tok) (k1 u1 p1 : row), RrAt Γ σ a (nI P1.length) t_q sz lw b_q fl pl k1 u1 p1 cc ∧ tkR k1 u1 p1 0 P1 ∧ P1 ++ tkn f_q N (h_q + 1) = tkn f_q N 0 ∧ P1.length ≤ h_q + 1 ∧ ∀ q, q ≠ a + 71 → (q < a + 77 ∨ a + 79 < q) → σ q = z0 q := ⟨P, k9, u9, p9_q, hR9, hK, by rw [← tkn_w hlt g39 g90 g9_q]; exact hP, by omega, hq_q⟩)
              refine go_iload_n (pc := 206) dX4_scan_206 rfl ?_
              refine go_istore (lw := [_, _, _, _, _, _, _]) (pc := 207) dX4_scan_207 (by decide) rfl ?_
              refine go_goto (tgt := 10) (pc := 209) dX4_scan_209 (by decide) ?_
              exact ih0 _ _ _ _ (by omega) ⟨P1, _, k1, u1, p1, _, _, rfl, hR7, hK7, hP7, hPh7, by omega, hq7, rfl, rfl⟩
            · refine go_iload (pc := 194) dX4_scan_194 rfl ?_
              refine go_goto (tgt := 200) (pc := 196) dX4_scan_196 (by decide) ?_
              refine go_iconst (v := 0) (pc := 200) dX4_scan_200 (by decide) ?_
              refine go_iload (pc := 201) dX4_scan_201 rfl ?_
              refine go_V3V (pc := 203) v_X4_94 rfl rfl (rcv_of (ci := 4) (by first | exact ho9 | exact r0 | exact hR9.1) rfl) dX4_scan_203 (cp_keepT (k := k - 1) hR9 (by omega) _ _ _) (fun σ n h_q => ?_)
              obtain ⟨rfl, hR8, hq8⟩ := h_q
              have hws : ¬ (f_q h_q = 32 ∨ f_q h_q = 10) := fun hc_q => hc_q.elim h_172 h_179
              first
                | (have g191 : v_188 < 0 := h_191
                   have g3_q : (if isSg (f_q h_q) = true then f_q h_q else 1) = 1 := if_neg (by rw [ec, hsg.mp g191]; decide)
                   rw [← g3_q] at hR8)
                | (have g191 : ¬ v_188 < 0 := h_191
                   have g3_q : (if isSg (f_q h_q) = true then f_q h_q else 1) = f_q h_q := if_pos (by cases e9_q : isSg (f_q h_q) with
                     | true => rfl
                     | false => exact absurd (hsg.mpr (by rw [← ec]; exact e9_q)) g191)
                   rw [← g3_q] at hR8)
              have hX9 : ∃ (P1 : List tok) (k1 u1 p1 : row), RrAt Γ σ a (nI P1.length) t_q sz lw b_q fl pl k1 u1 p1 cc ∧ tkR k1 u1 p1 0 P1 ∧ P1 ++ tkn f_q N (h_q + 1) = tkn f_q N 0 ∧ P1.length ≤ h_q + 1 ∧ ∀ q, q ≠ a + 71 → (q < a + 77 ∨ a + 79 < q) → σ q = z0 q := by
                refine ⟨P ++ [(if isSg (f_q h_q) = true then f_q h_q else 1, 0, h_q)], _, _, _, ?_, tkR_app (x := (if isSg (f_q h_q) = true then f_q h_q else 1, 0, h_q)) hK, ?_, ?_, fun q h1_q h2_q => (hq8 q h1_q h2_q).trans (hq_q q h1_q h2_q)⟩
                · rw [List.length_append, List.length_singleton]
                  exact hR8
                · rw [← hP, tkn_s hlt g39 g90 hws, List.append_assoc]
                  rfl
                · rw [List.length_append, List.length_singleton]
                  omega
              first
                | (obtain ⟨P1, k1, u1, p1, hR7, hK7, hP7, hPh7, hq7⟩ := hX9)
                | (have g9_q : f_q h_q = 32 ∨ f_q h_q = 10 := Or.inl h_172
                   obtain ⟨P1, k1, u1, p1, hR7, hK7, hP7, hPh7, hq7⟩ : ∃ (P1 : List tok) (k1 u1 p1 : row), RrAt Γ σ a (nI P1.length) t_q sz lw b_q fl pl k1 u1 p1 cc ∧ tkR k1 u1 p1 0 P1 ∧ P1 ++ tkn f_q N (h_q + 1) = tkn f_q N 0 ∧ P1.length ≤ h_q + 1 ∧ ∀ q, q ≠ a + 71 → (q < a + 77 ∨ a + 79 < q) → σ q = z0 q := ⟨P, k9, u9, p9_q, hR9, hK, by rw [← tkn_w hlt g39 g90 g9_q]; exact hP, by omega, hq_q⟩)
                | (have g9_q : f_q h_q = 32 ∨ f_q h_q = 10 := Or.inr h_179
                   obtain ⟨P1, k1, u1, p1, hR7, hK7, hP7, hPh7, hq7⟩ : ∃ (P1 : List tok) (k1 u1 p1 : row), RrAt Γ σ a (nI P1.length) t_q sz lw b_q fl pl k1 u1 p1 cc ∧ tkR k1 u1 p1 0 P1 ∧ P1 ++ tkn f_q N (h_q + 1) = tkn f_q N 0 ∧ P1.length ≤ h_q + 1 ∧ ∀ q, q ≠ a + 71 → (q < a + 77 ∨ a + 79 < q) → σ q = z0 q := ⟨P, k9, u9, p9_q, hR9, hK, by rw [← tkn_w hlt g39 g90 g9_q]; exact hP, by omega, hq_q⟩)
              refine go_iload_n (pc := 206) dX4_scan_206 rfl ?_
              refine go_istore (lw := [_, _, _, _, _, _, _]) (pc := 207) dX4_scan_207 (by decide) rfl ?_
              refine go_goto (tgt := 10) (pc := 209) dX4_scan_209 (by decide) ?_
              exact ih0 _ _ _ _ (by omega) ⟨P1, _, k1, u1, p1, _, _, rfl, hR7, hK7, hP7, hPh7, by omega, hq7, rfl, rfl⟩
      · have g90 : dgt (f_q h_q) = true := Decidable.not_not.mp (fun hc_q => h_90 (bI_0.mpr hc_q))
        refine go_iload (pc := 93) dX4_scan_93 rfl ?_
        refine go_bipush (v := 48) (pc := 95) dX4_scan_95 (by decide) ?_
        refine go_isub (pc := 97) dX4_scan_97 ?_
        refine go_istore (lw := [_, _, _, _, _, _, _]) (pc := 98) dX4_scan_98 (by decide) rfl ?_
        refine go_iter (rn dgt f_q N (h_q + 1) - (h_q + 1)) (fun i_q lv9 s9 n9 => lv9 = [some (.ref (a + 71)), some (.ref x_q), some (.int (nI N)), some (.int (nI (h_q + 1 + i_q))), some (.int (nI h_q)), some (.int (f_q h_q)), some (.int (dv f_q h_q i_q))] ∧ (s9 = σ) ∧ n = n9) ⟨rfl, rfl, rfl⟩ ?_ ?_
        · rintro i_q lv9 σ n9 hi_q ⟨rfl, es, rfl⟩ ih_q
          subst es
          refine go_iload_n (pc := 100) dX4_scan_100 rfl ?_
          refine go_iload_n (pc := 101) dX4_scan_101 rfl ?_
          refine go_icmp_ge (tgt := 144) (pc := 102) dX4_scan_102 (by decide) (fun h_102 => by exfalso; exact absurd h_102 (nI_ge (by omega) (by omega))) (fun h_102 => ?_)
          refine go_iload_n (pc := 105) dX4_scan_105 rfl ?_
          refine go_aload_n (pc := 106) dX4_scan_106 rfl ?_
          refine go_alen (pc := 107) dX4_scan_107 (by first | exact ho9 | exact r0 | exact hR9.1) (t0 := 0) rfl rfl ?_
          refine go_icmp_ge (tgt := 144) (pc := 108) dX4_scan_108 (by decide) (fun h_108 => by exfalso; exact absurd h_108 (nI_ge (b := 900) (by omega) (by decide))) (fun h_108 => ?_)
          refine go_aload_n (pc := 111) dX4_scan_111 rfl ?_
          refine go_iload_n (pc := 112) dX4_scan_112 rfl ?_
          refine go_iald (pc := 113) dX4_scan_113 (by first | exact ho9 | exact r0 | exact hR9.1) (by exact ⟨rfl, by omega⟩) ?_
          refine go_S1P (pc := 114) s_X4_98 rfl rfl dX4_scan_114 (cp_isDig (k := k - 1) _) ?_
          refine go_if_eq (tgt := 144) (pc := 117) dX4_scan_117 (by decide) (fun h_117 => by exfalso; exact absurd (rn_all (p := dgt) (f := f_q) (N := N) (h := h_q + 1) (j := h_q + 1 + i_q) (by omega) (by omega)) (bI_0.mp h_117)) (fun h_117 => ?_)
          refine go_iload (pc := 120) dX4_scan_120 rfl ?_
          refine go_bipush (v := 10) (pc := 122) dX4_scan_122 (by decide) ?_
          refine go_imul (pc := 124) dX4_scan_124 ?_
          refine go_aload_n (pc := 125) dX4_scan_125 rfl ?_
          refine go_iload_n (pc := 126) dX4_scan_126 rfl ?_
          refine go_iald (pc := 127) dX4_scan_127 (by first | exact ho9 | exact r0 | exact hR9.1) (by exact ⟨rfl, by omega⟩) ?_
          refine go_iadd (pc := 128) dX4_scan_128 ?_
          refine go_bipush (v := 48) (pc := 129) dX4_scan_129 (by decide) ?_
          refine go_isub (pc := 131) dX4_scan_131 ?_
          refine go_sipush (v := 1000) (pc := 132) dX4_scan_132 (by decide) ?_
          refine go_irem (pc := 135) dX4_scan_135 (by decide) ?_
          refine go_istore (lw := [_, _, _, _, _, _, _]) (pc := 136) dX4_scan_136 (by decide) rfl ?_
          refine go_iinc (v := 1) (lw := [_, _, _, _, _, _, _]) (pc := 138) dX4_scan_138 rfl (by decide) (by decide) rfl ?_
          refine go_goto (tgt := 100) (pc := 141) dX4_scan_141 (by decide) ?_
          rw [nI_1]
          exact ih_q _ _ _ ⟨rfl, rfl, rfl⟩
        · rintro lv9 σ n9 ⟨rfl, es, rfl⟩
          subst es
          have hEQ : h_q + 1 + (rn dgt f_q N (h_q + 1) - (h_q + 1)) = rn dgt f_q N (h_q + 1) := by omega
          refine go_iload_n (pc := 100) dX4_scan_100 rfl ?_
          refine go_iload_n (pc := 101) dX4_scan_101 rfl ?_
          refine go_icmp_ge (tgt := 144) (pc := 102) dX4_scan_102 (by decide) (fun h_102 => ?_) (fun h_102 => ?_)
          · rw [hEQ]
            refine go_aload_n (pc := 144) dX4_scan_144 rfl ?_
            refine go_iload_n (pc := 145) dX4_scan_145 rfl ?_
            refine go_iload (pc := 146) dX4_scan_146 rfl ?_
            refine go_isub (pc := 148) dX4_scan_148 ?_
            rw [show nI (rn dgt f_q N (h_q + 1)) - nI h_q = nI (rn dgt f_q N (h_q + 1) - h_q) from pk_sub (by omega)]
            refine go_iconst (v := 3) (pc := 149) dX4_scan_149 (by decide) ?_
            refine go_icmp_le (tgt := 157) (pc := 150) dX4_scan_150 (by decide) (fun h_150 => ?_) (fun h_150 => ?_)
            · refine go_iconst (v := 2) (pc := 157) dX4_scan_157 (by decide) ?_
              refine go_iload (pc := 158) dX4_scan_158 rfl ?_
              refine go_iload (pc := 160) dX4_scan_160 rfl ?_
              refine go_V3V (pc := 162) v_X4_94 rfl rfl (rcv_of (ci := 4) (by first | exact ho9 | exact r0 | exact hR9.1) rfl) dX4_scan_162 (cp_keepT (k := k - 1) hR9 (by omega) _ _ _) (fun σ n h_q => ?_)
              obtain ⟨rfl, hR8, hq8⟩ := h_q
              first
                | (have g150 : ¬ (nI (rn dgt f_q N (h_q + 1) - h_q) ≤ 3) := h_150
                   have g3_q : (if 3 < rn dgt f_q N (h_q + 1) - h_q then (1 : Int32) else 2) = 1 := if_pos (Nat.lt_of_not_le (fun hc_q => g150 (nI_le (b := 3) hc_q (by decide)))))
                | (have g150 : nI (rn dgt f_q N (h_q + 1) - h_q) ≤ 3 := h_150
                   have g3_q : (if 3 < rn dgt f_q N (h_q + 1) - h_q then (1 : Int32) else 2) = 2 := if_neg (Nat.not_lt.mpr ((nI_leI (b := 3) (by omega) (by decide)).mp g150)))
              rw [← g3_q] at hR8
              have hX9 : ∃ (P1 : List tok) (k1 u1 p1 : row), RrAt Γ σ a (nI P1.length) t_q sz lw b_q fl pl k1 u1 p1 cc ∧ tkR k1 u1 p1 0 P1 ∧ P1 ++ tkn f_q N (rn dgt f_q N (h_q + 1)) = tkn f_q N 0 ∧ P1.length ≤ rn dgt f_q N (h_q + 1) ∧ ∀ q, q ≠ a + 71 → (q < a + 77 ∨ a + 79 < q) → σ q = z0 q := by
                refine ⟨P ++ [(if 3 < rn dgt f_q N (h_q + 1) - h_q then 1 else 2, dv f_q h_q (rn dgt f_q N (h_q + 1) - (h_q + 1)), h_q)], _, _, _, ?_, tkR_app (x := (if 3 < rn dgt f_q N (h_q + 1) - h_q then 1 else 2, dv f_q h_q (rn dgt f_q N (h_q + 1) - (h_q + 1)), h_q)) hK, ?_, ?_, fun q h1_q h2_q => (hq8 q h1_q h2_q).trans (hq_q q h1_q h2_q)⟩
                · rw [List.length_append, List.length_singleton]
                  exact hR8
                · rw [← hP, tkn_d hlt g39 g90, List.append_assoc]
                  rfl
                · rw [List.length_append, List.length_singleton]
                  omega
              refine go_goto (tgt := 206) (pc := 165) dX4_scan_165 (by decide) ?_
              first
                | (obtain ⟨P1, k1, u1, p1, hR7, hK7, hP7, hPh7, hq7⟩ := hX9)
                | (have g9_q : f_q h_q = 32 ∨ f_q h_q = 10 := Or.inl h_172
                   obtain ⟨P1, k1, u1, p1, hR7, hK7, hP7, hPh7, hq7⟩ : ∃ (P1 : List tok) (k1 u1 p1 : row), RrAt Γ σ a (nI P1.length) t_q sz lw b_q fl pl k1 u1 p1 cc ∧ tkR k1 u1 p1 0 P1 ∧ P1 ++ tkn f_q N (h_q + 1) = tkn f_q N 0 ∧ P1.length ≤ h_q + 1 ∧ ∀ q, q ≠ a + 71 → (q < a + 77 ∨ a + 79 < q) → σ q = z0 q := ⟨P, k9, u9, p9_q, hR9, hK, by rw [← tkn_w hlt g39 g90 g9_q]; exact hP, by omega, hq_q⟩)
                | (have g9_q : f_q h_q = 32 ∨ f_q h_q = 10 := Or.inr h_179
                   obtain ⟨P1, k1, u1, p1, hR7, hK7, hP7, hPh7, hq7⟩ : ∃ (P1 : List tok) (k1 u1 p1 : row), RrAt Γ σ a (nI P1.length) t_q sz lw b_q fl pl k1 u1 p1 cc ∧ tkR k1 u1 p1 0 P1 ∧ P1 ++ tkn f_q N (h_q + 1) = tkn f_q N 0 ∧ P1.length ≤ h_q + 1 ∧ ∀ q, q ≠ a + 71 → (q < a + 77 ∨ a + 79 < q) → σ q = z0 q := ⟨P, k9, u9, p9_q, hR9, hK, by rw [← tkn_w hlt g39 g90 g9_q]; exact hP, by omega, hq_q⟩)
              refine go_iload_n (pc := 206) dX4_scan_206 rfl ?_
              refine go_istore (lw := [_, _, _, _, _, _, _]) (pc := 207) dX4_scan_207 (by decide) rfl ?_
              refine go_goto (tgt := 10) (pc := 209) dX4_scan_209 (by decide) ?_
              exact ih0 _ _ _ _ (by omega) ⟨P1, _, k1, u1, p1, _, _, rfl, hR7, hK7, hP7, hPh7, by omega, hq7, rfl, rfl⟩
            · refine go_iconst (v := 1) (pc := 153) dX4_scan_153 (by decide) ?_
              refine go_goto (tgt := 158) (pc := 154) dX4_scan_154 (by decide) ?_
              refine go_iload (pc := 158) dX4_scan_158 rfl ?_
              refine go_iload (pc := 160) dX4_scan_160 rfl ?_
              refine go_V3V (pc := 162) v_X4_94 rfl rfl (rcv_of (ci := 4) (by first | exact ho9 | exact r0 | exact hR9.1) rfl) dX4_scan_162 (cp_keepT (k := k - 1) hR9 (by omega) _ _ _) (fun σ n h_q => ?_)
              obtain ⟨rfl, hR8, hq8⟩ := h_q
              first
                | (have g150 : ¬ (nI (rn dgt f_q N (h_q + 1) - h_q) ≤ 3) := h_150
                   have g3_q : (if 3 < rn dgt f_q N (h_q + 1) - h_q then (1 : Int32) else 2) = 1 := if_pos (Nat.lt_of_not_le (fun hc_q => g150 (nI_le (b := 3) hc_q (by decide)))))
                | (have g150 : nI (rn dgt f_q N (h_q + 1) - h_q) ≤ 3 := h_150
                   have g3_q : (if 3 < rn dgt f_q N (h_q + 1) - h_q then (1 : Int32) else 2) = 2 := if_neg (Nat.not_lt.mpr ((nI_leI (b := 3) (by omega) (by decide)).mp g150)))
              rw [← g3_q] at hR8
              have hX9 : ∃ (P1 : List tok) (k1 u1 p1 : row), RrAt Γ σ a (nI P1.length) t_q sz lw b_q fl pl k1 u1 p1 cc ∧ tkR k1 u1 p1 0 P1 ∧ P1 ++ tkn f_q N (rn dgt f_q N (h_q + 1)) = tkn f_q N 0 ∧ P1.length ≤ rn dgt f_q N (h_q + 1) ∧ ∀ q, q ≠ a + 71 → (q < a + 77 ∨ a + 79 < q) → σ q = z0 q := by
                refine ⟨P ++ [(if 3 < rn dgt f_q N (h_q + 1) - h_q then 1 else 2, dv f_q h_q (rn dgt f_q N (h_q + 1) - (h_q + 1)), h_q)], _, _, _, ?_, tkR_app (x := (if 3 < rn dgt f_q N (h_q + 1) - h_q then 1 else 2, dv f_q h_q (rn dgt f_q N (h_q + 1) - (h_q + 1)), h_q)) hK, ?_, ?_, fun q h1_q h2_q => (hq8 q h1_q h2_q).trans (hq_q q h1_q h2_q)⟩
                · rw [List.length_append, List.length_singleton]
                  exact hR8
                · rw [← hP, tkn_d hlt g39 g90, List.append_assoc]
                  rfl
                · rw [List.length_append, List.length_singleton]
                  omega
              refine go_goto (tgt := 206) (pc := 165) dX4_scan_165 (by decide) ?_
              first
                | (obtain ⟨P1, k1, u1, p1, hR7, hK7, hP7, hPh7, hq7⟩ := hX9)
                | (have g9_q : f_q h_q = 32 ∨ f_q h_q = 10 := Or.inl h_172
                   obtain ⟨P1, k1, u1, p1, hR7, hK7, hP7, hPh7, hq7⟩ : ∃ (P1 : List tok) (k1 u1 p1 : row), RrAt Γ σ a (nI P1.length) t_q sz lw b_q fl pl k1 u1 p1 cc ∧ tkR k1 u1 p1 0 P1 ∧ P1 ++ tkn f_q N (h_q + 1) = tkn f_q N 0 ∧ P1.length ≤ h_q + 1 ∧ ∀ q, q ≠ a + 71 → (q < a + 77 ∨ a + 79 < q) → σ q = z0 q := ⟨P, k9, u9, p9_q, hR9, hK, by rw [← tkn_w hlt g39 g90 g9_q]; exact hP, by omega, hq_q⟩)
                | (have g9_q : f_q h_q = 32 ∨ f_q h_q = 10 := Or.inr h_179
                   obtain ⟨P1, k1, u1, p1, hR7, hK7, hP7, hPh7, hq7⟩ : ∃ (P1 : List tok) (k1 u1 p1 : row), RrAt Γ σ a (nI P1.length) t_q sz lw b_q fl pl k1 u1 p1 cc ∧ tkR k1 u1 p1 0 P1 ∧ P1 ++ tkn f_q N (h_q + 1) = tkn f_q N 0 ∧ P1.length ≤ h_q + 1 ∧ ∀ q, q ≠ a + 71 → (q < a + 77 ∨ a + 79 < q) → σ q = z0 q := ⟨P, k9, u9, p9_q, hR9, hK, by rw [← tkn_w hlt g39 g90 g9_q]; exact hP, by omega, hq_q⟩)
              refine go_iload_n (pc := 206) dX4_scan_206 rfl ?_
              refine go_istore (lw := [_, _, _, _, _, _, _]) (pc := 207) dX4_scan_207 (by decide) rfl ?_
              refine go_goto (tgt := 10) (pc := 209) dX4_scan_209 (by decide) ?_
              exact ih0 _ _ _ _ (by omega) ⟨P1, _, k1, u1, p1, _, _, rfl, hR7, hK7, hP7, hPh7, by omega, hq7, rfl, rfl⟩
          · have g102 : rn dgt f_q N (h_q + 1) < N := Nat.lt_of_not_le (fun hc_q => h_102 (by rw [hEQ]; exact nI_le hc_q (by omega)))
            refine go_iload_n (pc := 105) dX4_scan_105 rfl ?_
            refine go_aload_n (pc := 106) dX4_scan_106 rfl ?_
            refine go_alen (pc := 107) dX4_scan_107 (by first | exact ho9 | exact r0 | exact hR9.1) (t0 := 0) rfl rfl ?_
            refine go_icmp_ge (tgt := 144) (pc := 108) dX4_scan_108 (by decide) (fun h_108 => by exfalso; rw [hEQ] at h_108; exact absurd h_108 (nI_ge (b := 900) (by omega) (by decide))) (fun h_108 => ?_)
            refine go_aload_n (pc := 111) dX4_scan_111 rfl ?_
            refine go_iload_n (pc := 112) dX4_scan_112 rfl ?_
            refine go_iald (pc := 113) dX4_scan_113 (by first | exact ho9 | exact r0 | exact hR9.1) (by exact ⟨rfl, by omega⟩) ?_
            refine go_S1P (pc := 114) s_X4_98 rfl rfl dX4_scan_114 (cp_isDig (k := k - 1) _) ?_
            refine go_if_eq (tgt := 144) (pc := 117) dX4_scan_117 (by decide) (fun h_117 => ?_) (fun h_117 => by exfalso; exact h_117 (bI_0.mpr (by rw [hEQ, rn_end g102]; decide)))
            rw [hEQ]
            refine go_aload_n (pc := 144) dX4_scan_144 rfl ?_
            refine go_iload_n (pc := 145) dX4_scan_145 rfl ?_
            refine go_iload (pc := 146) dX4_scan_146 rfl ?_
            refine go_isub (pc := 148) dX4_scan_148 ?_
            rw [show nI (rn dgt f_q N (h_q + 1)) - nI h_q = nI (rn dgt f_q N (h_q + 1) - h_q) from pk_sub (by omega)]
            refine go_iconst (v := 3) (pc := 149) dX4_scan_149 (by decide) ?_
            refine go_icmp_le (tgt := 157) (pc := 150) dX4_scan_150 (by decide) (fun h_150 => ?_) (fun h_150 => ?_)
            · refine go_iconst (v := 2) (pc := 157) dX4_scan_157 (by decide) ?_
              refine go_iload (pc := 158) dX4_scan_158 rfl ?_
              refine go_iload (pc := 160) dX4_scan_160 rfl ?_
              refine go_V3V (pc := 162) v_X4_94 rfl rfl (rcv_of (ci := 4) (by first | exact ho9 | exact r0 | exact hR9.1) rfl) dX4_scan_162 (cp_keepT (k := k - 1) hR9 (by omega) _ _ _) (fun σ n h_q => ?_)
              obtain ⟨rfl, hR8, hq8⟩ := h_q
              first
                | (have g150 : ¬ (nI (rn dgt f_q N (h_q + 1) - h_q) ≤ 3) := h_150
                   have g3_q : (if 3 < rn dgt f_q N (h_q + 1) - h_q then (1 : Int32) else 2) = 1 := if_pos (Nat.lt_of_not_le (fun hc_q => g150 (nI_le (b := 3) hc_q (by decide)))))
                | (have g150 : nI (rn dgt f_q N (h_q + 1) - h_q) ≤ 3 := h_150
                   have g3_q : (if 3 < rn dgt f_q N (h_q + 1) - h_q then (1 : Int32) else 2) = 2 := if_neg (Nat.not_lt.mpr ((nI_leI (b := 3) (by omega) (by decide)).mp g150)))
              rw [← g3_q] at hR8
              have hX9 : ∃ (P1 : List tok) (k1 u1 p1 : row), RrAt Γ σ a (nI P1.length) t_q sz lw b_q fl pl k1 u1 p1 cc ∧ tkR k1 u1 p1 0 P1 ∧ P1 ++ tkn f_q N (rn dgt f_q N (h_q + 1)) = tkn f_q N 0 ∧ P1.length ≤ rn dgt f_q N (h_q + 1) ∧ ∀ q, q ≠ a + 71 → (q < a + 77 ∨ a + 79 < q) → σ q = z0 q := by
                refine ⟨P ++ [(if 3 < rn dgt f_q N (h_q + 1) - h_q then 1 else 2, dv f_q h_q (rn dgt f_q N (h_q + 1) - (h_q + 1)), h_q)], _, _, _, ?_, tkR_app (x := (if 3 < rn dgt f_q N (h_q + 1) - h_q then 1 else 2, dv f_q h_q (rn dgt f_q N (h_q + 1) - (h_q + 1)), h_q)) hK, ?_, ?_, fun q h1_q h2_q => (hq8 q h1_q h2_q).trans (hq_q q h1_q h2_q)⟩
                · rw [List.length_append, List.length_singleton]
                  exact hR8
                · rw [← hP, tkn_d hlt g39 g90, List.append_assoc]
                  rfl
                · rw [List.length_append, List.length_singleton]
                  omega
              refine go_goto (tgt := 206) (pc := 165) dX4_scan_165 (by decide) ?_
              first
                | (obtain ⟨P1, k1, u1, p1, hR7, hK7, hP7, hPh7, hq7⟩ := hX9)
                | (have g9_q : f_q h_q = 32 ∨ f_q h_q = 10 := Or.inl h_172
                   obtain ⟨P1, k1, u1, p1, hR7, hK7, hP7, hPh7, hq7⟩ : ∃ (P1 : List tok) (k1 u1 p1 : row), RrAt Γ σ a (nI P1.length) t_q sz lw b_q fl pl k1 u1 p1 cc ∧ tkR k1 u1 p1 0 P1 ∧ P1 ++ tkn f_q N (h_q + 1) = tkn f_q N 0 ∧ P1.length ≤ h_q + 1 ∧ ∀ q, q ≠ a + 71 → (q < a + 77 ∨ a + 79 < q) → σ q = z0 q := ⟨P, k9, u9, p9_q, hR9, hK, by rw [← tkn_w hlt g39 g90 g9_q]; exact hP, by omega, hq_q⟩)
                | (have g9_q : f_q h_q = 32 ∨ f_q h_q = 10 := Or.inr h_179
                   obtain ⟨P1, k1, u1, p1, hR7, hK7, hP7, hPh7, hq7⟩ : ∃ (P1 : List tok) (k1 u1 p1 : row), RrAt Γ σ a (nI P1.length) t_q sz lw b_q fl pl k1 u1 p1 cc ∧ tkR k1 u1 p1 0 P1 ∧ P1 ++ tkn f_q N (h_q + 1) = tkn f_q N 0 ∧ P1.length ≤ h_q + 1 ∧ ∀ q, q ≠ a + 71 → (q < a + 77 ∨ a + 79 < q) → σ q = z0 q := ⟨P, k9, u9, p9_q, hR9, hK, by rw [← tkn_w hlt g39 g90 g9_q]; exact hP, by omega, hq_q⟩)
              refine go_iload_n (pc := 206) dX4_scan_206 rfl ?_
              refine go_istore (lw := [_, _, _, _, _, _, _]) (pc := 207) dX4_scan_207 (by decide) rfl ?_
              refine go_goto (tgt := 10) (pc := 209) dX4_scan_209 (by decide) ?_
              exact ih0 _ _ _ _ (by omega) ⟨P1, _, k1, u1, p1, _, _, rfl, hR7, hK7, hP7, hPh7, by omega, hq7, rfl, rfl⟩
            · refine go_iconst (v := 1) (pc := 153) dX4_scan_153 (by decide) ?_
              refine go_goto (tgt := 158) (pc := 154) dX4_scan_154 (by decide) ?_
              refine go_iload (pc := 158) dX4_scan_158 rfl ?_
              refine go_iload (pc := 160) dX4_scan_160 rfl ?_
              refine go_V3V (pc := 162) v_X4_94 rfl rfl (rcv_of (ci := 4) (by first | exact ho9 | exact r0 | exact hR9.1) rfl) dX4_scan_162 (cp_keepT (k := k - 1) hR9 (by omega) _ _ _) (fun σ n h_q => ?_)
              obtain ⟨rfl, hR8, hq8⟩ := h_q
              first
                | (have g150 : ¬ (nI (rn dgt f_q N (h_q + 1) - h_q) ≤ 3) := h_150
                   have g3_q : (if 3 < rn dgt f_q N (h_q + 1) - h_q then (1 : Int32) else 2) = 1 := if_pos (Nat.lt_of_not_le (fun hc_q => g150 (nI_le (b := 3) hc_q (by decide)))))
                | (have g150 : nI (rn dgt f_q N (h_q + 1) - h_q) ≤ 3 := h_150
                   have g3_q : (if 3 < rn dgt f_q N (h_q + 1) - h_q then (1 : Int32) else 2) = 2 := if_neg (Nat.not_lt.mpr ((nI_leI (b := 3) (by omega) (by decide)).mp g150)))
              rw [← g3_q] at hR8
              have hX9 : ∃ (P1 : List tok) (k1 u1 p1 : row), RrAt Γ σ a (nI P1.length) t_q sz lw b_q fl pl k1 u1 p1 cc ∧ tkR k1 u1 p1 0 P1 ∧ P1 ++ tkn f_q N (rn dgt f_q N (h_q + 1)) = tkn f_q N 0 ∧ P1.length ≤ rn dgt f_q N (h_q + 1) ∧ ∀ q, q ≠ a + 71 → (q < a + 77 ∨ a + 79 < q) → σ q = z0 q := by
                refine ⟨P ++ [(if 3 < rn dgt f_q N (h_q + 1) - h_q then 1 else 2, dv f_q h_q (rn dgt f_q N (h_q + 1) - (h_q + 1)), h_q)], _, _, _, ?_, tkR_app (x := (if 3 < rn dgt f_q N (h_q + 1) - h_q then 1 else 2, dv f_q h_q (rn dgt f_q N (h_q + 1) - (h_q + 1)), h_q)) hK, ?_, ?_, fun q h1_q h2_q => (hq8 q h1_q h2_q).trans (hq_q q h1_q h2_q)⟩
                · rw [List.length_append, List.length_singleton]
                  exact hR8
                · rw [← hP, tkn_d hlt g39 g90, List.append_assoc]
                  rfl
                · rw [List.length_append, List.length_singleton]
                  omega
              refine go_goto (tgt := 206) (pc := 165) dX4_scan_165 (by decide) ?_
              first
                | (obtain ⟨P1, k1, u1, p1, hR7, hK7, hP7, hPh7, hq7⟩ := hX9)
                | (have g9_q : f_q h_q = 32 ∨ f_q h_q = 10 := Or.inl h_172
                   obtain ⟨P1, k1, u1, p1, hR7, hK7, hP7, hPh7, hq7⟩ : ∃ (P1 : List tok) (k1 u1 p1 : row), RrAt Γ σ a (nI P1.length) t_q sz lw b_q fl pl k1 u1 p1 cc ∧ tkR k1 u1 p1 0 P1 ∧ P1 ++ tkn f_q N (h_q + 1) = tkn f_q N 0 ∧ P1.length ≤ h_q + 1 ∧ ∀ q, q ≠ a + 71 → (q < a + 77 ∨ a + 79 < q) → σ q = z0 q := ⟨P, k9, u9, p9_q, hR9, hK, by rw [← tkn_w hlt g39 g90 g9_q]; exact hP, by omega, hq_q⟩)
                | (have g9_q : f_q h_q = 32 ∨ f_q h_q = 10 := Or.inr h_179
                   obtain ⟨P1, k1, u1, p1, hR7, hK7, hP7, hPh7, hq7⟩ : ∃ (P1 : List tok) (k1 u1 p1 : row), RrAt Γ σ a (nI P1.length) t_q sz lw b_q fl pl k1 u1 p1 cc ∧ tkR k1 u1 p1 0 P1 ∧ P1 ++ tkn f_q N (h_q + 1) = tkn f_q N 0 ∧ P1.length ≤ h_q + 1 ∧ ∀ q, q ≠ a + 71 → (q < a + 77 ∨ a + 79 < q) → σ q = z0 q := ⟨P, k9, u9, p9_q, hR9, hK, by rw [← tkn_w hlt g39 g90 g9_q]; exact hP, by omega, hq_q⟩)
              refine go_iload_n (pc := 206) dX4_scan_206 rfl ?_
              refine go_istore (lw := [_, _, _, _, _, _, _]) (pc := 207) dX4_scan_207 (by decide) rfl ?_
              refine go_goto (tgt := 10) (pc := 209) dX4_scan_209 (by decide) ?_
              exact ih0 _ _ _ _ (by omega) ⟨P1, _, k1, u1, p1, _, _, rfl, hR7, hK7, hP7, hPh7, by omega, hq7, rfl, rfl⟩
    · refine go_iter (rn ltr f_q N (h_q + 1) - (h_q + 1)) (fun i_q lv9 s9 n9 => lv9 = [some (.ref (a + 71)), some (.ref x_q), some (.int (nI N)), some (.int (nI (h_q + 1 + i_q))), some (.int (nI h_q)), some (.int (f_q h_q)), x6_q] ∧ (s9 = σ) ∧ n = n9) ⟨rfl, rfl, rfl⟩ ?_ ?_
      · rintro i_q lv9 σ n9 hi_q ⟨rfl, es, rfl⟩ ih_q
        subst es
        have g39 : ltr (f_q h_q) = true := Decidable.not_not.mp (fun hc_q => h_39 (bI_0.mpr hc_q))
        refine go_iload_n (pc := 42) dX4_scan_42 rfl ?_
        refine go_iload_n (pc := 43) dX4_scan_43 rfl ?_
        refine go_icmp_ge (tgt := 68) (pc := 44) dX4_scan_44 (by decide) (fun h_44 => by exfalso; exact absurd h_44 (nI_ge (by omega) (by omega))) (fun h_44 => ?_)
        refine go_iload_n (pc := 47) dX4_scan_47 rfl ?_
        refine go_aload_n (pc := 48) dX4_scan_48 rfl ?_
        refine go_alen (pc := 49) dX4_scan_49 (by first | exact ho9 | exact r0 | exact hR9.1) (t0 := 0) rfl rfl ?_
        refine go_icmp_ge (tgt := 68) (pc := 50) dX4_scan_50 (by decide) (fun h_50 => by exfalso; exact absurd h_50 (nI_ge (b := 900) (by omega) (by decide))) (fun h_50 => ?_)
        refine go_aload_n (pc := 53) dX4_scan_53 rfl ?_
        refine go_iload_n (pc := 54) dX4_scan_54 rfl ?_
        refine go_iald (pc := 55) dX4_scan_55 (by first | exact ho9 | exact r0 | exact hR9.1) (by exact ⟨rfl, by omega⟩) ?_
        refine go_S1P (pc := 56) s_X4_86 rfl rfl dX4_scan_56 (cp_isLet (k := k - 1) _) ?_
        refine go_if_eq (tgt := 68) (pc := 59) dX4_scan_59 (by decide) (fun h_59 => by exfalso; exact absurd (rn_all (p := ltr) (f := f_q) (N := N) (h := h_q + 1) (j := h_q + 1 + i_q) (by omega) (by omega)) (bI_0.mp h_59)) (fun h_59 => ?_)
        refine go_iinc (v := 1) (lw := [_, _, _, _, _, _, _]) (pc := 62) dX4_scan_62 rfl (by decide) (by decide) rfl ?_
        refine go_goto (tgt := 42) (pc := 65) dX4_scan_65 (by decide) ?_
        rw [nI_1]
        exact ih_q _ _ _ ⟨rfl, rfl, rfl⟩
      · rintro lv9 σ n9 ⟨rfl, es, rfl⟩
        subst es
        have hEQ : h_q + 1 + (rn ltr f_q N (h_q + 1) - (h_q + 1)) = rn ltr f_q N (h_q + 1) := by omega
        have g39 : ltr (f_q h_q) = true := Decidable.not_not.mp (fun hc_q => h_39 (bI_0.mpr hc_q))
        refine go_iload_n (pc := 42) dX4_scan_42 rfl ?_
        refine go_iload_n (pc := 43) dX4_scan_43 rfl ?_
        refine go_icmp_ge (tgt := 68) (pc := 44) dX4_scan_44 (by decide) (fun h_44 => ?_) (fun h_44 => ?_)
        · rw [hEQ]
          refine go_aload_n (pc := 68) dX4_scan_68 rfl ?_
          refine go_aload_n (pc := 69) dX4_scan_69 rfl ?_
          refine go_iload (pc := 70) dX4_scan_70 rfl ?_
          refine go_iload_n (pc := 72) dX4_scan_72 rfl ?_
          refine go_S3P (pc := 73) s_X4_90 rfl rfl dX4_scan_73 (cp_word (k := k - 1) (e_q := rn ltr f_q N (h_q + 1)) ho9 (by decide) (by omega) (by omega) (by omega)) ?_
          refine go_iconst (v := 0) (pc := 76) dX4_scan_76 (by decide) ?_
          refine go_iload (pc := 77) dX4_scan_77 rfl ?_
          refine go_V3V (pc := 79) v_X4_94 rfl rfl (rcv_of (ci := 4) (by first | exact ho9 | exact r0 | exact hR9.1) rfl) dX4_scan_79 (cp_keepT (k := k - 1) hR9 (by omega) _ _ _) (fun σ n h_q => ?_)
          obtain ⟨rfl, hR8, hq8⟩ := h_q
          have hX9 : ∃ (P1 : List tok) (k1 u1 p1 : row), RrAt Γ σ a (nI P1.length) t_q sz lw b_q fl pl k1 u1 p1 cc ∧ tkR k1 u1 p1 0 P1 ∧ P1 ++ tkn f_q N (rn ltr f_q N (h_q + 1)) = tkn f_q N 0 ∧ P1.length ≤ rn ltr f_q N (h_q + 1) ∧ ∀ q, q ≠ a + 71 → (q < a + 77 ∨ a + 79 < q) → σ q = z0 q := by
            refine ⟨P ++ [(wK (txW f_q h_q (rn ltr f_q N (h_q + 1))), 0, h_q)], _, _, _, ?_, tkR_app (x := (wK (txW f_q h_q (rn ltr f_q N (h_q + 1))), 0, h_q)) hK, ?_, ?_, fun q h1_q h2_q => (hq8 q h1_q h2_q).trans (hq_q q h1_q h2_q)⟩
            · rw [List.length_append, List.length_singleton]
              exact hR8
            · rw [← hP, tkn_l hlt g39, List.append_assoc]
              rfl
            · rw [List.length_append, List.length_singleton]
              omega
          refine go_goto (tgt := 206) (pc := 82) dX4_scan_82 (by decide) ?_
          first
            | (obtain ⟨P1, k1, u1, p1, hR7, hK7, hP7, hPh7, hq7⟩ := hX9)
            | (have g9_q : f_q h_q = 32 ∨ f_q h_q = 10 := Or.inl h_172
               obtain ⟨P1, k1, u1, p1, hR7, hK7, hP7, hPh7, hq7⟩ : ∃ (P1 : List tok) (k1 u1 p1 : row), RrAt Γ σ a (nI P1.length) t_q sz lw b_q fl pl k1 u1 p1 cc ∧ tkR k1 u1 p1 0 P1 ∧ P1 ++ tkn f_q N (h_q + 1) = tkn f_q N 0 ∧ P1.length ≤ h_q + 1 ∧ ∀ q, q ≠ a + 71 → (q < a + 77 ∨ a + 79 < q) → σ q = z0 q := ⟨P, k9, u9, p9_q, hR9, hK, by rw [← tkn_w hlt g39 g90 g9_q]; exact hP, by omega, hq_q⟩)
            | (have g9_q : f_q h_q = 32 ∨ f_q h_q = 10 := Or.inr h_179
               obtain ⟨P1, k1, u1, p1, hR7, hK7, hP7, hPh7, hq7⟩ : ∃ (P1 : List tok) (k1 u1 p1 : row), RrAt Γ σ a (nI P1.length) t_q sz lw b_q fl pl k1 u1 p1 cc ∧ tkR k1 u1 p1 0 P1 ∧ P1 ++ tkn f_q N (h_q + 1) = tkn f_q N 0 ∧ P1.length ≤ h_q + 1 ∧ ∀ q, q ≠ a + 71 → (q < a + 77 ∨ a + 79 < q) → σ q = z0 q := ⟨P, k9, u9, p9_q, hR9, hK, by rw [← tkn_w hlt g39 g90 g9_q]; exact hP, by omega, hq_q⟩)
          refine go_iload_n (pc := 206) dX4_scan_206 rfl ?_
          refine go_istore (lw := [_, _, _, _, _, _, _]) (pc := 207) dX4_scan_207 (by decide) rfl ?_
          refine go_goto (tgt := 10) (pc := 209) dX4_scan_209 (by decide) ?_
          exact ih0 _ _ _ _ (by omega) ⟨P1, _, k1, u1, p1, _, _, rfl, hR7, hK7, hP7, hPh7, by omega, hq7, rfl, rfl⟩
        · have g44 : rn ltr f_q N (h_q + 1) < N := Nat.lt_of_not_le (fun hc_q => h_44 (by rw [hEQ]; exact nI_le hc_q (by omega)))
          refine go_iload_n (pc := 47) dX4_scan_47 rfl ?_
          refine go_aload_n (pc := 48) dX4_scan_48 rfl ?_
          refine go_alen (pc := 49) dX4_scan_49 (by first | exact ho9 | exact r0 | exact hR9.1) (t0 := 0) rfl rfl ?_
          refine go_icmp_ge (tgt := 68) (pc := 50) dX4_scan_50 (by decide) (fun h_50 => by exfalso; rw [hEQ] at h_50; exact absurd h_50 (nI_ge (b := 900) (by omega) (by decide))) (fun h_50 => ?_)
          refine go_aload_n (pc := 53) dX4_scan_53 rfl ?_
          refine go_iload_n (pc := 54) dX4_scan_54 rfl ?_
          refine go_iald (pc := 55) dX4_scan_55 (by first | exact ho9 | exact r0 | exact hR9.1) (by exact ⟨rfl, by omega⟩) ?_
          refine go_S1P (pc := 56) s_X4_86 rfl rfl dX4_scan_56 (cp_isLet (k := k - 1) _) ?_
          refine go_if_eq (tgt := 68) (pc := 59) dX4_scan_59 (by decide) (fun h_59 => ?_) (fun h_59 => by exfalso; exact h_59 (bI_0.mpr (by rw [hEQ, rn_end g44]; decide)))
          rw [hEQ]
          refine go_aload_n (pc := 68) dX4_scan_68 rfl ?_
          refine go_aload_n (pc := 69) dX4_scan_69 rfl ?_
          refine go_iload (pc := 70) dX4_scan_70 rfl ?_
          refine go_iload_n (pc := 72) dX4_scan_72 rfl ?_
          refine go_S3P (pc := 73) s_X4_90 rfl rfl dX4_scan_73 (cp_word (k := k - 1) (e_q := rn ltr f_q N (h_q + 1)) ho9 (by decide) (by omega) (by omega) (by omega)) ?_
          refine go_iconst (v := 0) (pc := 76) dX4_scan_76 (by decide) ?_
          refine go_iload (pc := 77) dX4_scan_77 rfl ?_
          refine go_V3V (pc := 79) v_X4_94 rfl rfl (rcv_of (ci := 4) (by first | exact ho9 | exact r0 | exact hR9.1) rfl) dX4_scan_79 (cp_keepT (k := k - 1) hR9 (by omega) _ _ _) (fun σ n h_q => ?_)
          obtain ⟨rfl, hR8, hq8⟩ := h_q
          have hX9 : ∃ (P1 : List tok) (k1 u1 p1 : row), RrAt Γ σ a (nI P1.length) t_q sz lw b_q fl pl k1 u1 p1 cc ∧ tkR k1 u1 p1 0 P1 ∧ P1 ++ tkn f_q N (rn ltr f_q N (h_q + 1)) = tkn f_q N 0 ∧ P1.length ≤ rn ltr f_q N (h_q + 1) ∧ ∀ q, q ≠ a + 71 → (q < a + 77 ∨ a + 79 < q) → σ q = z0 q := by
            refine ⟨P ++ [(wK (txW f_q h_q (rn ltr f_q N (h_q + 1))), 0, h_q)], _, _, _, ?_, tkR_app (x := (wK (txW f_q h_q (rn ltr f_q N (h_q + 1))), 0, h_q)) hK, ?_, ?_, fun q h1_q h2_q => (hq8 q h1_q h2_q).trans (hq_q q h1_q h2_q)⟩
            · rw [List.length_append, List.length_singleton]
              exact hR8
            · rw [← hP, tkn_l hlt g39, List.append_assoc]
              rfl
            · rw [List.length_append, List.length_singleton]
              omega
          refine go_goto (tgt := 206) (pc := 82) dX4_scan_82 (by decide) ?_
          first
            | (obtain ⟨P1, k1, u1, p1, hR7, hK7, hP7, hPh7, hq7⟩ := hX9)
            | (have g9_q : f_q h_q = 32 ∨ f_q h_q = 10 := Or.inl h_172
               obtain ⟨P1, k1, u1, p1, hR7, hK7, hP7, hPh7, hq7⟩ : ∃ (P1 : List tok) (k1 u1 p1 : row), RrAt Γ σ a (nI P1.length) t_q sz lw b_q fl pl k1 u1 p1 cc ∧ tkR k1 u1 p1 0 P1 ∧ P1 ++ tkn f_q N (h_q + 1) = tkn f_q N 0 ∧ P1.length ≤ h_q + 1 ∧ ∀ q, q ≠ a + 71 → (q < a + 77 ∨ a + 79 < q) → σ q = z0 q := ⟨P, k9, u9, p9_q, hR9, hK, by rw [← tkn_w hlt g39 g90 g9_q]; exact hP, by omega, hq_q⟩)
            | (have g9_q : f_q h_q = 32 ∨ f_q h_q = 10 := Or.inr h_179
               obtain ⟨P1, k1, u1, p1, hR7, hK7, hP7, hPh7, hq7⟩ : ∃ (P1 : List tok) (k1 u1 p1 : row), RrAt Γ σ a (nI P1.length) t_q sz lw b_q fl pl k1 u1 p1 cc ∧ tkR k1 u1 p1 0 P1 ∧ P1 ++ tkn f_q N (h_q + 1) = tkn f_q N 0 ∧ P1.length ≤ h_q + 1 ∧ ∀ q, q ≠ a + 71 → (q < a + 77 ∨ a + 79 < q) → σ q = z0 q := ⟨P, k9, u9, p9_q, hR9, hK, by rw [← tkn_w hlt g39 g90 g9_q]; exact hP, by omega, hq_q⟩)
          refine go_iload_n (pc := 206) dX4_scan_206 rfl ?_
          refine go_istore (lw := [_, _, _, _, _, _, _]) (pc := 207) dX4_scan_207 (by decide) rfl ?_
          refine go_goto (tgt := 10) (pc := 209) dX4_scan_209 (by decide) ?_
          exact ih0 _ _ _ _ (by omega) ⟨P1, _, k1, u1, p1, _, _, rfl, hR7, hK7, hP7, hPh7, by omega, hq7, rfl, rfl⟩
