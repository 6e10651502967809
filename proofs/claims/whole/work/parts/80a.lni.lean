/-! ===== what the lines keep of what is told ===== -/
def lnI (T : row) : Prop := okB T ∧ gS T ∧ 0 < kH T ∧ 0 < kW T ∧ T 7 = 0 ∧ T 32 = 0
theorem codeK_cg {K K2 : row} {mn pl : Nat} (h : K2 mn = K mn) (h2 : ∀ j, j < (K mn).toNatClampNeg → K2 (pl + j) = K (pl + j)) : codeK K2 mn pl = codeK K mn pl := by
  unfold codeK
  rw [h]
  exact List.map_congr_left (fun j hj => h2 j (List.mem_range.mp hj))
theorem okL_cg {K K2 : row} {mn pl : Nat} {w : Int32} {fb : Bool} (h : K2 mn = K mn) (h2 : ∀ j, j < (K mn).toNatClampNeg → K2 (pl + j) = K (pl + j)) (h0 : K mn = 0 ∨ okL K mn pl w fb) : K2 mn = 0 ∨ okL K2 mn pl w fb := by
  rcases h0 with h0 | ⟨cnt, h1, h3, h4⟩
  · exact Or.inl (h.trans h0)
  · exact Or.inr ⟨cnt, h.trans h1, h3, by rw [codeK_cg h h2]; exact h4⟩
theorem okL_900 {K : row} {mn pl : Nat} {w : Int32} {fb : Bool} (h0 : K mn = 0 ∨ okL K mn pl w fb) : (K mn).toNatClampNeg ≤ 900 := by
  rcases h0 with h0 | ⟨cnt, h1, h3, h4⟩
  · rw [h0]; decide
  · rw [h1, nI_clamp (by omega)]; exact h3
theorem okB_900 {K : row} (h : okB K) : ∀ w, 4 ≤ w → w ≤ 6 → (K w).toNatClampNeg ≤ 900 := by
  intro w h4 h6
  rcases (show w = 4 ∨ w = 5 ∨ w = 6 by omega) with rfl | rfl | rfl
  · exact okL_900 h.2.1
  · exact okL_900 h.2.2.1
  · exact okL_900 h.2.2.2
theorem okP_cg {K K2 : row} (h1 : K2 1 = K 1) (h2 : K2 2 = K 2) (h3 : K2 3 = K 3) (h : okP K) : okP K2 := by
  unfold okP kP kH kW at *
  rw [h1, h2, h3]
  exact h
theorem gS_cg {K K2 : row} (h : gS K) (h1 : K2 1 = K 1) (h2 : K2 2 = K 2) (h3 : K2 3 = K 3) (h8 : kP K ≤ 8) (hs : ∀ j, 8 ≤ j → j < 32 → K2 j = K j) : gS K2 := by
  have eP : kP K2 = kP K := by show (K2 3).toNatClampNeg = _; rw [h3]
  have eW : kW K2 = kW K := by show (K2 1).toNatClampNeg = _; rw [h1]
  have eH : kH K2 = kH K := by show (K2 2).toNatClampNeg = _; rw [h2]
  refine ⟨fun p hp => ?_, fun p q hp hq a b c => ?_, fun p hp a => ?_⟩
  · rw [eP] at hp
    rw [eW, eH, hs (8 + p) (by omega) (by omega), hs (16 + p) (by omega) (by omega)]
    exact h.1 p hp
  · rw [eP] at hp hq
    rw [hs (16 + p) (by omega) (by omega)] at a c
    rw [hs (16 + q) (by omega) (by omega)] at a
    rw [hs (8 + p) (by omega) (by omega), hs (8 + q) (by omega) (by omega)] at b
    exact h.2.1 p q hp hq a b c
  · rw [eP] at hp
    rw [hs (16 + p) (by omega) (by omega)] at a
    rw [hs (24 + p) (by omega) (by omega)]
    exact h.2.2 p hp a
theorem lnI_cg {T T2 : row} (h : lnI T) (hs : ∀ j, 1 ≤ j → j < 33 → T2 j = T j) (h9 : ∀ j, 59 ≤ j → T2 j = T j) : lnI T2 := by
  obtain ⟨⟨hP, h4, h5, h6⟩, hg, hH, hW, h7, h32⟩ := h
  refine ⟨⟨okP_cg (hs 1 (by omega) (by omega)) (hs 2 (by omega) (by omega)) (hs 3 (by omega) (by omega)) hP, okL_cg (hs 4 (by omega) (by omega)) (fun j _ => h9 _ (by omega)) h4, okL_cg (hs 5 (by omega) (by omega)) (fun j _ => h9 _ (by omega)) h5, okL_cg (hs 6 (by omega) (by omega)) (fun j _ => h9 _ (by omega)) h6⟩, gS_cg hg (hs 1 (by omega) (by omega)) (hs 2 (by omega) (by omega)) (hs 3 (by omega) (by omega)) hP.2.1 (fun j a b => hs j (by omega) (by omega)), ?_, ?_, ?_, ?_⟩
  · show 0 < (T2 2).toNatClampNeg
    rw [hs 2 (by omega) (by omega)]; exact hH
  · show 0 < (T2 1).toNatClampNeg
    rw [hs 1 (by omega) (by omega)]; exact hW
  · rw [hs 7 (by omega) (by omega)]; exact h7
  · rw [hs 32 (by omega) (by omega)]; exact h32
/-- numbers below a bound that is told -/
theorem nI_m1 {v b : Int32} {m : Nat} (hb : b = nI m) (h0 : 0 < m) (hm : m ≤ 100) (g0 : 0 ≤ v) (g1 : v ≤ b - 1) : ∃ c, c < m ∧ v = nI c := by
  subst hb
  obtain ⟨m, rfl⟩ : ∃ m', m = m' + 1 := ⟨m - 1, by omega⟩
  rw [nI_pred] at g1
  obtain ⟨j, hj, e⟩ := nI_of2 (M := nI m) (n := m) (nI_toInt (by omega)) (Int32.not_lt.mpr g0) g1
  exact ⟨j, by omega, e⟩
/-- a person told without a fault sits on a chair of its own -/
theorem per_ok {N : Nat} {s : ps} {T : row} (h : lnI T) (hb : s.bad = 0) (h8 : kP T ≠ 8) (hg : (p5 N s T).1.bad = 0) : ∃ c r, c < kW T ∧ r < kH T ∧ (p2 N s T).1 = nI c ∧ (p4 N s T).1 = nI r ∧ sitK T (nI c) (nI r) = none ∧ (p3 N s T) = (p2 N s T).2 ∧ (p4 N s T).2.bad = 0 := by
  obtain ⟨⟨hP, -, -, -⟩, hgS, hH, hW, -, -⟩ := h
  have g4 : (p4 N s T).2.bad = 0 := flP_bad _ _ _ hg
  obtain ⟨b3, k3, v0, v1, e4⟩ := numP_ok g4
  have e3 : p3 N s T = (p2 N s T).2 := by
    unfold p3
    split
    · next c =>
      rw [p3, if_pos c] at b3
      exact absurd b3 (failP_ne (by decide) c.1)
    · rfl
  rw [e3] at b3 k3 v0 v1
  obtain ⟨b2, k2, u0, u1, e2⟩ := numP_ok b3
  have hn : sitK T (p2 N s T).1 (tvl (p2 N s T).2.l) = none := by
    by_cases hn : sitK T (p2 N s T).1 (tvl (p2 N s T).2.l) = none
    · exact hn
    · rw [p3, if_pos ⟨b3, k3, hn⟩] at e3
      rw [← e3] at b3
      exact absurd b3 (failP_ne (by decide) (by rw [e3] at b3; exact b3))
  have e4 : (p4 N s T).1 = tvl (p2 N s T).2.l := by
    have : (p4 N s T).1 = tvl (p3 N s T).l := congrArg Prod.fst e4
    rw [this, e3]
  have e2 : (p2 N s T).1 = tvl (needP N 6 (nextP s)).l := congrArg Prod.fst e2
  rw [← e2] at u0 u1
  rw [← e4] at v0 v1 hn
  obtain ⟨c, hc, ec⟩ := nI_m1 hP.2.2.2.2.1 hW (by have := hP.2.2.2.2.2; omega) u0 u1
  obtain ⟨r, hr, er⟩ := nI_m1 hP.2.2.1 hH (by have := hP.2.2.2.1; omega) v0 v1
  rw [ec, er] at hn
  exact ⟨c, r, hc, hr, ec, er, hn, e3, g4⟩
theorem T6_at {p : Nat} {c r : Int32} {T : row} (hp : p < 8) : T6 p c r T (8 + p) = c ∧ T6 p c r T (16 + p) = r ∧ T6 p c r T (24 + p) = -1 ∧ T6 p c r T 3 = nI (p + 1) ∧ ∀ j, j ≠ 8 + p → j ≠ 16 + p → j ≠ 24 + p → j ≠ 3 → T6 p c r T j = T j := by
  unfold T6
  refine ⟨?_, ?_, ?_, pk_us, fun j a b d e => ?_⟩
  · rw [pk_un (by omega), pk_un (by omega), pk_un (by omega), pk_us]
  · rw [pk_un (by omega), pk_un (by omega), pk_us]
  · rw [pk_un (by omega), pk_us]
  · rw [pk_un e, pk_un d, pk_un b, pk_un a]
theorem p5_at {N : Nat} {s : ps} {T : row} (hp : kP T < 8) {j : Nat} (hj : j < 34 ∨ 58 < j) : (p5 N s T).2 j = T j := by
  rw [p5, flG_keep hj hp, T4, pk_un (by omega), pk_un (by omega), pk_un (by omega)]
theorem lnI_per {N : Nat} {s : ps} {T : row} (h : lnI T) (hb : s.bad = 0) (hg : (perP N s T).1.bad = 0) : lnI (perP N s T).2 := by
  have hP8 := h.1.1.2.1
  by_cases h8 : kP T = 8
  · rw [perP, if_pos h8] at hg
    exact absurd hg (failP_ne (by decide) hb)
  · rw [perP, if_neg h8] at hg ⊢
    have hg : (p5 N s T).1.bad = 0 := hg
    show lnI (T6 (kP T) (p2 N s T).1 (p4 N s T).1 (p5 N s T).2)
    obtain ⟨c, r, hc, hr, ec, er, hn, -, -⟩ := per_ok h hb h8 hg
    obtain ⟨⟨hP, l4, l5, l6⟩, hgS, hH, hW, h7, h32⟩ := h
    have hp : kP T < 8 := by omega
    rw [ec, er]
    obtain ⟨a8, a16, a24, a3, ao⟩ := T6_at (c := nI c) (r := nI r) (T := (p5 N s T).2) hp
    obtain ⟨p, ep⟩ : ∃ p, kP T = p := ⟨_, rfl⟩
    rw [ep] at a8 a16 a24 a3 ao hp
    rw [ep]
    obtain ⟨X, eX⟩ : ∃ X, T6 p (nI c) (nI r) (p5 N s T).2 = X := ⟨_, rfl⟩
    rw [eX] at a8 a16 a24 a3 ao
    rw [eX]
    have ao2 : ∀ j, j ≠ 8 + p → j ≠ 16 + p → j ≠ 24 + p → j ≠ 3 → (j < 34 ∨ 58 < j) → X j = T j := fun j b1 b2 b3 b4 b5 => (ao j b1 b2 b3 b4).trans (p5_at (by omega) b5)
    have x1 : X 1 = T 1 := ao2 1 (by omega) (by omega) (by omega) (by omega) (by omega)
    have x2 : X 2 = T 2 := ao2 2 (by omega) (by omega) (by omega) (by omega) (by omega)
    have eP : kP X = p + 1 := by show (X 3).toNatClampNeg = _; rw [a3, nI_clamp (by omega)]
    have eW : kW X = kW T := by show (X 1).toNatClampNeg = _; rw [x1]
    have eH : kH X = kH T := by show (X 2).toNatClampNeg = _; rw [x2]
    have s16 : ∀ q, q < p → X (16 + q) = T (16 + q) := fun q hq => ao2 _ (by omega) (by omega) (by omega) (by omega) (by omega)
    have s8 : ∀ q, q < p → X (8 + q) = T (8 + q) := fun q hq => ao2 _ (by omega) (by omega) (by omega) (by omega) (by omega)
    have s24 : ∀ q, q < p → X (24 + q) = T (24 + q) := fun q hq => ao2 _ (by omega) (by omega) (by omega) (by omega) (by omega)
    have hno := sit_no.mp hn
    have rne : nI r ≠ -1 := nI_ne1 (by have := hP.2.2.2.1; omega)
    refine ⟨⟨⟨by rw [eP]; exact a3, by rw [eP]; omega, by rw [eH, x2]; exact hP.2.2.1, by rw [eH]; exact hP.2.2.2.1, by rw [eW, x1]; exact hP.2.2.2.2.1, by rw [eW]; exact hP.2.2.2.2.2⟩, okL_cg (ao2 4 (by omega) (by omega) (by omega) (by omega) (by omega)) (fun j _ => ao2 _ (by omega) (by omega) (by omega) (by omega) (by omega)) l4, okL_cg (ao2 5 (by omega) (by omega) (by omega) (by omega) (by omega)) (fun j _ => ao2 _ (by omega) (by omega) (by omega) (by omega) (by omega)) l5, okL_cg (ao2 6 (by omega) (by omega) (by omega) (by omega) (by omega)) (fun j _ => ao2 _ (by omega) (by omega) (by omega) (by omega) (by omega)) l6⟩, ⟨fun q hq => ?_, fun q q2 hq hq2 b1 b2 b3 => ?_, fun q hq b1 => ?_⟩, by rw [eH]; exact hH, by rw [eW]; exact hW, ?_, ?_⟩
    · rw [eP] at hq
      rw [eW, eH]
      by_cases e : q = p
      · subst e
        exact ⟨⟨c, hc, a8⟩, Or.inr ⟨r, hr, a16⟩⟩
      · rw [s8 q (by omega), s16 q (by omega)]
        exact hgS.1 q (by omega)
    · rw [eP] at hq hq2
      by_cases e : q = p
      · by_cases e2 : q2 = p
        · omega
        · subst e
          rw [a16, s16 q2 (by omega)] at b1
          rw [a8, s8 q2 (by omega)] at b2
          exact absurd ⟨b1.symm, b2.symm, rne⟩ (hno q2 (by omega))
      · by_cases e2 : q2 = p
        · subst e2
          rw [a16, s16 q (by omega)] at b1
          rw [a8, s8 q (by omega)] at b2
          exact absurd ⟨b1, b2, rne⟩ (hno q (by omega))
        · rw [s16 q (by omega), s16 q2 (by omega)] at b1
          rw [s8 q (by omega), s8 q2 (by omega)] at b2
          rw [s16 q (by omega)] at b3
          exact hgS.2.1 q q2 (by omega) (by omega) b1 b2 b3
    · rw [eP] at hq
      by_cases e : q = p
      · rw [e]; exact a24
      · rw [s16 q (by omega)] at b1
        rw [s24 q (by omega)]
        exact hgS.2.2 q (by omega) b1
    · rw [ao2 7 (by omega) (by omega) (by omega) (by omega) (by omega)]; exact h7
    · rw [ao2 32 (by omega) (by omega) (by omega) (by omega) (by omega)]; exact h32
section Lay
variable {T : row} {w : Nat} {st : List Int32}
theorem lay_w : layT w st T w = nI st.length := by unfold layT; rw [if_pos rfl]
theorem lay_o {j : Nat} (h1 : j ≠ w) (h2 : j < lwA w ∨ lwA w + st.length ≤ j) : layT w st T j = T j := by unfold layT; rw [if_neg h1, if_neg (by omega)]
theorem lay_c (hw : w ≤ 6) (hl : st.length ≤ 900) : codeK (layT w st T) w (lwA w) = st := by
  have hb := lwA_b (w := w)
  unfold codeK
  rw [lay_w, nI_clamp (by omega)]
  apply List.ext_getElem
  · rw [List.length_map, List.length_range]
  · intro i h1 h2
    rw [List.getElem_map, List.getElem_range]
    unfold layT
    rw [if_neg (by omega), if_pos (by omega), show lwA w + i - lwA w = i by omega, List.getD_eq_getElem?_getD, List.getElem?_eq_getElem h2]
    rfl
end Lay
theorem lnI_law {T : row} {w : Nat} {st : List Int32} {fb : Bool} (h : lnI T) (h4 : 4 ≤ w) (h6 : w ≤ 6) (hl : st.length ≤ 900) (hk : kinK (wW w) st [] = some [fb]) (hf : fb = decide (w = 4)) : lnI (layT w st T) := by
  obtain ⟨⟨hP, l4, l5, l6⟩, hgS, hH, hW, h7, h32⟩ := h
  have hb := lwA_b (w := w)
  have lo : ∀ j, j < 319 → j ≠ w → layT w st T j = T j := fun j a b => lay_o b (by omega)
  have key : ∀ w2, 4 ≤ w2 → w2 ≤ 6 → (T w2 = 0 ∨ okL T w2 (lwA w2) (wW w2) (decide (w2 = 4))) → layT w st T w2 = 0 ∨ okL (layT w st T) w2 (lwA w2) (wW w2) (decide (w2 = 4)) := by
    intro w2 g4 g6 l
    by_cases e : w2 = w
    · subst e
      exact Or.inr ⟨st.length, lay_w, hl, by rw [lay_c g6 hl, hk, hf]⟩
    · have hf9 := lw_far h4 h6 g4 g6 e
      have hb2 := lwA_b (w := w2)
      have l9 := okL_900 l
      exact okL_cg (lo w2 (by omega) e) (fun j hj => lay_o (by omega) (by omega)) l
  refine ⟨⟨okP_cg (lo 1 (by omega) (by omega)) (lo 2 (by omega) (by omega)) (lo 3 (by omega) (by omega)) hP, key 4 (by omega) (by omega) l4, key 5 (by omega) (by omega) l5, key 6 (by omega) (by omega) l6⟩, gS_cg hgS (lo 1 (by omega) (by omega)) (lo 2 (by omega) (by omega)) (lo 3 (by omega) (by omega)) hP.2.1 (fun j a b => lo j (by omega) (by omega)), ?_, ?_, ?_, ?_⟩
  · show 0 < (layT w st T 2).toNatClampNeg
    rw [lo 2 (by omega) (by omega)]; exact hH
  · show 0 < (layT w st T 1).toNatClampNeg
    rw [lo 1 (by omega) (by omega)]; exact hW
  · rw [lo 7 (by omega) (by omega)]; exact h7
  · rw [lo 32 (by omega) (by omega)]; exact h32
theorem lw_tot {N w t : Nat} {s : ps} (ht : t < 10) (hL : s.l.length ≤ 900) (hk : kd s.l ≠ 0) : tot (clr (needP N 58 (nextP s))) ≤ 899 ∧ (lwS N w t s).st.length ≤ 899 := by
  have n1 := len_nextK hk
  have n2 := len_need (N := N) (c := 58) (s := nextP s)
  have n3 : tot (clr (needP N 58 (nextP s))) ≤ 899 := by
    show 0 + (needP N 58 (nextP s)).l.length ≤ 899
    omega
  exact ⟨n3, st_tot (Nat.le_trans (pP_tot (N := N) (w := w) (d := 0) (s := clr (needP N 58 (nextP s))) (t := t) ht) n3)⟩
theorem lnI_bod {N : Nat} {s : ps} {T : row} (h : lnI T) (hb : s.bad = 0) (hk : kd s.l ≠ 0) (hL : s.l.length ≤ 900) (hg : (bodP N s T).1.bad = 0) : lnI (bodP N s T).2 := by
  have law : ∀ w t, 4 ≤ w → w ≤ 6 → (t = 0 ∨ t = 5) → decide (t = 0) = decide (w = 4) → (lwS N w t s).bad = 0 → lnI (layT w (lwS N w t s).st T) := by
    intro w t h4 h6 ht e hg
    have g := kin_law (N := N) (w := w) (t := t) (s := clr (needP N 58 (nextP s))) ⟨h4, h6⟩ ht rfl hg
    exact lnI_law h h4 h6 (Nat.le_trans (lw_tot (by omega) hL hk).2 (by omega)) g.2.2 e
  unfold bodP at hg ⊢
  by_cases k5 : kd s.l = 5
  · rw [if_pos k5] at hg ⊢
    exact lnI_per h hb hg
  · rw [if_neg k5] at hg ⊢
    by_cases k10 : kd s.l = 10
    · rw [if_pos k10]
      exact lnI_cg h (fun j a b => pk_un (by omega)) (fun j a => pk_un (by omega))
    · rw [if_neg k10] at hg ⊢
      by_cases k7 : kd s.l = 7
      · rw [if_pos k7] at hg ⊢
        exact law 4 0 (by omega) (by omega) (by omega) (by decide) hg
      · rw [if_neg k7] at hg ⊢
        by_cases k8 : kd s.l = 8
        · rw [if_pos k8] at hg ⊢
          exact law 5 5 (by omega) (by omega) (by omega) (by decide) hg
        · rw [if_neg k8] at hg ⊢
          by_cases k9 : kd s.l = 9
          · rw [if_pos k9] at hg ⊢
            exact law 6 5 (by omega) (by omega) (by omega) (by decide) hg
          · rw [if_neg k9] at hg
            exact absurd hg (failP_ne (by decide) hb)
theorem lnI_ln {N : Nat} {s : ps} {T : row} (h : lnI T) (hb : s.bad = 0) (hk : kd s.l ≠ 0) (hL : s.l.length ≤ 900) (hg : (lnP N (s, T)).1.bad = 0) : lnI (lnP N (s, T)).2 := by
  have g := lnI_bod (N := N) h hb hk hL (needP_b hg)
  exact lnI_cg g (fun j a b => pk_un (by omega)) (fun j a => pk_un (by omega))
theorem lnI_op {N : Nat} {f : row} (hg : (opP N f).1.bad = 0) : lnI (opP N f).2 := by
  have g3 : (op3 N f).2.bad = 0 := needP_b hg
  obtain ⟨b2, k2, u0, u1, e3⟩ := numP_ok g3
  have g2 : (op2 N f).2.bad = 0 := b2
  obtain ⟨b1, k1, v0, v1, e2⟩ := numP_ok g2
  have e3 : (op3 N f).1 = tvl (op2 N f).2.l := congrArg Prod.fst e3
  have e2 : (op2 N f).1 = tvl (op1 N f).l := congrArg Prod.fst e2
  rw [← e3] at u0 u1
  rw [← e2] at v0 v1
  have key : ∀ (v : Int32) (m : Int32) (mm : Nat), m.toInt = mm → mm < 100 → 1 ≤ v → v ≤ m → ∃ c, 0 < c ∧ c ≤ mm ∧ v = nI c := by
    intro v m mm em hmm h1 h2
    obtain ⟨j, hj, e⟩ := nI_of2 (M := m) (n := mm) em (Int32.not_lt.mpr (Int32.le_trans (by decide) h1)) h2
    refine ⟨j, ?_, hj, e⟩
    rw [e] at h1
    have := (nI_leI (a := 1) (b := j) (by decide) (by omega)).mp h1
    omega
  obtain ⟨W, hW0, hW, eW⟩ := key _ 4 4 rfl (by omega) v0 v1
  obtain ⟨H, hH0, hH, eH⟩ := key _ 5 5 rfl (by omega) u0 u1
  have x1 : (opP N f).2 1 = nI W := by show upd (opT N f) 0 1 1 = _; rw [pk_un (by omega), opT, pk_un (by omega), pk_us]; exact eW
  have x2 : (opP N f).2 2 = nI H := by show upd (opT N f) 0 1 2 = _; rw [pk_un (by omega), opT, pk_us]; exact eH
  have xo : ∀ j, 3 ≤ j → (opP N f).2 j = 0 := fun j hj => by show upd (opT N f) 0 1 j = _; rw [pk_un (by omega), opT, pk_un (by omega), pk_un (by omega)]
  have yP : kP (opP N f).2 = 0 := by show ((opP N f).2 3).toNatClampNeg = 0; rw [xo 3 (by omega)]; rfl
  have yW : kW (opP N f).2 = W := by show ((opP N f).2 1).toNatClampNeg = W; rw [x1, nI_clamp (by omega)]
  have yH : kH (opP N f).2 = H := by show ((opP N f).2 2).toNatClampNeg = H; rw [x2, nI_clamp (by omega)]
  refine ⟨⟨⟨by rw [yP, xo 3 (by omega)]; rfl, by omega, by rw [yH]; exact x2, by omega, by rw [yW]; exact x1, by omega⟩, Or.inl (xo 4 (by omega)), Or.inl (xo 5 (by omega)), Or.inl (xo 6 (by omega))⟩, ⟨fun p hp => by omega, fun p q hp => by omega, fun p hp => by omega⟩, by omega, by omega, xo 7 (by omega), xo 32 (by omega)⟩
/-- numbers among a text's tokens -/
theorem dv_a : ∀ a : Fin 10, (0 : Int32) ≤ nI (48 + a.val) - 48 ∧ nI (48 + a.val) - 48 ≤ 999 := by decide +kernel
theorem dv_b : ∀ a b : Fin 10, (0 : Int32) ≤ ((nI (48 + a.val) - 48) * 10 + nI (48 + b.val) - 48) - ((nI (48 + a.val) - 48) * 10 + nI (48 + b.val) - 48) / 1000 * 1000 ∧ ((nI (48 + a.val) - 48) * 10 + nI (48 + b.val) - 48) - ((nI (48 + a.val) - 48) * 10 + nI (48 + b.val) - 48) / 1000 * 1000 ≤ 999 := by decide +kernel
theorem dv_c : ∀ a b c : Fin 10, (0 : Int32) ≤ ((((nI (48 + a.val) - 48) * 10 + nI (48 + b.val) - 48) - ((nI (48 + a.val) - 48) * 10 + nI (48 + b.val) - 48) / 1000 * 1000) * 10 + nI (48 + c.val) - 48) - ((((nI (48 + a.val) - 48) * 10 + nI (48 + b.val) - 48) - ((nI (48 + a.val) - 48) * 10 + nI (48 + b.val) - 48) / 1000 * 1000) * 10 + nI (48 + c.val) - 48) / 1000 * 1000 ∧ ((((nI (48 + a.val) - 48) * 10 + nI (48 + b.val) - 48) - ((nI (48 + a.val) - 48) * 10 + nI (48 + b.val) - 48) / 1000 * 1000) * 10 + nI (48 + c.val) - 48) - ((((nI (48 + a.val) - 48) * 10 + nI (48 + b.val) - 48) - ((nI (48 + a.val) - 48) * 10 + nI (48 + b.val) - 48) / 1000 * 1000) * 10 + nI (48 + c.val) - 48) / 1000 * 1000 ≤ 999 := by decide +kernel
theorem dv_ok {f : row} {h m : Nat} (h3 : m < 3) (hd : ∀ j, j < m + 1 → dgt (f (h + j)) = true) : 0 ≤ dv f h m ∧ dv f h m ≤ 999 := by
  obtain ⟨a, ha, ea⟩ := dg_nI (hd 0 (by omega))
  rw [Nat.add_zero] at ea
  rcases (show m = 0 ∨ m = 1 ∨ m = 2 by omega) with rfl | rfl | rfl
  · simp only [dv]
    rw [ea]
    exact dv_a ⟨a, ha⟩
  · obtain ⟨b, hb, eb⟩ := dg_nI (hd 1 (by omega))
    simp only [dv, Nat.add_zero]
    rw [ea, eb]
    exact dv_b ⟨a, ha⟩ ⟨b, hb⟩
  · obtain ⟨b, hb, eb⟩ := dg_nI (hd 1 (by omega))
    obtain ⟨c, hc, ec⟩ := dg_nI (hd 2 (by omega))
    simp only [dv, Nat.add_zero]
    rw [show h + 1 + 1 = h + 2 by omega, ea, eb, ec]
    exact dv_c ⟨a, ha⟩ ⟨b, hb⟩ ⟨c, hc⟩
theorem tkn_v {f : row} {N : Nat} : ∀ (m h : Nat), N - h ≤ m → vOK (tkn f N h) := by
  intro m
  induction m with
  | zero =>
    intro h hm x hx
    rw [tkn, show N - h = 0 by omega, tks] at hx
    cases hx
  | succ m ih =>
    intro h hm
    by_cases c : h < N
    · have g1 : h + 1 ≤ rn ltr f N (h + 1) := rn_ge
      have g2 : h + 1 ≤ rn dgt f N (h + 1) := rn_ge
      by_cases hl : ltr (f h) = true
      · rw [tkn_l c hl]
        intro x hx
        rcases List.mem_cons.mp hx with e | hx
        · intro e2
          rw [e] at e2
          exact absurd e2 (i_lt (wK_ge _).1 (by decide))
        · exact ih _ (by omega) x hx
      · by_cases hd : dgt (f h) = true
        · rw [tkn_d c hl hd]
          intro x hx
          rcases List.mem_cons.mp hx with e | hx
          · intro e2
            rw [e] at e2 ⊢
            by_cases c3 : 3 < rn dgt f N (h + 1) - h
            · have e2 : (if 3 < rn dgt f N (h + 1) - h then (1 : Int32) else 2) = 2 := e2
              rw [if_pos c3] at e2
              exact absurd e2 (by decide)
            · refine dv_ok (by omega) (fun j hj => ?_)
              by_cases e0 : j = 0
              · rw [e0, Nat.add_zero]; exact hd
              · exact rn_all (p := dgt) (f := f) (N := N) (h := h + 1) (j := h + j) (by omega) (by omega)
          · exact ih _ (by omega) x hx
        · by_cases hw : f h = 32 ∨ f h = 10
          · rw [tkn_w c hl hd hw]
            exact ih _ (by omega)
          · rw [tkn_s c hl hd hw]
            intro x hx
            rcases List.mem_cons.mp hx with e | hx
            · intro e2
              rw [e] at e2
              have e2 : (if isSg (f h) = true then f h else 1) = 2 := e2
              split at e2
              · next g => exact absurd e2 (i_lt (sg_ge g) (by decide))
              · exact absurd e2 (by decide)
            · exact ih _ (by omega) x hx
    · intro x hx
      rw [tkn, show N - h = 0 by omega, tks] at hx
      cases hx
theorem vOK_op {N : Nat} {f : row} : vOK (opP N f).1.l := fun x hx => tkn_v (f := f) (N := N) _ 0 (Nat.le_refl _) x (sub_need (sub_num (sub_num (sub_need hx))))
theorem tks_len {f : row} {N : Nat} : ∀ (m h : Nat), (tks f N m h).length ≤ m := by
  intro m
  induction m with
  | zero => intro h; rw [tks]; exact Nat.le_refl _
  | succ m ih =>
    intro h
    rw [tks]
    split
    · split
      · exact Nat.succ_le_succ (ih _)
      · split
        · exact Nat.succ_le_succ (ih _)
        · split
          · exact Nat.le_succ_of_le (ih _)
          · exact Nat.succ_le_succ (ih _)
    · exact Nat.zero_le _
theorem len_op {N : Nat} {f : row} : (opP N f).1.l.length ≤ N := by
  have g : (tkn f N 0).length ≤ N := tks_len (N - 0) 0
  exact Nat.le_trans len_need (Nat.le_trans len_num (Nat.le_trans len_num (Nat.le_trans (len_need (N := N) (c := 4) (s := psm (tkn f N 0) 0 (-1) stM)) g)))
