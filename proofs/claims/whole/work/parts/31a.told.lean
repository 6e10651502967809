/-! ===== told deeds ===== -/
theorem sit_U {K K2 : row} (h : sameU K K2) (h8 : kP K ≤ 8) (c w : Int32) : sitK K2 c w = sitK K c w := by
  unfold sitK
  rw [h.P]
  have key : ∀ {m i : Nat}, i + m ≤ kP K → fnd (fun p => decide (K2 (16 + p) = w ∧ K2 (8 + p) = c ∧ w ≠ -1)) i m = fnd (fun p => decide (K (16 + p) = w ∧ K (8 + p) = c ∧ w ≠ -1)) i m := by
    intro m
    induction m with
    | zero => intros; rfl
    | succ m ih =>
      intro i hi
      rw [fnd, fnd, ih (by omega)]
      simp only [h (16 + i) (by omega), h (8 + i) (by omega)]
  exact key (by omega)
theorem last_U {K K2 : row} (h : sameU K K2) (h8 : kP K ≤ 8) (c : Int32) : ∀ m, lastF K2 c m = lastF K c m
  | 0 => rfl
  | m + 1 => by rw [lastF, lastF, sit_U h h8, last_U h h8 c m]
theorem free_U {K K2 : row} (h : sameU K K2) (h8 : kP K ≤ 8) (c : Int32) : freeK K2 c = freeK K c := by rw [freeK, freeK, h.H, last_U h h8]
theorem asl_U {K K2 : row} (h : sameU K K2) (p : Nat) : aslK K2 p = aslK K p := by simp only [aslK, h 42 (by omega)]
theorem whyR_U {K K2 : row} (h : sameU K K2) (h8 : kP K ≤ 8) (z : Int) : whyR K2 z = whyR K z := by
  unfold whyR
  rw [h.P]
  cases hz : pN (kP K) z with
  | none => rfl
  | some j =>
    have hj := (pN_some hz).2
    simp only [h (16 + j) (by omega), asl_U h j]
theorem whyS_U {K K2 : row} (h : sameU K K2) (h8 : kP K ≤ 8) (z c : Int) : whyS K2 z c = whyS K z c := by
  unfold whyS
  rw [h.P, h.W]
  cases hz : pN (kP K) z with
  | none => rfl
  | some j =>
    have hj := (pN_some hz).2
    cases hc : pN (kW K) c with
    | none => rfl
    | some d => simp only [h (16 + j) (by omega), free_U h h8]
theorem whyX_U {K K2 : row} (h : sameU K K2) (h8 : kP K ≤ 8) (z c : Int) : whyX K2 z c = whyX K z c := by
  unfold whyX
  rw [h.P]
  cases hz : pN (kP K) z with
  | none => rfl
  | some j =>
    have hj := (pN_some hz).2
    cases hc : pN (kP K) c with
    | none => rfl
    | some d =>
      have hd := (pN_some hc).2
      simp only [h (16 + j) (by omega), h (16 + d) (by omega)]
def whyT (K : row) (v : Int) : Int32 := if v = -1 then 0 else if 0 ≤ v ∧ v ≤ 9 then whyR K v else if 100 ≤ v ∧ v ≤ 199 then whyS K ((v - 100) / 10) (v % 10) else if 200 ≤ v ∧ v ≤ 299 then whyX K ((v - 200) / 10) (v % 10) else 1
theorem whyT_U {K K2 : row} (h : sameU K K2) (h8 : kP K ≤ 8) (v : Int) : whyT K2 v = whyT K v := by
  unfold whyT
  rw [whyR_U h h8, whyS_U h h8, whyX_U h h8]
def doK (K : row) (v : Int) : row := if v = -1 then minK K else if v < 10 then (riseK K v.toNat (-1)).1 else if v < 200 then sitdK K ((v - 100) / 10).toNat (nI (v % 10).toNat) else swapK K ((v - 200) / 10).toNat (v % 10).toNat
/-- the deeds that may be told: a minute, one rises, one sits down, two swap -/
theorem told_c {K : row} {v : Int} (h : whyT K v = 0) : v = -1 ∨ (∃ j, j < kP K ∧ j < 10 ∧ v = (j : Int) ∧ K (16 + j) ≠ -1 ∧ aslK K j = false) ∨ (∃ j d, j < kP K ∧ d < kW K ∧ j < 10 ∧ d < 10 ∧ v = 100 + 10 * (j : Int) + d ∧ K (16 + j) = -1 ∧ freeK K (nI d) ≠ none) ∨ (∃ j d, j < kP K ∧ d < kP K ∧ j < 10 ∧ d < 10 ∧ v = 200 + 10 * (j : Int) + d ∧ j ≠ d ∧ K (16 + j) ≠ -1 ∧ K (16 + d) ≠ -1) := by
  unfold whyT at h
  split at h
  · exact Or.inl ‹_›
  · refine Or.inr ?_
    split at h
    · rename_i h1
      obtain ⟨j, e1, e2, e3⟩ := whyR_0 h
      have := pN_some e1
      exact Or.inl ⟨j, this.2, by omega, this.1, e2, e3⟩
    · refine Or.inr ?_
      split at h
      · rename_i h1
        obtain ⟨j, d, e1, e2, e3, e4⟩ := whyS_0 h
        have g1 := pN_some e1
        have g2 := pN_some e2
        exact Or.inl ⟨j, d, g1.2, g2.2, by omega, by omega, by omega, e3, e4⟩
      · split at h
        · rename_i h1
          obtain ⟨j, d, e1, e2, e3, e4, e5⟩ := whyX_0 h
          have g1 := pN_some e1
          have g2 := pN_some e2
          exact Or.inr ⟨j, d, g1.2, g2.2, by omega, by omega, by omega, e3, e4, e5⟩
        · cases h
theorem do_m {K : row} : doK K (-1) = minK K := rfl
theorem do_r {K : row} {j : Nat} (hj : j < 10) : doK K (j : Int) = (riseK K j (-1)).1 := by
  rw [doK, if_neg (by omega), if_pos (by omega)]
  rfl
theorem do_s {K : row} {j d : Nat} (hj : j < 10) (hd : d < 10) : doK K (100 + 10 * (j : Int) + d) = sitdK K j (nI d) := by
  rw [doK, if_neg (by omega), if_neg (by omega), if_pos (by omega), show ((100 + 10 * (j : Int) + d - 100) / 10).toNat = j by omega, show ((100 + 10 * (j : Int) + d) % 10).toNat = d by omega]
theorem do_x {K : row} {j d : Nat} (hj : j < 10) (hd : d < 10) : doK K (200 + 10 * (j : Int) + d) = swapK K j d := by
  rw [doK, if_neg (by omega), if_neg (by omega), if_neg (by omega), show ((200 + 10 * (j : Int) + d - 200) / 10).toNat = j by omega, show ((200 + 10 * (j : Int) + d) % 10).toNat = d by omega]
theorem do_same {K : row} {v : Int} (h8 : kP K ≤ 8) (h : whyT K v = 0) : sameB K (doK K v) := by
  rcases told_c h with rfl | ⟨j, h1, h2, rfl, -⟩ | ⟨j, d, h1, h2, h3, h4, rfl, -⟩ | ⟨j, d, h1, h2, h3, h4, rfl, -⟩
  · exact minK_same h8
  · rw [do_r h2]; exact riseK_same h8 (by omega)
  · rw [do_s h3 h4]; exact sitdK_same (by omega)
  · rw [do_x h3 h4]; exact swapK_same (by omega) (by omega)
theorem vS_do {K : row} {v : Int} (hv : vS K) (h8 : kP K ≤ 8) (h5 : kH K ≤ 5) (h : whyT K v = 0) : vS (doK K v) := by
  rcases told_c h with rfl | ⟨j, h1, h2, rfl, h3, -⟩ | ⟨j, d, h1, h2, h3, h4, rfl, -⟩ | ⟨j, d, h1, h2, h3, h4, rfl, -⟩
  · exact vS_min hv h8 h5
  · rw [do_r h2]; exact vS_rise hv h1 h8 h5 h3
  · rw [do_s h3 h4]; exact vS_sitd hv h1 h8 h2
  · rw [do_x h3 h4]; exact vS_swap hv h1 h2 h8
/-- so much is known of the row ahead of each call -/
def GD (K : row) : Prop := okB K ∧ vS K ∧ ∃ d, d ≤ 10 ∧ K 7 = nI d
theorem GD.same {K K2 : row} (h : GD K) (hs : sameB K K2) (hv : vS K2) : GD K2 := by
  obtain ⟨h1, -, d, h3, h4⟩ := h
  exact ⟨hs.okB h1, hv, d, h3, by rw [hs 7 (by omega)]; exact h4⟩
theorem GD.keep {K : row} (h : GD K) : GD (keepK K) := by
  obtain ⟨h1, h2, d, h3, h4⟩ := h
  have hU := keepK_same h4 h3
  obtain ⟨d2, g1, g2, g3⟩ := keepA_d h4 h3
  exact ⟨hU.okB h1, hU.vS h2 h1.1.2.1, d2 + 1, by omega, by rw [keepK, pk_us, g2, nI_1]⟩
theorem GD.U {K : row} (h : GD K) : sameU K (keepK K) := by
  obtain ⟨h1, h2, d, h3, h4⟩ := h
  exact keepK_same h4 h3
theorem GD.deed {K : row} {v : Int} (h : GD K) (hw : whyT K v = 0) : GD (doK K v) := h.same (do_same h.1.1.2.1 hw) (vS_do h.2.1 h.1.1.2.1 h.1.1.2.2.2.1 hw)
/-- deeds told in a row: the first that can't be, why, and what stands then -/
def jdK (f : Nat → Int64) : Nat → Nat → row → Int32 × Int32 × row
  | 0, _, K => (-1, 0, K)
  | m + 1, k, K => if whyT K (f k).toInt = 0 then jdK f m (k + 1) (doK K (f k).toInt) else (nI k, whyT K (f k).toInt, K)
theorem jd_step {f : Nat → Int64} {P i : Nat} {K : row} (h : i < P) : jdK f (P - i) i K = if whyT K (f i).toInt = 0 then jdK f (P - (i + 1)) (i + 1) (doK K (f i).toInt) else (nI i, whyT K (f i).toInt, K) := by
  rw [show P - i = (P - (i + 1)) + 1 by omega, jdK]
def pfK (f : Nat → Int64) : Nat → Nat → row → Nat × row
  | 0, k, K => (k, K)
  | m + 1, k, K => if whyT K (f k).toInt = 0 then pfK f m (k + 1) (doK (keepK K) (f k).toInt) else (k, K)
theorem pf_step {f : Nat → Int64} {P i : Nat} {K : row} (h : i < P) : pfK f (P - i) i K = if whyT K (f i).toInt = 0 then pfK f (P - (i + 1)) (i + 1) (doK (keepK K) (f i).toInt) else (i, K) := by
  rw [show P - i = (P - (i + 1)) + 1 by omega, pfK]
/-- draws -/
def drS (s : Int32) : Int32 := 1103515245 * s + 12345
def drV (s : Int32) : Nat := s.toBitVec.toNat / 65536
/-- the next deed that is drawn, and the draws' state behind it -/
def drD (s : Int32) : Int × Int32 :=
  let a := drS s
  if drV a % 5 < 2 then (-1, a)
  else
    let b := drS a
    if drV a % 5 = 2 then ((drV b % 8 : Nat), b)
    else
      let c := drS b
      if drV a % 5 = 3 then (100 + 10 * ((drV b % 8 : Nat) : Int) + ((drV c % 4 : Nat) : Int), c) else (200 + 10 * ((drV b % 8 : Nat) : Int) + ((drV c % 8 : Nat) : Int), c)
def afK : Nat → Int32 → row → Nat → Nat × row
  | 0, _, K, k => (k, K)
  | m + 1, s, K, k => if whyT K (drD s).1 = 0 then afK m (drD s).2 (doK (keepK K) (drD s).1) (k + 1) else afK m (drD s).2 K k
theorem af_step {P i : Nat} {s : Int32} {K : row} {k : Nat} (h : i < P) : afK (P - i) s K k = if whyT K (drD s).1 = 0 then afK (P - (i + 1)) (drD s).2 (doK (keepK K) (drD s).1) (k + 1) else afK (P - (i + 1)) (drD s).2 K k := by
  rw [show P - i = (P - (i + 1)) + 1 by omega, afK]
/-- a tray's fault: sorts g -/
def tyF (g : row) (t : Int) : Int32 := match pN 4 t with
  | none => 1
  | some j => if g j = -1 then 2 else 0
/-- trays hold at most 30 numbers, of sorts -1 .. 3 -/
def okT (g m : row) : Prop := ∀ t, t < 4 → (∃ M, M ≤ 30 ∧ m t = nI M) ∧ (g t = -1 ∨ ∃ s, s < 4 ∧ g t = nI s)
def aJudge (K g m : row) (Nm : Nat → Int64) (t : Int) (z : Int32) : Int32 × Int32 :=
  if tyF g t ≠ 0 then (tyF g t, 0) else match rN 0 4 z.toInt with
    | none => (3, 0)
    | some _ =>
      let x := jdK (fun k => Nm (30 * t.toNat + k)) (m t.toNat).toNatClampNeg 0 K
      (0, if z = 0 then x.1 else if z = 1 then x.2.1 else if z = 2 then frontK x.2.2 else x.2.2 33)
def aPerform (K g m : row) (Nm : Nat → Int64) (t : Int) : Int32 × Int32 × row :=
  if tyF g t ≠ 0 then (tyF g t, 0, K) else
    let x := pfK (fun k => Nm (30 * t.toNat + k)) (m t.toNat).toNatClampNeg 0 K
    (0, nI x.1, x.2)
def aAfter (K : row) (s : Int32) (z : Int) : Int32 × Int32 × row := match rN 1 31 z with
  | none => (1, 0, K)
  | some j => (0, nI (afK j s K 0).1, (afK j s K 0).2)
