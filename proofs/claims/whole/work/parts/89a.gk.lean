/-! ===== what is known of the row ahead of each call ===== -/
def GK (K : row) : Prop := okB K ∧ gS K ∧ 0 < kH K ∧ setP (K 32) ∧ (∃ d, d ≤ 10 ∧ K 7 = nI d ∧ ∀ i, i < d → gS (setS K (undK K i)) ∧ setP (undK K i 24)) ∧ ∀ j, 3020 ≤ j → K j = 0
theorem GK.D {K : row} (h : GK K) : GD K := by
  obtain ⟨d, h1, h2, -⟩ := h.2.2.2.2.1
  exact ⟨h.1, h.2.1.1, d, h1, h2⟩
theorem GK.P8 {K : row} (h : GK K) : kP K ≤ 8 := h.1.1.2.1
theorem GK.H5 {K : row} (h : GK K) : kH K ≤ 5 := h.1.1.2.2.2.1
/-- a deed upon what sits changes nothing of what is kept -/
theorem GK.sB {K K2 : row} (h : GK K) (hs : sameB K K2) (hg : gS K2) (hp : setP (K2 32)) : GK K2 := by
  obtain ⟨d, h1, h2, h3⟩ := h.2.2.2.2.1
  refine ⟨hs.okB h.1, hg, by rw [hs.H]; exact h.2.2.1, hp, ⟨d, h1, (hs 7 (by omega)).trans h2, fun i hi => ?_⟩, fun j hj => (hs j (by omega)).trans (h.2.2.2.2.2 j hj)⟩
  have eu : undK K2 i = undK K i := funext fun j => hs _ (by omega)
  have es : setS K2 (undK K2 i) = setS K (undK K i) := by
    rw [eu]
    funext j
    unfold setS
    split
    · rfl
    · exact hs j (by omega)
  rw [es, eu]
  exact h3 i hi
theorem GK.min {K : row} (h : GK K) : GK (minK K) := h.sB (minK_same h.P8) (gS_min h.2.1 h.P8 h.H5) (setP_go (m := 1) h.P8 h.2.2.2.1)
theorem GK.go {m : Nat} : ∀ {K : row}, GK K → GK (goK m K) := by
  induction m with
  | zero => intro K h; exact h
  | succ m ih => intro K h; exact ih h.min
theorem do_set {K : row} {v : Int} (h8 : kP K ≤ 8) (h : whyT K v = 0) (hs : setP (K 32)) : setP (doK K v 32) := by
  rcases told_c h with rfl | ⟨j, h1, h2, rfl, h3, -⟩ | ⟨j, d, h1, h2, h3, h4, rfl, -⟩ | ⟨j, d, h1, h2, h3, h4, rfl, -⟩
  · exact setP_go (m := 1) h8 hs
  · rw [do_r h2, rise_hi h8 (by omega) (by omega)]; exact hs
  · rw [do_s h3 h4, sitd_hi (by omega) (by omega)]; exact hs
  · rw [do_x h3 h4, swap_hi (by omega) (by omega) (by omega)]; exact hs
theorem GK.do {K : row} {v : Int} (h : GK K) (hv : whyT K v = 0) : GK (doK K v) := h.sB (do_same h.P8 hv) (gS_do h.2.1 h.P8 h.H5 hv) (do_set h.P8 hv h.2.2.2.1)
theorem setS_cg {K g g2 : row} (h : ∀ j, j < 26 → g2 j = g j) : setS K g2 = setS K g := by
  funext j
  unfold setS
  split
  · next c => exact h _ (by omega)
  · rfl
theorem setS_me {K g : row} (h : ∀ j, j < 26 → g j = K (8 + j)) : setS K g = K := by
  funext j
  unfold setS
  split
  · next c =>
    rw [h _ (by omega)]
    congr 1
    omega
  · rfl
theorem GK.keep {K : row} (h : GK K) : GK (keepK K) := by
  obtain ⟨d, h1, h2, h3⟩ := h.2.2.2.2.1
  have hU := keepK_same h2 h1
  have e7 := keep_7 h2 h1
  have hB := hU.okB h.1
  have eS : ∀ g : row, ∀ j, (j = 1 ∨ j = 2 ∨ j = 3 ∨ (8 ≤ j ∧ j < 32)) → setS (keepK K) g j = setS K g j := by
    intro g j hj
    unfold setS
    split
    · rfl
    · exact hU j (by omega)
  have kS : ∀ g : row, kP (setS K g) ≤ 8 := fun g => by
    show (setS K g 3).toNatClampNeg ≤ 8
    unfold setS
    rw [if_neg (by omega)]
    exact h.P8
  have gK : ∀ g : row, gS (setS K g) → gS (setS (keepK K) g) := fun g hg => gS_eq hg (kS g) (eS g)
  have gM : ∀ g : row, (∀ j, j < 26 → g j = K (8 + j)) → gS (setS (keepK K) g) ∧ setP (g 24) := fun g hg => ⟨gK g (by rw [setS_me hg]; exact h.2.1), by rw [hg 24 (by omega)]; exact h.2.2.2.1⟩
  refine ⟨hB, gS_eq h.2.1 h.P8 (fun j hj => hU j (by omega)), ?_, by rw [hU 32 (by omega)]; exact h.2.2.2.1, ?_, fun j hj => (hU j (by omega)).trans (h.2.2.2.2.2 j hj)⟩
  · show 0 < (keepK K 2).toNatClampNeg
    rw [hU 2 (by omega)]
    exact h.2.2.1
  · by_cases hd : d < 10
    · rw [if_pos hd] at e7
      refine ⟨d + 1, by omega, e7, fun i hi => ?_⟩
      by_cases e : i = d
      · subst e
        exact gM _ (fun j hj => keep_new h2 hd hj)
      · have g := h3 i (by omega)
        exact ⟨by rw [setS_cg (fun j hj => keep_und h2 hd (by omega) hj)]; exact gK _ g.1, by rw [keep_und h2 hd (by omega) (by omega)]; exact g.2⟩
    · have ed : d = 10 := by omega
      subst ed
      rw [if_neg hd] at e7
      refine ⟨10, by omega, e7, fun i hi => ?_⟩
      by_cases e : i = 9
      · subst e
        exact gM _ (fun j hj => keep_new10 h2 hj)
      · have g := h3 (i + 1) (by omega)
        exact ⟨by rw [setS_cg (fun j hj => keep_und10 h2 (by omega) hj)]; exact gK _ g.1, by rw [keep_und10 h2 (by omega) (by omega)]; exact g.2⟩
theorem GK.undo {K : row} {d j : Nat} (h : GK K) (h7 : K 7 = nI d) (hd : d ≤ 10) (hj : 1 ≤ j) (hjd : j ≤ d) : GK (setS (upd K 7 (nI (d - j))) (undK K (d - j))) := by
  obtain ⟨d2, h1, h2, h3⟩ := h.2.2.2.2.1
  have ed : d2 = d := (nI_eq (by omega) (by omega)).mp (h2.symm.trans h7)
  subst ed
  have g := h3 (d2 - j) (by omega)
  obtain ⟨X, eX⟩ : ∃ X, setS (upd K 7 (nI (d2 - j))) (undK K (d2 - j)) = X := ⟨_, rfl⟩
  rw [eX]
  have xo : ∀ q, q ≠ 7 → (q < 8 ∨ 34 ≤ q) → X q = K q := fun q a b => by
    rw [← eX]
    unfold setS
    rw [if_neg (by omega), pk_un a]
  have xs : ∀ q, q ≠ 7 → X q = setS K (undK K (d2 - j)) q := fun q a => by
    rw [← eX]
    unfold setS
    split
    · rfl
    · exact pk_un a
  have x7 : X 7 = nI (d2 - j) := by
    rw [← eX]
    unfold setS
    rw [if_neg (by omega), pk_us]
  have sU : sameU K (setS K (undK K (d2 - j))) ∨ True := Or.inr trivial
  have hP := okP_cg (K := K) (K2 := X) (xo 1 (by omega) (by omega)) (xo 2 (by omega) (by omega)) (xo 3 (by omega) (by omega)) h.1.1
  have kS : kP (setS K (undK K (d2 - j))) ≤ 8 := by
    show (setS K (undK K (d2 - j)) 3).toNatClampNeg ≤ 8
    unfold setS
    rw [if_neg (by omega)]
    exact h.P8
  refine ⟨⟨hP, okL_cg (xo 4 (by omega) (by omega)) (fun q _ => xo _ (by omega) (by omega)) h.1.2.1, okL_cg (xo 5 (by omega) (by omega)) (fun q _ => xo _ (by omega) (by omega)) h.1.2.2.1, okL_cg (xo 6 (by omega) (by omega)) (fun q _ => xo _ (by omega) (by omega)) h.1.2.2.2⟩, gS_eq g.1 kS (fun q hq => xs q (by omega)), ?_, ?_, ⟨d2 - j, by omega, x7, fun i hi => ?_⟩, fun q hq => (xo q (by omega) (by omega)).trans (h.2.2.2.2.2 q hq)⟩
  · show 0 < (X 2).toNatClampNeg
    rw [xo 2 (by omega) (by omega)]
    exact h.2.2.1
  · rw [xs 32 (by omega)]
    unfold setS
    rw [if_pos (by omega)]
    exact g.2
  · have eu : undK X i = undK K i := funext fun q => xo _ (by omega) (by omega)
    have g2 := h3 i (by omega)
    rw [eu]
    refine ⟨gS_eq g2.1 ?_ (fun q hq => ?_), g2.2⟩
    · show (setS K (undK K i) 3).toNatClampNeg ≤ 8
      unfold setS
      rw [if_neg (by omega)]
      exact h.P8
    · unfold setS
      split
      · rfl
      · exact xo q (by omega) (by omega)
/-! the rows behind the answers -/
theorem GK.rise {K : row} {z : Int} (h : GK K) : GK (aRise K z).2 := by
  unfold aRise
  split
  · next hw =>
    have hk := h.keep
    have hw2 : whyR (keepK K) z = 0 := by rw [whyR_U h.D.U h.P8]; exact hw
    obtain ⟨j, h1, h2, -⟩ := whyR_0 hw2
    have h3 := pN_some h1
    have ez : z.toNat = j := by rw [h3.1]; rfl
    show GK (riseK (keepK K) z.toNat (-1)).1
    rw [ez]
    have h8 := hk.P8
    exact hk.sB (riseK_same hk.P8 (by omega)) (gS_rise hk.P8 hk.H5 h3.2 hk.2.1 h2) (by rw [rise_hi hk.P8 (by omega) (by omega)]; exact hk.2.2.2.1)
  · exact h
theorem GK.sit {K : row} {z c : Int} (h : GK K) : GK (aSit K z c).2 := by
  unfold aSit
  split
  · next hw =>
    have hk := h.keep
    have hw2 : whyS (keepK K) z c = 0 := by rw [whyS_U h.D.U h.P8]; exact hw
    obtain ⟨j, d, h1, h2, h3, h4⟩ := whyS_0 hw2
    have g1 := pN_some h1
    have g2 := pN_some h2
    have ez : z.toNat = j := by rw [g1.1]; rfl
    have ec : c.toNat = d := by rw [g2.1]; rfl
    show GK (sitdK (keepK K) z.toNat (nI c.toNat))
    rw [ez, ec]
    have h8 := hk.P8
    cases hf : freeK (keepK K) (nI d) with
    | none => exact absurd hf h4
    | some f => exact hk.sB (sitdK_same (by omega)) (gS_sd hk.P8 hk.H5 g1.2 hk.2.1 g2.2 hf) (by rw [sitd_hi (by omega) (by omega)]; exact hk.2.2.2.1)
  · exact h
theorem GK.swap {K : row} {z c : Int} (h : GK K) : GK (aSwap K z c).2 := by
  unfold aSwap
  split
  · next hw =>
    have hk := h.keep
    have hw2 : whyX (keepK K) z c = 0 := by rw [whyX_U h.D.U h.P8]; exact hw
    obtain ⟨j, d, h1, h2, h3, h4, h5⟩ := whyX_0 hw2
    have g1 := pN_some h1
    have g2 := pN_some h2
    have ez : z.toNat = j := by rw [g1.1]; rfl
    have ec : c.toNat = d := by rw [g2.1]; rfl
    show GK (swapK (keepK K) z.toNat c.toNat)
    rw [ez, ec]
    have h8 := hk.P8
    exact hk.sB (swapK_same (by omega) (by omega)) (gS_sw hk.P8 g1.2 g2.2 hk.2.1 h4 h5) (by rw [swap_hi (by omega) (by omega) (by omega)]; exact hk.2.2.2.1)
  · exact h
theorem GK.mins {K : row} {z : Int} (h : GK K) : GK (aMin K z).2.2 := by
  unfold aMin
  split
  · exact h
  · exact h.keep.go
theorem GK.undoA {K : row} {z : Int} (h : GK K) : GK (aUndo K z).2.2 := by
  obtain ⟨d, h1, h2, -⟩ := h.2.2.2.2.1
  have ed : kD K = d := by show (K 7).toNatClampNeg = d; rw [h2, nI_clamp (by omega)]
  unfold aUndo
  split
  · exact h
  · next j hj =>
    have g := rN_some hj
    rw [ed] at g
    show GK (setS (upd K 7 (nI (kD K - j))) (undK K (kD K - j)))
    rw [ed]
    exact h.undo h2 h1 (by omega) (by omega)
theorem whyT_k {K K2 : row} (h : sameU K K2) (h8 : kP K ≤ 8) (v : Int) : whyT K2 v = whyT K v := by
  unfold whyT
  rw [whyR_U h h8, whyS_U h h8, whyX_U h h8]
theorem GK.pf {f : Nat → Int64} : ∀ {m k : Nat} {K : row}, GK K → GK (pfK f m k K).2 := by
  intro m
  induction m with
  | zero => intro k K h; exact h
  | succ m ih =>
    intro k K h
    rw [pfK]
    split
    · next hw => exact ih (h.keep.do (by rw [whyT_k h.D.U h.P8]; exact hw))
    · exact h
theorem GK.perform {K g m : row} {Nm : Nat → Int64} {t : Int} (h : GK K) : GK (aPerform K g m Nm t).2.2 := by
  unfold aPerform
  split
  · exact h
  · exact GK.pf h
theorem GK.af : ∀ {m k : Nat} {s : Int32} {K : row}, GK K → GK (afK m s K k).2 := by
  intro m
  induction m with
  | zero => intro k s K h; exact h
  | succ m ih =>
    intro k s K h
    rw [afK]
    split
    · next hw => exact ih (h.keep.do (by rw [whyT_k h.D.U h.P8]; exact hw))
    · exact ih h
theorem GK.after {K : row} {s : Int32} {z : Int} (h : GK K) : GK (aAfter K s z).2.2 := by
  unfold aAfter
  split
  · exact h
  · exact GK.af h
/-- a text's row, as the reference keeps it -/
theorem GK.tel {K T : row} (hT : telR K T) (h : lnI T) (ht : ∀ j, 3020 ≤ j → K j = 0) : GK K := by
  obtain ⟨⟨hP, l4, l5, l6⟩, hg, hH, hW, h7, h32⟩ := h
  have c : ∀ w, 4 ≤ w → w ≤ 6 → ∀ j, j < (T w).toNatClampNeg → K (lwA w + j) = T (lwA w + j) := hT.2
  refine ⟨⟨okP_cg (hT.1 1 (by omega)) (hT.1 2 (by omega)) (hT.1 3 (by omega)) hP, okL_cg (hT.1 4 (by omega)) (c 4 (by omega) (by omega)) l4, okL_cg (hT.1 5 (by omega)) (c 5 (by omega) (by omega)) l5, okL_cg (hT.1 6 (by omega)) (c 6 (by omega) (by omega)) l6⟩, gS_cg hg (hT.1 1 (by omega)) (hT.1 2 (by omega)) (hT.1 3 (by omega)) hP.2.1 (fun j a b => hT.1 j (by omega)), ?_, ?_, ⟨0, by omega, by rw [hT.1 7 (by omega), h7]; rfl, fun i hi => absurd hi (by omega)⟩, ht⟩
  · show 0 < (K 2).toNatClampNeg
    rw [hT.1 2 (by omega)]
    exact hH
  · rw [hT.1 32 (by omega), h32]
    exact setP_0
theorem GK.k00 : GK K00 := by
  have e1 : K00 1 = 1 := rfl
  have e2 : K00 2 = 1 := rfl
  have eo : ∀ j, 3 ≤ j → K00 j = 0 := fun j hj => by
    unfold K00
    rw [pk_un (by omega), pk_un (by omega)]
  have eP : kP K00 = 0 := rfl
  refine ⟨⟨⟨rfl, by omega, rfl, by decide, rfl, by decide⟩, Or.inl rfl, Or.inl rfl, Or.inl rfl⟩, ⟨fun p hp => by omega, fun p q hp => by omega, fun p hp => by omega⟩, by decide, ?_, ⟨0, by omega, rfl, fun i hi => absurd hi (by omega)⟩, fun j hj => eo j (by omega)⟩
  rw [eo 32 (by omega)]
  exact setP_0
