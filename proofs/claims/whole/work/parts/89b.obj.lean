/-! ===== the two objects side by side ===== -/
/-- what is told is the same -/
def tlE (K K2 : row) : Prop := ∀ j, (j ≤ 6 ∨ (34 ≤ j ∧ j < 59) ∨ 319 ≤ j) → K2 j = K j
theorem tlE.rf {K : row} : tlE K K := fun _ _ => rfl
theorem tlE.tr {K K2 K3 : row} (h : tlE K K2) (h2 : tlE K2 K3) : tlE K K3 := fun j hj => (h2 j hj).trans (h j hj)
theorem tlE.U {K K2 : row} (h : sameU K K2) : tlE K K2 := fun j hj => h j (by omega)
theorem tlE.B {K K2 : row} (h : sameB K K2) : tlE K K2 := fun j hj => h j (by omega)
section TlA
variable {K : row}
theorem tl_keep (h : GK K) : tlE K (keepK K) := tlE.U h.D.U
theorem tl_do {v : Int} (h : GK K) (hv : whyT K v = 0) : tlE K (doK K v) := tlE.B (do_same h.P8 hv)
theorem tl_rise {z : Int} (h : GK K) : tlE K (aRise K z).2 := by
  unfold aRise
  split
  · next hw =>
    have hk := h.keep
    have hw2 : whyR (keepK K) z = 0 := by rw [whyR_U h.D.U h.P8]; exact hw
    obtain ⟨j, h1, -⟩ := whyR_0 hw2
    have h3 := pN_some h1
    have h8 := hk.P8
    exact (tl_keep h).tr (tlE.B (riseK_same hk.P8 (by have : z.toNat = j := by rw [h3.1]; rfl
                                                      omega)))
  · exact tlE.rf
theorem tl_sit {z c : Int} (h : GK K) : tlE K (aSit K z c).2 := by
  unfold aSit
  split
  · next hw =>
    have hk := h.keep
    have hw2 : whyS (keepK K) z c = 0 := by rw [whyS_U h.D.U h.P8]; exact hw
    obtain ⟨j, d, h1, -⟩ := whyS_0 hw2
    have h3 := pN_some h1
    have h8 := hk.P8
    exact (tl_keep h).tr (tlE.B (sitdK_same (by have : z.toNat = j := by rw [h3.1]; rfl
                                                omega)))
  · exact tlE.rf
theorem tl_swap {z c : Int} (h : GK K) : tlE K (aSwap K z c).2 := by
  unfold aSwap
  split
  · next hw =>
    have hk := h.keep
    have hw2 : whyX (keepK K) z c = 0 := by rw [whyX_U h.D.U h.P8]; exact hw
    obtain ⟨j, d, h1, h2, -⟩ := whyX_0 hw2
    have h3 := pN_some h1
    have h4 := pN_some h2
    have h8 := hk.P8
    have e1 : z.toNat = j := by rw [h3.1]; rfl
    have e2 : c.toNat = d := by rw [h4.1]; rfl
    exact (tl_keep h).tr (tlE.B (swapK_same (by omega) (by omega)))
  · exact tlE.rf
theorem tl_min {z : Int} (h : GK K) : tlE K (aMin K z).2.2 := by
  unfold aMin
  split
  · exact tlE.rf
  · exact (tl_keep h).tr (tlE.B (goK_same h.keep.P8))
theorem tl_undo {z : Int} : tlE K (aUndo K z).2.2 := by
  unfold aUndo
  split
  · exact tlE.rf
  · intro j hj
    show setS _ _ j = K j
    unfold setS
    rw [if_neg (by omega), pk_un (by omega)]
theorem tl_pf {f : Nat → Int64} : ∀ {m k : Nat} {K : row}, GK K → tlE K (pfK f m k K).2 := by
  intro m
  induction m with
  | zero => intro k K h; exact tlE.rf
  | succ m ih =>
    intro k K h
    rw [pfK]
    split
    · next hw =>
      have hw2 : whyT (keepK K) (f k).toInt = 0 := by rw [whyT_k h.D.U h.P8]; exact hw
      exact ((tl_keep h).tr (tl_do h.keep hw2)).tr (ih (h.keep.do hw2))
    · exact tlE.rf
theorem tl_perform {g m : row} {Nm : Nat → Int64} {t : Int} (h : GK K) : tlE K (aPerform K g m Nm t).2.2 := by
  unfold aPerform
  split
  · exact tlE.rf
  · exact tl_pf h
theorem tl_af : ∀ {m k : Nat} {s : Int32} {K : row}, GK K → tlE K (afK m s K k).2 := by
  intro m
  induction m with
  | zero => intro k s K h; exact tlE.rf
  | succ m ih =>
    intro k s K h
    rw [afK]
    split
    · next hw =>
      have hw2 : whyT (keepK K) (drD s).1 = 0 := by rw [whyT_k h.D.U h.P8]; exact hw
      exact ((tl_keep h).tr (tl_do h.keep hw2)).tr (ih (h.keep.do hw2))
    · exact ih h
theorem tl_after {s : Int32} {z : Int} (h : GK K) : tlE K (aAfter K s z).2.2 := by
  unfold aAfter
  split
  · exact tlE.rf
  · exact tl_af h
end TlA
theorem BeAt.tl {Γ : gam} {D b : Nat} {ro : Nat → Nat} {σ : sto} {K K2 : row} (h : BeAt Γ D ro σ b K) (e : tlE K K2) (h8 : kP K ≤ 8) : BeAt Γ D ro σ b K2 := by
  obtain ⟨ag, pa, pf, lm, lt, lw, hQ⟩ := h
  have eP : kP K2 = kP K := by show (K2 3).toNatClampNeg = _; rw [e 3 (by omega)]
  refine ⟨ag, pa, pf, lm, lt, lw, hQ.ed ?_ (be1 hQ) (be2 hQ) (be3 hQ) (fun _ _ => rfl) (fun j a1 a2 => e j (by omega)) (fun j a1 => e j (by omega)) (fun p hp => ?_)⟩
  · rw [e 1 (by omega), e 2 (by omega), e 3 (by omega), e 0 (by omega), e 42 (by omega)]
    exact be0 hQ
  · rw [eP] at hp
    rw [e (34 + p) (by omega), e (43 + p) (by omega), e (51 + p) (by omega)]
    exact hQ.2.2.2.2.2.2.2.2 p hp
/-- an image of the class, with its beach -/
def ImI (Γ : gam) (ro : Nat → Nat) (σ : sto) (a x : Nat) (KI : row) : Prop := a + 131 < x ∧ GK KI ∧ ∃ b D, ImT Γ ro σ x b KI ∧ BeAt Γ D ro σ b KI ∧ a + 131 < D ∧ (b = a + 10 ∨ a + 131 < b)
def ClI (Γ : gam) (σ : sto) (a : Nat) (ro : Nat → Nat) (K G : row) (im : Nat → Option Nat) (A : Nat → row) (Nm : Nat → Int64) (KI : Nat → row) : Prop := CoAt Γ ro σ a G im ∧ (∀ q, a ≤ q → q ≤ a + 131 → ro q ≠ 1) ∧ GK K ∧ (∃ b D, StAt Γ ro σ a b K ∧ BeAt Γ D ro σ b K ∧ a + 131 < D ∧ (b = a + 10 ∨ a + 131 < b)) ∧ ScAt Γ ro σ a ∧ TyAt Γ ro σ a (A 14) (A 15) Nm ∧ okT (A 14) (A 15) ∧ σ (a + 1) = some (cI Γ 900 (A 5)) ∧ (∀ j, ∃ c, c < 256 ∧ A 5 j = nI c) ∧ (∃ t, t ≤ 900 ∧ G 1 = nI t) ∧ RdE Γ σ a ∧ TrAt Γ ro σ (a + 72) ∧ (∀ j x, j < 3 → im j = some x → ImI Γ ro σ a x (KI j)) ∧ ∀ i j x y, i < 3 → j < 3 → i ≠ j → im i = some x → im j = some y → x + 57 < y ∨ y + 57 < x
def RfI (Γ : gam) (σ : sto) (r : Nat) (F K G : row) (im : Nat → Option Nat) (A : Nat → row) (Nm : Nat → Int64) (KI : Nat → row) : Prop := MoAt Γ σ r F K A Nm ∧ F 6 = G 1 ∧ F 14 = G 2 ∧ F 15 = G 3 ∧ (∀ j, j < 3 → (A 4 j = 0 ↔ im j = none)) ∧ ∀ j, j < 3 → im j ≠ none → ∀ q, q < 3020 → A 3 (3020 * j + q) = KI j q
section ObFr
variable {Γ : gam} {σ σ1 : sto} {a : Nat} {ro : Nat → Nat} {K G : row} {im : Nat → Option Nat} {A : Nat → row} {Nm : Nat → Int64} {KI : Nat → row} {S : Nat → Prop}
theorem ImI.fs {x : Nat} {X : row} (h : ImI Γ ro σ a x X) (hf : frS Γ ro S σ σ1) (hS : ∀ q, S q → q ≤ a + 131 ∧ (q < a + 10 ∨ a + 13 < q)) : ImI Γ ro σ1 a x X := by
  obtain ⟨h1, h2, b, D, h3, h4, h5, h6⟩ := h
  exact ⟨h1, h2, b, D, h3.fs hf (fun q x1 x2 x3 => by have := hS q x3; omega), h4.fs hf (fun q x1 x3 => by have := hS q x3; omega) (fun q x1 x2 x3 => by have := hS q x3; omega), h5, h6⟩
/-- the law's own cells and the reference's change: the class stands as it was -/
theorem ClI.fs (h : ClI Γ σ a ro K G im A Nm KI) (hf : frS Γ ro S σ σ1) (hS : ∀ q, S q → a + 114 ≤ q ∧ q ≤ a + 131) : ClI Γ σ1 a ro K G im A Nm KI := by
  obtain ⟨h1, h2, h3, ⟨b, D, g1, g2, g3, g4⟩, h5, h6, h7, h8, h9, h10, h11, h12, h13, h14⟩ := h
  refine ⟨h1.fs hf (fun q x1 x3 => by have := hS q x3; omega), h2, h3, ⟨b, D, g1.fs hf (fun q x1 x2 x3 => by have := hS q x3; omega), g2.fs hf (fun q x1 x3 => by have := hS q x3; omega) (fun q x1 x2 x3 => by have := hS q x3; omega), g3, g4⟩, h5.fs (fun q x1 x2 => h2 q x1 (by omega)) hf (fun q x1 x3 => by have := hS q x3; omega), h6.fs hf (fun q x1 x2 x3 => by have := hS q x3; omega), h7, hf.at (fun x3 => by have := hS _ x3; omega) (h2 _ (by omega) (by omega)) h8, h9, h10, h11.fs hf (fun q x1 x2 => h2 q (by omega) (by omega)) (fun q x1 x2 x3 x4 => by have := hS q x4; omega), h12.fs hf (fun q x1 x2 x3 => by have := hS q x3; omega), fun j x hj hx => (h13 j x hj hx).fs hf (fun q x3 => by have := hS q x3; omega), h14⟩
/-- behind a question -/
theorem ClI.q (h : ClI Γ σ a ro K G im A Nm KI) (hc : ScAt Γ ro σ1 a) (hf : frS Γ ro (scr a) σ σ1) : ClI Γ σ1 a ro K G im A Nm KI := by
  obtain ⟨h1, h2, h3, ⟨b, D, g1, g2, g3, g4⟩, h5, h6, h7, h8, h9, h10, h11, h12, h13, h14⟩ := h
  exact ⟨h1.fs hf (fun q x1 x3 => by omega), h2, h3, ⟨b, D, g1.fs hf (fun q x1 x2 x3 => by omega), g2.fs hf (fun q x1 x3 => by omega) (fun q x1 x2 x3 => by omega), g3, g4⟩, hc, h6.fs hf (fun q x1 x2 x3 => by omega), h7, hf.at (fun x3 => by omega) (h2 _ (by omega) (by omega)) h8, h9, h10, h11.fs hf (fun q x1 x2 => h2 q (by omega) (by omega)) (fun q x1 x2 x3 x4 => by omega), h12.fs hf (fun q x1 x2 x3 => by omega), fun j x hj hx => (h13 j x hj hx).fs hf (fun q x3 => by omega), h14⟩
/-- behind a deed -/
theorem ClI.d {K2 : row} {b D : Nat} (h : ClI Γ σ a ro K G im A Nm KI) (hb : BeAt Γ D ro σ b K ∧ a + 131 < D ∧ (b = a + 10 ∨ a + 131 < b)) (hs : StAt Γ ro σ1 a b K2) (hf : frS Γ ro (dS a) σ σ1) (hg : GK K2) (ht : tlE K K2) : ClI Γ σ1 a ro K2 G im A Nm KI := by
  obtain ⟨h1, h2, h3, -, h5, h6, h7, h8, h9, h10, h11, h12, h13, h14⟩ := h
  obtain ⟨g2, g3, g4⟩ := hb
  refine ⟨h1.fs hf (fun q x1 x3 => by omega), h2, hg, ⟨b, D, hs, (g2.tl ht h3.P8).fs hf (fun q x1 x3 => by omega) (fun q x1 x2 x3 => by omega), g3, g4⟩, h5.fs (fun q x1 x2 => h2 q x1 (by omega)) hf (fun q x1 x3 => by omega), h6.fs hf (fun q x1 x2 x3 => by omega), h7, hf.at (fun x3 => by omega) (h2 _ (by omega) (by omega)) h8, h9, h10, h11.fs hf (fun q x1 x2 => h2 q (by omega) (by omega)) (fun q x1 x2 x3 x4 => by omega), h12.fs hf (fun q x1 x2 x3 => by omega), fun j x hj hx => (h13 j x hj hx).fs hf (fun q x3 => by omega), h14⟩
theorem RfI.fs {F : row} (h : RfI Γ σ (a + 114) F K G im A Nm KI) (hr : ∀ q, a ≤ q → q ≤ a + 131 → ro q ≠ 1) (hf : frS Γ ro S σ σ1) (hS : ∀ q, S q → q < a + 114 ∨ a + 130 < q) : RfI Γ σ1 (a + 114) F K G im A Nm KI := ⟨moEq h.1 (fun q x1 x2 => hf.1 q (fun x3 => by have := hS q x3; omega) (hr q (by omega) (by omega))), h.2⟩
end ObFr
