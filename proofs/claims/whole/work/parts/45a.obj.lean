/-! ===== the class: its own object, frames by a set of cells ===== -/
/-- nothing has changed but the cells of S, and laws' stacks -/
def frS (Γ : gam) (ro : Nat → Nat) (S : Nat → Prop) (σ σ' : sto) : Prop := (∀ q, ¬ S q → ro q ≠ 1 → σ' q = σ q) ∧ ∀ q, ¬ S q → ro q = 1 → stkC Γ σ q → stkC Γ σ' q
section FrS
variable {Γ : gam} {D : Nat} {ro : Nat → Nat} {S S' : Nat → Prop} {lo hi a b l : Nat} {σ σ1 σ2 : sto} {w m : Int32} {K ag pa pf ch co rw bk : row} {lm lt lw : Value} {e : va_E}
theorem frS.rf : frS Γ ro S σ σ := ⟨fun _ _ _ => rfl, fun _ _ _ h => h⟩
theorem frS.tr (h1 : frS Γ ro S σ σ1) (h2 : frS Γ ro S σ1 σ2) : frS Γ ro S σ σ2 := ⟨fun q hq hr => (h2.1 q hq hr).trans (h1.1 q hq hr), fun q hq hr hs => h2.2 q hq hr (h1.2 q hq hr hs)⟩
theorem frS.wk (h : frS Γ ro S σ σ1) (hS : ∀ q, S q → S' q) : frS Γ ro S' σ σ1 := ⟨fun q hq hr => h.1 q (fun z => hq (hS q z)) hr, fun q hq hr hs => h.2 q (fun z => hq (hS q z)) hr hs⟩
theorem frC.toS (h : frC Γ ro lo hi σ σ1) (hS : ∀ q, lo ≤ q → q ≤ hi → S q) : frS Γ ro S σ σ1 := by
  have hq : ∀ q, ¬ S q → q < lo ∨ hi < q := fun q hn => by
    by_cases h1 : q < lo
    · exact Or.inl h1
    · by_cases h2 : hi < q
      · exact Or.inr h2
      · exact absurd (hS q (by omega) (by omega)) hn
  exact ⟨fun q h1 hr => h.1 q (hq q h1) hr, fun q h1 hr hs => h.2 q (hq q h1) hr hs⟩
theorem frS.up (h : frS Γ ro S σ σ1) (ha : S a) : frS Γ ro S σ (sup σ1 a e) := by
  refine ⟨fun q hq hr => ?_, fun q hq hr hs => ?_⟩
  · have : q ≠ a := fun z => hq (by rw [z]; exact ha)
    simp only [sup, if_neg this]
    exact h.1 q hq hr
  · have : q ≠ a := fun z => hq (by rw [z]; exact ha)
    obtain ⟨s, e1⟩ := h.2 q hq hr hs
    exact ⟨s, by simp only [sup, if_neg this]; exact e1⟩
theorem frS.at (h : frS Γ ro S σ σ1) (hq : ¬ S a) (hr : ro a ≠ 1) {x : Option va_E} (hx : σ a = x) : σ1 a = x := (h.1 a hq hr).trans hx
theorem SrAt.fs (h : SrAt Γ ro σ a b w m ch co rw bk) (hf : frS Γ ro S σ σ1) (hS : ∀ q, a ≤ q → q ≤ a + 4 → ¬ S q) : SrAt Γ ro σ1 a b w m ch co rw bk := by
  obtain ⟨⟨r0, r1, r2, r3, r4⟩, h0, h1, h2, h3, h4⟩ := h
  exact ⟨⟨r0, r1, r2, r3, r4⟩, hf.at (hS _ (by omega) (by omega)) r0 h0, hf.at (hS _ (by omega) (by omega)) r1 h1, hf.at (hS _ (by omega) (by omega)) r2 h2, hf.at (hS _ (by omega) (by omega)) r3 h3, hf.at (hS _ (by omega) (by omega)) r4 h4⟩
theorem SeAt.fs (h : SeAt Γ ro σ a b w K) (hf : frS Γ ro S σ σ1) (hS : ∀ q, a ≤ q → q ≤ a + 4 → ¬ S q) : SeAt Γ ro σ1 a b w K := by
  obtain ⟨ch, co, rw, bk, h1, h2⟩ := h
  exact ⟨ch, co, rw, bk, h1.fs hf hS, h2⟩
theorem LwV.fs {mn pl : Nat} {v : Value} (h : LwV Γ D ro σ K mn pl v) (hf : frS Γ ro S σ σ1) (hS : ∀ q, D ≤ q → ¬ S q) : LwV Γ D ro σ1 K mn pl v := by
  rcases h with h | ⟨h1, l, h2, ⟨⟨g1, g2, g3, g4⟩, g5, g6, g7⟩⟩
  · exact Or.inl h
  · exact Or.inr ⟨h1, l, h2, ⟨⟨g1, g2, g3, g4⟩, hf.at (hS _ (by omega)) (by rw [g2]; decide) g5, hf.at (hS _ (by omega)) (by rw [g3]; decide) g6, hf.2 _ (hS _ (by omega)) g4 g7⟩⟩
theorem BrAt.fs (h : BrAt Γ D ro σ b K ag pa pf lm lt lw) (hf : frS Γ ro S σ σ1) (hS : ∀ q, D ≤ q → ¬ S q) (hb : ∀ q, b ≤ q → q ≤ b + 3 → ¬ S q) : BrAt Γ D ro σ1 b K ag pa pf lm lt lw := by
  obtain ⟨⟨r0, r1, r2, r3⟩, h0, h1, h2, h3, h4, h5, h6, h7⟩ := h
  exact ⟨⟨r0, r1, r2, r3⟩, hf.at (hb _ (by omega) (by omega)) (by rw [r0]; decide) h0, hf.at (hb _ (by omega) (by omega)) (by rw [r1]; decide) h1, hf.at (hb _ (by omega) (by omega)) (by rw [r2]; decide) h2, hf.at (hb _ (by omega) (by omega)) (by rw [r3]; decide) h3, h4.fs hf hS, h5.fs hf hS, h6.fs hf hS, h7⟩
theorem BeAt.fs (h : BeAt Γ D ro σ b K) (hf : frS Γ ro S σ σ1) (hS : ∀ q, D ≤ q → ¬ S q) (hb : ∀ q, b ≤ q → q ≤ b + 3 → ¬ S q) : BeAt Γ D ro σ1 b K := by
  obtain ⟨ag, pa, pf, lm, lt, lw, h⟩ := h
  exact ⟨ag, pa, pf, lm, lt, lw, h.fs hf hS hb⟩
/-- seats, whatever they say -/
def TrAt (Γ : gam) (ro : Nat → Nat) (σ : sto) (t : Nat) : Prop := ∃ b w m ch co rw bk, SrAt Γ ro σ t b w m ch co rw bk
theorem TrAt.fs (h : TrAt Γ ro σ a) (hf : frS Γ ro S σ σ1) (hS : ∀ q, a ≤ q → q ≤ a + 4 → ¬ S q) : TrAt Γ ro σ1 a := by
  obtain ⟨b, w, m, ch, co, rw, bk, h⟩ := h
  exact ⟨b, w, m, ch, co, rw, bk, h.fs hf hS⟩
theorem SrAt.T (h : SrAt Γ ro σ a b w m ch co rw bk) : TrAt Γ ro σ a := ⟨b, w, m, ch, co, rw, bk, h⟩
theorem SeAt.T (h : SeAt Γ ro σ a b w K) : TrAt Γ ro σ a := by
  obtain ⟨ch, co, rw, bk, h, -⟩ := h
  exact h.T
end FrS
/-- rows that say the same -/
theorem rS_eq {K K2 ch co rw bk : row} (h : rS K ch co rw bk) (h8 : kP K ≤ 8) (e : ∀ j, (j = 1 ∨ j = 2 ∨ j = 3 ∨ (8 ≤ j ∧ j < 32)) → K2 j = K j) : rS K2 ch co rw bk := by
  have eP : kP K2 = kP K := by simp only [kP, e 3 (by omega)]
  have eH : kH K2 = kH K := by simp only [kH, e 2 (by omega)]
  have eW : kW K2 = kW K := by simp only [kW, e 1 (by omega)]
  have es : ∀ c w, sitK K2 c w = sitK K c w := fun c w => by
    unfold sitK
    rw [eP]
    have key : ∀ m i, i + m ≤ kP K → fnd (fun p => decide (K2 (16 + p) = w ∧ K2 (8 + p) = c ∧ w ≠ -1)) i m = fnd (fun p => decide (K (16 + p) = w ∧ K (8 + p) = c ∧ w ≠ -1)) i m := by
      intro m
      induction m with
      | zero => intro i _; rfl
      | succ m ih =>
        intro i hi
        rw [fnd, fnd, ih (i + 1) (by omega), e (16 + i) (by omega), e (8 + i) (by omega)]
    exact key _ _ (by omega)
  refine ⟨fun p hp => ?_, fun c w hc hw => ?_⟩
  · rw [eP] at hp
    rw [e (8 + p) (by omega), e (16 + p) (by omega), e (24 + p) (by omega)]
    exact h.1 p hp
  · rw [eW] at hc
    rw [eH] at hw
    rw [es]
    exact h.2 c w hc hw
theorem gS_eq {K K2 : row} (h : gS K) (h8 : kP K ≤ 8) (e : ∀ j, (j = 1 ∨ j = 2 ∨ j = 3 ∨ (8 ≤ j ∧ j < 32)) → K2 j = K j) : gS K2 := by
  have eP : kP K2 = kP K := by simp only [kP, e 3 (by omega)]
  have eH : kH K2 = kH K := by simp only [kH, e 2 (by omega)]
  have eW : kW K2 = kW K := by simp only [kW, e 1 (by omega)]
  obtain ⟨h1, h2, h3⟩ := h
  refine ⟨fun p hp => ?_, fun p q hp hq => ?_, fun p hp => ?_⟩
  · rw [eP] at hp
    rw [eW, eH, e (8 + p) (by omega), e (16 + p) (by omega)]
    exact h1 p hp
  · rw [eP] at hp hq
    rw [e (8 + p) (by omega), e (16 + p) (by omega), e (8 + q) (by omega), e (16 + q) (by omega)]
    exact h2 p q hp hq
  · rw [eP] at hp
    rw [e (24 + p) (by omega), e (16 + p) (by omega)]
    exact h3 p hp
/-! the object at a: its cells a .. a + 113 -/
abbrev scr (a q : Nat) : Prop := (a + 5 ≤ q ∧ q ≤ a + 9) ∨ (a + 89 ≤ q ∧ q ≤ a + 113)
def cfs (a : Nat) (G : row) : List Value := [.ref (a + 1), .int (G 1), .int (G 2), .int (G 3), .ref (a + 14), .ref (a + 19), .ref (a + 71), .ref (a + 2), .ref (a + 3), .ref (a + 4), .ref (a + 5), .ref (a + 6), .ref (a + 7), .ref (a + 8), .ref (a + 9), .int (G 15)]
/-- the object, and its rows of trays, images, trials -/
def CoAt (Γ : gam) (ro : Nat → Nat) (σ : sto) (a : Nat) (G : row) (im : Nat → Option Nat) : Prop := (∀ q, a ≤ q → q ≤ a + 113 → ro q ≠ 1) ∧ σ a = some (cO 7 (cfs a G)) ∧ σ (a + 2) = some (cR Γ 4 4 (fun i => some (a + 81 + 2 * i))) ∧ σ (a + 3) = some (cR Γ 5 3 im) ∧ σ (a + 4) = some (cR Γ 3 5 (fun i => some (a + 89 + 5 * i)))
/-- what a call may write as it likes -/
def ScAt (Γ : gam) (ro : Nat → Nat) (σ : sto) (a : Nat) : Prop := (∃ f, σ (a + 5) = some (cI Γ 5 f)) ∧ (∃ f, σ (a + 6) = some (cI Γ 8 f)) ∧ (∃ f, σ (a + 7) = some (cI Γ 60 f)) ∧ (∃ f, σ (a + 8) = some (cI Γ 28 f)) ∧ (∃ f, σ (a + 9) = some (cI Γ 224 f)) ∧ TrAt Γ ro σ (a + 89) ∧ TrAt Γ ro σ (a + 94) ∧ TrAt Γ ro σ (a + 99) ∧ TrAt Γ ro σ (a + 104) ∧ TrAt Γ ro σ (a + 109)
section Obj
variable {Γ : gam} {D : Nat} {ro : Nat → Nat} {S : Nat → Prop} {a b : Nat} {σ σ1 : sto} {G : row} {im : Nat → Option Nat}
theorem co0 (h : CoAt Γ ro σ a G im) : σ a = some (cO 7 (cfs a G)) := h.2.1
theorem co2 (h : CoAt Γ ro σ a G im) : σ (a + 2) = some (cR Γ 4 4 (fun i => some (a + 81 + 2 * i))) := h.2.2.1
theorem co3 (h : CoAt Γ ro σ a G im) : σ (a + 3) = some (cR Γ 5 3 im) := h.2.2.2.1
theorem co4 (h : CoAt Γ ro σ a G im) : σ (a + 4) = some (cR Γ 3 5 (fun i => some (a + 89 + 5 * i))) := h.2.2.2.2
theorem CoAt.fs (h : CoAt Γ ro σ a G im) (hf : frS Γ ro S σ σ1) (hS : ∀ q, (a ≤ q ∧ q ≤ a + 4 ∧ q ≠ a + 1) → ¬ S q) : CoAt Γ ro σ1 a G im := ⟨h.1, hf.at (hS _ (by omega)) (h.1 _ (by omega) (by omega)) (co0 h), hf.at (hS _ (by omega)) (h.1 _ (by omega) (by omega)) (co2 h), hf.at (hS _ (by omega)) (h.1 _ (by omega) (by omega)) (co3 h), hf.at (hS _ (by omega)) (h.1 _ (by omega) (by omega)) (co4 h)⟩
theorem CoAt.setG {G' : row} (h : CoAt Γ ro σ a G im) : CoAt Γ ro (sup σ a (cO 7 (cfs a G'))) a G' im := ⟨h.1, sup_eq, sup_ne (by omega) (co2 h), sup_ne (by omega) (co3 h), sup_ne (by omega) (co4 h)⟩
theorem cf1 {x : Int32} : (cfs a G).set 1 (.int x) = cfs a (upd G 1 x) := rfl
theorem cf2 {x : Int32} : (cfs a G).set 2 (.int x) = cfs a (upd G 2 x) := rfl
theorem cf3 {x : Int32} : (cfs a G).set 3 (.int x) = cfs a (upd G 3 x) := rfl
theorem cf15 {x : Int32} : (cfs a G).set 15 (.int x) = cfs a (upd G 15 x) := rfl
theorem ScAt.t0 (h : ScAt Γ ro σ a) : TrAt Γ ro σ (a + 89) := h.2.2.2.2.2.1
/-- trial 0 alone has changed -/
theorem ScAt.s0 (h : ScAt Γ ro σ a) (hr : ∀ q, a ≤ q → q ≤ a + 113 → ro q ≠ 1) (hf : frC Γ ro (a + 89) (a + 93) σ σ1) (ht : TrAt Γ ro σ1 (a + 89)) : ScAt Γ ro σ1 a := by
  obtain ⟨⟨f1, h1⟩, ⟨f2, h2⟩, ⟨f3, h3⟩, ⟨f4, h4⟩, ⟨f5, h5⟩, h6, h7, h8, h9, h10⟩ := h
  have hs : frS Γ ro (fun q => a + 89 ≤ q ∧ q ≤ a + 93) σ σ1 := hf.toS (fun q x y => ⟨x, y⟩)
  exact ⟨⟨f1, (hf.1 _ (by omega) (hr _ (by omega) (by omega))).trans h1⟩, ⟨f2, (hf.1 _ (by omega) (hr _ (by omega) (by omega))).trans h2⟩, ⟨f3, (hf.1 _ (by omega) (hr _ (by omega) (by omega))).trans h3⟩, ⟨f4, (hf.1 _ (by omega) (hr _ (by omega) (by omega))).trans h4⟩, ⟨f5, (hf.1 _ (by omega) (hr _ (by omega) (by omega))).trans h5⟩, ht, h7.fs hs (fun q x y z => by omega), h8.fs hs (fun q x y z => by omega), h9.fs hs (fun q x y z => by omega), h10.fs hs (fun q x y z => by omega)⟩
theorem ScAt.fs (h : ScAt Γ ro σ a) (hr : ∀ q, a ≤ q → q ≤ a + 113 → ro q ≠ 1) (hf : frS Γ ro S σ σ1) (hS : ∀ q, scr a q → ¬ S q) : ScAt Γ ro σ1 a := by
  obtain ⟨⟨f1, h1⟩, ⟨f2, h2⟩, ⟨f3, h3⟩, ⟨f4, h4⟩, ⟨f5, h5⟩, h6, h7, h8, h9, h10⟩ := h
  exact ⟨⟨f1, hf.at (hS _ (by omega)) (hr _ (by omega) (by omega)) h1⟩, ⟨f2, hf.at (hS _ (by omega)) (hr _ (by omega) (by omega)) h2⟩, ⟨f3, hf.at (hS _ (by omega)) (hr _ (by omega) (by omega)) h3⟩, ⟨f4, hf.at (hS _ (by omega)) (hr _ (by omega) (by omega)) h4⟩, ⟨f5, hf.at (hS _ (by omega)) (hr _ (by omega) (by omega)) h5⟩, h6.fs hf (fun q x y => hS q (by omega)), h7.fs hf (fun q x y => hS q (by omega)), h8.fs hf (fun q x y => hS q (by omega)), h9.fs hf (fun q x y => hS q (by omega)), h10.fs hf (fun q x y => hS q (by omega))⟩
end Obj
/-- the k-th of the throws that a call tells -/
def exL (L : List String) (t : Int32) (x : String) : Prop := ∃ i : Nat, t = nI (i + 1) ∧ L[i]? = some x
