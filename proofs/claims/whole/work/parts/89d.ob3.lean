/-! ===== the two objects behind beach ===== -/
def stl (σ σ1 : sto) : Prop := ∀ q e, σ q = some e → σ1 q = some e
section Stl
variable {Γ : gam} {σ σ1 : sto} {D a b n x : Nat} {ro : Nat → Nat} {K : row} {w m : Int32} {ch co rw bk : row}
theorem SrAt.le (h : SrAt Γ ro σ a b w m ch co rw bk) (hl : stl σ σ1) : SrAt Γ ro σ1 a b w m ch co rw bk := ⟨h.1, hl _ _ h.2.1, hl _ _ h.2.2.1, hl _ _ h.2.2.2.1, hl _ _ h.2.2.2.2.1, hl _ _ h.2.2.2.2.2⟩
theorem SeAt.le (h : SeAt Γ ro σ a b w K) (hl : stl σ σ1) : SeAt Γ ro σ1 a b w K := by
  obtain ⟨ch, co, rw, bk, h1, h2⟩ := h
  exact ⟨ch, co, rw, bk, h1.le hl, h2⟩
theorem TrAt.le (h : TrAt Γ ro σ a) (hl : stl σ σ1) : TrAt Γ ro σ1 a := by
  obtain ⟨b, w, m, ch, co, rw, bk, h1⟩ := h
  exact ⟨b, w, m, ch, co, rw, bk, h1.le hl⟩
theorem LwAt.le {l : Nat} {cs : List Int32} (h : LwAt Γ D ro σ l cs) (hl : stl σ σ1) : LwAt Γ D ro σ1 l cs := by
  obtain ⟨h1, h2, h3, s, h4⟩ := h
  exact ⟨h1, hl _ _ h2, hl _ _ h3, s, hl _ _ h4⟩
theorem LwV.le {mn pl : Nat} {v : Value} (h : LwV Γ D ro σ K mn pl v) (hl : stl σ σ1) : LwV Γ D ro σ1 K mn pl v := by
  rcases h with h | ⟨h1, l, h2, h3⟩
  · exact Or.inl h
  · exact Or.inr ⟨h1, l, h2, h3.le hl⟩
theorem BeAt.le (h : BeAt Γ D ro σ b K) (hl : stl σ σ1) : BeAt Γ D ro σ1 b K := by
  obtain ⟨ag, pa, pf, lm, lt, lw, h1, h2, h3, h4, h5, h6, h7, h8, h9⟩ := h
  exact ⟨ag, pa, pf, lm, lt, lw, h1, hl _ _ h2, hl _ _ h3, hl _ _ h4, hl _ _ h5, h6.le hl, h7.le hl, h8.le hl, h9⟩
theorem HiAt.le {h f d : Nat} (hH : HiAt Γ ro σ h b f d K) (hl : stl σ σ1) : HiAt Γ ro σ1 h b f d K := ⟨hH.1, hH.2.1, hl _ _ hH.2.2.1, hl _ _ hH.2.2.2.1, fun i hi => (hH.2.2.2.2.1 i hi).le hl, fun i hi => (hH.2.2.2.2.2 i hi).le hl⟩
theorem StAt.le (h : StAt Γ ro σ a b K) (hl : stl σ σ1) : StAt Γ ro σ1 a b K := by
  obtain ⟨h1, f, d, h2⟩ := h
  exact ⟨h1.le hl, f, d, h2.le hl⟩
theorem ImI.le {X : row} (h : ImI Γ ro σ a x X) (hl : stl σ σ1) : ImI Γ ro σ1 a x X := by
  obtain ⟨h1, h2, b, D, ⟨h3, h4, h5, f, d, h6⟩, h7, h8⟩ := h
  exact ⟨h1, h2, b, D, ⟨h3, hl _ _ h4, h5.le hl, f, d, h6.le hl⟩, h7.le hl, h8⟩
theorem ScAt.le (h : ScAt Γ ro σ a) (hl : stl σ σ1) : ScAt Γ ro σ1 a := by
  obtain ⟨⟨f5, h5⟩, ⟨f6, h6⟩, ⟨f7, h7⟩, ⟨f8, h8⟩, ⟨f9, h9⟩, t0, t1, t2, t3, t4⟩ := h
  exact ⟨⟨f5, hl _ _ h5⟩, ⟨f6, hl _ _ h6⟩, ⟨f7, hl _ _ h7⟩, ⟨f8, hl _ _ h8⟩, ⟨f9, hl _ _ h9⟩, t0.le hl, t1.le hl, t2.le hl, t3.le hl, t4.le hl⟩
theorem TyAt.le {g m : row} {Nm : Nat → Int64} (h : TyAt Γ ro σ a g m Nm) (hl : stl σ σ1) : TyAt Γ ro σ1 a g m Nm := by
  refine ⟨h.1, fun t ht => ?_⟩
  obtain ⟨h1, fN, h2, h3⟩ := h.2 t ht
  exact ⟨hl _ _ h1, fN, hl _ _ h2, h3⟩
def cutN (n : Nat) (σ σ1 : sto) : sto := fun q => if q < n then σ1 q else σ q
theorem cut_le (hl : ∀ q e, σ q = some e → q < n) : stl (cutN n σ σ1) σ1 := by
  intro q e h
  unfold cutN at h
  split at h
  · exact h
  · next c => exact absurd (hl q e h) c
theorem cut_fr {S S0 : Nat → Prop} (hf : frS Γ ro S σ σ1) (hS : ∀ q, S q → q < n → S0 q) : frS Γ ro S0 σ (cutN n σ σ1) := by
  have e1 : ∀ q, q < n → cutN n σ σ1 q = σ1 q := fun q h => if_pos h
  have e2 : ∀ q, ¬ q < n → cutN n σ σ1 q = σ q := fun q h => if_neg h
  refine ⟨fun q hq hr => ?_, fun q hq hr hs => ?_⟩
  · by_cases c : q < n
    · rw [e1 q c]; exact hf.1 q (fun z => hq (hS q z c)) hr
    · exact e2 q c
  · by_cases c : q < n
    · obtain ⟨s, h⟩ := hf.2 q (fun z => hq (hS q z c)) hr hs
      exact ⟨s, (e1 q c).trans h⟩
    · obtain ⟨s, h⟩ := hs
      exact ⟨s, (e2 q c).trans h⟩
theorem BeAt.tel {T : row} (h : BeAt Γ D ro σ b T) (e : telR K T) (h8 : kP T ≤ 8) : BeAt Γ D ro σ b K := by
  obtain ⟨ag, pa, pf, lm, lt, lw, h1, h2, h3, h4, h5, h6, h7, h9, h10⟩ := h
  have c : ∀ w, 4 ≤ w → w ≤ 6 → codeK K w (lwA w) = codeK T w (lwA w) := fun w x1 x2 => codeK_cg (e.1 w (by omega)) (e.2 w x1 x2)
  have eP : kP K = kP T := by show (K 3).toNatClampNeg = _; rw [e.1 3 (by omega)]
  refine ⟨ag, pa, pf, lm, lt, lw, h1, ?_, h3, h4, h5, h6.cg (fun _ _ => rfl) (e.1 4 (by omega)) (c 4 (by omega) (by omega)), h7.cg (fun _ _ => rfl) (e.1 5 (by omega)) (c 5 (by omega) (by omega)), h9.cg (fun _ _ => rfl) (e.1 6 (by omega)) (c 6 (by omega) (by omega)), fun p hp => ?_⟩
  · rw [e.1 1 (by omega), e.1 2 (by omega), e.1 3 (by omega), e.1 0 (by omega), e.1 42 (by omega)]
    exact h2
  · rw [eP] at hp
    rw [e.1 (34 + p) (by omega), e.1 (43 + p) (by omega), e.1 (51 + p) (by omega)]
    exact h10 p hp
theorem StAt.tel {T : row} (h1 : SeAt Γ ro σ (a + 14) b 0 T) (h2 : HiAt Γ ro σ (a + 19) b 0 0 T) (e : telR K T) (hT : lnI T) : StAt Γ ro σ a b K := by
  refine ⟨h1.eq hT.1.1.2.1 (fun j hj => e.1 j (by omega)) ((e.1 32 (by omega)).trans hT.2.2.2.2.2), 0, 0, h2.1, ⟨by omega, by omega, (e.1 7 (by omega)).trans h2.2.1.2.2⟩, h2.2.2.1, h2.2.2.2.1, h2.2.2.2.2.1, fun i hi => absurd hi (by omega)⟩
end Stl
section ObBe
variable {Γ : gam} {σ σ1 : sto} {a n N : Nat} {ro ro1 : Nat → Nat} {K K2 G G2 : row} {im : Nat → Option Nat} {A A2 : Nat → row} {Nm N2 : Nat → Int64} {KI : Nat → row}
/-- behind a beach that is refused -/
theorem ClI.bad (h : ClI Γ σ a ro K G im A Nm KI) (ha : a + 131 < n) (hl : ∀ q e, σ q = some e → q < n) (hr : ∀ q, q < n → ro1 q = ro q) (c1 : CoAt Γ ro1 σ1 a G2 im) (c2 : G2 1 = 0) (c3 : RdE Γ σ1 a) (c4 : TrAt Γ ro1 σ1 (a + 72)) (hf : frS Γ ro1 (bS a n) σ σ1) (hs : ∀ q, a + 14 ≤ q → q ≤ a + 19 → σ1 q = σ q) : ClI Γ σ1 a ro1 K G2 im A Nm KI := by
  obtain ⟨h1, h2, h3, ⟨b, D, g1, g2, g3, g4⟩, h5, h6, h7, h8, h9, h10, h11, h12, h13, h14⟩ := h.rol ha hl hr
  have f2 : frS Γ ro1 (fun q => q = a ∨ (a + 71 ≤ q ∧ q ≤ a + 80)) σ (cutN n σ σ1) := by
    have f3 := cut_fr (n := n) (S0 := fun q => q = a ∨ (a + 14 ≤ q ∧ q ≤ a + 19) ∨ (a + 71 ≤ q ∧ q ≤ a + 80)) hf (fun q z hq => by unfold bS at z; omega)
    refine ⟨fun q hq hz => ?_, fun q hq hz hk => ?_⟩
    · by_cases c : a + 14 ≤ q ∧ q ≤ a + 19
      · have e : cutN n σ σ1 q = σ1 q := if_pos (by omega)
        rw [e]
        exact hs q c.1 c.2
      · exact f3.1 q (by omega) hz
    · by_cases c : a + 14 ≤ q ∧ q ≤ a + 19
      · exact absurd hz (h2 q (by omega) (by omega))
      · exact f3.2 q (by omega) hz hk
  have l2 := cut_le (σ1 := σ1) hl
  exact ⟨c1, h2, h3, ⟨b, D, (g1.fs f2 (fun q x1 x2 x3 => by omega)).le l2, (g2.fs f2 (fun q x1 x3 => by omega) (fun q x1 x2 x3 => by omega)).le l2, g3, g4⟩, (h5.fs (fun q x1 x2 => h2 q x1 (by omega)) f2 (fun q x1 x3 => by omega)).le l2, (h6.fs f2 (fun q x1 x2 x3 => by omega)).le l2, h7, l2 _ _ (f2.at (fun x3 => by omega) (h2 _ (by omega) (by omega)) h8), h9, ⟨0, by omega, c2⟩, c3, c4, fun j x hj hx => ((h13 j x hj hx).fs f2 (fun q x3 => by omega)).le l2, h14⟩
/-- behind a beach that is taken -/
theorem ClI.gud {T : row} (h : ClI Γ σ a ro K G im A Nm KI) (ha : a + 131 < n) (hl : ∀ q e, σ q = some e → q < n) (hr : ∀ q, q < n → ro1 q = ro q) (c1 : CoAt Γ ro1 σ1 a G2 im) (c2 : G2 1 = 0) (c3 : RdE Γ σ1 a) (c4 : TrAt Γ ro1 σ1 (a + 72)) (hf : frS Γ ro1 (bS a n) σ σ1) (hT : lnI T) (c5 : BeAt Γ (n + 4) ro1 σ1 n T) (c6 : SeAt Γ ro1 σ1 (a + 14) n 0 T) (c7 : HiAt Γ ro1 σ1 (a + 19) n 0 0 T) (ht : telR K2 T) (hz : ∀ j, 3020 ≤ j → K2 j = K j) : ClI Γ σ1 a ro1 K2 G2 im A Nm KI := by
  obtain ⟨h1, h2, h3, -, h5, h6, h7, h8, h9, h10, h11, h12, h13, h14⟩ := h.rol ha hl hr
  have f2 := cut_fr (n := n) (S0 := fun q => q = a ∨ (a + 14 ≤ q ∧ q ≤ a + 19) ∨ (a + 71 ≤ q ∧ q ≤ a + 80)) hf (fun q z hq => by unfold bS at z; omega)
  have l2 := cut_le (σ1 := σ1) hl
  exact ⟨c1, h2, GK.tel ht hT (fun j hj => (hz j hj).trans (h3.2.2.2.2.2 j hj)), ⟨n, n + 4, StAt.tel c6 c7 ht hT, c5.tel ht hT.1.1.2.1, by omega, Or.inr ha⟩, (h5.fs (fun q x1 x2 => h2 q x1 (by omega)) f2 (fun q x1 x3 => by omega)).le l2, (h6.fs f2 (fun q x1 x2 x3 => by omega)).le l2, h7, l2 _ _ (f2.at (fun x3 => by omega) (h2 _ (by omega) (by omega)) h8), h9, ⟨0, by omega, c2⟩, c3, c4, fun j x hj hx => ((h13 j x hj hx).fs f2 (fun q x3 => by omega)).le l2, h14⟩
/-- one for both -/
theorem ClI.bch {v v2 : Int32} {r : Nat} {F : row} {σ0 σ2 : sto} (h : ClI Γ σ a ro K G im A Nm KI) (ha : a + 131 < n) (hl : ∀ q e, σ q = some e → q < n) (hb : bchC Γ ro σ n a N G (A 5) im v σ1) (hR : bchR Γ σ0 r N F K A Nm v2 σ2) : v = v2 ∧ ∃ (ro' : Nat → Nat) (G' F' K' : row) (A' : Nat → row), (∀ q, q < n → ro' q = ro q) ∧ ClI Γ σ1 a ro' K' G' im A' Nm KI ∧ MoAt Γ σ2 r F' K' A' Nm ∧ F' 4 = 0 ∧ F' 6 = G' 1 ∧ F' 14 = G' 2 ∧ F' 15 = G' 3 ∧ A' 3 = A 3 ∧ A' 4 = A 4 ∧ frS Γ ro' (bS a n) σ σ1 ∧ fr r (r + 16) σ0 σ2 := by
  obtain ⟨ro', G', c1, c2, c3, c4, c5, -, c6, c7, c8, c9, c10⟩ := hb
  obtain ⟨F', K', A', r1, r2, r3, r4, r5, r6, -, r7, r8, r9⟩ := hR
  have hA : ∀ X, ClI Γ σ1 a ro' X G' im A Nm KI → ClI Γ σ1 a ro' X G' im A' Nm KI := fun X z => z.cA (r7 5 (by omega)) (r7 14 (by omega)) (r7 15 (by omega))
  by_cases hB : (bchP N (A 5)).1.bad = 0
  · obtain ⟨d1, d2, d3, d4, d5⟩ := c10 hB
    obtain ⟨e1, e2, e3⟩ := r6 hB
    exact ⟨d1.trans e3.symm, ro', G', F', K', A', c1, hA _ (h.gud ha hl c1 c2 c3 c6 c7 c8 d2 d3 d4 d5 e2 r9), r1, r2, r3.trans c3.symm, r4.trans c4.symm, e1.trans ((bch_pl hB).symm.trans c5.symm), r7 3 (by omega), r7 4 (by omega), c8, r8⟩
  · obtain ⟨d1, d2⟩ := c9 hB
    obtain ⟨e1, e2, e3⟩ := r5 hB
    subst e2
    exact ⟨d1.trans e1.symm, ro', G', F', K', A', c1, hA _ (h.bad ha hl c1 c2 c3 c6 c7 c8 d2), r1, r2, r3.trans c3.symm, r4.trans c4.symm, e3.trans c5.symm, r7 3 (by omega), r7 4 (by omega), c8, r8⟩
/-- the reference behind anything that leaves the images -/
theorem RfI.ch {r : Nat} {F F2 : row} (h : RfI Γ σ r F K G im A Nm KI) (hm : MoAt Γ σ1 r F2 K2 A2 N2) (e6 : F2 6 = G2 1) (e14 : F2 14 = G2 2) (e15 : F2 15 = G2 3) (e3 : A2 3 = A 3) (e4 : A2 4 = A 4) : RfI Γ σ1 r F2 K2 G2 im A2 N2 KI := by
  refine ⟨hm, e6, e14, e15, ?_, ?_⟩
  · rw [e4]; exact h.2.2.2.2.1
  · rw [e3]; exact h.2.2.2.2.2
end ObBe
