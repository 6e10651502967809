/-! ===== the class: images ===== -/
theorem frS.pt {Γ : gam} {ro : Nat → Nat} {S : Nat → Prop} {σ σ1 : sto} (h : ∀ q, ¬ S q → σ1 q = σ q) : frS Γ ro S σ σ1 := ⟨fun q hq _ => h q hq, fun q hq _ ⟨s, hs⟩ => ⟨s, by rw [h q hq]; exact hs⟩⟩
/-- an image told by K, of the beach at b -/
def ImT (Γ : gam) (ro : Nat → Nat) (σ : sto) (x b : Nat) (K : row) : Prop := (∀ q, x ≤ q → q ≤ x + 57 → ro q = 2) ∧ σ x = some (cO 2 [.ref (x + 1), .ref (x + 6)]) ∧ SeAt Γ ro σ (x + 1) b (K 32) K ∧ ∃ f d, HiAt Γ ro σ (x + 6) b f d K
section ImTs
variable {Γ : gam} {ro ro1 : Nat → Nat} {S : Nat → Prop} {x b n : Nat} {σ σ1 : sto} {K : row}
theorem ImT.fs (h : ImT Γ ro σ x b K) (hf : frS Γ ro S σ σ1) (hS : ∀ q, x ≤ q → q ≤ x + 57 → ¬ S q) : ImT Γ ro σ1 x b K := by
  obtain ⟨h0, h1, h2, f, d, h3⟩ := h
  exact ⟨h0, hf.at (hS _ (by omega) (by omega)) (by rw [h0 x (by omega) (by omega)]; decide) h1, h2.fs hf (fun q x y => hS q (by omega) (by omega)), f, d, h3.fs hf (fun q x y => hS q (by omega) (by omega))⟩
theorem ImT.A (h : ImT Γ ro σ x b K) : ImAt Γ ro σ x := by
  obtain ⟨h0, h1, h2, f, d, h3⟩ := h
  exact ⟨h0, h1, h2.T, h3.hs⟩
theorem ImT.rol (h : ImT Γ ro σ x b K) (hl : ∀ q e, σ q = some e → q < n) (hx : x + 57 < n) (hr : ∀ q, q < n → ro1 q = ro q) : ImT Γ ro1 σ x b K := by
  obtain ⟨h0, h1, h2, f, d, h3⟩ := h
  exact ⟨fun q y z => by rw [hr q (by omega)]; exact h0 q y z, h1, h2.rol hl hr, f, d, h3.rol hl hr⟩
end ImTs
theorem imT_0 {z : Int} {j : Nat} (h : rN 0 3 z = some j) : imT z = 0 := by
  unfold imT
  rw [h]
theorem imT_1 {z : Int} (h : rN 0 3 z = none) : imT z = 1 := by
  unfold imT
  rw [h]
theorem rsT_1 {g : row} {z : Int} (h : rN 0 3 z = none) : rsT g z = 1 := by
  unfold rsT
  rw [h]
theorem rsT_s {g : row} {z : Int} {j : Nat} (h : rN 0 3 z = some j) : rsT g z = if g j = 0 then 2 else 0 := by
  unfold rsT
  rw [h]
