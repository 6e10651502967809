/-! ===== the reference: laws that are read ===== -/
def lwA (w : Nat) : Nat := if w = 4 then 319 else if w = 5 then 1219 else 2119
def rsR (F A2 : row) (w d : Nat) (s : ps) : Prop := F 17 = nI w ∧ F 18 = nI (lwA w) ∧ F 16 = nI d ∧ (s.bad = 0 → A2 w = nI s.st.length ∧ ∀ j, j < s.st.length → A2 (lwA w + j) = s.st.getD j 0)
def RfP (Γ : gam) (z0 : sto) (r N w d : Nat) (F K : row) (A : Nat → row) (Nm : Nat → Int64) (s2 : ps) (σ : sto) : Prop := ∃ (F' : row) (A' : Nat → row), MoAt Γ σ r F' K A' Nm ∧ rfR (A 5) N F' s2 ∧ rsR F' (A' 2) w d s2 ∧ (∀ j, (j < 8 ∨ 13 < j) → j ≠ 16 → F' j = F j) ∧ (∀ i, i ≠ 2 → A' i = A i) ∧ (∀ j, j ≠ w → (j < lwA w ∨ lwA w + 900 ≤ j) → A' 2 j = A 2 j) ∧ fr r (r + 16) z0 σ
theorem lwA_b {w : Nat} : 319 ≤ lwA w ∧ lwA w ≤ 2119 := by
  unfold lwA
  (repeat' split) <;> omega
section RfPs
variable {Γ : gam} {z0 z1 σ : sto} {r N w d : Nat} {F F1 K : row} {A A1 : Nat → row} {Nm : Nat → Int64} {s s2 : ps}
theorem RfP.rf (hM : MoAt Γ z0 r F K A Nm) (hS : rfR (A 5) N F s) (hW : rsR F (A 2) w d s) : RfP Γ z0 r N w d F K A Nm s z0 := ⟨F, A, hM, hS, hW, fun _ _ _ => rfl, fun _ _ => rfl, fun _ _ _ => rfl, fr.rf⟩
/-- one call behind another -/
theorem RfP.tr (hF : ∀ j, (j < 8 ∨ 13 < j) → j ≠ 16 → F1 j = F j) (hA : ∀ i, i ≠ 2 → A1 i = A i) (hA2 : ∀ j, j ≠ w → (j < lwA w ∨ lwA w + 900 ≤ j) → A1 2 j = A 2 j) (hf : fr r (r + 16) z0 z1) (h : RfP Γ z1 r N w d F1 K A1 Nm s2 σ) : RfP Γ z0 r N w d F K A Nm s2 σ := by
  obtain ⟨F', A', h1, h2, h3, h4, h5, h6, h7⟩ := h
  rw [hA 5 (by decide)] at h2
  exact ⟨F', A', h1, h2, h3, fun j hj h16 => (h4 j hj h16).trans (hF j hj h16), fun i hi => (h5 i hi).trans (hA i hi), fun j hj hr => (h6 j hj hr).trans (hA2 j hj hr), hf.tr h7⟩
end RfPs
