/-! ===== the class: a new object ===== -/
def FcA (Γ : gam) (σ : sto) (a : Nat) (x4 x5 x6 : Value) (tr tl : Nat → Option Nat) : Prop := σ a = some (cO 7 [.ref (a + 1), .int 0, .int 0, .int (-1), x4, x5, x6, .ref (a + 2), .ref (a + 3), .ref (a + 4), .ref (a + 5), .ref (a + 6), .ref (a + 7), .ref (a + 8), .ref (a + 9), .int 0]) ∧ σ (a + 1) = some (cI Γ 900 (fun _ => 0)) ∧ σ (a + 2) = some (cR Γ 4 4 tr) ∧ σ (a + 3) = some (cR Γ 5 3 (fun _ => none)) ∧ σ (a + 4) = some (cR Γ 3 5 tl) ∧ σ (a + 5) = some (cI Γ 5 (fun _ => 0)) ∧ σ (a + 6) = some (cI Γ 8 (fun _ => 0)) ∧ σ (a + 7) = some (cI Γ 60 (fun _ => 0)) ∧ σ (a + 8) = some (cI Γ 28 (fun _ => 0)) ∧ σ (a + 9) = some (cI Γ 224 (fun _ => 0))
def NbAt (Γ : gam) (σ : sto) (x : Nat) : Prop := σ x = some (cO 0 [.int 1, .int 1, .int 0, .int 0, .int 0, .ref (x + 1), .ref (x + 2), .ref (x + 3), .null, .null, .null]) ∧ σ (x + 1) = some (cI Γ 8 (fun _ => 0)) ∧ (∃ f, σ (x + 2) = some (cI Γ 8 f) ∧ ∀ j, j < 8 → f j = -1) ∧ ∃ f, σ (x + 3) = some (cI Γ 8 f) ∧ ∀ j, j < 8 → f j = -1
def NrAt (Γ : gam) (σ : sto) (x n b m : Nat) : Prop := σ x = some (cO 4 [.ref n, .ref (n + 1), .ref (n + 2), .ref (n + 3), .int 0, .int 0, .int 0, .int 8, .ref b, .ref m, .int 0, .int (-1)]) ∧ σ n = some (cI Γ 901 (fun _ => 0)) ∧ σ (n + 1) = some (cI Γ 901 (fun _ => 0)) ∧ σ (n + 2) = some (cI Γ 901 (fun _ => 0)) ∧ σ (n + 3) = some (cI Γ 900 (fun _ => 0))
def NtAt (Γ : gam) (σ : sto) (x : Nat) : Prop := σ x = some (cO 6 [.int (-1), .int 0, .ref (x + 1)]) ∧ σ (x + 1) = some (cJ Γ 30 (fun _ => 0))
section New
variable {Γ : gam} {σ σ1 : sto} {a x n b m : Nat} {x4 x5 x6 : Value} {tr tl : Nat → Option Nat}
theorem FcA.kp (h : FcA Γ σ a x4 x5 x6 tr tl) (hq : ∀ q, a ≤ q → q ≤ a + 9 → σ1 q = σ q) : FcA Γ σ1 a x4 x5 x6 tr tl := by
  obtain ⟨h0, h1, h2, h3, h4, h5, h6, h7, h8, h9⟩ := h
  exact ⟨(hq _ (by omega) (by omega)).trans h0, (hq _ (by omega) (by omega)).trans h1, (hq _ (by omega) (by omega)).trans h2, (hq _ (by omega) (by omega)).trans h3, (hq _ (by omega) (by omega)).trans h4, (hq _ (by omega) (by omega)).trans h5, (hq _ (by omega) (by omega)).trans h6, (hq _ (by omega) (by omega)).trans h7, (hq _ (by omega) (by omega)).trans h8, (hq _ (by omega) (by omega)).trans h9⟩
theorem FcA.put (h : FcA Γ σ a x4 x5 x6 tr tl) {y4 y5 y6 : Value} (h0 : σ1 a = some (cO 7 [.ref (a + 1), .int 0, .int 0, .int (-1), y4, y5, y6, .ref (a + 2), .ref (a + 3), .ref (a + 4), .ref (a + 5), .ref (a + 6), .ref (a + 7), .ref (a + 8), .ref (a + 9), .int 0])) (hq : ∀ q, a < q → q ≤ a + 9 → σ1 q = σ q) : FcA Γ σ1 a y4 y5 y6 tr tl := by
  obtain ⟨-, h1, h2, h3, h4, h5, h6, h7, h8, h9⟩ := h
  exact ⟨h0, (hq _ (by omega) (by omega)).trans h1, (hq _ (by omega) (by omega)).trans h2, (hq _ (by omega) (by omega)).trans h3, (hq _ (by omega) (by omega)).trans h4, (hq _ (by omega) (by omega)).trans h5, (hq _ (by omega) (by omega)).trans h6, (hq _ (by omega) (by omega)).trans h7, (hq _ (by omega) (by omega)).trans h8, (hq _ (by omega) (by omega)).trans h9⟩
theorem NbAt.kp (h : NbAt Γ σ x) (hq : ∀ q, x ≤ q → q ≤ x + 3 → σ1 q = σ q) : NbAt Γ σ1 x := by
  obtain ⟨h0, h1, ⟨f2, h2, z2⟩, ⟨f3, h3, z3⟩⟩ := h
  exact ⟨(hq _ (by omega) (by omega)).trans h0, (hq _ (by omega) (by omega)).trans h1, ⟨f2, (hq _ (by omega) (by omega)).trans h2, z2⟩, ⟨f3, (hq _ (by omega) (by omega)).trans h3, z3⟩⟩
theorem NrAt.kp (h : NrAt Γ σ x n b m) (h0 : σ1 x = σ x) (hq : ∀ q, n ≤ q → q ≤ n + 3 → σ1 q = σ q) : NrAt Γ σ1 x n b m := by
  obtain ⟨g0, h1, h2, h3, h4⟩ := h
  exact ⟨h0.trans g0, (hq _ (by omega) (by omega)).trans h1, (hq _ (by omega) (by omega)).trans h2, (hq _ (by omega) (by omega)).trans h3, (hq _ (by omega) (by omega)).trans h4⟩
theorem NtAt.kp (h : NtAt Γ σ x) (hq : ∀ q, x ≤ q → q ≤ x + 1 → σ1 q = σ q) : NtAt Γ σ1 x := ⟨(hq _ (by omega) (by omega)).trans h.1, (hq _ (by omega) (by omega)).trans h.2⟩
end New
/-- all that is new -/
def FcN (Γ : gam) (σ : sto) (a : Nat) : Prop := FcA Γ σ a (.ref (a + 14)) (.ref (a + 19)) (.ref (a + 71)) (fun i => some (a + 81 + 2 * i)) (fun i => some (a + 89 + 5 * i)) ∧ NbAt Γ σ (a + 10) ∧ NeAt Γ σ (a + 14) (a + 10) ∧ NhAt Γ σ (a + 19) (a + 10) ∧ NrAt Γ σ (a + 71) (a + 77) (a + 10) (a + 72) ∧ NeAt Γ σ (a + 72) (a + 10) ∧ (∀ i, i < 4 → NtAt Γ σ (a + 81 + 2 * i)) ∧ ∀ i, i < 5 → NeAt Γ σ (a + 89 + 5 * i) (a + 10)
