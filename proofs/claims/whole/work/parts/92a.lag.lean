/-! ===== a round, both halves: trays ===== -/
section LagS
variable {Γ : gam} {σ σ1 σ2 : sto} {n n1 n2 b a L : Nat} {xs : row} {ro : Nat → Nat} {F K K2 G G2 : row} {im : Nat → Option Nat} {A : Nat → row} {Nm N2 : Nat → Int64} {KI : Nat → row} {t r9 : Int32} {v : Int64}
theorem la_g {Lx : List Nat} (hR : RfI Γ σ (a + 114) F K G im A Nm KI) (hQ : LwR Γ n b a L xs ro K G im A N2 KI F K A Nm t v r9 σ1 n1) (hL : ∀ j, j < 6 ∨ 13 < j → j ∉ Lx) (hJ : apG Γ (a + 114) F K A N2 σ1 n1 t Lx (fun _ F2 => F2 6 = F 6) σ2 n2) : n2 = n1 ∧ LI Γ σ2 n2 b a L xs ∧ (∃ (F2 : row) (A2 : Nat → row), MoAt Γ σ2 (a + 114) F2 K A2 N2 ∧ F2 4 = r9) ∧ ∃ fo, σ2 (a + 131) = some (cJ Γ 1 fo) ∧ (r9 = 0 → fo 0 = v) := by
  obtain ⟨q1, q2, q3, ⟨fo, q4, q5⟩, q6⟩ := hQ
  obtain ⟨j1, F2, A2, j2, j3, j4, j5, j6, j7⟩ := hJ
  subst q1
  subst j1
  have eA : ∀ j, j < 6 ∨ 13 < j → A2 j = A j := fun j hj => j5 j (hL j hj)
  refine ⟨rfl, ⟨ro, F2, K, G, im, A2, N2, KI, lc_ref q3 j6 (eA 5 (by omega)) (eA 14 (by omega)) (eA 15 (by omega)), hR.ch j2 ?_ ?_ ?_ (eA 3 (by omega)) (eA 4 (by omega))⟩, ⟨F2, A2, j2, j3⟩, fo, (j6 _ (by omega)).trans q4, q5⟩
  · rw [j7, hR.2.1]
  · rw [j4 14 (by omega) (by omega) (by omega) (by omega), hR.2.2.1]
  · rw [j4 15 (by omega) (by omega) (by omega) (by omega), hR.2.2.2.1]
end LagS
