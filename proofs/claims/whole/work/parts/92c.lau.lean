/-! ===== a round, both halves: no answer ===== -/
theorem la_u {Γ : gam} {σ σ1 σ2 : sto} {n n1 b a L : Nat} {xs : row} {ro : Nat → Nat} {F F2 K K2 G : row} {im : Nat → Option Nat} {A A1 A2 : Nat → row} {Nm N2 : Nat → Int64} {KI : Nat → row} {t r9 : Int32} (hR : RfI Γ σ (a + 114) F K G im A Nm KI) (hQ : LwU Γ n b a L xs ro K2 G im A1 N2 KI F K A Nm t r9 σ1 n1) (j2 : MoAt Γ σ2 (a + 114) F2 K2 A2 N2) (j3 : F2 4 = t) (j4 : ∀ j, j ≠ 4 → j ≠ 6 → j ≠ 22 → j ≠ 26 → F2 j = F j) (j6 : fr (a + 114) (a + 114 + 16) σ1 σ2) (j7 : F2 6 = F 6) (e5 : A2 5 = A1 5) (e14 : A2 14 = A1 14) (e15 : A2 15 = A1 15) (e3 : A2 3 = A 3) (e4 : A2 4 = A 4) : LI Γ σ2 n1 b a L xs ∧ F2 4 = r9 := by
  obtain ⟨q1, q2, q3, q6⟩ := hQ
  refine ⟨⟨ro, F2, K2, G, im, A2, N2, KI, lc_ref q3 j6 e5 e14 e15, hR.ch j2 ?_ ?_ ?_ e3 e4⟩, j3.trans q1.symm⟩
  · rw [j7, hR.2.1]
  · rw [j4 14 (by omega) (by omega) (by omega) (by omega), hR.2.2.1]
  · rw [j4 15 (by omega) (by omega) (by omega) (by omega), hR.2.2.2.1]
