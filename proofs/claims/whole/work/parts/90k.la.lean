/-! ===== a round, both halves ===== -/
section LaS
variable {Γ : gam} {σ σ1 σ2 : sto} {n n1 n2 b a L : Nat} {xs : row} {ro : Nat → Nat} {F K K2 G G2 : row} {im : Nat → Option Nat} {A : Nat → row} {Nm : Nat → Int64} {KI : Nat → row} {t r9 : Int32} {v : Int64}
theorem lc_ref {A2 : Nat → row} (h : LC Γ σ1 n b a L xs ro K G im A Nm KI) (hf : fr (a + 114) (a + 114 + 16) σ1 σ2) (e5 : A2 5 = A 5) (e14 : A2 14 = A 14) (e15 : A2 15 = A 15) : LC Γ σ2 n b a L xs ro K G im A2 Nm KI := by
  obtain ⟨h1, h2, ⟨fo, h3⟩, h4⟩ := h
  have hs : frS Γ ro (fun q => a + 114 ≤ q ∧ q ≤ a + 130) σ1 σ2 := frS.pt (fun q hq => hf q (by omega))
  exact ⟨h1, h2, ⟨fo, (hf _ (by omega)).trans h3⟩, (h4.fs hs (fun q x => by omega)).cA e5 e14 e15⟩
theorem la_r (hR : RfI Γ σ (a + 114) F K G im A Nm KI) (hQ : LwR Γ n b a L xs ro K2 G2 im A Nm KI F K A Nm t v r9 σ1 n1) (g1 : G2 1 = G 1) (g2 : G2 2 = G 2) (g3 : G2 3 = G 3) (hJ : apJ Γ (a + 114) F K2 A Nm σ1 n1 t σ2 n2) : n2 = n1 ∧ LI Γ σ2 n2 b a L xs ∧ (∃ (F2 : row) (A2 : Nat → row), MoAt Γ σ2 (a + 114) F2 K2 A2 Nm ∧ F2 4 = r9) ∧ ∃ fo, σ2 (a + 131) = some (cJ Γ 1 fo) ∧ (r9 = 0 → fo 0 = v) := by
  obtain ⟨q1, q2, q3, ⟨fo, q4, q5⟩, q6⟩ := hQ
  obtain ⟨j1, F2, A2, j2, ⟨j3, j4⟩, j5, j6⟩ := hJ
  subst q1
  subst j1
  have eA : ∀ j, j < 6 ∨ 13 < j → A2 j = A j := fun j hj => j5 j (by simp only [List.mem_cons, List.not_mem_nil, or_false]; omega)
  refine ⟨rfl, ⟨ro, F2, K2, G2, im, A2, Nm, KI, lc_ref q3 j6 (eA 5 (by omega)) (eA 14 (by omega)) (eA 15 (by omega)), hR.ch j2 ?_ ?_ ?_ (eA 3 (by omega)) (eA 4 (by omega))⟩, ⟨F2, A2, j2, j3⟩, fo, (j6 _ (by omega)).trans q4, q5⟩
  · rw [j4 6 (by omega) (by omega) (by omega), hR.2.1, g1]
  · rw [j4 14 (by omega) (by omega) (by omega), hR.2.2.1, g2]
  · rw [j4 15 (by omega) (by omega) (by omega), hR.2.2.2.1, g3]
end LaS
/-- a typed call of a wrapper -/
theorem go_WI {Γ : gam} {R R' : Room} {M M' : mth} {Q : qp} {cells slots pc : Nat} {lv : List (Option Value)} {rest : List Value} {σ : sto} {n : Nat} {ix na : Nat} {As : List Value} {X : Int32 → sto → Nat → Prop} (hv : sLk M.1.cls ix M' na) (hm : mcw M' = Cond.codeWith M'.1 M'.2.1 M'.2.2.1 M'.2.2.2.1 M'.2.2.2.2) (hn : As.length = na) (hh : M.2.2.2.2 = []) (hd : decode M.2.1 pc = .ok (.invokestatic ix, 3)) (sp : Sp Γ R' M' As σ n (qI X))
    (hR : R'.frames + 1 ≤ R.frames ∧ 8 + (M'.2.2.1 + 11) + R'.locals ≤ R.locals) (hC : cells + R'.cells ≤ R.cells ∧ slots + R'.slots ≤ R.slots) (hst : (rest.map fun v => v.category).sum ≤ 8)
    (kk : ∀ v σ' n', X v σ' n' → Go Γ R M Q (cells + R'.cells) (slots + R'.slots) (pc + 3) lv (.int v :: rest) σ' n') : Go Γ R M Q cells slots pc lv (As.reverse ++ rest) σ n :=
  go_csW hv hm hn hh hd sp hR hC hst (fun r σ' n' h => by
    obtain ⟨v, e1, h⟩ := h
    cases e1
    exact kk v σ' n' h) (fun x σ' n' h => by
    obtain ⟨v, e1, -⟩ := h
    cases e1)
