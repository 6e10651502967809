/-! ===== an array's cell, told by another row that says the same of its places ===== -/
theorem arrV_cg {cA : ClassId} {N : Nat} {f g : Nat → Value} (h : ∀ j, j < N → g j = f j) : arrV cA N g = arrV cA N f := by
  unfold arrV
  congr 1
  apply congrArg
  exact funext fun j => h j.val j.isLt
theorem go_eqR {Γ : gam} {R : Room} {M : mth} {Q : qp} {cells slots pc : Nat} {lv : List (Option Value)} {st : List Value} {σ : sto} {n a k N : Nat} {f : Nat → Option Nat} (f' : Nat → Option Nat) (ho : σ a = some (cR Γ k N f)) (he : ∀ j, j < N → f' j = f j) (kk : Go Γ R M Q cells slots pc lv st (sup σ a (cR Γ k N f')) n) : Go Γ R M Q cells slots pc lv st σ n := by
  intro p e s m args below meth c H locs ls C W0 S0 L0
  refine kk p e s m args below meth c H locs ls C (W0.put ho rfl (fun _ _ => rfl) ?_) S0 L0
  have h1 := (W0.2.2.2 a _ ho).2.2
  show H[a]? = some (vp_cell _ _)
  have h2 : H[a]? = some (vp_cell _ _) := h1
  rw [h2, vp_cell_q, vp_cell_q]
  congr 1
  exact (arrV_cg (fun j hj => by rw [he j hj])).symm
theorem go_cast {Γ : gam} {R : Room} {M : mth} {Q : qp} {cells slots pc c2 s2 : Nat} {lv : List (Option Value)} {st : List Value} {σ : sto} {n : Nat} (hc : cells = c2) (hs : slots = s2) (kk : Go Γ R M Q c2 s2 pc lv st σ n) : Go Γ R M Q cells slots pc lv st σ n := by
  subst hc
  subst hs
  exact kk
/-- new seats of a beach -/
def NeAt (Γ : gam) (σ : sto) (x b : Nat) : Prop := ∃ ch co rw bk : row, σ x = some (cO 5 [.ref (x + 1), .ref (x + 2), .ref (x + 3), .ref (x + 4), .ref b, .int 0, .int 0]) ∧ σ (x + 1) = some (cI Γ 20 ch) ∧ σ (x + 2) = some (cI Γ 8 co) ∧ σ (x + 3) = some (cI Γ 8 rw) ∧ σ (x + 4) = some (cI Γ 8 bk) ∧ (∀ j, j < 20 → ch j = -1) ∧ (∀ j, j < 8 → co j = 0) ∧ (∀ j, j < 8 → rw j = -1) ∧ ∀ j, j < 8 → bk j = -1
theorem NeAt.kp {Γ : gam} {σ σ1 : sto} {x b : Nat} (h : NeAt Γ σ x b) (hq : ∀ q, x ≤ q → q ≤ x + 4 → σ1 q = σ q) : NeAt Γ σ1 x b := by
  obtain ⟨ch, co, rw, bk, h0, h1, h2, h3, h4, h5⟩ := h
  exact ⟨ch, co, rw, bk, (hq _ (by omega) (by omega)).trans h0, (hq _ (by omega) (by omega)).trans h1, (hq _ (by omega) (by omega)).trans h2, (hq _ (by omega) (by omega)).trans h3, (hq _ (by omega) (by omega)).trans h4, h5⟩
theorem NeAt.T {Γ : gam} {ro : Nat → Nat} {σ : sto} {x b : Nat} (h : NeAt Γ σ x b) (hr : ∀ q, x ≤ q → q ≤ x + 4 → ro q ≠ 1) : TrAt Γ ro σ x := by
  obtain ⟨ch, co, rw, bk, h0, h1, h2, h3, h4, -⟩ := h
  exact ⟨b, 0, 0, ch, co, rw, bk, ⟨hr _ (by omega) (by omega), hr _ (by omega) (by omega), hr _ (by omega) (by omega), hr _ (by omega) (by omega), hr _ (by omega) (by omega)⟩, h0, h1, h2, h3, h4⟩
/-- a new history -/
def NhAt (Γ : gam) (σ : sto) (h b : Nat) : Prop := σ h = some (cO 1 [.ref (h + 1), .int 0, .int 0]) ∧ σ (h + 1) = some (cR Γ 3 10 (fun i => some (h + 2 + 5 * i))) ∧ ∀ i, i < 10 → NeAt Γ σ (h + 2 + 5 * i) b
theorem NhAt.kp {Γ : gam} {σ σ1 : sto} {h b : Nat} (hh : NhAt Γ σ h b) (hq : ∀ q, h ≤ q → q ≤ h + 51 → σ1 q = σ q) : NhAt Γ σ1 h b := ⟨(hq _ (by omega) (by omega)).trans hh.1, (hq _ (by omega) (by omega)).trans hh.2.1, fun i hi => (hh.2.2 i hi).kp (fun q x y => hq q (by omega) (by omega))⟩
theorem NhAt.hs {Γ : gam} {ro : Nat → Nat} {σ : sto} {h b : Nat} (hh : NhAt Γ σ h b) (hr : ∀ q, h ≤ q → q ≤ h + 51 → ro q ≠ 1) : HsAt Γ ro σ h := ⟨⟨hr _ (by omega) (by omega), hr _ (by omega) (by omega)⟩, ⟨_, _, hh.1⟩, hh.2.1, fun i hi => (hh.2.2 i hi).T (fun q x y => hr q (by omega) (by omega))⟩
