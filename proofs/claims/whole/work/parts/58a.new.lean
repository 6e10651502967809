/-! ===== new objects: fields as they come, loops that make cells, roles of new cells ===== -/
abbrev df0 : List Value := [.int 0, .int 0, .int 0, .int 0, .int 0, .null, .null, .null, .null, .null, .null]
theorem df0_ok : ∀ j, j < 11 → ∀ ty, parseFieldDescriptor (TX0 j).2.2.1 = some ty → defaultValue ty = vp_V df0 j := by
  intro j hj ty h
  rw [tyX0_ok j hj] at h
  obtain rfl := Option.some.inj h
  rcases (show j = 0 ∨ j = 1 ∨ j = 2 ∨ j = 3 ∨ j = 4 ∨ j = 5 ∨ j = 6 ∨ j = 7 ∨ j = 8 ∨ j = 9 ∨ j = 10 by omega) with rfl | rfl | rfl | rfl | rfl | rfl | rfl | rfl | rfl | rfl | rfl <;> rfl
abbrev df1 : List Value := [.null, .int 0, .int 0]
theorem df1_ok : ∀ j, j < 3 → ∀ ty, parseFieldDescriptor (TX1 j).2.2.1 = some ty → defaultValue ty = vp_V df1 j := by
  intro j hj ty h
  rw [tyX1_ok j hj] at h
  obtain rfl := Option.some.inj h
  rcases (show j = 0 ∨ j = 1 ∨ j = 2 by omega) with rfl | rfl | rfl <;> rfl
abbrev df2 : List Value := [.null, .null]
theorem df2_ok : ∀ j, j < 2 → ∀ ty, parseFieldDescriptor (TX2 j).2.2.1 = some ty → defaultValue ty = vp_V df2 j := by
  intro j hj ty h
  rw [tyX2_ok j hj] at h
  obtain rfl := Option.some.inj h
  rcases (show j = 0 ∨ j = 1 by omega) with rfl | rfl <;> rfl
abbrev df3 : List Value := [.null, .null]
theorem df3_ok : ∀ j, j < 2 → ∀ ty, parseFieldDescriptor (TX3 j).2.2.1 = some ty → defaultValue ty = vp_V df3 j := by
  intro j hj ty h
  rw [tyX3_ok j hj] at h
  obtain rfl := Option.some.inj h
  rcases (show j = 0 ∨ j = 1 by omega) with rfl | rfl <;> rfl
abbrev df4 : List Value := [.null, .null, .null, .null, .int 0, .int 0, .int 0, .int 0, .null, .null, .int 0, .int 0]
theorem df4_ok : ∀ j, j < 12 → ∀ ty, parseFieldDescriptor (TX4 j).2.2.1 = some ty → defaultValue ty = vp_V df4 j := by
  intro j hj ty h
  rw [tyX4_ok j hj] at h
  obtain rfl := Option.some.inj h
  rcases (show j = 0 ∨ j = 1 ∨ j = 2 ∨ j = 3 ∨ j = 4 ∨ j = 5 ∨ j = 6 ∨ j = 7 ∨ j = 8 ∨ j = 9 ∨ j = 10 ∨ j = 11 by omega) with rfl | rfl | rfl | rfl | rfl | rfl | rfl | rfl | rfl | rfl | rfl | rfl <;> rfl
abbrev df5 : List Value := [.null, .null, .null, .null, .null, .int 0, .int 0]
theorem df5_ok : ∀ j, j < 7 → ∀ ty, parseFieldDescriptor (TX5 j).2.2.1 = some ty → defaultValue ty = vp_V df5 j := by
  intro j hj ty h
  rw [tyX5_ok j hj] at h
  obtain rfl := Option.some.inj h
  rcases (show j = 0 ∨ j = 1 ∨ j = 2 ∨ j = 3 ∨ j = 4 ∨ j = 5 ∨ j = 6 by omega) with rfl | rfl | rfl | rfl | rfl | rfl | rfl <;> rfl
abbrev df6 : List Value := [.int 0, .int 0, .null]
theorem df6_ok : ∀ j, j < 3 → ∀ ty, parseFieldDescriptor (TX6 j).2.2.1 = some ty → defaultValue ty = vp_V df6 j := by
  intro j hj ty h
  rw [tyX6_ok j hj] at h
  obtain rfl := Option.some.inj h
  rcases (show j = 0 ∨ j = 1 ∨ j = 2 by omega) with rfl | rfl | rfl <;> rfl
abbrev df7 : List Value := [.null, .int 0, .int 0, .int 0, .null, .null, .null, .null, .null, .null, .null, .null, .null, .null, .null, .int 0]
theorem df7_ok : ∀ j, j < 16 → ∀ ty, parseFieldDescriptor (TX7 j).2.2.1 = some ty → defaultValue ty = vp_V df7 j := by
  intro j hj ty h
  rw [tyX7_ok j hj] at h
  obtain rfl := Option.some.inj h
  rcases (show j = 0 ∨ j = 1 ∨ j = 2 ∨ j = 3 ∨ j = 4 ∨ j = 5 ∨ j = 6 ∨ j = 7 ∨ j = 8 ∨ j = 9 ∨ j = 10 ∨ j = 11 ∨ j = 12 ∨ j = 13 ∨ j = 14 ∨ j = 15 by omega) with rfl | rfl | rfl | rfl | rfl | rfl | rfl | rfl | rfl | rfl | rfl | rfl | rfl | rfl | rfl | rfl <;> rfl
theorem go_set {Γ : gam} {R : Room} {M : mth} {Q : qp} {cells slots pc : Nat} {lv : List (Option Value)} {st : List Value} {σ : sto} {n : Nat} {P : sto → Prop} (h : P σ) (k : ∀ σ1, P σ1 → Go Γ R M Q cells slots pc lv st σ1 n) : Go Γ R M Q cells slots pc lv st σ n := k σ h
theorem go_low {Γ : gam} {R : Room} {M : mth} {Q : qp} {cells slots pc : Nat} {lv : List (Option Value)} {st : List Value} {σ : sto} {n : Nat} (k : (∀ q e, σ q = some e → q < n) → Go Γ R M Q cells slots pc lv st σ n) : Go Γ R M Q cells slots pc lv st σ n := by
  intro p e s m args below meth c H locs ls C W0 S0 L0
  exact k (fun q e h => (W0.2.2.2 q e h).2.1) p e s m args below meth c H locs ls C W0 S0 L0
theorem go_iterC {Γ : gam} {R : Room} {M : mth} {Q : qp} {pc : Nat} {lv : List (Option Value)} {σ : sto} {n : Nat} (N c cc s ss : Nat) (I : Nat → List (Option Value) → sto → Nat → Prop) (h0 : I 0 lv σ n)
    (hs : ∀ i lv σ n, i < N → I i lv σ n → (∀ lv' σ' n', I (i + 1) lv' σ' n' → Go Γ R M Q (c + cc * (i + 1)) (s + ss * (i + 1)) pc lv' [] σ' n') → Go Γ R M Q (c + cc * i) (s + ss * i) pc lv [] σ n)
    (he : ∀ lv σ n, I N lv σ n → Go Γ R M Q (c + cc * N) (s + ss * N) pc lv [] σ n) : Go Γ R M Q c s pc lv [] σ n := by
  have key : ∀ (m i : Nat), i + m = N → ∀ lv σ n, I i lv σ n → Go Γ R M Q (c + cc * i) (s + ss * i) pc lv [] σ n := by
    intro m
    induction m with
    | zero =>
      intro i hi lv σ n hI
      have e : i = N := by omega
      subst e
      exact he lv σ n hI
    | succ m ih =>
      intro i hi lv σ n hI
      exact hs i lv σ n (by omega) hI (fun lv' σ' n' h' => ih (i + 1) (by omega) lv' σ' n' h')
  have := key N 0 (by omega) lv σ n h0
  rw [Nat.mul_zero, Nat.mul_zero] at this
  exact this
section Ro
variable {Γ : gam} {D : Nat} {ro ro1 : Nat → Nat} {a b n l h f d : Nat} {σ : sto} {w m : Int32} {K ag pa pf ch co rw bk G : row} {lm lt lw : Value}
/-- roles of cells that are there do not change -/
theorem SrAt.rol (hR : SrAt Γ ro σ a b w m ch co rw bk) (hl : ∀ q e, σ q = some e → q < n) (hr : ∀ q, q < n → ro1 q = ro q) : SrAt Γ ro1 σ a b w m ch co rw bk := by
  obtain ⟨⟨r0, r1, r2, r3, r4⟩, h0, h1, h2, h3, h4⟩ := hR
  exact ⟨⟨by rw [hr _ (hl _ _ h0)]; exact r0, by rw [hr _ (hl _ _ h1)]; exact r1, by rw [hr _ (hl _ _ h2)]; exact r2, by rw [hr _ (hl _ _ h3)]; exact r3, by rw [hr _ (hl _ _ h4)]; exact r4⟩, h0, h1, h2, h3, h4⟩
theorem SeAt.rol (hS : SeAt Γ ro σ a b w K) (hl : ∀ q e, σ q = some e → q < n) (hr : ∀ q, q < n → ro1 q = ro q) : SeAt Γ ro1 σ a b w K := by
  obtain ⟨ch, co, rw, bk, h1, h2⟩ := hS
  exact ⟨ch, co, rw, bk, h1.rol hl hr, h2⟩
theorem TrAt.rol (hS : TrAt Γ ro σ a) (hl : ∀ q e, σ q = some e → q < n) (hr : ∀ q, q < n → ro1 q = ro q) : TrAt Γ ro1 σ a := by
  obtain ⟨b, w, m, ch, co, rw, bk, h1⟩ := hS
  exact ⟨b, w, m, ch, co, rw, bk, h1.rol hl hr⟩
theorem LwV.rol {mn pl : Nat} {v : Value} (hL : LwV Γ D ro σ K mn pl v) (hl : ∀ q e, σ q = some e → q < n) (hr : ∀ q, q < n → ro1 q = ro q) : LwV Γ D ro1 σ K mn pl v := by
  rcases hL with h | ⟨h1, l, h2, ⟨⟨g1, g2, g3, g4⟩, g5, g6, ⟨s, g7⟩⟩⟩
  · exact Or.inl h
  · exact Or.inr ⟨h1, l, h2, ⟨⟨g1, by rw [hr _ (hl _ _ g5)]; exact g2, by rw [hr _ (hl _ _ g6)]; exact g3, by rw [hr _ (hl _ _ g7)]; exact g4⟩, g5, g6, ⟨s, g7⟩⟩⟩
theorem BrAt.rol (hQ : BrAt Γ D ro σ b K ag pa pf lm lt lw) (hl : ∀ q e, σ q = some e → q < n) (hr : ∀ q, q < n → ro1 q = ro q) : BrAt Γ D ro1 σ b K ag pa pf lm lt lw := by
  obtain ⟨⟨r0, r1, r2, r3⟩, h0, h1, h2, h3, h4, h5, h6, h7⟩ := hQ
  exact ⟨⟨by rw [hr _ (hl _ _ h0)]; exact r0, by rw [hr _ (hl _ _ h1)]; exact r1, by rw [hr _ (hl _ _ h2)]; exact r2, by rw [hr _ (hl _ _ h3)]; exact r3⟩, h0, h1, h2, h3, h4.rol hl hr, h5.rol hl hr, h6.rol hl hr, h7⟩
theorem HsAt.rol (hH : HsAt Γ ro σ h) (hl : ∀ q e, σ q = some e → q < n) (hr : ∀ q, q < n → ro1 q = ro q) : HsAt Γ ro1 σ h := by
  obtain ⟨⟨r0, r1⟩, ⟨x, y, h2⟩, h3, h4⟩ := hH
  exact ⟨⟨by rw [hr _ (hl _ _ h2)]; exact r0, by rw [hr _ (hl _ _ h3)]; exact r1⟩, ⟨x, y, h2⟩, h3, fun i hi => (h4 i hi).rol hl hr⟩
theorem HiAt.rol (hH : HiAt Γ ro σ h b f d K) (hl : ∀ q e, σ q = some e → q < n) (hr : ∀ q, q < n → ro1 q = ro q) : HiAt Γ ro1 σ h b f d K := by
  obtain ⟨⟨r0, r1⟩, h1, h2, h3, h4, h5⟩ := hH
  exact ⟨⟨by rw [hr _ (hl _ _ h2)]; exact r0, by rw [hr _ (hl _ _ h3)]; exact r1⟩, h1, h2, h3, fun i hi => (h4 i hi).rol hl hr, fun i hi => (h5 i hi).rol hl hr⟩
theorem CoAt.rol {im : Nat → Option Nat} (hC : CoAt Γ ro σ a G im) (ha : a + 113 < n) (hr : ∀ q, q < n → ro1 q = ro q) : CoAt Γ ro1 σ a G im := ⟨fun q x y => by rw [hr q (by omega)]; exact hC.1 q x y, hC.2⟩
theorem TyAt.rol {g m : row} {Nm : Nat → Int64} (hY : TyAt Γ ro σ a g m Nm) (ha : a + 113 < n) (hr : ∀ q, q < n → ro1 q = ro q) : TyAt Γ ro1 σ a g m Nm := ⟨fun q x y => by rw [hr q (by omega)]; exact hY.1 q x y, hY.2⟩
theorem ScAt.rol (hS : ScAt Γ ro σ a) (hl : ∀ q e, σ q = some e → q < n) (hr : ∀ q, q < n → ro1 q = ro q) : ScAt Γ ro1 σ a := by
  obtain ⟨h1, h2, h3, h4, h5, h6, h7, h8, h9, h10⟩ := hS
  exact ⟨h1, h2, h3, h4, h5, h6.rol hl hr, h7.rol hl hr, h8.rol hl hr, h9.rol hl hr, h10.rol hl hr⟩
/-- beaches, when image cells may have changed -/
theorem LwV.fi {S : Nat → Prop} {σ1 : sto} {mn pl : Nat} {v : Value} (h : LwV Γ D ro σ K mn pl v) (hf : frS Γ ro S σ σ1) (hS : ∀ q, D ≤ q → S q → ro q = 2) : LwV Γ D ro σ1 K mn pl v := by
  rcases h with h | ⟨h1, l, h2, ⟨⟨g1, g2, g3, g4⟩, g5, g6, g7⟩⟩
  · exact Or.inl h
  · exact Or.inr ⟨h1, l, h2, ⟨⟨g1, g2, g3, g4⟩, hf.at (fun x => by have := hS _ (by omega) x; omega) (by rw [g2]; decide) g5, hf.at (fun x => by have := hS _ (by omega) x; omega) (by rw [g3]; decide) g6, hf.2 _ (fun x => by have := hS _ (by omega) x; omega) g4 g7⟩⟩
theorem BrAt.fi {S : Nat → Prop} {σ1 : sto} (h : BrAt Γ D ro σ b K ag pa pf lm lt lw) (hf : frS Γ ro S σ σ1) (hS : ∀ q, D ≤ q → S q → ro q = 2) (hb : ∀ q, b ≤ q → q ≤ b + 3 → S q → ro q = 2) : BrAt Γ D ro σ1 b K ag pa pf lm lt lw := by
  obtain ⟨⟨r0, r1, r2, r3⟩, h0, h1, h2, h3, h4, h5, h6, h7⟩ := h
  exact ⟨⟨r0, r1, r2, r3⟩, hf.at (fun x => by have := hb _ (by omega) (by omega) x; omega) (by rw [r0]; decide) h0, hf.at (fun x => by have := hb _ (by omega) (by omega) x; omega) (by rw [r1]; decide) h1, hf.at (fun x => by have := hb _ (by omega) (by omega) x; omega) (by rw [r2]; decide) h2, hf.at (fun x => by have := hb _ (by omega) (by omega) x; omega) (by rw [r3]; decide) h3, h4.fi hf hS, h5.fi hf hS, h6.fi hf hS, h7⟩
end Ro
/-- an image, whatever it says -/
def ImAt (Γ : gam) (ro : Nat → Nat) (σ : sto) (x : Nat) : Prop := (∀ q, x ≤ q → q ≤ x + 57 → ro q = 2) ∧ σ x = some (cO 2 [.ref (x + 1), .ref (x + 6)]) ∧ TrAt Γ ro σ (x + 1) ∧ HsAt Γ ro σ (x + 6)
