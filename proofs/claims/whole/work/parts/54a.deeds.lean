/-! ===== the class: deeds that can be undone ===== -/
abbrev dS (a q : Nat) : Prop := a + 14 ≤ q ∧ q ≤ a + 70
/-- the seats told by K, and a history told by it -/
def StAt (Γ : gam) (ro : Nat → Nat) (σ : sto) (a b : Nat) (K : row) : Prop := SeAt Γ ro σ (a + 14) b (K 32) K ∧ ∃ f d, HiAt Γ ro σ (a + 19) b f d K
theorem kD_of {K : row} {d : Nat} (h : K 7 = nI d) (hd : d ≤ 10) : kD K = d := by rw [kD, h, nI_clamp (by omega)]
section StK
variable {Γ : gam} {D : Nat} {ro : Nat → Nat} {S : Nat → Prop} {a b f d : Nat} {σ σ1 : sto} {K K2 : row} {w : Int32}
theorem StAt.fs (h : StAt Γ ro σ a b K) (hf : frS Γ ro S σ σ1) (hS : ∀ q, a + 14 ≤ q → q ≤ a + 70 → ¬ S q) : StAt Γ ro σ1 a b K := by
  obtain ⟨h1, f, d, h2⟩ := h
  exact ⟨h1.fs hf (fun q x y => hS q (by omega) (by omega)), f, d, h2.fs hf (fun q x y => hS q (by omega) (by omega))⟩
theorem St_0 {ch co rw bk : row} (hR : SrAt Γ ro σ (a + 14) b w (K 33) ch co rw bk) (hr : rS K ch co rw bk) (hw : w = K 32) (hH : HiAt Γ ro σ (a + 19) b f d K) : StAt Γ ro σ a b K := by
  subst hw
  exact ⟨⟨_, _, _, _, hR, hr⟩, f, d, hH⟩
/-- a deed upon the seats alone -/
theorem St_of (hS : SeAt Γ ro σ1 (a + 14) b w K2) (hw : w = K2 32) (hH : HiAt Γ ro σ (a + 19) b f d K) (h8 : kP K ≤ 8) (hs : sameB K K2) (hf : frC Γ ro (a + 14) (a + 18) σ σ1) : StAt Γ ro σ1 a b K2 := by
  subst hw
  exact ⟨hS, f, d, (hH.fs (hf.toS (S := fun q => a + 14 ≤ q ∧ q ≤ a + 18) (fun q x y => ⟨x, y⟩)) (fun q x y z => by omega)).eq h8 (fun j hj => hs j (by omega))⟩
end StK
theorem do_32 {K : row} {v : Int} (h8 : kP K ≤ 8) (h : whyT K v = 0) : doW K v (K 32) = doK K v 32 := (doW_32 h8 h).symm
/-- what no deed changes -/
def sameL (K K2 : row) : Prop := ∀ j, (j < 7 ∨ (33 < j ∧ j < 59) ∨ 318 < j) → K2 j = K j
section SameL
variable {Γ : gam} {D : Nat} {ro : Nat → Nat} {b : Nat} {σ : sto} {K K2 K3 : row}
theorem sameL.rf : sameL K K := fun _ _ => rfl
theorem sameL.tr (h : sameL K K2) (h2 : sameL K2 K3) : sameL K K3 := fun j hj => (h2 j hj).trans (h j hj)
theorem sameB.L (h : sameB K K2) : sameL K K2 := fun j hj => h j (by omega)
theorem sameU.L (h : sameU K K2) : sameL K K2 := fun j hj => h j (by omega)
theorem sameL.P (h : sameL K K2) : kP K2 = kP K := by simp only [kP, h 3 (by omega)]
theorem sameL.H (h : sameL K K2) : kH K2 = kH K := by simp only [kH, h 2 (by omega)]
theorem sameL.W (h : sameL K K2) : kW K2 = kW K := by simp only [kW, h 1 (by omega)]
theorem sameL.code (h : sameL K K2) {mn pl : Nat} (h1 : mn < 7) (h2 : 318 < pl) : codeK K2 mn pl = codeK K mn pl := by
  unfold codeK
  rw [h mn (by omega)]
  refine List.map_congr_left fun i _ => h (pl + i) (by omega)
theorem sameL.oP (h : sameL K K2) (h0 : okP K) : okP K2 := by
  unfold okP at *
  rw [h.P, h.H, h.W, h 3 (by omega), h 2 (by omega), h 1 (by omega)]
  exact h0
theorem sameL.oL (h : sameL K K2) {mn pl : Nat} (h1 : mn < 7) (h2 : 318 < pl) {w : Int32} {fb : Bool} (h0 : okL K mn pl w fb) : okL K2 mn pl w fb := by
  unfold okL at *
  rw [h mn (by omega), h.code h1 h2]
  exact h0
theorem sameL.oB (h : sameL K K2) (h0 : okB K) : okB K2 := by
  refine ⟨h.oP h0.1, ?_, ?_, ?_⟩
  · rw [h 4 (by omega)]
    exact h0.2.1.imp id (fun x => h.oL (by omega) (by omega) x)
  · rw [h 5 (by omega)]
    exact h0.2.2.1.imp id (fun x => h.oL (by omega) (by omega) x)
  · rw [h 6 (by omega)]
    exact h0.2.2.2.imp id (fun x => h.oL (by omega) (by omega) x)
theorem LwV.sl {mn pl : Nat} {v : Value} (hL : LwV Γ D ro σ K mn pl v) (hs : sameL K K2) (h1 : mn < 7) (h2 : 318 < pl) : LwV Γ D ro σ K2 mn pl v := by
  unfold LwV
  rw [hs mn (by omega), hs.code h1 h2]
  exact hL
theorem BrAt.sl {ag pa pf : row} {lm lt lw : Value} (hQ : BrAt Γ D ro σ b K ag pa pf lm lt lw) (hs : sameL K K2) (h8 : kP K ≤ 8) : BrAt Γ D ro σ b K2 ag pa pf lm lt lw := by
  obtain ⟨r, h0, h1, h2, h3, h4, h5, h6, h7⟩ := hQ
  refine ⟨r, by rw [hs 1 (by omega), hs 2 (by omega), hs 3 (by omega), hs 0 (by omega), hs 42 (by omega)]; exact h0, h1, h2, h3, h4.sl hs (by omega) (by omega), h5.sl hs (by omega) (by omega), h6.sl hs (by omega) (by omega), fun p hp => ?_⟩
  rw [hs.P] at hp
  rw [hs (34 + p) (by omega), hs (43 + p) (by omega), hs (51 + p) (by omega)]
  exact h7 p hp
end SameL
