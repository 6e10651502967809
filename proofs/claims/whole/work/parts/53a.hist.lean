/-! ===== the class: its history ===== -/
def HiAt (Γ : gam) (ro : Nat → Nat) (σ : sto) (h b f d : Nat) (K : row) : Prop := (ro h ≠ 1 ∧ ro (h + 1) ≠ 1) ∧ (f < 10 ∧ d ≤ 10 ∧ K 7 = nI d) ∧ σ h = some (cO 1 [.ref (h + 1), .int (nI f), .int (nI d)]) ∧ σ (h + 1) = some (cR Γ 3 10 (fun i => some (h + 2 + 5 * i))) ∧ (∀ i, i < 10 → TrAt Γ ro σ (h + 2 + 5 * i)) ∧ ∀ i, i < d → SeAt Γ ro σ (h + 2 + 5 * ((f + i) % 10)) b (undK K i 24) (setS K (undK K i))
section Hist
variable {Γ : gam} {D : Nat} {ro : Nat → Nat} {S : Nat → Prop} {h b f d : Nat} {σ σ1 : sto} {K K2 : row}
theorem hi0 (hH : HiAt Γ ro σ h b f d K) : σ h = some (cO 1 [.ref (h + 1), .int (nI f), .int (nI d)]) := hH.2.2.1
theorem hi1 (hH : HiAt Γ ro σ h b f d K) : σ (h + 1) = some (cR Γ 3 10 (fun i => some (h + 2 + 5 * i))) := hH.2.2.2.1
theorem HiAt.fs (hH : HiAt Γ ro σ h b f d K) (hf : frS Γ ro S σ σ1) (hS : ∀ q, h ≤ q → q ≤ h + 51 → ¬ S q) : HiAt Γ ro σ1 h b f d K := by
  obtain ⟨⟨r0, r1⟩, h1, h2, h3, h4, h5⟩ := hH
  exact ⟨⟨r0, r1⟩, h1, hf.at (hS _ (by omega) (by omega)) r0 h2, hf.at (hS _ (by omega) (by omega)) r1 h3, fun i hi => (h4 i hi).fs hf (fun q x y => hS q (by omega) (by omega)), fun i hi => (h5 i hi).fs hf (fun q x y => hS q (by omega) (by omega))⟩
theorem SeAt.eq {a : Nat} {w w2 : Int32} (hS : SeAt Γ ro σ a b w K) (h8 : kP K ≤ 8) (e : ∀ j, (j = 1 ∨ j = 2 ∨ j = 3 ∨ (8 ≤ j ∧ j < 32) ∨ j = 33) → K2 j = K j) (hw : w2 = w) : SeAt Γ ro σ a b w2 K2 := by
  obtain ⟨ch, co, rw, bk, h1, h2⟩ := hS
  subst hw
  exact ⟨ch, co, rw, bk, by rw [e 33 (by omega)]; exact h1, rS_eq h2 h8 (fun j hj => e j (by omega))⟩
theorem setS_P {g : row} : kP (setS K g) = kP K := by simp only [kP, setS, if_neg (show ¬ (8 ≤ 3 ∧ 3 < 34) by omega)]
theorem setS_at {g : row} {j : Nat} (h : 8 ≤ j ∧ j < 34) : setS K g j = g (j - 8) := if_pos h
theorem setS_ne {g : row} {j : Nat} (h : ¬ (8 ≤ j ∧ j < 34)) : setS K g j = K j := if_neg h
theorem HiAt.eq (hH : HiAt Γ ro σ h b f d K) (h8 : kP K ≤ 8) (e : ∀ j, (j = 1 ∨ j = 2 ∨ j = 3 ∨ j = 7 ∨ (59 ≤ j ∧ j < 319)) → K2 j = K j) : HiAt Γ ro σ h b f d K2 := by
  obtain ⟨h0, h1, h2, h3, h4, h5⟩ := hH
  refine ⟨h0, ⟨h1.1, h1.2.1, by rw [e 7 (by omega)]; exact h1.2.2⟩, h2, h3, h4, fun i hi => ?_⟩
  refine (h5 i hi).eq (by rw [setS_P]; exact h8) (fun j hj => ?_) (e _ (by omega))
  by_cases hj2 : 8 ≤ j ∧ j < 34
  · rw [setS_at hj2, setS_at hj2, undK, undK]
    exact e _ (by omega)
  · rw [setS_ne hj2, setS_ne hj2]
    exact e j (by omega)
theorem LwV.su {mn pl : Nat} {v : Value} (hL : LwV Γ D ro σ K mn pl v) (hs : sameU K K2) (h1 : mn < 7) (h2 : 318 < pl) : LwV Γ D ro σ K2 mn pl v := by
  unfold LwV
  rw [hs mn (by omega), hs.code h1 h2]
  exact hL
theorem BrAt.su {ag pa pf : row} {lm lt lw : Value} (hQ : BrAt Γ D ro σ b K ag pa pf lm lt lw) (hs : sameU K K2) (h8 : kP K ≤ 8) : BrAt Γ D ro σ b K2 ag pa pf lm lt lw := by
  obtain ⟨r, h0, h1, h2, h3, h4, h5, h6, h7⟩ := hQ
  refine ⟨r, by rw [hs 1 (by omega), hs 2 (by omega), hs 3 (by omega), hs 0 (by omega), hs 42 (by omega)]; exact h0, h1, h2, h3, h4.su hs (by omega) (by omega), h5.su hs (by omega) (by omega), h6.su hs (by omega) (by omega), fun p hp => ?_⟩
  rw [hs.P] at hp
  rw [hs (34 + p) (by omega), hs (43 + p) (by omega), hs (51 + p) (by omega)]
  exact h7 p hp
end Hist
theorem shK_at {i j : Nat} {K : row} : shK i K j = if 59 ≤ j ∧ j < 59 + i then K (j + 26) else K j := rfl
theorem cpK_at {d i j : Nat} {K : row} : cpK d i K j = if 59 + 26 * d ≤ j ∧ j < 59 + 26 * d + i then K (8 + (j - (59 + 26 * d))) else K j := rfl
theorem keep_lt {K : row} {d : Nat} (h7 : K 7 = nI d) (hd : d < 10) : keepK K = upd (cpK d 26 K) 7 (nI (d + 1)) := by
  have e : keepA K = K := by
    unfold keepA
    rw [if_neg]
    rw [h7]
    intro hc
    have := (nI_eq (b := 10) (by omega) (by decide)).mp hc
    omega
  unfold keepK
  rw [e, h7, kD, h7, nI_clamp (by omega), nI_1]
theorem keep_10 {K : row} (h7 : K 7 = nI 10) : keepK K = upd (cpK 9 26 (upd (shK 234 K) 7 9)) 7 (nI 10) := by
  have e : keepA K = upd (shK 234 K) 7 9 := by
    unfold keepA
    rw [if_pos (by rw [h7]; rfl)]
  unfold keepK
  rw [e, kD, pk_us]
  rfl
theorem keep_und {K : row} {d i j : Nat} (h7 : K 7 = nI d) (hd : d < 10) (hi : i < d) (hj : j < 26) : undK (keepK K) i j = undK K i j := by
  rw [keep_lt h7 hd, undK, undK, pk_un (by omega), cpK_at, if_neg (by omega)]
theorem keep_new {K : row} {d j : Nat} (h7 : K 7 = nI d) (hd : d < 10) (hj : j < 26) : undK (keepK K) d j = K (8 + j) := by
  rw [keep_lt h7 hd, undK, pk_un (by omega), cpK_at, if_pos (by omega)]
  congr 1
  omega
theorem keep_und10 {K : row} {i j : Nat} (h7 : K 7 = nI 10) (hi : i < 9) (hj : j < 26) : undK (keepK K) i j = undK K (i + 1) j := by
  rw [keep_10 h7, undK, undK, pk_un (by omega), cpK_at, if_neg (by omega), pk_un (by omega), shK_at, if_pos (by omega)]
  congr 1
  omega
theorem keep_new10 {K : row} {j : Nat} (h7 : K 7 = nI 10) (hj : j < 26) : undK (keepK K) 9 j = K (8 + j) := by
  rw [keep_10 h7, undK, pk_un (by omega), cpK_at, if_pos (by omega), pk_un (by omega), shK_at, if_neg (by omega), show 59 + 26 * 9 + j - (59 + 26 * 9) = j by omega]
theorem keep_7 {K : row} {d : Nat} (h7 : K 7 = nI d) (hd : d ≤ 10) : keepK K 7 = nI (if d < 10 then d + 1 else 10) := by
  by_cases h : d < 10
  · rw [if_pos h, keep_lt h7 h, pk_us]
  · rw [if_neg h]
    obtain rfl : d = 10 := by omega
    rw [keep_10 h7, pk_us]
theorem cp_ob {Γ : gam} {ro : Nat → Nat} {σ : sto} {a b : Nat} {w : Int32} {K K2 ch co rw bk : row} (hR : SrAt Γ ro σ a b w (K 33) ch co rw bk) (hr : rS K ch co rw bk) (hw : w = K 32) (h8 : kP K ≤ 8) (e : ∀ j, 8 ≤ j → j < 34 → K2 j = K j) (e2 : ∀ j, (j = 1 ∨ j = 2 ∨ j = 3) → K2 j = K j) {g : row} (hg : ∀ j, j < 26 → g j = K (8 + j)) : SeAt Γ ro σ a b (g 24) (setS K2 g) := by
  have h9 : ∀ j, 8 ≤ j → j < 34 → setS K2 g j = K j := fun j h1 h2 => by
    rw [setS_at ⟨h1, h2⟩, hg _ (by omega)]
    congr 1
    omega
  refine ⟨ch, co, rw, bk, ?_, rS_eq hr h8 (fun j hj => ?_)⟩
  · rw [h9 33 (by omega) (by omega), hg 24 (by omega), ← hw]
    exact hR
  · by_cases hj2 : 8 ≤ j
    · exact h9 j hj2 (by omega)
    · rw [setS_ne (by omega)]
      exact e2 j (by omega)
