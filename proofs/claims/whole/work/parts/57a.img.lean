/-! ===== the class: histories that are copied, images ===== -/
theorem ScAt.s0s {Γ : gam} {ro : Nat → Nat} {S : Nat → Prop} {a : Nat} {σ σ1 : sto} (h : ScAt Γ ro σ a) (hr : ∀ q, a ≤ q → q ≤ a + 113 → ro q ≠ 1) (hf : frS Γ ro S σ σ1) (hS : ∀ q, scr a q → S q → a + 89 ≤ q ∧ q ≤ a + 93) (ht : TrAt Γ ro σ1 (a + 89)) : ScAt Γ ro σ1 a := by
  have ns : ∀ q, scr a q → ¬ (a + 89 ≤ q ∧ q ≤ a + 93) → ¬ S q := fun q h1 h2 h3 => h2 (hS q h1 h3)
  obtain ⟨⟨f1, h1⟩, ⟨f2, h2⟩, ⟨f3, h3⟩, ⟨f4, h4⟩, ⟨f5, h5⟩, h6, h7, h8, h9, h10⟩ := h
  exact ⟨⟨f1, hf.at (ns _ (by omega) (by omega)) (hr _ (by omega) (by omega)) h1⟩, ⟨f2, hf.at (ns _ (by omega) (by omega)) (hr _ (by omega) (by omega)) h2⟩, ⟨f3, hf.at (ns _ (by omega) (by omega)) (hr _ (by omega) (by omega)) h3⟩, ⟨f4, hf.at (ns _ (by omega) (by omega)) (hr _ (by omega) (by omega)) h4⟩, ⟨f5, hf.at (ns _ (by omega) (by omega)) (hr _ (by omega) (by omega)) h5⟩, ht, h7.fs hf (fun q x y => ns q (by omega) (by omega)), h8.fs hf (fun q x y => ns q (by omega) (by omega)), h9.fs hf (fun q x y => ns q (by omega) (by omega)), h10.fs hf (fun q x y => ns q (by omega) (by omega))⟩
theorem cpT_1 {K g : row} {t p : Int} (h : pN 4 t = none) : cpT K g t p = 1 := by
  unfold cpT
  rw [h]
theorem cpT_2 {K g : row} {t p : Int} {j : Nat} (h : pN 4 t = some j) (h2 : pN (kP K) p = none) : cpT K g t p = 1 := by
  unfold cpT
  rw [h, h2]
theorem cpT_3 {K g : row} {t p : Int} {j i : Nat} (h : pN 4 t = some j) (h2 : pN (kP K) p = some i) : cpT K g t p = if g j = -1 then 2 else 0 := by
  unfold cpT
  rw [h, h2]
/-- a history, whatever it says -/
def HsAt (Γ : gam) (ro : Nat → Nat) (σ : sto) (h : Nat) : Prop := (ro h ≠ 1 ∧ ro (h + 1) ≠ 1) ∧ (∃ x y : Int32, σ h = some (cO 1 [.ref (h + 1), .int x, .int y])) ∧ σ (h + 1) = some (cR Γ 3 10 (fun i => some (h + 2 + 5 * i))) ∧ ∀ i, i < 10 → TrAt Γ ro σ (h + 2 + 5 * i)
/-- kept seats, at the j-th place: what they say if they are of those that can be gone back to -/
def kpt (Γ : gam) (ro : Nat → Nat) (σ : sto) (s b f d : Nat) (K : row) (j : Nat) : Prop := ∃ b1 w m ch co rw bk, SrAt Γ ro σ s b1 w m ch co rw bk ∧ ∀ i, i < d → j = (f + i) % 10 → b1 = b ∧ w = undK K i 24 ∧ m = setS K (undK K i) 33 ∧ rS (setS K (undK K i)) ch co rw bk
section Img
variable {Γ : gam} {D : Nat} {ro : Nat → Nat} {S : Nat → Prop} {h s b f d j : Nat} {σ σ1 : sto} {K : row}
theorem HiAt.hs (hH : HiAt Γ ro σ h b f d K) : HsAt Γ ro σ h := ⟨hH.1, ⟨_, _, hH.2.2.1⟩, hH.2.2.2.1, hH.2.2.2.2.1⟩
theorem HsAt.fs (hH : HsAt Γ ro σ h) (hf : frS Γ ro S σ σ1) (hS : ∀ q, h ≤ q → q ≤ h + 51 → ¬ S q) : HsAt Γ ro σ1 h := by
  obtain ⟨⟨r0, r1⟩, ⟨x, y, h2⟩, h3, h4⟩ := hH
  exact ⟨⟨r0, r1⟩, ⟨x, y, hf.at (hS _ (by omega) (by omega)) r0 h2⟩, hf.at (hS _ (by omega) (by omega)) r1 h3, fun i hi => (h4 i hi).fs hf (fun q x y => hS q (by omega) (by omega))⟩
theorem kpt.fs (hp : kpt Γ ro σ s b f d K j) (hf : frS Γ ro S σ σ1) (hS : ∀ q, s ≤ q → q ≤ s + 4 → ¬ S q) : kpt Γ ro σ1 s b f d K j := by
  obtain ⟨b1, w, m, ch, co, rw, bk, h1, h2⟩ := hp
  exact ⟨b1, w, m, ch, co, rw, bk, h1.fs hf hS, h2⟩
theorem HiAt.kpt (hH : HiAt Γ ro σ h b f d K) (hj : j < 10) : kpt Γ ro σ (h + 2 + 5 * j) b f d K j := by
  have hd := hH.2.1.2.1
  by_cases e : ∃ i, i < d ∧ j = (f + i) % 10
  · obtain ⟨i, hi, e⟩ := e
    obtain ⟨ch, co, rw, bk, h1, h2⟩ := hH.2.2.2.2.2 i hi
    refine ⟨b, _, _, ch, co, rw, bk, by rw [e]; exact h1, fun i2 hi2 e2 => ?_⟩
    have : i2 = i := by omega
    subst this
    exact ⟨rfl, rfl, rfl, h2⟩
  · obtain ⟨b1, w, m, ch, co, rw, bk, h1⟩ := hH.2.2.2.2.1 j hj
    exact ⟨b1, w, m, ch, co, rw, bk, h1, fun i hi e2 => absurd ⟨i, hi, e2⟩ e⟩
theorem kpt.T (hp : kpt Γ ro σ s b f d K j) : TrAt Γ ro σ s := by
  obtain ⟨b1, w, m, ch, co, rw, bk, h1, -⟩ := hp
  exact h1.T
theorem Hi_of (r : ro h ≠ 1 ∧ ro (h + 1) ≠ 1) (h1 : f < 10 ∧ d ≤ 10 ∧ K 7 = nI d) (h2 : σ h = some (cO 1 [.ref (h + 1), .int (nI f), .int (nI d)])) (h3 : σ (h + 1) = some (cR Γ 3 10 (fun i => some (h + 2 + 5 * i)))) (hp : ∀ j, j < 10 → kpt Γ ro σ (h + 2 + 5 * j) b f d K j) : HiAt Γ ro σ h b f d K := by
  refine ⟨r, h1, h2, h3, fun i hi => (hp i hi).T, fun i hi => ?_⟩
  obtain ⟨b1, w, m, ch, co, rw, bk, g1, g2⟩ := hp ((f + i) % 10) (Nat.mod_lt _ (by omega))
  obtain ⟨rfl, rfl, rfl, g3⟩ := g2 i hi rfl
  exact ⟨ch, co, rw, bk, g1, g3⟩
theorem okB_und (hB : okB K) {g : row} : okB (setS K g) := by
  have sB : sameB K (setS K g) := fun j hj => setS_ne (by omega)
  exact sB.okB hB
end Img
/-- what is told of a tape -/
def tpT (f : row) (T : Nat) (a : Int32) (i : Nat) : row := fun j => if T ≤ j ∧ j < T + i then ((a.toUInt32 >>> ((nI (24 - 8 * (j - T))).toUInt32 &&& Int32.toUInt32 31)).toInt32 &&& 255) else f j
theorem tpT_0 {f : row} {T : Nat} {a : Int32} : tpT f T a 0 = f := by
  funext j
  unfold tpT
  rw [if_neg (by omega)]
theorem tpT_s {f : row} {T i : Nat} {a : Int32} : upd (tpT f T a i) (T + i) ((a.toUInt32 >>> ((nI (24 - 8 * i)).toUInt32 &&& Int32.toUInt32 31)).toInt32 &&& 255) = tpT f T a (i + 1) := by
  funext j
  by_cases h : j = T + i
  · subst h
    rw [pk_us]
    unfold tpT
    rw [if_pos (by omega), show T + i - T = i by omega]
  · rw [pk_un h]
    unfold tpT
    by_cases h2 : T ≤ j ∧ j < T + i
    · rw [if_pos h2, if_pos (by omega)]
    · rw [if_neg h2, if_neg (by omega)]
theorem tp_fd {f : row} {T : Nat} {a b c d e : Int32} : tpT (tpT (tpT (tpT (tpT f T a 4) (T + 4) b 4) (T + 8) c 4) (T + 12) d 4) (T + 16) e 4 = fdI f T a b c d e 20 := by
  funext j
  unfold fdI
  by_cases h : T ≤ j ∧ j < T + 20
  · rw [if_pos h]
    obtain ⟨i, rfl⟩ : ∃ i, j = T + i := ⟨j - T, by omega⟩
    have hi : i < 20 := by omega
    rw [show T + i - T = i by omega]
    unfold fdB fdW
    by_cases h16 : 16 ≤ i
    · rw [tpT, if_pos (by omega), if_neg (by omega), if_neg (by omega), if_neg (by omega), if_neg (by omega), show T + i - (T + 16) = i % 4 by omega]
    · rw [tpT, if_neg (by omega)]
      by_cases h12 : 12 ≤ i
      · rw [tpT, if_pos (by omega), if_neg (by omega), if_neg (by omega), if_neg (by omega), if_pos (by omega), show T + i - (T + 12) = i % 4 by omega]
      · rw [tpT, if_neg (by omega)]
        by_cases h8 : 8 ≤ i
        · rw [tpT, if_pos (by omega), if_neg (by omega), if_neg (by omega), if_pos (by omega), show T + i - (T + 8) = i % 4 by omega]
        · rw [tpT, if_neg (by omega)]
          by_cases h4 : 4 ≤ i
          · rw [tpT, if_pos (by omega), if_neg (by omega), if_pos (by omega), show T + i - (T + 4) = i % 4 by omega]
          · rw [tpT, if_neg (by omega), tpT, if_pos (by omega), if_pos (by omega), show T + i - T = i % 4 by omega]
  · rw [if_neg h, tpT, if_neg (by omega), tpT, if_neg (by omega), tpT, if_neg (by omega), tpT, if_neg (by omega), tpT, if_neg (by omega)]
