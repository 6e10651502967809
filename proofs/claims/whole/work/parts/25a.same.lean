/-! ===== what deeds leave as it is; the numbers stay within their bounds ===== -/
/-- K2 differs from K in the places 8 .. 33 at most -/
def sameB (K K2 : row) : Prop := ∀ j, (j < 8 ∨ 33 < j) → K2 j = K j
theorem sameB.rf {K : row} : sameB K K := fun _ _ => rfl
theorem sameB.tr {K K2 K3 : row} (h : sameB K K2) (h2 : sameB K2 K3) : sameB K K3 := fun j hj => (h2 j hj).trans (h j hj)
theorem sameB.up {K K2 : row} {j : Nat} {x : Int32} (h : sameB K K2) (hj : 8 ≤ j ∧ j ≤ 33) : sameB K (upd K2 j x) := fun q hq => by
  have : q ≠ j := by omega
  simp only [upd, if_neg this]
  exact h q hq
theorem sameB.P {K K2 : row} (h : sameB K K2) : kP K2 = kP K := by simp only [kP, h 3 (by omega)]
theorem sameB.H {K K2 : row} (h : sameB K K2) : kH K2 = kH K := by simp only [kH, h 2 (by omega)]
theorem sameB.W {K K2 : row} (h : sameB K K2) : kW K2 = kW K := by simp only [kW, h 1 (by omega)]
theorem sameB.okP {K K2 : row} (h : sameB K K2) (h0 : okP K) : okP K2 := by
  unfold Jvm.Pilot.@@N@@.okP at *
  rw [h.P, h.H, h.W, h 3 (by omega), h 2 (by omega), h 1 (by omega)]
  exact h0
theorem sameB.code {K K2 : row} (h : sameB K K2) {mn pl : Nat} (h1 : mn < 8) (h2 : 33 < pl) : codeK K2 mn pl = codeK K mn pl := by
  unfold codeK
  rw [h mn (by omega)]
  exact List.map_congr_left fun i _ => h (pl + i) (by omega)
theorem sameB.law {K K2 : row} (h : sameB K K2) {mn pl : Nat} (h1 : mn < 8) (h2 : 33 < pl) {as : row} : lawK K2 mn pl as = lawK K mn pl as := by
  unfold lawK
  rw [h.code h1 h2]
theorem sameB.okL {K K2 : row} (h : sameB K K2) {mn pl : Nat} (h1 : mn < 8) (h2 : 33 < pl) {w : Int32} {fb : Bool} (h0 : okL K mn pl w fb) : okL K2 mn pl w fb := by
  unfold Jvm.Pilot.@@N@@.okL at *
  rw [h mn (by omega), h.code h1 h2]
  exact h0
def okB (K : row) : Prop := okP K ∧ (K 4 = 0 ∨ okL K 4 319 104 true) ∧ (K 5 = 0 ∨ okL K 5 1219 100 false) ∧ (K 6 = 0 ∨ okL K 6 2119 102 false)
theorem sameB.okB {K K2 : row} (h : sameB K K2) (h0 : okB K) : okB K2 := by
  refine ⟨h.okP h0.1, ?_, ?_, ?_⟩
  · rw [h 4 (by omega)]
    exact h0.2.1.imp id (fun x => h.okL (by omega) (by omega) x)
  · rw [h 5 (by omega)]
    exact h0.2.2.1.imp id (fun x => h.okL (by omega) (by omega) x)
  · rw [h 6 (by omega)]
    exact h0.2.2.2.imp id (fun x => h.okL (by omega) (by omega) x)
theorem sameB.asl {K K2 : row} (h : sameB K K2) (p : Nat) : aslK K2 p = aslK K p := by simp only [aslK, h 42 (by omega)]
theorem fnd_lt {f : Nat → Bool} : ∀ {m i p : Nat}, fnd f i m = some p → i ≤ p ∧ p < i + m ∧ f p = true
  | 0, _, _, h => by simp [fnd] at h
  | m + 1, i, p, h => by
    simp only [fnd] at h
    split at h
    · rename_i h1
      cases h
      exact ⟨Nat.le_refl _, by omega, h1⟩
    · obtain ⟨h1, h2, h3⟩ := fnd_lt h
      exact ⟨by omega, by omega, h3⟩
theorem fnd_no {f : Nat → Bool} : ∀ {m i : Nat}, fnd f i m = none → ∀ p, i ≤ p → p < i + m → f p = false
  | 0, _, _, p, h1, h2 => by omega
  | m + 1, i, h, p, h1, h2 => by
    simp only [fnd] at h
    split at h
    · cases h
    · rename_i h3
      rcases Nat.eq_or_lt_of_le h1 with e | e
      · subst e
        simpa using h3
      · exact fnd_no h p (by omega) (by omega)
theorem fnd_none {f : Nat → Bool} : ∀ {m i : Nat}, (∀ p, i ≤ p → p < i + m → f p = false) → fnd f i m = none
  | 0, _, _ => rfl
  | m + 1, i, h => by
    simp only [fnd, h i (by omega) (by omega)]
    exact fnd_none fun p h1 h2 => h p (by omega) (by omega)
theorem fnd_first {f : Nat → Bool} : ∀ {m i p : Nat}, fnd f i m = some p → ∀ q, i ≤ q → q < p → f q = false
  | 0, _, _, h, _, _, _ => by simp [fnd] at h
  | m + 1, i, p, h, q, h1, h2 => by
    simp only [fnd] at h
    split at h
    · cases h
      omega
    · rename_i h3
      rcases Nat.eq_or_lt_of_le h1 with e | e
      · subst e
        simpa using h3
      · exact fnd_first h q (by omega) h2
theorem sitK_lt {K : row} {c r : Int32} {p : Nat} (h : sitK K c r = some p) : p < kP K ∧ K (16 + p) = r ∧ K (8 + p) = c ∧ r ≠ -1 := by
  obtain ⟨-, h2, h3⟩ := fnd_lt h
  simp only [decide_eq_true_eq] at h3
  exact ⟨by omega, h3⟩
theorem nI_ne1 {p : Nat} (h : p < 2 ^ 31) : ¬ nI p = -1 := fun e => by
  have := congrArg Int32.toInt e
  rw [nI_toInt h] at this
  have e1 : (-1 : Int32).toInt = -1 := by decide
  rw [e1] at this
  omega
/-- who comes first, by the rows behind the free chair -/
def whoC (K : row) (c : Int32) (free r m : Nat) : Int32 := match fnd (comes K c free) r m with
  | none => -1
  | some q => oI (sitK K c (nI q))
theorem fwd_none {c : Int32} {free : Nat} {K : row} {k : Nat} : ∀ {m r : Nat}, fnd (comes K c free) r m = none → fwd c m r free K k = (K, k)
  | 0, _, _ => rfl
  | m + 1, r, h => by
    simp only [fnd] at h
    split at h
    · cases h
    · rename_i h1
      rw [fwd, if_neg h1]
      exact fwd_none h
theorem fwd_some {c : Int32} {free : Nat} {K : row} {k q p : Nat} : ∀ {m r : Nat}, fnd (comes K c free) r m = some q → sitK K c (nI q) = some p → fwd c m r free K k = fwd c (r + m - (q + 1)) (q + 1) q (upd K (16 + p) (nI free)) (k + 1)
  | 0, _, h, _ => by simp [fnd] at h
  | m + 1, r, h, hs => by
    simp only [fnd] at h
    split at h
    · rename_i h1
      cases h
      rw [fwd, if_pos h1, hs]
      first | rw [show r + (m + 1) - (r + 1) = m by omega] | rw [show q + (m + 1) - (q + 1) = m by omega]
    · rename_i h1
      rw [fwd, if_neg h1, fwd_some h hs]
      rw [show r + 1 + m = r + (m + 1) by omega]
theorem fwd_same {c : Int32} : ∀ {m r free : Nat} {K : row} {k : Nat}, kP K ≤ 8 → sameB K (fwd c m r free K k).1
  | 0, _, _, _, _, _ => sameB.rf
  | m + 1, r, free, K, k, h => by
    rw [fwd]
    split
    · split
      · rename_i p hp
        have hlt := (sitK_lt hp).1
        have h1 : sameB K (upd K (16 + p) (nI free)) := sameB.rf.up (by omega)
        exact h1.tr (fwd_same (by rw [h1.P]; exact h))
      · exact sameB.rf
    · exact fwd_same h
theorem riseK_same {K : row} {p : Nat} {s : Int32} (h : kP K ≤ 8) (hp : p < 8) : sameB K (riseK K p s).1 := by
  have h1 : sameB K (upd (upd K (16 + p) (-1)) (24 + p) s) := (sameB.rf.up (by omega)).up (by omega)
  exact h1.tr (fwd_same (by rw [h1.P]; exact h))
theorem sitdK_same {K : row} {p : Nat} {c : Int32} (hp : p < 8) : sameB K (sitdK K p c) := ((sameB.rf.up (by omega)).up (by omega)).up (by omega)
theorem swapK_same {K : row} {p q : Nat} (hp : p < 8) (hq : q < 8) : sameB K (swapK K p q) := (((sameB.rf.up (by omega)).up (by omega)).up (by omega)).up (by omega)
theorem downK_same {m : Int32} : ∀ {j p : Nat} {K : row}, p + j ≤ 8 → sameB K (downK m j p K)
  | 0, _, _, _ => sameB.rf
  | j + 1, p, K, h => by
    rw [downK]
    refine sameB.tr ?_ (downK_same (by omega))
    split
    · exact sitdK_same (by omega)
    · exact sameB.rf
theorem planK_same {m : Int32} : ∀ {j p : Nat} {K : row}, kP K ≤ 8 → p + j ≤ 8 → sameB K (planK m j p K)
  | 0, _, _, _, _ => sameB.rf
  | j + 1, p, K, h8, h => by
    rw [planK]
    have h1 : sameB K (if K (43 + p) = m ∧ upK K p = false ∧ aslK K p = false then (riseK K p (m + K (51 + p))).1 else K) := by
      split
      · exact riseK_same h8 (by omega)
      · exact sameB.rf
    exact h1.tr (planK_same (by rw [h1.P]; exact h8) (by omega))
theorem wetL_same {t : Int32} : ∀ {j p : Nat} {K : row}, sameB K (wetL t j p K)
  | 0, _, _ => sameB.rf
  | j + 1, p, K => by
    rw [wetL]
    exact (sameB.rf.up (by omega)).tr wetL_same
/-- columns and rows within the beach -/
def vS (K : row) : Prop := ∀ p, p < kP K → (∃ c, c < kW K ∧ K (8 + p) = nI c) ∧ (K (16 + p) = -1 ∨ ∃ w, w < kH K ∧ K (16 + p) = nI w)
