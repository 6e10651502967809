/-! ===== minutes: what is wet, which minute it is ===== -/
theorem fwd_hi {c : Int32} {j : Nat} (hj : 32 ≤ j) : ∀ {m w free : Nat} {K : row} {k : Nat}, kP K ≤ 8 → (fwd c m w free K k).1 j = K j
  | 0, _, _, _, _, _ => rfl
  | m + 1, w, free, K, k, h => by
    rw [fwd]
    split
    · split
      · rename_i p hp
        have hlt := (sitK_lt hp).1
        have h1 : sameB K (upd K (16 + p) (nI free)) := sameB.rf.up (by omega)
        rw [fwd_hi hj (by rw [h1.P]; exact h)]
        exact pk_un (by omega)
      · rfl
    · exact fwd_hi hj h
theorem rise_hi {K : row} {p j : Nat} {s : Int32} (h : kP K ≤ 8) (hp : p < 8) (hj : 32 ≤ j) : (riseK K p s).1 j = K j := by
  have h1 : sameB K (upd (upd K (16 + p) (-1)) (24 + p) s) := (sameB.rf.up (by omega)).up (by omega)
  rw [riseK, fwd_hi hj (by rw [h1.P]; exact h), pk_un (by omega), pk_un (by omega)]
theorem sitd_hi {K : row} {p j : Nat} {c : Int32} (hp : p < 8) (hj : 32 ≤ j) : sitdK K p c j = K j := by
  rw [sitdK, pk_un (by omega), pk_un (by omega), pk_un (by omega)]
theorem swap_hi {K : row} {p q j : Nat} (hp : p < 8) (hq : q < 8) (hj : 24 ≤ j) : swapK K p q j = K j := by
  simp only [swapK]
  rw [pk_un (by omega), pk_un (by omega), pk_un (by omega), pk_un (by omega)]
theorem down_hi {m : Int32} {q : Nat} (hq : 32 ≤ q) : ∀ {j p : Nat} {K : row}, p + j ≤ 8 → downK m j p K q = K q
  | 0, _, _, _ => rfl
  | j + 1, p, K, h => by
    rw [downK, down_hi hq (by omega)]
    split
    · exact sitd_hi (by omega) hq
    · rfl
theorem plan_hi {m : Int32} {q : Nat} (hq : 32 ≤ q) : ∀ {j p : Nat} {K : row}, kP K ≤ 8 → p + j ≤ 8 → planK m j p K q = K q
  | 0, _, _, _, _ => rfl
  | j + 1, p, K, h8, h => by
    rw [planK]
    split
    · have h1 : sameB K (riseK K p (m + K (51 + p))).1 := riseK_same h8 (by omega)
      rw [plan_hi hq (by rw [h1.P]; exact h8) (by omega)]
      exact rise_hi h8 (by omega) hq
    · exact plan_hi hq h8 (by omega)
theorem wet_set {t : Int32} : ∀ {j p : Nat} {K : row}, p + j ≤ 8 → setP (K 32) → setP (wetL t j p K 32)
  | 0, _, _, _, h => h
  | j + 1, p, K, hp, h => by
    rw [wetL]
    refine wet_set (by omega) ?_
    rw [pk_us]
    split
    · exact setP_or h (by omega)
    · obtain ⟨v, hv, e⟩ := h
      exact ⟨v, hv, by rw [e]; simp⟩
/-- what stands ahead of the wetting -/
def dryK (K : row) : row := planK (K 33) (kP K) 0 (downK (K 33) (kP K) 0 K)
/-- a minute, the tide being up so far -/
def minT (t : Int32) (K : row) : row := upd (wetL t (kP K) 0 (dryK K)) 33 (wetL t (kP K) 0 (dryK K) 33 + 1)
theorem minK_T {K : row} : minK K = minT (tideK (dryK K) (K 33)) K := rfl
theorem dry_same {K : row} (h8 : kP K ≤ 8) : sameB K (dryK K) := by
  have h1 : sameB K (downK (K 33) (kP K) 0 K) := downK_same (by omega)
  exact h1.tr (planK_same (by rw [h1.P]; exact h8) (by omega))
theorem dry_hi {K : row} (h8 : kP K ≤ 8) {j : Nat} (hj : 32 ≤ j) : dryK K j = K j := by
  have h1 : sameB K (downK (K 33) (kP K) 0 K) := downK_same (by omega)
  rw [dryK, plan_hi hj (by rw [h1.P]; exact h8) (by omega), down_hi hj (by omega)]
theorem tide_same {K K2 : row} (h : sameB K K2) (m : Int32) : tideK K2 m = tideK K m := by
  unfold tideK
  rw [h 5 (by omega), h 2 (by omega), h.law (by omega) (by omega)]
theorem wave_same {K K2 : row} (h : sameB K K2) (c w m : Int32) : waveK K2 c w m = waveK K c w m := by
  unfold waveK
  rw [h 6 (by omega), h.law (by omega) (by omega)]
theorem minT_same {t : Int32} {K : row} (h8 : kP K ≤ 8) : sameB K (minT t K) := ((dry_same h8).tr wetL_same).up (by omega)
theorem minT_33 {t : Int32} {K : row} (h8 : kP K ≤ 8) : minT t K 33 = K 33 + 1 := by
  rw [minT, pk_us, wetL_e 33 (by omega), dry_hi h8 (by omega)]
theorem minT_set {t : Int32} {K : row} (h8 : kP K ≤ 8) (h : setP (K 32)) : setP (minT t K 32) := by
  rw [minT, pk_un (by omega)]
  exact wet_set (by omega) (by rw [dry_hi h8 (by omega)]; exact h)
theorem minT_e {t : Int32} {K : row} {j : Nat} (hj : j < 32) : minT t K j = dryK K j := by
  rw [minT, pk_un (by omega), wetL_e j (by omega)]
theorem setP_go {m : Nat} : ∀ {K : row}, kP K ≤ 8 → setP (K 32) → setP (goK m K 32) := by
  induction m with
  | zero => intro K _ h; exact h
  | succ m ih =>
    intro K h8 h
    have h1 := minK_same h8
    exact ih (by rw [h1.P]; exact h8) (by rw [minK_T]; exact minT_set h8 h)
/-- K's own, put back as the i-th that was kept -/
theorem und_ix {d i : Nat} : 59 + 26 * nI d + nI i = nI (59 + 26 * d + i) := kp_ix
theorem argm_congr {f g : Nat → Int32} : ∀ {m p : Nat} {b x : Int32}, (∀ q, p ≤ q → q < p + m → f q = g q) → argm f m p b x = argm g m p b x
  | 0, _, _, _, _ => rfl
  | m + 1, p, b, x, h => by
    rw [argm, argm, h p (by omega) (by omega), argm_congr (fun q h1 h2 => h q (by omega) (by omega)), argm_congr (fun q h1 h2 => h q (by omega) (by omega))]
theorem whyR_c {K : row} {z : Int} : whyR K z = 0 ∨ whyR K z = 1 ∨ whyR K z = 2 ∨ whyR K z = 3 := by
  unfold whyR
  (repeat' split) <;> decide
theorem whyS_c {K : row} {z c : Int} : whyS K z c = 0 ∨ whyS K z c = 1 ∨ whyS K z c = 2 ∨ whyS K z c = 3 := by
  unfold whyS
  (repeat' split) <;> decide
theorem whyX_c {K : row} {z c : Int} : whyX K z c = 0 ∨ whyX K z c = 1 ∨ whyX K z c = 2 ∨ whyX K z c = 3 := by
  unfold whyX
  (repeat' split) <;> decide
theorem whyR_0 {K : row} {z : Int} (h : whyR K z = 0) : ∃ j, pN (kP K) z = some j ∧ K (16 + j) ≠ -1 ∧ aslK K j = false := by
  unfold whyR at h
  split at h
  · cases h
  · rename_i j hj
    refine ⟨j, hj, ?_⟩
    split at h
    · cases h
    · rename_i h1
      split at h
      · cases h
      · rename_i h2
        exact ⟨h1, by simpa using h2⟩
theorem whyS_0 {K : row} {z c : Int} (h : whyS K z c = 0) : ∃ j d, pN (kP K) z = some j ∧ pN (kW K) c = some d ∧ K (16 + j) = -1 ∧ freeK K (nI d) ≠ none := by
  unfold whyS at h
  split at h
  · rename_i j d h1 h2
    refine ⟨j, d, h1, h2, ?_⟩
    split at h
    · rename_i h3
      split at h
      · cases h
      · rename_i h4
        exact ⟨h3, h4⟩
    · cases h
  · cases h
theorem whyX_0 {K : row} {z c : Int} (h : whyX K z c = 0) : ∃ j d, pN (kP K) z = some j ∧ pN (kP K) c = some d ∧ j ≠ d ∧ K (16 + j) ≠ -1 ∧ K (16 + d) ≠ -1 := by
  unfold whyX at h
  split at h
  · rename_i j d h1 h2
    refine ⟨j, d, h1, h2, ?_⟩
    split at h
    · cases h
    · rename_i h3
      split at h
      · cases h
      · rename_i h4
        rw [not_or] at h4
        exact ⟨h3, h4⟩
  · cases h
