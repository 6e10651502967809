/-! ===== loops: so many rounds, and what holds ahead of each ===== -/
theorem go_iter {Γ : gam} {R : Room} {M : mth} {Q : qp} {cells slots pc : Nat} {lv : List (Option Value)} {σ : sto} {n : Nat} (N : Nat) (I : Nat → List (Option Value) → sto → Nat → Prop) (h0 : I 0 lv σ n)
    (hs : ∀ i lv σ n, i < N → I i lv σ n → (∀ lv' σ' n', I (i + 1) lv' σ' n' → Go Γ R M Q cells slots pc lv' [] σ' n') → Go Γ R M Q cells slots pc lv [] σ n)
    (he : ∀ lv σ n, I N lv σ n → Go Γ R M Q cells slots pc lv [] σ n) : Go Γ R M Q cells slots pc lv [] σ n := by
  have key : ∀ (m i : Nat), i + m = N → ∀ lv σ n, I i lv σ n → Go Γ R M Q cells slots pc lv [] σ n := by
    intro m
    induction m with
    | zero =>
      intro i hi lv σ n hI
      have e : i = N := by omega
      subst e
      exact he lv σ n hI
    | succ m ih =>
      intro i hi lv σ n hI
      exact hs i lv σ n (by omega) hI (fun lv' σ' n' h' => ih (i + 1) (by omega) lv' σ' n' h')
  exact key N 0 (by omega) lv σ n h0
/-- as go_iter, and the counter comes down -/
theorem downK_step {m : Int32} {P i : Nat} {K : row} (h : i < P) : downK m (P - i) i K = downK m (P - (i + 1)) (i + 1) (if upK K i = true ∧ K (24 + i) ≠ -1 ∧ K (24 + i) ≤ m ∧ freeK K (K (8 + i)) ≠ none then sitdK K i (K (8 + i)) else K) := by
  rw [show P - i = (P - (i + 1)) + 1 by omega, downK]
theorem planK_step {m : Int32} {P i : Nat} {K : row} (h : i < P) : planK m (P - i) i K = planK m (P - (i + 1)) (i + 1) (if K (43 + i) = m ∧ upK K i = false ∧ aslK K i = false then (riseK K i (m + K (51 + i))).1 else K) := by
  rw [show P - i = (P - (i + 1)) + 1 by omega, planK]
theorem wetL_step {t : Int32} {P i : Nat} {K : row} (h : i < P) : wetL t (P - i) i K = wetL t (P - (i + 1)) (i + 1) (upd K 32 (K 32 ||| (if upK K i = false ∧ K (16 + i) < t then (1 : Int32) <<< (nI i &&& 31) else 0))) := by
  rw [show P - i = (P - (i + 1)) + 1 by omega, wetL]
theorem upK_iff {K : row} {p : Nat} : upK K p = true ↔ K (16 + p) = -1 := by simp [upK]
theorem upK_f {K : row} {p : Nat} : upK K p = false ↔ K (16 + p) ≠ -1 := by simp [upK]
theorem oI_none {x : Option Nat} (h : ∀ p, x = some p → p < 100) : oI x = -1 ↔ x = none := by
  cases x with
  | none => simp [oI]
  | some p =>
    simp only [oI, reduceCtorEq, iff_false]
    exact nI_ne1 (by have := h p rfl; omega)
theorem lastF_lt {K : row} {c : Int32} : ∀ {m w : Nat}, lastF K c m = some w → w < m ∧ sitK K c (nI w) = none
  | 0, _, h => by simp [lastF] at h
  | m + 1, w, h => by
    rw [lastF] at h
    split at h
    · rename_i h1
      cases h
      exact ⟨by omega, h1⟩
    · obtain ⟨h1, h2⟩ := lastF_lt h
      exact ⟨by omega, h2⟩
theorem freeK_none {K : row} {c : Int32} (hH : kH K ≤ 5) : oI (freeK K c) = -1 ↔ freeK K c = none := oI_none fun p hp => by have := (lastF_lt hp).1; omega
/-! what holds of rows within the beach stays so -/
theorem vS_fwd {c : Int32} : ∀ {m w free : Nat} {K : row} {k : Nat}, vS K → kP K ≤ 8 → free < kH K → w + m ≤ kH K → vS (fwd c m w free K k).1
  | 0, _, _, _, _, h, _, _, _ => h
  | m + 1, w, free, K, k, h, h8, hf, hw => by
    rw [fwd]
    split
    · split
      · rename_i p hp
        have hlt := (sitK_lt hp).1
        have hB : sameB K (upd K (16 + p) (nI free)) := sameB.rf.up (by omega)
        refine vS_fwd ?_ (by rw [hB.P]; exact h8) (by rw [hB.H]; omega) (by rw [hB.H]; omega)
        intro q hq
        rw [hB.P] at hq
        obtain ⟨a, b⟩ := h q hq
        rw [hB.W, hB.H]
        refine ⟨?_, ?_⟩
        · simpa [upd, show 8 + q ≠ 16 + p by omega] using a
        · by_cases e : q = p
          · subst e
            exact Or.inr ⟨free, hf, by simp [upd]⟩
          · simpa [upd, e] using b
      · exact h
    · exact vS_fwd h h8 hf (by omega)
theorem vS_up {K : row} {p : Nat} {s : Int32} (h : vS K) (hp : p < 8) (h8 : kP K ≤ 8) : vS (upd (upd K (16 + p) (-1)) (24 + p) s) := by
  have hB : sameB K (upd (upd K (16 + p) (-1)) (24 + p) s) := (sameB.rf.up (by omega)).up (by omega)
  intro q hq
  rw [hB.P] at hq
  obtain ⟨a, b⟩ := h q hq
  rw [hB.W, hB.H]
  refine ⟨?_, ?_⟩
  · simpa [upd, show 8 + q ≠ 16 + p by omega, show 8 + q ≠ 24 + p by omega] using a
  · by_cases e : q = p
    · subst e
      exact Or.inl (by simp [upd])
    · simpa [upd, e, show 16 + q ≠ 24 + p by omega] using b
theorem vS_rise {K : row} {p : Nat} {s : Int32} (h : vS K) (hp : p < kP K) (h8 : kP K ≤ 8) (h5 : kH K ≤ 5) (hu : K (16 + p) ≠ -1) : vS (riseK K p s).1 := by
  have hB : sameB K (upd (upd K (16 + p) (-1)) (24 + p) s) := (sameB.rf.up (by omega)).up (by omega)
  obtain ⟨w, hw, e⟩ := (h p hp).2.resolve_left hu
  unfold riseK
  rw [e, nI_clamp (by omega)]
  exact vS_fwd (vS_up h (by omega) h8) (by rw [hB.P]; exact h8) (by rw [hB.H]; omega) (by rw [hB.H]; omega)
theorem vS_sitd {K : row} {p c : Nat} (h : vS K) (hp : p < kP K) (h8 : kP K ≤ 8) (hc : c < kW K) : vS (sitdK K p (nI c)) := by
  have hB : sameB K (sitdK K p (nI c)) := sitdK_same (by omega)
  intro q hq
  rw [hB.P] at hq
  obtain ⟨a, b⟩ := h q hq
  rw [hB.W, hB.H]
  refine ⟨?_, ?_⟩
  · by_cases e : q = p
    · subst e
      exact ⟨c, hc, by simp [sitdK, upd]⟩
    · simpa [sitdK, upd, e, show 8 + q ≠ 16 + p by omega, show 8 + q ≠ 24 + p by omega] using a
  · by_cases e : q = p
    · subst e
      have e1 : sitdK K q (nI c) (16 + q) = oI (freeK K (nI c)) := by simp [sitdK, upd, show 16 + q ≠ 24 + q by omega, show 16 + q ≠ 8 + q by omega]
      rw [e1]
      cases hfr : freeK K (nI c) with
      | none => exact Or.inl rfl
      | some w => exact Or.inr ⟨w, (lastF_lt hfr).1, rfl⟩
    · simpa [sitdK, upd, e, show 16 + q ≠ 24 + p by omega, show 16 + q ≠ 8 + p by omega] using b
theorem vS_swap {K : row} {p q : Nat} (h : vS K) (hp : p < kP K) (hq : q < kP K) (h8 : kP K ≤ 8) : vS (swapK K p q) := by
  have hB : sameB K (swapK K p q) := swapK_same (by omega) (by omega)
  intro z hz
  rw [hB.P] at hz
  rw [hB.W, hB.H]
  have gc : ∃ w, w < kP K ∧ swapK K p q (8 + z) = K (8 + w) := by
    by_cases e1 : z = q
    · exact ⟨p, hp, by subst e1; simp [swapK, upd, show 8 + z ≠ 16 + z by omega, show 8 + z ≠ 16 + p by omega]⟩
    · by_cases e2 : z = p
      · exact ⟨q, hq, by subst e2; simp [swapK, upd, e1, show 8 + z ≠ 16 + z by omega, show 8 + z ≠ 16 + q by omega]⟩
      · exact ⟨z, hz, by simp [swapK, upd, e1, e2, show 8 + z ≠ 16 + p by omega, show 8 + z ≠ 16 + q by omega]⟩
  have gr : ∃ w, w < kP K ∧ swapK K p q (16 + z) = K (16 + w) := by
    by_cases e1 : z = q
    · exact ⟨p, hp, by subst e1; simp [swapK, upd]⟩
    · by_cases e2 : z = p
      · exact ⟨q, hq, by subst e2; simp [swapK, upd, e1]⟩
      · exact ⟨z, hz, by simp [swapK, upd, e1, e2, show 16 + z ≠ 8 + p by omega, show 16 + z ≠ 8 + q by omega]⟩
  obtain ⟨w1, h1, e1⟩ := gc
  obtain ⟨w2, h2, e2⟩ := gr
  rw [e1, e2]
  exact ⟨(h w1 h1).1, (h w2 h2).2⟩
theorem vS_down {m : Int32} : ∀ {j p : Nat} {K : row}, vS K → kP K ≤ 8 → p + j ≤ kP K → vS (downK m j p K)
  | 0, _, _, h, _, _ => h
  | j + 1, p, K, h, h8, hj => by
    rw [downK]
    split
    · obtain ⟨⟨c, hc, e⟩, -⟩ := h p (by omega)
      have hB : sameB K (sitdK K p (K (8 + p))) := sitdK_same (by omega)
      refine vS_down ?_ (by rw [hB.P]; exact h8) (by rw [hB.P]; omega)
      rw [e]
      exact vS_sitd h (by omega) h8 hc
    · exact vS_down h h8 (by omega)
theorem vS_plan {m : Int32} : ∀ {j p : Nat} {K : row}, vS K → kP K ≤ 8 → kH K ≤ 5 → p + j ≤ kP K → vS (planK m j p K)
  | 0, _, _, h, _, _, _ => h
  | j + 1, p, K, h, h8, h5, hj => by
    rw [planK]
    split
    · rename_i hc
      have hB : sameB K (riseK K p (m + K (51 + p))).1 := riseK_same h8 (by omega)
      exact vS_plan (vS_rise h (by omega) h8 h5 (upK_f.mp hc.2.1)) (by rw [hB.P]; exact h8) (by rw [hB.H]; exact h5) (by rw [hB.P]; omega)
    · exact vS_plan h h8 h5 (by omega)
theorem vS_wet {K K2 : row} (hB : sameB K K2) (h : vS K) (e : ∀ j, 8 ≤ j → j < 24 → K2 j = K j) (h8 : kP K ≤ 8) : vS K2 := by
  intro q hq
  rw [hB.P] at hq
  rw [hB.W, hB.H, e (8 + q) (by omega) (by omega), e (16 + q) (by omega) (by omega)]
  exact h q hq
theorem wetL_e {t : Int32} : ∀ {j p : Nat} {K : row} (q : Nat), q ≠ 32 → wetL t j p K q = K q
  | 0, _, _, _, _ => rfl
  | j + 1, p, K, q, h => by
    rw [wetL, wetL_e q h]
    simp [upd, h]
theorem minK_same {K : row} (h8 : kP K ≤ 8) : sameB K (minK K) := by
  unfold minK
  have h1 : sameB K (downK (K 33) (kP K) 0 K) := downK_same (by omega)
  have h2 : sameB K (planK (K 33) (kP K) 0 (downK (K 33) (kP K) 0 K)) := h1.tr (planK_same (by rw [h1.P]; exact h8) (by omega))
  exact (h2.tr wetL_same).up (by omega)
theorem vS_min {K : row} (h : vS K) (h8 : kP K ≤ 8) (h5 : kH K ≤ 5) : vS (minK K) := by
  unfold minK
  have h1 : sameB K (downK (K 33) (kP K) 0 K) := downK_same (by omega)
  have v1 : vS (downK (K 33) (kP K) 0 K) := vS_down h h8 (by omega)
  have h2 := planK_same (m := K 33) (j := kP K) (p := 0) (K := downK (K 33) (kP K) 0 K) (by rw [h1.P]; exact h8) (by omega)
  have v2 : vS (planK (K 33) (kP K) 0 (downK (K 33) (kP K) 0 K)) := vS_plan v1 (by rw [h1.P]; exact h8) (by rw [h1.H]; exact h5) (by rw [h1.P]; omega)
  refine vS_wet (wetL_same.up (by omega)) v2 (fun j h1 h2 => ?_) (by rw [h2.P, h1.P]; exact h8)
  simp only [upd, show j ≠ 33 by omega, if_false]
  exact wetL_e j (by omega)
