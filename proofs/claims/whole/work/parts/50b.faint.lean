/-! ===== whom to have faint: the fewest are of the column ===== -/
theorem sz_cnt : ∀ v : Fin 256, szK 8 (nI v.val) = cnt8 (nI v.val) := by decide +kernel
theorem sz_c {s : Int32} (hs : setP s) : szK 8 s = cnt8 s := by
  obtain ⟨v, hv, rfl⟩ := hs
  exact sz_cnt ⟨v, hv⟩
def subN (t : Nat) (A : Int32) : Prop := nI t &&& (A ^^^ (-1)) = 0
theorem sub_has {t : Nat} {A : Int32} (ht : t < 256) (hA : setP A) : subN t A ↔ ∀ q, q < 8 → hasB (nI t) (nI q) = true → hasB A (nI q) = true := by
  have st : setP (nI t) := ⟨t, ht, rfl⟩
  unfold subN
  rw [set_0 (setP_aa st)]
  constructor
  · intro h q hq h1
    have h2 := h q hq
    rw [has_an st hA hq, h1, Bool.true_and] at h2
    simpa using h2
  · intro h q hq
    rw [has_an st hA hq]
    cases h1 : hasB (nI t) (nI q)
    · rfl
    · rw [h q hq h1]; rfl
/-- b is the best of the sets below m -/
def bst (f : Int32 → Bool) (A : Int32) (m : Nat) (b : Int32) : Prop := (b = -1 ∧ ∀ t, t < m → subN t A → f (nI t) = false) ∨ ∃ s, s < m ∧ b = nI s ∧ subN s A ∧ f (nI s) = true ∧ ∀ t, t < m → subN t A → f (nI t) = true → szK 8 (nI s) < szK 8 (nI t) ∨ (szK 8 (nI s) = szK 8 (nI t) ∧ s ≤ t)
theorem szI_lt {s t : Nat} (hs : s < 256) (ht : t < 256) : szI (nI s) < szI (nI t) ↔ szK 8 (nI s) < szK 8 (nI t) := by
  have h1 : szK 8 (nI s) ≤ 8 := (sz_rec ⟨s, hs⟩).2.2.2
  have h2 : szK 8 (nI t) ≤ 8 := (sz_rec ⟨t, ht⟩).2.2.2
  unfold szI
  exact nI_ltI (by omega) (by omega)
theorem bst_step {f : Int32 → Bool} {A b : Int32} {i : Nat} (hi : i < 256) (h : bst f A i b) : bst f A (i + 1) (if fntB f A i b = true then nI i else b) := by
  rcases h with ⟨rfl, h⟩ | ⟨s, hs, rfl, h1, h2, h3⟩
  · by_cases hb : fntB f A i (-1) = true
    · rw [if_pos hb]
      simp only [fntB, Bool.and_eq_true, decide_eq_true_eq] at hb
      refine Or.inr ⟨i, by omega, rfl, hb.1.1, hb.2, fun t ht hsub hf => ?_⟩
      by_cases e : t = i
      · subst e; exact Or.inr ⟨rfl, Nat.le_refl _⟩
      · rw [h t (by omega) hsub] at hf; cases hf
    · rw [if_neg hb]
      refine Or.inl ⟨rfl, fun t ht hsub => ?_⟩
      by_cases e : t = i
      · subst e
        cases hf : f (nI t)
        · rfl
        · exact absurd (by simp only [fntB, Bool.and_eq_true, decide_eq_true_eq]; exact ⟨⟨hsub, Or.inl trivial⟩, hf⟩) hb
      · exact h t (by omega) hsub
  · by_cases hb : fntB f A i (nI s) = true
    · rw [if_pos hb]
      simp only [fntB, Bool.and_eq_true, decide_eq_true_eq] at hb
      have hlt : szK 8 (nI i) < szK 8 (nI s) := (szI_lt hi (by omega)).mp (hb.1.2.resolve_left (nI_ne1 (by omega)))
      refine Or.inr ⟨i, by omega, rfl, hb.1.1, hb.2, fun t ht hsub hf => ?_⟩
      by_cases e : t = i
      · subst e; exact Or.inr ⟨rfl, Nat.le_refl _⟩
      · rcases h3 t (by omega) hsub hf with h4 | h4
        · exact Or.inl (by omega)
        · exact Or.inl (by omega)
    · rw [if_neg hb]
      refine Or.inr ⟨s, by omega, rfl, h1, h2, fun t ht hsub hf => ?_⟩
      by_cases e : t = i
      · subst e
        have hn : ¬ szK 8 (nI t) < szK 8 (nI s) := fun hlt => hb (by simp only [fntB, Bool.and_eq_true, decide_eq_true_eq]; exact ⟨⟨hsub, Or.inr ((szI_lt hi (by omega)).mpr hlt)⟩, hf⟩)
        by_cases e2 : szK 8 (nI s) < szK 8 (nI t)
        · exact Or.inl e2
        · exact Or.inr ⟨by omega, by omega⟩
      · exact h3 t (by omega) hsub hf
theorem bst_all {f : Int32 → Bool} {A : Int32} : ∀ {m i : Nat} {b : Int32}, i + m ≤ 256 → bst f A i b → bst f A (i + m) (fntF f A m i b)
  | 0, _, _, _, h => h
  | m + 1, i, b, hi, h => by
    rw [fntF]
    have := bst_all (m := m) (i := i + 1) (by omega) (bst_step (by omega) h)
    rw [show i + (m + 1) = i + 1 + m by omega]
    exact this
theorem sub_le {t a : Nat} (ht : t < 256) (ha : a < 256) (h : subN t (nI a)) : t ≤ a := by
  have h1 := (sub_has ht ⟨a, ha, rfl⟩).mp h
  have e : t &&& a = t := by
    apply Nat.eq_of_testBit_eq
    intro q
    rw [Nat.testBit_and]
    by_cases hq : q < 8
    · have h2 := h1 q hq
      rw [hb_nat ht hq, hb_nat ha hq] at h2
      cases e1 : t.testBit q
      · rfl
      · rw [h2 e1]; rfl
    · have h2 : 2 ^ 8 ≤ 2 ^ q := Nat.pow_le_pow_right (by omega) (by omega)
      rw [Nat.testBit_lt_two_pow (show t < 2 ^ q by omega)]; rfl
  have := Nat.and_le_right (n := t) (m := a)
  omega
/-- the sets of the column alone do as well -/
theorem fnt_eq {f : Int32 → Bool} {A B c : Int32} (hA : setP A) (hB : setP B) (hc : setP c) (hAB : ∀ q, q < 8 → hasB B (nI q) = (hasB A (nI q) && hasB c (nI q))) (hf : ∀ t, t < 256 → subN t A → f (nI t &&& c) = f (nI t)) : fntF f B 256 0 (-1) = fntF f A (A.toNatClampNeg + 1) 0 (-1) := by
  obtain ⟨a, ha, rfl⟩ := hA
  rw [nI_clamp (by omega)]
  have b0 : ∀ A, bst f A 0 (-1) := fun A => Or.inl ⟨rfl, fun t ht => by omega⟩
  have h1 := bst_all (m := 256) (i := 0) (by omega) (b0 B)
  have h2 := bst_all (m := a + 1) (i := 0) (by omega) (b0 (nI a))
  rw [Nat.zero_add] at h1 h2
  have sBA : ∀ t, t < 256 → subN t B → subN t (nI a) := fun t ht h => (sub_has ht ⟨a, ha, rfl⟩).mpr fun q hq h9 => by
    have := (sub_has ht hB).mp h q hq h9
    rw [hAB q hq, Bool.and_eq_true] at this
    exact this.1
  -- a best one of A is one of B
  have key : ∀ s, s < 256 → subN s (nI a) → f (nI s) = true → (∀ t, t < a + 1 → subN t (nI a) → f (nI t) = true → szK 8 (nI s) < szK 8 (nI t) ∨ (szK 8 (nI s) = szK 8 (nI t) ∧ s ≤ t)) → subN s B := fun s hs hsA hfs hmin => by
    obtain ⟨u, hu, eu⟩ := setP_aa (t := c) (⟨s, hs, rfl⟩ : setP (nI s))
    have sS : setP (nI s) := ⟨s, hs, rfl⟩
    have hh : ∀ q, q < 8 → hasB (nI u) (nI q) = (hasB (nI s) (nI q) && hasB c (nI q)) := fun q hq => by
      obtain ⟨v, hv, rfl⟩ := hc
      rw [← eu, sa_and, hb_nat (Nat.lt_of_le_of_lt Nat.and_le_left hs) hq, hb_nat hs hq, hb_nat hv hq, Nat.testBit_and]
    have uA : subN u (nI a) := (sub_has hu ⟨a, ha, rfl⟩).mpr fun q hq h9 => by
      rw [hh q hq, Bool.and_eq_true] at h9
      exact (sub_has hs ⟨a, ha, rfl⟩).mp hsA q hq h9.1
    have fu : f (nI u) = true := by rw [← eu, hf s hs hsA]; exact hfs
    have hm := hmin u (by have := sub_le hu ha uA; omega) uA fu
    have e : nI u = nI s := Decidable.byContradiction fun hne => by
      have := cnt8_lt (s := nI u) (t := nI s) ⟨u, hu, rfl⟩ sS (fun q hq h9 => by rw [hh q hq, Bool.and_eq_true] at h9; exact h9.1) (fun e => hne e.symm)
      rw [sz_c sS, sz_c ⟨u, hu, rfl⟩] at hm
      omega
    refine (sub_has hs hB).mpr fun q hq h9 => ?_
    have h8 := hh q hq
    rw [e, h9, Bool.true_and] at h8
    rw [hAB q hq, (sub_has hs ⟨a, ha, rfl⟩).mp hsA q hq h9, ← h8]
    rfl
  rcases h2 with ⟨e2, h2⟩ | ⟨s2, l2, e2, g2, k2, m2⟩
  · rcases h1 with ⟨e1, -⟩ | ⟨s1, l1, e1, g1, k1, m1⟩
    · rw [e1, e2]
    · have := h2 s1 (by have := sub_le l1 ha (sBA s1 l1 g1); omega) (sBA s1 l1 g1)
      rw [k1] at this
      cases this
  · have gB := key s2 (by omega) g2 k2 m2
    rcases h1 with ⟨e1, h1⟩ | ⟨s1, l1, e1, g1, k1, m1⟩
    · have := h1 s2 (by omega) gB
      rw [k2] at this
      cases this
    · have a1 := m1 s2 (by omega) gB k2
      have a2 := m2 s1 (by have := sub_le l1 ha (sBA s1 l1 g1); omega) (sBA s1 l1 g1) k1
      rw [e1, e2, show s1 = s2 by omega]
theorem fntR_cong {c : Int32} {s t : Int32} : ∀ {m q : Nat} {K K1 : row}, kP K ≤ 8 → q + m ≤ kP K → colE c K K1 → (∀ z, q ≤ z → z < q + m → hasB t (nI z) = (hasB s (nI z) && decide (K (8 + z) = c))) → colE c (fntR s m q K) (fntR t m q K1)
  | 0, _, _, _, _, _, h, _ => h
  | m + 1, q, K, K1, h8, hq, h, ht => by
    rw [fntR, fntR, ht q (by omega) (by omega)]
    have hs : sameB K (riseK K q (-1)).1 := riseK_same h8 (by omega)
    have nx : ∀ z, q + 1 ≤ z → z < q + 1 + m → hasB t (nI z) = (hasB s (nI z) && decide ((riseK K q (-1)).1 (8 + z) = c)) := fun z h1 h2 => by
      rw [rise_e h8 (by omega) (by omega) (by omega)]
      exact ht z (by omega) (by omega)
    cases h1 : hasB s (nI q)
    · rw [Bool.false_and, if_neg (by decide), if_neg (by decide)]
      exact fntR_cong h8 (by omega) h fun z a b => ht z (by omega) (by omega)
    · rw [Bool.true_and, if_pos rfl]
      by_cases hc : K (8 + q) = c
      · rw [if_pos (by simpa using hc)]
        exact fntR_cong (by rw [hs.P]; exact h8) (by rw [hs.P]; omega) (rise_cong h8 (by omega) hc h) nx
      · rw [if_neg (by simpa using hc)]
        have a1 : colE c K (riseK K q (-1)).1 := rise_out h8 (by omega) hc
        exact fntR_cong (by rw [hs.P]; exact h8) (by rw [hs.P]; omega) ((a1.sy h8).tr (by rw [hs.P]; exact h8) h) nx
theorem fntR_same {s : Int32} : ∀ {m q : Nat} {K : row}, kP K ≤ 8 → q + m ≤ 8 → sameB K (fntR s m q K)
  | 0, _, _, _, _ => sameB.rf
  | m + 1, q, K, h8, hq => by
    rw [fntR]
    split
    · have hs : sameB K (riseK K q (-1)).1 := riseK_same h8 (by omega)
      exact hs.tr (fntR_same (by rw [hs.P]; exact h8) (by omega))
    · exact fntR_same h8 (by omega)
/-- those of p's column who can rise -/
def fntC (K : row) (p : Nat) : Int32 := bits (fun q => decide (q ≠ p ∧ K (8 + q) = K (8 + p) ∧ whyR K (q : Int) = 0)) (kP K) 0 0
theorem sitd_col {K : row} {p z : Nat} (hp : p < 8) (hz : z < 8) : sitdK K p (K (8 + p)) (8 + z) = K (8 + z) := by
  unfold sitdK
  rw [pk_un (by omega)]
  by_cases e : z = p
  · rw [e, pk_us]
  · rw [pk_un (by omega), pk_un (by omega)]
theorem down_col {m : Int32} {z : Nat} (hz : z < 8) : ∀ {j p : Nat} {K : row}, p + j ≤ 8 → downK m j p K (8 + z) = K (8 + z)
  | 0, _, _, _ => rfl
  | j + 1, p, K, hp => by
    rw [downK, down_col hz (by omega)]
    split
    · exact sitd_col (by omega) hz
    · rfl
theorem plan_col {m : Int32} {z : Nat} (hz : z < 8) : ∀ {j p : Nat} {K : row}, kP K ≤ 8 → p + j ≤ 8 → planK m j p K (8 + z) = K (8 + z)
  | 0, _, _, _, _ => rfl
  | j + 1, p, K, h8, hp => by
    rw [planK]
    split
    · have hs : sameB K (riseK K p (m + K (51 + p))).1 := riseK_same h8 (by omega)
      rw [plan_col hz (by rw [hs.P]; exact h8) (by omega), rise_e h8 (by omega) (by omega) (by omega)]
    · exact plan_col hz h8 (by omega)
theorem min_col {K : row} {z : Nat} (h8 : kP K ≤ 8) (hz : z < 8) : minK K (8 + z) = K (8 + z) := by
  rw [minK_T, minT_e (by omega), dryK]
  have hs : sameB K (downK (K 33) (kP K) 0 K) := downK_same (by omega)
  rw [plan_col hz (by rw [hs.P]; exact h8) (by omega), down_col hz (by omega)]
theorem go_col {z : Nat} (hz : z < 8) : ∀ {m : Nat} {K : row}, kP K ≤ 8 → goK m K (8 + z) = K (8 + z)
  | 0, _, _ => rfl
  | m + 1, K, h8 => by
    rw [goK, go_col hz (by rw [(minK_same h8).P]; exact h8), min_col h8 hz]
theorem fntR_col {s : Int32} {z : Nat} (hz : z < 8) : ∀ {m q : Nat} {K : row}, kP K ≤ 8 → q + m ≤ 8 → fntR s m q K (8 + z) = K (8 + z)
  | 0, _, _, _, _ => rfl
  | m + 1, q, K, h8, hq => by
    rw [fntR]
    split
    · have hs : sameB K (riseK K q (-1)).1 := riseK_same h8 (by omega)
      rw [fntR_col hz (by rw [hs.P]; exact h8) (by omega), rise_e h8 (by omega) (by omega) (by omega)]
    · exact fntR_col hz h8 (by omega)
theorem faint_eq {K : row} {p j : Nat} (hB : okB K) (hp : p < kP K) : fntF (fntO K p j) (fntC K p) 256 0 (-1) = fntK K p j := by
  have h8 := hB.1.2.1
  have sc : setP (bits (fun q => decide (K (8 + q) = K (8 + p))) (kP K) 0 0) := setP_bits (by omega) setP_0
  have hcol : ∀ q, q < 8 → hasB (bits (fun q => decide (K (8 + q) = K (8 + p))) (kP K) 0 0) (nI q) = (decide (q < kP K) && decide (K (8 + q) = K (8 + p))) := fun q hq => by
    rw [bits_has hq (by omega) setP_0, has_0 hq, Bool.false_or]
    congr 1
    rw [decide_eq_decide]
    omega
  refine fnt_eq (setP_bits (by omega) setP_0) (setP_bits (by omega) setP_0) sc (fun q hq => ?_) (fun t ht hsub => ?_)
  · rw [hcol q hq, fntC, fntA, bits_has hq (by omega) setP_0, bits_has hq (by omega) setP_0, has_0 hq, Bool.false_or, Bool.false_or]
    by_cases h1 : q < kP K
    · by_cases h2 : q ≠ p <;> by_cases h3 : K (8 + q) = K (8 + p) <;> by_cases h4 : whyR K (q : Int) = 0 <;> simp [h1, h2, h3, h4]
    · simp [h1]
  · unfold fntO
    have hh : ∀ z, z < 8 → hasB (nI t &&& bits (fun q => decide (K (8 + q) = K (8 + p))) (kP K) 0 0) (nI z) = (hasB (nI t) (nI z) && (decide (z < kP K) && decide (K (8 + z) = K (8 + p)))) := fun z hz => by
      rw [← hcol z hz]
      obtain ⟨v, hv, e⟩ := sc
      rw [e, sa_and, hb_nat (Nat.lt_of_le_of_lt Nat.and_le_left ht) hz, hb_nat ht hz, hb_nat hv hz, Nat.testBit_and]
    have hk := fntR_cong (c := K (8 + p)) (s := nI t) (t := nI t &&& bits (fun q => decide (K (8 + q) = K (8 + p))) (kP K) 0 0) (m := kP K) (q := 0) h8 (by omega) colE.rf (fun z _ hz => by rw [hh z (by omega), decide_eq_true (show z < kP K by omega), Bool.true_and])
    have s1 : sameB K (fntR (nI t) (kP K) 0 K) := fntR_same h8 (by omega)
    have hg := go_cong (m := j) (by rw [s1.P]; exact h8) hk
    have s2 : sameB (fntR (nI t) (kP K) 0 K) (goK j (fntR (nI t) (kP K) 0 K)) := goK_same (by rw [s1.P]; exact h8)
    have ec : goK j (fntR (nI t) (kP K) 0 K) (8 + p) = K (8 + p) := by rw [go_col (by omega) (by rw [s1.P]; exact h8), fntR_col (by omega) h8 (by omega)]
    rw [(hg.2.2.2 p (by rw [s2.P, s1.P]; exact hp) ec).1]
