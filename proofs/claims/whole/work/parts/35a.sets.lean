/-! ===== sets of people as numbers ===== -/
theorem hb_fin : ∀ (v : Fin 256) (q : Fin 8), hasB (nI v.val) (nI q.val) = v.val.testBit q.val := by decide +kernel
theorem hb_nat {v q : Nat} (hv : v < 256) (hq : q < 8) : hasB (nI v) (nI q) = v.testBit q := hb_fin ⟨v, hv⟩ ⟨q, hq⟩
theorem set_ext {s t : Int32} (hs : setP s) (ht : setP t) (h : ∀ q, q < 8 → hasB s (nI q) = hasB t (nI q)) : s = t := by
  obtain ⟨v, hv, rfl⟩ := hs
  obtain ⟨w, hw, rfl⟩ := ht
  have e : v = w := by
    apply Nat.eq_of_testBit_eq
    intro q
    by_cases hq : q < 8
    · have := h q hq
      rw [hb_nat hv hq, hb_nat hw hq] at this
      exact this
    · have h2 : 2 ^ 8 ≤ 2 ^ q := Nat.pow_le_pow_right (by omega) (by omega)
      rw [Nat.testBit_lt_two_pow (by omega), Nat.testBit_lt_two_pow (by omega)]
  rw [e]
theorem has_or {s : Int32} {p q : Nat} (hs : setP s) (hp : p < 8) (hq : q < 8) : hasB (s ||| bit1 p) (nI q) = (hasB s (nI q) || decide (p = q)) := by
  obtain ⟨v, hv, rfl⟩ := hs
  obtain ⟨h1, h2⟩ := bit_or ⟨v, hv⟩ ⟨p, hp⟩
  simp only at h1 h2
  rw [bit1, h1, hb_nat h2 hq, hb_nat hv hq, Nat.testBit_or, Nat.one_shiftLeft, Nat.testBit_two_pow]
theorem has_0 {q : Nat} (hq : q < 8) : hasB 0 (nI q) = false := by
  have := hb_nat (v := 0) (by omega) hq
  rw [show (0 : Int32) = nI 0 from rfl, this, Nat.zero_testBit]
theorem setP_bit {p : Nat} (hp : p < 8) : setP (bit1 p) := by
  have h := setP_or setP_0 hp
  have e : (0 : Int32) ||| (1 : Int32) <<< (nI p &&& 31) = bit1 p := by simp [bit1]
  rw [e] at h
  exact h
theorem has_bit {p q : Nat} (hp : p < 8) (hq : q < 8) : hasB (bit1 p) (nI q) = decide (p = q) := by
  have h := has_or setP_0 hp hq
  have e : (0 : Int32) ||| bit1 p = bit1 p := by simp
  rw [e, has_0 hq, Bool.false_or] at h
  exact h
theorem bits_has {f : Nat → Bool} {q : Nat} (hq : q < 8) : ∀ {m p : Nat} {s : Int32}, p + m ≤ 8 → setP s → hasB (bits f m p s) (nI q) = (hasB s (nI q) || (decide (p ≤ q ∧ q < p + m) && f q))
  | 0, p, s, _, _ => by
    rw [bits, show decide (p ≤ q ∧ q < p + 0) = false by rw [decide_eq_false_iff_not]; omega]
    simp
  | m + 1, p, s, hp, hs => by
    rw [bits]
    by_cases hf : f p = true
    · rw [if_pos hf, bits_has hq (by omega) (setP_or hs (by omega))]
      have := has_or hs (show p < 8 by omega) hq
      rw [bit1] at this
      rw [this]
      by_cases e : p = q
      · subst e
        simp [hf]
      · have e2 : decide (p + 1 ≤ q ∧ q < p + 1 + m) = decide (p ≤ q ∧ q < p + (m + 1)) := by
          rw [decide_eq_decide]
          omega
        simp [e, e2]
    · rw [if_neg hf, show s ||| (0 : Int32) = s by simp, bits_has hq (by omega) hs]
      by_cases e : p = q
      · subst e
        simp [hf]
      · have e2 : decide (p + 1 ≤ q ∧ q < p + 1 + m) = decide (p ≤ q ∧ q < p + (m + 1)) := by
          rw [decide_eq_decide]
          omega
        rw [e2]
theorem setP_besF {K : row} {s : Int32} (h8 : kP K ≤ 8) : ∀ {m p : Nat} {x : Int32}, setP x → setP (besF K s m p x)
  | 0, _, _, h => h
  | m + 1, p, x, h => by
    rw [besF]
    exact setP_besF h8 (setP_bits (by omega) h)
theorem besF_has {K : row} {s : Int32} (h8 : kP K ≤ 8) {q : Nat} (hq : q < 8) : ∀ {m p : Nat} {x : Int32}, setP x → (hasB (besF K s m p x) (nI q) = true ↔ hasB x (nI q) = true ∨ (q < kP K ∧ ∃ z, p ≤ z ∧ z < p + m ∧ hasB s (nI z) = true ∧ sideK K z q = true))
  | 0, p, x, h => by
    rw [besF]
    constructor
    · intro h1
      exact Or.inl h1
    · rintro (h1 | ⟨-, z, a, b, -⟩)
      · exact h1
      · omega
  | m + 1, p, x, h => by
    rw [besF, besF_has h8 hq (setP_bits (by omega) h), bits_has hq (by omega) h]
    simp only [Bool.or_eq_true, Bool.and_eq_true, decide_eq_true_eq]
    constructor
    · rintro ((h1 | ⟨⟨-, h2⟩, h3, h4⟩) | ⟨h1, z, a, b, c, d⟩)
      · exact Or.inl h1
      · exact Or.inr ⟨by omega, p, by omega, by omega, h3, h4⟩
      · exact Or.inr ⟨h1, z, by omega, by omega, c, d⟩
    · rintro (h1 | ⟨h1, z, a, b, c, d⟩)
      · exact Or.inl (Or.inl h1)
      · by_cases e : z = p
        · subst e
          exact Or.inl (Or.inr ⟨⟨by omega, by omega⟩, c, d⟩)
        · exact Or.inr ⟨h1, z, by omega, by omega, c, d⟩
theorem setP_bes {K : row} {s : Int32} (h8 : kP K ≤ 8) (h : setP s) : setP (besK K s) := setP_besF h8 h
theorem bes_has {K : row} {s : Int32} (h8 : kP K ≤ 8) (h : setP s) {q : Nat} (hq : q < 8) : hasB (besK K s) (nI q) = true ↔ hasB s (nI q) = true ∨ (q < kP K ∧ ∃ z, z < kP K ∧ hasB s (nI z) = true ∧ sideK K z q = true) := by
  rw [besK, besF_has h8 hq h]
  constructor
  · rintro (h1 | ⟨h1, z, -, b, c, d⟩)
    · exact Or.inl h1
    · exact Or.inr ⟨h1, z, by omega, c, d⟩
  · rintro (h1 | ⟨h1, z, b, c, d⟩)
    · exact Or.inl h1
    · exact Or.inr ⟨h1, z, by omega, by omega, c, d⟩
def cnt8 (s : Int32) : Nat := (hasB s (nI 0)).toNat + (hasB s (nI 1)).toNat + (hasB s (nI 2)).toNat + (hasB s (nI 3)).toNat + (hasB s (nI 4)).toNat + (hasB s (nI 5)).toNat + (hasB s (nI 6)).toNat + (hasB s (nI 7)).toNat
theorem cnt8_le (s : Int32) : cnt8 s ≤ 8 := by
  unfold cnt8
  have h : ∀ b : Bool, b.toNat ≤ 1 := by decide
  have := h (hasB s (nI 0)); have := h (hasB s (nI 1)); have := h (hasB s (nI 2)); have := h (hasB s (nI 3)); have := h (hasB s (nI 4)); have := h (hasB s (nI 5)); have := h (hasB s (nI 6)); have := h (hasB s (nI 7))
  omega
theorem cnt8_lt {s t : Int32} (hs : setP s) (ht : setP t) (hsub : ∀ q, q < 8 → hasB s (nI q) = true → hasB t (nI q) = true) (hne : t ≠ s) : cnt8 s < cnt8 t := by
  have h : ∃ q, q < 8 ∧ hasB s (nI q) ≠ hasB t (nI q) := by
    refine Classical.byContradiction fun hc => hne (set_ext ht hs fun q hq => Classical.byContradiction fun h2 => hc ⟨q, hq, fun e => h2 e.symm⟩)
  have m : ∀ q, q < 8 → (hasB s (nI q)).toNat ≤ (hasB t (nI q)).toNat := fun q hq => by
    have := hsub q hq
    cases h1 : hasB s (nI q) <;> cases h2 : hasB t (nI q) <;> simp_all
  obtain ⟨q, hq, hd⟩ := h
  have st : (hasB s (nI q)).toNat < (hasB t (nI q)).toNat := by
    have := hsub q hq
    cases h1 : hasB s (nI q) <;> cases h2 : hasB t (nI q) <;> simp_all
  have m0 := m 0 (by omega); have m1 := m 1 (by omega); have m2 := m 2 (by omega); have m3 := m 3 (by omega); have m4 := m 4 (by omega); have m5 := m 5 (by omega); have m6 := m 6 (by omega); have m7 := m 7 (by omega)
  unfold cnt8
  rcases (show q = 0 ∨ q = 1 ∨ q = 2 ∨ q = 3 ∨ q = 4 ∨ q = 5 ∨ q = 6 ∨ q = 7 by omega) with rfl | rfl | rfl | rfl | rfl | rfl | rfl | rfl <;> omega
theorem setP_besI {K : row} {s : Int32} (h8 : kP K ≤ 8) (h : setP s) : ∀ m, setP (besI K m s)
  | 0 => h
  | m + 1 => setP_bes h8 (setP_besI h8 h m)
theorem cnt_besI {K : row} {s : Int32} (h8 : kP K ≤ 8) (h : setP s) : ∀ m, (∀ q, q < m → besI K (q + 1) s ≠ besI K q s) → m ≤ cnt8 (besI K m s)
  | 0, _ => Nat.zero_le _
  | m + 1, hn => by
    have h1 := cnt_besI h8 h m (fun q hq => hn q (by omega))
    have h2 := cnt8_lt (setP_besI h8 h m) (setP_besI h8 h (m + 1)) (fun q hq hb => (bes_has h8 (setP_besI h8 h m) hq).mpr (Or.inl hb)) (hn m (by omega))
    omega
/-- who is reached is reached in eight steps; from one who is in it: in seven -/
theorem bes_fix {K : row} {p : Nat} (h8 : kP K ≤ 8) (hp : p < 8) : ∃ q, q < 8 ∧ besI K (q + 1) (bit1 p) = besI K q (bit1 p) := by
  refine Classical.byContradiction fun hc => ?_
  have hn : ∀ q, q < 8 → besI K (q + 1) (bit1 p) ≠ besI K q (bit1 p) := fun q hq e => hc ⟨q, hq, e⟩
  have h0 : 1 ≤ cnt8 (besI K 0 (bit1 p)) := by
    have hb : hasB (bit1 p) (nI p) = true := by rw [has_bit hp hp]; simp
    rw [besI]
    unfold cnt8
    rcases (show p = 0 ∨ p = 1 ∨ p = 2 ∨ p = 3 ∨ p = 4 ∨ p = 5 ∨ p = 6 ∨ p = 7 by omega) with rfl | rfl | rfl | rfl | rfl | rfl | rfl | rfl <;> rw [hb] <;> simp <;> omega
  have key : ∀ m, m ≤ 8 → m + 1 ≤ cnt8 (besI K m (bit1 p)) := by
    intro m
    induction m with
    | zero => intro _; exact h0
    | succ m ih =>
      intro hm
      have h1 := ih (by omega)
      have h2 := cnt8_lt (setP_besI h8 (setP_bit hp) m) (setP_besI h8 (setP_bit hp) (m + 1)) (fun q hq hb => (bes_has h8 (setP_besI h8 (setP_bit hp) m) hq).mpr (Or.inl hb)) (hn m (by omega))
      omega
  have h9 := key 8 (by omega)
  have := cnt8_le (besI K 8 (bit1 p))
  omega
theorem bes_stay {K : row} {s : Int32} {q : Nat} (h : besI K (q + 1) s = besI K q s) : ∀ m, q ≤ m → besI K m s = besI K q s := by
  intro m
  induction m with
  | zero => intro h1; rw [show q = 0 by omega]
  | succ m ih =>
    intro h1
    rcases Nat.eq_or_lt_of_le h1 with e | e
    · rw [e]
    · rw [besI, ih (by omega)]
      exact h
