/-! ===== who sits side by side, as the class finds it ===== -/
theorem sa_or (a b : Nat) : nI a ||| nI b = nI (a ||| b) := by
  apply Int32.toBitVec_inj.mp
  simp only [nI, Int32.toBitVec_or, Int32.toBitVec_ofNat', BitVec.ofNat_or]
theorem setP_oo {s t : Int32} (hs : setP s) (ht : setP t) : setP (s ||| t) := by
  obtain ⟨v, hv, rfl⟩ := hs
  obtain ⟨w, hw, rfl⟩ := ht
  exact ⟨v ||| w, Nat.or_lt_two_pow (n := 8) hv hw, sa_or v w⟩
theorem has_oo {s t : Int32} {q : Nat} (hs : setP s) (ht : setP t) (hq : q < 8) : hasB (s ||| t) (nI q) = (hasB s (nI q) || hasB t (nI q)) := by
  obtain ⟨v, hv, rfl⟩ := hs
  obtain ⟨w, hw, rfl⟩ := ht
  rw [sa_or, hb_nat (Nat.or_lt_two_pow (n := 8) hv hw) hq, hb_nat hv hq, hb_nat hw hq, Nat.testBit_or]
theorem I_self (x : Int32) : x = nI x.toBitVec.toNat := by
  apply Int32.toBitVec_inj.mp
  simp only [nI, Int32.toBitVec_ofNat', BitVec.ofNat_toNat, BitVec.setWidth_eq]
theorem setP_aa {s t : Int32} (hs : setP s) : setP (s &&& t) := by
  obtain ⟨v, hv, rfl⟩ := hs
  rw [I_self t, sa_and]
  exact ⟨_, Nat.lt_of_le_of_lt Nat.and_le_left hv, rfl⟩
theorem has_an {s t : Int32} {q : Nat} (hs : setP s) (ht : setP t) (hq : q < 8) : hasB (s &&& (t ^^^ (-1))) (nI q) = (hasB s (nI q) && !hasB t (nI q)) := by
  obtain ⟨v, hv, rfl⟩ := hs
  obtain ⟨w, hw, rfl⟩ := ht
  rw [show (-1 : Int32) = nI (2 ^ 32 - 1) from by decide, sa_xor, sa_and, hb_nat (Nat.lt_of_le_of_lt Nat.and_le_left hv) hq, hb_nat hv hq, hb_nat hw hq, Nat.testBit_and, Nat.testBit_xor, Nat.testBit_two_pow_sub_one]
  simp [show q < 32 by omega]
theorem set_0 {s : Int32} (hs : setP s) : s = 0 ↔ ∀ q, q < 8 → hasB s (nI q) = false := by
  constructor
  · intro h q hq
    rw [h]
    exact has_0 hq
  · intro h
    exact set_ext hs setP_0 fun q hq => by rw [h q hq, has_0 hq]
/-- the bit of who sits on a chair, 0 without -/
def bOn (K : row) (c w : Int32) : Int32 := if whoK K c.toInt w.toInt = -1 then 0 else (1 : Int32) <<< (whoK K c.toInt w.toInt &&& 31)
theorem setP_bOn {K : row} (h8 : kP K ≤ 8) {c w : Int32} : setP (bOn K c w) := by
  have key : ∀ v : Int32, (v = -1 ∨ ∃ p, p < 8 ∧ v = nI p) → setP (if v = -1 then 0 else (1 : Int32) <<< (v &&& 31)) := by
    rintro v (rfl | ⟨p, hp, rfl⟩)
    · exact setP_0
    · rw [if_neg (nI_ne1 (by omega))]
      exact setP_bit hp
  refine key _ ?_
  unfold whoK
  split
  · rename_i x y hxy
    cases hs : sitK K (nI x) (nI y) with
    | none => exact Or.inl rfl
    | some p => exact Or.inr ⟨p, by have := (sitK_lt hs).1; omega, rfl⟩
  · exact Or.inl rfl
theorem bOn_has {K : row} (hB : okB K) (hg : gS K) {c w : Int32} {q : Nat} (hq : q < 8) : hasB (bOn K c w) (nI q) = true ↔ q < kP K ∧ K (16 + q) = w ∧ K (8 + q) = c ∧ w ≠ -1 := by
  have hP8 := hB.1.2.1
  have hH5 := hB.1.2.2.2.1
  have hW4 := hB.1.2.2.2.2.2
  cases hch : chK K c.toInt w.toInt with
  | none =>
    have e : bOn K c w = 0 := by rw [bOn, whoK, hch, if_pos rfl]
    rw [e, has_0 hq]
    constructor
    · intro h; cases h
    · rintro ⟨h1, h2, h3, h4⟩
      obtain ⟨c1, hc1, e1⟩ := (hg.1 q h1).1
      obtain ⟨w1, hw1, e2⟩ := (hg.1 q h1).2.resolve_left (by rw [h2]; exact h4)
      rw [← h2, ← h3, e1, e2, nI_toInt (by omega), nI_toInt (by omega), chK, pN_nat hc1, pN_nat hw1] at hch
      cases hch
  | some xy =>
    obtain ⟨x, y⟩ := xy
    have g1 := pN_some (chK_some hch).1
    have g2 := pN_some (chK_some hch).2
    have e1 := I_nat g1.1 (by omega)
    have e2 := I_nat g2.1 (by omega)
    have ew : whoK K c.toInt w.toInt = oI (sitK K c w) := by rw [whoK, hch, e1, e2]
    cases hs : sitK K c w with
    | none =>
      have e : bOn K c w = 0 := by rw [bOn, ew, hs, if_pos (show oI none = -1 from rfl)]
      rw [e, has_0 hq]
      constructor
      · intro h; cases h
      · rintro ⟨h1, h2⟩
        exact absurd h2 (sit_no.mp hs q h1)
    | some p =>
      have hp := sitK_lt hs
      have e : bOn K c w = bit1 p := by
        rw [bOn, ew, hs, if_neg]
        · rfl
        · exact nI_ne1 (by omega)
      rw [e, has_bit (by omega) hq, decide_eq_true_eq]
      constructor
      · rintro rfl
        exact hp
      · rintro h
        have := (sit_iff hg.2.1).mpr h
        rw [hs] at this
        exact Option.some.inj this
def adjK (K : row) (z q : Nat) : Prop := K (16 + q) ≠ -1 ∧ ((K (8 + q) = K (8 + z) - 1 ∧ K (16 + q) = K (16 + z)) ∨ (K (8 + q) = K (8 + z) + 1 ∧ K (16 + q) = K (16 + z)) ∨ (K (8 + q) = K (8 + z) ∧ K (16 + q) = K (16 + z) - 1) ∨ (K (8 + q) = K (8 + z) ∧ K (16 + q) = K (16 + z) + 1))
theorem adj_fin : ∀ (c1 c2 : Fin 4) (w1 w2 : Fin 5), (abI (nI c1.val - nI c2.val) + abI (nI w1.val - nI w2.val) = 1) ↔ ((nI c2.val = nI c1.val - 1 ∧ nI w2.val = nI w1.val) ∨ (nI c2.val = nI c1.val + 1 ∧ nI w2.val = nI w1.val) ∨ (nI c2.val = nI c1.val ∧ nI w2.val = nI w1.val - 1) ∨ (nI c2.val = nI c1.val ∧ nI w2.val = nI w1.val + 1)) := by decide +kernel
theorem adj_side {K : row} (hB : okB K) (hv : vS K) {z q : Nat} (hz : z < kP K) (hq : q < kP K) : sideK K z q = true ↔ K (16 + z) ≠ -1 ∧ adjK K z q := by
  have hH5 := hB.1.2.2.2.1
  have hW4 := hB.1.2.2.2.2.2
  rw [side_iff]
  constructor
  · rintro ⟨h1, h2, h3⟩
    refine ⟨h1, h2, ?_⟩
    obtain ⟨c1, hc1, e1⟩ := (hv z hz).1
    obtain ⟨w1, hw1, e2⟩ := (hv z hz).2.resolve_left h1
    obtain ⟨c2, hc2, e3⟩ := (hv q hq).1
    obtain ⟨w2, hw2, e4⟩ := (hv q hq).2.resolve_left h2
    rw [e1, e2, e3, e4] at h3 ⊢
    exact (adj_fin ⟨c1, by omega⟩ ⟨c2, by omega⟩ ⟨w1, by omega⟩ ⟨w2, by omega⟩).mp h3
  · rintro ⟨h1, h2, h3⟩
    refine ⟨h1, h2, ?_⟩
    obtain ⟨c1, hc1, e1⟩ := (hv z hz).1
    obtain ⟨w1, hw1, e2⟩ := (hv z hz).2.resolve_left h1
    obtain ⟨c2, hc2, e3⟩ := (hv q hq).1
    obtain ⟨w2, hw2, e4⟩ := (hv q hq).2.resolve_left h2
    rw [e1, e2, e3, e4] at h3 ⊢
    exact (adj_fin ⟨c1, by omega⟩ ⟨c2, by omega⟩ ⟨w1, by omega⟩ ⟨w2, by omega⟩).mpr h3
/-- what one who sits adds -/
def widP (K : row) (p : Nat) (x : Int32) : Int32 := x ||| (bOn K (K (8 + p) - 1) (K (16 + p)) ||| bOn K (K (8 + p) + 1) (K (16 + p))) ||| (bOn K (K (8 + p)) (K (16 + p) - 1) ||| bOn K (K (8 + p)) (K (16 + p) + 1))
theorem setP_widP {K : row} (h8 : kP K ≤ 8) {p : Nat} {x : Int32} (h : setP x) : setP (widP K p x) := setP_oo (setP_oo h (setP_oo (setP_bOn h8) (setP_bOn h8))) (setP_oo (setP_bOn h8) (setP_bOn h8))
theorem widP_has {K : row} (hB : okB K) (hg : gS K) {p q : Nat} {x : Int32} (h : setP x) (hq : q < 8) : hasB (widP K p x) (nI q) = true ↔ hasB x (nI q) = true ∨ (q < kP K ∧ adjK K p q) := by
  have hP8 := hB.1.2.1
  have b (c w : Int32) : setP (bOn K c w) := setP_bOn hP8
  rw [widP, has_oo (setP_oo h (setP_oo (b _ _) (b _ _))) (setP_oo (b _ _) (b _ _)) hq, has_oo h (setP_oo (b _ _) (b _ _)) hq, has_oo (b _ _) (b _ _) hq, has_oo (b _ _) (b _ _) hq]
  simp only [Bool.or_eq_true, bOn_has hB hg hq, adjK]
  constructor
  · rintro ((h1 | h1 | h1) | h1 | h1)
    · exact Or.inl h1
    · exact Or.inr ⟨h1.1, by rw [h1.2.1]; exact h1.2.2.2, Or.inl ⟨h1.2.2.1, h1.2.1⟩⟩
    · exact Or.inr ⟨h1.1, by rw [h1.2.1]; exact h1.2.2.2, Or.inr (Or.inl ⟨h1.2.2.1, h1.2.1⟩)⟩
    · exact Or.inr ⟨h1.1, by rw [h1.2.1]; exact h1.2.2.2, Or.inr (Or.inr (Or.inl ⟨h1.2.2.1, h1.2.1⟩))⟩
    · exact Or.inr ⟨h1.1, by rw [h1.2.1]; exact h1.2.2.2, Or.inr (Or.inr (Or.inr ⟨h1.2.2.1, h1.2.1⟩))⟩
  · rintro (h1 | ⟨h1, h2, h3 | h3 | h3 | h3⟩)
    · exact Or.inl (Or.inl h1)
    · exact Or.inl (Or.inr (Or.inl ⟨h1, h3.2, h3.1, by rw [← h3.2]; exact h2⟩))
    · exact Or.inl (Or.inr (Or.inr ⟨h1, h3.2, h3.1, by rw [← h3.2]; exact h2⟩))
    · exact Or.inr (Or.inl ⟨h1, h3.2, h3.1, by rw [← h3.2]; exact h2⟩)
    · exact Or.inr (Or.inr ⟨h1, h3.2, h3.1, by rw [← h3.2]; exact h2⟩)
def widF (K : row) (s : Int32) : Nat → Nat → Int32 → Int32
  | 0, _, x => x
  | m + 1, p, x => widF K s m (p + 1) (if hasB s (nI p) = true ∧ K (16 + p) ≠ -1 then widP K p x else x)
theorem widF_step {K : row} {s : Int32} {P i : Nat} {x : Int32} (h : i < P) : widF K s (P - i) i x = widF K s (P - (i + 1)) (i + 1) (if hasB s (nI i) = true ∧ K (16 + i) ≠ -1 then widP K i x else x) := by
  rw [show P - i = (P - (i + 1)) + 1 by omega, widF]
theorem setP_widF {K : row} {s : Int32} (h8 : kP K ≤ 8) : ∀ {m p : Nat} {x : Int32}, setP x → setP (widF K s m p x)
  | 0, _, _, h => h
  | m + 1, p, x, h => by
    rw [widF]
    split
    · exact setP_widF h8 (setP_widP h8 h)
    · exact setP_widF h8 h
theorem widF_has {K : row} (hB : okB K) (hg : gS K) {s : Int32} {q : Nat} (hq : q < 8) : ∀ {m p : Nat} {x : Int32}, setP x → (hasB (widF K s m p x) (nI q) = true ↔ hasB x (nI q) = true ∨ (q < kP K ∧ ∃ z, p ≤ z ∧ z < p + m ∧ hasB s (nI z) = true ∧ K (16 + z) ≠ -1 ∧ adjK K z q))
  | 0, p, x, h => by
    rw [widF]
    constructor
    · intro h1
      exact Or.inl h1
    · rintro (h1 | ⟨-, z, a, b, -⟩)
      · exact h1
      · omega
  | m + 1, p, x, h => by
    rw [widF]
    by_cases hc : hasB s (nI p) = true ∧ K (16 + p) ≠ -1
    · rw [if_pos hc, widF_has hB hg hq (setP_widP hB.1.2.1 h), widP_has hB hg h hq]
      constructor
      · rintro ((h1 | ⟨h1, h2⟩) | ⟨h1, z, a, b, c⟩)
        · exact Or.inl h1
        · exact Or.inr ⟨h1, p, by omega, by omega, hc.1, hc.2, h2⟩
        · exact Or.inr ⟨h1, z, by omega, by omega, c⟩
      · rintro (h1 | ⟨h1, z, a, b, c⟩)
        · exact Or.inl (Or.inl h1)
        · by_cases e : z = p
          · subst e
            exact Or.inl (Or.inr ⟨h1, c.2.2⟩)
          · exact Or.inr ⟨h1, z, by omega, by omega, c⟩
    · rw [if_neg hc, widF_has hB hg hq h]
      constructor
      · rintro (h1 | ⟨h1, z, a, b, c⟩)
        · exact Or.inl h1
        · exact Or.inr ⟨h1, z, by omega, by omega, c⟩
      · rintro (h1 | ⟨h1, z, a, b, c⟩)
        · exact Or.inl h1
        · by_cases e : z = p
          · subst e
            exact absurd ⟨c.1, c.2.1⟩ hc
          · exact Or.inr ⟨h1, z, by omega, by omega, c⟩
theorem wid_bes {K : row} (hB : okB K) (hg : gS K) {s : Int32} (hs : setP s) : widF K s (kP K) 0 s = besK K s := by
  have hP8 := hB.1.2.1
  refine set_ext (setP_widF hP8 hs) (setP_bes hP8 hs) fun q hq => ?_
  rw [Bool.eq_iff_iff, widF_has hB hg hq hs, bes_has hP8 hs hq]
  constructor
  · rintro (h1 | ⟨h1, z, -, b, c, d⟩)
    · exact Or.inl h1
    · exact Or.inr ⟨h1, z, by omega, c, (adj_side hB hg.1 (by omega) h1).mpr d⟩
  · rintro (h1 | ⟨h1, z, b, c, d⟩)
    · exact Or.inl h1
    · exact Or.inr ⟨h1, z, by omega, by omega, c, (adj_side hB hg.1 (by omega) h1).mp d⟩
theorem setP_cut {s b : Int32} (hs : setP s) : setP (cutS s b) := by
  unfold cutS
  split
  · exact hs
  · exact setP_aa hs
theorem fm_n {K : row} {c : Int32} {P i : Nat} (h : i < P) (hn : ¬ fmF K c i = true) : fnd (fmF K c) i (P - i) = fnd (fmF K c) (i + 1) (P - (i + 1)) := by
  rw [show P - i = (P - (i + 1)) + 1 by omega, fnd, if_neg hn]
theorem besI_s {K : row} {s : Int32} : ∀ m, besI K (m + 1) s = besI K m (besK K s)
  | 0 => rfl
  | m + 1 => by rw [besI, besI_s m, besI]
/-- who sits in a column -/
theorem all_in {K : row} (hB : okB K) (hg : gS K) {d : Nat} : bits (fun p => decide (K (16 + p) ≠ -1 ∧ K (8 + p) = nI d)) (kP K) 0 0 = allF K (nI d) (kH K) 0 0 := by
  have hP8 := hB.1.2.1
  have hH5 := hB.1.2.2.2.1
  have sO : ∀ x : Option Nat, (∀ p, x = some p → p < 8) → setP (bitO x) := fun x hx => by
    cases x with
    | none => exact setP_0
    | some p => exact setP_bit (hx p rfl)
  have hO : ∀ x : Option Nat, (∀ p, x = some p → p < 8) → ∀ q, q < 8 → (hasB (bitO x) (nI q) = true ↔ x = some q) := fun x hx q hq => by
    cases x with
    | none => rw [bitO, has_0 hq]; simp
    | some p =>
      have := has_bit (hx p rfl) hq
      rw [bit1] at this
      rw [bitO, this, decide_eq_true_eq]
      simp
  have hl : ∀ w p, sitK K (nI d) (nI w) = some p → p < 8 := fun w p h => by have := (sitK_lt h).1; omega
  have sF : ∀ m w x, setP x → setP (allF K (nI d) m w x) := by
    intro m
    induction m with
    | zero => intro w x h; exact h
    | succ m ih => intro w x h; rw [allF]; exact ih _ _ (setP_oo h (sO _ (hl w)))
  have hF : ∀ m w x, setP x → ∀ q, q < 8 → (hasB (allF K (nI d) m w x) (nI q) = true ↔ hasB x (nI q) = true ∨ ∃ y, w ≤ y ∧ y < w + m ∧ sitK K (nI d) (nI y) = some q) := by
    intro m
    induction m with
    | zero =>
      intro w x h q hq
      rw [allF]
      constructor
      · intro h1; exact Or.inl h1
      · rintro (h1 | ⟨y, a, b, -⟩)
        · exact h1
        · omega
    | succ m ih =>
      intro w x h q hq
      rw [allF, ih _ _ (setP_oo h (sO _ (hl w))) q hq, has_oo h (sO _ (hl w)) hq, Bool.or_eq_true, hO _ (hl w) q hq]
      constructor
      · rintro ((h1 | h1) | ⟨y, a, b, c⟩)
        · exact Or.inl h1
        · exact Or.inr ⟨w, by omega, by omega, h1⟩
        · exact Or.inr ⟨y, by omega, by omega, c⟩
      · rintro (h1 | ⟨y, a, b, c⟩)
        · exact Or.inl (Or.inl h1)
        · by_cases e : y = w
          · subst e
            exact Or.inl (Or.inr c)
          · exact Or.inr ⟨y, by omega, by omega, c⟩
  refine set_ext (setP_bits (by omega) setP_0) (sF _ _ _ setP_0) fun q hq => ?_
  rw [Bool.eq_iff_iff, hF _ _ _ setP_0 q hq, bits_has hq (by omega) setP_0, has_0 hq]
  simp only [Bool.false_or, Bool.and_eq_true, decide_eq_true_eq]
  constructor
  · rintro ⟨⟨-, h1⟩, h2, h3⟩
    obtain ⟨w, hw, e⟩ := (hg.1 q (by omega)).2.resolve_left h2
    exact Or.inr ⟨w, by omega, by omega, (sit_iff hg.2.1).mpr ⟨by omega, e, h3, nI_ne1 (by omega)⟩⟩
  · rintro (h1 | ⟨y, -, b, c⟩)
    · cases h1
    · obtain ⟨h1, h2, h3, h4⟩ := (sit_iff hg.2.1).mp c
      exact ⟨⟨by omega, by omega⟩, by rw [h2]; exact h4, h3⟩
