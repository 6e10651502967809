/-! ===== twos as the class collects them ===== -/
theorem twL_skip {f : Nat → Bool} {b : Nat} (hb : b ≤ 100) : ∀ (m a : Nat), a + m = b → (∀ v, a ≤ v → v < b → f v = false) → twL f (100 - a) a = twL f (100 - b) b
  | 0, a, e, _ => by rw [show a = b by omega]
  | m + 1, a, e, h => by
    rw [twL_n (P := 100) (i := a) (by omega) (by rw [h a (by omega) (by omega)]; decide)]
    exact twL_skip hb m (a + 1) (by omega) (fun v h1 h2 => h v (by omega) h2)
theorem twS_lt {K : row} {s : Int32} {j v : Nat} (h : twS K s j v = true) : v / 10 < v % 10 ∧ v % 10 < kP K := by
  simp only [twS, decide_eq_true_eq] at h
  obtain ⟨a, b, g1, g2, -⟩ := whyX_0 h.2.1
  have := pN_some g2
  omega
theorem twS_f {K : row} {s : Int32} {j v : Nat} (h : ¬ (v / 10 < v % 10 ∧ v % 10 < kP K)) : twS K s j v = false := by
  cases e : twS K s j v with
  | false => rfl
  | true => exact absurd (twS_lt e) h
theorem go_33 {K : row} (h8 : kP K ≤ 8) : ∀ m, goK m K 33 = K 33 + nI m
  | 0 => by
    show K 33 = K 33 + nI 0
    rw [nI_0]; simp
  | m + 1 => by
    rw [goK_s, minK_T, minT_33 (by rw [(goK_same h8).P]; exact h8), go_33 h8 m, Int32.add_assoc]
    congr 1
    exact nI_1 m
theorem alk_n {f : Nat → Int32} {y : Int32} : ∀ {m i : Nat} {x : Int32} {c : Nat}, x = nI c → ∃ d, d ≤ c + m ∧ alkI f y m i x = nI d
  | 0, _, x, c, h => ⟨c, by omega, h⟩
  | m + 1, i, x, c, h => by
    rw [alkI]
    by_cases e : f i = y
    · rw [if_pos e]
      obtain ⟨d, h1, h2⟩ := alk_n (f := f) (y := y) (m := m) (i := i + 1) (x := x + 1) (c := c + 1) (by rw [h]; exact nI_1 c)
      exact ⟨d, by omega, h2⟩
    · rw [if_neg e]
      obtain ⟨d, h1, h2⟩ := alk_n (f := f) (y := y) (m := m) (i := i + 1) (x := x + 0) (c := c) (by rw [h]; simp)
      exact ⟨d, by omega, h2⟩
theorem mos_n {f : Nat → Int32} {M : Nat} (hM : M ≤ 28) : ∀ {m i : Nat} {x : Int32} {c : Nat}, x = nI c → c ≤ 28 → ∃ d, d ≤ 28 ∧ mosI f M m i x = nI d
  | 0, _, x, c, h, hc => ⟨c, hc, h⟩
  | m + 1, i, x, c, h, hc => by
    rw [mosI]
    obtain ⟨d, h1, h2⟩ := alk_n (f := f) (y := f i) (m := M) (i := 0) (x := 0) (c := 0) rfl
    have : ∃ e, e ≤ 28 ∧ mxI x (alkI f (f i) M 0 0) = nI e := by
      rw [h, h2]
      unfold mxI
      split
      · exact ⟨d, by omega, rfl⟩
      · exact ⟨c, hc, rfl⟩
    obtain ⟨e, h3, h4⟩ := this
    exact mos_n hM h4 h3
theorem mosK_n {K : row} {j p : Nat} {l : List Nat} (hl : l.length ≤ 28) : ∃ d, d ≤ 28 ∧ mosK K j l p = nI d := mos_n hl (c := 0) rfl (by omega)
theorem argn_x {f : Nat → Int32} {m p : Nat} {b x y : Int32} (hm : 0 < m) (h1 : f p < x) (h2 : f p < y) : argn f m p b x = argn f m p b y := by
  obtain ⟨m, rfl⟩ : ∃ q, m = q + 1 := ⟨m - 1, by omega⟩
  rw [argn, argn, if_pos h1, if_pos h2]
theorem lok_29 {K : row} {j : Nat} {l : List Nat} (hl : l.length ≤ 28) (h0 : l.length ≠ 0) (hP : 0 < kP K) : lokK K j l = argn (mosK K j l) (kP K) 0 (-1) 29 := by
  rw [lokK, if_neg h0]
  obtain ⟨d, h1, h2⟩ := mosK_n (K := K) (j := j) (p := 0) hl
  refine argn_x hP ?_ ?_
  · rw [h2]; exact nI_lt (b := 536870912) (by omega) (by decide)
  · rw [h2]; exact nI_lt (b := 29) (by omega) (by decide)
theorem sw_32 {K : row} {p q : Nat} (hp : p < 8) (hq : q < 8) : swapK K p q 32 = K 32 := swap_hi hp hq (by omega)
theorem tw_dec {p q : Nat} (hq : q < 10) : (10 * p + q) / 10 = p ∧ (10 * p + q) % 10 = q := by omega
theorem ix8 {t p : Nat} : nI t * 8 + nI p = nI (8 * t + p) := by
  rw [show (8 : Int32) = nI 8 from rfl, pk_mul, nI_add, Nat.mul_comm]
theorem ix10 {p q : Nat} : 10 * nI p + nI q = nI (10 * p + q) := by
  rw [show (10 : Int32) = nI 10 from rfl, pk_mul, nI_add]
