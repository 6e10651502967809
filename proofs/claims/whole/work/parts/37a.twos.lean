/-! ===== two who had changed chairs ===== -/
def twP (K : row) (j v p : Nat) : Int32 := placeK (goK j (swapK K (v / 10) (v % 10))) p
def twS (K : row) (s : Int32) (j v : Nat) : Bool := decide (v / 10 < v % 10 ∧ whyX K ((v / 10 : Nat) : Int) ((v % 10 : Nat) : Int) = 0 ∧ goK j (swapK K (v / 10) (v % 10)) 32 &&& (K 32 ^^^ (-1)) = s)
def twL (f : Nat → Bool) : Nat → Nat → List Nat
  | 0, _ => []
  | m + 1, v => if f v = true then v :: twL f m (v + 1) else twL f m (v + 1)
theorem twL_y {f : Nat → Bool} {P i : Nat} (h : i < P) (e : f i = true) : twL f (P - i) i = i :: twL f (P - (i + 1)) (i + 1) := by
  rw [show P - i = (P - (i + 1)) + 1 by omega, twL, if_pos e]
theorem twL_n {f : Nat → Bool} {P i : Nat} (h : i < P) (e : ¬ f i = true) : twL f (P - i) i = twL f (P - (i + 1)) (i + 1) := by
  rw [show P - i = (P - (i + 1)) + 1 by omega, twL, if_neg e]
theorem twL_le {f g : Nat → Bool} (h : ∀ v, f v = true → g v = true) : ∀ m v, (twL f m v).length ≤ (twL g m v).length
  | 0, _ => Nat.le_refl _
  | m + 1, v => by
    rw [twL, twL]
    have := twL_le h m (v + 1)
    by_cases e : f v = true
    · rw [if_pos e, if_pos (h v e), List.length_cons, List.length_cons]
      omega
    · rw [if_neg e]
      split
      · rw [List.length_cons]
        omega
      · exact this
def twK (K : row) (s : Int32) (j : Nat) : List Nat := twL (twS K s j) 100 0
theorem twK_28 {K : row} {s : Int32} {j : Nat} (h8 : kP K ≤ 8) : (twK K s j).length ≤ 28 := by
  have h1 := twL_le (f := twS K s j) (g := fun v => decide (v / 10 < v % 10 ∧ v % 10 < 8)) (fun v hv => by
    simp only [twS, decide_eq_true_eq] at hv
    obtain ⟨a, b, -, h2, -⟩ := whyX_0 hv.2.1
    have := pN_some h2
    simp only [decide_eq_true_eq]
    omega) 100 0
  have h2 : (twL (fun v => decide (v / 10 < v % 10 ∧ v % 10 < 8)) 100 0).length = 28 := by decide +kernel
  rw [h2] at h1
  exact h1
theorem twL_mem {f : Nat → Bool} : ∀ {m v : Nat} {x : Nat}, x ∈ twL f m v → v ≤ x ∧ x < v + m ∧ f x = true
  | 0, _, _, h => by simp [twL] at h
  | m + 1, v, x, h => by
    rw [twL] at h
    split at h
    · rcases List.mem_cons.mp h with e | e
      · subst e
        exact ⟨by omega, by omega, by assumption⟩
      · have := twL_mem e
        exact ⟨by omega, by omega, this.2.2⟩
    · have := twL_mem h
      exact ⟨by omega, by omega, this.2.2⟩
theorem twK_at {K : row} {s : Int32} {j i : Nat} (h8 : kP K ≤ 8) (hi : i < (twK K s j).length) : (twK K s j).getD i 0 < 100 ∧ (twK K s j).getD i 0 / 10 < 8 ∧ (twK K s j).getD i 0 % 10 < 8 := by
  have h1 : (twK K s j).getD i 0 ∈ twK K s j := by
    rw [List.getD_eq_getElem?_getD, List.getElem?_eq_getElem hi]
    exact List.getElem_mem hi
  obtain ⟨-, h2, h3⟩ := twL_mem h1
  simp only [twS, decide_eq_true_eq] at h3
  obtain ⟨a, b, g1, g2, -⟩ := whyX_0 h3.2.1
  have := pN_some g1
  have := pN_some g2
  omega
theorem tw_div {i : Nat} (h : i < 100) : nI i / 10 = nI (i / 10) := pk_div (d := 10) (by omega) (by omega) (by omega)
theorem tw_rem {i : Nat} (h : i < 100) : nI i - nI i / 10 * 10 = nI (i % 10) := pk_rem (d := 10) (by omega) (by omega) (by omega)
/-- what is left of them: the twos, and where all sit then -/
def twJ (K : row) (j : Nat) (l : List Nat) (f g : row) : Prop := ∀ i, i < l.length → f i = nI (l.getD i 0) ∧ ∀ p, p < kP K → g (8 * i + p) = twP K j (l.getD i 0) p
theorem twJ_add {K : row} {j v : Nat} {l : List Nat} {f g f' g' : row} (h : twJ K j l f g) (hf : f' = upd f l.length (nI v)) (hg : ∀ p, p < kP K → g' (8 * l.length + p) = twP K j v p) (hg2 : ∀ q, q < 8 * l.length → g' q = g q) (h8 : kP K ≤ 8) : twJ K j (l ++ [v]) f' g' := by
  intro i hi
  rw [List.length_append, List.length_singleton] at hi
  by_cases e : i = l.length
  · subst e
    rw [hf, pk_us]
    have : (l ++ [v]).getD l.length 0 = v := by simp
    rw [this]
    exact ⟨rfl, hg⟩
  · have hi2 : i < l.length := by omega
    have : (l ++ [v]).getD i 0 = l.getD i 0 := by
      rw [List.getD_eq_getElem?_getD, List.getD_eq_getElem?_getD, List.getElem?_append_left hi2]
    rw [this, hf, pk_un e]
    refine ⟨(h i hi2).1, fun p hp => ?_⟩
    rw [hg2 _ (by omega)]
    exact (h i hi2).2 p hp
def chT (K : row) (s : Int32) (z : Int) : Int32 := if s &&& (((1 : Int32) <<< (K 3 &&& 31) - 1) ^^^ (-1)) = 0 then (match rN 1 61 z with
    | none => 1
    | some _ => 0)
  else 1
theorem chT_c {K : row} {s : Int32} {z : Int} : chT K s z = 1 ∨ (chT K s z = 0 ∧ s &&& (((1 : Int32) <<< (K 3 &&& 31) - 1) ^^^ (-1)) = 0 ∧ ∃ j, rN 1 61 z = some j) := by
  unfold chT
  split
  · cases h : rN 1 61 z with
    | none => exact Or.inl rfl
    | some j => exact Or.inr ⟨rfl, by assumption, j, rfl⟩
  · exact Or.inl rfl
def aChanged (K : row) (s : Int32) (z : Int) : Int32 × Int32 := if chT K s z ≠ 0 then (chT K s z, 0) else (0, nI (twK K s z.toNat).length)
def aChangedAt (K : row) (s : Int32) (z : Int) (k : Int32) : Int32 × Int32 := if chT K s z ≠ 0 then (chT K s z, 0) else if k < 0 then (1, 0) else
  (0, if k < nI (twK K s z.toNat).length then nI ((twK K s z.toNat).getD k.toNatClampNeg 0) else -1)
/-- who is in all twos -/
def surI (l : List Nat) : Nat → Nat → Int32 → Int32
  | 0, _, x => x
  | m + 1, i, x => surI l m (i + 1) (x &&& (bit1 (l.getD i 0 / 10) ||| bit1 (l.getD i 0 % 10)))
theorem surI_step {l : List Nat} {P i : Nat} {x : Int32} (h : i < P) : surI l (P - i) i x = surI l (P - (i + 1)) (i + 1) (x &&& (bit1 (l.getD i 0 / 10) ||| bit1 (l.getD i 0 % 10))) := by
  rw [show P - i = (P - (i + 1)) + 1 by omega, surI]
def surK (K : row) (l : List Nat) : Int32 := surI l l.length 0 (if l.length = 0 then 0 else (1 : Int32) <<< (K 3 &&& 31) - 1)
def aSure (K : row) (s : Int32) (z : Int) : Int32 × Int32 := if chT K s z ≠ 0 then (chT K s z, 0) else (0, surK K (twK K s z.toNat))
/-- the greatest number of like ones -/
def alkI (f : Nat → Int32) (y : Int32) : Nat → Nat → Int32 → Int32
  | 0, _, x => x
  | m + 1, i, x => alkI f y m (i + 1) (x + (if f i = y then 1 else 0))
theorem alkI_step {f : Nat → Int32} {y : Int32} {P i : Nat} {x : Int32} (h : i < P) : alkI f y (P - i) i x = alkI f y (P - (i + 1)) (i + 1) (x + (if f i = y then 1 else 0)) := by
  rw [show P - i = (P - (i + 1)) + 1 by omega, alkI]
def mosI (f : Nat → Int32) (M : Nat) : Nat → Nat → Int32 → Int32
  | 0, _, x => x
  | m + 1, i, x => mosI f M m (i + 1) (mxI x (alkI f (f i) M 0 0))
theorem mosI_step {f : Nat → Int32} {M P i : Nat} {x : Int32} (h : i < P) : mosI f M (P - i) i x = mosI f M (P - (i + 1)) (i + 1) (mxI x (alkI f (f i) M 0 0)) := by
  rw [show P - i = (P - (i + 1)) + 1 by omega, mosI]
def mosK (K : row) (j : Nat) (l : List Nat) (p : Nat) : Int32 := mosI (fun i => twP K j (l.getD i 0) p) l.length l.length 0 0
/-- the first with the least -/
def argn (f : Nat → Int32) : Nat → Nat → Int32 → Int32 → Int32
  | 0, _, b, _ => b
  | m + 1, p, b, x => if f p < x then argn f m (p + 1) (nI p) (f p) else argn f m (p + 1) b x
theorem argn_step {f : Nat → Int32} {P i : Nat} {b x : Int32} (h : i < P) : argn f (P - i) i b x = if f i < x then argn f (P - (i + 1)) (i + 1) (nI i) (f i) else argn f (P - (i + 1)) (i + 1) b x := by
  rw [show P - i = (P - (i + 1)) + 1 by omega, argn]
def lokK (K : row) (j : Nat) (l : List Nat) : Int32 := if l.length = 0 then -1 else argn (mosK K j l) (kP K) 0 (-1) 536870912
def aLook (K : row) (s : Int32) (z : Int) : Int32 × Int32 := if chT K s z ≠ 0 then (chT K s z, 0) else (0, lokK K z.toNat (twK K s z.toNat))
/-- what laysTwos leaves -/
def laJ (Γ : gam) (r : Nat) (F K : row) (A : Nat → row) (Nm : Nat → Int64) (σ : sto) (n j : Nat) (l : List Nat) (σ' : sto) (n' : Nat) : Prop := n' = n ∧ ∃ F' A', MoAt Γ σ' r F' K A' Nm ∧ F' 26 = nI l.length ∧ (∀ q, q ≠ 26 → F' q = F q) ∧ eqx [6, 7, 8, 9, 10, 11, 12, 13] A A' ∧ fr r (r + 16) σ σ' ∧ twJ K j l (A' 12) (A' 13)
