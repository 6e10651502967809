/-! ===== the class: laws ===== -/
def bndC (v : Int64) : Int32 := (if 1000000 < v then (1000000 : Int64) else if v < -1000000 then -1000000 else v).toInt32
theorem bndC_eq {v : Int64} : bndC v = bnd v := by
  unfold bndC bnd mxL mnL
  congr 1
  simp only [Int64.lt_iff_toInt_lt]
  have e1 : (1000000 : Int64).toInt = 1000000 := by decide
  have e2 : (-1000000 : Int64).toInt = -1000000 := by decide
  by_cases h1 : 1000000 < v.toInt
  · rw [e1, e2, if_pos h1, if_neg (show ¬ v.toInt < 1000000 by omega), if_neg (show ¬ (1000000 : Int64).toInt < -1000000 by rw [e1]; omega)]
  · rw [e1, e2, if_neg h1]
    by_cases h2 : v.toInt < 1000000
    · rw [if_pos h2]
    · rw [if_neg h2, if_neg (show ¬ v.toInt < -1000000 by omega), if_neg (show ¬ (1000000 : Int64).toInt < -1000000 by rw [e1]; omega)]
      apply Int64.toInt_inj.mp
      rw [e1]
      omega
theorem kin_cons2 {w x : Int32} {t : List Int32} {ts fin : List Bool} (h : kinK w (x :: t) ts = some fin) :
    (100 ≤ x ∧ (1000 ≤ x ∨ x ≤ w) ∧ ts.length < 40 ∧ kinK w t (false :: ts) = some fin) ∨ (x = 18 ∧ ∃ ts', ts = true :: ts' ∧ kinK w t (true :: ts') = some fin) ∨
    ((x = 10 ∨ x = 11 ∨ x = 12) ∧ ∃ ts', ts = false :: false :: ts' ∧ kinK w t (false :: ts') = some fin) ∨ ((x = 13 ∨ x = 14 ∨ x = 15) ∧ ∃ ts', ts = false :: false :: ts' ∧ kinK w t (true :: ts') = some fin) ∨ ((x = 16 ∨ x = 17) ∧ ∃ ts', ts = true :: true :: ts' ∧ kinK w t (true :: ts') = some fin) := by
  unfold kinK at h
  split at h
  · rename_i h1
    split at h
    · rename_i h2
      exact Or.inl ⟨h1, h2.1, h2.2, h⟩
    · cases h
  · split at h
    · rename_i h2
      split at h
      · exact Or.inr (Or.inl ⟨h2, _, rfl, h⟩)
      · cases h
    · split at h
      · rename_i h3
        split at h
        · exact Or.inr (Or.inr (Or.inr (Or.inr ⟨h3, _, rfl, h⟩)))
        · cases h
      · split at h
        · rename_i h3
          split at h
          · exact Or.inr (Or.inr (Or.inr (Or.inl ⟨h3, _, rfl, h⟩)))
          · cases h
        · split at h
          · rename_i h3
            split at h
            · exact Or.inr (Or.inr (Or.inl ⟨h3, _, rfl, h⟩))
            · cases h
          · cases h
/-- a stack of truths and numbers -/
def tyV : List Bool → List Int32 → Prop
  | [], [] => True
  | b :: ts, x :: s => (b = true → x = 0 ∨ x = 1) ∧ tyV ts s
  | _, _ => False
theorem tyV_len : ∀ {ts : List Bool} {s : List Int32}, tyV ts s → ts.length = s.length
  | [], [], _ => rfl
  | b :: ts, x :: s, h => by rw [List.length_cons, List.length_cons, tyV_len h.2]
  | [], _ :: _, h => False.elim h
  | _ :: _, [], h => False.elim h
theorem tyV_1 {b : Bool} {ts : List Bool} {s : List Int32} (h : tyV (b :: ts) s) : ∃ x s', s = x :: s' ∧ (b = true → x = 0 ∨ x = 1) ∧ tyV ts s' := by
  cases s with
  | nil => exact False.elim h
  | cons x s => exact ⟨x, s, rfl, h.1, h.2⟩
theorem bI_01 {p : Prop} [Decidable p] : bI p = 0 ∨ bI p = 1 := by
  unfold bI
  split
  · exact Or.inr rfl
  · exact Or.inl rfl
theorem done_01 {x a b : Int32} (hx : (x = 13 ∨ x = 14 ∨ x = 15) ∨ x = 16 ∨ x = 17) : doneK x a b = 0 ∨ doneK x a b = 1 := by
  rcases hx with (rfl | rfl | rfl) | rfl | rfl
  · exact bI_01 (p := a.toInt64 = b.toInt64)
  · exact bI_01 (p := a.toInt64 < b.toInt64)
  · exact bI_01 (p := b.toInt64 < a.toInt64)
  · exact bI_01 (p := 1 < a.toInt64 + b.toInt64)
  · exact bI_01 (p := 0 < a.toInt64 + b.toInt64)
/-- what joined() answers -/
def jnC (t a b : Int32) : Int32 := if t = -7 then a &&& b else if t = -8 then a ||| b else if t = -9 then bI (a = b) else if t = -10 then bI (a < b) else if t = -11 then bI (b < a) else if t = -12 then bndC (a.toInt64 + b.toInt64) else if t = -13 then bndC (a.toInt64 - b.toInt64) else bndC (a.toInt64 * b.toInt64)
theorem wid_eq {a b : Int32} : a.toInt64 = b.toInt64 ↔ a = b := by
  constructor
  · intro h
    have := congrArg Int64.toInt h
    rw [Int32.toInt_toInt64, Int32.toInt_toInt64] at this
    exact Int32.toInt_inj.mp this
  · intro h
    rw [h]
theorem wid_lt {a b : Int32} : a.toInt64 < b.toInt64 ↔ a < b := by
  rw [Int64.lt_iff_toInt_lt, Int32.lt_iff_toInt_lt, Int32.toInt_toInt64, Int32.toInt_toInt64]
theorem bI_congr {p q : Prop} [Decidable p] [Decidable q] (h : p ↔ q) : bI p = bI q := by
  unfold bI
  by_cases hp : p
  · rw [if_pos hp, if_pos (h.mp hp)]
  · rw [if_neg hp, if_neg (fun hq => hp (h.mpr hq))]
theorem jn_ok {x a b : Int32} (hx : x = 10 ∨ x = 11 ∨ x = 12 ∨ x = 13 ∨ x = 14 ∨ x = 15 ∨ x = 16 ∨ x = 17) (h01 : x = 16 ∨ x = 17 → (a = 0 ∨ a = 1) ∧ (b = 0 ∨ b = 1)) : jnC (trS x) a b = doneK x a b := by
  rcases hx with rfl | rfl | rfl | rfl | rfl | rfl | rfl | rfl
  · exact bndC_eq (v := a.toInt64 + b.toInt64)
  · exact bndC_eq (v := a.toInt64 - b.toInt64)
  · exact bndC_eq (v := a.toInt64 * b.toInt64)
  · exact (bI_congr (p := a = b) (q := a.toInt64 = b.toInt64) wid_eq.symm)
  · exact (bI_congr (p := a < b) (q := a.toInt64 < b.toInt64) wid_lt.symm)
  · exact (bI_congr (p := b < a) (q := b.toInt64 < a.toInt64) wid_lt.symm)
  · obtain ⟨h1, h2⟩ := h01 (Or.inl rfl)
    rcases h1 with rfl | rfl <;> rcases h2 with rfl | rfl <;> decide
  · obtain ⟨h1, h2⟩ := h01 (Or.inr rfl)
    rcases h1 with rfl | rfl <;> rcases h2 with rfl | rfl <;> decide
theorem tr_neg {x : Int32} (hx : x = 10 ∨ x = 11 ∨ x = 12 ∨ x = 13 ∨ x = 14 ∨ x = 15 ∨ x = 16 ∨ x = 17) : ¬ -6 ≤ trS x := by
  rcases hx with rfl | rfl | rfl | rfl | rfl | rfl | rfl | rfl <;> decide
theorem tr_big {x : Int32} (h : 1000 ≤ x) : ∃ m : Nat, m < 2 ^ 31 ∧ trS x = nI m ∧ x - 1000 = nI m := by
  have h0 := Int32.le_iff_toInt_le.mp h
  have e1 : (1000 : Int32).toInt = 1000 := by decide
  rw [e1] at h0
  obtain ⟨j, hj, rfl⟩ := nI_of (x := x) (fun hc => by
    have := Int32.lt_iff_toInt_lt.mp hc
    have e0 : (0 : Int32).toInt = 0 := by decide
    omega)
  rw [nI_toInt hj] at h0
  have e : nI j - 1000 = nI (j - 1000) := pk_sub (b := 1000) (by omega)
  exact ⟨j - 1000, by omega, by rw [trS, if_pos h, e], e⟩
theorem m6_le {m : Nat} (h : m < 2 ^ 31) : (-6 : Int32) ≤ nI m ∧ ¬ nI m = -6 := by
  have e : (-6 : Int32).toInt = -6 := by decide
  refine ⟨?_, fun hc => ?_⟩
  · rw [Int32.le_iff_toInt_le, nI_toInt h, e]
    omega
  · have := congrArg Int32.toInt hc
    rw [nI_toInt h, e] at this
    omega
theorem w_five {x w : Int32} (h1 : 100 ≤ x) (h2 : x ≤ w) (hw : w ≤ 104) : x = 100 ∨ x = 101 ∨ x = 102 ∨ x = 103 ∨ x = 104 := by
  have a1 := Int32.le_iff_toInt_le.mp h1
  have a2 := Int32.le_iff_toInt_le.mp h2
  have a3 := Int32.le_iff_toInt_le.mp hw
  have e1 : (100 : Int32).toInt = 100 := by decide
  have e2 : (104 : Int32).toInt = 104 := by decide
  rw [e1] at a1; rw [e2] at a3
  have e3 : (101 : Int32).toInt = 101 := by decide
  have e4 : (102 : Int32).toInt = 102 := by decide
  have e5 : (103 : Int32).toInt = 103 := by decide
  rcases (show x.toInt = 100 ∨ x.toInt = 101 ∨ x.toInt = 102 ∨ x.toInt = 103 ∨ x.toInt = 104 by omega) with h | h | h | h | h
  · exact Or.inl (Int32.toInt_inj.mp (by rw [h, e1]))
  · exact Or.inr (Or.inl (Int32.toInt_inj.mp (by rw [h, e3])))
  · exact Or.inr (Or.inr (Or.inl (Int32.toInt_inj.mp (by rw [h, e4]))))
  · exact Or.inr (Or.inr (Or.inr (Or.inl (Int32.toInt_inj.mp (by rw [h, e5])))))
  · exact Or.inr (Or.inr (Or.inr (Or.inr (Int32.toInt_inj.mp (by rw [h, e2])))))
theorem m2_nI {t : Nat} : nI (t + 2) + (-2) = nI t := by
  have h : nI (t + 1 + 1) + (-1) = nI (t + 1) := pk_m1 (t + 1)
  have h2 : nI (t + 1) + (-1) = nI t := pk_m1 t
  rw [← h2, ← h, show t + 2 = t + 1 + 1 by omega, Int32.add_assoc]
  rfl
theorem map_at {cs : List Int32} {i : Nat} (h : i < cs.length) : (cs.map trS).getD i 0 = trS (cs.getD i 0) := by
  rw [List.getD_eq_getElem?_getD, List.getD_eq_getElem?_getD, List.getElem?_map, List.getElem?_eq_getElem h]
  rfl
