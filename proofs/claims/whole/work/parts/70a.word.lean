/-! ===== which word is_q which kind ===== -/
theorem ite_k {p : Prop} [Decidable p] {x_q y_q c_q : Int32} (h_q : (if p then x_q else y_q) = c_q) (hx_q : x_q ≠ c_q) : y_q = c_q := by
  by_cases e_q : p
  · rw [if_pos e_q] at h_q; exact absurd h_q hx_q
  · rw [if_neg e_q] at h_q; exact h_q
theorem ite_p {p : Prop} [Decidable p] {x_q y_q c_q : Int32} (h_q : (if p then x_q else y_q) = c_q) (hy_q : y_q = c_q → p) : p := by
  by_cases e_q : p
  · exact e_q
  · rw [if_neg e_q] at h_q; exact hy_q h_q
theorem wk_4 (L : List Int32) : wK L = 4 ↔ L = wdL "beach" := by
  constructor
  · intro h_q
    unfold wK at h_q
    refine ite_p h_q (fun h_q => ?_)
    exfalso
    replace h_q := ite_k h_q (by decide)
    replace h_q := ite_k h_q (by decide)
    replace h_q := ite_k h_q (by decide)
    replace h_q := ite_k h_q (by decide)
    replace h_q := ite_k h_q (by decide)
    replace h_q := ite_k h_q (by decide)
    replace h_q := ite_k h_q (by decide)
    replace h_q := ite_k h_q (by decide)
    replace h_q := ite_k h_q (by decide)
    replace h_q := ite_k h_q (by decide)
    replace h_q := ite_k h_q (by decide)
    replace h_q := ite_k h_q (by decide)
    replace h_q := ite_k h_q (by decide)
    replace h_q := ite_k h_q (by decide)
    replace h_q := ite_k h_q (by decide)
    replace h_q := ite_k h_q (by decide)
    exact absurd h_q (by decide)
  · intro e_q
    subst e_q
    decide +kernel
theorem wk_5 (L : List Int32) : wK L = 5 ↔ L = wdL "person" := by
  constructor
  · intro h_q
    unfold wK at h_q
    replace h_q := ite_k h_q (by decide)
    refine ite_p h_q (fun h_q => ?_)
    exfalso
    replace h_q := ite_k h_q (by decide)
    replace h_q := ite_k h_q (by decide)
    replace h_q := ite_k h_q (by decide)
    replace h_q := ite_k h_q (by decide)
    replace h_q := ite_k h_q (by decide)
    replace h_q := ite_k h_q (by decide)
    replace h_q := ite_k h_q (by decide)
    replace h_q := ite_k h_q (by decide)
    replace h_q := ite_k h_q (by decide)
    replace h_q := ite_k h_q (by decide)
    replace h_q := ite_k h_q (by decide)
    replace h_q := ite_k h_q (by decide)
    replace h_q := ite_k h_q (by decide)
    replace h_q := ite_k h_q (by decide)
    replace h_q := ite_k h_q (by decide)
    exact absurd h_q (by decide)
  · intro e_q
    subst e_q
    decide +kernel
theorem wk_6 (L : List Int32) : wK L = 6 ↔ L = wdL "at" := by
  constructor
  · intro h_q
    unfold wK at h_q
    replace h_q := ite_k h_q (by decide)
    replace h_q := ite_k h_q (by decide)
    refine ite_p h_q (fun h_q => ?_)
    exfalso
    replace h_q := ite_k h_q (by decide)
    replace h_q := ite_k h_q (by decide)
    replace h_q := ite_k h_q (by decide)
    replace h_q := ite_k h_q (by decide)
    replace h_q := ite_k h_q (by decide)
    replace h_q := ite_k h_q (by decide)
    replace h_q := ite_k h_q (by decide)
    replace h_q := ite_k h_q (by decide)
    replace h_q := ite_k h_q (by decide)
    replace h_q := ite_k h_q (by decide)
    replace h_q := ite_k h_q (by decide)
    replace h_q := ite_k h_q (by decide)
    replace h_q := ite_k h_q (by decide)
    replace h_q := ite_k h_q (by decide)
    exact absurd h_q (by decide)
  · intro e_q
    subst e_q
    decide +kernel
theorem wk_7 (L : List Int32) : wK L = 7 ↔ L = wdL "moves" := by
  constructor
  · intro h_q
    unfold wK at h_q
    replace h_q := ite_k h_q (by decide)
    replace h_q := ite_k h_q (by decide)
    replace h_q := ite_k h_q (by decide)
    refine ite_p h_q (fun h_q => ?_)
    exfalso
    replace h_q := ite_k h_q (by decide)
    replace h_q := ite_k h_q (by decide)
    replace h_q := ite_k h_q (by decide)
    replace h_q := ite_k h_q (by decide)
    replace h_q := ite_k h_q (by decide)
    replace h_q := ite_k h_q (by decide)
    replace h_q := ite_k h_q (by decide)
    replace h_q := ite_k h_q (by decide)
    replace h_q := ite_k h_q (by decide)
    replace h_q := ite_k h_q (by decide)
    replace h_q := ite_k h_q (by decide)
    replace h_q := ite_k h_q (by decide)
    replace h_q := ite_k h_q (by decide)
    exact absurd h_q (by decide)
  · intro e_q
    subst e_q
    decide +kernel
theorem wk_8 (L : List Int32) : wK L = 8 ↔ L = wdL "tide" := by
  constructor
  · intro h_q
    unfold wK at h_q
    replace h_q := ite_k h_q (by decide)
    replace h_q := ite_k h_q (by decide)
    replace h_q := ite_k h_q (by decide)
    replace h_q := ite_k h_q (by decide)
    refine ite_p h_q (fun h_q => ?_)
    exfalso
    replace h_q := ite_k h_q (by decide)
    replace h_q := ite_k h_q (by decide)
    replace h_q := ite_k h_q (by decide)
    replace h_q := ite_k h_q (by decide)
    replace h_q := ite_k h_q (by decide)
    replace h_q := ite_k h_q (by decide)
    replace h_q := ite_k h_q (by decide)
    replace h_q := ite_k h_q (by decide)
    replace h_q := ite_k h_q (by decide)
    replace h_q := ite_k h_q (by decide)
    replace h_q := ite_k h_q (by decide)
    replace h_q := ite_k h_q (by decide)
    exact absurd h_q (by decide)
  · intro e_q
    subst e_q
    decide +kernel
theorem wk_9 (L : List Int32) : wK L = 9 ↔ L = wdL "wets" := by
  constructor
  · intro h_q
    unfold wK at h_q
    replace h_q := ite_k h_q (by decide)
    replace h_q := ite_k h_q (by decide)
    replace h_q := ite_k h_q (by decide)
    replace h_q := ite_k h_q (by decide)
    replace h_q := ite_k h_q (by decide)
    refine ite_p h_q (fun h_q => ?_)
    exfalso
    replace h_q := ite_k h_q (by decide)
    replace h_q := ite_k h_q (by decide)
    replace h_q := ite_k h_q (by decide)
    replace h_q := ite_k h_q (by decide)
    replace h_q := ite_k h_q (by decide)
    replace h_q := ite_k h_q (by decide)
    replace h_q := ite_k h_q (by decide)
    replace h_q := ite_k h_q (by decide)
    replace h_q := ite_k h_q (by decide)
    replace h_q := ite_k h_q (by decide)
    replace h_q := ite_k h_q (by decide)
    exact absurd h_q (by decide)
  · intro e_q
    subst e_q
    decide +kernel
theorem wk_10 (L : List Int32) : wK L = 10 ↔ L = wdL "minute" := by
  constructor
  · intro h_q
    unfold wK at h_q
    replace h_q := ite_k h_q (by decide)
    replace h_q := ite_k h_q (by decide)
    replace h_q := ite_k h_q (by decide)
    replace h_q := ite_k h_q (by decide)
    replace h_q := ite_k h_q (by decide)
    replace h_q := ite_k h_q (by decide)
    refine ite_p h_q (fun h_q => ?_)
    exfalso
    replace h_q := ite_k h_q (by decide)
    replace h_q := ite_k h_q (by decide)
    replace h_q := ite_k h_q (by decide)
    replace h_q := ite_k h_q (by decide)
    replace h_q := ite_k h_q (by decide)
    replace h_q := ite_k h_q (by decide)
    replace h_q := ite_k h_q (by decide)
    replace h_q := ite_k h_q (by decide)
    replace h_q := ite_k h_q (by decide)
    replace h_q := ite_k h_q (by decide)
    exact absurd h_q (by decide)
  · intro e_q
    subst e_q
    decide +kernel
theorem wk_11 (L : List Int32) : wK L = 11 ↔ L = wdL "age" := by
  constructor
  · intro h_q
    unfold wK at h_q
    replace h_q := ite_k h_q (by decide)
    replace h_q := ite_k h_q (by decide)
    replace h_q := ite_k h_q (by decide)
    replace h_q := ite_k h_q (by decide)
    replace h_q := ite_k h_q (by decide)
    replace h_q := ite_k h_q (by decide)
    replace h_q := ite_k h_q (by decide)
    refine ite_p h_q (fun h_q => ?_)
    exfalso
    replace h_q := ite_k h_q (by decide)
    replace h_q := ite_k h_q (by decide)
    replace h_q := ite_k h_q (by decide)
    replace h_q := ite_k h_q (by decide)
    replace h_q := ite_k h_q (by decide)
    replace h_q := ite_k h_q (by decide)
    replace h_q := ite_k h_q (by decide)
    replace h_q := ite_k h_q (by decide)
    replace h_q := ite_k h_q (by decide)
    exact absurd h_q (by decide)
  · intro e_q
    subst e_q
    decide +kernel
theorem wk_12 (L : List Int32) : wK L = 12 ↔ L = wdL "asleep" := by
  constructor
  · intro h_q
    unfold wK at h_q
    replace h_q := ite_k h_q (by decide)
    replace h_q := ite_k h_q (by decide)
    replace h_q := ite_k h_q (by decide)
    replace h_q := ite_k h_q (by decide)
    replace h_q := ite_k h_q (by decide)
    replace h_q := ite_k h_q (by decide)
    replace h_q := ite_k h_q (by decide)
    replace h_q := ite_k h_q (by decide)
    refine ite_p h_q (fun h_q => ?_)
    exfalso
    replace h_q := ite_k h_q (by decide)
    replace h_q := ite_k h_q (by decide)
    replace h_q := ite_k h_q (by decide)
    replace h_q := ite_k h_q (by decide)
    replace h_q := ite_k h_q (by decide)
    replace h_q := ite_k h_q (by decide)
    replace h_q := ite_k h_q (by decide)
    replace h_q := ite_k h_q (by decide)
    exact absurd h_q (by decide)
  · intro e_q
    subst e_q
    decide +kernel
theorem wk_13 (L : List Int32) : wK L = 13 ↔ L = wdL "rises" := by
  constructor
  · intro h_q
    unfold wK at h_q
    replace h_q := ite_k h_q (by decide)
    replace h_q := ite_k h_q (by decide)
    replace h_q := ite_k h_q (by decide)
    replace h_q := ite_k h_q (by decide)
    replace h_q := ite_k h_q (by decide)
    replace h_q := ite_k h_q (by decide)
    replace h_q := ite_k h_q (by decide)
    replace h_q := ite_k h_q (by decide)
    replace h_q := ite_k h_q (by decide)
    refine ite_p h_q (fun h_q => ?_)
    exfalso
    replace h_q := ite_k h_q (by decide)
    replace h_q := ite_k h_q (by decide)
    replace h_q := ite_k h_q (by decide)
    replace h_q := ite_k h_q (by decide)
    replace h_q := ite_k h_q (by decide)
    replace h_q := ite_k h_q (by decide)
    replace h_q := ite_k h_q (by decide)
    exact absurd h_q (by decide)
  · intro e_q
    subst e_q
    decide +kernel
theorem wk_14 (L : List Int32) : wK L = 14 ↔ L = wdL "for" := by
  constructor
  · intro h_q
    unfold wK at h_q
    replace h_q := ite_k h_q (by decide)
    replace h_q := ite_k h_q (by decide)
    replace h_q := ite_k h_q (by decide)
    replace h_q := ite_k h_q (by decide)
    replace h_q := ite_k h_q (by decide)
    replace h_q := ite_k h_q (by decide)
    replace h_q := ite_k h_q (by decide)
    replace h_q := ite_k h_q (by decide)
    replace h_q := ite_k h_q (by decide)
    replace h_q := ite_k h_q (by decide)
    refine ite_p h_q (fun h_q => ?_)
    exfalso
    replace h_q := ite_k h_q (by decide)
    replace h_q := ite_k h_q (by decide)
    replace h_q := ite_k h_q (by decide)
    replace h_q := ite_k h_q (by decide)
    replace h_q := ite_k h_q (by decide)
    replace h_q := ite_k h_q (by decide)
    exact absurd h_q (by decide)
  · intro e_q
    subst e_q
    decide +kernel
theorem wk_15 (L : List Int32) : wK L = 15 ↔ L = wdL "not" := by
  constructor
  · intro h_q
    unfold wK at h_q
    replace h_q := ite_k h_q (by decide)
    replace h_q := ite_k h_q (by decide)
    replace h_q := ite_k h_q (by decide)
    replace h_q := ite_k h_q (by decide)
    replace h_q := ite_k h_q (by decide)
    replace h_q := ite_k h_q (by decide)
    replace h_q := ite_k h_q (by decide)
    replace h_q := ite_k h_q (by decide)
    replace h_q := ite_k h_q (by decide)
    replace h_q := ite_k h_q (by decide)
    replace h_q := ite_k h_q (by decide)
    refine ite_p h_q (fun h_q => ?_)
    exfalso
    replace h_q := ite_k h_q (by decide)
    replace h_q := ite_k h_q (by decide)
    replace h_q := ite_k h_q (by decide)
    replace h_q := ite_k h_q (by decide)
    replace h_q := ite_k h_q (by decide)
    exact absurd h_q (by decide)
  · intro e_q
    subst e_q
    decide +kernel
theorem wk_16 (L : List Int32) : wK L = 16 ↔ L = wdL "and" := by
  constructor
  · intro h_q
    unfold wK at h_q
    replace h_q := ite_k h_q (by decide)
    replace h_q := ite_k h_q (by decide)
    replace h_q := ite_k h_q (by decide)
    replace h_q := ite_k h_q (by decide)
    replace h_q := ite_k h_q (by decide)
    replace h_q := ite_k h_q (by decide)
    replace h_q := ite_k h_q (by decide)
    replace h_q := ite_k h_q (by decide)
    replace h_q := ite_k h_q (by decide)
    replace h_q := ite_k h_q (by decide)
    replace h_q := ite_k h_q (by decide)
    replace h_q := ite_k h_q (by decide)
    refine ite_p h_q (fun h_q => ?_)
    exfalso
    replace h_q := ite_k h_q (by decide)
    replace h_q := ite_k h_q (by decide)
    replace h_q := ite_k h_q (by decide)
    replace h_q := ite_k h_q (by decide)
    exact absurd h_q (by decide)
  · intro e_q
    subst e_q
    decide +kernel
theorem wk_17 (L : List Int32) : wK L = 17 ↔ L = wdL "or" := by
  constructor
  · intro h_q
    unfold wK at h_q
    replace h_q := ite_k h_q (by decide)
    replace h_q := ite_k h_q (by decide)
    replace h_q := ite_k h_q (by decide)
    replace h_q := ite_k h_q (by decide)
    replace h_q := ite_k h_q (by decide)
    replace h_q := ite_k h_q (by decide)
    replace h_q := ite_k h_q (by decide)
    replace h_q := ite_k h_q (by decide)
    replace h_q := ite_k h_q (by decide)
    replace h_q := ite_k h_q (by decide)
    replace h_q := ite_k h_q (by decide)
    replace h_q := ite_k h_q (by decide)
    replace h_q := ite_k h_q (by decide)
    refine ite_p h_q (fun h_q => ?_)
    exfalso
    replace h_q := ite_k h_q (by decide)
    replace h_q := ite_k h_q (by decide)
    replace h_q := ite_k h_q (by decide)
    exact absurd h_q (by decide)
  · intro e_q
    subst e_q
    decide +kernel
theorem wk_18 (L : List Int32) : wK L = 18 ↔ L = wdL "who" := by
  constructor
  · intro h_q
    unfold wK at h_q
    replace h_q := ite_k h_q (by decide)
    replace h_q := ite_k h_q (by decide)
    replace h_q := ite_k h_q (by decide)
    replace h_q := ite_k h_q (by decide)
    replace h_q := ite_k h_q (by decide)
    replace h_q := ite_k h_q (by decide)
    replace h_q := ite_k h_q (by decide)
    replace h_q := ite_k h_q (by decide)
    replace h_q := ite_k h_q (by decide)
    replace h_q := ite_k h_q (by decide)
    replace h_q := ite_k h_q (by decide)
    replace h_q := ite_k h_q (by decide)
    replace h_q := ite_k h_q (by decide)
    replace h_q := ite_k h_q (by decide)
    refine ite_p h_q (fun h_q => ?_)
    exfalso
    replace h_q := ite_k h_q (by decide)
    replace h_q := ite_k h_q (by decide)
    exact absurd h_q (by decide)
  · intro e_q
    subst e_q
    decide +kernel
theorem wk_19 (L : List Int32) : wK L = 19 ↔ L = wdL "column" := by
  constructor
  · intro h_q
    unfold wK at h_q
    replace h_q := ite_k h_q (by decide)
    replace h_q := ite_k h_q (by decide)
    replace h_q := ite_k h_q (by decide)
    replace h_q := ite_k h_q (by decide)
    replace h_q := ite_k h_q (by decide)
    replace h_q := ite_k h_q (by decide)
    replace h_q := ite_k h_q (by decide)
    replace h_q := ite_k h_q (by decide)
    replace h_q := ite_k h_q (by decide)
    replace h_q := ite_k h_q (by decide)
    replace h_q := ite_k h_q (by decide)
    replace h_q := ite_k h_q (by decide)
    replace h_q := ite_k h_q (by decide)
    replace h_q := ite_k h_q (by decide)
    replace h_q := ite_k h_q (by decide)
    refine ite_p h_q (fun h_q => ?_)
    exfalso
    replace h_q := ite_k h_q (by decide)
    exact absurd h_q (by decide)
  · intro e_q
    subst e_q
    decide +kernel
theorem wk_20 (L : List Int32) : wK L = 20 ↔ L = wdL "row" := by
  constructor
  · intro h_q
    unfold wK at h_q
    replace h_q := ite_k h_q (by decide)
    replace h_q := ite_k h_q (by decide)
    replace h_q := ite_k h_q (by decide)
    replace h_q := ite_k h_q (by decide)
    replace h_q := ite_k h_q (by decide)
    replace h_q := ite_k h_q (by decide)
    replace h_q := ite_k h_q (by decide)
    replace h_q := ite_k h_q (by decide)
    replace h_q := ite_k h_q (by decide)
    replace h_q := ite_k h_q (by decide)
    replace h_q := ite_k h_q (by decide)
    replace h_q := ite_k h_q (by decide)
    replace h_q := ite_k h_q (by decide)
    replace h_q := ite_k h_q (by decide)
    replace h_q := ite_k h_q (by decide)
    replace h_q := ite_k h_q (by decide)
    refine ite_p h_q (fun h_q => ?_)
    exfalso
    exact absurd h_q (by decide)
  · intro e_q
    subst e_q
    decide +kernel
