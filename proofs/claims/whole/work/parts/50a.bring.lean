/-! ===== the fewest who have to rise are of the column ===== -/
def brC (p : Nat) (to : Int32) : Nat → row → Option (List Nat)
  | 0, K => if K (16 + p) ≤ to then some [] else none
  | m + 1, K => fs (fun q => if q ≠ p ∧ K (8 + q) = K (8 + p) ∧ whyR K (q : Int) = 0 then (brC p to m (riseK K q (-1)).1).map (fun l => q :: l) else none) 0 (kP K)
def vl (p : Nat) (to : Int32) : List Nat → row → Prop
  | [], K => K (16 + p) ≤ to
  | q :: l, K => q < kP K ∧ q ≠ p ∧ whyR K (q : Int) = 0 ∧ vl p to l (riseK K q (-1)).1
theorem fs_congr {α : Type} {f g : Nat → Option α} : ∀ {m i : Nat}, (∀ q, i ≤ q → q < i + m → f q = g q) → fs f i m = fs g i m
  | 0, _, _ => rfl
  | m + 1, i, h => by
    rw [fs, fs, h i (by omega) (by omega)]
    split
    · rfl
    · exact fs_congr fun q h1 h2 => h q (by omega) (by omega)
theorem map_some {q : Nat} {x : Option (List Nat)} {l : List Nat} (h : x.map (fun l => q :: l) = some l) : ∃ l2, x = some l2 ∧ l = q :: l2 := by
  cases x with
  | none => cases h
  | some y => cases h; exact ⟨y, rfl, rfl⟩
theorem brK_vl {p : Nat} {to : Int32} : ∀ {m : Nat} {K : row} {l : List Nat}, brK p to m K = some l → vl p to l K ∧ l.length = m
  | 0, K, l, h => by
    rw [brK] at h
    split at h
    · cases h; exact ⟨‹_›, rfl⟩
    · cases h
  | m + 1, K, l, h => by
    rw [brK] at h
    obtain ⟨q, -, h2, h3, -⟩ := fs_some h
    split at h3
    · rename_i hc
      obtain ⟨l2, h4, rfl⟩ := map_some h3
      obtain ⟨h5, h6⟩ := brK_vl h4
      exact ⟨⟨by omega, hc.1, hc.2, h5⟩, by rw [List.length_cons, h6]⟩
    · cases h3
theorem brC_vl {p : Nat} {to : Int32} : ∀ {m : Nat} {K : row} {l : List Nat}, brC p to m K = some l → vl p to l K ∧ l.length = m
  | 0, K, l, h => by
    rw [brC] at h
    split at h
    · cases h; exact ⟨‹_›, rfl⟩
    · cases h
  | m + 1, K, l, h => by
    rw [brC] at h
    obtain ⟨q, -, h2, h3, -⟩ := fs_some h
    split at h3
    · rename_i hc
      obtain ⟨l2, h4, rfl⟩ := map_some h3
      obtain ⟨h5, h6⟩ := brC_vl h4
      exact ⟨⟨by omega, hc.1, hc.2.2, h5⟩, by rw [List.length_cons, h6]⟩
    · cases h3
theorem brK_no {p : Nat} {to : Int32} : ∀ {m : Nat} {K : row}, brK p to m K = none → ∀ l, l.length = m → ¬ vl p to l K
  | 0, K, h, l, hl, hv => by
    cases l with
    | nil =>
      rw [brK, if_pos (show K (16 + p) ≤ to from hv)] at h
      cases h
    | cons q l => simp at hl
  | m + 1, K, h, l, hl, hv => by
    cases l with
    | nil => simp at hl
    | cons q l =>
      rw [brK] at h
      have h1 := fs_none h q (by omega) (by have := hv.1; omega)
      rw [if_pos ⟨hv.2.1, hv.2.2.1⟩] at h1
      cases h2 : brK p to m (riseK K q (-1)).1 with
      | none => exact brK_no h2 l (by simpa using hl) hv.2.2.2
      | some x => rw [h2] at h1; cases h1
theorem whyR_i {K : row} {q : Nat} (hq : q < kP K) : whyR K (q : Int) = 0 ↔ K (16 + q) ≠ -1 ∧ aslK K q = false := by
  simp only [whyR, pN_nat hq]
  constructor
  · intro h
    split at h
    · cases h
    · split at h
      · cases h
      · rename_i h1 h2
        exact ⟨h1, by simpa using h2⟩
  · rintro ⟨h1, h2⟩
    rw [if_neg h1, if_neg (by rw [h2]; decide)]
theorem br_eq {p : Nat} {to : Int32} (hp8 : p < 8) : ∀ {m : Nat} {K : row}, kP K ≤ 8 → (∀ l, vl p to l K → l.length = m → ∀ q, q ∈ l → K (8 + q) = K (8 + p)) → brC p to m K = brK p to m K
  | 0, _, _, _ => rfl
  | m + 1, K, h8, h => by
    rw [brC, brK]
    refine fs_congr fun q _ hq => ?_
    by_cases h1 : q ≠ p ∧ whyR K (q : Int) = 0
    · have hs : sameB K (riseK K q (-1)).1 := riseK_same h8 (by omega)
      by_cases h2 : K (8 + q) = K (8 + p)
      · rw [if_pos ⟨h1.1, h2, h1.2⟩, if_pos h1, br_eq hp8 (by rw [hs.P]; exact h8)]
        intro l hv hl z hz
        have h3 := h (q :: l) ⟨by omega, h1.1, h1.2, hv⟩ (by simpa using hl) z (List.mem_cons_of_mem _ hz)
        have hz8 : z < 8 := by
          have key : ∀ (l : List Nat) (K : row), kP K ≤ 8 → vl p to l K → ∀ z, z ∈ l → z < 8 := by
            intro l
            induction l with
            | nil => intro K _ _ z hz; cases hz
            | cons x l ih =>
              intro K h8 hv z hz
              have hx := hv.1
              rcases List.mem_cons.mp hz with e | e
              · rw [e]; omega
              · have hs : sameB K (riseK K x (-1)).1 := riseK_same h8 (by omega)
                exact ih _ (by rw [hs.P]; exact h8) hv.2.2.2 z e
          exact key l _ (by rw [hs.P]; exact h8) hv z hz
        rw [rise_e h8 (by omega) (by omega) (by omega), rise_e h8 (by omega) (by omega) (by omega)]
        exact h3
      · rw [if_neg (fun hc => h2 hc.2.1), if_pos h1]
        cases h3 : brK p to m (riseK K q (-1)).1 with
        | none => rfl
        | some l =>
          obtain ⟨h4, h5⟩ := brK_vl h3
          exact absurd (h (q :: l) ⟨by omega, h1.1, h1.2, h4⟩ (by rw [List.length_cons, h5]) q List.mem_cons_self) h2
    · rw [if_neg (fun hc => h1 ⟨hc.1, hc.2.2⟩), if_neg h1]
/-- K1 says of the column what K says, and who sits there sits in K -/
def simC (c : Int32) (K K1 : row) : Prop := colE c K K1 ∧ ∀ z, z < kP K → K1 (16 + z) ≠ -1 → K (16 + z) ≠ -1
theorem sim_vl {p : Nat} {to : Int32} : ∀ {l : List Nat} {K K1 : row}, kP K ≤ 8 → kH K ≤ 5 → vS K → p < kP K → simC (K (8 + p)) K K1 → vl p to l K1 → vl p to l K
  | [], K, K1, h8, h5, hv, hp, hs, h => by
    have e := (hs.1.2.2.2 p hp rfl).1
    show K (16 + p) ≤ to
    rw [← e]
    exact h
  | q :: l, K, K1, h8, h5, hv, hp, hs, h => by
    obtain ⟨h1, h2, h3, h4⟩ := h
    have eP := hs.1.1.P
    rw [eP] at h1
    have w1 := (whyR_i (by rw [eP]; exact h1)).mp h3
    have hu : K (16 + q) ≠ -1 := hs.2 q h1 w1.1
    have w2 : whyR K (q : Int) = 0 := (whyR_i h1).mpr ⟨hu, by rw [← hs.1.1.asl]; exact w1.2⟩
    have sK : sameB K (riseK K q (-1)).1 := riseK_same h8 (by omega)
    have sK1 : sameB K1 (riseK K1 q (-1)).1 := riseK_same (by rw [eP]; exact h8) (by omega)
    have ec : (riseK K q (-1)).1 (8 + p) = K (8 + p) := rise_e h8 (by omega) (by omega) (by omega)
    refine ⟨h1, h2, w2, sim_vl (by rw [sK.P]; exact h8) (by rw [sK.H]; exact h5) (vS_rise hv h1 h8 h5 hu) (by rw [sK.P]; exact hp) ⟨?_, fun z hz hz1 => ?_⟩ h4⟩
    · rw [ec]
      by_cases hc : K (8 + q) = K (8 + p)
      · exact rise_cong h8 h1 hc hs.1
      · have a1 : colE (K (8 + p)) K (riseK K q (-1)).1 := rise_out h8 (by omega) hc
        have a2 : colE (K (8 + p)) K1 (riseK K1 q (-1)).1 := rise_out (by rw [eP]; exact h8) (by omega) (by rw [hs.1.2.2.1 q (by omega)]; exact hc)
        exact ((a1.sy h8).tr (by rw [sK.P]; exact h8) hs.1).tr (by rw [sK.P]; exact h8) a2
    · rw [sK.P] at hz
      have hzq : z ≠ q := fun e => hz1 (by rw [e]; exact rise_m1 (by rw [eP]; exact h8) (by rw [hs.1.1.H]; exact h5) (by omega))
      have hz2 : K1 (16 + z) ≠ -1 := fun e => hz1 (rise_up (by rw [eP]; exact h8) (by rw [hs.1.1.H]; exact h5) (by omega) e (by omega))
      exact rise_sits h8 h5 hv h1 (by omega) hu hzq (hs.2 z hz hz2)
theorem vl_short {p : Nat} {to : Int32} : ∀ {l : List Nat} {K : row}, kP K ≤ 8 → kH K ≤ 5 → vS K → p < kP K → vl p to l K → (∃ q, q ∈ l ∧ K (8 + q) ≠ K (8 + p)) → ∃ l2, l2.length + 1 = l.length ∧ vl p to l2 K
  | [], K, _, _, _, _, _, h => by
    obtain ⟨q, hq, -⟩ := h
    cases hq
  | q :: l, K, h8, h5, hv, hp, h, hx => by
    obtain ⟨h1, h2, h3, h4⟩ := h
    have w := (whyR_i h1).mp h3
    have sK : sameB K (riseK K q (-1)).1 := riseK_same h8 (by omega)
    by_cases hc : K (8 + q) = K (8 + p)
    · obtain ⟨z, hz, hzc⟩ := hx
      rcases List.mem_cons.mp hz with e | e
      · rw [e] at hzc; exact absurd hc hzc
      · by_cases hz8 : z < 8
        · obtain ⟨l2, h6, h7⟩ := vl_short (by rw [sK.P]; exact h8) (by rw [sK.H]; exact h5) (vS_rise hv h1 h8 h5 w.1) (by rw [sK.P]; exact hp) h4 ⟨z, e, by rw [rise_e h8 (by omega) (by omega) (by omega), rise_e h8 (by omega) (by omega) (by omega)]; exact hzc⟩
          exact ⟨q :: l2, by rw [List.length_cons, List.length_cons]; omega, h1, h2, h3, h7⟩
        · exfalso
          have key : ∀ (l : List Nat) (K : row), kP K ≤ 8 → vl p to l K → ∀ z, z ∈ l → z < 8 := by
            intro l
            induction l with
            | nil => intro K _ _ z hz; cases hz
            | cons x l ih =>
              intro K h8 hv z hz
              have hx := hv.1
              rcases List.mem_cons.mp hz with e | e
              · rw [e]; omega
              · have hs : sameB K (riseK K x (-1)).1 := riseK_same h8 (by omega)
                exact ih _ (by rw [hs.P]; exact h8) hv.2.2.2 z e
          exact hz8 (key l _ (by rw [sK.P]; exact h8) h4 z e)
    · exact ⟨l, rfl, sim_vl h8 h5 hv hp ⟨rise_out h8 (by omega) hc, fun z hz hz1 e => hz1 (rise_up h8 h5 (by omega) e (by omega))⟩ h4⟩
/-- how many sit in a column -/
def csI (K : row) (c : Int32) (z : Nat) : Nat := if z < kP K ∧ K (8 + z) = c ∧ K (16 + z) ≠ -1 then 1 else 0
def csK (K : row) (c : Int32) : Nat := csI K c 0 + csI K c 1 + csI K c 2 + csI K c 3 + csI K c 4 + csI K c 5 + csI K c 6 + csI K c 7
theorem csI_le {K : row} {c : Int32} {z : Nat} : csI K c z ≤ 1 := by unfold csI; split <;> omega
theorem cs_5 {K : row} {c : Int32} (hg : gS K) (h5 : kH K ≤ 5) : csK K c ≤ 5 := by
  have g : ∀ (x : Option Nat), (if x = some 0 then 1 else 0) + (if x = some 1 then 1 else 0) + (if x = some 2 then 1 else 0) + (if x = some 3 then 1 else 0) + (if x = some 4 then 1 else 0) + (if x = some 5 then 1 else 0) + (if x = some 6 then 1 else 0) + (if x = some 7 then 1 else 0) ≤ (1 : Nat) := fun x => by
    cases x with
    | none => simp
    | some p =>
      by_cases h : p < 8
      · rcases (show p = 0 ∨ p = 1 ∨ p = 2 ∨ p = 3 ∨ p = 4 ∨ p = 5 ∨ p = 6 ∨ p = 7 by omega) with rfl | rfl | rfl | rfl | rfl | rfl | rfl | rfl <;> simp
      · have hh : ∀ j : Nat, j < 8 → ¬ (some p = some j) := fun j hj e => by have := Option.some.inj e; omega
        simp [hh 0 (by omega), hh 1 (by omega), hh 2 (by omega), hh 3 (by omega), hh 4 (by omega), hh 5 (by omega), hh 6 (by omega), hh 7 (by omega)]
  have t : ∀ z, csI K c z ≤ (if sitK K c (nI 0) = some z then 1 else 0) + (if sitK K c (nI 1) = some z then 1 else 0) + (if sitK K c (nI 2) = some z then 1 else 0) + (if sitK K c (nI 3) = some z then 1 else 0) + (if sitK K c (nI 4) = some z then 1 else 0) := fun z => by
    unfold csI
    split
    · rename_i h
      obtain ⟨w, hw, e⟩ := (hg.1 z h.1).2.resolve_left h.2.2
      have hs : sitK K c (nI w) = some z := (sit_iff hg.2.1).mpr ⟨h.1, e, h.2.1, nI_ne1 (by omega)⟩
      rcases (show w = 0 ∨ w = 1 ∨ w = 2 ∨ w = 3 ∨ w = 4 by omega) with rfl | rfl | rfl | rfl | rfl <;> rw [if_pos hs] <;> omega
    · omega
  have g0 := g (sitK K c (nI 0)); have g1 := g (sitK K c (nI 1)); have g2 := g (sitK K c (nI 2)); have g3 := g (sitK K c (nI 3)); have g4 := g (sitK K c (nI 4))
  have t0 := t 0; have t1 := t 1; have t2 := t 2; have t3 := t 3; have t4 := t 4; have t5 := t 5; have t6 := t 6; have t7 := t 7
  unfold csK
  omega
theorem cs_rise {K : row} {q : Nat} (h8 : kP K ≤ 8) (h5 : kH K ≤ 5) (hv : vS K) (hq : q < kP K) (hu : K (16 + q) ≠ -1) : csK (riseK K q (-1)).1 (K (8 + q)) + 1 = csK K (K (8 + q)) := by
  have sK : sameB K (riseK K q (-1)).1 := riseK_same h8 (by omega)
  have o : ∀ z, z < 8 → z ≠ q → csI (riseK K q (-1)).1 (K (8 + q)) z = csI K (K (8 + q)) z := fun z hz hne => by
    unfold csI
    rw [sK.P, rise_e h8 (by omega) (by omega) (by omega)]
    have e : (riseK K q (-1)).1 (16 + z) = -1 ↔ K (16 + z) = -1 := ⟨fun x => Decidable.byContradiction fun y => rise_sits h8 h5 hv hq hz hu hne y x, fun x => rise_up h8 h5 (by omega) x hz⟩
    simp only [ne_eq, e]
  have a : csI (riseK K q (-1)).1 (K (8 + q)) q = 0 := by
    unfold csI
    rw [if_neg]
    rintro ⟨-, -, h⟩
    exact h (rise_m1 h8 h5 (by omega))
  have b : csI K (K (8 + q)) q = 1 := by
    unfold csI
    rw [if_pos ⟨hq, rfl, hu⟩]
  unfold csK
  rcases (show q = 0 ∨ q = 1 ∨ q = 2 ∨ q = 3 ∨ q = 4 ∨ q = 5 ∨ q = 6 ∨ q = 7 by omega) with rfl | rfl | rfl | rfl | rfl | rfl | rfl | rfl
  · rw [a, b, o 1 (by omega) (by omega), o 2 (by omega) (by omega), o 3 (by omega) (by omega), o 4 (by omega) (by omega), o 5 (by omega) (by omega), o 6 (by omega) (by omega), o 7 (by omega) (by omega)]; omega
  · rw [a, b, o 0 (by omega) (by omega), o 2 (by omega) (by omega), o 3 (by omega) (by omega), o 4 (by omega) (by omega), o 5 (by omega) (by omega), o 6 (by omega) (by omega), o 7 (by omega) (by omega)]; omega
  · rw [a, b, o 0 (by omega) (by omega), o 1 (by omega) (by omega), o 3 (by omega) (by omega), o 4 (by omega) (by omega), o 5 (by omega) (by omega), o 6 (by omega) (by omega), o 7 (by omega) (by omega)]; omega
  · rw [a, b, o 0 (by omega) (by omega), o 1 (by omega) (by omega), o 2 (by omega) (by omega), o 4 (by omega) (by omega), o 5 (by omega) (by omega), o 6 (by omega) (by omega), o 7 (by omega) (by omega)]; omega
  · rw [a, b, o 0 (by omega) (by omega), o 1 (by omega) (by omega), o 2 (by omega) (by omega), o 3 (by omega) (by omega), o 5 (by omega) (by omega), o 6 (by omega) (by omega), o 7 (by omega) (by omega)]; omega
  · rw [a, b, o 0 (by omega) (by omega), o 1 (by omega) (by omega), o 2 (by omega) (by omega), o 3 (by omega) (by omega), o 4 (by omega) (by omega), o 6 (by omega) (by omega), o 7 (by omega) (by omega)]; omega
  · rw [a, b, o 0 (by omega) (by omega), o 1 (by omega) (by omega), o 2 (by omega) (by omega), o 3 (by omega) (by omega), o 4 (by omega) (by omega), o 5 (by omega) (by omega), o 7 (by omega) (by omega)]; omega
  · rw [a, b, o 0 (by omega) (by omega), o 1 (by omega) (by omega), o 2 (by omega) (by omega), o 3 (by omega) (by omega), o 4 (by omega) (by omega), o 5 (by omega) (by omega), o 6 (by omega) (by omega)]
theorem cs_pos {K : row} {c : Int32} {p : Nat} (hp : p < kP K) (hp8 : p < 8) (hc : K (8 + p) = c) (hu : K (16 + p) ≠ -1) : 1 ≤ csK K c := by
  have b : csI K c p = 1 := by
    unfold csI
    rw [if_pos ⟨hp, hc, hu⟩]
  unfold csK
  rcases (show p = 0 ∨ p = 1 ∨ p = 2 ∨ p = 3 ∨ p = 4 ∨ p = 5 ∨ p = 6 ∨ p = 7 by omega) with rfl | rfl | rfl | rfl | rfl | rfl | rfl | rfl <;> omega
theorem vl_len {p : Nat} {to : Int32} : ∀ {l : List Nat} {K : row}, kP K ≤ 8 → kH K ≤ 5 → vS K → p < kP K → K (16 + p) ≠ -1 → vl p to l K → (∀ q, q ∈ l → K (8 + q) = K (8 + p)) → l.length + 1 ≤ csK K (K (8 + p))
  | [], K, h8, _, _, hp, hu, _, _ => cs_pos hp (by omega) rfl hu
  | q :: l, K, h8, h5, hv, hp, hu, h, hc => by
    obtain ⟨h1, h2, h3, h4⟩ := h
    have w := (whyR_i h1).mp h3
    have sK : sameB K (riseK K q (-1)).1 := riseK_same h8 (by omega)
    have eq := hc q List.mem_cons_self
    have r := cs_rise h8 h5 hv h1 w.1
    have hz8 : ∀ z, z ∈ l → z < 8 := by
      have key : ∀ (l : List Nat) (K : row), kP K ≤ 8 → vl p to l K → ∀ z, z ∈ l → z < 8 := by
        intro l
        induction l with
        | nil => intro K _ _ z hz; cases hz
        | cons x l ih =>
          intro K h8 hv z hz
          have hx := hv.1
          rcases List.mem_cons.mp hz with e | e
          · rw [e]; omega
          · have hs : sameB K (riseK K x (-1)).1 := riseK_same h8 (by omega)
            exact ih _ (by rw [hs.P]; exact h8) hv.2.2.2 z e
      exact key l _ (by rw [sK.P]; exact h8) h4
    have ih := vl_len (by rw [sK.P]; exact h8) (by rw [sK.H]; exact h5) (vS_rise hv h1 h8 h5 w.1) (by rw [sK.P]; exact hp) (rise_sits h8 h5 hv h1 (by omega) w.1 (fun e => h2 e.symm) hu) h4 (fun z hz => by
      have := hz8 z hz
      rw [rise_e h8 (by omega) (by omega) (by omega), rise_e h8 (by omega) (by omega) (by omega)]
      exact hc z (List.mem_cons_of_mem _ hz))
    rw [rise_e h8 (by omega) (by omega) (by omega), ← eq] at ih
    rw [eq] at r
    rw [eq] at ih
    rw [List.length_cons]
    omega
theorem bring_eq {K : row} {p : Nat} {to : Int32} (hB : okB K) (hg : gS K) (hp : p < kP K) (hu : K (16 + p) ≠ -1) : fs (fun m => brC p to m K) 0 5 = bgK K p to := by
  have h8 := hB.1.2.1
  have h5 := hB.1.2.2.2.1
  have cn : ∀ m, brK p to m K = none → brC p to m K = none := fun m h => by
    cases h2 : brC p to m K with
    | none => rfl
    | some l =>
      obtain ⟨h3, h4⟩ := brC_vl h2
      exact absurd h3 (brK_no h l h4)
  unfold bgK
  cases h : fs (fun m => brK p to m K) 0 8 with
  | none => exact fs_all fun q _ h2 => cn q (fs_none h q (by omega) (by omega))
  | some l =>
    obtain ⟨m, -, h2, h3, h4⟩ := fs_some h
    have hin : ∀ l2, vl p to l2 K → l2.length = m → ∀ q, q ∈ l2 → K (8 + q) = K (8 + p) := fun l2 v1 v2 q hq => Decidable.byContradiction fun hne => by
      obtain ⟨l3, v3, v4⟩ := vl_short h8 h5 hg.1 hp v1 ⟨q, hq, hne⟩
      exact brK_no (h4 (m - 1) (by omega) (by omega)) l3 (by omega) v4
    have e := br_eq (by omega) h8 hin
    obtain ⟨v1, v2⟩ := brK_vl h3
    have v3 := vl_len h8 h5 hg.1 hp hu v1 (hin l v1 v2)
    have v4 := cs_5 (c := K (8 + p)) hg h5
    exact fs_at (e.trans h3) (by omega) (fun z hz => cn z (h4 z (by omega) hz))
