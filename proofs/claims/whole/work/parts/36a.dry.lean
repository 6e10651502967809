/-! ===== how likely one stays dry; two who had changed chairs; trays ===== -/
/-- so many of 10 to the m that one isn't wetted -/
def dryF (p : Nat) : Nat → row → Int64 → Int64
  | 0, _, v => v
  | m + 1, K, v => dryF p m (minK K) (v * (if upK (minK K) p = true then 10 else (10 - waveK (minK K) (minK K (8 + p)) (minK K (16 + p)) (K 33)).toInt64))
theorem dryF_step {p P i : Nat} {K : row} {v : Int64} (h : i < P) : dryF p (P - i) K v = dryF p (P - (i + 1)) (minK K) (v * (if upK (minK K) p = true then 10 else (10 - waveK (minK K) (minK K (8 + p)) (minK K (16 + p)) (K 33)).toInt64)) := by
  rw [show P - i = (P - (i + 1)) + 1 by omega, dryF]
def tenF : Nat → Int64 → Int64
  | 0, v => v
  | m + 1, v => tenF m (v * 10)
theorem tenF_step {P i : Nat} {v : Int64} (h : i < P) : tenF (P - i) v = tenF (P - (i + 1)) (v * 10) := by
  rw [show P - i = (P - (i + 1)) + 1 by omega, tenF]
theorem wave_in {K : row} {c w m : Int32} : ∃ j : Nat, j ≤ 10 ∧ waveK K c w m = nI j := by
  unfold waveK
  split
  · split
    · exact ⟨5, by omega, rfl⟩
    · exact ⟨0, by omega, rfl⟩
  · obtain ⟨x, hx⟩ : ∃ x, x = lawK K 6 2119 (ask5 m c w 0 0) := ⟨_, rfl⟩
    rw [← hx]
    unfold clip mxI mnI
    by_cases h1 : x < 10
    · rw [if_pos h1]
      by_cases h2 : 0 < x
      · rw [if_pos h2]
        exact nI_of2 (M := 10) (n := 10) (by decide) (fun hc => by
          have a := Int32.lt_iff_toInt_lt.mp h2
          have b := Int32.lt_iff_toInt_lt.mp hc
          omega) (by
          have a := Int32.lt_iff_toInt_lt.mp h1
          rw [Int32.le_iff_toInt_le]
          omega)
      · rw [if_neg h2]
        exact ⟨0, by omega, rfl⟩
    · rw [if_neg h1]
      exact ⟨10, by omega, by decide⟩
/-- what dryF says as a natural -/
theorem dryF_nat {p : Nat} : ∀ {m : Nat} {K : row} {v : Int64} {a b : Nat}, v = lN a → a ≤ 10 ^ b → b + m ≤ 15 → ∃ c, c ≤ 10 ^ (b + m) ∧ dryF p m K v = lN c
  | 0, K, v, a, b, h, ha, hb => ⟨a, by simpa using ha, by rw [dryF, h]⟩
  | m + 1, K, v, a, b, h, ha, hb => by
    rw [dryF]
    have key : ∃ j : Nat, j ≤ 10 ∧ (if upK (minK K) p = true then (10 : Int64) else (10 - waveK (minK K) (minK K (8 + p)) (minK K (16 + p)) (K 33)).toInt64) = lN j := by
      split
      · exact ⟨10, by omega, rfl⟩
      · obtain ⟨j, h1, h2⟩ := wave_in (K := minK K) (c := minK K (8 + p)) (w := minK K (16 + p)) (m := K 33)
        refine ⟨10 - j, by omega, ?_⟩
        rw [h2, show (10 : Int32) = nI 10 from rfl, pk_sub (by omega)]
        rcases (show j = 0 ∨ j = 1 ∨ j = 2 ∨ j = 3 ∨ j = 4 ∨ j = 5 ∨ j = 6 ∨ j = 7 ∨ j = 8 ∨ j = 9 ∨ j = 10 by omega) with rfl | rfl | rfl | rfl | rfl | rfl | rfl | rfl | rfl | rfl | rfl <;> rfl
    obtain ⟨j, hj, e⟩ := key
    have h3 : v * (if upK (minK K) p = true then (10 : Int64) else (10 - waveK (minK K) (minK K (8 + p)) (minK K (16 + p)) (K 33)).toInt64) = lN (a * j) := by
      rw [e, h, lN_mul]
    obtain ⟨c, hc, e2⟩ := dryF_nat (p := p) (m := m) (K := minK K) (a := a * j) (b := b + 1) h3 (by
      rw [Nat.pow_succ]
      exact Nat.mul_le_mul ha hj) (by omega)
    exact ⟨c, by rw [show b + (m + 1) = b + 1 + m by omega]; exact hc, e2⟩
theorem tenF_nat : ∀ {m : Nat} {v : Int64} {a : Nat}, v = lN a → tenF m v = lN (a * 10 ^ m)
  | 0, v, a, h => by rw [tenF, h]; simp
  | m + 1, v, a, h => by
    rw [tenF, tenF_nat (a := a * 10) (by rw [h, show (10 : Int64) = lN 10 from rfl, lN_mul]), Nat.pow_succ, Nat.mul_assoc, Nat.mul_comm 10]
theorem p15 {a : Nat} (h : a ≤ 10 ^ 15) : a < 2 ^ 63 := by omega
def aDryT (K : row) (p z w : Int) : Int32 := match pN (kP K) p with
  | none => 1
  | some _ => (match rN 0 16 z, rN 0 2 w with
    | some _, some _ => 0
    | _, _ => 2)
def dryN (p m : Nat) (K : row) : Int64 := dryF p m K 1
def aDry (K : row) (p z w : Int) : Int32 × Int64 := if aDryT K p z w ≠ 0 then (aDryT K p z w, 0) else
  let v := dryN p.toNat z.toNat K
  let g := lN (Nat.gcd (10 ^ z.toNat) v.toInt.toNat)
  (0, if w = 0 then v / g else tenF z.toNat 1 / g)
def argL (f : Nat → Option Int64) : Nat → Nat → Int32 → Int64 → Int32
  | 0, _, b, _ => b
  | m + 1, p, b, x => match f p with
    | none => argL f m (p + 1) b x
    | some y => if x < y then argL f m (p + 1) (nI p) y else argL f m (p + 1) b x
theorem argL_step {f : Nat → Option Int64} {P i : Nat} {b : Int32} {x : Int64} (h : i < P) : argL f (P - i) i b x = (match f i with
    | none => argL f (P - (i + 1)) (i + 1) b x
    | some y => if x < y then argL f (P - (i + 1)) (i + 1) (nI i) y else argL f (P - (i + 1)) (i + 1) b x) := by
  rw [show P - i = (P - (i + 1)) + 1 by omega, argL]
def aDriest (K : row) (z : Int) : Int32 × Int32 := match rN 0 16 z with
  | none => (1, 0)
  | some j => (0, argL (fun p => some (dryN p j K)) (kP K) 0 (-1) (-1))
def aWhereT (K : row) (p z : Int) : Int32 := match pN (kP K) p with
  | none => 1
  | some a => (match rN 0 16 z with
    | none => 2
    | some _ => if K (16 + a) = -1 then 0 else 3)
def aWhere (K : row) (p z : Int) : Int32 × Int32 := if aWhereT K p z ≠ 0 then (aWhereT K p z, 0) else
  (0, argL (fun c => if freeK K (nI c) = none then none else some (dryN p.toNat z.toNat (sitdK K p.toNat (nI c)))) (kW K) 0 (-1) (-1))
theorem argL_no {f : Nat → Option Int64} {P i : Nat} {b : Int32} {x : Int64} (h : i < P) (e : f i = none) : argL f (P - i) i b x = argL f (P - (i + 1)) (i + 1) b x := by
  rw [argL_step h, e]
theorem argL_up {f : Nat → Option Int64} {P i : Nat} {b : Int32} {x y : Int64} (h : i < P) (e : f i = some y) (l : x < y) : argL f (P - i) i b x = argL f (P - (i + 1)) (i + 1) (nI i) y := by
  rw [argL_step h, e]
  exact if_pos l
theorem argL_dn {f : Nat → Option Int64} {P i : Nat} {b : Int32} {x y : Int64} (h : i < P) (e : f i = some y) (l : ¬ x < y) : argL f (P - i) i b x = argL f (P - (i + 1)) (i + 1) b x := by
  rw [argL_step h, e]
  exact if_neg l
theorem gcd_ne {a b : Nat} (h0 : 0 < a) (h : a ≤ 10 ^ 15) : ¬ lN (Nat.gcd a b) = 0 := fun e => by
  have h1 : Nat.gcd a b ≤ a := Nat.gcd_le_left b h0
  have h2 : 0 < Nat.gcd a b := Nat.gcd_pos_of_pos_left b h0
  have := (pk_lEQ (a := Nat.gcd a b) (b := 0) (by omega) (by omega)).mp e
  omega
theorem gcd_st {a b : Nat} : Nat.gcd a b = Nat.gcd b (a % b) := by rw [Nat.gcd_comm a b, Nat.gcd_rec b a, Nat.gcd_comm]
/-! whom to have faint -/
/-- all of a set rise, one after another -/
def fntR (s : Int32) : Nat → Nat → row → row
  | 0, _, K => K
  | m + 1, q, K => fntR s m (q + 1) (if hasB s (nI q) = true then (riseK K q (-1)).1 else K)
theorem fntR_step {s : Int32} {P i : Nat} {K : row} (h : i < P) : fntR s (P - i) i K = fntR s (P - (i + 1)) (i + 1) (if hasB s (nI i) = true then (riseK K i (-1)).1 else K) := by
  rw [show P - i = (P - (i + 1)) + 1 by omega, fntR]
def fntO (K : row) (p j : Nat) (s : Int32) : Bool := decide (goK j (fntR s (kP K) 0 K) (16 + p) = 0)
def fntB (f : Int32 → Bool) (all : Int32) (s : Nat) (b : Int32) : Bool := decide (nI s &&& (all ^^^ (-1)) = 0 ∧ (b = -1 ∨ szI (nI s) < szI b)) && f (nI s)
def fntF (f : Int32 → Bool) (all : Int32) : Nat → Nat → Int32 → Int32
  | 0, _, b => b
  | m + 1, s, b => fntF f all m (s + 1) (if fntB f all s b = true then nI s else b)
theorem fntF_step {f : Int32 → Bool} {all : Int32} {P i : Nat} {b : Int32} (h : i < P) : fntF f all (P - i) i b = fntF f all (P - (i + 1)) (i + 1) (if fntB f all i b = true then nI i else b) := by
  rw [show P - i = (P - (i + 1)) + 1 by omega, fntF]
def fntA (K : row) (p : Nat) : Int32 := bits (fun q => decide (q ≠ p ∧ whyR K (q : Int) = 0)) (kP K) 0 0
def fntT (K : row) (p z w : Int) : Int32 := match pN (kP K) p with
  | none => 1
  | some _ => (match rN 0 61 z, rN 0 2 w with
    | some _, some _ => 0
    | _, _ => 2)
def fntK (K : row) (p j : Nat) : Int32 := fntF (fntO K p j) (fntA K p) ((fntA K p).toNatClampNeg + 1) 0 (-1)
def aFaints (K : row) (p z w : Int) : Int32 × Int32 := if fntT K p z w ≠ 0 then (fntT K p z w, 0) else (0, if fntK K p.toNat z.toNat = -1 ∨ w = 1 then fntK K p.toNat z.toNat else szI (fntK K p.toNat z.toNat))
theorem fwd_sits {c : Int32} {z : Nat} : ∀ {m w free : Nat} {K : row} {k : Nat}, kP K ≤ 8 → free < 100 → w + m < 100 → z < 8 → K (16 + z) ≠ -1 → (fwd c m w free K k).1 (16 + z) ≠ -1
  | 0, _, _, _, _, _, _, _, _, h => h
  | m + 1, w, free, K, k, h8, hf, hw, hz, h => by
    rw [fwd]
    split
    · split
      · rename_i p hp
        have hlt := (sitK_lt hp).1
        have h1 : sameB K (upd K (16 + p) (nI free)) := sameB.rf.up (by omega)
        refine fwd_sits (by rw [h1.P]; exact h8) (by omega) (by omega) hz ?_
        by_cases e : z = p
        · subst e
          rw [pk_us]
          exact nI_ne1 (by omega)
        · rw [pk_un (by omega)]
          exact h
      · exact h
    · exact fwd_sits h8 hf (by omega) hz h
theorem rise_sits {K : row} {p z : Nat} {s : Int32} (h8 : kP K ≤ 8) (h5 : kH K ≤ 5) (hv : vS K) (hp : p < kP K) (hz : z < 8) (hu : K (16 + p) ≠ -1) (hne : z ≠ p) (h : K (16 + z) ≠ -1) : (riseK K p s).1 (16 + z) ≠ -1 := by
  have hB : sameB K (upd (upd K (16 + p) (-1)) (24 + p) s) := (sameB.rf.up (by omega)).up (by omega)
  obtain ⟨w, hw, e⟩ := (hv p hp).2.resolve_left hu
  unfold riseK
  rw [e, nI_clamp (by omega)]
  refine fwd_sits (by rw [hB.P]; exact h8) (by omega) (by omega) hz ?_
  rw [pk_un (by omega), pk_un (by omega)]
  exact h
