/-! ===== answers: what each call says of a row K ===== -/
theorem fnd_at {f : Nat → Bool} {p : Nat} (hf : f p = true) : ∀ {m i : Nat}, i ≤ p → p < i + m → (∀ q, i ≤ q → q < p → f q = false) → fnd f i m = some p
  | 0, i, h1, h2, _ => by omega
  | m + 1, i, h1, h2, h3 => by
    rw [fnd]
    by_cases e : i = p
    · subst e
      rw [if_pos hf]
    · rw [if_neg (by rw [h3 i (Nat.le_refl _) (by omega)]; decide)]
      exact fnd_at hf (by omega) (by omega) (fun q a b => h3 q (by omega) b)
def rN (lo m : Nat) (z : Int) : Option Nat := if (lo : Int) ≤ z ∧ z < (m : Int) then some z.toNat else none
theorem rN_some {lo m j : Nat} {z : Int} (h : rN lo m z = some j) : z = (j : Int) ∧ lo ≤ j ∧ j < m := by
  unfold rN at h
  split at h
  · cases h
    omega
  · cases h
theorem rN_none {lo m : Nat} {z : Int} (h : rN lo m z = none) : ¬ ((lo : Int) ≤ z ∧ z < (m : Int)) := by
  unfold rN at h
  split at h
  · cases h
  · assumption
theorem rN_nat {lo m j : Nat} (h0 : lo ≤ j) (h : j < m) : rN lo m (j : Int) = some j := by
  unfold rN
  rw [if_pos ⟨by omega, by omega⟩]
  rfl
/-- within literal bounds -/
theorem wi_iff {lo m : Nat} {a b : Int64} (ha : a.toInt = (lo : Int)) (hb : b.toInt + 1 = (m : Int)) (z : Int32) : (a ≤ z.toInt64 ∧ z.toInt64 ≤ b) ↔ ((lo : Int) ≤ z.toInt ∧ z.toInt < (m : Int)) := by
  rw [Int64.le_iff_toInt_le, Int64.le_iff_toInt_le, Int32.toInt_toInt64, ha]
  omega
theorem wi_no {lo m : Nat} {a b : Int64} {z : Int32} (h : rN lo m z.toInt = none) (ha : a.toInt = (lo : Int)) (hb : b.toInt + 1 = (m : Int)) : bI (a ≤ z.toInt64 ∧ z.toInt64 ≤ b) = 0 := bI_0.mpr fun hc => rN_none h ((wi_iff ha hb z).mp hc)
theorem wi_yes {lo m j : Nat} {a b : Int64} {z : Int32} (h : rN lo m z.toInt = some j) (ha : a.toInt = (lo : Int)) (hb : b.toInt + 1 = (m : Int)) : bI (a ≤ z.toInt64 ∧ z.toInt64 ≤ b) = 1 := bI_t ((wi_iff ha hb z).mpr (by have := rN_some h; omega))
theorem pi_no {x : Int32} {m : Nat} (hx : x = nI m) (hm : m ≤ 100) {z : Int32} (h : pN m z.toInt = none) : bI (0 ≤ z.toInt64 ∧ z.toInt64 ≤ (x - 1).toInt64) = 0 := pers_no hx hm (by rw [Int32.toInt_toInt64]; exact h)
theorem pi_yes {x : Int32} {m j : Nat} (hx : x = nI m) (hm : m ≤ 100) {z : Int32} (h : pN m z.toInt = some j) : bI (0 ≤ z.toInt64 ∧ z.toInt64 ≤ (x - 1).toInt64) = 1 := pers_yes hx hm (by rw [Int32.toInt_toInt64]; exact h)
def chK (K : row) (c w : Int) : Option (Nat × Nat) := match pN (kW K) c, pN (kH K) w with
  | some a, some b => some (a, b)
  | _, _ => none
theorem chK_some {K : row} {c w : Int} {a b : Nat} (h : chK K c w = some (a, b)) : pN (kW K) c = some a ∧ pN (kH K) w = some b := by
  unfold chK at h
  split at h
  · rename_i a' b' h1 h2
    cases h
    exact ⟨h1, h2⟩
  · cases h
theorem ch_iff {K : row} (hP : okP K) (c w : Int32) : ((0 ≤ c.toInt64 ∧ c.toInt64 ≤ (K 1 - 1).toInt64) ∧ 0 ≤ w.toInt64 ∧ w.toInt64 ≤ (K 2 - 1).toInt64) ↔ ((0 ≤ c.toInt ∧ c.toInt < (kW K : Int)) ∧ (0 ≤ w.toInt ∧ w.toInt < (kH K : Int))) := by
  have h5 := hP.2.2.2.1
  have h4 := hP.2.2.2.2.2
  rw [top_iff hP.2.2.2.2.1 (by omega), top_iff hP.2.2.1 (by omega), Int32.toInt_toInt64, Int32.toInt_toInt64]
theorem ch_no {K : row} (hP : okP K) {c w : Int32} (h : chK K c.toInt w.toInt = none) : bI ((0 ≤ c.toInt64 ∧ c.toInt64 ≤ (K 1 - 1).toInt64) ∧ 0 ≤ w.toInt64 ∧ w.toInt64 ≤ (K 2 - 1).toInt64) = 0 := bI_0.mpr fun hc => by
  have h1 := (ch_iff hP c w).mp hc
  rw [chK, show pN (kW K) c.toInt = some c.toInt.toNat from if_pos h1.1, show pN (kH K) w.toInt = some w.toInt.toNat from if_pos h1.2] at h
  cases h
theorem ch_yes {K : row} (hP : okP K) {c w : Int32} {a b : Nat} (h : chK K c.toInt w.toInt = some (a, b)) : bI ((0 ≤ c.toInt64 ∧ c.toInt64 ≤ (K 1 - 1).toInt64) ∧ 0 ≤ w.toInt64 ∧ w.toInt64 ≤ (K 2 - 1).toInt64) = 1 := bI_t ((ch_iff hP c w).mpr (by
  have := chK_some h
  have h1 := pN_some this.1
  have h2 := pN_some this.2
  omega))
/-- what a call leaves of the reference: its numbers but thrown, state and twoMany, its rows but those that it works on -/
def apF (F F' : row) (t : Int32) : Prop := F' 4 = t ∧ ∀ j, j ≠ 4 → j ≠ 22 → j ≠ 26 → F' j = F j
def apJ (Γ : gam) (r : Nat) (F K : row) (A : Nat → row) (Nm : Nat → Int64) (σ : sto) (n : Nat) (t : Int32) (σ' : sto) (n' : Nat) : Prop := n' = n ∧ ∃ F' A', MoAt Γ σ' r F' K A' Nm ∧ apF F F' t ∧ eqx [6, 7, 8, 9, 10, 11, 12, 13] A A' ∧ fr r (r + 16) σ σ'
def aChair (K : row) (c w : Int) : Int32 × Int32 := match chK K c w with
  | none => (1, 0)
  | some (a, b) => (0, oI (sitK K (nI a) (nI b)))
def aTide (K : row) (z : Int) : Int32 × Int32 := match rN 0 1000 z with
  | none => (1, 0)
  | some j => (0, tideK K (K 33 + nI j))
def aMoves (K : row) (p c w : Int) : Int32 × Int32 := match pN (kP K) p, chK K c w with
  | some j, some (a, b) => (0, bI (comK K j (nI a) (nI b) = true))
  | _, _ => (1, 0)
def aWets (K : row) (c w z : Int) : Int32 × Int32 := match chK K c w with
  | none => (1, 0)
  | some (a, b) => (match rN 0 1000 z with
    | none => (2, 0)
    | some j => (0, waveK K (nI a) (nI b) (K 33 + nI j)))
def aPerson (K : row) (p z : Int) : Int32 × Int32 := match pN (kP K) p with
  | none => (1, 0)
  | some j => (match rN 0 8 z with
    | none => (2, 0)
    | some x => (0, if x = 0 then K (8 + j) else if x = 1 then K (16 + j) else if x = 2 then K (34 + j) else if x = 3 then bI (aslK K j = true) else if x = 4 then bI (hasB (K 32) (nI j) = true) else if x = 5 then K (43 + j) else if x = 6 then K (51 + j) else K (24 + j)))
def aRise (K : row) (z : Int) : Int32 × row := if whyR K z = 0 then (nI (riseK (keepK K) z.toNat (-1)).2, (riseK (keepK K) z.toNat (-1)).1) else (-(whyR K z), K)
def aSit (K : row) (z c : Int) : Int32 × row := if whyS K z c = 0 then (oI (freeK (keepK K) (nI c.toNat)), sitdK (keepK K) z.toNat (nI c.toNat)) else (-(whyS K z c), K)
def aSwap (K : row) (z c : Int) : Int32 × row := if whyX K z c = 0 then (0, swapK (keepK K) z.toNat c.toNat) else (-(whyX K z c), K)
def szI (s : Int32) : Int32 := nI (szK 8 s)
def aMin (K : row) (z : Int) : Int32 × Int32 × row := match rN 1 100 z with
  | none => (1, 0, K)
  | some j => (0, szI (goK j (keepK K) 32) - szI (K 32), goK j (keepK K))
/-- the i-th state that is kept -/
def undK (K : row) (i : Nat) : row := fun j => K (59 + 26 * i + j)
def aUndo (K : row) (z : Int) : Int32 × Int32 × row := match rN 1 (kD K + 1) z with
  | none => (1, 0, K)
  | some j => (0, nI (kD K - j), setS (upd K 7 (nI (kD K - j))) (undK K (kD K - j)))
def aSits (K : row) (p z : Int) : Int32 × Int32 := match pN (kP K) p with
  | none => (1, 0)
  | some q => (match rN 0 201 z with
    | none => (2, 0)
    | some j => (0, placeK (goK j K) q))
def aWetIn (K : row) (p : Int) : Int32 × Int32 := match pN (kP K) p with
  | none => (1, 0)
  | some q => (0, oI (fnd (fun m => hasB (goK m K 32) (nI q)) 0 201))
def aWetBy (K : row) (z : Int) : Int32 × Int32 := match rN 0 201 z with
  | none => (1, 0)
  | some j => (0, goK j K 32)
def aFrontIn (K : row) (p : Int) : Int32 × Int32 := match pN (kP K) p with
  | none => (1, 0)
  | some q => (0, oI (fnd (fun m => decide (goK m K (16 + q) = 0)) 0 201))
def aFront (K : row) (z : Int) : Int32 × Int32 := match rN 0 201 z with
  | none => (1, 0)
  | some j => (0, frontK (goK j K))
/-- how often one is in front, in so many minutes -/
def talK : Nat → row → Nat → Int32
  | 0, _, _ => 0
  | m + 1, K, p => talK m K p + (if goK m K (16 + p) = 0 then 1 else 0)
/-- the first with the most -/
def argm (f : Nat → Int32) : Nat → Nat → Int32 → Int32 → Int32
  | 0, _, b, _ => b
  | m + 1, p, b, x => if x < f p then argm f m (p + 1) (nI p) (f p) else argm f m (p + 1) b x
theorem argm_step {f : Nat → Int32} {P i : Nat} {b x : Int32} (h : i < P) : argm f (P - i) i b x = if x < f i then argm f (P - (i + 1)) (i + 1) (nI i) (f i) else argm f (P - (i + 1)) (i + 1) b x := by
  rw [show P - i = (P - (i + 1)) + 1 by omega, argm]
def aKing (K : row) (z : Int) : Int32 × Int32 := match rN 0 201 z with
  | none => (1, 0)
  | some j => (0, argm (talK (j + 1) K) (kP K) 0 (-1) 0)
def cntK (K : row) (z : Int32) (tp : Int32) : Int32 := if z = 0 then K 0 else if z = 1 then K 1 else if z = 2 then K 2 else if z = 3 then K 3 else if z = 4 then upsK K else if z = 5 then K 32 else if z = 6 then K 33 else if z = 7 then K 1 * K 2 - K 3 + szI (upsK K) else if z = 8 then K 7 else if z = 9 then tp else -1
/-- a set of people -/
def setP (s : Int32) : Prop := ∃ v, v < 256 ∧ s = nI v
theorem bit_or : ∀ (v : Fin 256) (p : Fin 8), nI v.val ||| (1 : Int32) <<< (nI p.val &&& 31) = nI (v.val ||| 1 <<< p.val) ∧ v.val ||| 1 <<< p.val < 256 := by decide +kernel
theorem setP_or {s : Int32} {p : Nat} (h : setP s) (hp : p < 8) : setP (s ||| (1 : Int32) <<< (nI p &&& 31)) := by
  obtain ⟨v, hv, rfl⟩ := h
  obtain ⟨h1, h2⟩ := bit_or ⟨v, hv⟩ ⟨p, hp⟩
  exact ⟨_, h2, h1⟩
theorem setP_bits {f : Nat → Bool} : ∀ {m p : Nat} {s : Int32}, p + m ≤ 8 → setP s → setP (bits f m p s)
  | 0, _, _, _, h => h
  | m + 1, p, s, hp, h => by
    rw [bits]
    refine setP_bits (by omega) ?_
    split
    · exact setP_or h (by omega)
    · obtain ⟨v, hv, rfl⟩ := h
      exact ⟨v, hv, by simp⟩
theorem setP_0 : setP 0 := ⟨0, by omega, rfl⟩
theorem sz_rec : ∀ v : Fin 256, nI v.val &&& (nI v.val - 1) = nI (v.val &&& (v.val - 1)) ∧ v.val &&& (v.val - 1) < 256 ∧ szK 8 (nI v.val) = (if v.val = 0 then 0 else szK 8 (nI (v.val &&& (v.val - 1))) + 1) ∧ szK 8 (nI v.val) ≤ 8 := by decide +kernel
