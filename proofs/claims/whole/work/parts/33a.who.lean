/-! ===== whom to have rise ===== -/
theorem fwd_cnt {c : Int32} : ∀ {m w free : Nat} {K : row} {k : Nat}, (fwd c m w free K k).2 ≤ k + m
  | 0, _, _, _, _ => Nat.le_refl _
  | m + 1, w, free, K, k => by
    rw [fwd]
    split
    · split
      · have := fwd_cnt (c := c) (m := m) (w := w + 1) (free := w) (K := upd K (16 + ‹Nat›) (nI free)) (k := k + 1)
        omega
      · simp only
        omega
    · have := fwd_cnt (c := c) (m := m) (w := w + 1) (free := free) (K := K) (k := k)
      omega
theorem rise_cnt {K : row} {p : Nat} {s : Int32} (h5 : kH K ≤ 5) : (riseK K p s).2 ≤ 5 := by
  unfold riseK
  refine Nat.le_trans fwd_cnt ?_
  omega
def stirF (K : row) (p : Nat) : Int32 := if whyR K (p : Int) = 0 then nI (riseK K p (-1)).2 else 0
def aStir (K : row) : Int32 := argm (stirF K) (kP K) 0 (-1) 0
/-- who sits nearest to the water of a column, not asleep -/
def fmF (K : row) (c : Int32) (w : Nat) : Bool := match sitK K c (nI w) with
  | none => false
  | some p => !aslK K p
def fmK (K : row) (c : Int32) : Option Nat := match fnd (fmF K c) 0 (kH K) with
  | none => none
  | some w => sitK K c (nI w)
def bitO (x : Option Nat) : Int32 := match x with
  | none => 0
  | some p => (1 : Int32) <<< (nI p &&& 31)
def rdA (K : row) (c : Int32) : row := match fmK K c with
  | none => K
  | some p => sitdK (riseK K p (-1)).1 p c
def rdS (K : row) (c : Int32) : row := minK (rdA K c)
def rdI (c : Int32) : Nat → row → row
  | 0, K => K
  | m + 1, K => rdS (rdI c m K) c
def metK (K : row) (c : Int32) : Nat → Int32
  | 0 => bitO (sitK K c 0)
  | m + 1 => metK K c m ||| bitO (sitK (rdI c (m + 1) K) c 0)
def allF (K : row) (c : Int32) : Nat → Nat → Int32 → Int32
  | 0, _, s => s
  | m + 1, w, s => allF K c m (w + 1) (s ||| bitO (sitK K c (nI w)))
theorem allF_step {K : row} {c : Int32} {P i : Nat} {s : Int32} (h : i < P) : allF K c (P - i) i s = allF K c (P - (i + 1)) (i + 1) (s ||| bitO (sitK K c (nI i))) := by
  rw [show P - i = (P - (i + 1)) + 1 by omega, allF]
def aRound (K : row) (c : Int) : Int32 × Int32 := match pN (kW K) c with
  | none => (1, 0)
  | some d => (0, oI (fnd (fun m => decide (allF K (nI d) (kH K) 0 0 &&& (metK K (nI d) m ^^^ (-1)) = 0)) 0 100))
theorem fm_some {K : row} {c : Int32} {p : Nat} (h : fmK K c = some p) : p < kP K ∧ (∃ w, w < kH K ∧ K (16 + p) = nI w) ∧ K (8 + p) = c ∧ aslK K p = false := by
  unfold fmK at h
  split at h
  · cases h
  · rename_i w hw
    obtain ⟨-, h2, h3⟩ := fnd_lt hw
    obtain ⟨a1, a2, a3, -⟩ := sitK_lt h
    refine ⟨a1, ⟨w, by omega, a2⟩, a3, ?_⟩
    simp only [fmF, h] at h3
    simpa using h3
theorem rdA_same {K : row} {c : Int32} (h8 : kP K ≤ 8) : sameB K (rdA K c) := by
  unfold rdA
  split
  · exact sameB.rf
  · rename_i p hp
    have := (fm_some hp).1
    exact (riseK_same h8 (by omega)).tr (sitdK_same (by omega))
theorem vS_rdA {K : row} {d : Nat} (h : vS K) (h8 : kP K ≤ 8) (h5 : kH K ≤ 5) (hd : d < kW K) : vS (rdA K (nI d)) := by
  unfold rdA
  split
  · exact h
  · rename_i p hp
    obtain ⟨a1, ⟨w, a2, a3⟩, -, -⟩ := fm_some hp
    have hs : sameB K (riseK K p (-1)).1 := riseK_same h8 (by omega)
    exact vS_sitd (vS_rise h a1 h8 h5 (by rw [a3]; exact nI_ne1 (by omega))) (by rw [hs.P]; exact a1) (by rw [hs.P]; exact h8) (by rw [hs.W]; exact hd)
theorem rdS_same {K : row} {c : Int32} (h8 : kP K ≤ 8) : sameB K (rdS K c) := by
  have h1 := rdA_same (c := c) h8
  exact h1.tr (minK_same (by rw [h1.P]; exact h8))
theorem vS_rdS {K : row} {d : Nat} (h : vS K) (h8 : kP K ≤ 8) (h5 : kH K ≤ 5) (hd : d < kW K) : vS (rdS K (nI d)) := by
  have h1 := rdA_same (c := nI d) h8
  exact vS_min (vS_rdA h h8 h5 hd) (by rw [h1.P]; exact h8) (by rw [h1.H]; exact h5)
theorem rdI_good {K : row} {d : Nat} (hv : vS K) (h8 : kP K ≤ 8) (h5 : kH K ≤ 5) (hd : d < kW K) : ∀ m, sameB K (rdI (nI d) m K) ∧ vS (rdI (nI d) m K)
  | 0 => ⟨sameB.rf, hv⟩
  | m + 1 => by
    obtain ⟨h1, h2⟩ := rdI_good hv h8 h5 hd m
    exact ⟨h1.tr (rdS_same (by rw [h1.P]; exact h8)), vS_rdS h2 (by rw [h1.P]; exact h8) (by rw [h1.H]; exact h5) (by rw [h1.W]; exact hd)⟩
/-- the first that there is -/
def fs {α : Type} (f : Nat → Option α) : Nat → Nat → Option α
  | _, 0 => none
  | i, m + 1 => match f i with
    | some x => some x
    | none => fs f (i + 1) m
theorem fs_step {α : Type} {f : Nat → Option α} {P i : Nat} (h : i < P) (hn : f i = none) : fs f i (P - i) = fs f (i + 1) (P - (i + 1)) := by
  rw [show P - i = (P - (i + 1)) + 1 by omega, fs, hn]
theorem fs_hit {α : Type} {f : Nat → Option α} {P i : Nat} {x : α} (h : i < P) (hn : f i = some x) : fs f i (P - i) = some x := by
  rw [show P - i = (P - (i + 1)) + 1 by omega, fs, hn]
/-- the first row of so many who rise one after another and bring p to a row or a lesser one -/
def brK (p : Nat) (to : Int32) : Nat → row → Option (List Nat)
  | 0, K => if K (16 + p) ≤ to then some [] else none
  | m + 1, K => fs (fun q => if q ≠ p ∧ whyR K (q : Int) = 0 then (brK p to m (riseK K q (-1)).1).map (fun l => q :: l) else none) 0 (kP K)
theorem fs_some {α : Type} {f : Nat → Option α} {x : α} : ∀ {m i : Nat}, fs f i m = some x → ∃ q, i ≤ q ∧ q < i + m ∧ f q = some x ∧ ∀ z, i ≤ z → z < q → f z = none
  | 0, _, h => by simp [fs] at h
  | m + 1, i, h => by
    rw [fs] at h
    split at h
    · rename_i y hy
      cases h
      exact ⟨i, by omega, by omega, hy, fun z h1 h2 => by omega⟩
    · rename_i hy
      obtain ⟨q, h1, h2, h3, h4⟩ := fs_some h
      refine ⟨q, by omega, by omega, h3, fun z a b => ?_⟩
      rcases Nat.eq_or_lt_of_le a with e | e
      · exact e ▸ hy
      · exact h4 z (by omega) b
theorem fs_none {α : Type} {f : Nat → Option α} : ∀ {m i : Nat}, fs f i m = none → ∀ q, i ≤ q → q < i + m → f q = none
  | 0, _, _, _, _, _ => by omega
  | m + 1, i, h, q, h1, h2 => by
    rw [fs] at h
    split at h
    · cases h
    · rename_i hy
      rcases Nat.eq_or_lt_of_le h1 with e | e
      · exact e ▸ hy
      · exact fs_none h q (by omega) (by omega)
theorem br_len {p : Nat} {to : Int32} : ∀ {m : Nat} {K : row} {l : List Nat}, brK p to m K = some l → l.length = m
  | 0, K, l, h => by
    rw [brK] at h
    split at h
    · cases h; rfl
    · cases h
  | m + 1, K, l, h => by
    rw [brK] at h
    obtain ⟨q, -, -, h3, -⟩ := fs_some h
    split at h3
    · cases h5 : brK p to m (riseK K q (-1)).1 with
      | none => rw [h5] at h3; cases h3
      | some l2 =>
        rw [h5] at h3
        cases h3
        rw [List.length_cons, br_len h5]
    · cases h3
def bgT (K : row) (p : Int) (w z : Int32) : Int32 := match pN (kP K) p with
  | none => 1
  | some _ => (match pN (kH K) w.toInt with
    | none => 2
    | some _ => if z = 0 then 0 else (match rN 10 18 z.toInt with
      | none => 2
      | some _ => 0))
def bgK (K : row) (p : Nat) (w : Int32) : Option (List Nat) := fs (fun m => brK p w m K) 0 8
def bgA (x : Option (List Nat)) (z : Int32) : Int32 := match x with
  | none => -1
  | some l => if z = 0 then nI l.length else if z - 10 < nI l.length then nI (l.getD (z - 10).toNatClampNeg 0) else -1
def aBring (K : row) (p : Int) (w z : Int32) : Int32 × Int32 := if bgT K p w z ≠ 0 then (bgT K p w z, 0) else (0, if upK K p.toNat = true then -1 else bgA (bgK K p.toNat w) z)
/-! hands -/
def abI (x : Int32) : Int32 := if 0 ≤ x then x else 0 - x
def sideK (K : row) (p q : Nat) : Bool := decide (K (16 + p) ≠ -1 ∧ K (16 + q) ≠ -1 ∧ abI (K (8 + p) - K (8 + q)) + abI (K (16 + p) - K (16 + q)) = 1)
def besF (K : row) (s : Int32) : Nat → Nat → Int32 → Int32
  | 0, _, x => x
  | m + 1, p, x => besF K s m (p + 1) (bits (fun q => hasB s (nI p) && sideK K p q) (kP K) 0 x)
theorem besF_step {K : row} {s : Int32} {P i : Nat} {x : Int32} (h : i < P) : besF K s (P - i) i x = besF K s (P - (i + 1)) (i + 1) (bits (fun q => hasB s (nI i) && sideK K i q) (kP K) 0 x) := by
  rw [show P - i = (P - (i + 1)) + 1 by omega, besF]
/-- these and all who sit side by side with one of them -/
def besK (K : row) (s : Int32) : Int32 := besF K s (kP K) 0 s
def cutS (x b : Int32) : Int32 := if b = -1 then x else x &&& ((1 : Int32) <<< (b &&& 31) ^^^ (-1))
def hfF (K : row) (q b : Int32) : Nat → Nat → Int32 → Option Nat
  | 0, _, _ => none
  | m + 1, i, s => if hasB (cutS (besK K s) b) q = true then some i else hfF K q b m (i + 1) (cutS (besK K s) b)
theorem hfF_step {K : row} {q b : Int32} {P i : Nat} {s : Int32} (h : i < P) : hfF K q b (P - i) i s = if hasB (cutS (besK K s) b) q = true then some i else hfF K q b (P - (i + 1)) (i + 1) (cutS (besK K s) b) := by
  rw [show P - i = (P - (i + 1)) + 1 by omega, hfF]
def hfK (K : row) (s q b : Int32) : Int32 := oI (hfF K q b 8 0 s)
def bit1 (p : Nat) : Int32 := (1 : Int32) <<< (nI p &&& 31)
def hoT (K : row) (p q : Int) : Int32 := match pN (kP K) p, pN (kP K) q with
  | some a, some b => if a = b then 2 else if K (16 + a) = -1 ∨ K (16 + b) = -1 then 3 else 0
  | _, _ => 1
def aHands (K : row) (p q : Int) : Int32 × Int32 := if hoT K p q ≠ 0 then (hoT K p q, 0) else (0, hfK K (bit1 p.toNat) (nI q.toNat) (-1))
def aRelay (K : row) (p : Int) : Int32 × Int32 := match pN (kP K) p with
  | none => (1, 0)
  | some a => if K (16 + a) = -1 then (2, 0) else
    let s := bits (fun q => decide (K (16 + q) = K 2 - 1)) (kP K) 0 0
    (0, if hasB s (nI a) = true then 0 else hfK K s (nI a) (-1))
def aCut (K : row) (p q : Int) : Int32 × Int32 := if hoT K p q ≠ 0 then (hoT K p q, 0) else
  (0, if hfK K (bit1 p.toNat) (nI q.toNat) (-1) = -1 then 0 else bits (fun w => decide (w ≠ p.toNat ∧ w ≠ q.toNat ∧ hfK K (bit1 p.toNat) (nI q.toNat) (nI w) = -1)) (kP K) 0 0)
def besI (K : row) : Nat → Int32 → Int32
  | 0, s => s
  | m + 1, s => besK K (besI K m s)
def hpF (K : row) : Nat → Nat → Int32 → Int32 → Int32
  | 0, _, _, c => c
  | m + 1, p, s, c => if hasB s (nI p) = true ∨ upK K p = true then hpF K m (p + 1) s c else hpF K m (p + 1) (s ||| besI K 8 (bit1 p)) (c + 1)
theorem hpF_step {K : row} {P i : Nat} {s c : Int32} (h : i < P) : hpF K (P - i) i s c = if hasB s (nI i) = true ∨ upK K i = true then hpF K (P - (i + 1)) (i + 1) s c else hpF K (P - (i + 1)) (i + 1) (s ||| besI K 8 (bit1 i)) (c + 1) := by
  rw [show P - i = (P - (i + 1)) + 1 by omega, hpF]
def aHeaps (K : row) : Int32 := hpF K (kP K) 0 0 0
