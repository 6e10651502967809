/-! ===== the beach as a row of numbers K (the reference's own row 'known'): what each question and deed means ===== -/
/-- the first place from i on, of m places, with f -/
def fnd (f : Nat → Bool) : Nat → Nat → Option Nat
  | _, 0 => none
  | i, m + 1 => if f i = true then some i else fnd f (i + 1) m
def oI (x : Option Nat) : Int32 := match x with
  | none => -1
  | some p => nI p
abbrev row : Type := Nat → Int32
abbrev kW (K : row) : Nat := (K 1).toNatClampNeg
abbrev kH (K : row) : Nat := (K 2).toNatClampNeg
abbrev kP (K : row) : Nat := (K 3).toNatClampNeg
/-- bit p of a set -/
def hasB (s p : Int32) : Bool := decide ((s >>> (p &&& 31)) &&& 1 = 1)
def upK (K : row) (p : Nat) : Bool := decide (K (16 + p) = -1)
def aslK (K : row) (p : Nat) : Bool := hasB (K 42) (nI p)
def sitK (K : row) (c r : Int32) : Option Nat := fnd (fun p => decide (K (16 + p) = r ∧ K (8 + p) = c ∧ r ≠ -1)) 0 (kP K)
/-- laws: steps of a row, a stack of numbers with its top ahead -/
def mnI (a b : Int32) : Int32 := if b < a then b else a
def mxI (a b : Int32) : Int32 := if a < b then b else a
def mnL (a b : Int64) : Int64 := if b < a then b else a
def mxL (a b : Int64) : Int64 := if b < a then a else b
def bnd (v : Int64) : Int32 := (mxL (-1000000) (mnL 1000000 v)).toInt32
def doneL (step : Int32) (a b : Int64) : Int32 :=
  if step = 10 then bnd (a + b) else if step = 11 then bnd (a - b) else if step = 12 then bnd (a * b)
  else if step = 13 then bI (a = b) else if step = 14 then bI (a < b) else if step = 15 then bI (b < a)
  else if step = 16 then bI (1 < a + b) else bI (0 < a + b)
def doneK (step a b : Int32) : Int32 := doneL step a.toInt64 b.toInt64
def stepK (as : row) (step : Int32) (s : List Int32) : List Int32 :=
  if 100 ≤ step then (if 1000 ≤ step then step - 1000 else as (step - 100).toNatClampNeg) :: s
  else if step = 18 then (match s with
    | x :: t => (1 - x) :: t
    | [] => [])
  else match s with
    | b :: a :: t => doneK step a b :: t
    | _ => []
def runK (as : row) : List Int32 → List Int32 → List Int32
  | [], s => s
  | x :: t, s => runK as t (stepK as x s)
def codeK (K : row) (many pl : Nat) : List Int32 := (List.range (K many).toNatClampNeg).map fun i => K (pl + i)
def lawK (K : row) (many pl : Nat) (as : row) : Int32 := ((runK as (codeK K many pl) []).getLast?).getD 0
/-- the kinds on a law's stack (true: a truth), words up to w alone, never more than 40 deep -/
def kinK (w : Int32) : List Int32 → List Bool → Option (List Bool)
  | [], s => some s
  | x :: t, s =>
    if 100 ≤ x then (if (1000 ≤ x ∨ x ≤ w) ∧ s.length < 40 then kinK w t (false :: s) else none)
    else if x = 18 then (match s with
      | true :: s' => kinK w t (true :: s')
      | _ => none)
    else if x = 16 ∨ x = 17 then (match s with
      | true :: true :: s' => kinK w t (true :: s')
      | _ => none)
    else if x = 13 ∨ x = 14 ∨ x = 15 then (match s with
      | false :: false :: s' => kinK w t (true :: s')
      | _ => none)
    else if x = 10 ∨ x = 11 ∨ x = 12 then (match s with
      | false :: false :: s' => kinK w t (false :: s')
      | _ => none)
    else none
def ask5 (a b c d e : Int32) : row := fun j => if j = 0 then a else if j = 1 then b else if j = 2 then c else if j = 3 then d else e
def comK (K : row) (p : Nat) (c r : Int32) : Bool := if K 4 = 0 then true else decide (lawK K 4 319 (ask5 (K 33) c r (nI p) (K (34 + p))) = 1)
def clip (lo hi v : Int32) : Int32 := mxI lo (mnI hi v)
def tideK (K : row) (m : Int32) : Int32 := if K 5 = 0 then 0 else clip 0 (K 2) (lawK K 5 1219 (ask5 m 0 0 0 0))
def waveK (K : row) (c r m : Int32) : Int32 := if K 6 = 0 then (if r = 0 then 5 else 0) else clip 0 10 (lawK K 6 2119 (ask5 m c r 0 0))
/-- who of a column comes forward to a free chair: the rows from r on, m of them -/
def comes (K : row) (c : Int32) (free : Nat) (r : Nat) : Bool := match sitK K c (nI r) with
  | none => false
  | some p => !aslK K p && comK K p c (nI free)
/-- all behind come forward, row by row; how many -/
def fwd (c : Int32) : Nat → Nat → Nat → row → Nat → row × Nat
  | 0, _, _, K, k => (K, k)
  | m + 1, r, free, K, k => if comes K c free r = true then (match sitK K c (nI r) with
      | some p => fwd c m (r + 1) r (upd K (16 + p) (nI free)) (k + 1)
      | none => (K, k))
    else fwd c m (r + 1) free K k
def riseK (K : row) (p : Nat) (s : Int32) : row × Nat :=
  fwd (K (8 + p)) (kH K - ((K (16 + p)).toNatClampNeg + 1)) ((K (16 + p)).toNatClampNeg + 1) (K (16 + p)).toNatClampNeg (upd (upd K (16 + p) (-1)) (24 + p) s) 0
/-- the free chair with the greatest row, of the rows below m -/
def lastF (K : row) (c : Int32) : Nat → Option Nat
  | 0 => none
  | m + 1 => if sitK K c (nI m) = none then some m else lastF K c m
def freeK (K : row) (c : Int32) : Option Nat := lastF K c (kH K)
def sitdK (K : row) (p : Nat) (c : Int32) : row := upd (upd (upd K (16 + p) (oI (freeK K c))) (8 + p) c) (24 + p) (-1)
def swapK (K : row) (p q : Nat) : row :=
  let a := upd (upd K (8 + p) (K (8 + q))) (8 + q) (K (8 + p))
  upd (upd a (16 + p) (K (16 + q))) (16 + q) (K (16 + p))
/-- a minute: who sits down by its plan, who rises, who gets wet -/
def downK (m : Int32) : Nat → Nat → row → row
  | 0, _, K => K
  | j + 1, p, K => downK m j (p + 1) (if upK K p = true ∧ K (24 + p) ≠ -1 ∧ K (24 + p) ≤ m ∧ freeK K (K (8 + p)) ≠ none then sitdK K p (K (8 + p)) else K)
def planK (m : Int32) : Nat → Nat → row → row
  | 0, _, K => K
  | j + 1, p, K => planK m j (p + 1) (if K (43 + p) = m ∧ upK K p = false ∧ aslK K p = false then (riseK K p (m + K (51 + p))).1 else K)
def wetL (t : Int32) : Nat → Nat → row → row
  | 0, _, K => K
  | j + 1, p, K => wetL t j (p + 1) (upd K 32 (K 32 ||| (if upK K p = false ∧ K (16 + p) < t then (1 : Int32) <<< (nI p &&& 31) else 0)))
def minK (K : row) : row :=
  let a := planK (K 33) (kP K) 0 (downK (K 33) (kP K) 0 K)
  let b := wetL (tideK a (K 33)) (kP K) 0 a
  upd b 33 (b 33 + 1)
