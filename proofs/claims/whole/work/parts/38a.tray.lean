/-! ===== trays, images, the tape ===== -/
def trT (t s m : Int) : Int32 := match pN 4 t with
  | none => 1
  | some _ => (match rN 0 4 s, rN 0 31 m with
    | some _, some _ => 0
    | _, _ => 2)
/-- thirty numbers are nought -/
def zerN (Nm : Nat → Int64) (t i : Nat) : Nat → Int64 := fun j => if 30 * t ≤ j ∧ j < 30 * t + i then 0 else Nm j
theorem zerN_0 {Nm : Nat → Int64} {t : Nat} : zerN Nm t 0 = Nm := by
  funext j
  unfold zerN
  rw [if_neg (by omega)]
theorem zerN_s {Nm : Nat → Int64} {t i : Nat} : vp_updL (zerN Nm t i) (30 * t + i) 0 = zerN Nm t (i + 1) := by
  funext j
  by_cases e : j = 30 * t + i
  · subst e
    rw [pk_uLs]
    unfold zerN
    rw [if_pos (by omega)]
  · rw [pk_uLn e]
    unfold zerN
    by_cases h : 30 * t ≤ j ∧ j < 30 * t + i
    · rw [if_pos h, if_pos (by omega)]
    · rw [if_neg h, if_neg (by omega)]
/-- a number as a sort holds it -/
def cutV (s : Int32) (v : Int64) : Int64 := (v <<< (((64 : Int32) - (8 : Int32) <<< (s &&& 31)).toInt64 &&& 63)) >>> (((64 : Int32) - (8 : Int32) <<< (s &&& 31)).toInt64 &&& 63)
def wrT (g m : row) (t z : Int) : Int32 := if tyF g t ≠ 0 then tyF g t else match pN (m t.toNat).toNatClampNeg z with
  | none => 3
  | some _ => 0
def cpT (K g : row) (t p : Int) : Int32 := match pN 4 t, pN (kP K) p with
  | some j, some _ => if g j = -1 then 2 else 0
  | _, _ => 1
/-- places told into a tray, from the i-th on -/
def cpF (s : Int32) (t p : Nat) : Nat → Nat → row → (Nat → Int64) → (Nat → Int64)
  | 0, _, _, Nm => Nm
  | m + 1, i, K, Nm => cpF s t p m (i + 1) (minK K) (vp_updL Nm (30 * t + i) (cutV s (placeK K p).toInt64))
theorem cpF_step {s : Int32} {t p P i : Nat} {K : row} {Nm : Nat → Int64} (h : i < P) : cpF s t p (P - i) i K Nm = cpF s t p (P - (i + 1)) (i + 1) (minK K) (vp_updL Nm (30 * t + i) (cutV s (placeK K p).toInt64)) := by
  rw [show P - i = (P - (i + 1)) + 1 by omega, cpF]
def imI (f K : row) (t i : Nat) : row := fun j => if 3020 * t ≤ j ∧ j < 3020 * t + i then K (j - 3020 * t) else f j
theorem imI_0 {f K : row} {t : Nat} : imI f K t 0 = f := by
  funext j
  unfold imI
  rw [if_neg (by omega)]
theorem imI_s {f K : row} {t i : Nat} : upd (imI f K t i) (3020 * t + i) (K i) = imI f K t (i + 1) := by
  funext j
  by_cases e : j = 3020 * t + i
  · subst e
    rw [pk_us]
    unfold imI
    rw [if_pos (by omega), show 3020 * t + i - 3020 * t = i by omega]
  · rw [pk_un e]
    unfold imI
    by_cases h : 3020 * t ≤ j ∧ j < 3020 * t + i
    · rw [if_pos h, if_pos (by omega)]
    · rw [if_neg h, if_neg (by omega)]
def rsI (K f : row) (t i : Nat) : row := fun j => if j < i then f (3020 * t + j) else K j
theorem rsI_0 {K f : row} {t : Nat} : rsI K f t 0 = K := by
  funext j
  unfold rsI
  rw [if_neg (by omega)]
theorem rsI_s {K f : row} {t i : Nat} : upd (rsI K f t i) i (f (3020 * t + i)) = rsI K f t (i + 1) := by
  funext j
  by_cases e : j = i
  · subst e
    rw [pk_us]
    unfold rsI
    rw [if_pos (by omega)]
  · rw [pk_un e]
    unfold rsI
    by_cases h : j < i
    · rw [if_pos h, if_pos (by omega)]
    · rw [if_neg h, if_neg (by omega)]
def imT (i : Int) : Int32 := match rN 0 3 i with
  | none => 1
  | some _ => 0
def rsT (g : row) (i : Int) : Int32 := match rN 0 3 i with
  | none => 1
  | some j => if g j = 0 then 2 else 0
/-- the i-th of twenty bytes that are fed -/
def fdW (a b c d e : Int32) (k : Nat) : Int32 := if k < 4 then a else if k < 8 then b else if k < 12 then c else if k < 16 then d else e
def fdB (a b c d e : Int32) (k : Nat) : Int32 := ((fdW a b c d e k).toUInt32 >>> ((nI (24 - 8 * (k % 4))).toUInt32 &&& Int32.toUInt32 31)).toInt32 &&& 255
theorem fd_sh : ∀ k : Fin 20, 24 - 8 * (nI k.val &&& 3) = nI (24 - 8 * (k.val % 4)) := by decide +kernel
def fdI (f : row) (T : Nat) (a b c d e : Int32) (i : Nat) : row := fun j => if T ≤ j ∧ j < T + i then fdB a b c d e (j - T) else f j
theorem fdI_0 {f : row} {T : Nat} {a b c d e : Int32} : fdI f T a b c d e 0 = f := by
  funext j
  unfold fdI
  rw [if_neg (by omega)]
theorem fdI_s {f : row} {T i : Nat} {a b c d e : Int32} : upd (fdI f T a b c d e i) (T + i) (fdB a b c d e i) = fdI f T a b c d e (i + 1) := by
  funext j
  by_cases h : j = T + i
  · subst h
    rw [pk_us]
    unfold fdI
    rw [if_pos (by omega), show T + i - T = i by omega]
  · rw [pk_un h]
    unfold fdI
    by_cases h2 : T ≤ j ∧ j < T + i
    · rw [if_pos h2, if_pos (by omega)]
    · rw [if_neg h2, if_neg (by omega)]
/-- what a call leaves that changes trays, images or the tape: rows L beside those that it works on -/
def apG (Γ : gam) (r : Nat) (F K : row) (A : Nat → row) (Nm : Nat → Int64) (σ : sto) (n : Nat) (t : Int32) (L : List Nat) (P : (Nat → row) → row → Prop) (σ' : sto) (n' : Nat) : Prop := n' = n ∧ ∃ F' A', MoAt Γ σ' r F' K A' Nm ∧ F' 4 = t ∧ (∀ j, j ≠ 4 → j ≠ 6 → j ≠ 22 → j ≠ 26 → F' j = F j) ∧ eqx L A A' ∧ fr r (r + 16) σ σ' ∧ P A' F'
