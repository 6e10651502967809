/-! ===== deeds: who may, what is kept, what is put back ===== -/
/-- one of so many -/
def pN (m : Nat) (z : Int) : Option Nat := if 0 ≤ z ∧ z < (m : Int) then some z.toNat else none
theorem pN_some {m j : Nat} {z : Int} (h : pN m z = some j) : z = (j : Int) ∧ j < m := by
  unfold pN at h
  split at h
  · cases h
    omega
  · cases h
theorem pN_none {m : Nat} {z : Int} (h : pN m z = none) : ¬ (0 ≤ z ∧ z < (m : Int)) := by
  unfold pN at h
  split at h
  · cases h
  · assumption
theorem pN_nat {m j : Nat} (h : j < m) : pN m (j : Int) = some j := by
  unfold pN
  rw [if_pos ⟨by omega, by omega⟩]
  rfl
theorem L_nat {z : Int64} {j : Nat} (h : z.toInt = (j : Int)) (hj : j < 2 ^ 31) : z = (nI j).toInt64 := by
  apply Int64.toInt_inj.mp
  rw [Int32.toInt_toInt64, nI_toInt hj, h]
theorem I_nat {z : Int32} {j : Nat} (h : z.toInt = (j : Int)) (hj : j < 2 ^ 31) : z = nI j := by
  apply Int32.toInt_inj.mp
  rw [nI_toInt hj, h]
theorem nI_LI {j : Nat} (hj : j < 2 ^ 31) : (nI j).toInt64.toInt32 = nI j := by simp
theorem top_iff {x : Int32} {m : Nat} (hx : x = nI m) (hm : m ≤ 100) (z : Int64) : (0 ≤ z ∧ z ≤ (x - 1).toInt64) ↔ (0 ≤ z.toInt ∧ z.toInt < (m : Int)) := by
  have e : (x - 1).toInt = (m : Int) - 1 := by
    rw [hx]
    exact pk_sub_toInt (a := m) (b := 1) (by omega) (by omega)
  rw [Int64.le_iff_toInt_le, Int64.le_iff_toInt_le, Int32.toInt_toInt64, e, show (0 : Int64).toInt = 0 from rfl]
  omega
theorem pers_no {x : Int32} {m : Nat} (hx : x = nI m) (hm : m ≤ 100) {z : Int64} (h : pN m z.toInt = none) : bI (0 ≤ z ∧ z ≤ (x - 1).toInt64) = 0 := bI_0.mpr fun hc => pN_none h ((top_iff hx hm z).mp hc)
theorem pers_yes {x : Int32} {m j : Nat} (hx : x = nI m) (hm : m ≤ 100) {z : Int64} (h : pN m z.toInt = some j) : bI (0 ≤ z ∧ z ≤ (x - 1).toInt64) = 1 := bI_t ((top_iff hx hm z).mpr (by have := pN_some h; omega))
def whyR (K : row) (z : Int) : Int32 := match pN (kP K) z with
  | none => 1
  | some j => if K (16 + j) = -1 then 2 else if aslK K j = true then 3 else 0
def whyS (K : row) (z c : Int) : Int32 := match pN (kP K) z, pN (kW K) c with
  | some j, some d => if K (16 + j) = -1 then (if freeK K (nI d) = none then 3 else 0) else 2
  | _, _ => 1
def whyX (K : row) (z y : Int) : Int32 := match pN (kP K) z, pN (kP K) y with
  | some j, some d => if j = d then 1 else if K (16 + j) = -1 ∨ K (16 + d) = -1 then 2 else 0
  | _, _ => 1
/-- the state put in the place of K's own -/
def setS (K g : row) : row := fun j => if 8 ≤ j ∧ j < 34 then g (j - 8) else K j
def setN (K g : row) (i : Nat) : row := fun j => if 8 ≤ j ∧ j < 8 + i then g (j - 8) else K j
theorem setN_0 {K g : row} : setN K g 0 = K := by
  funext j
  simp only [setN]
  rw [if_neg (by omega)]
theorem setN_s {K g : row} {i : Nat} : upd (setN K g i) (8 + i) (g i) = setN K g (i + 1) := by
  funext j
  simp only [setN, upd]
  by_cases h : j = 8 + i
  · rw [if_pos h, if_pos (by omega), h, Nat.add_sub_cancel_left]
  · rw [if_neg h]
    by_cases h2 : 8 ≤ j ∧ j < 8 + i
    · rw [if_pos h2, if_pos (by omega)]
    · rw [if_neg h2, if_neg (by omega)]
theorem setN_26 {K g : row} : setN K g 26 = setS K g := rfl
theorem setS_back {K K2 g : row} (h : sameB K K2) (hg : ∀ j, j < 26 → g j = K (8 + j)) : setS K2 g = K := by
  funext j
  simp only [setS]
  split
  · rename_i h1
    rw [hg (j - 8) (by omega), show 8 + (j - 8) = j by omega]
  · exact h j (by omega)
/-- the eldest state goes, the others come one forward -/
def shK (i : Nat) (K : row) : row := fun j => if 59 ≤ j ∧ j < 59 + i then K (j + 26) else K j
theorem shK_0 {K : row} : shK 0 K = K := by
  funext j
  simp only [shK]
  rw [if_neg (by omega)]
theorem shK_s {K : row} {i : Nat} : upd (shK i K) (59 + i) (shK i K (59 + i + 26)) = shK (i + 1) K := by
  funext j
  simp only [shK, upd]
  by_cases h : j = 59 + i
  · rw [if_pos h, if_neg (by omega), if_pos (by omega), h]
  · rw [if_neg h]
    by_cases h2 : 59 ≤ j ∧ j < 59 + i
    · rw [if_pos h2, if_pos (by omega)]
    · rw [if_neg h2, if_neg (by omega)]
/-- i numbers of the state are kept as the d-th -/
def cpK (d i : Nat) (K : row) : row := fun j => if 59 + 26 * d ≤ j ∧ j < 59 + 26 * d + i then K (8 + (j - (59 + 26 * d))) else K j
theorem cpK_0 {d : Nat} {K : row} : cpK d 0 K = K := by
  funext j
  simp only [cpK]
  rw [if_neg (by omega)]
theorem cpK_s {d i : Nat} {K : row} (hi : i < 26) : upd (cpK d i K) (59 + 26 * d + i) (cpK d i K (8 + i)) = cpK d (i + 1) K := by
  funext j
  simp only [cpK, upd]
  by_cases h : j = 59 + 26 * d + i
  · rw [if_pos h, if_neg (by omega), if_pos (by omega), h, show 59 + 26 * d + i - (59 + 26 * d) = i by omega]
  · rw [if_neg h]
    by_cases h2 : 59 + 26 * d ≤ j ∧ j < 59 + 26 * d + i
    · rw [if_pos h2, if_pos (by omega)]
    · rw [if_neg h2, if_neg (by omega)]
theorem cpK_7 {d i : Nat} {K : row} : cpK d i K 7 = K 7 := by
  simp only [cpK]
  rw [if_neg (by omega)]
def kD (K : row) : Nat := (K 7).toNatClampNeg
def keepA (K : row) : row := if K 7 = 10 then upd (shK 234 K) 7 9 else K
def keepK (K : row) : row := upd (cpK (kD (keepA K)) 26 (keepA K)) 7 (keepA K 7 + 1)
/-- K2 differs from K in what is kept of deeds at most -/
def sameU (K K2 : row) : Prop := ∀ j, (j ≠ 7 ∧ (j < 59 ∨ 318 < j)) → K2 j = K j
theorem sameU.rf {K : row} : sameU K K := fun _ _ => rfl
theorem sameU.tr {K K2 K3 : row} (h : sameU K K2) (h2 : sameU K2 K3) : sameU K K3 := fun j hj => (h2 j hj).trans (h j hj)
theorem sameU.sy {K K2 : row} (h : sameU K K2) : sameU K2 K := fun j hj => (h j hj).symm
theorem sameU.P {K K2 : row} (h : sameU K K2) : kP K2 = kP K := by simp only [kP, h 3 (by omega)]
theorem sameU.H {K K2 : row} (h : sameU K K2) : kH K2 = kH K := by simp only [kH, h 2 (by omega)]
theorem sameU.W {K K2 : row} (h : sameU K K2) : kW K2 = kW K := by simp only [kW, h 1 (by omega)]
theorem sameU.code {K K2 : row} (h : sameU K K2) {mn pl : Nat} (h1 : mn < 7) (h2 : 318 < pl) : codeK K2 mn pl = codeK K mn pl := by
  unfold codeK
  rw [h mn (by omega)]
  exact List.map_congr_left fun i _ => h (pl + i) (by omega)
theorem sameU.okP {K K2 : row} (h : sameU K K2) (h0 : okP K) : okP K2 := by
  unfold Jvm.Pilot.@@N@@.okP at *
  rw [h.P, h.H, h.W, h 3 (by omega), h 2 (by omega), h 1 (by omega)]
  exact h0
theorem sameU.okL {K K2 : row} (h : sameU K K2) {mn pl : Nat} (h1 : mn < 7) (h2 : 318 < pl) {w : Int32} {fb : Bool} (h0 : okL K mn pl w fb) : okL K2 mn pl w fb := by
  unfold Jvm.Pilot.@@N@@.okL at *
  rw [h mn (by omega), h.code h1 h2]
  exact h0
theorem sameU.okB {K K2 : row} (h : sameU K K2) (h0 : okB K) : okB K2 := by
  refine ⟨h.okP h0.1, ?_, ?_, ?_⟩
  · rw [h 4 (by omega)]
    exact h0.2.1.imp id (fun x => h.okL (by omega) (by omega) x)
  · rw [h 5 (by omega)]
    exact h0.2.2.1.imp id (fun x => h.okL (by omega) (by omega) x)
  · rw [h 6 (by omega)]
    exact h0.2.2.2.imp id (fun x => h.okL (by omega) (by omega) x)
theorem sameU.vS {K K2 : row} (h : sameU K K2) (h0 : vS K) (h8 : kP K ≤ 8) : vS K2 := by
  intro q hq
  rw [h.P] at hq
  rw [h.W, h.H, h (8 + q) (by omega), h (16 + q) (by omega)]
  exact h0 q hq
theorem keepA_same {K : row} : sameU K (keepA K) := by
  intro j hj
  unfold keepA
  split
  · simp only [upd, shK]
    rw [if_neg (by omega), if_neg (by omega)]
  · rfl
theorem keepA_d {K : row} {d : Nat} (h : K 7 = nI d) (hd : d ≤ 10) : ∃ d2, d2 ≤ 9 ∧ keepA K 7 = nI d2 ∧ kD (keepA K) = d2 := by
  by_cases e : d = 10
  · subst e
    refine ⟨9, by omega, ?_, ?_⟩
    · rw [keepA, if_pos (show K 7 = 10 from h)]; rfl
    · rw [kD, keepA, if_pos (show K 7 = 10 from h)]; rfl
  · have e2 : ¬ K 7 = 10 := by
      rw [h]
      intro hc
      exact e ((nI_eq (by omega) (by omega)).mp (show nI d = nI 10 from hc))
    refine ⟨d, by omega, ?_, ?_⟩
    · rw [keepA, if_neg e2, h]
    · rw [kD, keepA, if_neg e2, h, nI_clamp (by omega)]
theorem keepK_same {K : row} {d : Nat} (h : K 7 = nI d) (hd : d ≤ 10) : sameU K (keepK K) := by
  obtain ⟨d2, h2, -, e⟩ := keepA_d h hd
  intro j hj
  rw [← keepA_same (K := K) j hj]
  simp only [keepK, e, upd, cpK]
  rw [if_neg (by omega), if_neg (by omega)]
/-- a set of people: bit p for each with f -/
def bits (f : Nat → Bool) : Nat → Nat → Int32 → Int32
  | 0, _, s => s
  | m + 1, p, s => bits f m (p + 1) (s ||| (if f p = true then (1 : Int32) <<< (nI p &&& 31) else 0))
theorem bits_step {f : Nat → Bool} {P i : Nat} {s : Int32} (h : i < P) : bits f (P - i) i s = bits f (P - (i + 1)) (i + 1) (s ||| (if f i = true then (1 : Int32) <<< (nI i &&& 31) else 0)) := by
  rw [show P - i = (P - (i + 1)) + 1 by omega, bits]
def goK : Nat → row → row
  | 0, K => K
  | m + 1, K => goK m (minK K)
theorem goK_step {N i : Nat} {K : row} (h : i < N) : goK (N - i) K = goK (N - (i + 1)) (minK K) := by
  rw [show N - i = (N - (i + 1)) + 1 by omega, goK]
theorem goK_s {m : Nat} : ∀ {K : row}, goK (m + 1) K = minK (goK m K) := by
  induction m with
  | zero => intro K; rfl
  | succ m ih => intro K; rw [goK, ih, goK]
theorem goK_same {m : Nat} : ∀ {K : row}, kP K ≤ 8 → sameB K (goK m K) := by
  induction m with
  | zero => intro K h; exact sameB.rf
  | succ m ih =>
    intro K h
    have h1 := minK_same h
    exact h1.tr (ih (by rw [h1.P]; exact h))
theorem vS_go {m : Nat} : ∀ {K : row}, vS K → kP K ≤ 8 → kH K ≤ 5 → vS (goK m K) := by
  induction m with
  | zero => intro K h _ _; exact h
  | succ m ih =>
    intro K h h8 h5
    have h1 := minK_same h8
    exact ih (vS_min h h8 h5) (by rw [h1.P]; exact h8) (by rw [h1.H]; exact h5)
def placeK (K : row) (p : Nat) : Int32 := if upK K p = true then -1 else 10 * K (8 + p) + K (16 + p)
def frontK (K : row) : Int32 := bits (fun p => decide (K (16 + p) = 0)) (kP K) 0 0
def upsK (K : row) : Int32 := bits (upK K) (kP K) 0 0
/-- how many of a set: its least goes, so many times -/
def szK : Nat → Int32 → Nat
  | 0, _ => 0
  | m + 1, s => if s = 0 then 0 else szK m (s &&& (s - 1)) + 1
