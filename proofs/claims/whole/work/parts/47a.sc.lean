/-! ===== scratch rows; who is reached; common divisors ===== -/
section ScR
variable {Γ : gam} {R : Room} {M : mth} {Q : qp} {cells slots pc : Nat} {lv : List (Option Value)} {st : List Value} {σ : sto} {n : Nat}
theorem go_iastF {x N j : Nat} {f : Nat → Int32} {i v : Int32} (hd : decode M.2.1 pc = .ok (.iastore, 1)) (ho : σ x = some (cI Γ N f)) (hix : i = nI j ∧ j < N) (kk : ∀ σ', σ' x = some (cI Γ N (upd f j v)) → (∀ q, q ≠ x → σ' q = σ q) → Go Γ R M Q cells slots (pc + 1) lv st σ' n) (hN : N < 2 ^ 31 := by decide) : Go Γ R M Q cells slots pc lv (.int v :: .int i :: .ref x :: st) σ n := go_iast hd ho hix (kk _ sup_eq (fun q h => sup_ne h rfl)) hN
theorem go_lastF {x N j : Nat} {f : Nat → Int64} {i : Int32} {v : Int64} (hd : decode M.2.1 pc = .ok (.lastore, 1)) (ho : σ x = some (cJ Γ N f)) (hix : i = nI j ∧ j < N) (kk : ∀ σ', σ' x = some (cJ Γ N (vp_updL f j v)) → (∀ q, q ≠ x → σ' q = σ q) → Go Γ R M Q cells slots (pc + 1) lv st σ' n) (hN : N < 2 ^ 31 := by decide) : Go Γ R M Q cells slots pc lv (.long v :: .int i :: .ref x :: st) σ n := go_last hd ho hix (kk _ sup_eq (fun q h => sup_ne h rfl)) hN
end ScR
section ScS
variable {Γ : gam} {D : Nat} {ro : Nat → Nat} {S : Nat → Prop} {a b x : Nat} {σ σ1 : sto}
theorem frS.one (h : ∀ q, q ≠ x → σ1 q = σ q) : frS Γ ro (fun q => q = x) σ σ1 := ⟨fun q hq _ => h q hq, fun q hq _ ⟨s, hs⟩ => ⟨s, by rw [h q hq]; exact hs⟩⟩
theorem frS.ot (h : frS Γ ro S σ σ1) {σ2 : sto} (hx : ∀ q, q ≠ x → σ2 q = σ1 q) (hS : S x) : frS Γ ro S σ σ2 := h.tr ((frS.one hx).wk (fun q hq => by rw [hq]; exact hS))
theorem ScAt.x6 (h : ScAt Γ ro σ a) (hr : ∀ q, a ≤ q → q ≤ a + 113 → ro q ≠ 1) (hf : frS Γ ro (fun q => q = a + 6 ∨ (a + 89 ≤ q ∧ q ≤ a + 93)) σ σ1) (h6 : ∃ f, σ1 (a + 6) = some (cI Γ 8 f)) (ht : TrAt Γ ro σ1 (a + 89)) : ScAt Γ ro σ1 a := by
  obtain ⟨⟨f1, h1⟩, ⟨f2, h2⟩, ⟨f3, h3⟩, ⟨f4, h4⟩, ⟨f5, h5⟩, h6', h7, h8, h9, h10⟩ := h
  exact ⟨⟨f1, hf.at (by omega) (hr _ (by omega) (by omega)) h1⟩, h6, ⟨f3, hf.at (by omega) (hr _ (by omega) (by omega)) h3⟩, ⟨f4, hf.at (by omega) (hr _ (by omega) (by omega)) h4⟩, ⟨f5, hf.at (by omega) (hr _ (by omega) (by omega)) h5⟩, ht, h7.fs hf (fun q x y z => by omega), h8.fs hf (fun q x y z => by omega), h9.fs hf (fun q x y z => by omega), h10.fs hf (fun q x y z => by omega)⟩
theorem ScAt.x5 (h : ScAt Γ ro σ a) (hr : ∀ q, a ≤ q → q ≤ a + 113 → ro q ≠ 1) (hf : frS Γ ro (fun q => q = a + 5 ∨ (a + 89 ≤ q ∧ q ≤ a + 113)) σ σ1) (h5 : ∃ f, σ1 (a + 5) = some (cI Γ 5 f)) (t0 : TrAt Γ ro σ1 (a + 89)) (t1 : TrAt Γ ro σ1 (a + 94)) (t2 : TrAt Γ ro σ1 (a + 99)) (t3 : TrAt Γ ro σ1 (a + 104)) (t4 : TrAt Γ ro σ1 (a + 109)) : ScAt Γ ro σ1 a := by
  obtain ⟨⟨f1, h1⟩, ⟨f2, h2⟩, ⟨f3, h3⟩, ⟨f4, h4⟩, ⟨f5, h5'⟩, h6', h7, h8, h9, h10⟩ := h
  exact ⟨h5, ⟨f2, hf.at (by omega) (hr _ (by omega) (by omega)) h2⟩, ⟨f3, hf.at (by omega) (hr _ (by omega) (by omega)) h3⟩, ⟨f4, hf.at (by omega) (hr _ (by omega) (by omega)) h4⟩, ⟨f5, hf.at (by omega) (hr _ (by omega) (by omega)) h5'⟩, t0, t1, t2, t3, t4⟩
theorem ScAt.x7 (h : ScAt Γ ro σ a) (hr : ∀ q, a ≤ q → q ≤ a + 113 → ro q ≠ 1) (hf : frS Γ ro (fun q => (a + 7 ≤ q ∧ q ≤ a + 9) ∨ (a + 89 ≤ q ∧ q ≤ a + 93)) σ σ1) (h7 : ∃ f, σ1 (a + 7) = some (cI Γ 60 f)) (h8 : ∃ f, σ1 (a + 8) = some (cI Γ 28 f)) (h9 : ∃ f, σ1 (a + 9) = some (cI Γ 224 f)) (t0 : TrAt Γ ro σ1 (a + 89)) : ScAt Γ ro σ1 a := by
  obtain ⟨⟨f1, h1⟩, ⟨f2, h2⟩, ⟨f3, h3⟩, ⟨f4, h4⟩, ⟨f5, h5'⟩, h6', g7, g8, g9, g10⟩ := h
  exact ⟨⟨f1, hf.at (by omega) (hr _ (by omega) (by omega)) h1⟩, ⟨f2, hf.at (by omega) (hr _ (by omega) (by omega)) h2⟩, h7, h8, h9, t0, g7.fs hf (fun q x y z => by omega), g8.fs hf (fun q x y z => by omega), g9.fs hf (fun q x y z => by omega), g10.fs hf (fun q x y z => by omega)⟩
end ScS
theorem an_0 (x : Int32) : x &&& ((0 : Int32) ^^^ (-1)) = x := by
  apply Int32.toBitVec_inj.mp
  simp
theorem an_b {w : Nat} (hw : w < 8) (x : Int32) : x &&& (bit1 w ^^^ (-1)) = cutS x (nI w) := by
  rw [cutS, if_neg (nI_ne1 (by omega))]
  rfl
theorem an_c (x : Int32) : x &&& ((0 : Int32) ^^^ (-1)) = cutS x (-1) := by
  rw [an_0, cutS, if_pos rfl]
theorem ev_fin : ∀ P : Fin 9, (1 : Int32) <<< (nI P.val &&& 31) - 1 = nI (2 ^ P.val - 1) ∧ 2 ^ P.val - 1 < 256 ∧ ∀ q : Fin 8, hasB ((1 : Int32) <<< (nI P.val &&& 31) - 1) (nI q.val) = decide (q.val < P.val) := by decide +kernel
theorem setP_ev {K : row} (hP : okP K) : setP ((1 : Int32) <<< (K 3 &&& 31) - 1) := by
  have h := ev_fin ⟨kP K, by have := hP.2.1; omega⟩
  rw [hP.1]
  exact ⟨_, h.2.1, h.1⟩
theorem has_ev {K : row} (hP : okP K) {q : Nat} (hq : q < 8) : hasB ((1 : Int32) <<< (K 3 &&& 31) - 1) (nI q) = decide (q < kP K) := by
  rw [hP.1]
  exact (ev_fin ⟨kP K, by have := hP.2.1; omega⟩).2.2 ⟨q, hq⟩
theorem has_ups {K : row} (h8 : kP K ≤ 8) {q : Nat} (hq : q < 8) : hasB (upsK K) (nI q) = (decide (q < kP K) && upK K q) := by
  rw [upsK, bits_has hq (by omega) setP_0, has_0 hq, Bool.false_or]
  congr 1
  rw [decide_eq_decide]
  omega
/-! heaps: who isn't reached yet -/
def hpI (K : row) (x s : Int32) : Prop := setP x ∧ setP s ∧ ∀ q, q < 8 → hasB x (nI q) = (decide (q < kP K) && !upK K q && !hasB s (nI q))
theorem hpI_0 {K : row} (hP : okP K) : hpI K ((upsK K ^^^ (-1)) &&& ((1 : Int32) <<< (K 3 &&& 31) - 1)) 0 := by
  have h8 := hP.2.1
  have su : setP (upsK K) := setP_bits (by omega) setP_0
  rw [Int32.and_comm]
  refine ⟨setP_aa (setP_ev hP), setP_0, fun q hq => ?_⟩
  rw [has_an (setP_ev hP) su hq, has_ev hP hq, has_ups h8 hq, has_0 hq]
  by_cases h : q < kP K <;> simp [h]
theorem hpI_s {K : row} {x s t : Int32} (h : hpI K x s) (ht : setP t) : hpI K (x &&& (t ^^^ (-1))) (s ||| t) := by
  obtain ⟨h1, h2, h3⟩ := h
  refine ⟨setP_aa h1, setP_oo h2 ht, fun q hq => ?_⟩
  rw [has_an h1 ht hq, has_oo h2 ht hq, h3 q hq]
  cases decide (q < kP K) <;> cases upK K q <;> cases hasB s (nI q) <;> cases hasB t (nI q) <;> rfl
/-! common divisors -/
def eu : Nat → Nat → Nat → Nat
  | 0, a, _ => a
  | m + 1, a, b => if b = 0 then a else eu m b (a % b)
theorem eu_gcd : ∀ (k a b : Nat), b < 2 ^ k → eu (2 * k) a b = Nat.gcd a b
  | 0, a, b, h => by
    have e : b = 0 := by simpa using h
    subst e
    simp [eu]
  | k + 1, a, b, h => by
    rw [show 2 * (k + 1) = (2 * k + 1) + 1 by omega, eu]
    by_cases hb : b = 0
    · rw [if_pos hb, hb]; simp
    · rw [if_neg hb, eu]
      by_cases hr : a % b = 0
      · rw [if_pos hr, gcd_st, hr]; simp
      · rw [if_neg hr, eu_gcd k]
        · rw [gcd_st (a := a), gcd_st (a := b)]
        · have h1 : a % b < b := Nat.mod_lt _ (by omega)
          have h2 : b % (a % b) < a % b := Nat.mod_lt _ (by omega)
          have h3 : 2 * (b % (a % b)) < b := by
            have h4 := Nat.div_add_mod b (a % b)
            have h5 : 1 ≤ b / (a % b) := (Nat.one_le_div_iff (by omega)).mpr (by omega)
            have h6 : a % b ≤ (a % b) * (b / (a % b)) := Nat.le_mul_of_pos_right _ h5
            omega
          have h7 : 2 ^ (k + 1) = 2 * 2 ^ k := by rw [Nat.pow_succ]; omega
          omega
theorem eu_0 {m a : Nat} : eu m a 0 = a := by
  cases m <;> simp [eu]
theorem eu_step {N i a b : Nat} (h : i < N) (hb : b ≠ 0) : eu (N - i) a b = eu (N - (i + 1)) b (a % b) := by
  rw [show N - i = (N - (i + 1)) + 1 by omega, eu, if_neg hb]
theorem e15 {m : Nat} (h : m ≤ 15) : 10 ^ m ≤ 10 ^ 15 ∧ 0 < 10 ^ m := ⟨Nat.pow_le_pow_right (by omega) h, Nat.pow_pos (by omega)⟩
theorem tal_one {K : row} {i p : Nat} : talK (i + 1) K p = talK i K p + (if goK i K (16 + p) = 0 then 1 else 0) := rfl
