/-! ===== the class: trays ===== -/
def TyAt (Γ : gam) (ro : Nat → Nat) (σ : sto) (a : Nat) (g m : row) (Nm : Nat → Int64) : Prop := (∀ q, a + 81 ≤ q → q ≤ a + 88 → ro q ≠ 1) ∧ ∀ t, t < 4 → σ (a + 81 + 2 * t) = some (cO 6 [.int (g t), .int (m t), .ref (a + 81 + 2 * t + 1)]) ∧ ∃ fN : Nat → Int64, σ (a + 81 + 2 * t + 1) = some (cJ Γ 30 fN) ∧ ∀ j, j < 30 → fN j = Nm (30 * t + j)
abbrev tS (a q : Nat) : Prop := a + 81 ≤ q ∧ q ≤ a + 88
section Ty
variable {Γ : gam} {ro : Nat → Nat} {S : Nat → Prop} {a : Nat} {σ σ1 : sto} {g m : row} {Nm : Nat → Int64}
theorem TyAt.fs (h : TyAt Γ ro σ a g m Nm) (hf : frS Γ ro S σ σ1) (hS : ∀ q, a + 81 ≤ q → q ≤ a + 88 → ¬ S q) : TyAt Γ ro σ1 a g m Nm := by
  refine ⟨h.1, fun t ht => ?_⟩
  obtain ⟨h1, fN, h2, h3⟩ := h.2 t ht
  exact ⟨hf.at (hS _ (by omega) (by omega)) (h.1 _ (by omega) (by omega)) h1, fN, hf.at (hS _ (by omega) (by omega)) (h.1 _ (by omega) (by omega)) h2, h3⟩
/-- one tray alone has changed -/
theorem TyAt.one (h : TyAt Γ ro σ a g m Nm) {t : Nat} (ht : t < 4) {g2 m2 : row} {N2 : Nat → Int64} {fN : Nat → Int64} (hq : ∀ q, q ≠ a + 81 + 2 * t → q ≠ a + 81 + 2 * t + 1 → σ1 q = σ q) (h1 : σ1 (a + 81 + 2 * t) = some (cO 6 [.int (g2 t), .int (m2 t), .ref (a + 81 + 2 * t + 1)])) (h2 : σ1 (a + 81 + 2 * t + 1) = some (cJ Γ 30 fN)) (h3 : ∀ j, j < 30 → fN j = N2 (30 * t + j)) (e1 : ∀ q, q < 4 → q ≠ t → g2 q = g q ∧ m2 q = m q) (e2 : ∀ j, j < 120 → (j < 30 * t ∨ 30 * t + 30 ≤ j) → N2 j = Nm j) : TyAt Γ ro σ1 a g2 m2 N2 := by
  refine ⟨h.1, fun q hq4 => ?_⟩
  by_cases e : q = t
  · subst e
    exact ⟨h1, fN, h2, h3⟩
  · obtain ⟨g1, f2, g3, g4⟩ := h.2 q hq4
    rw [(e1 q hq4 e).1, (e1 q hq4 e).2]
    refine ⟨(hq _ (by omega) (by omega)).trans g1, f2, (hq _ (by omega) (by omega)).trans g3, fun j hj => ?_⟩
    rw [g4 j hj]
    exact (e2 _ (by omega) (by omega)).symm
end Ty
theorem cut_bv (x : BitVec 64) (k : Nat) (hk : k ≤ 64) (h0 : 0 < k) : (x <<< (64 - k)).sshiftRight (64 - k) = (x.setWidth k).signExtend 64 := by
  apply BitVec.eq_of_getLsbD_eq
  intro i hi
  have hm : (x <<< (64 - k)).msb = (x.setWidth k).msb := by
    rw [BitVec.msb_eq_getLsbD_last, BitVec.msb_eq_getLsbD_last, BitVec.getLsbD_shiftLeft, BitVec.getLsbD_setWidth]
    have e : (64 : Nat) - 1 - (64 - k) = k - 1 := by omega
    have e1 : ¬ ((64 : Nat) - 1 < 64 - k) := by omega
    have e2 : k - 1 < k := by omega
    rw [e, decide_eq_false e1, decide_eq_true e2]
    rfl
  rw [BitVec.getLsbD_sshiftRight, BitVec.getLsbD_signExtend, BitVec.getLsbD_setWidth, hm, BitVec.getLsbD_shiftLeft]
  have h3 : ¬ 64 ≤ i := by omega
  rw [decide_eq_false h3, decide_eq_true hi]
  by_cases h : i < k
  · have e : 64 - k + i - (64 - k) = i := by omega
    have e1 : 64 - k + i < 64 := by omega
    have e2 : ¬ (64 - k + i < 64 - k) := by omega
    rw [if_pos e1, if_pos h, e, decide_eq_true e1, decide_eq_false e2, decide_eq_true h]
    rfl
  · have h2 : ¬ (64 - k + i < 64) := by omega
    rw [if_neg h, if_neg h2]
    rfl
theorem cut_nar (x : BitVec 64) (k : Nat) (hk : k ≤ 32) : BitVec.signExtend 64 (BitVec.signExtend 32 (BitVec.signExtend k (BitVec.signExtend 32 x))) = (x.setWidth k).signExtend 64 := by
  rw [BitVec.signExtend_eq_setWidth_of_le x (by omega), BitVec.signExtend_eq_setWidth_of_le _ hk, BitVec.setWidth_setWidth_of_le _ hk]
  apply BitVec.eq_of_toInt_eq
  rw [BitVec.toInt_signExtend_of_le (by omega), BitVec.toInt_signExtend_of_le hk, BitVec.toInt_signExtend_of_le (by omega)]
theorem cut_t0 (v : Int64) : (v.toInt32.toInt8.toInt32).toInt64.toBitVec = (v.toBitVec.setWidth 8).signExtend 64 := by
  simp only [Int32.toBitVec_toInt64, Int8.toBitVec_toInt32, Int32.toBitVec_toInt8, Int64.toBitVec_toInt32]
  exact cut_nar _ 8 (by omega)
theorem cut_t1 (v : Int64) : (v.toInt32.toInt16.toInt32).toInt64.toBitVec = (v.toBitVec.setWidth 16).signExtend 64 := by
  simp only [Int32.toBitVec_toInt64, Int16.toBitVec_toInt32, Int32.toBitVec_toInt16, Int64.toBitVec_toInt32]
  exact cut_nar _ 16 (by omega)
theorem cut_t2 (v : Int64) : (v.toInt32).toInt64.toBitVec = (v.toBitVec.setWidth 32).signExtend 64 := by
  simp only [Int32.toBitVec_toInt64, Int64.toBitVec_toInt32]
  rw [BitVec.signExtend_eq_setWidth_of_le v.toBitVec (by omega)]
theorem cut_0 (v : Int64) : (v.toInt32.toInt8.toInt32).toInt64 = cutV 0 v := by
  apply Int64.toBitVec_inj.mp
  have e : cutV 0 v = (v <<< (56 : Int64)) >>> (56 : Int64) := by
    unfold cutV
    rw [show (((64 : Int32) - (8 : Int32) <<< ((0 : Int32) &&& 31)).toInt64 &&& 63) = 56 from by decide]
  rw [e, Int64.toBitVec_shiftRight, Int64.toBitVec_shiftLeft]
  have e1 : ((56 : Int64).toBitVec.smod 64) = 56#64 := by decide
  rw [e1, cut_t0]
  exact (cut_bv v.toBitVec 8 (by omega) (by omega)).symm
theorem cut_1 (v : Int64) : (v.toInt32.toInt16.toInt32).toInt64 = cutV 1 v := by
  apply Int64.toBitVec_inj.mp
  have e : cutV 1 v = (v <<< (48 : Int64)) >>> (48 : Int64) := by
    unfold cutV
    rw [show (((64 : Int32) - (8 : Int32) <<< ((1 : Int32) &&& 31)).toInt64 &&& 63) = 48 from by decide]
  rw [e, Int64.toBitVec_shiftRight, Int64.toBitVec_shiftLeft]
  have e1 : ((48 : Int64).toBitVec.smod 64) = 48#64 := by decide
  rw [e1, cut_t1]
  exact (cut_bv v.toBitVec 16 (by omega) (by omega)).symm
theorem cut_2 (v : Int64) : v.toInt32.toInt64 = cutV 2 v := by
  apply Int64.toBitVec_inj.mp
  have e : cutV 2 v = (v <<< (32 : Int64)) >>> (32 : Int64) := by
    unfold cutV
    rw [show (((64 : Int32) - (8 : Int32) <<< ((2 : Int32) &&& 31)).toInt64 &&& 63) = 32 from by decide]
  rw [e, Int64.toBitVec_shiftRight, Int64.toBitVec_shiftLeft]
  have e1 : ((32 : Int64).toBitVec.smod 64) = 32#64 := by decide
  rw [e1, cut_t2]
  exact (cut_bv v.toBitVec 32 (by omega) (by omega)).symm
theorem cut_3 (v : Int64) : v = cutV 3 v := by
  have e : cutV 3 v = (v <<< (0 : Int64)) >>> (0 : Int64) := by
    unfold cutV
    rw [show (((64 : Int32) - (8 : Int32) <<< ((3 : Int32) &&& 31)).toInt64 &&& 63) = 0 from by decide]
  rw [e]
  apply Int64.toBitVec_inj.mp
  rw [Int64.toBitVec_shiftRight, Int64.toBitVec_shiftLeft]
  have e1 : ((0 : Int64).toBitVec.smod 64) = 0#64 := by decide
  rw [e1]
  simp
theorem zer_in {Nm : Nat → Int64} {t j : Nat} (hj : j < 30) : zerN Nm t 30 (30 * t + j) = 0 := if_pos (by omega)
theorem zer_out {Nm : Nat → Int64} {t j : Nat} (h : j < 30 * t ∨ 30 * t + 30 ≤ j) : zerN Nm t 30 j = Nm j := if_neg (by omega)
