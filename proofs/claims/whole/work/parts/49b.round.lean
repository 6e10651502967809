/-! ===== rounds: who is still awaited ===== -/
theorem an_or (x a b : Int32) : x &&& (a ^^^ (-1)) &&& (b ^^^ (-1)) = x &&& ((a ||| b) ^^^ (-1)) := by
  apply Int32.toBitVec_inj.mp
  simp only [Int32.toBitVec_and, Int32.toBitVec_xor, Int32.toBitVec_or]
  apply BitVec.eq_of_getLsbD_eq
  intro i hi
  have hm : ((-1 : Int32).toBitVec).getLsbD i = true := by
    have key : ∀ j : Fin 32, ((-1 : Int32).toBitVec).getLsbD j.val = true := by decide
    exact key ⟨i, hi⟩
  simp only [BitVec.getLsbD_and, BitVec.getLsbD_xor, BitVec.getLsbD_or, hm]
  cases x.toBitVec.getLsbD i <;> cases a.toBitVec.getLsbD i <;> cases b.toBitVec.getLsbD i <;> rfl
theorem or_0 (b : Int32) : (0 : Int32) ||| b = b := by simp
/-- who has been met ahead of round i -/
def mpK (K : row) (c : Int32) : Nat → Int32
  | 0 => 0
  | m + 1 => metK K c m
theorem mp_met {K : row} {c : Int32} : ∀ i, mpK K c i ||| bitO (sitK (rdI c i K) c 0) = metK K c i
  | 0 => by rw [mpK, or_0]; rfl
  | i + 1 => rfl
theorem tak_sitd {K : row} {p : Nat} {c : Int32} (h1 : K (16 + p) = -1) (h2 : K (8 + p) = c) (h3 : K (24 + p) = -1) : takK K p c = sitdK K p c := by
  unfold takK
  split
  · rename_i hf
    unfold sitdK
    rw [hf]
    funext j
    by_cases e : j = 24 + p
    · rw [e, pk_us, h3]
    · rw [pk_un e]
      by_cases e2 : j = 8 + p
      · rw [e2, pk_us, h2]
      · rw [pk_un e2]
        by_cases e3 : j = 16 + p
        · rw [e3, pk_us, h1]; rfl
        · rw [pk_un e3]
  · rfl
theorem gS_rdA {K : row} {d : Nat} (h : gS K) (h8 : kP K ≤ 8) (h5 : kH K ≤ 5) (hd : d < kW K) : gS (rdA K (nI d)) := by
  unfold rdA
  split
  · exact h
  · rename_i p hp
    obtain ⟨a1, ⟨w, a2, a3⟩, a4, -⟩ := fm_some hp
    have hs : sameB K (riseK K p (-1)).1 := riseK_same h8 (by omega)
    have hu : K (16 + p) ≠ -1 := by rw [a3]; exact nI_ne1 (by omega)
    rw [← tak_sitd (rise_m1 h8 h5 (by omega)) (by rw [rise_e h8 (by omega) (by omega) (by omega)]; exact a4) (rise_24 h8 (by omega))]
    exact gS_tak (by rw [hs.P]; exact h8) (by rw [hs.H]; exact h5) (by rw [hs.P]; exact a1) (gS_rise h8 h5 a1 h hu) (by rw [hs.W]; exact hd)
theorem rdI_gS {K : row} {d : Nat} (h : gS K) (h8 : kP K ≤ 8) (h5 : kH K ≤ 5) (hd : d < kW K) : ∀ m, sameB K (rdI (nI d) m K) ∧ gS (rdI (nI d) m K)
  | 0 => ⟨sameB.rf, h⟩
  | m + 1 => by
    obtain ⟨h1, h2⟩ := rdI_gS h h8 h5 hd m
    have s1 : sameB K (rdA (rdI (nI d) m K) (nI d)) := h1.tr (rdA_same (by rw [h1.P]; exact h8))
    exact ⟨h1.tr (rdS_same (by rw [h1.P]; exact h8)), gS_min (gS_rdA h2 (by rw [h1.P]; exact h8) (by rw [h1.H]; exact h5) (by rw [h1.W]; exact hd)) (by rw [s1.P]; exact h8) (by rw [s1.H]; exact h5)⟩
