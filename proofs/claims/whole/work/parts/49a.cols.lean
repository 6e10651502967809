/-! ===== columns don't meddle with one another ===== -/
theorem fwd_e {c : Int32} {j : Nat} (hj : j < 16 ∨ 24 ≤ j) : ∀ {m w free : Nat} {K : row} {k : Nat}, kP K ≤ 8 → (fwd c m w free K k).1 j = K j
  | 0, _, _, _, _, _ => rfl
  | m + 1, w, free, K, k, h8 => by
    rw [fwd]
    split
    · split
      · rename_i p hp
        have hl := (sitK_lt hp).1
        have hs : sameB K (upd K (16 + p) (nI free)) := sameB.rf.up (by omega)
        rw [fwd_e hj (by rw [hs.P]; exact h8)]
        exact pk_un (by omega)
      · rfl
    · exact fwd_e hj h8
theorem rise_e {K : row} {p j : Nat} {s : Int32} (h8 : kP K ≤ 8) (hp : p < 8) (hj : j < 16 ∨ 24 ≤ j) (hne : j ≠ 24 + p) : (riseK K p s).1 j = K j := by
  unfold riseK
  have hs : sameB K (upd (upd K (16 + p) (-1)) (24 + p) s) := (sameB.rf.up (by omega)).up (by omega)
  rw [fwd_e hj (by rw [hs.P]; exact h8), pk_un (by omega), pk_un (by omega)]
theorem rise_24 {K : row} {p : Nat} {s : Int32} (h8 : kP K ≤ 8) (hp : p < 8) : (riseK K p s).1 (24 + p) = s := by
  unfold riseK
  have hs : sameB K (upd (upd K (16 + p) (-1)) (24 + p) s) := (sameB.rf.up (by omega)).up (by omega)
  rw [fwd_e (Or.inr (by omega)) (by rw [hs.P]; exact h8), pk_us]
theorem fwd_m1 {c : Int32} {z : Nat} : ∀ {m w free : Nat} {K : row} {k : Nat}, kP K ≤ 8 → w + m < 100 → K (16 + z) = -1 → (fwd c m w free K k).1 (16 + z) = -1
  | 0, _, _, _, _, _, _, h => h
  | m + 1, w, free, K, k, h8, hw, h => by
    rw [fwd]
    split
    · split
      · rename_i p hp
        have hl := sitK_lt hp
        have hs : sameB K (upd K (16 + p) (nI free)) := sameB.rf.up (by omega)
        have hne : z ≠ p := fun e => by
          subst e
          rw [h] at hl
          exact nI_ne1 (by omega) hl.2.1.symm
        exact fwd_m1 (by rw [hs.P]; exact h8) (by omega) (by rw [pk_un (by omega)]; exact h)
      · exact h
    · exact fwd_m1 h8 (by omega) h
theorem rise_m1 {K : row} {p : Nat} {s : Int32} (h8 : kP K ≤ 8) (h5 : kH K ≤ 5) (hp : p < 8) : (riseK K p s).1 (16 + p) = -1 := by
  unfold riseK
  have hs : sameB K (upd (upd K (16 + p) (-1)) (24 + p) s) := (sameB.rf.up (by omega)).up (by omega)
  by_cases hw : (K (16 + p)).toNatClampNeg + 1 ≤ 5
  · exact fwd_m1 (by rw [hs.P]; exact h8) (by omega) (by rw [pk_un (by omega), pk_us])
  · rw [show kH K - ((K (16 + p)).toNatClampNeg + 1) = 0 by omega, fwd]
    show upd (upd K (16 + p) (-1)) (24 + p) s (16 + p) = -1
    rw [pk_un (by omega), pk_us]
theorem rise_up {K : row} {p z : Nat} {s : Int32} (h8 : kP K ≤ 8) (h5 : kH K ≤ 5) (hp : p < 8) (h : K (16 + z) = -1) (hz : z < 8) : (riseK K p s).1 (16 + z) = -1 := by
  unfold riseK
  have hs : sameB K (upd (upd K (16 + p) (-1)) (24 + p) s) := (sameB.rf.up (by omega)).up (by omega)
  have hm : upd (upd K (16 + p) (-1)) (24 + p) s (16 + z) = -1 := by
    rw [pk_un (by omega)]
    by_cases e : z = p
    · subst e; exact pk_us
    · rw [pk_un (by omega)]; exact h
  by_cases hw : (K (16 + p)).toNatClampNeg + 1 ≤ 5
  · exact fwd_m1 (by rw [hs.P]; exact h8) (by omega) hm
  · rw [show kH K - ((K (16 + p)).toNatClampNeg + 1) = 0 by omega, fwd]; exact hm
/-- both say the same of a column -/
def colE (c : Int32) (K K1 : row) : Prop := sameB K K1 ∧ K1 33 = K 33 ∧ (∀ z, z < 8 → K1 (8 + z) = K (8 + z)) ∧ ∀ z, z < kP K → K (8 + z) = c → K1 (16 + z) = K (16 + z) ∧ K1 (24 + z) = K (24 + z)
section Col
variable {c : Int32} {K K1 K2 : row}
theorem colE.rf : colE c K K := ⟨sameB.rf, rfl, fun _ _ => rfl, fun _ _ _ => ⟨rfl, rfl⟩⟩
theorem colE.tr (h : colE c K K1) (h8 : kP K ≤ 8) (h2 : colE c K1 K2) : colE c K K2 := ⟨h.1.tr h2.1, h2.2.1.trans h.2.1, fun z hz => (h2.2.2.1 z hz).trans (h.2.2.1 z hz), fun z hz hc => by
  have a := h.2.2.2 z hz hc
  have b := h2.2.2.2 z (by rw [h.1.P]; exact hz) (by rw [h.2.2.1 z (by omega)]; exact hc)
  exact ⟨b.1.trans a.1, b.2.trans a.2⟩⟩
theorem sameB.sy (h : sameB K K1) : sameB K1 K := fun j hj => (h j hj).symm
theorem colE.sy (h : colE c K K1) (h8 : kP K ≤ 8) : colE c K1 K := ⟨h.1.sy, h.2.1.symm, fun z hz => (h.2.2.1 z hz).symm, fun z hz hc => by
  rw [h.1.P] at hz
  rw [h.2.2.1 z (by omega)] at hc
  exact ⟨(h.2.2.2 z hz hc).1.symm, (h.2.2.2 z hz hc).2.symm⟩⟩
theorem colE.sit (h : colE c K K1) (h8 : kP K ≤ 8) (w : Int32) : sitK K1 c w = sitK K c w := by
  unfold sitK
  rw [h.1.P]
  have key : ∀ m i, i + m ≤ kP K → fnd (fun p => decide (K1 (16 + p) = w ∧ K1 (8 + p) = c ∧ w ≠ -1)) i m = fnd (fun p => decide (K (16 + p) = w ∧ K (8 + p) = c ∧ w ≠ -1)) i m := by
    intro m
    induction m with
    | zero => intro i _; rfl
    | succ m ih =>
      intro i hi
      have e : (decide (K1 (16 + i) = w ∧ K1 (8 + i) = c ∧ w ≠ -1)) = (decide (K (16 + i) = w ∧ K (8 + i) = c ∧ w ≠ -1)) := by
        rw [h.2.2.1 i (by omega), decide_eq_decide]
        by_cases hc : K (8 + i) = c
        · rw [(h.2.2.2 i (by omega) hc).1]
        · exact ⟨fun x => absurd x.2.1 hc, fun x => absurd x.2.1 hc⟩
      rw [fnd, fnd, ih (i + 1) (by omega), e]
  exact key _ _ (by omega)
theorem colE.cms (h : colE c K K1) (h8 : kP K ≤ 8) (f w : Nat) : comes K1 c f w = comes K c f w := by
  unfold comes
  rw [h.sit h8]
  split
  · rfl
  · rw [h.1.asl, com_s h.1 h.2.1]
theorem colE.up16 (h : colE c K K1) (h8 : kP K ≤ 8) {p : Nat} (hp : p < 8) (x : Int32) : colE c (upd K (16 + p) x) (upd K1 (16 + p) x) := by
  refine ⟨fun j hj => ?_, ?_, fun z hz => ?_, fun z hz hc => ?_⟩
  · rw [pk_un (by omega), pk_un (by omega)]; exact h.1 j hj
  · rw [pk_un (by omega), pk_un (by omega)]; exact h.2.1
  · rw [pk_un (by omega), pk_un (by omega)]; exact h.2.2.1 z hz
  · have hz' : z < kP K := by simpa only [kP, pk_un (show (3 : Nat) ≠ 16 + p by omega)] using hz
    have ha := h.2.2.2 z hz' (by rw [pk_un (by omega)] at hc; exact hc)
    by_cases e : z = p
    · subst e
      rw [pk_us, pk_us, pk_un (by omega), pk_un (by omega)]
      exact ⟨rfl, ha.2⟩
    · by_cases e2 : 24 + z = 16 + p
      · omega
      · rw [pk_un (by omega), pk_un (by omega), pk_un e2, pk_un e2]; exact ha
theorem colE.up24 (h : colE c K K1) {p : Nat} (hp : p < 8) (h8 : kP K ≤ 8) (x : Int32) : colE c (upd K (24 + p) x) (upd K1 (24 + p) x) := by
  refine ⟨fun j hj => ?_, ?_, fun z hz => ?_, fun z hz hc => ?_⟩
  · rw [pk_un (by omega), pk_un (by omega)]; exact h.1 j hj
  · rw [pk_un (by omega), pk_un (by omega)]; exact h.2.1
  · rw [pk_un (by omega), pk_un (by omega)]; exact h.2.2.1 z hz
  · have hz' : z < kP K := by simpa only [kP, pk_un (show (3 : Nat) ≠ 24 + p by omega)] using hz
    have ha := h.2.2.2 z hz' (by rw [pk_un (by omega)] at hc; exact hc)
    rw [pk_un (by omega), pk_un (by omega)]
    by_cases e : z = p
    · subst e
      rw [pk_us, pk_us]
      exact ⟨ha.1, rfl⟩
    · rw [pk_un (by omega), pk_un (by omega)]; exact ha
theorem colE.up8 (h : colE c K K1) {p : Nat} (hp : p < 8) (hc : K (8 + p) = c) (h8 : kP K ≤ 8) : colE c (upd K (8 + p) c) (upd K1 (8 + p) c) := by
  have e1 : upd K (8 + p) c = K := by
    funext j
    by_cases e : j = 8 + p
    · rw [e, pk_us, hc]
    · rw [pk_un e]
  have e2 : upd K1 (8 + p) c = K1 := by
    funext j
    by_cases e : j = 8 + p
    · rw [e, pk_us, h.2.2.1 p hp, hc]
    · rw [pk_un e]
  rw [e1, e2]
  exact h
end Col
theorem fwd_cong {c : Int32} : ∀ {m w free : Nat} {K K1 : row} {k : Nat}, kP K ≤ 8 → colE c K K1 → colE c (fwd c m w free K k).1 (fwd c m w free K1 k).1
  | 0, _, _, _, _, _, _, h => h
  | m + 1, w, free, K, K1, k, h8, h => by
    rw [fwd, fwd, h.cms h8, h.sit h8]
    split
    · split
      · rename_i p hp
        have hl := (sitK_lt hp).1
        have hs : sameB K (upd K (16 + p) (nI free)) := sameB.rf.up (by omega)
        exact fwd_cong (by rw [hs.P]; exact h8) (h.up16 h8 (by omega) _)
      · exact h
    · exact fwd_cong h8 h
theorem rise_cong {c : Int32} {K K1 : row} {p : Nat} {s : Int32} (h8 : kP K ≤ 8) (hp : p < kP K) (hc : K (8 + p) = c) (h : colE c K K1) : colE c (riseK K p s).1 (riseK K1 p s).1 := by
  unfold riseK
  rw [h.2.2.1 p (by omega), (h.2.2.2 p hp hc).1, h.1.H, hc]
  have hs : sameB K (upd (upd K (16 + p) (-1)) (24 + p) s) := (sameB.rf.up (by omega)).up (by omega)
  refine fwd_cong (by rw [hs.P]; exact h8) ((h.up16 h8 (by omega) _).up24 (by omega) ?_ _)
  rw [(sameB.rf.up (K := K) (j := 16 + p) (x := -1) (by omega)).P]
  exact h8
theorem fwd_out {c c2 : Int32} (hne : c2 ≠ c) : ∀ {m w free : Nat} {K : row} {k : Nat}, kP K ≤ 8 → colE c K (fwd c2 m w free K k).1
  | 0, _, _, _, _, _ => colE.rf
  | m + 1, w, free, K, k, h8 => by
    rw [fwd]
    split
    · split
      · rename_i p hp
        have hl := sitK_lt hp
        have hs : sameB K (upd K (16 + p) (nI free)) := sameB.rf.up (by omega)
        have h1 : colE c K (upd K (16 + p) (nI free)) := ⟨hs, pk_un (by omega), fun z hz => pk_un (by omega), fun z hz hc => by
          have e : z ≠ p := fun e => hne (by rw [← hc, ← hl.2.2.1, e])
          exact ⟨pk_un (by omega), pk_un (by omega)⟩⟩
        exact h1.tr h8 (fwd_out hne (by rw [hs.P]; exact h8))
      · exact colE.rf
    · exact fwd_out hne h8
theorem rise_out {c : Int32} {K : row} {p : Nat} {s : Int32} (h8 : kP K ≤ 8) (hp : p < 8) (hc : K (8 + p) ≠ c) : colE c K (riseK K p s).1 := by
  unfold riseK
  have hs : sameB K (upd (upd K (16 + p) (-1)) (24 + p) s) := (sameB.rf.up (by omega)).up (by omega)
  have h1 : colE c K (upd (upd K (16 + p) (-1)) (24 + p) s) := ⟨hs, by rw [pk_un (by omega), pk_un (by omega)], fun z hz => by rw [pk_un (by omega), pk_un (by omega)], fun z hz hc2 => by
    have e : z ≠ p := fun e => hc (by rw [← e]; exact hc2)
    exact ⟨by rw [pk_un (by omega), pk_un (by omega)], by rw [pk_un (by omega), pk_un (by omega)]⟩⟩
  exact h1.tr h8 (fwd_out hc (by rw [hs.P]; exact h8))
theorem free_cong {c : Int32} {K K1 : row} (h8 : kP K ≤ 8) (h : colE c K K1) : freeK K1 c = freeK K c := by
  unfold freeK
  rw [h.1.H]
  have key : ∀ m, lastF K1 c m = lastF K c m := by
    intro m
    induction m with
    | zero => rfl
    | succ m ih => rw [lastF, lastF, h.sit h8, ih]
  exact key _
theorem sitd_cong {c : Int32} {K K1 : row} {p : Nat} (h8 : kP K ≤ 8) (hp : p < kP K) (hc : K (8 + p) = c) (h : colE c K K1) : colE c (sitdK K p c) (sitdK K1 p c) := by
  unfold sitdK
  rw [free_cong h8 h]
  have s1 : sameB K (upd K (16 + p) (oI (freeK K c))) := sameB.rf.up (by omega)
  have s2 : sameB K (upd (upd K (16 + p) (oI (freeK K c))) (8 + p) c) := s1.up (by omega)
  exact ((h.up16 h8 (by omega) _).up8 (by omega) (by rw [pk_un (by omega)]; exact hc) (by rw [s1.P]; exact h8)).up24 (by omega) (by rw [s2.P]; exact h8) _
theorem sitd_out {c : Int32} {K : row} {p : Nat} (h8 : kP K ≤ 8) (hp : p < 8) (hc : K (8 + p) ≠ c) : colE c K (sitdK K p (K (8 + p))) := by
  refine ⟨sitdK_same hp, sitd_hi hp (by omega), fun z hz => ?_, fun z hz hc2 => ?_⟩
  · unfold sitdK
    rw [pk_un (by omega)]
    by_cases e : z = p
    · rw [e, pk_us]
    · rw [pk_un (by omega), pk_un (by omega)]
  · have e : z ≠ p := fun e => hc (by rw [← e]; exact hc2)
    unfold sitdK
    exact ⟨by rw [pk_un (by omega), pk_un (by omega), pk_un (by omega)], by rw [pk_un (by omega), pk_un (by omega), pk_un (by omega)]⟩
theorem down_cong {c m : Int32} : ∀ {j p : Nat} {K K1 : row}, kP K ≤ 8 → p + j ≤ kP K → colE c K K1 → colE c (downK m j p K) (downK m j p K1)
  | 0, _, _, _, _, _, h => h
  | j + 1, p, K, K1, h8, hp, h => by
    rw [downK, downK]
    by_cases hc : K (8 + p) = c
    · have e8 := h.2.2.1 p (by omega)
      have ha := h.2.2.2 p (by omega) hc
      have eu : upK K1 p = upK K p := by simp only [upK, ha.1]
      rw [eu, ha.2, e8, hc, free_cong h8 h]
      split
      · have hs : sameB K (sitdK K p c) := sitdK_same (by omega)
        exact down_cong (by rw [hs.P]; exact h8) (by rw [hs.P]; omega) (sitd_cong h8 (by omega) hc h)
      · exact down_cong h8 (by omega) h
    · have st : ∀ L : row, kP L ≤ 8 → p < kP L → L (8 + p) ≠ c → ∀ (q : Prop) [Decidable q], colE c L (if q then sitdK L p (L (8 + p)) else L) := fun L l8 lp lc q _ => by
        split
        · exact sitd_out l8 (by omega) lc
        · exact colE.rf
      have hc1 : K1 (8 + p) ≠ c := by rw [h.2.2.1 p (by omega)]; exact hc
      have e1 := st K h8 (by omega) hc (upK K p = true ∧ K (24 + p) ≠ -1 ∧ K (24 + p) ≤ m ∧ freeK K (K (8 + p)) ≠ none)
      have e2 := st K1 (by rw [h.1.P]; exact h8) (by rw [h.1.P]; omega) hc1 (upK K1 p = true ∧ K1 (24 + p) ≠ -1 ∧ K1 (24 + p) ≤ m ∧ freeK K1 (K1 (8 + p)) ≠ none)
      have h2 := ((e1.sy h8).tr (by rw [e1.1.P]; exact h8) h).tr (by rw [e1.1.P]; exact h8) e2
      exact down_cong (by rw [e1.1.P]; exact h8) (by rw [e1.1.P]; omega) h2
theorem plan_cong {c m : Int32} : ∀ {j p : Nat} {K K1 : row}, kP K ≤ 8 → p + j ≤ kP K → colE c K K1 → colE c (planK m j p K) (planK m j p K1)
  | 0, _, _, _, _, _, h => h
  | j + 1, p, K, K1, h8, hp, h => by
    rw [planK, planK]
    by_cases hc : K (8 + p) = c
    · have ha := h.2.2.2 p (by omega) hc
      have eu : upK K1 p = upK K p := by simp only [upK, ha.1]
      rw [eu, h.1.asl, h.1 (43 + p) (by omega), h.1 (51 + p) (by omega)]
      split
      · have hs : sameB K (riseK K p (m + K (51 + p))).1 := riseK_same h8 (by omega)
        exact plan_cong (by rw [hs.P]; exact h8) (by rw [hs.P]; omega) (rise_cong h8 (by omega) hc h)
      · exact plan_cong h8 (by omega) h
    · have st : ∀ L : row, kP L ≤ 8 → p < kP L → L (8 + p) ≠ c → ∀ (s : Int32) (q : Prop) [Decidable q], colE c L (if q then (riseK L p s).1 else L) := fun L l8 lp lc s q _ => by
        split
        · exact rise_out l8 (by omega) lc
        · exact colE.rf
      have hc1 : K1 (8 + p) ≠ c := by rw [h.2.2.1 p (by omega)]; exact hc
      have e1 := st K h8 (by omega) hc (m + K (51 + p)) (K (43 + p) = m ∧ upK K p = false ∧ aslK K p = false)
      have e2 := st K1 (by rw [h.1.P]; exact h8) (by rw [h.1.P]; omega) hc1 (m + K1 (51 + p)) (K1 (43 + p) = m ∧ upK K1 p = false ∧ aslK K1 p = false)
      have h2 := ((e1.sy h8).tr (by rw [e1.1.P]; exact h8) h).tr (by rw [e1.1.P]; exact h8) e2
      exact plan_cong (by rw [e1.1.P]; exact h8) (by rw [e1.1.P]; omega) h2
theorem wet_cong {c t : Int32} {j p : Nat} {K : row} (h8 : kP K ≤ 8) : colE c K (wetL t j p K) := ⟨wetL_same, wetL_e 33 (by omega), fun z hz => wetL_e _ (by omega), fun z hz _ => ⟨wetL_e _ (by omega), wetL_e _ (by omega)⟩⟩
theorem min_cong {c : Int32} {K K1 : row} (h8 : kP K ≤ 8) (h : colE c K K1) : colE c (minK K) (minK K1) := by
  have hd : colE c (dryK K) (dryK K1) := by
    unfold dryK
    rw [h.2.1, h.1.P]
    have hs : sameB K (downK (K 33) (kP K) 0 K) := downK_same (by omega)
    exact plan_cong (by rw [hs.P]; exact h8) (by rw [hs.P]; omega) (down_cong h8 (by omega) h)
  have s1 := dry_same h8
  have s2 := dry_same (K := K1) (by rw [h.1.P]; exact h8)
  have w1 : colE c (dryK K) (wetL (tideK (dryK K) (K 33)) (kP K) 0 (dryK K)) := wet_cong (by rw [s1.P]; exact h8)
  have w2 : colE c (dryK K1) (wetL (tideK (dryK K1) (K1 33)) (kP K1) 0 (dryK K1)) := wet_cong (by rw [s2.P, h.1.P]; exact h8)
  have h3 := ((w1.sy (by rw [s1.P]; exact h8)).tr (by rw [w1.1.P, s1.P]; exact h8) hd).tr (by rw [w1.1.P, s1.P]; exact h8) w2
  show colE c (upd (wetL (tideK (dryK K) (K 33)) (kP K) 0 (dryK K)) 33 (wetL (tideK (dryK K) (K 33)) (kP K) 0 (dryK K) 33 + 1)) (upd (wetL (tideK (dryK K1) (K1 33)) (kP K1) 0 (dryK K1)) 33 (wetL (tideK (dryK K1) (K1 33)) (kP K1) 0 (dryK K1) 33 + 1))
  have hA8 : kP (wetL (tideK (dryK K) (K 33)) (kP K) 0 (dryK K)) ≤ 8 := by rw [w1.1.P, s1.P]; exact h8
  generalize wetL (tideK (dryK K) (K 33)) (kP K) 0 (dryK K) = A at h3 hA8 ⊢
  generalize wetL (tideK (dryK K1) (K1 33)) (kP K1) 0 (dryK K1) = B at h3 ⊢
  refine ⟨fun j hj => ?_, by rw [pk_us, pk_us, h3.2.1], fun z hz => by rw [pk_un (by omega), pk_un (by omega)]; exact h3.2.2.1 z hz, fun z hz hc => ?_⟩
  · by_cases e : j = 33
    · omega
    · rw [pk_un e, pk_un e]; exact h3.1 j hj
  · have hz' : z < kP A := by simpa only [kP, pk_un (show (3 : Nat) ≠ 33 by omega)] using hz
    rw [pk_un (by omega)] at hc
    rw [pk_un (by omega), pk_un (by omega), pk_un (by omega), pk_un (by omega)]
    exact h3.2.2.2 z hz' hc
theorem go_cong {c : Int32} : ∀ {m : Nat} {K K1 : row}, kP K ≤ 8 → colE c K K1 → colE c (goK m K) (goK m K1)
  | 0, _, _, _, h => h
  | m + 1, K, K1, h8, h => by
    rw [goK, goK]
    exact go_cong (by rw [(minK_same h8).P]; exact h8) (min_cong h8 h)
