/-! ===== the class: its objects in the store ===== -/
def stkC (Γ : gam) (σ : sto) (q : Nat) : Prop := ∃ s : row, σ q = some (cI Γ 48 s)
/-- nothing outside lo .. hi has changed but laws' stacks (those of role 1) -/
def frC (Γ : gam) (ro : Nat → Nat) (lo hi : Nat) (σ σ' : sto) : Prop := (∀ q, (q < lo ∨ hi < q) → ro q ≠ 1 → σ' q = σ q) ∧ ∀ q, (q < lo ∨ hi < q) → ro q = 1 → stkC Γ σ q → stkC Γ σ' q
section FrC
variable {Γ : gam} {ro : Nat → Nat} {lo hi lo2 hi2 a q : Nat} {σ σ1 σ2 : sto} {e : va_E}
theorem frC.rf : frC Γ ro lo hi σ σ := ⟨fun _ _ _ => rfl, fun _ _ _ h => h⟩
theorem frC.tr (h1 : frC Γ ro lo hi σ σ1) (h2 : frC Γ ro lo hi σ1 σ2) : frC Γ ro lo hi σ σ2 := ⟨fun q hq hr => (h2.1 q hq hr).trans (h1.1 q hq hr), fun q hq hr hs => h2.2 q hq hr (h1.2 q hq hr hs)⟩
theorem frC.wk (h : frC Γ ro lo hi σ σ1) (h1 : hi < lo ∨ (lo2 ≤ lo ∧ hi ≤ hi2)) : frC Γ ro lo2 hi2 σ σ1 := ⟨fun q hq hr => h.1 q (by omega) hr, fun q hq hr hs => h.2 q (by omega) hr hs⟩
theorem frC.up (h : frC Γ ro lo hi σ σ1) (ha : lo ≤ a ∧ a ≤ hi) : frC Γ ro lo hi σ (sup σ1 a e) := by
  refine ⟨fun q hq hr => ?_, fun q hq hr hs => ?_⟩
  · have : q ≠ a := by omega
    simp only [sup, if_neg this]
    exact h.1 q hq hr
  · have : q ≠ a := by omega
    obtain ⟨s, e1⟩ := h.2 q hq hr hs
    exact ⟨s, by simp only [sup, if_neg this]; exact e1⟩
theorem frC.st {s : row} (h : frC Γ ro lo hi σ σ1) (ha : ro a = 1) : frC Γ ro lo hi σ (sup σ1 a (cI Γ 48 s)) := by
  refine ⟨fun q hq hr => ?_, fun q hq hr hs => ?_⟩
  · have : q ≠ a := fun z => hr (by rw [z]; exact ha)
    simp only [sup, if_neg this]
    exact h.1 q hq hr
  · by_cases z : q = a
    · exact ⟨s, by simp only [sup, if_pos z]⟩
    · obtain ⟨s, e1⟩ := h.2 q hq hr hs
      exact ⟨s, by simp only [sup, if_neg z]; exact e1⟩
end FrC
/-- the class's sign for a law's step -/
def trS (x : Int32) : Int32 := if 1000 ≤ x then x - 1000 else if x = 100 then -5 else if x = 101 then -3 else if x = 102 then -4 else if x = 103 then -1 else if x = 104 then -2 else if x = 18 then -6 else if x = 16 then -7 else if x = 17 then -8 else if x = 13 then -9 else if x = 14 then -10 else if x = 15 then -11 else if x = 10 then -12 else if x = 11 then -13 else -14
def LwAt (Γ : gam) (D : Nat) (ro : Nat → Nat) (σ : sto) (l : Nat) (cs : List Int32) : Prop := (D ≤ l ∧ ro l = 0 ∧ ro (l + 1) = 0 ∧ ro (l + 2) = 1) ∧ σ l = some (cO 3 [.ref (l + 1), .ref (l + 2)]) ∧ σ (l + 1) = some (cI Γ cs.length (fun j => cs.getD j 0)) ∧ stkC Γ σ (l + 2)
def LwV (Γ : gam) (D : Nat) (ro : Nat → Nat) (σ : sto) (K : row) (mn pl : Nat) (v : Value) : Prop := (K mn = 0 ∧ v = .null) ∨ (K mn ≠ 0 ∧ ∃ l, v = .ref l ∧ LwAt Γ D ro σ l ((codeK K mn pl).map trS))
/-- a beach stands at b, told by the row K -/
def BrAt (Γ : gam) (D : Nat) (ro : Nat → Nat) (σ : sto) (b : Nat) (K ag pa pf : row) (lm lt lw : Value) : Prop := (ro b = 0 ∧ ro (b + 1) = 0 ∧ ro (b + 2) = 0 ∧ ro (b + 3) = 0) ∧ σ b = some (cO 0 [.int (K 1), .int (K 2), .int (K 3), .int (K 0), .int (K 42), .ref (b + 1), .ref (b + 2), .ref (b + 3), lm, lt, lw]) ∧ σ (b + 1) = some (cI Γ 8 ag) ∧ σ (b + 2) = some (cI Γ 8 pa) ∧ σ (b + 3) = some (cI Γ 8 pf) ∧ LwV Γ D ro σ K 4 319 lm ∧ LwV Γ D ro σ K 5 1219 lt ∧ LwV Γ D ro σ K 6 2119 lw ∧ ∀ p, p < kP K → ag p = K (34 + p) ∧ pa p = K (43 + p) ∧ pf p = K (51 + p)
def BeAt (Γ : gam) (D : Nat) (ro : Nat → Nat) (σ : sto) (b : Nat) (K : row) : Prop := ∃ ag pa pf lm lt lw, BrAt Γ D ro σ b K ag pa pf lm lt lw
/-- seats stand at a -/
def SrAt (Γ : gam) (ro : Nat → Nat) (σ : sto) (a b : Nat) (w m : Int32) (ch co rw bk : row) : Prop := (ro a ≠ 1 ∧ ro (a + 1) ≠ 1 ∧ ro (a + 2) ≠ 1 ∧ ro (a + 3) ≠ 1 ∧ ro (a + 4) ≠ 1) ∧ σ a = some (cO 5 [.ref (a + 1), .ref (a + 2), .ref (a + 3), .ref (a + 4), .ref b, .int w, .int m]) ∧ σ (a + 1) = some (cI Γ 20 ch) ∧ σ (a + 2) = some (cI Γ 8 co) ∧ σ (a + 3) = some (cI Γ 8 rw) ∧ σ (a + 4) = some (cI Γ 8 bk)
def rS (K ch co rw bk : row) : Prop := (∀ p, p < kP K → co p = K (8 + p) ∧ rw p = K (16 + p) ∧ bk p = K (24 + p)) ∧ ∀ c w, c < kW K → w < kH K → ch (5 * c + w) = oI (sitK K (nI c) (nI w))
def SeAt (Γ : gam) (ro : Nat → Nat) (σ : sto) (a b : Nat) (w : Int32) (K : row) : Prop := ∃ ch co rw bk, SrAt Γ ro σ a b w (K 33) ch co rw bk ∧ rS K ch co rw bk
section Cls
variable {Γ : gam} {D : Nat} {ro : Nat → Nat} {lo hi a b l : Nat} {σ σ1 : sto} {w m : Int32} {K ag pa pf ch co rw bk : row} {lm lt lw : Value} {cs : List Int32}
theorem sr0 (h : SrAt Γ ro σ a b w m ch co rw bk) : σ a = some (cO 5 [.ref (a + 1), .ref (a + 2), .ref (a + 3), .ref (a + 4), .ref b, .int w, .int m]) := h.2.1
theorem sr1 (h : SrAt Γ ro σ a b w m ch co rw bk) : σ (a + 1) = some (cI Γ 20 ch) := h.2.2.1
theorem sr2 (h : SrAt Γ ro σ a b w m ch co rw bk) : σ (a + 2) = some (cI Γ 8 co) := h.2.2.2.1
theorem sr3 (h : SrAt Γ ro σ a b w m ch co rw bk) : σ (a + 3) = some (cI Γ 8 rw) := h.2.2.2.2.1
theorem sr4 (h : SrAt Γ ro σ a b w m ch co rw bk) : σ (a + 4) = some (cI Γ 8 bk) := h.2.2.2.2.2
theorem be0 (h : BrAt Γ D ro σ b K ag pa pf lm lt lw) : σ b = some (cO 0 [.int (K 1), .int (K 2), .int (K 3), .int (K 0), .int (K 42), .ref (b + 1), .ref (b + 2), .ref (b + 3), lm, lt, lw]) := h.2.1
theorem be1 (h : BrAt Γ D ro σ b K ag pa pf lm lt lw) : σ (b + 1) = some (cI Γ 8 ag) := h.2.2.1
theorem be2 (h : BrAt Γ D ro σ b K ag pa pf lm lt lw) : σ (b + 2) = some (cI Γ 8 pa) := h.2.2.2.1
theorem be3 (h : BrAt Γ D ro σ b K ag pa pf lm lt lw) : σ (b + 3) = some (cI Γ 8 pf) := h.2.2.2.2.1
theorem LwAt.fr (h : LwAt Γ D ro σ l cs) (hf : frC Γ ro lo hi σ σ1) (hD : hi < D) : LwAt Γ D ro σ1 l cs := by
  obtain ⟨⟨h1, h2, h3, h4⟩, h5, h6, h7⟩ := h
  exact ⟨⟨h1, h2, h3, h4⟩, (hf.1 _ (by omega) (by rw [h2]; decide)).trans h5, (hf.1 _ (by omega) (by rw [h3]; decide)).trans h6, hf.2 _ (by omega) h4 h7⟩
theorem LwV.fr {mn pl : Nat} {v : Value} (h : LwV Γ D ro σ K mn pl v) (hf : frC Γ ro lo hi σ σ1) (hD : hi < D) : LwV Γ D ro σ1 K mn pl v := by
  rcases h with h | ⟨h1, l, h2, h3⟩
  · exact Or.inl h
  · exact Or.inr ⟨h1, l, h2, h3.fr hf hD⟩
theorem BrAt.fr (h : BrAt Γ D ro σ b K ag pa pf lm lt lw) (hf : frC Γ ro lo hi σ σ1) (hD : hi < D) (hb : b + 3 < lo ∨ hi < b) : BrAt Γ D ro σ1 b K ag pa pf lm lt lw := by
  obtain ⟨⟨r0, r1, r2, r3⟩, h0, h1, h2, h3, h4, h5, h6, h7⟩ := h
  exact ⟨⟨r0, r1, r2, r3⟩, (hf.1 _ (by omega) (by rw [r0]; decide)).trans h0, (hf.1 _ (by omega) (by rw [r1]; decide)).trans h1, (hf.1 _ (by omega) (by rw [r2]; decide)).trans h2, (hf.1 _ (by omega) (by rw [r3]; decide)).trans h3, h4.fr hf hD, h5.fr hf hD, h6.fr hf hD, h7⟩
theorem BeAt.fr (h : BeAt Γ D ro σ b K) (hf : frC Γ ro lo hi σ σ1) (hD : hi < D) (hb : b + 3 < lo ∨ hi < b) : BeAt Γ D ro σ1 b K := by
  obtain ⟨ag, pa, pf, lm, lt, lw, h⟩ := h
  exact ⟨ag, pa, pf, lm, lt, lw, h.fr hf hD hb⟩
theorem SrAt.fr (h : SrAt Γ ro σ a b w m ch co rw bk) (hf : frC Γ ro lo hi σ σ1) (ha : a + 4 < lo ∨ hi < a) : SrAt Γ ro σ1 a b w m ch co rw bk := by
  obtain ⟨⟨r0, r1, r2, r3, r4⟩, h0, h1, h2, h3, h4⟩ := h
  exact ⟨⟨r0, r1, r2, r3, r4⟩, (hf.1 _ (by omega) r0).trans h0, (hf.1 _ (by omega) r1).trans h1, (hf.1 _ (by omega) r2).trans h2, (hf.1 _ (by omega) r3).trans h3, (hf.1 _ (by omega) r4).trans h4⟩
theorem SeAt.fr (h : SeAt Γ ro σ a b w K) (hf : frC Γ ro lo hi σ σ1) (ha : a + 4 < lo ∨ hi < a) : SeAt Γ ro σ1 a b w K := by
  obtain ⟨ch, co, rw, bk, h1, h2⟩ := h
  exact ⟨ch, co, rw, bk, h1.fr hf ha, h2⟩
theorem SrAt.s0 {b' : Nat} {w' m' : Int32} (h : SrAt Γ ro σ a b w m ch co rw bk) : SrAt Γ ro (sup σ a (cO 5 [.ref (a + 1), .ref (a + 2), .ref (a + 3), .ref (a + 4), .ref b', .int w', .int m'])) a b' w' m' ch co rw bk := ⟨h.1, sup_eq, sup_ne (by omega) (sr1 h), sup_ne (by omega) (sr2 h), sup_ne (by omega) (sr3 h), sup_ne (by omega) (sr4 h)⟩
theorem SrAt.s1 {f : row} (h : SrAt Γ ro σ a b w m ch co rw bk) : SrAt Γ ro (sup σ (a + 1) (cI Γ 20 f)) a b w m f co rw bk := ⟨h.1, sup_ne (by omega) (sr0 h), sup_eq, sup_ne (by omega) (sr2 h), sup_ne (by omega) (sr3 h), sup_ne (by omega) (sr4 h)⟩
theorem SrAt.s2 {f : row} (h : SrAt Γ ro σ a b w m ch co rw bk) : SrAt Γ ro (sup σ (a + 2) (cI Γ 8 f)) a b w m ch f rw bk := ⟨h.1, sup_ne (by omega) (sr0 h), sup_ne (by omega) (sr1 h), sup_eq, sup_ne (by omega) (sr3 h), sup_ne (by omega) (sr4 h)⟩
theorem SrAt.s3 {f : row} (h : SrAt Γ ro σ a b w m ch co rw bk) : SrAt Γ ro (sup σ (a + 3) (cI Γ 8 f)) a b w m ch co f bk := ⟨h.1, sup_ne (by omega) (sr0 h), sup_ne (by omega) (sr1 h), sup_ne (by omega) (sr2 h), sup_eq, sup_ne (by omega) (sr4 h)⟩
theorem SrAt.s4 {f : row} (h : SrAt Γ ro σ a b w m ch co rw bk) : SrAt Γ ro (sup σ (a + 4) (cI Γ 8 f)) a b w m ch co rw f := ⟨h.1, sup_ne (by omega) (sr0 h), sup_ne (by omega) (sr1 h), sup_ne (by omega) (sr2 h), sup_ne (by omega) (sr3 h), sup_eq⟩
end Cls
section ClsGo
variable {Γ : gam} {R : Room} {M : mth} {Q : qp} {cells slots pc : Nat} {lv : List (Option Value)} {st : List Value} {σ : sto} {n a b : Nat} {ro : Nat → Nat} {w m : Int32} {ch co rw bk : row}
theorem go_ss1 {j : Nat} {i x : Int32} (hR : SrAt Γ ro σ a b w m ch co rw bk) (hd : decode M.2.1 pc = .ok (.iastore, 1)) (hix : i = nI j ∧ j < 20) (kk : ∀ σ', SrAt Γ ro σ' a b w m (upd ch j x) co rw bk → frC Γ ro a (a + 4) σ σ' → Go Γ R M Q cells slots (pc + 1) lv st σ' n) : Go Γ R M Q cells slots pc lv (.int x :: .int i :: .ref (a + 1) :: st) σ n := go_iast hd (sr1 hR) hix (kk _ hR.s1 (frC.rf.up ⟨by omega, by omega⟩))
theorem go_ss2 {j : Nat} {i x : Int32} (hR : SrAt Γ ro σ a b w m ch co rw bk) (hd : decode M.2.1 pc = .ok (.iastore, 1)) (hix : i = nI j ∧ j < 8) (kk : ∀ σ', SrAt Γ ro σ' a b w m ch (upd co j x) rw bk → frC Γ ro a (a + 4) σ σ' → Go Γ R M Q cells slots (pc + 1) lv st σ' n) : Go Γ R M Q cells slots pc lv (.int x :: .int i :: .ref (a + 2) :: st) σ n := go_iast hd (sr2 hR) hix (kk _ hR.s2 (frC.rf.up ⟨by omega, by omega⟩))
theorem go_ss3 {j : Nat} {i x : Int32} (hR : SrAt Γ ro σ a b w m ch co rw bk) (hd : decode M.2.1 pc = .ok (.iastore, 1)) (hix : i = nI j ∧ j < 8) (kk : ∀ σ', SrAt Γ ro σ' a b w m ch co (upd rw j x) bk → frC Γ ro a (a + 4) σ σ' → Go Γ R M Q cells slots (pc + 1) lv st σ' n) : Go Γ R M Q cells slots pc lv (.int x :: .int i :: .ref (a + 3) :: st) σ n := go_iast hd (sr3 hR) hix (kk _ hR.s3 (frC.rf.up ⟨by omega, by omega⟩))
theorem go_ss4 {j : Nat} {i x : Int32} (hR : SrAt Γ ro σ a b w m ch co rw bk) (hd : decode M.2.1 pc = .ok (.iastore, 1)) (hix : i = nI j ∧ j < 8) (kk : ∀ σ', SrAt Γ ro σ' a b w m ch co rw (upd bk j x) → frC Γ ro a (a + 4) σ σ' → Go Γ R M Q cells slots (pc + 1) lv st σ' n) : Go Γ R M Q cells slots pc lv (.int x :: .int i :: .ref (a + 4) :: st) σ n := go_iast hd (sr4 hR) hix (kk _ hR.s4 (frC.rf.up ⟨by omega, by omega⟩))
theorem go_spb {ix b' : Nat} {C : String} (hl : fLk M.1.cls ix 5 4 (.object C) false) (hR : SrAt Γ ro σ a b w m ch co rw bk) (hd : decode M.2.1 pc = .ok (.putfield ix, 3)) (kk : ∀ σ', SrAt Γ ro σ' a b' w m ch co rw bk → frC Γ ro a (a + 4) σ σ' → Go Γ R M Q cells slots (pc + 3) lv st σ' n) : Go Γ R M Q cells slots pc lv (.ref b' :: .ref a :: st) σ n := go_putf hl hd (sr0 hR) (Nat.le_of_ble_eq_true rfl) rfl rfl rfl (kk _ hR.s0 (frC.rf.up ⟨by omega, by omega⟩))
theorem go_spw {ix : Nat} {x : Int32} (hl : fLk M.1.cls ix 5 5 .int false) (hR : SrAt Γ ro σ a b w m ch co rw bk) (hd : decode M.2.1 pc = .ok (.putfield ix, 3)) (kk : ∀ σ', SrAt Γ ro σ' a b x m ch co rw bk → frC Γ ro a (a + 4) σ σ' → Go Γ R M Q cells slots (pc + 3) lv st σ' n) : Go Γ R M Q cells slots pc lv (.int x :: .ref a :: st) σ n := go_putf hl hd (sr0 hR) (Nat.le_of_ble_eq_true rfl) rfl rfl rfl (kk _ hR.s0 (frC.rf.up ⟨by omega, by omega⟩))
theorem go_spm {ix : Nat} {x : Int32} (hl : fLk M.1.cls ix 5 6 .int false) (hR : SrAt Γ ro σ a b w m ch co rw bk) (hd : decode M.2.1 pc = .ok (.putfield ix, 3)) (kk : ∀ σ', SrAt Γ ro σ' a b w x ch co rw bk → frC Γ ro a (a + 4) σ σ' → Go Γ R M Q cells slots (pc + 3) lv st σ' n) : Go Γ R M Q cells slots pc lv (.int x :: .ref a :: st) σ n := go_putf hl hd (sr0 hR) (Nat.le_of_ble_eq_true rfl) rfl rfl rfl (kk _ hR.s0 (frC.rf.up ⟨by omega, by omega⟩))
end ClsGo
