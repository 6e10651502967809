/-! ===== array places told by naturals; the reference's object ===== -/
section GoIx
variable {Γ : gam} {R : Room} {M : mth} {Q : qp} {cells slots pc : Nat} {lv : List (Option Value)} {st : List Value} {σ : sto} {n : Nat}
theorem go_iald {a N j : Nat} {f : Nat → Int32} {i : Int32} (hd : decode M.2.1 pc = .ok (.iaload, 1)) (ho : σ a = some (cI Γ N f)) (hix : i = nI j ∧ j < N) (kk : Go Γ R M Q cells slots (pc + 1) lv (.int (f j) :: st) σ n) (hN : N < 2 ^ 31 := by decide) : Go Γ R M Q cells slots pc lv (.int i :: .ref a :: st) σ n := by
  obtain ⟨rfl, hj⟩ := hix
  refine go_iaload hd ho (vp_in_nI hj hN) ?_
  rw [nI_clamp (by omega)]
  exact kk
theorem go_iast {a N j : Nat} {f : Nat → Int32} {i x : Int32} (hd : decode M.2.1 pc = .ok (.iastore, 1)) (ho : σ a = some (cI Γ N f)) (hix : i = nI j ∧ j < N) (kk : Go Γ R M Q cells slots (pc + 1) lv st (sup σ a (cI Γ N (upd f j x))) n) (hN : N < 2 ^ 31 := by decide) : Go Γ R M Q cells slots pc lv (.int x :: .int i :: .ref a :: st) σ n := by
  obtain ⟨rfl, hj⟩ := hix
  refine go_iastore hd ho (vp_in_nI hj hN) ?_
  rw [nI_clamp (by omega)]
  exact kk
theorem go_lald {a N j : Nat} {f : Nat → Int64} {i : Int32} (hd : decode M.2.1 pc = .ok (.laload, 1)) (ho : σ a = some (cJ Γ N f)) (hix : i = nI j ∧ j < N) (kk : Go Γ R M Q cells slots (pc + 1) lv (.long (f j) :: st) σ n) (hN : N < 2 ^ 31 := by decide) : Go Γ R M Q cells slots pc lv (.int i :: .ref a :: st) σ n := by
  obtain ⟨rfl, hj⟩ := hix
  refine go_laload hd ho (vp_in_nI hj hN) ?_
  rw [nI_clamp (by omega)]
  exact kk
theorem go_last {a N j : Nat} {f : Nat → Int64} {i : Int32} {x : Int64} (hd : decode M.2.1 pc = .ok (.lastore, 1)) (ho : σ a = some (cJ Γ N f)) (hix : i = nI j ∧ j < N) (kk : Go Γ R M Q cells slots (pc + 1) lv st (sup σ a (cJ Γ N (vp_updL f j x))) n) (hN : N < 2 ^ 31 := by decide) : Go Γ R M Q cells slots pc lv (.long x :: .int i :: .ref a :: st) σ n := by
  obtain ⟨rfl, hj⟩ := hix
  refine go_lastore hd ho (vp_in_nI hj hN) ?_
  rw [nI_clamp (by omega)]
  exact kk
theorem go_zald {a N j : Nat} {f : Nat → Int32} {i : Int32} (hd : decode M.2.1 pc = .ok (.baload, 1)) (ho : σ a = some (cZ Γ N f)) (hix : i = nI j ∧ j < N) (kk : Go Γ R M Q cells slots (pc + 1) lv (.int (f j) :: st) σ n) (hN : N < 2 ^ 31 := by decide) : Go Γ R M Q cells slots pc lv (.int i :: .ref a :: st) σ n := by
  obtain ⟨rfl, hj⟩ := hix
  refine go_zaload hd ho (vp_in_nI hj hN) ?_
  rw [nI_clamp (by omega)]
  exact kk
theorem go_zast {a N j : Nat} {f : Nat → Int32} {i x : Int32} (hd : decode M.2.1 pc = .ok (.bastore, 1)) (ho : σ a = some (cZ Γ N f)) (hix : i = nI j ∧ j < N) (kk : Go Γ R M Q cells slots (pc + 1) lv st (sup σ a (cZ Γ N (upd f j (vp_nar .boolean x)))) n) (hN : N < 2 ^ 31 := by decide) : Go Γ R M Q cells slots pc lv (.int x :: .int i :: .ref a :: st) σ n := by
  obtain ⟨rfl, hj⟩ := hix
  refine go_zastore hd ho (vp_in_nI hj hN) ?_
  rw [nI_clamp (by omega)]
  exact kk
end GoIx
/-- two rows of arrays alike but in the places of L -/
def eqx (L : List Nat) (A B : Nat → row) : Prop := ∀ j, j ∉ L → B j = A j
theorem eqx.rf {L : List Nat} {A : Nat → row} : eqx L A A := fun _ _ => rfl
theorem eqx.tr {L : List Nat} {A B D : Nat → row} (h1 : eqx L A B) (h2 : eqx L B D) : eqx L A D := fun j hj => (h2 j hj).trans (h1 j hj)
theorem eqx.wk {L L' : List Nat} {A B : Nat → row} (h : eqx L A B) (hL : ∀ j ∈ L, j ∈ L') : eqx L' A B := fun j hj => h j (fun q => hj (hL j q))
def updA (A : Nat → row) (j : Nat) (f : row) : Nat → row := fun q => if q = j then f else A q
theorem eqx.up {L : List Nat} {A B : Nat → row} {j : Nat} {f : row} (h : eqx L A B) (hj : j ∈ L) : eqx L A (updA B j f) := fun q hq => by
  have : q ≠ j := fun z => hq (by rw [z]; exact hj)
  simp only [updA, if_neg this]
  exact h q hq
/-- the store is untouched outside the cells lo .. hi -/
def fr (lo hi : Nat) (σ σ' : sto) : Prop := ∀ q, (q < lo ∨ hi < q) → σ' q = σ q
theorem fr.rf {lo hi : Nat} {σ : sto} : fr lo hi σ σ := fun _ _ => rfl
theorem fr.tr {lo hi : Nat} {σ σ1 σ2 : sto} (h1 : fr lo hi σ σ1) (h2 : fr lo hi σ1 σ2) : fr lo hi σ σ2 := fun q hq => (h2 q hq).trans (h1 q hq)
theorem fr.up {lo hi a : Nat} {e : va_E} {σ σ1 : sto} (h : fr lo hi σ σ1) (ha : lo ≤ a ∧ a ≤ hi) : fr lo hi σ (sup σ1 a e) := fun q hq => by
  have : q ≠ a := by omega
  simp only [sup, if_neg this]
  exact h q hq
def mof (r : Nat) (F : row) : List Value := [.ref (r + 1), .ref (r + 2), .ref (r + 3), .ref (r + 4), .int (F 4), .ref (r + 5), .int (F 6), .int (F 7), .int (F 8), .int (F 9), .int (F 10), .int (F 11), .int (F 12), .int (F 13), .int (F 14), .int (F 15), .int (F 16), .int (F 17), .int (F 18), .ref (r + 6), .ref (r + 7), .ref (r + 8), .int (F 22), .ref (r + 9), .ref (r + 10), .ref (r + 11), .int (F 26), .ref (r + 12), .ref (r + 13), .ref (r + 14), .ref (r + 15), .ref (r + 16)]
/-- the reference's object stands at r: its numbers F, its row K, its other rows A, its trays' numbers Nm -/
def MoAt (Γ : gam) (σ : sto) (r : Nat) (F K : row) (A : Nat → row) (Nm : Nat → Int64) : Prop :=
  σ r = some (cO 8 (mof r F)) ∧ σ (r + 1) = some (cI Γ 3020 K) ∧ σ (r + 2) = some (cI Γ 3020 (A 2)) ∧ σ (r + 3) = some (cI Γ 9060 (A 3)) ∧ σ (r + 4) = some (cZ Γ 3 (A 4)) ∧ σ (r + 5) = some (cI Γ 900 (A 5)) ∧ σ (r + 6) = some (cI Γ 64 (A 6)) ∧ σ (r + 7) = some (cI Γ 5 (A 7)) ∧ σ (r + 8) = some (cI Γ 26 (A 8)) ∧ σ (r + 9) = some (cI Γ 8 (A 9)) ∧ σ (r + 10) = some (cI Γ 8 (A 10)) ∧ σ (r + 11) = some (cI Γ 234 (A 11)) ∧ σ (r + 12) = some (cI Γ 28 (A 12)) ∧ σ (r + 13) = some (cI Γ 224 (A 13)) ∧ σ (r + 14) = some (cI Γ 4 (A 14)) ∧ σ (r + 15) = some (cI Γ 4 (A 15)) ∧ σ (r + 16) = some (cJ Γ 120 Nm)
section Mo
variable {Γ : gam} {σ σ' : sto} {r : Nat} {F K : row} {A : Nat → row} {Nm : Nat → Int64}
theorem mo0 (h : MoAt Γ σ r F K A Nm) : σ r = some (cO 8 (mof r F)) := h.1
theorem mo1 (h : MoAt Γ σ r F K A Nm) : σ (r + 1) = some (cI Γ 3020 K) := h.2.1
theorem mo2 (h : MoAt Γ σ r F K A Nm) : σ (r + 2) = some (cI Γ 3020 (A 2)) := h.2.2.1
theorem mo3 (h : MoAt Γ σ r F K A Nm) : σ (r + 3) = some (cI Γ 9060 (A 3)) := h.2.2.2.1
theorem mo4 (h : MoAt Γ σ r F K A Nm) : σ (r + 4) = some (cZ Γ 3 (A 4)) := h.2.2.2.2.1
theorem mo5 (h : MoAt Γ σ r F K A Nm) : σ (r + 5) = some (cI Γ 900 (A 5)) := h.2.2.2.2.2.1
theorem mo6 (h : MoAt Γ σ r F K A Nm) : σ (r + 6) = some (cI Γ 64 (A 6)) := h.2.2.2.2.2.2.1
theorem mo7 (h : MoAt Γ σ r F K A Nm) : σ (r + 7) = some (cI Γ 5 (A 7)) := h.2.2.2.2.2.2.2.1
theorem mo8 (h : MoAt Γ σ r F K A Nm) : σ (r + 8) = some (cI Γ 26 (A 8)) := h.2.2.2.2.2.2.2.2.1
theorem mo9 (h : MoAt Γ σ r F K A Nm) : σ (r + 9) = some (cI Γ 8 (A 9)) := h.2.2.2.2.2.2.2.2.2.1
theorem mo10 (h : MoAt Γ σ r F K A Nm) : σ (r + 10) = some (cI Γ 8 (A 10)) := h.2.2.2.2.2.2.2.2.2.2.1
theorem mo11 (h : MoAt Γ σ r F K A Nm) : σ (r + 11) = some (cI Γ 234 (A 11)) := h.2.2.2.2.2.2.2.2.2.2.2.1
theorem mo12 (h : MoAt Γ σ r F K A Nm) : σ (r + 12) = some (cI Γ 28 (A 12)) := h.2.2.2.2.2.2.2.2.2.2.2.2.1
theorem mo13 (h : MoAt Γ σ r F K A Nm) : σ (r + 13) = some (cI Γ 224 (A 13)) := h.2.2.2.2.2.2.2.2.2.2.2.2.2.1
theorem mo14 (h : MoAt Γ σ r F K A Nm) : σ (r + 14) = some (cI Γ 4 (A 14)) := h.2.2.2.2.2.2.2.2.2.2.2.2.2.2.1
theorem mo15 (h : MoAt Γ σ r F K A Nm) : σ (r + 15) = some (cI Γ 4 (A 15)) := h.2.2.2.2.2.2.2.2.2.2.2.2.2.2.2.1
theorem mo16 (h : MoAt Γ σ r F K A Nm) : σ (r + 16) = some (cJ Γ 120 Nm) := h.2.2.2.2.2.2.2.2.2.2.2.2.2.2.2.2
theorem moEq (h : MoAt Γ σ r F K A Nm) (he : ∀ q, r ≤ q → q ≤ r + 16 → σ' q = σ q) : MoAt Γ σ' r F K A Nm := by
  refine ⟨(he r (by omega) (by omega)).trans (mo0 h), (he (r + 1) (by omega) (by omega)).trans (mo1 h), (he (r + 2) (by omega) (by omega)).trans (mo2 h), (he (r + 3) (by omega) (by omega)).trans (mo3 h), (he (r + 4) (by omega) (by omega)).trans (mo4 h), (he (r + 5) (by omega) (by omega)).trans (mo5 h), (he (r + 6) (by omega) (by omega)).trans (mo6 h), (he (r + 7) (by omega) (by omega)).trans (mo7 h), (he (r + 8) (by omega) (by omega)).trans (mo8 h), (he (r + 9) (by omega) (by omega)).trans (mo9 h), (he (r + 10) (by omega) (by omega)).trans (mo10 h), (he (r + 11) (by omega) (by omega)).trans (mo11 h), (he (r + 12) (by omega) (by omega)).trans (mo12 h), (he (r + 13) (by omega) (by omega)).trans (mo13 h), (he (r + 14) (by omega) (by omega)).trans (mo14 h), (he (r + 15) (by omega) (by omega)).trans (mo15 h), (he (r + 16) (by omega) (by omega)).trans (mo16 h)⟩
theorem moF {G : row} (h : MoAt Γ σ r F K A Nm) : MoAt Γ (sup σ r (cO 8 (mof r G))) r G K A Nm := ⟨sup_eq, sup_ne (by omega) (mo1 h), sup_ne (by omega) (mo2 h), sup_ne (by omega) (mo3 h), sup_ne (by omega) (mo4 h), sup_ne (by omega) (mo5 h), sup_ne (by omega) (mo6 h), sup_ne (by omega) (mo7 h), sup_ne (by omega) (mo8 h), sup_ne (by omega) (mo9 h), sup_ne (by omega) (mo10 h), sup_ne (by omega) (mo11 h), sup_ne (by omega) (mo12 h), sup_ne (by omega) (mo13 h), sup_ne (by omega) (mo14 h), sup_ne (by omega) (mo15 h), sup_ne (by omega) (mo16 h)⟩
theorem moK {G : row} (h : MoAt Γ σ r F K A Nm) : MoAt Γ (sup σ (r + 1) (cI Γ 3020 G)) r F G A Nm := ⟨sup_ne (by omega) (mo0 h), sup_eq, sup_ne (by omega) (mo2 h), sup_ne (by omega) (mo3 h), sup_ne (by omega) (mo4 h), sup_ne (by omega) (mo5 h), sup_ne (by omega) (mo6 h), sup_ne (by omega) (mo7 h), sup_ne (by omega) (mo8 h), sup_ne (by omega) (mo9 h), sup_ne (by omega) (mo10 h), sup_ne (by omega) (mo11 h), sup_ne (by omega) (mo12 h), sup_ne (by omega) (mo13 h), sup_ne (by omega) (mo14 h), sup_ne (by omega) (mo15 h), sup_ne (by omega) (mo16 h)⟩
theorem moA2 {g : row} (h : MoAt Γ σ r F K A Nm) : MoAt Γ (sup σ (r + 2) (cI Γ 3020 g)) r F K (updA A 2 g) Nm := ⟨sup_ne (by omega) (mo0 (A := A) h), sup_ne (by omega) (mo1 (A := A) h), sup_eq, sup_ne (by omega) (mo3 (A := A) h), sup_ne (by omega) (mo4 (A := A) h), sup_ne (by omega) (mo5 (A := A) h), sup_ne (by omega) (mo6 (A := A) h), sup_ne (by omega) (mo7 (A := A) h), sup_ne (by omega) (mo8 (A := A) h), sup_ne (by omega) (mo9 (A := A) h), sup_ne (by omega) (mo10 (A := A) h), sup_ne (by omega) (mo11 (A := A) h), sup_ne (by omega) (mo12 (A := A) h), sup_ne (by omega) (mo13 (A := A) h), sup_ne (by omega) (mo14 (A := A) h), sup_ne (by omega) (mo15 (A := A) h), sup_ne (by omega) (mo16 (A := A) h)⟩
theorem moA3 {g : row} (h : MoAt Γ σ r F K A Nm) : MoAt Γ (sup σ (r + 3) (cI Γ 9060 g)) r F K (updA A 3 g) Nm := ⟨sup_ne (by omega) (mo0 (A := A) h), sup_ne (by omega) (mo1 (A := A) h), sup_ne (by omega) (mo2 (A := A) h), sup_eq, sup_ne (by omega) (mo4 (A := A) h), sup_ne (by omega) (mo5 (A := A) h), sup_ne (by omega) (mo6 (A := A) h), sup_ne (by omega) (mo7 (A := A) h), sup_ne (by omega) (mo8 (A := A) h), sup_ne (by omega) (mo9 (A := A) h), sup_ne (by omega) (mo10 (A := A) h), sup_ne (by omega) (mo11 (A := A) h), sup_ne (by omega) (mo12 (A := A) h), sup_ne (by omega) (mo13 (A := A) h), sup_ne (by omega) (mo14 (A := A) h), sup_ne (by omega) (mo15 (A := A) h), sup_ne (by omega) (mo16 (A := A) h)⟩
theorem moA4 {g : row} (h : MoAt Γ σ r F K A Nm) : MoAt Γ (sup σ (r + 4) (cZ Γ 3 g)) r F K (updA A 4 g) Nm := ⟨sup_ne (by omega) (mo0 (A := A) h), sup_ne (by omega) (mo1 (A := A) h), sup_ne (by omega) (mo2 (A := A) h), sup_ne (by omega) (mo3 (A := A) h), sup_eq, sup_ne (by omega) (mo5 (A := A) h), sup_ne (by omega) (mo6 (A := A) h), sup_ne (by omega) (mo7 (A := A) h), sup_ne (by omega) (mo8 (A := A) h), sup_ne (by omega) (mo9 (A := A) h), sup_ne (by omega) (mo10 (A := A) h), sup_ne (by omega) (mo11 (A := A) h), sup_ne (by omega) (mo12 (A := A) h), sup_ne (by omega) (mo13 (A := A) h), sup_ne (by omega) (mo14 (A := A) h), sup_ne (by omega) (mo15 (A := A) h), sup_ne (by omega) (mo16 (A := A) h)⟩
theorem moA5 {g : row} (h : MoAt Γ σ r F K A Nm) : MoAt Γ (sup σ (r + 5) (cI Γ 900 g)) r F K (updA A 5 g) Nm := ⟨sup_ne (by omega) (mo0 (A := A) h), sup_ne (by omega) (mo1 (A := A) h), sup_ne (by omega) (mo2 (A := A) h), sup_ne (by omega) (mo3 (A := A) h), sup_ne (by omega) (mo4 (A := A) h), sup_eq, sup_ne (by omega) (mo6 (A := A) h), sup_ne (by omega) (mo7 (A := A) h), sup_ne (by omega) (mo8 (A := A) h), sup_ne (by omega) (mo9 (A := A) h), sup_ne (by omega) (mo10 (A := A) h), sup_ne (by omega) (mo11 (A := A) h), sup_ne (by omega) (mo12 (A := A) h), sup_ne (by omega) (mo13 (A := A) h), sup_ne (by omega) (mo14 (A := A) h), sup_ne (by omega) (mo15 (A := A) h), sup_ne (by omega) (mo16 (A := A) h)⟩
theorem moA6 {g : row} (h : MoAt Γ σ r F K A Nm) : MoAt Γ (sup σ (r + 6) (cI Γ 64 g)) r F K (updA A 6 g) Nm := ⟨sup_ne (by omega) (mo0 (A := A) h), sup_ne (by omega) (mo1 (A := A) h), sup_ne (by omega) (mo2 (A := A) h), sup_ne (by omega) (mo3 (A := A) h), sup_ne (by omega) (mo4 (A := A) h), sup_ne (by omega) (mo5 (A := A) h), sup_eq, sup_ne (by omega) (mo7 (A := A) h), sup_ne (by omega) (mo8 (A := A) h), sup_ne (by omega) (mo9 (A := A) h), sup_ne (by omega) (mo10 (A := A) h), sup_ne (by omega) (mo11 (A := A) h), sup_ne (by omega) (mo12 (A := A) h), sup_ne (by omega) (mo13 (A := A) h), sup_ne (by omega) (mo14 (A := A) h), sup_ne (by omega) (mo15 (A := A) h), sup_ne (by omega) (mo16 (A := A) h)⟩
theorem moA7 {g : row} (h : MoAt Γ σ r F K A Nm) : MoAt Γ (sup σ (r + 7) (cI Γ 5 g)) r F K (updA A 7 g) Nm := ⟨sup_ne (by omega) (mo0 (A := A) h), sup_ne (by omega) (mo1 (A := A) h), sup_ne (by omega) (mo2 (A := A) h), sup_ne (by omega) (mo3 (A := A) h), sup_ne (by omega) (mo4 (A := A) h), sup_ne (by omega) (mo5 (A := A) h), sup_ne (by omega) (mo6 (A := A) h), sup_eq, sup_ne (by omega) (mo8 (A := A) h), sup_ne (by omega) (mo9 (A := A) h), sup_ne (by omega) (mo10 (A := A) h), sup_ne (by omega) (mo11 (A := A) h), sup_ne (by omega) (mo12 (A := A) h), sup_ne (by omega) (mo13 (A := A) h), sup_ne (by omega) (mo14 (A := A) h), sup_ne (by omega) (mo15 (A := A) h), sup_ne (by omega) (mo16 (A := A) h)⟩
theorem moA8 {g : row} (h : MoAt Γ σ r F K A Nm) : MoAt Γ (sup σ (r + 8) (cI Γ 26 g)) r F K (updA A 8 g) Nm := ⟨sup_ne (by omega) (mo0 (A := A) h), sup_ne (by omega) (mo1 (A := A) h), sup_ne (by omega) (mo2 (A := A) h), sup_ne (by omega) (mo3 (A := A) h), sup_ne (by omega) (mo4 (A := A) h), sup_ne (by omega) (mo5 (A := A) h), sup_ne (by omega) (mo6 (A := A) h), sup_ne (by omega) (mo7 (A := A) h), sup_eq, sup_ne (by omega) (mo9 (A := A) h), sup_ne (by omega) (mo10 (A := A) h), sup_ne (by omega) (mo11 (A := A) h), sup_ne (by omega) (mo12 (A := A) h), sup_ne (by omega) (mo13 (A := A) h), sup_ne (by omega) (mo14 (A := A) h), sup_ne (by omega) (mo15 (A := A) h), sup_ne (by omega) (mo16 (A := A) h)⟩
theorem moA9 {g : row} (h : MoAt Γ σ r F K A Nm) : MoAt Γ (sup σ (r + 9) (cI Γ 8 g)) r F K (updA A 9 g) Nm := ⟨sup_ne (by omega) (mo0 (A := A) h), sup_ne (by omega) (mo1 (A := A) h), sup_ne (by omega) (mo2 (A := A) h), sup_ne (by omega) (mo3 (A := A) h), sup_ne (by omega) (mo4 (A := A) h), sup_ne (by omega) (mo5 (A := A) h), sup_ne (by omega) (mo6 (A := A) h), sup_ne (by omega) (mo7 (A := A) h), sup_ne (by omega) (mo8 (A := A) h), sup_eq, sup_ne (by omega) (mo10 (A := A) h), sup_ne (by omega) (mo11 (A := A) h), sup_ne (by omega) (mo12 (A := A) h), sup_ne (by omega) (mo13 (A := A) h), sup_ne (by omega) (mo14 (A := A) h), sup_ne (by omega) (mo15 (A := A) h), sup_ne (by omega) (mo16 (A := A) h)⟩
theorem moA10 {g : row} (h : MoAt Γ σ r F K A Nm) : MoAt Γ (sup σ (r + 10) (cI Γ 8 g)) r F K (updA A 10 g) Nm := ⟨sup_ne (by omega) (mo0 (A := A) h), sup_ne (by omega) (mo1 (A := A) h), sup_ne (by omega) (mo2 (A := A) h), sup_ne (by omega) (mo3 (A := A) h), sup_ne (by omega) (mo4 (A := A) h), sup_ne (by omega) (mo5 (A := A) h), sup_ne (by omega) (mo6 (A := A) h), sup_ne (by omega) (mo7 (A := A) h), sup_ne (by omega) (mo8 (A := A) h), sup_ne (by omega) (mo9 (A := A) h), sup_eq, sup_ne (by omega) (mo11 (A := A) h), sup_ne (by omega) (mo12 (A := A) h), sup_ne (by omega) (mo13 (A := A) h), sup_ne (by omega) (mo14 (A := A) h), sup_ne (by omega) (mo15 (A := A) h), sup_ne (by omega) (mo16 (A := A) h)⟩
theorem moA11 {g : row} (h : MoAt Γ σ r F K A Nm) : MoAt Γ (sup σ (r + 11) (cI Γ 234 g)) r F K (updA A 11 g) Nm := ⟨sup_ne (by omega) (mo0 (A := A) h), sup_ne (by omega) (mo1 (A := A) h), sup_ne (by omega) (mo2 (A := A) h), sup_ne (by omega) (mo3 (A := A) h), sup_ne (by omega) (mo4 (A := A) h), sup_ne (by omega) (mo5 (A := A) h), sup_ne (by omega) (mo6 (A := A) h), sup_ne (by omega) (mo7 (A := A) h), sup_ne (by omega) (mo8 (A := A) h), sup_ne (by omega) (mo9 (A := A) h), sup_ne (by omega) (mo10 (A := A) h), sup_eq, sup_ne (by omega) (mo12 (A := A) h), sup_ne (by omega) (mo13 (A := A) h), sup_ne (by omega) (mo14 (A := A) h), sup_ne (by omega) (mo15 (A := A) h), sup_ne (by omega) (mo16 (A := A) h)⟩
theorem moA12 {g : row} (h : MoAt Γ σ r F K A Nm) : MoAt Γ (sup σ (r + 12) (cI Γ 28 g)) r F K (updA A 12 g) Nm := ⟨sup_ne (by omega) (mo0 (A := A) h), sup_ne (by omega) (mo1 (A := A) h), sup_ne (by omega) (mo2 (A := A) h), sup_ne (by omega) (mo3 (A := A) h), sup_ne (by omega) (mo4 (A := A) h), sup_ne (by omega) (mo5 (A := A) h), sup_ne (by omega) (mo6 (A := A) h), sup_ne (by omega) (mo7 (A := A) h), sup_ne (by omega) (mo8 (A := A) h), sup_ne (by omega) (mo9 (A := A) h), sup_ne (by omega) (mo10 (A := A) h), sup_ne (by omega) (mo11 (A := A) h), sup_eq, sup_ne (by omega) (mo13 (A := A) h), sup_ne (by omega) (mo14 (A := A) h), sup_ne (by omega) (mo15 (A := A) h), sup_ne (by omega) (mo16 (A := A) h)⟩
theorem moA13 {g : row} (h : MoAt Γ σ r F K A Nm) : MoAt Γ (sup σ (r + 13) (cI Γ 224 g)) r F K (updA A 13 g) Nm := ⟨sup_ne (by omega) (mo0 (A := A) h), sup_ne (by omega) (mo1 (A := A) h), sup_ne (by omega) (mo2 (A := A) h), sup_ne (by omega) (mo3 (A := A) h), sup_ne (by omega) (mo4 (A := A) h), sup_ne (by omega) (mo5 (A := A) h), sup_ne (by omega) (mo6 (A := A) h), sup_ne (by omega) (mo7 (A := A) h), sup_ne (by omega) (mo8 (A := A) h), sup_ne (by omega) (mo9 (A := A) h), sup_ne (by omega) (mo10 (A := A) h), sup_ne (by omega) (mo11 (A := A) h), sup_ne (by omega) (mo12 (A := A) h), sup_eq, sup_ne (by omega) (mo14 (A := A) h), sup_ne (by omega) (mo15 (A := A) h), sup_ne (by omega) (mo16 (A := A) h)⟩
theorem moA14 {g : row} (h : MoAt Γ σ r F K A Nm) : MoAt Γ (sup σ (r + 14) (cI Γ 4 g)) r F K (updA A 14 g) Nm := ⟨sup_ne (by omega) (mo0 (A := A) h), sup_ne (by omega) (mo1 (A := A) h), sup_ne (by omega) (mo2 (A := A) h), sup_ne (by omega) (mo3 (A := A) h), sup_ne (by omega) (mo4 (A := A) h), sup_ne (by omega) (mo5 (A := A) h), sup_ne (by omega) (mo6 (A := A) h), sup_ne (by omega) (mo7 (A := A) h), sup_ne (by omega) (mo8 (A := A) h), sup_ne (by omega) (mo9 (A := A) h), sup_ne (by omega) (mo10 (A := A) h), sup_ne (by omega) (mo11 (A := A) h), sup_ne (by omega) (mo12 (A := A) h), sup_ne (by omega) (mo13 (A := A) h), sup_eq, sup_ne (by omega) (mo15 (A := A) h), sup_ne (by omega) (mo16 (A := A) h)⟩
theorem moA15 {g : row} (h : MoAt Γ σ r F K A Nm) : MoAt Γ (sup σ (r + 15) (cI Γ 4 g)) r F K (updA A 15 g) Nm := ⟨sup_ne (by omega) (mo0 (A := A) h), sup_ne (by omega) (mo1 (A := A) h), sup_ne (by omega) (mo2 (A := A) h), sup_ne (by omega) (mo3 (A := A) h), sup_ne (by omega) (mo4 (A := A) h), sup_ne (by omega) (mo5 (A := A) h), sup_ne (by omega) (mo6 (A := A) h), sup_ne (by omega) (mo7 (A := A) h), sup_ne (by omega) (mo8 (A := A) h), sup_ne (by omega) (mo9 (A := A) h), sup_ne (by omega) (mo10 (A := A) h), sup_ne (by omega) (mo11 (A := A) h), sup_ne (by omega) (mo12 (A := A) h), sup_ne (by omega) (mo13 (A := A) h), sup_ne (by omega) (mo14 (A := A) h), sup_eq, sup_ne (by omega) (mo16 (A := A) h)⟩
theorem moN {g : Nat → Int64} (h : MoAt Γ σ r F K A Nm) : MoAt Γ (sup σ (r + 16) (cJ Γ 120 g)) r F K A g := ⟨sup_ne (by omega) (mo0 h), sup_ne (by omega) (mo1 h), sup_ne (by omega) (mo2 h), sup_ne (by omega) (mo3 h), sup_ne (by omega) (mo4 h), sup_ne (by omega) (mo5 h), sup_ne (by omega) (mo6 h), sup_ne (by omega) (mo7 h), sup_ne (by omega) (mo8 h), sup_ne (by omega) (mo9 h), sup_ne (by omega) (mo10 h), sup_ne (by omega) (mo11 h), sup_ne (by omega) (mo12 h), sup_ne (by omega) (mo13 h), sup_ne (by omega) (mo14 h), sup_ne (by omega) (mo15 h), sup_eq⟩
theorem mof4 {x : Int32} : (mof r F).set 4 (.int x) = mof r (upd F 4 x) := rfl
theorem mof6 {x : Int32} : (mof r F).set 6 (.int x) = mof r (upd F 6 x) := rfl
theorem mof7 {x : Int32} : (mof r F).set 7 (.int x) = mof r (upd F 7 x) := rfl
theorem mof8 {x : Int32} : (mof r F).set 8 (.int x) = mof r (upd F 8 x) := rfl
theorem mof9 {x : Int32} : (mof r F).set 9 (.int x) = mof r (upd F 9 x) := rfl
theorem mof10 {x : Int32} : (mof r F).set 10 (.int x) = mof r (upd F 10 x) := rfl
theorem mof11 {x : Int32} : (mof r F).set 11 (.int x) = mof r (upd F 11 x) := rfl
theorem mof12 {x : Int32} : (mof r F).set 12 (.int x) = mof r (upd F 12 x) := rfl
theorem mof13 {x : Int32} : (mof r F).set 13 (.int x) = mof r (upd F 13 x) := rfl
theorem mof14 {x : Int32} : (mof r F).set 14 (.int x) = mof r (upd F 14 x) := rfl
theorem mof15 {x : Int32} : (mof r F).set 15 (.int x) = mof r (upd F 15 x) := rfl
theorem mof16 {x : Int32} : (mof r F).set 16 (.int x) = mof r (upd F 16 x) := rfl
theorem mof17 {x : Int32} : (mof r F).set 17 (.int x) = mof r (upd F 17 x) := rfl
theorem mof18 {x : Int32} : (mof r F).set 18 (.int x) = mof r (upd F 18 x) := rfl
theorem mof22 {x : Int32} : (mof r F).set 22 (.int x) = mof r (upd F 22 x) := rfl
theorem mof26 {x : Int32} : (mof r F).set 26 (.int x) = mof r (upd F 26 x) := rfl
end Mo
