/-! ===== the law's round: what holds at its head ===== -/
abbrev uL_law : mth := (yL_law, cL_law, 8, (Option.some Jvm.ClassFile.FieldType.boolean), [])
/-- the script: a cell that was there first, an int array -/
def scA (Γ : gam) (b L : Nat) (xs : row) : Prop := b < (gH Γ).size ∧ ∃ cell : Cell, (gH Γ)[b]? = some cell ∧ (∀ k, cell.vm ≠ .statics k) ∧ cell.cls = gA Γ 6 ∧ cell.vm ≠ .unknown ∧ cell.slots.size = L ∧ ∀ j : Nat, j < L → cell.slots[j]? = some (.int (xs j))
theorem scA.vx {Γ : gam} {b L : Nat} {xs : row} {s : State} (h : scA Γ b L xs) (hK : Kn Γ s) (hlo : lowS Γ s) : va_X b L xs s s.heap := by
  obtain ⟨h1, cell, h2, h3, h4, h5, h6, h7⟩ := h
  obtain ⟨k, k1, comp, k2⟩ := hK.2.2.1.2.2.2.2
  exact ⟨cell, (hlo.2 b h1).trans h2, ⟨h3, k, by rw [h4]; exact k1, comp, k2⟩, h5, h6, h7⟩
section ScrS
variable {Γ : gam} {R : Room} {M : mth} {Q : qp} {cells slots pc : Nat} {lv : List (Option Value)} {st : List Value} {σ : sto} {n b L : Nat} {xs : row}
theorem go_iaB {j : Nat} {i : Int32} (hd : decode M.2.1 pc = .ok (.iaload, 1)) (ho : scA Γ b L xs) (hix : i = nI j ∧ j < L) (kk : Go Γ R M Q cells slots (pc + 1) lv (.int (xs j) :: st) σ n) (hN : L < 2 ^ 31 := by decide) : Go Γ R M Q cells slots pc lv (.int i :: .ref b :: st) σ n := by
  obtain ⟨rfl, hj⟩ := hix
  intro p e s m args below meth c H locs ls C W0 S0 L0
  obtain ⟨⟨hx, hb, hml, hown, hts⟩, hr, hlk, hnm, htb, htr, hK, hlo⟩ := id C
  refine va_sld hx hb (ho.vx hK hlo) (Nat.lt_of_lt_of_le ho.1 hlo.1) (fun z => Nat.not_le.mpr ho.1 z) S0 (vp_in_nI hj hN) hd ?_
  rw [nI_clamp (by omega)]
  exact kk p e s m args below meth c H locs ls C W0 S0 L0
theorem go_alB (hd : decode M.2.1 pc = .ok (.arraylength, 1)) (ho : scA Γ b L xs) (kk : Go Γ R M Q cells slots (pc + 1) lv (.int (nI L) :: st) σ n) : Go Γ R M Q cells slots pc lv (.ref b :: st) σ n := by
  intro p e s m args below meth c H locs ls C W0 S0 L0
  obtain ⟨⟨hx, hb, hml, hown, hts⟩, hr, hlk, hnm, htb, htr, hK, hlo⟩ := id C
  exact va_slen hx hb (ho.vx hK hlo) (Nat.lt_of_lt_of_le ho.1 hlo.1) (fun z => Nat.not_le.mpr ho.1 z) S0 hd (kk p e s m args below meth c H locs ls C W0 S0 L0)
end ScrS
def LC (Γ : gam) (σ : sto) (n b a L : Nat) (xs : row) (ro : Nat → Nat) (K G : row) (im : Nat → Option Nat) (A : Nat → row) (Nm : Nat → Int64) (KI : Nat → row) : Prop := (b < a ∧ a + 131 < n ∧ ro b ≠ 1) ∧ scA Γ b L xs ∧ (∃ fo, σ (a + 131) = some (cJ Γ 1 fo)) ∧ ClI Γ σ a ro K G im A Nm KI
/-- at the head of the law's loop -/
def LI (Γ : gam) (σ : sto) (n b a L : Nat) (xs : row) : Prop := ∃ (ro : Nat → Nat) (F K G : row) (im : Nat → Option Nat) (A : Nat → row) (Nm : Nat → Int64) (KI : Nat → row), LC Γ σ n b a L xs ro K G im A Nm KI ∧ RfI Γ σ (a + 114) F K G im A Nm KI
/-- behind the class's half of a round -/
def LwQ (Γ : gam) (n b a L : Nat) (xs : row) (ro : Nat → Nat) (F KR K G : row) (im : Nat → Option Nat) (A : Nat → row) (Nm : Nat → Int64) (KI : Nat → row) (t : Int32) (v : Int64) (r9 : Int32) (σ : sto) (n' : Nat) : Prop := r9 = t ∧ n ≤ n' ∧ LC Γ σ n' b a L xs ro K G im A Nm KI ∧ (∃ fo, σ (a + 131) = some (cJ Γ 1 fo) ∧ (t = 0 → fo 0 = v)) ∧ MoAt Γ σ (a + 114) F KR A Nm
section LcS
variable {Γ : gam} {σ σ1 : sto} {n n2 b a L : Nat} {xs : row} {ro : Nat → Nat} {F KR K K2 G : row} {im : Nat → Option Nat} {A AR : Nat → row} {Nm NR : Nat → Int64} {KI : Nat → row} {S : Nat → Prop}
theorem LC.wn (h : LC Γ σ n b a L xs ro K G im A Nm KI) (hn : n ≤ n2) : LC Γ σ n2 b a L xs ro K G im A Nm KI := ⟨⟨h.1.1, by have := h.1.2.1; omega, h.1.2.2⟩, h.2⟩
theorem LC.mo (h : LC Γ σ n b a L xs ro K G im A Nm KI) (hm : MoAt Γ σ (a + 114) F KR AR NR) (hf : frS Γ ro S σ σ1) (hS : ∀ q, S q → a ≤ q ∧ (q < a + 114 ∨ a + 130 < q)) : MoAt Γ σ1 (a + 114) F KR AR NR := moEq hm (fun q x1 x2 => hf.1 q (fun x3 => by have := hS q x3; omega) (h.2.2.2.2.1 q (by omega) (by omega)))
theorem LC.fr (h : LC Γ σ n b a L xs ro K G im A Nm KI) (hf : frS Γ ro S σ σ1) (hS : ∀ q, S q → a ≤ q ∧ q ≠ a + 131) (hc : ClI Γ σ1 a ro K2 G im A Nm KI) : LC Γ σ1 n b a L xs ro K2 G im A Nm KI := by
  obtain ⟨h1, h2, ⟨fo, h3⟩, h4⟩ := h
  exact ⟨h1, h2, ⟨fo, hf.at (fun x => by have := hS _ x; omega) (h4.2.1 _ (by omega) (by omega)) h3⟩, hc⟩
theorem LC.out {f : Nat → Int64} (h : LC Γ σ n b a L xs ro K G im A Nm KI) : LC Γ (sup σ (a + 131) (cJ Γ 1 f)) n b a L xs ro K G im A Nm KI := by
  obtain ⟨h1, h2, h3, h4⟩ := h
  have hf : frS Γ ro (fun q => q = a + 131) σ (sup σ (a + 131) (cJ Γ 1 f)) := frS.rf.up rfl
  exact ⟨h1, h2, ⟨f, sup_eq⟩, h4.fs hf (fun q x => by omega)⟩
theorem mo_out {f : Nat → Int64} (hm : MoAt Γ σ (a + 114) F KR AR NR) : MoAt Γ (sup σ (a + 131) (cJ Γ 1 f)) (a + 114) F KR AR NR := moEq hm (fun q x1 x2 => sup_ne (by omega) rfl)
/-- a question's wrapper -/
theorem lc_q {t v : Int32} {r9 : Int32} {σ2 : sto} (h : LC Γ σ n b a L xs ro K G im A Nm KI) (hm : MoAt Γ σ (a + 114) F KR A Nm) (hp : (r9 = 0 ∧ ∃ (v' : Int32) (σ1 : sto) (fo : Nat → Int64), (t = 0 ∧ v' = v ∧ n2 = n ∧ ScAt Γ ro σ1 a ∧ frS Γ ro (scr a) σ σ1) ∧ σ1 (a + 131) = some (cJ Γ 1 fo) ∧ σ2 = sup σ1 (a + 131) (cJ Γ 1 (vp_updL fo 0 v'.toInt64))) ∨ (r9 = t ∧ t ≠ 0 ∧ σ2 = σ ∧ n ≤ n2)) : LwQ Γ n b a L xs ro F KR K G im A Nm KI t v.toInt64 r9 σ2 n2 := by
  rcases hp with ⟨h1, v', σ1, fo, ⟨h2, h3, h4, h5, h6⟩, h7, h8⟩ | ⟨h1, h2, h3, h4⟩
  · subst h3
    subst h4
    subst h8
    have hl := h.fr h6 (fun q x => by omega) (h.2.2.2.q h5 h6)
    exact ⟨h1.trans h2.symm, Nat.le_refl _, hl.out, ⟨_, sup_eq, fun _ => by unfold vp_updL; rw [if_pos rfl]⟩, mo_out (h.mo hm h6 (fun q x => by omega))⟩
  · subst h3
    obtain ⟨fo, h5⟩ := h.2.2.1
    exact ⟨h1, h4, h.wn h4, ⟨fo, h5, fun z => absurd z h2⟩, hm⟩
end LcS
