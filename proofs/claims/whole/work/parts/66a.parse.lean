/-! ===== the pure parser's steps ===== -/
def ps : Type := List tok × Int32 × Int32 × List Int32
abbrev ps.l (s : ps) : List tok := s.1
abbrev ps.bad (s : ps) : Int32 := s.2.1
abbrev ps.pl (s : ps) : Int32 := s.2.2.1
abbrev ps.st (s : ps) : List Int32 := s.2.2.2
abbrev psm (l : List tok) (bad pl : Int32) (st : List Int32) : ps := (l, bad, pl, st)
def kd (L : List tok) : Int32 := match L with
  | [] => 0
  | x :: _ => x.1
def tvl (L : List tok) : Int32 := match L with
  | [] => 0
  | x :: _ => x.2.1
def tpl (N : Nat) (L : List tok) : Int32 := match L with
  | [] => nI N
  | x :: _ => nI x.2.2
def failP (N : Nat) (c : Int32) (s : ps) : ps := if s.bad = 0 then psm s.l (if kd s.l = 1 then 1 else c) (tpl N s.l) s.st else s
def nextP (s : ps) : ps := psm s.l.tail s.bad s.pl s.st
def needP (N : Nat) (c : Int32) (s : ps) : ps := if s.bad = 0 ∧ kd s.l = c then nextP s else failP N 2 s
def numP (N : Nat) (lo hi : Int32) (s : ps) : Int32 × ps := if s.bad = 0 ∧ kd s.l = 2 then (if lo ≤ tvl s.l ∧ tvl s.l ≤ hi then (tvl s.l, nextP s) else (lo, failP N 3 s)) else (lo, failP N 2 s)
def emitP (x : Int32) (s : ps) : ps := if s.bad = 0 then psm s.l s.bad s.pl (s.st ++ [x]) else s
theorem failP_bad {N : Nat} {c : Int32} {s : ps} (h : s.bad ≠ 0) : failP N c s = s := if_neg h
/-- how the reference stands in the text f of N bytes -/
def rfR (f : row) (N : Nat) (F : row) (s : ps) : Prop := F 7 = nI N ∧ F 12 = s.bad ∧ (s.bad = 0 → tokF f N F s.l) ∧ (s.bad ≠ 0 → F 13 = s.pl)
theorem wK_ge (L : List Int32) : 3 ≤ wK L ∧ wK L ≤ 20 := by
  have key : ∀ (p : Prop) [Decidable p] (x y : Int32), (3 ≤ x ∧ x ≤ 20) → (3 ≤ y ∧ y ≤ 20) → 3 ≤ (if p then x else y) ∧ (if p then x else y) ≤ 20 := by
    intro p _ x y h1 h2
    by_cases c : p
    · rw [if_pos c]; exact h1
    · rw [if_neg c]; exact h2
  unfold wK
  repeat (refine key _ _ _ (by decide) ?_)
  decide
theorem sg_ge {x : Int32} (h : isSg x = true) : 21 ≤ x := by
  simp only [isSg, decide_eq_true_eq] at h
  simp only [List.mem_cons, List.not_mem_nil, or_false] at h
  rcases h with rfl | rfl | rfl | rfl | rfl | rfl | rfl | rfl | rfl | rfl | rfl | rfl <;> decide
theorem i_lt {a b c : Int32} (h1 : a ≤ b) (h2 : c < a) : b ≠ c := fun e => by
  subst e
  exact absurd h1 (Int32.not_le.mpr h2)
section TokK
variable {f F : row} {N : Nat} {L : List tok}
theorem tok_bad (h : tokF f N F L) : F 10 = 3 ↔ kd L = 1 := by
  match L, h with
  | [], h => exact ⟨fun e => absurd (h.2.symm.trans e) (by decide), fun e => absurd e (by decide)⟩
  | x :: L', h =>
    obtain ⟨-, p, -, -, -, -, h⟩ := h
    show F 10 = 3 ↔ x.1 = 1
    rcases h with ⟨a, b⟩ | ⟨a, b, -⟩ | ⟨a, b⟩ | ⟨a, b⟩
    · rw [a, b]
      exact ⟨fun e => absurd e (by decide), fun e => absurd e (i_lt (wK_ge _).1 (by decide))⟩
    · rw [a, b]; decide
    · rw [a, b]; decide
    · rw [b]
      exact ⟨fun e => absurd e (i_lt (sg_ge a) (by decide)), fun e => absurd e (i_lt (sg_ge a) (by decide))⟩
theorem tok_num (h : tokF f N F L) : F 10 = 2 ↔ kd L = 2 := by
  match L, h with
  | [], h => exact ⟨fun e => absurd (h.2.symm.trans e) (by decide), fun e => absurd e (by decide)⟩
  | x :: L', h =>
    obtain ⟨-, p, -, -, -, -, h⟩ := h
    show F 10 = 2 ↔ x.1 = 2
    rcases h with ⟨a, b⟩ | ⟨a, b, -⟩ | ⟨a, b⟩ | ⟨a, b⟩
    · rw [a, b]
      exact ⟨fun e => absurd e (by decide), fun e => absurd e (i_lt (wK_ge _).1 (by decide))⟩
    · rw [a, b]
    · rw [a, b]; decide
    · rw [b]
theorem tok_val (h : tokF f N F L) (h2 : kd L = 2) : F 11 = tvl L := by
  match L, h, h2 with
  | [], h, h2 => exact absurd h2 (by decide)
  | x :: L', h, h2 =>
    have e : x.1 = 2 := h2
    obtain ⟨-, p, -, -, -, -, h⟩ := h
    rcases h with ⟨a, b⟩ | ⟨a, b, c⟩ | ⟨a, b⟩ | ⟨a, b⟩
    · exact absurd (b.symm.trans e) (i_lt (wK_ge _).1 (by decide))
    · exact c
    · exact absurd (b.symm.trans e) (by decide)
    · rw [e] at a; exact absurd a (by decide)
theorem tok_sg (h : tokF f N F L) {c : Int32} (hc : isSg c = true) : F 10 = c ↔ kd L = c := by
  match L, h with
  | [], h => exact ⟨fun e => absurd (e.symm.trans h.2) (i_lt (sg_ge hc) (by decide)), fun e => absurd (show c = 0 from e.symm) (i_lt (sg_ge hc) (by decide))⟩
  | x :: L', h =>
    obtain ⟨-, p, -, -, -, -, h⟩ := h
    show F 10 = c ↔ x.1 = c
    rcases h with ⟨a, b⟩ | ⟨a, b, -⟩ | ⟨a, b⟩ | ⟨a, b⟩
    · refine ⟨fun e => absurd (e.symm.trans a) (i_lt (sg_ge hc) (by decide)), fun e => ?_⟩
      have g1 := (wK_ge (txW f x.2.2 p)).2
      rw [← b, e] at g1
      exact absurd (sg_ge hc) (Int32.not_le.mpr (Int32.lt_of_le_of_lt g1 (by decide)))
    · exact ⟨fun e => absurd (e.symm.trans a) (i_lt (sg_ge hc) (by decide)), fun e => absurd (e.symm.trans b) (i_lt (sg_ge hc) (by decide))⟩
    · exact ⟨fun e => absurd (e.symm.trans a) (i_lt (sg_ge hc) (by decide)), fun e => absurd (e.symm.trans b) (i_lt (sg_ge hc) (by decide))⟩
    · rw [b]
theorem tok_pl (h : tokF f N F L) : F 9 = tpl N L := by
  match L, h with
  | [], h => exact h.1
  | x :: L', h => exact h.1
theorem tok_end (h : tokF f N F L) : F 10 = 0 ↔ L = [] := by
  match L, h with
  | [], h => exact ⟨fun _ => rfl, fun _ => h.2⟩
  | x :: L', h =>
    refine ⟨fun e => ?_, fun e => by cases e⟩
    obtain ⟨-, p, -, -, -, -, h⟩ := h
    rcases h with ⟨a, b⟩ | ⟨a, b, -⟩ | ⟨a, b⟩ | ⟨a, b⟩
    · exact absurd (a.symm.trans e) (by decide)
    · exact absurd (a.symm.trans e) (by decide)
    · exact absurd (a.symm.trans e) (by decide)
    · rw [← b, e] at a; exact absurd a (by decide)
theorem tok_cg {F2 : row} (h : tokF f N F L) (e : ∀ j, 8 ≤ j → j ≤ 11 → F2 j = F j) : tokF f N F2 L := by
  match L, h with
  | [], h => exact ⟨(e 9 (by omega) (by omega)).trans h.1, (e 10 (by omega) (by omega)).trans h.2⟩
  | x :: L', h =>
    obtain ⟨h9, p, g1, g2, g3, g4, g5⟩ := h
    refine ⟨(e 9 (by omega) (by omega)).trans h9, p, g1, g2, (e 8 (by omega) (by omega)).trans g3, g4, ?_⟩
    rw [e 10 (by omega) (by omega), e 11 (by omega) (by omega)]
    exact g5
end TokK
