section PrsFuel
variable {N w : Nat}
theorem cmP_ne {k c : Int32} (h : cmP k = some c) : k ≠ 0 := fun e => by
  subst e
  cases h
theorem nx_lt {s : ps} {c : Int32} (h : kd s.l = c) (hc : c ≠ 0) : (nextP s).l.length + 1 = s.l.length := len_nextK (by rw [h]; exact hc)
theorem prs_fuel : ∀ (m m2 t d : Nat) (s : ps), t < 10 → 7 * s.l.length + rk t ≤ m → 7 * s.l.length + rk t ≤ m2 → prs N w m t d s = prs N w m2 t d s := by
  intro m
  induction m with
  | zero =>
    intro m2 t d s ht h1 h2
    have : 1 ≤ rk t := by unfold rk; (repeat' split) <;> omega
    omega
  | succ m ih =>
    intro m2 t d s ht h1 h2
    have r1 : rk 1 = 1 := rfl
    have r2 : rk 2 = 5 := rfl
    have r3 : rk 3 = 1 := rfl
    have r4 : rk 4 = 4 := rfl
    have r5 : rk 5 = 3 := rfl
    have r6 : rk 6 = 1 := rfl
    have r7 : rk 7 = 2 := rfl
    have r8 : rk 8 = 1 := rfl
    have r9 : rk 9 = 1 := rfl
    have r0 : rk 0 = 6 := rfl
    obtain ⟨k, rfl⟩ : ∃ k, m2 = k + 1 := by
      have : 1 ≤ rk t := by unfold rk; (repeat' split) <;> omega
      exact ⟨m2 - 1, by omega⟩
    rcases (show t = 0 ∨ t = 1 ∨ t = 2 ∨ t = 3 ∨ t = 4 ∨ t = 5 ∨ t = 6 ∨ t = 7 ∨ t = 8 ∨ t = 9 by omega) with rfl | rfl | rfl | rfl | rfl | rfl | rfl | rfl | rfl | rfl
    · have g := prs_len (N := N) (w := w) k 2 d s (by omega)
      rw [prs, prs, ih k 2 d s (by omega) (by omega) (by omega)]
      exact ih k 1 d _ (by omega) (by omega) (by omega)
    · rw [prs, prs]
      by_cases c : s.bad = 0 ∧ kd s.l = 17
      · have g := nx_lt c.2 (by decide)
        have g2 := prs_len (N := N) (w := w) k 2 d (nextP s) (by omega)
        have g3 : (emitP 17 (prs N w k 2 d (nextP s))).l = _ := len_emit
        rw [if_pos c, if_pos c, ih k 2 d (nextP s) (by omega) (by omega) (by omega)]
        exact ih k 1 d _ (by omega) (by rw [g3]; omega) (by rw [g3]; omega)
      · rw [if_neg c, if_neg c]
    · have g := prs_len (N := N) (w := w) k 4 d s (by omega)
      rw [prs, prs, ih k 4 d s (by omega) (by omega) (by omega)]
      exact ih k 3 d _ (by omega) (by omega) (by omega)
    · rw [prs, prs]
      by_cases c : s.bad = 0 ∧ kd s.l = 16
      · have g := nx_lt c.2 (by decide)
        have g2 := prs_len (N := N) (w := w) k 4 d (nextP s) (by omega)
        have g3 : (emitP 16 (prs N w k 4 d (nextP s))).l = _ := len_emit
        rw [if_pos c, if_pos c, ih k 4 d (nextP s) (by omega) (by omega) (by omega)]
        exact ih k 3 d _ (by omega) (by rw [g3]; omega) (by rw [g3]; omega)
      · rw [if_neg c, if_neg c]
    · rw [prs, prs]
      by_cases c : s.bad ≠ 0
      · rw [if_pos c, if_pos c]
      · rw [if_neg c, if_neg c]
        by_cases c1 : kd s.l = 15
        · have g := nx_lt c1 (by decide)
          rw [if_pos c1, if_pos c1, ih k 4 (d + 1) (nextP s) (by omega) (by omega) (by omega)]
        · rw [if_neg c1, if_neg c1]
          by_cases c2 : kd s.l = 91
          · have g := nx_lt c2 (by decide)
            rw [if_pos c2, if_pos c2, ih k 0 (d + 1) (nextP s) (by omega) (by omega) (by omega)]
          · rw [if_neg c2, if_neg c2, ih k 5 d s (by omega) (by omega) (by omega)]
            have g := prs_len (N := N) (w := w) k 5 d s (by omega)
            cases hc : cmP (kd (prs N w k 5 d s).l) with
            | none => rfl
            | some x =>
              have g2 := len_nextK (cmP_ne hc)
              show (if _ then emitP x (prs N w m 5 d _) else _) = (if _ then emitP x (prs N w k 5 d _) else _)
              rw [ih k 5 d (nextP (prs N w k 5 d s)) (by omega) (by omega) (by omega)]
    · have g := prs_len (N := N) (w := w) k 7 d s (by omega)
      rw [prs, prs, ih k 7 d s (by omega) (by omega) (by omega)]
      exact ih k 6 d _ (by omega) (by omega) (by omega)
    · rw [prs, prs]
      by_cases c : s.bad = 0 ∧ (kd s.l = 43 ∨ kd s.l = 45)
      · have g : (nextP s).l.length + 1 = s.l.length := c.2.elim (fun e => nx_lt e (by decide)) (fun e => nx_lt e (by decide))
        have g2 := prs_len (N := N) (w := w) k 7 d (nextP s) (by omega)
        have g3 : (emitP (if kd s.l = 43 then 10 else 11) (prs N w k 7 d (nextP s))).l = _ := len_emit
        rw [if_pos c, if_pos c, ih k 7 d (nextP s) (by omega) (by omega) (by omega)]
        exact ih k 6 d _ (by omega) (by rw [g3]; omega) (by rw [g3]; omega)
      · rw [if_neg c, if_neg c]
    · have g := prs_len (N := N) (w := w) k 9 d s (by omega)
      rw [prs, prs, ih k 9 d s (by omega) (by omega) (by omega)]
      exact ih k 8 d _ (by omega) (by omega) (by omega)
    · rw [prs, prs]
      by_cases c : s.bad = 0 ∧ kd s.l = 42
      · have g := nx_lt c.2 (by decide)
        have g2 := prs_len (N := N) (w := w) k 9 d (nextP s) (by omega)
        have g3 : (emitP 12 (prs N w k 9 d (nextP s))).l = _ := len_emit
        rw [if_pos c, if_pos c, ih k 9 d (nextP s) (by omega) (by omega) (by omega)]
        exact ih k 8 d _ (by omega) (by rw [g3]; omega) (by rw [g3]; omega)
      · rw [if_neg c, if_neg c]
    · rw [prs, prs]
      by_cases c : s.bad ≠ 0
      · rw [if_pos c, if_pos c]
      · rw [if_neg c, if_neg c]
        by_cases c2 : kd s.l = 40
        · have g := nx_lt c2 (by decide)
          rw [ih k 5 (d + 1) (nextP s) (by omega) (by omega) (by omega)]
        · cases nmP w (kd s.l) with
          | some x => rfl
          | none =>
            show (if _ then _ else _) = (if _ then _ else _)
            rw [if_neg c2, if_neg c2]
/-- the parser with all the fuel that it needs -/
def pP (N w t d : Nat) (s : ps) : ps := prs N w (7 * s.l.length + 7) t d s
theorem rk_le (t : Nat) : rk t ≤ 6 := by unfold rk; (repeat' split) <;> omega
theorem pP_of {m t d : Nat} {s : ps} (ht : t < 10) (h : 7 * s.l.length + rk t ≤ m) : prs N w m t d s = pP N w t d s := prs_fuel m _ t d s ht h (by have := rk_le t; omega)
end PrsFuel
