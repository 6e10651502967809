section PrsEq
variable {N w d : Nat} {s : ps}
theorem pP_len {t : Nat} (ht : t < 10) : (pP N w t d s).l.length ≤ s.l.length := prs_len _ t d s ht
theorem pP_0 : pP N w 0 d s = pP N w 1 d (pP N w 2 d s) := by
  have g := pP_len (N := N) (w := w) (d := d) (s := s) (t := 2) (by omega)
  have r1 : rk 1 = 1 := rfl
  have r2 : rk 2 = 5 := rfl
  show prs N w (7 * s.l.length + 6 + 1) 0 d s = _
  rw [prs, pP_of (t := 2) (s := s) (by omega) (by omega)]
  exact pP_of (by omega) (by omega)
theorem pP_1 : pP N w 1 d s = if s.bad = 0 ∧ kd s.l = 17 then pP N w 1 d (emitP 17 (pP N w 2 d (nextP s))) else s := by
  have r1 : rk 1 = 1 := rfl
  have r2 : rk 2 = 5 := rfl
  show prs N w (7 * s.l.length + 6 + 1) 1 d s = _
  rw [prs]
  by_cases c : s.bad = 0 ∧ kd s.l = 17
  · have g := nx_lt c.2 (by decide)
    have g2 := pP_len (N := N) (w := w) (d := d) (s := nextP s) (t := 2) (by omega)
    have g3 : (emitP 17 (pP N w 2 d (nextP s))).l = _ := len_emit
    rw [if_pos c, if_pos c, pP_of (t := 2) (s := nextP s) (by omega) (by omega)]
    exact pP_of (by omega) (by rw [g3]; omega)
  · rw [if_neg c, if_neg c]
theorem pP_2 : pP N w 2 d s = pP N w 3 d (pP N w 4 d s) := by
  have g := pP_len (N := N) (w := w) (d := d) (s := s) (t := 4) (by omega)
  have r1 : rk 3 = 1 := rfl
  have r2 : rk 4 = 4 := rfl
  show prs N w (7 * s.l.length + 6 + 1) 2 d s = _
  rw [prs, pP_of (t := 4) (s := s) (by omega) (by omega)]
  exact pP_of (by omega) (by omega)
theorem pP_3 : pP N w 3 d s = if s.bad = 0 ∧ kd s.l = 16 then pP N w 3 d (emitP 16 (pP N w 4 d (nextP s))) else s := by
  have r1 : rk 3 = 1 := rfl
  have r2 : rk 4 = 4 := rfl
  show prs N w (7 * s.l.length + 6 + 1) 3 d s = _
  rw [prs]
  by_cases c : s.bad = 0 ∧ kd s.l = 16
  · have g := nx_lt c.2 (by decide)
    have g2 := pP_len (N := N) (w := w) (d := d) (s := nextP s) (t := 4) (by omega)
    have g3 : (emitP 16 (pP N w 4 d (nextP s))).l = _ := len_emit
    rw [if_pos c, if_pos c, pP_of (t := 4) (s := nextP s) (by omega) (by omega)]
    exact pP_of (by omega) (by rw [g3]; omega)
  · rw [if_neg c, if_neg c]
theorem pP_4b (h : s.bad ≠ 0) : pP N w 4 d s = s := by
  show prs N w (7 * s.l.length + 6 + 1) 4 d s = _
  rw [prs, if_pos h]
theorem pP_4n (h : s.bad = 0) (hk : kd s.l = 15) : pP N w 4 d s = if d = 6 then failP N 4 s else emitP 18 (pP N w 4 (d + 1) (nextP s)) := by
  have g := nx_lt hk (by decide)
  have r : rk 4 = 4 := rfl
  show prs N w (7 * s.l.length + 6 + 1) 4 d s = _
  rw [prs, if_neg (fun c => c h), if_pos hk, pP_of (t := 4) (s := nextP s) (by omega) (by omega)]
theorem pP_4t (h : s.bad = 0) (hk : kd s.l = 91) : pP N w 4 d s = if d = 6 then failP N 4 s else needP N 93 (pP N w 0 (d + 1) (nextP s)) := by
  have g := nx_lt hk (by decide)
  have r : rk 0 = 6 := rfl
  show prs N w (7 * s.l.length + 6 + 1) 4 d s = _
  rw [prs, if_neg (fun c => c h), if_neg (by rw [hk]; decide), if_pos hk, pP_of (t := 0) (s := nextP s) (by omega) (by omega)]
theorem pP_4s (h : s.bad = 0) (h1 : kd s.l ≠ 15) (h2 : kd s.l ≠ 91) : pP N w 4 d s = match cmP (kd (pP N w 5 d s).l) with
    | none => failP N 2 (pP N w 5 d s)
    | some c => if (pP N w 5 d s).bad = 0 then emitP c (pP N w 5 d (nextP (pP N w 5 d s))) else pP N w 5 d s := by
  have r : rk 5 = 3 := rfl
  have g := pP_len (N := N) (w := w) (d := d) (s := s) (t := 5) (by omega)
  show prs N w (7 * s.l.length + 6 + 1) 4 d s = _
  rw [prs, if_neg (fun c => c h), if_neg h1, if_neg h2, pP_of (t := 5) (s := s) (by omega) (by omega)]
  cases hc : cmP (kd (pP N w 5 d s).l) with
  | none => rfl
  | some x =>
    have g2 := len_nextK (cmP_ne hc)
    show (if _ then emitP x (prs N w _ 5 d _) else _) = (if _ then emitP x _ else _)
    rw [pP_of (t := 5) (s := nextP (pP N w 5 d s)) (by omega) (by omega)]
theorem pP_5 : pP N w 5 d s = pP N w 6 d (pP N w 7 d s) := by
  have g := pP_len (N := N) (w := w) (d := d) (s := s) (t := 7) (by omega)
  have r1 : rk 6 = 1 := rfl
  have r2 : rk 7 = 2 := rfl
  show prs N w (7 * s.l.length + 6 + 1) 5 d s = _
  rw [prs, pP_of (t := 7) (s := s) (by omega) (by omega)]
  exact pP_of (by omega) (by omega)
theorem pP_6 : pP N w 6 d s = if s.bad = 0 ∧ (kd s.l = 43 ∨ kd s.l = 45) then pP N w 6 d (emitP (if kd s.l = 43 then 10 else 11) (pP N w 7 d (nextP s))) else s := by
  have r1 : rk 6 = 1 := rfl
  have r2 : rk 7 = 2 := rfl
  show prs N w (7 * s.l.length + 6 + 1) 6 d s = _
  rw [prs]
  by_cases c : s.bad = 0 ∧ (kd s.l = 43 ∨ kd s.l = 45)
  · have g : (nextP s).l.length + 1 = s.l.length := c.2.elim (fun e => nx_lt e (by decide)) (fun e => nx_lt e (by decide))
    have g2 := pP_len (N := N) (w := w) (d := d) (s := nextP s) (t := 7) (by omega)
    have g3 : (emitP (if kd s.l = 43 then 10 else 11) (pP N w 7 d (nextP s))).l = _ := len_emit
    rw [if_pos c, if_pos c, pP_of (t := 7) (s := nextP s) (by omega) (by omega)]
    exact pP_of (by omega) (by rw [g3]; omega)
  · rw [if_neg c, if_neg c]
theorem pP_7 : pP N w 7 d s = pP N w 8 d (pP N w 9 d s) := by
  have g := pP_len (N := N) (w := w) (d := d) (s := s) (t := 9) (by omega)
  have r1 : rk 8 = 1 := rfl
  have r2 : rk 9 = 1 := rfl
  show prs N w (7 * s.l.length + 6 + 1) 7 d s = _
  rw [prs, pP_of (t := 9) (s := s) (by omega) (by omega)]
  exact pP_of (by omega) (by omega)
theorem pP_8 : pP N w 8 d s = if s.bad = 0 ∧ kd s.l = 42 then pP N w 8 d (emitP 12 (pP N w 9 d (nextP s))) else s := by
  have r1 : rk 8 = 1 := rfl
  have r2 : rk 9 = 1 := rfl
  show prs N w (7 * s.l.length + 6 + 1) 8 d s = _
  rw [prs]
  by_cases c : s.bad = 0 ∧ kd s.l = 42
  · have g := nx_lt c.2 (by decide)
    have g2 := pP_len (N := N) (w := w) (d := d) (s := nextP s) (t := 9) (by omega)
    have g3 : (emitP 12 (pP N w 9 d (nextP s))).l = _ := len_emit
    rw [if_pos c, if_pos c, pP_of (t := 9) (s := nextP s) (by omega) (by omega)]
    exact pP_of (by omega) (by rw [g3]; omega)
  · rw [if_neg c, if_neg c]
theorem pP_9b (h : s.bad ≠ 0) : pP N w 9 d s = s := by
  show prs N w (7 * s.l.length + 6 + 1) 9 d s = _
  rw [prs, if_pos h]
theorem pP_9n (h : s.bad = 0) {c : Int32} (hc : nmP w (kd s.l) = some c) : pP N w 9 d s = emitP (100 + c) (nextP s) := by
  show prs N w (7 * s.l.length + 6 + 1) 9 d s = _
  rw [prs, if_neg (fun c => c h), hc]
theorem pP_9p (h : s.bad = 0) (hn : nmP w (kd s.l) = none) (hk : kd s.l = 40) : pP N w 9 d s = if d = 6 then failP N 4 s else needP N 41 (pP N w 5 (d + 1) (nextP s)) := by
  have g := nx_lt hk (by decide)
  have r : rk 5 = 3 := rfl
  show prs N w (7 * s.l.length + 6 + 1) 9 d s = _
  rw [prs, if_neg (fun c => c h), hn]
  show (if kd s.l = 40 then _ else _) = _
  rw [if_pos hk, pP_of (t := 5) (s := nextP s) (by omega) (by omega)]
theorem pP_9v (h : s.bad = 0) (hn : nmP w (kd s.l) = none) (hk : kd s.l ≠ 40) : pP N w 9 d s = emitP (1000 + (numP N 0 999 s).1) (numP N 0 999 s).2 := by
  show prs N w (7 * s.l.length + 6 + 1) 9 d s = _
  rw [prs, if_neg (fun c => c h), hn]
  show (if kd s.l = 40 then _ else _) = _
  rw [if_neg hk]
end PrsEq
