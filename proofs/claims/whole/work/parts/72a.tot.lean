/-! ===== steps are no more than tokens ===== -/
def tot (s : ps) : Nat := s.st.length + s.l.length
section Tot
variable {N w : Nat} {c : Int32} {s : ps}
theorem tot_fail : tot (failP N c s) = tot s := by
  unfold failP
  split <;> rfl
theorem tot_nx : tot (nextP s) ≤ tot s := by
  have := len_next (s := s)
  show s.st.length + (nextP s).l.length ≤ s.st.length + s.l.length
  omega
theorem tot_nk (h : kd s.l ≠ 0) : tot (nextP s) + 1 = tot s := by
  have := len_nextK h
  show s.st.length + (nextP s).l.length + 1 = s.st.length + s.l.length
  omega
theorem tot_ne {k : Int32} (h : kd s.l = k) (hk : k ≠ 0) : tot (nextP s) + 1 = tot s := tot_nk (by rw [h]; exact hk)
theorem tot_em : tot (emitP c s) ≤ tot s + 1 := by
  unfold emitP
  split
  · show (s.st ++ [c]).length + s.l.length ≤ s.st.length + s.l.length + 1
    rw [List.length_append, List.length_singleton]
    omega
  · exact Nat.le_succ _
theorem tot_need : tot (needP N c s) ≤ tot s := by
  unfold needP
  split
  · exact tot_nx
  · rw [tot_fail]; exact Nat.le_refl _
theorem tot_num (hb : s.bad = 0) {lo hi x : Int32} : tot (emitP x (numP N lo hi s).2) ≤ tot s := by
  unfold numP
  by_cases c1 : s.bad = 0 ∧ kd s.l = 2
  · rw [if_pos c1]
    have g := tot_ne c1.2 (by decide)
    by_cases c2 : lo ≤ tvl s.l ∧ tvl s.l ≤ hi
    · rw [if_pos c2]
      have := tot_em (c := x) (s := nextP s)
      show tot (emitP x (nextP s)) ≤ _
      omega
    · rw [if_neg c2]
      show tot (emitP x (failP N 3 s)) ≤ _
      rw [emitP, if_neg (failP_ne (by decide) hb), tot_fail]
      exact Nat.le_refl _
  · rw [if_neg c1]
    show tot (emitP x (failP N 2 s)) ≤ _
    rw [emitP, if_neg (failP_ne (by decide) hb), tot_fail]
    exact Nat.le_refl _
theorem prs_tot : ∀ (m t d : Nat) (s : ps), t < 10 → tot (prs N w m t d s) ≤ tot s := by
  intro m
  induction m with
  | zero => intro t d s _; rw [prs]; exact Nat.le_refl _
  | succ m ih =>
    intro t d s ht
    rcases (show t = 0 ∨ t = 1 ∨ t = 2 ∨ t = 3 ∨ t = 4 ∨ t = 5 ∨ t = 6 ∨ t = 7 ∨ t = 8 ∨ t = 9 by omega) with rfl | rfl | rfl | rfl | rfl | rfl | rfl | rfl | rfl | rfl
    · rw [prs]
      exact Nat.le_trans (ih 1 d _ (by omega)) (ih 2 d s (by omega))
    · rw [prs]
      by_cases c : s.bad = 0 ∧ kd s.l = 17
      · rw [if_pos c]
        have g := tot_ne c.2 (by decide)
        have g2 := ih 2 d (nextP s) (by omega)
        have g3 := tot_em (c := 17) (s := prs N w m 2 d (nextP s))
        have g4 := ih 1 d (emitP 17 (prs N w m 2 d (nextP s))) (by omega)
        omega
      · rw [if_neg c]; exact Nat.le_refl _
    · rw [prs]
      exact Nat.le_trans (ih 3 d _ (by omega)) (ih 4 d s (by omega))
    · rw [prs]
      by_cases c : s.bad = 0 ∧ kd s.l = 16
      · rw [if_pos c]
        have g := tot_ne c.2 (by decide)
        have g2 := ih 4 d (nextP s) (by omega)
        have g3 := tot_em (c := 16) (s := prs N w m 4 d (nextP s))
        have g4 := ih 3 d (emitP 16 (prs N w m 4 d (nextP s))) (by omega)
        omega
      · rw [if_neg c]; exact Nat.le_refl _
    · rw [prs]
      by_cases c : s.bad ≠ 0
      · rw [if_pos c]; exact Nat.le_refl _
      · rw [if_neg c]
        by_cases c1 : kd s.l = 15
        · rw [if_pos c1]
          have g := tot_ne c1 (by decide)
          by_cases c3 : d = 6
          · rw [if_pos c3, tot_fail]; exact Nat.le_refl _
          · rw [if_neg c3]
            have g2 := ih 4 (d + 1) (nextP s) (by omega)
            have g3 := tot_em (c := 18) (s := prs N w m 4 (d + 1) (nextP s))
            omega
        · rw [if_neg c1]
          by_cases c2 : kd s.l = 91
          · rw [if_pos c2]
            have g := tot_ne c2 (by decide)
            by_cases c3 : d = 6
            · rw [if_pos c3, tot_fail]; exact Nat.le_refl _
            · rw [if_neg c3]
              have g2 := ih 0 (d + 1) (nextP s) (by omega)
              have g3 := tot_need (N := N) (c := 93) (s := prs N w m 0 (d + 1) (nextP s))
              omega
          · rw [if_neg c2]
            have g := ih 5 d s (by omega)
            cases hc : cmP (kd (prs N w m 5 d s).l) with
            | none =>
              show tot (failP N 2 _) ≤ _
              rw [tot_fail]; exact g
            | some x =>
              show tot (if _ then emitP x (prs N w m 5 d (nextP (prs N w m 5 d s))) else _) ≤ _
              have g2 := tot_nk (cmP_ne hc)
              have g3 := ih 5 d (nextP (prs N w m 5 d s)) (by omega)
              have g4 := tot_em (c := x) (s := prs N w m 5 d (nextP (prs N w m 5 d s)))
              by_cases c4 : (prs N w m 5 d s).bad = 0
              · rw [if_pos c4]; omega
              · rw [if_neg c4]; exact g
    · rw [prs]
      exact Nat.le_trans (ih 6 d _ (by omega)) (ih 7 d s (by omega))
    · rw [prs]
      by_cases c : s.bad = 0 ∧ (kd s.l = 43 ∨ kd s.l = 45)
      · rw [if_pos c]
        have g : tot (nextP s) + 1 = tot s := c.2.elim (fun e => tot_ne e (by decide)) (fun e => tot_ne e (by decide))
        have g2 := ih 7 d (nextP s) (by omega)
        have g3 := tot_em (c := if kd s.l = 43 then 10 else 11) (s := prs N w m 7 d (nextP s))
        have g4 := ih 6 d (emitP (if kd s.l = 43 then 10 else 11) (prs N w m 7 d (nextP s))) (by omega)
        omega
      · rw [if_neg c]; exact Nat.le_refl _
    · rw [prs]
      exact Nat.le_trans (ih 8 d _ (by omega)) (ih 9 d s (by omega))
    · rw [prs]
      by_cases c : s.bad = 0 ∧ kd s.l = 42
      · rw [if_pos c]
        have g := tot_ne c.2 (by decide)
        have g2 := ih 9 d (nextP s) (by omega)
        have g3 := tot_em (c := 12) (s := prs N w m 9 d (nextP s))
        have g4 := ih 8 d (emitP 12 (prs N w m 9 d (nextP s))) (by omega)
        omega
      · rw [if_neg c]; exact Nat.le_refl _
    · rw [prs]
      by_cases c : s.bad ≠ 0
      · rw [if_pos c]; exact Nat.le_refl _
      · rw [if_neg c]
        have hb : s.bad = 0 := Decidable.not_not.mp c
        cases hc : nmP w (kd s.l) with
        | some x =>
          show tot (emitP (100 + x) (nextP s)) ≤ _
          have hk : kd s.l ≠ 0 := fun e => by rw [e] at hc; unfold nmP at hc; revert hc; by_cases e5 : w = 5 <;> by_cases e6 : w = 6 <;> simp [e5, e6]
          have g := tot_nk hk
          have g3 := tot_em (c := 100 + x) (s := nextP s)
          omega
        | none =>
          show tot (if kd s.l = 40 then _ else _) ≤ _
          by_cases c2 : kd s.l = 40
          · rw [if_pos c2]
            have g := tot_ne c2 (by decide)
            by_cases c3 : d = 6
            · rw [if_pos c3, tot_fail]; exact Nat.le_refl _
            · rw [if_neg c3]
              have g2 := ih 5 (d + 1) (nextP s) (by omega)
              have g3 := tot_need (N := N) (c := 41) (s := prs N w m 5 (d + 1) (nextP s))
              omega
          · rw [if_neg c2]; exact tot_num hb
theorem pP_tot {t d : Nat} (ht : t < 10) : tot (pP N w t d s) ≤ tot s := prs_tot _ t d s ht
end Tot
