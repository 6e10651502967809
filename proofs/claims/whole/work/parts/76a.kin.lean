/-! ===== the steps that the parser makes run on a small stack ===== -/
theorem kinK_c {w x : Int32} {t : List Int32} {s : List Bool} : kinK w (x :: t) s =
    if 100 ≤ x then (if (1000 ≤ x ∨ x ≤ w) ∧ s.length < 40 then kinK w t (false :: s) else none)
    else if x = 18 then (match s with
      | true :: s' => kinK w t (true :: s')
      | _ => none)
    else if x = 16 ∨ x = 17 then (match s with
      | true :: true :: s' => kinK w t (true :: s')
      | _ => none)
    else if x = 13 ∨ x = 14 ∨ x = 15 then (match s with
      | false :: false :: s' => kinK w t (true :: s')
      | _ => none)
    else if x = 10 ∨ x = 11 ∨ x = 12 then (match s with
      | false :: false :: s' => kinK w t (false :: s')
      | _ => none)
    else none := rfl
theorem kin_app {w : Int32} : ∀ (x y : List Int32) (P Q : List Bool), kinK w x P = some Q → kinK w (x ++ y) P = kinK w y Q := by
  intro x
  induction x with
  | nil =>
    intro y P Q h
    rw [kinK] at h
    cases h
    rfl
  | cons a x ih =>
    intro y P Q h
    rw [List.cons_append]
    rw [kinK_c] at h ⊢
    by_cases c1 : (100 : Int32) ≤ a
    · rw [if_pos c1] at h ⊢
      by_cases c2 : (1000 ≤ a ∨ a ≤ w) ∧ P.length < 40
      · rw [if_pos c2] at h ⊢
        exact ih y _ Q h
      · rw [if_neg c2] at h
        cases h
    · rw [if_neg c1] at h ⊢
      by_cases c2 : a = 18
      · rw [if_pos c2] at h ⊢
        match P, h with
        | true :: P', h => exact ih y _ Q h
      · rw [if_neg c2] at h ⊢
        by_cases c3 : a = 16 ∨ a = 17
        · rw [if_pos c3] at h ⊢
          match P, h with
          | true :: true :: P', h => exact ih y _ Q h
        · rw [if_neg c3] at h ⊢
          by_cases c4 : a = 13 ∨ a = 14 ∨ a = 15
          · rw [if_pos c4] at h ⊢
            match P, h with
            | false :: false :: P', h => exact ih y _ Q h
          · rw [if_neg c4] at h ⊢
            by_cases c5 : a = 10 ∨ a = 11 ∨ a = 12
            · rw [if_pos c5] at h ⊢
              match P, h with
              | false :: false :: P', h => exact ih y _ Q h
            · rw [if_neg c5] at h
              cases h
def wW (w : Nat) : Int32 := if w = 4 then 104 else if w = 5 then 100 else 102
section KinS
variable {w : Int32} {S : List Bool}
theorem kin_nil {P : List Bool} : kinK w [] P = some P := rfl
theorem kin_18 : kinK w [18] (true :: S) = some (true :: S) := by
  rw [kinK_c, if_neg (by decide), if_pos rfl]
  rfl
theorem kin_16 : kinK w [16] (true :: true :: S) = some (true :: S) := by
  rw [kinK_c, if_neg (by decide), if_neg (by decide), if_pos (by decide)]
  rfl
theorem kin_17 : kinK w [17] (true :: true :: S) = some (true :: S) := by
  rw [kinK_c, if_neg (by decide), if_neg (by decide), if_pos (by decide)]
  rfl
theorem kin_c {x : Int32} (h : x = 13 ∨ x = 14 ∨ x = 15) : kinK w [x] (false :: false :: S) = some (true :: S) := by
  rcases h with rfl | rfl | rfl
  · rw [kinK_c, if_neg (by decide), if_neg (by decide), if_neg (by decide), if_pos (by decide)]
    rfl
  · rw [kinK_c, if_neg (by decide), if_neg (by decide), if_neg (by decide), if_pos (by decide)]
    rfl
  · rw [kinK_c, if_neg (by decide), if_neg (by decide), if_neg (by decide), if_pos (by decide)]
    rfl
theorem kin_a {x : Int32} (h : x = 10 ∨ x = 11 ∨ x = 12) : kinK w [x] (false :: false :: S) = some (false :: S) := by
  rcases h with rfl | rfl | rfl
  · rw [kinK_c, if_neg (by decide), if_neg (by decide), if_neg (by decide), if_neg (by decide), if_pos (by decide)]
    rfl
  · rw [kinK_c, if_neg (by decide), if_neg (by decide), if_neg (by decide), if_neg (by decide), if_pos (by decide)]
    rfl
  · rw [kinK_c, if_neg (by decide), if_neg (by decide), if_neg (by decide), if_neg (by decide), if_pos (by decide)]
    rfl
theorem kin_v {x : Int32} (h : 100 ≤ x) (h2 : 1000 ≤ x ∨ x ≤ w) (hS : S.length < 40) : kinK w [x] S = some (false :: S) := by
  rw [kinK_c, if_pos h, if_pos ⟨h2, hS⟩]
  rfl
end KinS
theorem wd_ok {w : Nat} {k c : Int32} (hw : 4 ≤ w ∧ w ≤ 6) (h : nmP w k = some c) : 100 ≤ 100 + c ∧ 100 + c ≤ wW w := by
  rcases (show w = 4 ∨ w = 5 ∨ w = 6 by omega) with rfl | rfl | rfl
  · rcases (nmP_r h).1 with rfl | rfl | rfl | rfl | rfl <;> decide
  · unfold nmP at h
    split at h
    · cases h; decide
    · rw [if_pos rfl] at h; cases h
  · unfold nmP at h
    split at h
    · cases h; decide
    · rw [if_neg (by decide)] at h
      split at h
      · cases h; decide
      · split at h
        · cases h; decide
        · rw [if_pos rfl] at h; cases h
/-- what a part of a law lays: its steps, and how they change the stack -/
def cap (t : Nat) : Nat := if t = 9 then 10 else if t = 7 ∨ t = 8 then 9 else if t = 5 ∨ t = 6 then 8 else if t = 4 then 7 else if t = 2 ∨ t = 3 then 6 else 5
def kpr (t : Nat) (S : List Bool) : List Bool := if t = 1 ∨ t = 3 then true :: S else if t = 6 ∨ t = 8 then false :: S else S
def kpo (t : Nat) (S : List Bool) : List Bool := if t = 0 ∨ t = 1 ∨ t = 2 ∨ t = 3 ∨ t = 4 then true :: S else false :: S
def KinOK (N w t d : Nat) (s : ps) : Prop := (pP N w t d s).bad = 0 → s.bad = 0 ∧ ∃ nw : List Int32, (pP N w t d s).st = s.st ++ nw ∧ (nw ≠ [] ∨ t = 1 ∨ t = 3 ∨ t = 6 ∨ t = 8) ∧ ∀ S : List Bool, S.length ≤ 2 * d + cap t → kinK (wW w) nw (kpr t S) = some (kpo t S)
theorem emitP_ok {c : Int32} {s : ps} (h : (emitP c s).bad = 0) : s.bad = 0 ∧ (emitP c s).st = s.st ++ [c] := by
  rw [emitP_b] at h
  exact ⟨h, by rw [emitP, if_pos h]⟩
theorem ge_1000 {v : Int32} (h0 : 0 ≤ v) (h1 : v ≤ 999) : (100 : Int32) ≤ 1000 + v ∧ (1000 : Int32) ≤ 1000 + v := by
  obtain ⟨j, hj, rfl⟩ := nI_of2 (M := 999) (n := 999) rfl (Int32.not_lt.mpr h0) h1
  have e : (1000 : Int32) + nI j = nI (1000 + j) := nI_add 1000 j
  rw [e]
  exact ⟨nI_le (a := 100) (by omega) (by omega), nI_le (a := 1000) (by omega) (by omega)⟩
section KinAll
variable {N w : Nat}
theorem kin_loop {t d c ti : Nat} {x : Int32} {s : ps} {b : Bool} (hb : s.bad = 0) (h : pP N w t d s = pP N w t d (emitP x (pP N w ti d (nextP s)))) (h1 : KinOK N w ti d (nextP s)) (h2 : KinOK N w t d (emitP x (pP N w ti d (nextP s)))) (e1 : ∀ S, kpr t S = b :: S) (e2 : ∀ S, kpo t S = b :: S) (e3 : ∀ S, kpr ti S = S) (e4 : ∀ S, kpo ti S = b :: S) (hx : ∀ S, kinK (wW w) [x] (b :: b :: S) = some (b :: S)) (hc : cap ti = cap t + 1) (ht : t = 1 ∨ t = 3 ∨ t = 6 ∨ t = 8) : KinOK N w t d s := by
  intro hg
  rw [h] at hg
  obtain ⟨g1, n1, s1, -, k1⟩ := h2 hg
  obtain ⟨g2, s2⟩ := emitP_ok g1
  obtain ⟨-, n2, s3, -, k2⟩ := h1 g2
  refine ⟨hb, n2 ++ ([x] ++ n1), ?_, Or.inr ht, fun S hS => ?_⟩
  · rw [h, s1, s2, s3]
    show ((s.st ++ n2) ++ [x]) ++ n1 = _
    simp only [List.append_assoc]
  · have g3 := k2 (b :: S) (by simp only [List.length_cons]; omega)
    rw [e3, e4] at g3
    have g4 := k1 S hS
    rw [e1, e2] at g4
    rw [e1, e2, kin_app _ _ _ _ g3, kin_app _ _ _ _ (hx S), g4]
theorem kin_seq {t t1 t2 d : Nat} {s : ps} {b : Bool} (h : pP N w t d s = pP N w t2 d (pP N w t1 d s)) (h1 : KinOK N w t1 d s) (h2 : KinOK N w t2 d (pP N w t1 d s)) (e1 : ∀ S, kpr t S = S) (e2 : ∀ S, kpo t S = b :: S) (e3 : ∀ S, kpr t1 S = S) (e4 : ∀ S, kpo t1 S = b :: S) (e5 : ∀ S, kpr t2 S = b :: S) (e6 : ∀ S, kpo t2 S = b :: S) (c1 : cap t ≤ cap t1) (c2 : cap t ≤ cap t2) (ht : t1 ≠ 1 ∧ t1 ≠ 3 ∧ t1 ≠ 6 ∧ t1 ≠ 8) : KinOK N w t d s := by
  intro hg
  rw [h] at hg
  obtain ⟨g1, n1, s1, -, k1⟩ := h2 hg
  obtain ⟨g2, n2, s2, z2, k2⟩ := h1 g1
  refine ⟨g2, n2 ++ n1, ?_, Or.inl ?_, fun S hS => ?_⟩
  · rw [h, s1, s2, List.append_assoc]
  · rcases z2 with z | z
    · exact fun e => z (List.append_eq_nil_iff.mp e).1
    · omega
  · have g3 := k2 S (by omega)
    rw [e3, e4] at g3
    have g4 := k1 S (by omega)
    rw [e5, e6] at g4
    rw [e1, e2, kin_app _ _ _ _ g3, g4]
theorem kin_done {t d : Nat} {s : ps} (h : pP N w t d s = s) (ht : t = 1 ∨ t = 3 ∨ t = 6 ∨ t = 8) : KinOK N w t d s := by
  intro hg
  rw [h] at hg
  refine ⟨hg, [], ?_, Or.inr ht, fun S _ => ?_⟩
  · rw [h, List.append_nil]
  · rw [kin_nil]
    rcases ht with rfl | rfl | rfl | rfl <;> rfl
theorem kin_all (hw : 4 ≤ w ∧ w ≤ 6) : ∀ (m t d : Nat) (s : ps), t < 10 → d ≤ 6 → 7 * s.l.length + rk t ≤ m → KinOK N w t d s := by
  intro m
  induction m with
  | zero =>
    intro t d s ht hd h
    have : 1 ≤ rk t := by unfold rk; (repeat' split) <;> omega
    omega
  | succ m ih =>
    intro t d s ht hd h
    have r0 : rk 0 = 6 := rfl
    have r1 : rk 1 = 1 := rfl
    have r2 : rk 2 = 5 := rfl
    have r3 : rk 3 = 1 := rfl
    have r4 : rk 4 = 4 := rfl
    have r5 : rk 5 = 3 := rfl
    have r6 : rk 6 = 1 := rfl
    have r7 : rk 7 = 2 := rfl
    have r8 : rk 8 = 1 := rfl
    have r9 : rk 9 = 1 := rfl
    rcases (show t = 0 ∨ t = 1 ∨ t = 2 ∨ t = 3 ∨ t = 4 ∨ t = 5 ∨ t = 6 ∨ t = 7 ∨ t = 8 ∨ t = 9 by omega) with rfl | rfl | rfl | rfl | rfl | rfl | rfl | rfl | rfl | rfl
    · have g := pP_len (N := N) (w := w) (d := d) (s := s) (t := 2) (by omega)
      exact kin_seq (b := true) pP_0 (ih 2 d s (by omega) hd (by omega)) (ih 1 d _ (by omega) hd (by omega)) (fun _ => rfl) (fun _ => rfl) (fun _ => rfl) (fun _ => rfl) (fun _ => rfl) (fun _ => rfl) (by decide) (by decide) (by decide)
    · by_cases c : s.bad = 0 ∧ kd s.l = 17
      · have g1 := nx_lt c.2 (by decide)
        have g2 := pP_len (N := N) (w := w) (d := d) (s := nextP s) (t := 2) (by omega)
        have g3 : (emitP 17 (pP N w 2 d (nextP s))).l = _ := len_emit
        exact kin_loop (c := 0) (b := true) c.1 (by rw [pP_1 (s := s), if_pos c]) (ih 2 d _ (by omega) hd (by omega)) (ih 1 d _ (by omega) hd (by rw [g3]; omega)) (fun _ => rfl) (fun _ => rfl) (fun _ => rfl) (fun _ => rfl) (fun _ => kin_17) (by decide) (by decide)
      · exact kin_done (by rw [pP_1, if_neg c]) (by decide)
    · have g := pP_len (N := N) (w := w) (d := d) (s := s) (t := 4) (by omega)
      exact kin_seq (b := true) pP_2 (ih 4 d s (by omega) hd (by omega)) (ih 3 d _ (by omega) hd (by omega)) (fun _ => rfl) (fun _ => rfl) (fun _ => rfl) (fun _ => rfl) (fun _ => rfl) (fun _ => rfl) (by decide) (by decide) (by decide)
    · by_cases c : s.bad = 0 ∧ kd s.l = 16
      · have g1 := nx_lt c.2 (by decide)
        have g2 := pP_len (N := N) (w := w) (d := d) (s := nextP s) (t := 4) (by omega)
        have g3 : (emitP 16 (pP N w 4 d (nextP s))).l = _ := len_emit
        exact kin_loop (c := 0) (b := true) c.1 (by rw [pP_3 (s := s), if_pos c]) (ih 4 d _ (by omega) hd (by omega)) (ih 3 d _ (by omega) hd (by rw [g3]; omega)) (fun _ => rfl) (fun _ => rfl) (fun _ => rfl) (fun _ => rfl) (fun _ => kin_16) (by decide) (by decide)
      · exact kin_done (by rw [pP_3, if_neg c]) (by decide)
    · by_cases hb : s.bad = 0
      · by_cases k15 : kd s.l = 15
        · have g1 := nx_lt k15 (by decide)
          intro hg
          have e := pP_4n (N := N) (w := w) (d := d) hb k15
          by_cases h6 : d = 6
          · rw [e, if_pos h6] at hg
            exact absurd hg (failP_ne (by decide) hb)
          · rw [if_neg h6] at e
            rw [e] at hg
            obtain ⟨q1, q2⟩ := emitP_ok hg
            obtain ⟨-, nw, q3, q5, q4⟩ := ih 4 (d + 1) (nextP s) (by omega) (by omega) (by omega) q1
            refine ⟨hb, nw ++ [18], ?_, Or.inl (by simp), fun S hS => ?_⟩
            · rw [e, q2, q3, List.append_assoc]
              rfl
            · have q6 := q4 S (by show _ ≤ _ + 7; have : S.length ≤ 2 * d + 7 := hS; omega)
              rw [kin_app _ _ _ _ q6]
              exact kin_18
        · by_cases k91 : kd s.l = 91
          · have g1 := nx_lt k91 (by decide)
            intro hg
            have e := pP_4t (N := N) (w := w) (d := d) hb k91
            by_cases h6 : d = 6
            · rw [e, if_pos h6] at hg
              exact absurd hg (failP_ne (by decide) hb)
            · rw [if_neg h6] at e
              rw [e] at hg
              obtain ⟨-, nw, q3, q5, q4⟩ := ih 0 (d + 1) (nextP s) (by omega) (by omega) (by omega) (needP_b hg)
              refine ⟨hb, nw, ?_, Or.inl (q5.resolve_right (by decide)), fun S hS => ?_⟩
              · rw [e, needP_st, q3]
                rfl
              · exact q4 S (by show _ ≤ _ + 5; have : S.length ≤ 2 * d + 7 := hS; omega)
          · intro hg
            have g2 := pP_len (N := N) (w := w) (d := d) (s := s) (t := 5) (by omega)
            have e := pP_4s (N := N) (w := w) (d := d) hb k15 k91
            rw [e] at hg
            cases hc : cmP (kd (pP N w 5 d s).l) with
            | none =>
              rw [hc] at hg
              have hg : (failP N 2 (pP N w 5 d s)).bad = 0 := hg
              by_cases hb1 : (pP N w 5 d s).bad = 0
              · exact absurd hg (failP_ne (by decide) hb1)
              · rw [failP_bad hb1] at hg
                exact absurd hg hb1
            | some x =>
              rw [hc] at hg e
              have e : pP N w 4 d s = if (pP N w 5 d s).bad = 0 then emitP x (pP N w 5 d (nextP (pP N w 5 d s))) else pP N w 5 d s := e
              have hg : (if (pP N w 5 d s).bad = 0 then emitP x (pP N w 5 d (nextP (pP N w 5 d s))) else pP N w 5 d s).bad = 0 := hg
              by_cases hb1 : (pP N w 5 d s).bad = 0
              · rw [if_pos hb1] at hg e
                have g3 := len_nextK (cmP_ne hc)
                obtain ⟨q1, q2⟩ := emitP_ok hg
                obtain ⟨-, n1, p1, z1, k1⟩ := ih 5 d s (by omega) hd (by omega) hb1
                obtain ⟨-, n2, p2, z2, k2⟩ := ih 5 d _ (by omega) hd (by omega) q1
                refine ⟨hb, n1 ++ (n2 ++ [x]), ?_, Or.inl (by simp), fun S hS => ?_⟩
                · rw [e, q2, p2]
                  show ((pP N w 5 d s).st ++ n2) ++ [x] = _
                  rw [p1]
                  simp only [List.append_assoc]
                · have hS : S.length ≤ 2 * d + 7 := hS
                  have c5 : cap 5 = 8 := rfl
                  have q6 : kinK (wW w) n1 S = some (false :: S) := k1 S (by omega)
                  have q7 := k2 (false :: S) (by simp only [List.length_cons]; omega)
                  have hx : x = 13 ∨ x = 14 ∨ x = 15 := by
                    unfold cmP at hc
                    (repeat' split at hc) <;> first | (cases hc; decide) | (cases hc)
                  show kinK (wW w) (n1 ++ (n2 ++ [x])) S = some (true :: S)
                  rw [kin_app _ _ _ _ q6]
                  have q7 : kinK (wW w) n2 (false :: S) = some (false :: false :: S) := q7
                  show kinK (wW w) (n2 ++ [x]) (false :: S) = some (true :: S)
                  rw [kin_app _ _ _ _ q7]
                  exact kin_c hx
              · rw [if_neg hb1] at hg
                exact absurd hg hb1
      · intro hg
        rw [pP_4b hb] at hg
        exact absurd hg hb
    · have g := pP_len (N := N) (w := w) (d := d) (s := s) (t := 7) (by omega)
      exact kin_seq (b := false) pP_5 (ih 7 d s (by omega) hd (by omega)) (ih 6 d _ (by omega) hd (by omega)) (fun _ => rfl) (fun _ => rfl) (fun _ => rfl) (fun _ => rfl) (fun _ => rfl) (fun _ => rfl) (by decide) (by decide) (by decide)
    · by_cases c : s.bad = 0 ∧ (kd s.l = 43 ∨ kd s.l = 45)
      · have g1 : (nextP s).l.length + 1 = s.l.length := c.2.elim (fun e => nx_lt e (by decide)) (fun e => nx_lt e (by decide))
        have g2 := pP_len (N := N) (w := w) (d := d) (s := nextP s) (t := 7) (by omega)
        have g3 : (emitP (if kd s.l = 43 then 10 else 11) (pP N w 7 d (nextP s))).l = _ := len_emit
        exact kin_loop (c := 0) (b := false) c.1 (by rw [pP_6 (s := s), if_pos c]) (ih 7 d _ (by omega) hd (by omega)) (ih 6 d _ (by omega) hd (by rw [g3]; omega)) (fun _ => rfl) (fun _ => rfl) (fun _ => rfl) (fun _ => rfl) (fun _ => kin_a (by split <;> decide)) (by decide) (by decide)
      · exact kin_done (by rw [pP_6, if_neg c]) (by decide)
    · have g := pP_len (N := N) (w := w) (d := d) (s := s) (t := 9) (by omega)
      exact kin_seq (b := false) pP_7 (ih 9 d s (by omega) hd (by omega)) (ih 8 d _ (by omega) hd (by omega)) (fun _ => rfl) (fun _ => rfl) (fun _ => rfl) (fun _ => rfl) (fun _ => rfl) (fun _ => rfl) (by decide) (by decide) (by decide)
    · by_cases c : s.bad = 0 ∧ kd s.l = 42
      · have g1 := nx_lt c.2 (by decide)
        have g2 := pP_len (N := N) (w := w) (d := d) (s := nextP s) (t := 9) (by omega)
        have g3 : (emitP 12 (pP N w 9 d (nextP s))).l = _ := len_emit
        exact kin_loop (c := 0) (b := false) c.1 (by rw [pP_8 (s := s), if_pos c]) (ih 9 d _ (by omega) hd (by omega)) (ih 8 d _ (by omega) hd (by rw [g3]; omega)) (fun _ => rfl) (fun _ => rfl) (fun _ => rfl) (fun _ => rfl) (fun _ => kin_a (by decide)) (by decide) (by decide)
      · exact kin_done (by rw [pP_8, if_neg c]) (by decide)
    · by_cases hb : s.bad = 0
      · cases hn : nmP w (kd s.l) with
        | some c =>
          intro hg
          have e := pP_9n (N := N) (d := d) hb hn
          rw [e] at hg
          obtain ⟨q1, q2⟩ := emitP_ok hg
          refine ⟨hb, [100 + c], ?_, Or.inl (by simp), fun S hS => ?_⟩
          · rw [e, q2]
            rfl
          · have hS : S.length ≤ 2 * d + 10 := hS
            exact kin_v (wd_ok hw hn).1 (Or.inr (wd_ok hw hn).2) (by show S.length < 40; omega)
        | none =>
          by_cases k40 : kd s.l = 40
          · have g1 := nx_lt k40 (by decide)
            intro hg
            have e := pP_9p (N := N) (d := d) hb hn k40
            by_cases h6 : d = 6
            · rw [e, if_pos h6] at hg
              exact absurd hg (failP_ne (by decide) hb)
            · rw [if_neg h6] at e
              rw [e] at hg
              obtain ⟨-, nw, q3, q5, q4⟩ := ih 5 (d + 1) (nextP s) (by omega) (by omega) (by omega) (needP_b hg)
              refine ⟨hb, nw, ?_, Or.inl (q5.resolve_right (by decide)), fun S hS => ?_⟩
              · rw [e, needP_st, q3]
                rfl
              · exact q4 S (by show _ ≤ _ + 8; have : S.length ≤ 2 * d + 10 := hS; omega)
          · intro hg
            have e := pP_9v (N := N) (d := d) hb hn k40
            rw [e] at hg
            obtain ⟨q1, q2⟩ := emitP_ok hg
            obtain ⟨-, -, v0, v1, q3⟩ := numP_ok q1
            refine ⟨hb, [1000 + (numP N 0 999 s).1], ?_, Or.inl (by simp), fun S hS => ?_⟩
            · rw [e, q2, numP_st]
            · have hS : S.length ≤ 2 * d + 10 := hS
              rw [q3]
              exact kin_v (ge_1000 v0 v1).1 (Or.inl (ge_1000 v0 v1).2) (by show S.length < 40; omega)
      · intro hg
        rw [pP_9b hb] at hg
        exact absurd hg hb
end KinAll
/-- a law read without a fault is a law that can be run -/
theorem kin_law {N w t : Nat} {s : ps} (hw : 4 ≤ w ∧ w ≤ 6) (ht : t = 0 ∨ t = 5) (hs : s.st = []) (hg : (pP N w t 0 s).bad = 0) : s.bad = 0 ∧ (pP N w t 0 s).st ≠ [] ∧ kinK (wW w) (pP N w t 0 s).st [] = some [decide (t = 0)] := by
  obtain ⟨g1, nw, e, z, k⟩ := kin_all (N := N) hw _ t 0 s (by omega) (by omega) (Nat.le_refl _) hg
  rw [hs, List.nil_append] at e
  refine ⟨g1, ?_, ?_⟩
  · rw [e]
    rcases z with z | z
    · exact z
    · omega
  · rw [e]
    have := k [] (Nat.zero_le _)
    rcases ht with rfl | rfl
    · exact this
    · exact this
