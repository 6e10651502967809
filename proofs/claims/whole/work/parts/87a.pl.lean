/-! ===== the place of a fault; the room of a line ===== -/
section Pl
variable {N w : Nat} {c : Int32} {s : ps}
theorem fail_g {x : Int32} (hx : x ≠ 0) (h : (failP N x s).bad = 0) : False := by
  by_cases hb : s.bad = 0
  · exact failP_ne hx hb h
  · rw [failP_bad hb] at h
    exact hb h
theorem need_g (h : (needP N c s).bad = 0) : s.bad = 0 ∧ kd s.l = c ∧ needP N c s = nextP s := by
  by_cases e : s.bad = 0 ∧ kd s.l = c
  · exact ⟨e.1, e.2, if_pos e⟩
  · rw [needP, if_neg e] at h
    exact (fail_g (by decide) h).elim
theorem need_pl (h : (needP N c s).bad = 0) : s.bad = 0 ∧ (needP N c s).pl = s.pl := ⟨(need_g h).1, by rw [(need_g h).2.2]; rfl⟩
theorem num_pl {lo hi : Int32} (h : (numP N lo hi s).2.bad = 0) : s.bad = 0 ∧ (numP N lo hi s).2.pl = s.pl := ⟨(numP_ok h).1, by rw [(numP_ok h).2.2.2.2]; rfl⟩
theorem emit_pl : (emitP c s).pl = s.pl := by
  unfold emitP
  split <;> rfl
theorem prs_pl : ∀ (m t d : Nat) (s : ps), t < 10 → (prs N w m t d s).bad = 0 → s.bad = 0 ∧ (prs N w m t d s).pl = s.pl := by
  intro m
  induction m with
  | zero => intro t d s _ h; rw [prs] at h ⊢; exact ⟨h, rfl⟩
  | succ m ih =>
    intro t d s ht h
    have seq : ∀ (t1 t2 : Nat) (s : ps), t1 < 10 → t2 < 10 → (prs N w m t2 d (prs N w m t1 d s)).bad = 0 → s.bad = 0 ∧ (prs N w m t2 d (prs N w m t1 d s)).pl = s.pl := by
      intro t1 t2 s h1 h2 h
      have a := ih t2 d _ h2 h
      have b := ih t1 d _ h1 a.1
      exact ⟨b.1, a.2.trans b.2⟩
    have loop : ∀ (t1 t2 : Nat) (x : Int32) (s : ps), s.bad = 0 → t1 < 10 → t2 < 10 → (prs N w m t2 d (emitP x (prs N w m t1 d (nextP s)))).bad = 0 → s.bad = 0 ∧ (prs N w m t2 d (emitP x (prs N w m t1 d (nextP s)))).pl = s.pl := by
      intro t1 t2 x s hb h1 h2 h
      have a := ih t2 d _ h2 h
      have b0 := a.1
      rw [emitP_b] at b0
      have b := ih t1 d _ h1 b0
      exact ⟨hb, a.2.trans (emit_pl.trans b.2)⟩
    rcases (show t = 0 ∨ t = 1 ∨ t = 2 ∨ t = 3 ∨ t = 4 ∨ t = 5 ∨ t = 6 ∨ t = 7 ∨ t = 8 ∨ t = 9 by omega) with rfl | rfl | rfl | rfl | rfl | rfl | rfl | rfl | rfl | rfl
    · rw [prs] at h ⊢
      exact seq 2 1 s (by omega) (by omega) h
    · rw [prs] at h ⊢
      split at h
      · next c => rw [if_pos c]; exact loop 2 1 17 s c.1 (by omega) (by omega) h
      · next c => rw [if_neg c]; exact ⟨h, rfl⟩
    · rw [prs] at h ⊢
      exact seq 4 3 s (by omega) (by omega) h
    · rw [prs] at h ⊢
      split at h
      · next c => rw [if_pos c]; exact loop 4 3 16 s c.1 (by omega) (by omega) h
      · next c => rw [if_neg c]; exact ⟨h, rfl⟩
    · rw [prs] at h ⊢
      by_cases hb : s.bad ≠ 0
      · rw [if_pos hb] at h; exact absurd h hb
      · rw [if_neg hb] at h ⊢
        have hb : s.bad = 0 := Decidable.not_not.mp hb
        by_cases k1 : kd s.l = 15
        · rw [if_pos k1] at h ⊢
          by_cases h6 : d = 6
          · rw [if_pos h6] at h; exact (fail_g (by decide) h).elim
          · rw [if_neg h6] at h ⊢
            rw [emitP_b] at h
            exact ⟨hb, emit_pl.trans (ih 4 _ _ (by omega) h).2⟩
        · rw [if_neg k1] at h ⊢
          by_cases k2 : kd s.l = 91
          · rw [if_pos k2] at h ⊢
            by_cases h6 : d = 6
            · rw [if_pos h6] at h; exact (fail_g (by decide) h).elim
            · rw [if_neg h6] at h ⊢
              have a := need_pl h
              exact ⟨hb, a.2.trans (ih 0 _ _ (by omega) a.1).2⟩
          · rw [if_neg k2] at h ⊢
            cases hc : cmP (kd (prs N w m 5 d s).l) with
            | none =>
              rw [hc] at h
              exact (fail_g (by decide) h).elim
            | some x =>
              rw [hc] at h
              have h : (if (prs N w m 5 d s).bad = 0 then emitP x (prs N w m 5 d (nextP (prs N w m 5 d s))) else prs N w m 5 d s).bad = 0 := h
              show _ ∧ (if (prs N w m 5 d s).bad = 0 then emitP x (prs N w m 5 d (nextP (prs N w m 5 d s))) else prs N w m 5 d s).pl = s.pl
              by_cases hb1 : (prs N w m 5 d s).bad = 0
              · rw [if_pos hb1] at h ⊢
                rw [emitP_b] at h
                have a := ih 5 d _ (by omega) h
                exact ⟨hb, emit_pl.trans (a.2.trans (ih 5 d _ (by omega) hb1).2)⟩
              · rw [if_neg hb1] at h
                exact absurd h hb1
    · rw [prs] at h ⊢
      exact seq 7 6 s (by omega) (by omega) h
    · rw [prs] at h ⊢
      split at h
      · next c => rw [if_pos c]; exact loop 7 6 _ s c.1 (by omega) (by omega) h
      · next c => rw [if_neg c]; exact ⟨h, rfl⟩
    · rw [prs] at h ⊢
      exact seq 9 8 s (by omega) (by omega) h
    · rw [prs] at h ⊢
      split at h
      · next c => rw [if_pos c]; exact loop 9 8 12 s c.1 (by omega) (by omega) h
      · next c => rw [if_neg c]; exact ⟨h, rfl⟩
    · rw [prs] at h ⊢
      by_cases hb : s.bad ≠ 0
      · rw [if_pos hb] at h; exact absurd h hb
      · rw [if_neg hb] at h ⊢
        have hb : s.bad = 0 := Decidable.not_not.mp hb
        cases hn : nmP w (kd s.l) with
        | some x =>
          show _ ∧ (emitP (100 + x) (nextP s)).pl = s.pl
          exact ⟨hb, emit_pl⟩
        | none =>
          rw [hn] at h
          have h : (if kd s.l = 40 then (if d = 6 then failP N 4 s else needP N 41 (prs N w m 5 (d + 1) (nextP s))) else emitP (1000 + (numP N 0 999 s).1) (numP N 0 999 s).2).bad = 0 := h
          show _ ∧ (if kd s.l = 40 then (if d = 6 then failP N 4 s else needP N 41 (prs N w m 5 (d + 1) (nextP s))) else emitP (1000 + (numP N 0 999 s).1) (numP N 0 999 s).2).pl = s.pl
          by_cases k4 : kd s.l = 40
          · rw [if_pos k4] at h ⊢
            by_cases h6 : d = 6
            · rw [if_pos h6] at h; exact (fail_g (by decide) h).elim
            · rw [if_neg h6] at h ⊢
              have a := need_pl h
              exact ⟨hb, a.2.trans (ih 5 _ _ (by omega) a.1).2⟩
          · rw [if_neg k4] at h ⊢
            rw [emitP_b] at h
            exact ⟨hb, emit_pl.trans (num_pl h).2⟩
theorem lw_pl {t : Nat} (ht : t < 10) (h : (lwS N w t s).bad = 0) : (lwS N w t s).pl = s.pl := by
  have a := prs_pl (N := N) (w := w) _ t 0 (clr (needP N 58 (nextP s))) ht h
  have b := need_pl (N := N) (c := 58) (s := nextP s) a.1
  exact a.2.trans b.2
theorem fl_pl {p : Nat} : ∀ (m : Nat) (s : ps) (T : row), (flP N p m s T).1.bad = 0 → (flP N p m s T).1.pl = s.pl := by
  intro m
  induction m with
  | zero => intro s T _; rfl
  | succ m ih =>
    intro s T h
    rw [flP] at h ⊢
    by_cases hb : s.bad ≠ 0
    · rw [if_pos hb]
    · rw [if_neg hb] at h ⊢
      by_cases k1 : kd s.l = 11
      · rw [if_pos k1] at h ⊢
        exact (ih _ _ h).trans (num_pl (flP_bad _ _ _ h)).2
      · rw [if_neg k1] at h ⊢
        by_cases k2 : kd s.l = 12
        · rw [if_pos k2] at h ⊢
          exact ih _ _ h
        · rw [if_neg k2] at h ⊢
          by_cases k3 : kd s.l = 13
          · rw [if_pos k3] at h ⊢
            have a := num_pl (flP_bad _ _ _ h)
            have b := need_pl (N := N) (c := 14) a.1
            exact (ih _ _ h).trans (a.2.trans (b.2.trans (num_pl b.1).2))
          · rw [if_neg k3]
theorem p5_pl {T : row} (h : (p5 N s T).1.bad = 0) : (p5 N s T).1.pl = s.pl := by
  have g4 : (p4 N s T).2.bad = 0 := flP_bad _ _ _ h
  have e5 : (p5 N s T).1.pl = (p4 N s T).2.pl := by
    have e : p5 N s T = flP N (kP T) (p4 N s T).2.l.length (p4 N s T).2 (T4 (kP T) T) := rfl
    rw [e] at h ⊢
    exact fl_pl (N := N) (p := kP T) (p4 N s T).2.l.length (p4 N s T).2 (T4 (kP T) T) h
  have e4 : p4 N s T = numP N 0 (T 2 - 1) (p3 N s T) := rfl
  have e2 : p2 N s T = numP N 0 (T 1 - 1) (needP N 6 (nextP s)) := rfl
  rw [e5]
  rw [e4] at g4 ⊢
  have a := num_pl g4
  rw [a.2]
  have a1 := a.1
  by_cases c : (p2 N s T).2.bad = 0 ∧ kd (p2 N s T).2.l = 2 ∧ sitK T (p2 N s T).1 (tvl (p2 N s T).2.l) ≠ none
  · rw [p3, if_pos c] at a1
    exact (fail_g (by decide) a1).elim
  · rw [p3, if_neg c] at a1 ⊢
    rw [e2] at a1 ⊢
    have b := num_pl a1
    rw [b.2, (need_pl b.1).2]
    rfl
theorem per_1 {T : row} (h8 : kP T ≠ 8) : (perP N s T).1 = (p5 N s T).1 := by rw [perP, if_neg h8]
theorem bod_pl {T : row} (h : (bodP N s T).1.bad = 0) : (bodP N s T).1.pl = s.pl := by
  by_cases k5 : kd s.l = 5
  · have e : (bodP N s T).1 = (perP N s T).1 := by rw [bodP, if_pos k5]
    rw [e] at h ⊢
    by_cases h8 : kP T = 8
    · have e2 : (perP N s T).1 = failP N 4 s := by rw [perP, if_pos h8]
      rw [e2] at h
      exact (fail_g (by decide) h).elim
    · rw [per_1 h8] at h ⊢
      exact p5_pl h
  · by_cases k10 : kd s.l = 10
    · have e : (bodP N s T).1 = (numP N 0 999 (nextP s)).2 := by rw [bodP, if_neg k5, if_pos k10]
      rw [e] at h ⊢
      rw [(num_pl h).2]
      rfl
    · by_cases k7 : kd s.l = 7
      · have e : (bodP N s T).1 = lwS N 4 0 s := by rw [bodP, if_neg k5, if_neg k10, if_pos k7]
        rw [e] at h ⊢
        exact lw_pl (by omega) h
      · by_cases k8 : kd s.l = 8
        · have e : (bodP N s T).1 = lwS N 5 5 s := by rw [bodP, if_neg k5, if_neg k10, if_neg k7, if_pos k8]
          rw [e] at h ⊢
          exact lw_pl (by omega) h
        · by_cases k9 : kd s.l = 9
          · have e : (bodP N s T).1 = lwS N 6 5 s := by rw [bodP, if_neg k5, if_neg k10, if_neg k7, if_neg k8, if_pos k9]
            rw [e] at h ⊢
            exact lw_pl (by omega) h
          · have e : (bodP N s T).1 = failP N 2 s := by rw [bodP, if_neg k5, if_neg k10, if_neg k7, if_neg k8, if_neg k9]
            rw [e] at h
            exact (fail_g (by decide) h).elim
theorem ln_pl {x : ps × row} (h : (lnP N x).1.bad = 0) : (lnP N x).1.pl = x.1.pl := by
  have e : (lnP N x).1 = needP N 59 (bodP N x.1 x.2).1 := rfl
  rw [e] at h ⊢
  have a := need_pl h
  rw [a.2]
  exact bod_pl a.1
theorem rdL_pl : ∀ (m : Nat) (x : ps × row), (rdL N m x).1.bad = 0 → x.1.bad = 0 ∧ (rdL N m x).1.pl = x.1.pl := by
  intro m
  induction m with
  | zero => intro x h; exact ⟨h, rfl⟩
  | succ m ih =>
    intro x h
    rw [rdL] at h ⊢
    by_cases c : x.1.bad = 0 ∧ kd x.1.l ≠ 0
    · rw [if_pos c] at h ⊢
      have a := ih _ h
      exact ⟨c.1, a.2.trans (ln_pl a.1)⟩
    · rw [if_neg c] at h ⊢
      exact ⟨h, rfl⟩
end Pl
theorem bch_pl {N : Nat} {f : row} (h : (bchP N f).1.bad = 0) : (bchP N f).1.pl = -1 := by
  have e0 : bchP N f = rdL N (opP N f).1.l.length (opP N f) := rfl
  have e1 : (opP N f).1 = needP N 59 (op3 N f).2 := rfl
  have e2 : op3 N f = numP N 1 5 (op2 N f).2 := rfl
  have e3 : op2 N f = numP N 1 4 (op1 N f) := rfl
  have e4 : op1 N f = needP N 4 (psm (tkn f N 0) 0 (-1) stM) := rfl
  rw [e0] at h ⊢
  have a := rdL_pl _ _ h
  rw [a.2]
  have a1 := a.1
  rw [e1] at a1 ⊢
  have b := need_pl a1
  rw [b.2]
  have b1 := b.1
  rw [e2] at b1 ⊢
  have c := num_pl b1
  rw [c.2]
  have c1 := c.1
  rw [e3] at c1 ⊢
  have d := num_pl c1
  rw [d.2]
  have d1 := d.1
  rw [e4] at d1 ⊢
  rw [(need_pl d1).2]
theorem lwU_any {s2 : ps} : (lwU s2).1 ≤ 3 ∧ (lwU s2).2 ≤ 50 + s2.st.length := by
  unfold lwU
  split
  · exact ⟨Nat.le_refl _, Nat.le_refl _⟩
  · exact ⟨Nat.zero_le _, Nat.zero_le _⟩
theorem lnU_03 {N : Nat} {s : ps} : (lnU N s).1 = 0 ∨ (lnU N s).1 = 3 := by
  have key : ∀ s2 : ps, (lwU s2).1 = 0 ∨ (lwU s2).1 = 3 := by
    intro s2
    unfold lwU
    split
    · exact Or.inr rfl
    · exact Or.inl rfl
  unfold lnU
  split
  · exact key _
  · split
    · exact key _
    · split
      · exact key _
      · exact Or.inl rfl
theorem lwS_st {N w t : Nat} {s : ps} (ht : t < 10) : (lwS N w t s).st.length + (lwS N w t s).l.length ≤ (needP N 58 (nextP s)).l.length := by
  have g := pP_tot (N := N) (w := w) (d := 0) (s := clr (needP N 58 (nextP s))) (t := t) ht
  have e : tot (clr (needP N 58 (nextP s))) = 0 + (needP N 58 (nextP s)).l.length := rfl
  have g : (lwS N w t s).st.length + (lwS N w t s).l.length ≤ tot (clr (needP N 58 (nextP s))) := g
  omega
theorem lnU_any {N : Nat} {s : ps} : (lnU N s).1 ≤ 3 ∧ (lnU N s).2 ≤ 50 + s.l.length := by
  have key : ∀ w t, t < 10 → (lwU (lwS N w t s)).1 ≤ 3 ∧ (lwU (lwS N w t s)).2 ≤ 50 + s.l.length := by
    intro w t ht
    have a := lwU_any (s2 := lwS N w t s)
    have b := lwS_st (N := N) (w := w) (s := s) ht
    have c := len_need (N := N) (c := 58) (s := nextP s)
    have d := len_next (s := s)
    exact ⟨a.1, by omega⟩
  unfold lnU
  split
  · exact key 4 0 (by omega)
  · split
    · exact key 5 5 (by omega)
    · split
      · exact key 6 5 (by omega)
      · exact ⟨Nat.zero_le _, Nat.zero_le _⟩
theorem lnU_good {N : Nat} {s : ps} {T : row} (hk : kd s.l ≠ 0) (h : (lnP N (s, T)).1.bad = 0) : (lnU N s).1 + (lnP N (s, T)).1.l.length ≤ s.l.length ∧ (lnU N s).2 + 14 * (lnP N (s, T)).1.l.length ≤ 14 * s.l.length := by
  have hL := ln_le (N := N) (x_q := (s, T))
  have hL : (lnP N (s, T)).1.l.length ≤ s.l.length := hL
  have g59 := need_g (N := N) (c := 59) (s := (bodP N s T).1) h
  have e59 : (lnP N (s, T)).1.l.length + 1 = (bodP N s T).1.l.length := by
    show (needP N 59 (bodP N s T).1).l.length + 1 = _
    rw [g59.2.2]
    exact nx_lt g59.2.1 (by decide)
  have key : ∀ w t, (4 ≤ w ∧ w ≤ 6) → (t = 0 ∨ t = 5) → (bodP N s T).1 = lwS N w t s → (lwU (lwS N w t s)).1 + (lnP N (s, T)).1.l.length ≤ s.l.length ∧ (lwU (lwS N w t s)).2 + 14 * (lnP N (s, T)).1.l.length ≤ 14 * s.l.length := by
    intro w t hw ht e
    have hb : (lwS N w t s).bad = 0 := by rw [← e]; exact g59.1
    rw [e] at e59
    have a := kin_law (N := N) (w := w) (t := t) (s := clr (needP N 58 (nextP s))) hw ht rfl hb
    have b := need_g (N := N) (c := 58) (s := nextP s) a.1
    have c1 : (needP N 58 (nextP s)).l.length + 1 = (nextP s).l.length := by rw [b.2.2]; exact nx_lt b.2.1 (by decide)
    have c2 := len_nextK hk
    have c3 := lwS_st (N := N) (w := w) (t := t) (s := s) (by omega)
    have c4 : 0 < (lwS N w t s).st.length := List.length_pos_iff.mpr a.2.1
    rw [lwU, if_pos hb]
    show 3 + _ ≤ _ ∧ 50 + _ + _ ≤ _
    omega
  unfold lnU
  by_cases k7 : kd s.l = 7
  · rw [if_pos k7]
    exact key 4 0 (by omega) (by omega) (by rw [bodP, if_neg (by rw [k7]; decide), if_neg (by rw [k7]; decide), if_pos k7])
  · rw [if_neg k7]
    by_cases k8 : kd s.l = 8
    · rw [if_pos k8]
      exact key 5 5 (by omega) (by omega) (by rw [bodP, if_neg (by rw [k8]; decide), if_neg (by rw [k8]; decide), if_neg k7, if_pos k8])
    · rw [if_neg k8]
      by_cases k9 : kd s.l = 9
      · rw [if_pos k9]
        exact key 6 5 (by omega) (by omega) (by rw [bodP, if_neg (by rw [k9]; decide), if_neg (by rw [k9]; decide), if_neg k7, if_neg k8, if_pos k9])
      · rw [if_neg k9]
        show 0 + _ ≤ _ ∧ 0 + _ ≤ _
        omega
theorem go_measC {Γ : gam} {R : Room} {M : mth} {Q : qp} {cells slots pc : Nat} {lv : List (Option Value)} {σ : sto} {n : Nat} (I : Nat → Nat → Nat → List (Option Value) → sto → Nat → Prop) (m : Nat) (h0 : I m cells slots lv σ n)
    (hs : ∀ m c e lv σ n, I m c e lv σ n → (∀ m' c' e' lv' σ' n', m' < m → I m' c' e' lv' σ' n' → Go Γ R M Q c' e' pc lv' [] σ' n') → Go Γ R M Q c e pc lv [] σ n) : Go Γ R M Q cells slots pc lv [] σ n := by
  have key : ∀ b m, m < b → ∀ c e lv σ n, I m c e lv σ n → Go Γ R M Q c e pc lv [] σ n := by
    intro b
    induction b with
    | zero => intro m hm; omega
    | succ b ih =>
      intro m hm c e lv σ n hI
      exact hs m c e lv σ n hI (fun m' c' e' lv' σ' n' hlt h' => ih m' (by omega) c' e' lv' σ' n' h')
  exact key (m + 1) m (Nat.lt_succ_self m) cells slots lv σ n h0
