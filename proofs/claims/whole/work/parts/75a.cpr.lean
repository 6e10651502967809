/-! ===== the pure parser: behind a fault, and what is left ===== -/
section PrsBd
variable {N w d : Nat} {s : ps}
theorem pP_b8 (h : s.bad ≠ 0) : pP N w 8 d s = s := by rw [pP_8, if_neg (fun c => h c.1)]
theorem pP_b7 (h : s.bad ≠ 0) : pP N w 7 d s = s := by rw [pP_7, pP_9b h, pP_b8 h]
theorem pP_b6 (h : s.bad ≠ 0) : pP N w 6 d s = s := by rw [pP_6, if_neg (fun c => h c.1)]
theorem pP_b5 (h : s.bad ≠ 0) : pP N w 5 d s = s := by rw [pP_5, pP_b7 h, pP_b6 h]
theorem pP_b3 (h : s.bad ≠ 0) : pP N w 3 d s = s := by rw [pP_3, if_neg (fun c => h c.1)]
theorem pP_b2 (h : s.bad ≠ 0) : pP N w 2 d s = s := by rw [pP_2, pP_4b h, pP_b3 h]
theorem pP_b1 (h : s.bad ≠ 0) : pP N w 1 d s = s := by rw [pP_1, if_neg (fun c => h c.1)]
theorem pP_b0 (h : s.bad ≠ 0) : pP N w 0 d s = s := by rw [pP_0, pP_b2 h, pP_b1 h]
end PrsBd
section Sub
variable {N w : Nat} {c : Int32} {s : ps}
theorem sub_next {x : tok} (h : x ∈ (nextP s).l) : x ∈ s.l := List.mem_of_mem_tail h
theorem sub_need {x : tok} (h : x ∈ (needP N c s).l) : x ∈ s.l := by
  unfold needP at h
  split at h
  · exact sub_next h
  · rw [len_fail] at h; exact h
theorem sub_num {lo hi : Int32} {x : tok} (h : x ∈ (numP N lo hi s).2.l) : x ∈ s.l := by
  unfold numP at h
  split at h
  · split at h
    · exact sub_next h
    · have h : x ∈ (failP N 3 s).l := h
      rw [len_fail] at h; exact h
  · have h : x ∈ (failP N 2 s).l := h
    rw [len_fail] at h; exact h
theorem prs_sub : ∀ (m t d : Nat) (s : ps) (x : tok), t < 10 → x ∈ (prs N w m t d s).l → x ∈ s.l := by
  intro m
  induction m with
  | zero => intro t d s x _ h; rw [prs] at h; exact h
  | succ m ih =>
    intro t d s x ht h
    rcases (show t = 0 ∨ t = 1 ∨ t = 2 ∨ t = 3 ∨ t = 4 ∨ t = 5 ∨ t = 6 ∨ t = 7 ∨ t = 8 ∨ t = 9 by omega) with rfl | rfl | rfl | rfl | rfl | rfl | rfl | rfl | rfl | rfl
    · rw [prs] at h
      exact ih 2 d s x (by omega) (ih 1 d _ x (by omega) h)
    · rw [prs] at h
      split at h
      · have h := ih 1 d _ x (by omega) h
        rw [len_emit] at h
        exact sub_next (ih 2 d _ x (by omega) h)
      · exact h
    · rw [prs] at h
      exact ih 4 d s x (by omega) (ih 3 d _ x (by omega) h)
    · rw [prs] at h
      split at h
      · have h := ih 3 d _ x (by omega) h
        rw [len_emit] at h
        exact sub_next (ih 4 d _ x (by omega) h)
      · exact h
    · rw [prs] at h
      split at h
      · exact h
      · split at h
        · split at h
          · rw [len_fail] at h; exact h
          · rw [len_emit] at h; exact sub_next (ih 4 _ _ x (by omega) h)
        · split at h
          · split at h
            · rw [len_fail] at h; exact h
            · exact sub_next (ih 0 _ _ x (by omega) (sub_need h))
          · split at h
            · rw [len_fail] at h; exact ih 5 d s x (by omega) h
            · split at h
              · rw [len_emit] at h; exact ih 5 d s x (by omega) (sub_next (ih 5 _ _ x (by omega) h))
              · exact ih 5 d s x (by omega) h
    · rw [prs] at h
      exact ih 7 d s x (by omega) (ih 6 d _ x (by omega) h)
    · rw [prs] at h
      split at h
      · have h := ih 6 d _ x (by omega) h
        rw [len_emit] at h
        exact sub_next (ih 7 d _ x (by omega) h)
      · exact h
    · rw [prs] at h
      exact ih 9 d s x (by omega) (ih 8 d _ x (by omega) h)
    · rw [prs] at h
      split at h
      · have h := ih 8 d _ x (by omega) h
        rw [len_emit] at h
        exact sub_next (ih 9 d _ x (by omega) h)
      · exact h
    · rw [prs] at h
      split at h
      · exact h
      · split at h
        · rw [len_emit] at h; exact sub_next h
        · split at h
          · split at h
            · rw [len_fail] at h; exact h
            · exact sub_next (ih 5 _ _ x (by omega) (sub_need h))
          · rw [len_emit] at h; exact sub_num h
end Sub
theorem pP_sub {N w t d : Nat} {s : ps} {x : tok} (ht : t < 10) (h : x ∈ (pP N w t d s).l) : x ∈ s.l := prs_sub _ t d s x ht h
/-- numbers among the tokens lie between 0 and 999 -/
def vOK (L : List tok) : Prop := ∀ x ∈ L, x.1 = 2 → 0 ≤ x.2.1 ∧ x.2.1 ≤ 999
theorem vOK.pP {N w t d : Nat} {s : ps} (h : vOK s.l) (ht : t < 10) : vOK (pP N w t d s).l := fun x hx => h x (pP_sub ht hx)
theorem vOK.nx {s : ps} (h : vOK s.l) : vOK (nextP s).l := fun x hx => h x (sub_next hx)
theorem vOK.em {s : ps} {c : Int32} (h : vOK s.l) : vOK (emitP c s).l := by rw [len_emit]; exact h
theorem vOK.hd {L : List tok} (h : vOK L) (h2 : kd L = 2) : 0 ≤ tvl L ∧ tvl L ≤ 999 := by
  match L, h, h2 with
  | [], h, h2 => exact absurd h2 (by decide)
  | x :: L', h, h2 => exact h x (List.mem_cons_self ..) h2
theorem trS_num {v : Int32} (h0 : 0 ≤ v) (h1 : v ≤ 999) : trS (1000 + v) = v := by
  obtain ⟨j, hj, rfl⟩ := nI_of2 (M := 999) (n := 999) rfl (Int32.not_lt.mpr h0) h1
  have e : (1000 : Int32) + nI j = nI (1000 + j) := nI_add 1000 j
  have g : (1000 : Int32) ≤ 1000 + nI j := by rw [e]; exact nI_le (a := 1000) (by omega) (by omega)
  rw [trS, if_pos g, Int32.add_comm, Int32.add_sub_cancel]
def nmC (w : Nat) (k : Int32) : Int32 := match nmP w k with
  | none => 0
  | some c => trS (100 + c)
theorem nmC_n {w : Nat} {k : Int32} (h : nmC w k = 0) : nmP w k = none := by
  cases e : nmP w k with
  | none => rfl
  | some c =>
    rw [nmC, e] at h
    rcases (nmP_r e).1 with rfl | rfl | rfl | rfl | rfl <;> exact absurd h (by decide)
theorem nmC_s {w : Nat} {k : Int32} (h : nmC w k ≠ 0) : ∃ c, nmP w k = some c ∧ nmC w k = trS (100 + c) := by
  cases e : nmP w k with
  | none => rw [nmC, e] at h; exact absurd rfl h
  | some c => exact ⟨c, rfl, by rw [nmC, e]⟩
theorem nx_em {c : Int32} {s : ps} (hb : s.bad = 0) : nextP (emitP c s) = emitP c (nextP s) := by
  rw [emitP, if_pos hb, emitP, if_pos (show (nextP s).bad = 0 from hb)]
  rfl
theorem pP_9w {N w d : Nat} {s : ps} (h : s.bad = 0) (hn : nmP w (kd s.l) = none) (hk : kd s.l ≠ 40) (h2 : kd s.l ≠ 2) : pP N w 9 d s = failP N 2 s := by
  rw [pP_9v h hn hk, numP, if_neg (fun x => h2 x.2)]
  show emitP _ (failP N 2 s) = _
  exact emitP_bd (failP_ne (by decide) h)
theorem pP_9x {N w d : Nat} {s : ps} (h : s.bad = 0) (h2 : kd s.l = 2) (hv : vOK s.l) : pP N w 9 d s = emitP (1000 + tvl s.l) (nextP s) := by
  have e1 : nmP w (kd s.l) = none := by
    rw [h2]
    unfold nmP
    (repeat' split) <;> first | rfl | (rename_i e; exact absurd e (by decide))
  rw [pP_9v h e1 (by rw [h2]; decide), numP, if_pos ⟨h, h2⟩, if_pos (hv.hd h2)]
/-- the class's reader takes a token -/
theorem CrAt.op {Γ : gam} {σ : sto} {a N b : Nat} {lw : Int32} {s : ps} (hC : CrAt Γ σ a N b lw s) (hne : s.bad = 0 → s.l ≠ []) : ∃ (tk t sz pl : Int32), σ (a + 71) = some (cO 4 [.ref (a + 77), .ref (a + 78), .ref (a + 79), .ref (a + 80), .int tk, .int t, .int sz, .int lw, .ref b, .ref (a + 72), .int s.bad, .int pl]) ∧ (s.bad = 0 → CrAt Γ (sup σ (a + 71) (cO 4 [.ref (a + 77), .ref (a + 78), .ref (a + 79), .ref (a + 80), .int tk, .int (t + 1), .int sz, .int lw, .ref b, .ref (a + 72), .int s.bad, .int pl])) a N b lw (nextP s)) ∧ (s.bad ≠ 0 → CrAt Γ (sup σ (a + 71) (cO 4 [.ref (a + 77), .ref (a + 78), .ref (a + 79), .ref (a + 80), .int tk, .int (t + 1), .int sz, .int lw, .ref b, .ref (a + 72), .int s.bad, .int pl])) a N b lw s) := by
  obtain ⟨T, t, sz, pl, ck, cv, cp, cc, ⟨r0, r1, r2, r3, r4⟩, hT, hpl, hl, hst⟩ := hC
  refine ⟨nI T, t, sz, pl, r0, fun hb => ?_, fun hb => ?_⟩
  · obtain ⟨o1, et, eT, hk1, h0, hp⟩ := hl hb
    have e1 : t + 1 = nI (o1 + 1) := by rw [et, nI_1]
    refine cr_next (o := o1) (T := T) (sz := sz) (pl := pl) (ck := ck) (cv := cv) (cp := cp) (cc := cc) hb (hne hb) ⟨?_, sup_ne (by omega) r1, sup_ne (by omega) r2, sup_ne (by omega) r3, sup_ne (by omega) r4⟩ hT eT hk1 h0 hp hst hpl
    rw [← e1]
    exact sup_eq
  · exact ⟨T, t + 1, sz, pl, ck, cv, cp, cc, ⟨sup_eq, sup_ne (by omega) r1, sup_ne (by omega) r2, sup_ne (by omega) r3, sup_ne (by omega) r4⟩, hT, hpl, fun e => absurd e hb, fun e => absurd e hb⟩
theorem CrAt.r0 {Γ : gam} {σ : sto} {a N b : Nat} {lw : Int32} {s : ps} (hC : CrAt Γ σ a N b lw s) : ∃ (tk t sz pl : Int32), σ (a + 71) = some (cO 4 [.ref (a + 77), .ref (a + 78), .ref (a + 79), .ref (a + 80), .int tk, .int t, .int sz, .int lw, .ref b, .ref (a + 72), .int s.bad, .int pl]) := by
  obtain ⟨T, t, sz, pl, ck, cv, cp, cc, ⟨r0, r1, r2, r3, r4⟩, hT, hpl, hl, hst⟩ := hC
  exact ⟨nI T, t, sz, pl, r0⟩
/-- its value at the head -/
theorem CrAt.vl {Γ : gam} {σ : sto} {a N b : Nat} {lw : Int32} {s : ps} (hC : CrAt Γ σ a N b lw s) (hb : s.bad = 0) (hne : s.l ≠ []) : ∃ (tk sz pl : Int32) (o : Nat) (cv : row), σ (a + 71) = some (cO 4 [.ref (a + 77), .ref (a + 78), .ref (a + 79), .ref (a + 80), .int tk, .int (nI o), .int sz, .int lw, .ref b, .ref (a + 72), .int s.bad, .int pl]) ∧ σ (a + 78) = some (cI Γ 901 cv) ∧ o < 901 ∧ cv o = tvl s.l := by
  obtain ⟨T, t, sz, pl, ck, cv, cp, cc, ⟨r0, r1, r2, r3, r4⟩, hT, hpl, hl, hst⟩ := hC
  obtain ⟨o1, et, eT, hk1, h0, hp⟩ := hl hb
  rw [et] at r0
  exact ⟨nI T, sz, pl, o1, cv, r0, r2, by omega, tkR_vl hk1 hne⟩
