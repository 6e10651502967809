/-! ===== the class's reader: how it stands in the text ===== -/
def CrAt (Γ : gam) (σ : sto) (a N b : Nat) (lw : Int32) (s : ps) : Prop := ∃ (T : Nat) (t sz pl : Int32) (ck cv cp cc : row), RrAt Γ σ a (nI T) t sz lw b s.bad pl ck cv cp cc ∧ T ≤ 901 ∧ pl = s.pl ∧ (s.bad = 0 → ∃ o, t = nI o ∧ T = o + s.l.length + 1 ∧ tkR ck cv cp o s.l ∧ ck (o + s.l.length) = 0 ∧ cp (o + s.l.length) = nI N) ∧ (s.bad = 0 → s.st.length ≤ 900 → sz = nI s.st.length ∧ s.st.length ≤ 900 ∧ ∀ j, j < s.st.length → cc j = trS (s.st.getD j 0))
theorem tkR_kd {ck cv cp : row} {o : Nat} {L : List tok} (h : tkR ck cv cp o L) (h0 : ck (o + L.length) = 0) : ck o = kd L := by
  match L, h, h0 with
  | [], h, h0 => exact h0
  | x :: L', h, h0 => exact (h 0 x rfl).1
theorem tkR_pl {ck cv cp : row} {o N : Nat} {L : List tok} (h : tkR ck cv cp o L) (h0 : cp (o + L.length) = nI N) : cp o = tpl N L := by
  match L, h, h0 with
  | [], h, h0 => exact h0
  | x :: L', h, h0 => exact (h 0 x rfl).2.2
theorem tkR_vl {ck cv cp : row} {o : Nat} {L : List tok} (h : tkR ck cv cp o L) (h0 : L ≠ []) : cv o = tvl L := by
  match L, h, h0 with
  | [], h, h0 => exact absurd rfl h0
  | x :: L', h, h0 => exact (h 0 x rfl).2.1
theorem tkR_tl {ck cv cp : row} {o : Nat} {L : List tok} (h : tkR ck cv cp o L) (h0 : L ≠ []) : tkR ck cv cp (o + 1) L.tail := by
  match L, h, h0 with
  | [], h, h0 => exact absurd rfl h0
  | x :: L', h, h0 =>
    intro j y hy
    have := h (j + 1) y hy
    rw [show o + 1 + j = o + (j + 1) by omega]
    exact this
theorem cr_next {Γ : gam} {σ : sto} {a N b T o : Nat} {lw sz pl : Int32} {ck cv cp cc : row} {s : ps} (hb : s.bad = 0) (hne : s.l ≠ []) (hR : RrAt Γ σ a (nI T) (nI (o + 1)) sz lw b s.bad pl ck cv cp cc) (hT : T ≤ 901) (eT : T = o + s.l.length + 1) (hk : tkR ck cv cp o s.l) (h0 : ck (o + s.l.length) = 0) (hp : cp (o + s.l.length) = nI N) (hst : s.bad = 0 → s.st.length ≤ 900 → sz = nI s.st.length ∧ s.st.length ≤ 900 ∧ ∀ j, j < s.st.length → cc j = trS (s.st.getD j 0)) (hpl : pl = s.pl) : CrAt Γ σ a N b lw (nextP s) := by
  have hl : s.l.tail.length + 1 = s.l.length := by
    have : 0 < s.l.length := List.length_pos_iff.mpr hne
    rw [List.length_tail]; omega
  refine ⟨T, _, sz, pl, ck, cv, cp, cc, hR, hT, hpl, fun _ => ⟨o + 1, rfl, ?_, tkR_tl hk hne, ?_, ?_⟩, hst⟩
  · show T = o + 1 + s.l.tail.length + 1
    omega
  · show ck (o + 1 + s.l.tail.length) = 0
    rw [show o + 1 + s.l.tail.length = o + s.l.length by omega]
    exact h0
  · show cp (o + 1 + s.l.tail.length) = nI N
    rw [show o + 1 + s.l.tail.length = o + s.l.length by omega]
    exact hp
