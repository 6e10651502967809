/-! ===== the class's reader: how it stands in the text ===== -/
def CrAt (Γ : gam) (σ : sto) (a N b : Nat) (lw : Int32) (s : ps) : Prop := ∃ (T : Nat) (t sz pl : Int32) (ck cv cp cc : row), RrAt Γ σ a (nI T) t sz lw b s.bad pl ck cv cp cc ∧ T ≤ 901 ∧ (s.bad ≠ 0 → pl = s.pl) ∧ (s.bad = 0 → ∃ o, t = nI o ∧ T = o + s.l.length + 1 ∧ tkR ck cv cp o s.l ∧ ck (o + s.l.length) = 0 ∧ cp (o + s.l.length) = nI N) ∧ (s.bad = 0 → sz = nI s.st.length ∧ s.st.length ≤ 900 ∧ ∀ j, j < s.st.length → cc j = trS (s.st.getD j 0))
theorem tkR_kd {ck cv cp : row} {o : Nat} {L : List tok} (h : tkR ck cv cp o L) (h0 : ck (o + L.length) = 0) : ck o = kd L := by
  match L, h, h0 with
  | [], h, h0 => exact h0
  | x :: L', h, h0 => exact (h 0 x rfl).1
theorem tkR_pl {ck cv cp : row} {o N : Nat} {L : List tok} (h : tkR ck cv cp o L) (h0 : cp (o + L.length) = nI N) : cp o = tpl N L := by
  match L, h, h0 with
  | [], h, h0 => exact h0
  | x :: L', h, h0 => exact (h 0 x rfl).2.2
theorem tkR_vl {ck cv cp : row} {o : Nat} {L : List tok} (h : tkR ck cv cp o L) (h0 : L ≠ []) : cv o = tvl L := by
  match L, h, h0 with
  | [], h, h0 => exact absurd rfl h0
  | x :: L', h, h0 => exact (h 0 x rfl).2.1
theorem tkR_tl {ck cv cp : row} {o : Nat} {L : List tok} (h : tkR ck cv cp o L) (h0 : L ≠ []) : tkR ck cv cp (o + 1) L.tail := by
  match L, h, h0 with
  | [], h, h0 => exact absurd rfl h0
  | x :: L', h, h0 =>
    intro j y hy
    have := h (j + 1) y hy
    rw [show o + 1 + j = o + (j + 1) by omega]
    exact this
