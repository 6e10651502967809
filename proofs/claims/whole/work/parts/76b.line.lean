/-! ===== the pure reader of lines ===== -/
def plP (N : Nat) (s : ps) : ps := needP N 14 (numP N 0 999 (nextP s)).2
def flP (N p : Nat) : Nat → ps → row → ps × row
  | 0, s, T => (s, T)
  | m + 1, s, T => if s.bad ≠ 0 then (s, T)
      else if kd s.l = 11 then flP N p m (numP N 0 99 (nextP s)).2 (upd T (34 + p) (numP N 0 99 (nextP s)).1)
      else if kd s.l = 12 then flP N p m (nextP s) (upd T 42 (T 42 ||| ((1 : Int32) <<< (nI p &&& 31))))
      else if kd s.l = 13 then flP N p m (numP N 1 99 (plP N s)).2 (upd (upd T (43 + p) (numP N 0 999 (nextP s)).1) (51 + p) (numP N 1 99 (plP N s)).1)
      else (s, T)
def flG (N p : Nat) (s : ps) (T : row) : ps × row := flP N p s.l.length s T
theorem len_pl {N : Nat} {s : ps} : (plP N s).l.length ≤ (nextP s).l.length := Nat.le_trans len_need len_num
section Fl
variable {N p : Nat}
theorem fl_fuel : ∀ (m m2 : Nat) (s : ps) (T : row), s.l.length ≤ m → s.l.length ≤ m2 → flP N p m s T = flP N p m2 s T := by
  intro m
  induction m with
  | zero =>
    intro m2 s T h1 h2
    have e : s.l = [] := List.length_eq_zero_iff.mp (by omega)
    have k0 : kd s.l = 0 := by rw [e]; rfl
    cases m2 with
    | zero => rfl
    | succ m2 =>
      rw [flP, flP, k0]
      split
      · rfl
      · rw [if_neg (by decide), if_neg (by decide), if_neg (by decide)]
  | succ m ih =>
    intro m2 s T h1 h2
    cases m2 with
    | zero =>
      have e : s.l = [] := List.length_eq_zero_iff.mp (by omega)
      have k0 : kd s.l = 0 := by rw [e]; rfl
      rw [flP, flP, k0]
      split
      · rfl
      · rw [if_neg (by decide), if_neg (by decide), if_neg (by decide)]
    | succ m2 =>
      rw [flP, flP]
      by_cases hb : s.bad ≠ 0
      · rw [if_pos hb, if_pos hb]
      · rw [if_neg hb, if_neg hb]
        by_cases k1 : kd s.l = 11
        · have g := nx_lt k1 (by decide)
          have g2 := len_num (N := N) (s := nextP s) (lo := 0) (hi := 99)
          rw [if_pos k1, if_pos k1]
          exact ih m2 _ _ (by omega) (by omega)
        · rw [if_neg k1, if_neg k1]
          by_cases k2 : kd s.l = 12
          · have g := nx_lt k2 (by decide)
            rw [if_pos k2, if_pos k2]
            exact ih m2 _ _ (by omega) (by omega)
          · rw [if_neg k2, if_neg k2]
            by_cases k3 : kd s.l = 13
            · have g := nx_lt k3 (by decide)
              have g2 := len_num (N := N) (s := plP N s) (lo := 1) (hi := 99)
              have g3 := len_pl (N := N) (s := s)
              rw [if_pos k3, if_pos k3]
              exact ih m2 _ _ (by omega) (by omega)
            · rw [if_neg k3, if_neg k3]
variable {s : ps} {T : row}
theorem fl_of {m : Nat} (h : s.l.length ≤ m) : flP N p m s T = flG N p s T := fl_fuel m _ s T h (Nat.le_refl _)
theorem flG_S : flG N p s T = flP N p (s.l.length + 1) s T := (fl_of (by omega)).symm
theorem flG_b (hb : s.bad ≠ 0) : flG N p s T = (s, T) := by rw [flG_S, flP, if_pos hb]
theorem flG_a (hb : s.bad = 0) (k : kd s.l = 11) : flG N p s T = flG N p (numP N 0 99 (nextP s)).2 (upd T (34 + p) (numP N 0 99 (nextP s)).1) := by
  have g := nx_lt k (by decide)
  have g2 := len_num (N := N) (s := nextP s) (lo := 0) (hi := 99)
  rw [flG_S, flP, if_neg (fun c => c hb), if_pos k]
  exact fl_of (by omega)
theorem flG_s (hb : s.bad = 0) (k : kd s.l = 12) : flG N p s T = flG N p (nextP s) (upd T 42 (T 42 ||| ((1 : Int32) <<< (nI p &&& 31)))) := by
  have g := nx_lt k (by decide)
  rw [flG_S, flP, if_neg (fun c => c hb), if_neg (by rw [k]; decide), if_pos k]
  exact fl_of (by omega)
theorem flG_r (hb : s.bad = 0) (k : kd s.l = 13) : flG N p s T = flG N p (numP N 1 99 (plP N s)).2 (upd (upd T (43 + p) (numP N 0 999 (nextP s)).1) (51 + p) (numP N 1 99 (plP N s)).1) := by
  have g := nx_lt k (by decide)
  have g2 := len_num (N := N) (s := plP N s) (lo := 1) (hi := 99)
  have g3 := len_pl (N := N) (s := s)
  rw [flG_S, flP, if_neg (fun c => c hb), if_neg (by rw [k]; decide), if_neg (by rw [k]; decide), if_pos k]
  exact fl_of (by omega)
theorem flG_e (k1 : kd s.l ≠ 11) (k2 : kd s.l ≠ 12) (k3 : kd s.l ≠ 13) : flG N p s T = (s, T) := by
  rw [flG_S, flP, if_neg k1, if_neg k2, if_neg k3]
  split <;> rfl
/-- what the flags leave as it was -/
theorem flP_keep : ∀ (m : Nat) (s : ps) (T : row) (j : Nat), (j < 34 ∨ 58 < j) → p < 8 → (flP N p m s T).2 j = T j := by
  intro m
  induction m with
  | zero => intro s T j _ _; rfl
  | succ m ih =>
    intro s T j hj hp
    rw [flP]
    by_cases hb : s.bad ≠ 0
    · rw [if_pos hb]
    · rw [if_neg hb]
      by_cases k1 : kd s.l = 11
      · rw [if_pos k1, ih _ _ j hj hp, pk_un (by omega)]
      · rw [if_neg k1]
        by_cases k2 : kd s.l = 12
        · rw [if_pos k2, ih _ _ j hj hp, pk_un (by omega)]
        · rw [if_neg k2]
          by_cases k3 : kd s.l = 13
          · rw [if_pos k3, ih _ _ j hj hp, pk_un (by omega), pk_un (by omega)]
          · rw [if_neg k3]
theorem flG_keep {j : Nat} (hj : j < 34 ∨ 58 < j) (hp : p < 8) : (flG N p s T).2 j = T j := flP_keep _ s T j hj hp
theorem flP_len : ∀ (m : Nat) (s : ps) (T : row), (flP N p m s T).1.l.length ≤ s.l.length := by
  intro m
  induction m with
  | zero => intro s T; exact Nat.le_refl _
  | succ m ih =>
    intro s T
    rw [flP]
    by_cases hb : s.bad ≠ 0
    · rw [if_pos hb]
      exact Nat.le_refl _
    · rw [if_neg hb]
      by_cases k1 : kd s.l = 11
      · rw [if_pos k1]
        exact Nat.le_trans (ih _ _) (Nat.le_trans len_num len_next)
      · rw [if_neg k1]
        by_cases k2 : kd s.l = 12
        · rw [if_pos k2]
          exact Nat.le_trans (ih _ _) len_next
        · rw [if_neg k2]
          by_cases k3 : kd s.l = 13
          · rw [if_pos k3]
            exact Nat.le_trans (ih _ _) (Nat.le_trans len_num (Nat.le_trans len_pl len_next))
          · rw [if_neg k3]
            exact Nat.le_refl _
theorem flP_sub : ∀ (m : Nat) (s : ps) (T : row) (x : tok), x ∈ (flP N p m s T).1.l → x ∈ s.l := by
  intro m
  induction m with
  | zero => intro s T x h; exact h
  | succ m ih =>
    intro s T x h
    rw [flP] at h
    by_cases hb : s.bad ≠ 0
    · rw [if_pos hb] at h
      exact h
    · rw [if_neg hb] at h
      by_cases k1 : kd s.l = 11
      · rw [if_pos k1] at h
        exact sub_next (sub_num (ih _ _ x h))
      · rw [if_neg k1] at h
        by_cases k2 : kd s.l = 12
        · rw [if_pos k2] at h
          exact sub_next (ih _ _ x h)
        · rw [if_neg k2] at h
          by_cases k3 : kd s.l = 13
          · rw [if_pos k3] at h
            exact sub_next (sub_num (sub_need (sub_num (ih _ _ x h))))
          · rw [if_neg k3] at h
            exact h
theorem flP_bad : ∀ (m : Nat) (s : ps) (T : row), (flP N p m s T).1.bad = 0 → s.bad = 0 := by
  intro m
  cases m with
  | zero => intro s T h; exact h
  | succ m =>
    intro s T h
    by_cases hb : s.bad = 0
    · exact hb
    · rw [flP, if_pos hb] at h
      exact h
end Fl
def p2 (N : Nat) (s : ps) (T : row) : Int32 × ps := numP N 0 (T 1 - 1) (needP N 6 (nextP s))
def p3 (N : Nat) (s : ps) (T : row) : ps := if (p2 N s T).2.bad = 0 ∧ kd (p2 N s T).2.l = 2 ∧ sitK T (p2 N s T).1 (tvl (p2 N s T).2.l) ≠ none then failP N 3 (p2 N s T).2 else (p2 N s T).2
def p4 (N : Nat) (s : ps) (T : row) : Int32 × ps := numP N 0 (T 2 - 1) (p3 N s T)
def T4 (p : Nat) (T : row) : row := upd (upd (upd T (34 + p) 0) (43 + p) (-1)) (51 + p) (-1)
def p5 (N : Nat) (s : ps) (T : row) : ps × row := flG N (kP T) (p4 N s T).2 (T4 (kP T) T)
def T6 (p : Nat) (c r : Int32) (T : row) : row := upd (upd (upd (upd T (8 + p) c) (16 + p) r) (24 + p) (-1)) 3 (nI (p + 1))
def perP (N : Nat) (s : ps) (T : row) : ps × row := if kP T = 8 then (failP N 4 s, T) else ((p5 N s T).1, T6 (kP T) (p2 N s T).1 (p4 N s T).1 (p5 N s T).2)
def layT (w : Nat) (st : List Int32) (T : row) : row := fun j => if j = w then nI st.length else if lwA w ≤ j ∧ j < lwA w + st.length then st.getD (j - lwA w) 0 else T j
def clr (s : ps) : ps := psm s.l s.bad s.pl []
def lwS (N w t : Nat) (s : ps) : ps := pP N w t 0 (clr (needP N 58 (nextP s)))
def bodP (N : Nat) (s : ps) (T : row) : ps × row := if kd s.l = 5 then perP N s T else if kd s.l = 10 then ((numP N 0 999 (nextP s)).2, upd T 33 (numP N 0 999 (nextP s)).1) else if kd s.l = 7 then (lwS N 4 0 s, layT 4 (lwS N 4 0 s).st T) else if kd s.l = 8 then (lwS N 5 5 s, layT 5 (lwS N 5 5 s).st T) else if kd s.l = 9 then (lwS N 6 5 s, layT 6 (lwS N 6 5 s).st T) else (failP N 2 s, T)
def lnP (N : Nat) (x : ps × row) : ps × row := (needP N 59 (bodP N x.1 x.2).1, upd (bodP N x.1 x.2).2 0 ((bodP N x.1 x.2).2 0 + 1))
def rdL (N : Nat) : Nat → ps × row → ps × row
  | 0, x => x
  | m + 1, x => if x.1.bad = 0 ∧ kd x.1.l ≠ 0 then rdL N m (lnP N x) else x
/-- steps that nobody has laid -/
def stM : List Int32 := List.replicate 901 0
theorem stM_l : stM.length = 901 := List.length_replicate
def op1 (N : Nat) (f : row) : ps := needP N 4 (psm (tkn f N 0) 0 (-1) stM)
def op2 (N : Nat) (f : row) : Int32 × ps := numP N 1 4 (op1 N f)
def op3 (N : Nat) (f : row) : Int32 × ps := numP N 1 5 (op2 N f).2
def opT (N : Nat) (f : row) : row := upd (upd (fun _ => 0) 1 (op2 N f).1) 2 (op3 N f).1
def opP (N : Nat) (f : row) : ps × row := (needP N 59 (op3 N f).2, upd (opT N f) 0 1)
def bchP (N : Nat) (f : row) : ps × row := rdL N (opP N f).1.l.length (opP N f)
/-! what a reading leaves of the tokens -/
section LnLen
variable {N : Nat} {s : ps} {T : row}
theorem len_p2 : (p2 N s T).2.l.length ≤ (nextP s).l.length := Nat.le_trans len_num len_need
theorem len_p3 : (p3 N s T).l.length ≤ (nextP s).l.length := by
  unfold p3
  split
  · rw [len_fail]; exact len_p2
  · exact len_p2
theorem len_p4 : (p4 N s T).2.l.length ≤ (nextP s).l.length := Nat.le_trans len_num len_p3
theorem len_p5 : (p5 N s T).1.l.length ≤ (nextP s).l.length := Nat.le_trans (flP_len _ _ _) len_p4
theorem sub_p2 {x : tok} (h : x ∈ (p2 N s T).2.l) : x ∈ s.l := sub_next (sub_need (sub_num h))
theorem sub_p3 {x : tok} (h : x ∈ (p3 N s T).l) : x ∈ s.l := by
  unfold p3 at h
  split at h
  · rw [len_fail] at h; exact sub_p2 h
  · exact sub_p2 h
theorem sub_p5 {x : tok} (h : x ∈ (p5 N s T).1.l) : x ∈ s.l := sub_p3 (sub_num (flP_sub _ _ _ x h))
theorem len_lw {w t : Nat} (ht : t < 10) : (lwS N w t s).l.length ≤ (nextP s).l.length := Nat.le_trans (pP_len ht) len_need
theorem sub_lw {w t : Nat} (ht : t < 10) {x : tok} (h : x ∈ (lwS N w t s).l) : x ∈ s.l := by
  have h2 : x ∈ (clr (needP N 58 (nextP s))).l := pP_sub (N := N) (w := w) (t := t) (d := 0) (s := clr (needP N 58 (nextP s))) ht h
  exact sub_next (sub_need (N := N) (c := 58) (s := nextP s) h2)
theorem len_bod (hk : kd s.l ≠ 0) : (bodP N s T).1.bad = 0 → (bodP N s T).1.l.length + 1 ≤ s.l.length := by
  have g := len_nextK hk
  unfold bodP
  split
  · unfold perP
    split
    · intro e
      by_cases hb : s.bad = 0
      · exact absurd e (failP_ne (by decide) hb)
      · rw [failP_bad hb] at e
        exact absurd e hb
    · intro _
      have := len_p5 (N := N) (s := s) (T := T)
      show (p5 N s T).1.l.length + 1 ≤ s.l.length
      omega
  · split
    · intro _
      have := len_num (N := N) (s := nextP s) (lo := 0) (hi := 999)
      show (numP N 0 999 (nextP s)).2.l.length + 1 ≤ s.l.length
      omega
    · split
      · intro _
        have := len_lw (N := N) (s := s) (w := 4) (t := 0) (by omega)
        show (lwS N 4 0 s).l.length + 1 ≤ s.l.length
        omega
      · split
        · intro _
          have := len_lw (N := N) (s := s) (w := 5) (t := 5) (by omega)
          show (lwS N 5 5 s).l.length + 1 ≤ s.l.length
          omega
        · split
          · intro _
            have := len_lw (N := N) (s := s) (w := 6) (t := 5) (by omega)
            show (lwS N 6 5 s).l.length + 1 ≤ s.l.length
            omega
          · intro e
            by_cases hb : s.bad = 0
            · exact absurd e (failP_ne (by decide) hb)
            · have e : (failP N 2 s).bad = 0 := e
              rw [failP_bad hb] at e
              exact absurd e hb
theorem len_ln (hk : kd s.l ≠ 0) (hg : (lnP N (s, T)).1.bad = 0) : (lnP N (s, T)).1.l.length + 1 ≤ s.l.length := by
  have g := len_bod (N := N) (T := T) hk (needP_b hg)
  have := len_need (N := N) (c := 59) (s := (bodP N s T).1)
  show (needP N 59 (bodP N s T).1).l.length + 1 ≤ s.l.length
  omega
theorem sub_bod {x : tok} (h : x ∈ (bodP N s T).1.l) : x ∈ s.l := by
  unfold bodP at h
  split at h
  · unfold perP at h
    split at h
    · have h : x ∈ (failP N 4 s).l := h
      rw [len_fail] at h; exact h
    · exact sub_p5 h
  · split at h
    · exact sub_next (sub_num h)
    · split at h
      · have h : x ∈ (lwS N 4 0 s).l := h
        exact sub_lw (N := N) (s := s) (w := 4) (t := 0) (by omega) h
      · split at h
        · have h : x ∈ (lwS N 5 5 s).l := h
          exact sub_lw (N := N) (s := s) (w := 5) (t := 5) (by omega) h
        · split at h
          · have h : x ∈ (lwS N 6 5 s).l := h
            exact sub_lw (N := N) (s := s) (w := 6) (t := 5) (by omega) h
          · have h : x ∈ (failP N 2 s).l := h
            rw [len_fail] at h; exact h
theorem vOK.ln (h : vOK s.l) : vOK (lnP N (s, T)).1.l := fun x hx => h x (sub_bod (sub_need hx))
theorem rdL_done {m : Nat} {x : ps × row} (h : ¬ (x.1.bad = 0 ∧ kd x.1.l ≠ 0)) : rdL N m x = x := by
  cases m with
  | zero => rfl
  | succ m => rw [rdL, if_neg h]
theorem rdL_fuel : ∀ (m m2 : Nat) (x : ps × row), x.1.l.length ≤ m → x.1.l.length ≤ m2 → rdL N m x = rdL N m2 x := by
  intro m
  induction m with
  | zero =>
    intro m2 x h1 h2
    have e : x.1.l = [] := List.length_eq_zero_iff.mp (by omega)
    rw [rdL_done (fun c => c.2 (by rw [e]; rfl)), rdL_done (fun c => c.2 (by rw [e]; rfl))]
  | succ m ih =>
    intro m2 x h1 h2
    by_cases c : x.1.bad = 0 ∧ kd x.1.l ≠ 0
    · have g : 0 < x.1.l.length := List.length_pos_iff.mpr (kd_ne rfl c.2)
      cases m2 with
      | zero => omega
      | succ m2 =>
        rw [rdL, rdL, if_pos c, if_pos c]
        by_cases hb : (lnP N x).1.bad = 0
        · have := len_ln (N := N) (s := x.1) (T := x.2) c.2 hb
          have : (lnP N x).1.l.length + 1 ≤ x.1.l.length := this
          exact ih m2 _ (by omega) (by omega)
        · rw [rdL_done (fun c => hb c.1), rdL_done (fun c => hb c.1)]
    · rw [rdL_done c, rdL_done c]
/-- the reading of the lines from here on -/
def rdG (N : Nat) (x : ps × row) : ps × row := rdL N x.1.l.length x
theorem rdG_done {x : ps × row} (h : ¬ (x.1.bad = 0 ∧ kd x.1.l ≠ 0)) : rdG N x = x := rdL_done h
theorem rdG_step {x : ps × row} (h : x.1.bad = 0 ∧ kd x.1.l ≠ 0) : rdG N x = rdG N (lnP N x) := by
  have g : 0 < x.1.l.length := List.length_pos_iff.mpr (kd_ne rfl h.2)
  unfold rdG
  rw [show x.1.l.length = (x.1.l.length - 1) + 1 by omega, rdL, if_pos h]
  by_cases hb : (lnP N x).1.bad = 0
  · have := len_ln (N := N) (s := x.1) (T := x.2) h.2 hb
    have : (lnP N x).1.l.length + 1 ≤ x.1.l.length := this
    exact rdL_fuel _ _ _ (by omega) (Nat.le_refl _)
  · rw [rdL_done (fun c => hb c.1), rdL_done (fun c => hb c.1)]
end LnLen
