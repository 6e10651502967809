/-! ===== tokens of a text ===== -/
abbrev tok : Type := Int32 × Int32 × Nat
def run (p : Int32 → Bool) (f : row) (N : Nat) : Nat → Nat → Nat
  | 0, h => h
  | m + 1, h => if h < N ∧ p (f h) = true then run p f N m (h + 1) else h
def rn (p : Int32 → Bool) (f : row) (N h : Nat) : Nat := run p f N (N - h) h
section Run
variable {p : Int32 → Bool} {f : row} {N : Nat}
theorem run_ge : ∀ {m h : Nat}, h ≤ run p f N m h
  | 0, h => Nat.le_refl _
  | m + 1, h => by
    rw [run]
    split
    · exact Nat.le_of_succ_le run_ge
    · exact Nat.le_refl _
theorem run_le : ∀ {m h : Nat}, h ≤ N → run p f N m h ≤ N
  | 0, h, hh => hh
  | m + 1, h, hh => by
    rw [run]
    split
    · next c => exact run_le c.1
    · exact hh
theorem run_all : ∀ {m h j : Nat}, h ≤ j → j < run p f N m h → p (f j) = true
  | 0, h, j, h1, h2 => by rw [run] at h2; omega
  | m + 1, h, j, h1, h2 => by
    rw [run] at h2
    split at h2
    · next c =>
      by_cases e : j = h
      · rw [e]; exact c.2
      · exact run_all (m := m) (h := h + 1) (by omega) h2
    · omega
theorem run_end : ∀ {m h : Nat}, N - h ≤ m → run p f N m h < N → p (f (run p f N m h)) = false
  | 0, h, h1, h2 => by rw [run] at h2; omega
  | m + 1, h, h1, h2 => by
    rw [run] at h2 ⊢
    split at h2
    · next c =>
      rw [if_pos c]
      exact run_end (by omega) h2
    · next c =>
      rw [if_neg c]
      cases e : p (f h) with
      | false => rfl
      | true => exact absurd ⟨h2, e⟩ c
theorem rn_ge {h : Nat} : h ≤ rn p f N h := run_ge
theorem rn_le {h : Nat} (hh : h ≤ N) : rn p f N h ≤ N := run_le hh
theorem rn_all {h j : Nat} (h1 : h ≤ j) (h2 : j < rn p f N h) : p (f j) = true := run_all h1 h2
theorem rn_end {h : Nat} (h2 : rn p f N h < N) : p (f (rn p f N h)) = false := run_end (Nat.le_refl _) h2
end Run
/-- a number's value, as its digits are read one by one -/
def dv (f : row) (h : Nat) : Nat → Int32
  | 0 => f h - 48
  | i + 1 => (dv f h i * 10 + f (h + 1 + i) - 48) - (dv f h i * 10 + f (h + 1 + i) - 48) / 1000 * 1000
def tks (f : row) (N : Nat) : Nat → Nat → List tok
  | 0, _ => []
  | m + 1, h => if h < N then
      (if ltr (f h) = true then (wK (txW f h (rn ltr f N (h + 1))), 0, h) :: tks f N m (rn ltr f N (h + 1))
      else if dgt (f h) = true then ((if 3 < rn dgt f N (h + 1) - h then 1 else 2), dv f h (rn dgt f N (h + 1) - (h + 1)), h) :: tks f N m (rn dgt f N (h + 1))
      else if f h = 32 ∨ f h = 10 then tks f N m (h + 1)
      else ((if isSg (f h) = true then f h else 1), 0, h) :: tks f N m (h + 1))
    else []
section Tks
variable {f : row} {N : Nat}
theorem tks_fuel : ∀ {m m2 h : Nat}, N - h ≤ m → N - h ≤ m2 → tks f N m h = tks f N m2 h
  | 0, 0, h, _, _ => rfl
  | 0, m2 + 1, h, h1, _ => by rw [tks, tks, if_neg (by omega)]
  | m + 1, 0, h, _, h2 => by rw [tks, tks, if_neg (by omega)]
  | m + 1, m2 + 1, h, h1, h2 => by
    have g1 : h + 1 ≤ rn ltr f N (h + 1) := rn_ge
    have g2 : h + 1 ≤ rn dgt f N (h + 1) := rn_ge
    rw [tks, tks]
    by_cases c : h < N
    · rw [if_pos c, if_pos c, tks_fuel (m := m) (m2 := m2) (h := rn ltr f N (h + 1)) (by omega) (by omega), tks_fuel (m := m) (m2 := m2) (h := rn dgt f N (h + 1)) (by omega) (by omega), tks_fuel (m := m) (m2 := m2) (h := h + 1) (by omega) (by omega)]
    · rw [if_neg c, if_neg c]
def tkn (f : row) (N h : Nat) : List tok := tks f N (N - h) h
theorem tkn_0 {h : Nat} (hh : N ≤ h) : tkn f N h = [] := by
  unfold tkn
  rw [show N - h = 0 by omega]
  rfl
theorem tkn_S {h : Nat} (c : h < N) : tkn f N h = if ltr (f h) = true then (wK (txW f h (rn ltr f N (h + 1))), 0, h) :: tkn f N (rn ltr f N (h + 1))
      else if dgt (f h) = true then ((if 3 < rn dgt f N (h + 1) - h then 1 else 2), dv f h (rn dgt f N (h + 1) - (h + 1)), h) :: tkn f N (rn dgt f N (h + 1))
      else if f h = 32 ∨ f h = 10 then tkn f N (h + 1)
      else ((if isSg (f h) = true then f h else 1), 0, h) :: tkn f N (h + 1) := by
  have g1 : h + 1 ≤ rn ltr f N (h + 1) := rn_ge
  have g2 : h + 1 ≤ rn dgt f N (h + 1) := rn_ge
  unfold tkn
  rw [show N - h = (N - (h + 1)) + 1 by omega, tks, if_pos c, tks_fuel (m := N - (h + 1)) (m2 := N - rn ltr f N (h + 1)) (h := rn ltr f N (h + 1)) (by omega) (by omega), tks_fuel (m := N - (h + 1)) (m2 := N - rn dgt f N (h + 1)) (h := rn dgt f N (h + 1)) (by omega) (by omega)]
theorem tkn_l {h : Nat} (c : h < N) (hl : ltr (f h) = true) : tkn f N h = (wK (txW f h (rn ltr f N (h + 1))), 0, h) :: tkn f N (rn ltr f N (h + 1)) := by rw [tkn_S c, if_pos hl]
theorem tkn_d {h : Nat} (c : h < N) (hl : ¬ ltr (f h) = true) (hd : dgt (f h) = true) : tkn f N h = ((if 3 < rn dgt f N (h + 1) - h then 1 else 2), dv f h (rn dgt f N (h + 1) - (h + 1)), h) :: tkn f N (rn dgt f N (h + 1)) := by rw [tkn_S c, if_neg hl, if_pos hd]
theorem tkn_w {h : Nat} (c : h < N) (hl : ¬ ltr (f h) = true) (hd : ¬ dgt (f h) = true) (hw : f h = 32 ∨ f h = 10) : tkn f N h = tkn f N (h + 1) := by rw [tkn_S c, if_neg hl, if_neg hd, if_pos hw]
theorem tkn_s {h : Nat} (c : h < N) (hl : ¬ ltr (f h) = true) (hd : ¬ dgt (f h) = true) (hw : ¬ (f h = 32 ∨ f h = 10)) : tkn f N h = ((if isSg (f h) = true then f h else 1), 0, h) :: tkn f N (h + 1) := by rw [tkn_S c, if_neg hl, if_neg hd, if_neg hw]
end Tks
theorem i2c_b {x : Int32} {c : Nat} (hc : c < 256) (e : x = nI c) : (x.toUInt32 % 65536).toInt32 = nI c := by
  subst e
  exact (show ∀ c : Fin 256, ((nI c.val).toUInt32 % 65536).toInt32 = nI c.val from by decide +kernel) ⟨c, hc⟩
/-- the reader's own cell, and its rows -/
def RdC (a : Nat) (tk t sz lw : Int32) (b : Nat) (fl pl : Int32) : List Value := [.ref (a + 77), .ref (a + 78), .ref (a + 79), .ref (a + 80), .int tk, .int t, .int sz, .int lw, .ref b, .ref (a + 72), .int fl, .int pl]
def RrAt (Γ : gam) (σ : sto) (a : Nat) (tk t sz lw : Int32) (b : Nat) (fl pl : Int32) (ck cv cp cc : row) : Prop := σ (a + 71) = some (cO 4 (RdC a tk t sz lw b fl pl)) ∧ σ (a + 77) = some (cI Γ 901 ck) ∧ σ (a + 78) = some (cI Γ 901 cv) ∧ σ (a + 79) = some (cI Γ 901 cp) ∧ σ (a + 80) = some (cI Γ 900 cc)
/-- tokens, from the o-th on -/
def tkR (ck cv cp : row) (o : Nat) (L : List tok) : Prop := ∀ j x, L[j]? = some x → ck (o + j) = x.1 ∧ cv (o + j) = x.2.1 ∧ cp (o + j) = nI x.2.2
theorem tkR_app {ck cv cp : row} {P : List tok} {x : tok} (h : tkR ck cv cp 0 P) : tkR (upd ck P.length x.1) (upd cv P.length x.2.1) (upd cp P.length (nI x.2.2)) 0 (P ++ [x]) := by
  intro j y hy
  rw [Nat.zero_add]
  by_cases e : j = P.length
  · subst e
    rw [List.getElem?_append_right (Nat.le_refl _), Nat.sub_self] at hy
    obtain rfl := Option.some.inj hy
    rw [pk_us, pk_us, pk_us]
    exact ⟨rfl, rfl, rfl⟩
  · have hl : j < (P ++ [x]).length := (List.getElem?_eq_some_iff.mp hy).1
    rw [List.length_append, List.length_singleton] at hl
    rw [List.getElem?_append_left (by omega)] at hy
    rw [pk_un e, pk_un e, pk_un e]
    have := h j y hy
    rw [Nat.zero_add] at this
    exact this
theorem go_meas {Γ : gam} {R : Room} {M : mth} {Q : qp} {cells slots pc : Nat} {lv : List (Option Value)} {σ : sto} {n : Nat} (I : Nat → List (Option Value) → sto → Nat → Prop) (m : Nat) (h0 : I m lv σ n)
    (hs : ∀ m lv σ n, I m lv σ n → (∀ m' lv' σ' n', m' < m → I m' lv' σ' n' → Go Γ R M Q cells slots pc lv' [] σ' n') → Go Γ R M Q cells slots pc lv [] σ n) : Go Γ R M Q cells slots pc lv [] σ n := by
  have key : ∀ b m, m < b → ∀ lv σ n, I m lv σ n → Go Γ R M Q cells slots pc lv [] σ n := by
    intro b
    induction b with
    | zero => intro m hm; omega
    | succ b ih =>
      intro m hm lv σ n hI
      exact hs m lv σ n hI (fun m' lv' σ' n' hlt h' => ih m' (by omega) lv' σ' n' h')
  exact key (m + 1) m (Nat.lt_succ_self m) lv σ n h0
