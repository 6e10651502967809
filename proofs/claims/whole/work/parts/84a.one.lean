/-! ===== the class: one more person ===== -/
theorem lnI_T6 {T Y : row} {c r : Nat} (h : lnI T) (hp : kP T < 8) (hc : c < kW T) (hr : r < kH T) (hn : sitK T (nI c) (nI r) = none) (hY : ∀ j, (j < 34 ∨ 58 < j) → Y j = T j) : lnI (T6 (kP T) (nI c) (nI r) Y) := by
  obtain ⟨⟨hP, l4, l5, l6⟩, hgS, hH, hW, h7, h32⟩ := h
  obtain ⟨a8, a16, a24, a3, ao⟩ := T6_at (c := nI c) (r := nI r) (T := Y) hp
  obtain ⟨p, ep⟩ : ∃ p, kP T = p := ⟨_, rfl⟩
  rw [ep] at a8 a16 a24 a3 ao hp
  rw [ep]
  obtain ⟨X, eX⟩ : ∃ X, T6 p (nI c) (nI r) Y = X := ⟨_, rfl⟩
  rw [eX] at a8 a16 a24 a3 ao
  rw [eX]
  have ao2 : ∀ j, j ≠ 8 + p → j ≠ 16 + p → j ≠ 24 + p → j ≠ 3 → (j < 34 ∨ 58 < j) → X j = T j := fun j b1 b2 b3 b4 b5 => (ao j b1 b2 b3 b4).trans (hY j b5)
  have x1 : X 1 = T 1 := ao2 1 (by omega) (by omega) (by omega) (by omega) (by omega)
  have x2 : X 2 = T 2 := ao2 2 (by omega) (by omega) (by omega) (by omega) (by omega)
  have eP : kP X = p + 1 := by show (X 3).toNatClampNeg = _; rw [a3, nI_clamp (by omega)]
  have eW : kW X = kW T := by show (X 1).toNatClampNeg = _; rw [x1]
  have eH : kH X = kH T := by show (X 2).toNatClampNeg = _; rw [x2]
  have s16 : ∀ q, q < p → X (16 + q) = T (16 + q) := fun q hq => ao2 _ (by omega) (by omega) (by omega) (by omega) (by omega)
  have s8 : ∀ q, q < p → X (8 + q) = T (8 + q) := fun q hq => ao2 _ (by omega) (by omega) (by omega) (by omega) (by omega)
  have s24 : ∀ q, q < p → X (24 + q) = T (24 + q) := fun q hq => ao2 _ (by omega) (by omega) (by omega) (by omega) (by omega)
  have hno := sit_no.mp hn
  have rne : nI r ≠ -1 := nI_ne1 (by have := hP.2.2.2.1; omega)
  refine ⟨⟨⟨by rw [eP]; exact a3, by rw [eP]; omega, by rw [eH, x2]; exact hP.2.2.1, by rw [eH]; exact hP.2.2.2.1, by rw [eW, x1]; exact hP.2.2.2.2.1, by rw [eW]; exact hP.2.2.2.2.2⟩, okL_cg (ao2 4 (by omega) (by omega) (by omega) (by omega) (by omega)) (fun j _ => ao2 _ (by omega) (by omega) (by omega) (by omega) (by omega)) l4, okL_cg (ao2 5 (by omega) (by omega) (by omega) (by omega) (by omega)) (fun j _ => ao2 _ (by omega) (by omega) (by omega) (by omega) (by omega)) l5, okL_cg (ao2 6 (by omega) (by omega) (by omega) (by omega) (by omega)) (fun j _ => ao2 _ (by omega) (by omega) (by omega) (by omega) (by omega)) l6⟩, ⟨fun q hq => ?_, fun q q2 hq hq2 b1 b2 b3 => ?_, fun q hq b1 => ?_⟩, by rw [eH]; exact hH, by rw [eW]; exact hW, ?_, ?_⟩
  · rw [eP] at hq
    rw [eW, eH]
    by_cases e : q = p
    · subst e
      exact ⟨⟨c, hc, a8⟩, Or.inr ⟨r, hr, a16⟩⟩
    · rw [s8 q (by omega), s16 q (by omega)]
      exact hgS.1 q (by omega)
  · rw [eP] at hq hq2
    by_cases e : q = p
    · by_cases e2 : q2 = p
      · omega
      · subst e
        rw [a16, s16 q2 (by omega)] at b1
        rw [a8, s8 q2 (by omega)] at b2
        exact absurd ⟨b1.symm, b2.symm, rne⟩ (hno q2 (by omega))
    · by_cases e2 : q2 = p
      · subst e2
        rw [a16, s16 q (by omega)] at b1
        rw [a8, s8 q (by omega)] at b2
        exact absurd ⟨b1, b2, rne⟩ (hno q (by omega))
      · rw [s16 q (by omega), s16 q2 (by omega)] at b1
        rw [s8 q (by omega), s8 q2 (by omega)] at b2
        rw [s16 q (by omega)] at b3
        exact hgS.2.1 q q2 (by omega) (by omega) b1 b2 b3
  · rw [eP] at hq
    by_cases e : q = p
    · rw [e]; exact a24
    · rw [s16 q (by omega)] at b1
      rw [s24 q (by omega)]
      exact hgS.2.2 q (by omega) b1
  · rw [ao2 7 (by omega) (by omega) (by omega) (by omega) (by omega)]; exact h7
  · rw [ao2 32 (by omega) (by omega) (by omega) (by omega) (by omega)]; exact h32
def fin (N : Nat) (s : ps) : ps := if s.bad = 0 ∧ kd s.l ≠ 59 then failP N 2 s else s
theorem fin_b {N : Nat} {s : ps} (h : s.bad ≠ 0) : fin N s = s := if_neg (fun c => h c.1)
theorem fin_e {N : Nat} {s : ps} (h : kd s.l = 59) : fin N s = s := if_neg (fun c => c.2 h)
theorem fin_f {N : Nat} {s : ps} (h : s.bad = 0) (h2 : kd s.l ≠ 59) : fin N s = failP N 2 s := if_pos ⟨h, h2⟩
theorem fin_need {N : Nat} {s : ps} : needP N 59 (fin N s) = needP N 59 s := by
  by_cases c : s.bad = 0 ∧ kd s.l ≠ 59
  · rw [fin, if_pos c, needP_bd (failP_ne (by decide) c.1), needP, if_neg (fun x => c.2 x.2)]
  · rw [fin, if_neg c]
theorem T6_cm {p j : Nat} {c r v : Int32} {T : row} (h1 : j ≠ 8 + p) (h2 : j ≠ 16 + p) (h3 : j ≠ 24 + p) (h4 : j ≠ 3) : T6 p c r (upd T j v) = upd (T6 p c r T) j v := by
  have cm : ∀ (f : row) (i j : Nat) (x y : Int32), i ≠ j → upd (upd f i x) j y = upd (upd f j y) i x := by
    intro f i j x y h
    funext q
    by_cases e1 : q = i
    · subst e1
      rw [pk_un h, pk_us, pk_us]
    · by_cases e2 : q = j
      · subst e2
        rw [pk_us, pk_un e1, pk_us]
      · rw [pk_un e2, pk_un e1, pk_un e1, pk_un e2]
  unfold T6
  rw [cm T j (8 + p) v c h1, cm _ j (16 + p) v r h2, cm _ j (24 + p) v (-1) h3, cm _ j 3 v _ h4]
theorem T6_fl {N p : Nat} {c r : Int32} {s : ps} {T : row} (hp : p < 8) : flT N p s (T6 p c r T) = T6 p c r (flT N p s T) := by
  unfold flT
  split
  · rw [T6_cm (by omega) (by omega) (by omega) (by omega)]
  · split
    · rw [T6_cm (by omega) (by omega) (by omega) (by omega), (T6_at hp).2.2.2.2 42 (by omega) (by omega) (by omega) (by omega)]
    · split
      · rw [T6_cm (by omega) (by omega) (by omega) (by omega), T6_cm (by omega) (by omega) (by omega) (by omega)]
      · rfl
theorem fl_len {N : Nat} {s : ps} (hb : s.bad = 0) (h : (flS N s).bad = 0) : (flS N s).l.length + 1 ≤ s.l.length := by
  unfold flS at h ⊢
  by_cases k1 : kd s.l = 11
  · have g := nx_lt k1 (by decide)
    have g2 := len_num (N := N) (s := nextP s) (lo := 0) (hi := 99)
    rw [if_pos k1]
    omega
  · rw [if_neg k1] at h ⊢
    by_cases k2 : kd s.l = 12
    · have g := nx_lt k2 (by decide)
      rw [if_pos k2]
      omega
    · rw [if_neg k2] at h ⊢
      by_cases k3 : kd s.l = 13
      · have g := nx_lt k3 (by decide)
        have g2 := len_num (N := N) (s := plP N s) (lo := 1) (hi := 99)
        have g3 := len_pl (N := N) (s := s)
        rw [if_pos k3]
        omega
      · rw [if_neg k3] at h
        exact absurd h (failP_ne (by decide) hb)
theorem fl_le {N : Nat} {s : ps} : (flS N s).l.length ≤ s.l.length := by
  unfold flS
  split
  · exact Nat.le_trans len_num len_next
  · split
    · exact len_next
    · split
      · exact Nat.le_trans len_num (Nat.le_trans len_pl len_next)
      · rw [len_fail]; exact Nat.le_refl _
theorem fl_mB {N : Nat} {s : ps} (hb : s.bad = 0) : mB (flS N s) < mB s := by
  have e9 : mB s = 2 * s.l.length + 1 := by rw [mB, if_pos hb]
  by_cases h : (flS N s).bad = 0
  · have := fl_len hb h
    rw [e9, mB, if_pos h]
    omega
  · have := fl_le (N := N) (s := s)
    rw [e9, mB, if_neg h]
    omega
theorem fl_step {N p : Nat} {s : ps} {T : row} (hb : s.bad = 0) (h59 : kd s.l ≠ 59) : fin N (flG N p (flS N s) (flT N p s T)).1 = fin N (flG N p s T).1 ∧ ((flS N s).bad = 0 → flG N p (flS N s) (flT N p s T) = flG N p s T) := by
  unfold flS flT
  by_cases k1 : kd s.l = 11
  · rw [if_pos k1, if_pos k1, flG_a hb k1]
    exact ⟨rfl, fun _ => rfl⟩
  · rw [if_neg k1, if_neg k1]
    by_cases k2 : kd s.l = 12
    · rw [if_pos k2, if_pos k2, flG_s hb k2]
      exact ⟨rfl, fun _ => rfl⟩
    · rw [if_neg k2, if_neg k2]
      by_cases k3 : kd s.l = 13
      · rw [if_pos k3, if_pos k3, flG_r hb k3]
        exact ⟨rfl, fun _ => rfl⟩
      · have nb := failP_ne (N := N) (c_q := 2) (by decide) hb
        rw [if_neg k3, if_neg k3, flG_b nb, flG_e k1 k2 k3]
        refine ⟨?_, fun e => absurd e nb⟩
        show fin N (failP N 2 s) = fin N s
        rw [fin_b nb, fin_f hb h59]
theorem T6_P {p : Nat} {c r : Int32} {T : row} (hp : p < 8) : kP (T6 p c r T) = p + 1 := by
  show (T6 p c r T 3).toNatClampNeg = p + 1
  rw [(T6_at hp).2.2.2.1, nI_clamp (by omega)]
/-- the memory behind a person put on its chair -/
theorem clg_per {Γ : gam} {D : Nat} {ro : Nat → Nat} {σ σ1 : sto} {a b p c r : Nat} {T ag pa pf ch co rw bk : row} {lm lt lw : Value} (hI : lnI T) (hQ : BrAt Γ D ro σ b T ag pa pf lm lt lw) (hdf : ∀ q, kP T ≤ q → q < 8 → ag q = 0 ∧ pa q = -1 ∧ pf q = -1) (hr : rS T ch co rw bk) (hbk : ∀ q, q < 8 → bk q = -1) (ep : kP T = p) (hp : p < 8) (hc : c < kW T) (hr9 : r < kH T) (hn : sitK T (nI c) (nI r) = none) (hR1 : SrAt Γ ro σ1 (a + 72) b 0 (T 33) (upd ch (5 * c + r) (nI p)) (upd co p (nI c)) (upd rw p (nI r)) bk) (ho : ∀ q, b ≤ q → σ1 q = σ q) (hab : a + 113 < b) (hbD : b + 4 ≤ D) : ClG Γ D ro (sup σ1 b (cO 0 [.int (T 1), .int (T 2), .int (nI (p + 1)), .int (T 0), .int (T 42), .ref (b + 1), .ref (b + 2), .ref (b + 3), lm, lt, lw])) a b (T6 p (nI c) (nI r) (T4 p T)) := by
  have hY : ∀ j, (j < 34 ∨ 58 < j) → T4 p T j = T j := fun j hj => by rw [T4, pk_un (by omega), pk_un (by omega), pk_un (by omega)]
  have hX := lnI_T6 (Y := T4 p T) hI (by omega) hc hr9 hn (fun j hj => hY j hj)
  rw [ep] at hX
  obtain ⟨a8, a16, a24, a3, ao⟩ := T6_at (c := nI c) (r := nI r) (T := T4 p T) hp
  have xo : ∀ j, j ≠ 8 + p → j ≠ 16 + p → j ≠ 24 + p → j ≠ 3 → (j < 34 ∨ 58 < j) → T6 p (nI c) (nI r) (T4 p T) j = T j := fun j h1 h2 h3 h4 h5 => (ao j h1 h2 h3 h4).trans (hY j h5)
  have xm : ∀ j, 34 ≤ j → T6 p (nI c) (nI r) (T4 p T) j = T4 p T j := fun j h1 => ao j (by omega) (by omega) (by omega) (by omega)
  have eX := T6_P (c := nI c) (r := nI r) (T := T4 p T) hp
  have eW : kW (T6 p (nI c) (nI r) (T4 p T)) = kW T := by show (T6 p (nI c) (nI r) (T4 p T) 1).toNatClampNeg = _; rw [xo 1 (by omega) (by omega) (by omega) (by omega) (by omega)]
  have eH : kH (T6 p (nI c) (nI r) (T4 p T)) = kH T := by show (T6 p (nI c) (nI r) (T4 p T) 2).toNatClampNeg = _; rw [xo 2 (by omega) (by omega) (by omega) (by omega) (by omega)]
  have t42 : T4 p T 42 = T 42 := by rw [T4, pk_un (by omega), pk_un (by omega), pk_un (by omega)]
  refine ⟨ag, pa, pf, lm, lt, lw, _, _, _, bk, hQ.ed ?_ (sup_ne (by omega) ((ho _ (by omega)).trans (be1 hQ))) (sup_ne (by omega) ((ho _ (by omega)).trans (be2 hQ))) (sup_ne (by omega) ((ho _ (by omega)).trans (be3 hQ))) (fun q h1 => (sup_ne (by omega) rfl).trans (ho q (by omega))) (fun j h1 h2 => xo j (by omega) (by omega) (by omega) (by omega) (by omega)) (fun j h1 => xo j (by omega) (by omega) (by omega) (by omega) (by omega)) (fun q hq => ?_), fun q h1 h2 => ?_, ?_, rS_new (T := T) hr hI.1.1 hI.2.1 hX.2.1 ep hp eX eW eH (fun q hq => xo _ (by omega) (by omega) (by omega) (by omega) (by omega)) (fun q hq => xo _ (by omega) (by omega) (by omega) (by omega) (by omega)) (fun q hq => xo _ (by omega) (by omega) (by omega) (by omega) (by omega)) a8 a16 a24 (hbk p hp) hc hr9 hn, hbk⟩
  · rw [xo 1 (by omega) (by omega) (by omega) (by omega) (by omega), xo 2 (by omega) (by omega) (by omega) (by omega) (by omega), a3, xo 0 (by omega) (by omega) (by omega) (by omega) (by omega), xm 42 (by omega), t42]
    exact sup_eq
  · rw [eX] at hq
    rw [xm _ (by omega), xm _ (by omega), xm _ (by omega)]
    unfold T4
    by_cases e : q = p
    · subst e
      rw [pk_un (by omega), pk_un (by omega), pk_us, pk_un (by omega), pk_us, pk_us]
      exact hdf q (by omega) hp
    · rw [pk_un (by omega), pk_un (by omega), pk_un (by omega), pk_un (by omega), pk_un (by omega), pk_un (by omega), pk_un (by omega), pk_un (by omega), pk_un (by omega)]
      exact hQ.2.2.2.2.2.2.2.2 q (by omega)
  · rw [eX] at h1
    exact hdf q (by omega) h2
  · rw [xo 33 (by omega) (by omega) (by omega) (by omega) (by omega)]
    exact hR1.kq (fun q h1 h2 => sup_ne (by omega) rfl)
