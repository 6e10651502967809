/-! ===== the class: what a reading has made so far ===== -/
def ClG (Γ : gam) (D : Nat) (ro : Nat → Nat) (σ : sto) (a b : Nat) (T : row) : Prop := ∃ (ag pa pf : row) (lm lt lw : Value) (ch co rw bk : row), BrAt Γ D ro σ b T ag pa pf lm lt lw ∧ (∀ q, kP T ≤ q → q < 8 → ag q = 0 ∧ pa q = -1 ∧ pf q = -1) ∧ SrAt Γ ro σ (a + 72) b 0 (T 33) ch co rw bk ∧ rS T ch co rw bk ∧ ∀ q, q < 8 → bk q = -1
def ClT (Γ : gam) (D : Nat) (ro : Nat → Nat) (σ : sto) (a b N : Nat) (s : ps) (T : row) : Prop := (∃ lw, CrAt Γ σ a N b lw s) ∧ ∃ T', ClG Γ D ro σ a b T' ∧ kP T' ≤ 8 ∧ (s.bad = 0 → T' = T)
section ClGs
variable {Γ : gam} {D : Nat} {ro : Nat → Nat} {σ σ1 : sto} {a b : Nat} {K K2 T : row} {ag pa pf ch co rw bk ag2 pa2 pf2 : row} {lm lt lw : Value} {w m : Int32}
theorem stk_kp {q : Nat} (h : stkC Γ σ q) (e : σ1 q = σ q) : stkC Γ σ1 q := by
  obtain ⟨s, hs⟩ := h
  exact ⟨s, e.trans hs⟩
theorem LwAt.kq {l : Nat} {cs : List Int32} (h : LwAt Γ D ro σ l cs) (hq : ∀ q, D ≤ q → σ1 q = σ q) : LwAt Γ D ro σ1 l cs := by
  have h1 := h.1.1
  exact ⟨h.1, (hq l h1).trans h.2.1, (hq (l + 1) (by omega)).trans h.2.2.1, stk_kp h.2.2.2 (hq (l + 2) (by omega))⟩
theorem LwV.cg {mn pl : Nat} {v : Value} (h : LwV Γ D ro σ K mn pl v) (hq : ∀ q, D ≤ q → σ1 q = σ q) (e : K2 mn = K mn) (ec : codeK K2 mn pl = codeK K mn pl) : LwV Γ D ro σ1 K2 mn pl v := by
  rcases h with ⟨h1, h2⟩ | ⟨h1, l, h2, h3⟩
  · exact Or.inl ⟨e.trans h1, h2⟩
  · refine Or.inr ⟨by rw [e]; exact h1, l, h2, ?_⟩
    rw [ec]
    exact h3.kq hq
theorem SrAt.kq (h : SrAt Γ ro σ a b w m ch co rw bk) (hq : ∀ q, a ≤ q → q ≤ a + 4 → σ1 q = σ q) : SrAt Γ ro σ1 a b w m ch co rw bk := ⟨h.1, (hq a (by omega) (by omega)).trans h.2.1, (hq (a + 1) (by omega) (by omega)).trans h.2.2.1, (hq (a + 2) (by omega) (by omega)).trans h.2.2.2.1, (hq (a + 3) (by omega) (by omega)).trans h.2.2.2.2.1, (hq (a + 4) (by omega) (by omega)).trans h.2.2.2.2.2⟩
/-- what is told of the beach changes, and its cells with it -/
theorem BrAt.ed (hQ : BrAt Γ D ro σ b K ag pa pf lm lt lw) (c0 : σ1 b = some (cO 0 [.int (K2 1), .int (K2 2), .int (K2 3), .int (K2 0), .int (K2 42), .ref (b + 1), .ref (b + 2), .ref (b + 3), lm, lt, lw])) (c1 : σ1 (b + 1) = some (cI Γ 8 ag2)) (c2 : σ1 (b + 2) = some (cI Γ 8 pa2)) (c3 : σ1 (b + 3) = some (cI Γ 8 pf2)) (hq : ∀ q, D ≤ q → σ1 q = σ q) (e6 : ∀ j, 4 ≤ j → j ≤ 6 → K2 j = K j) (e9 : ∀ j, 319 ≤ j → K2 j = K j) (hp : ∀ p, p < kP K2 → ag2 p = K2 (34 + p) ∧ pa2 p = K2 (43 + p) ∧ pf2 p = K2 (51 + p)) : BrAt Γ D ro σ1 b K2 ag2 pa2 pf2 lm lt lw := ⟨hQ.1, c0, c1, c2, c3, hQ.2.2.2.2.2.1.cg hq (e6 4 (by omega) (by omega)) (codeK_cg (e6 4 (by omega) (by omega)) (fun j _ => e9 _ (by omega))), hQ.2.2.2.2.2.2.1.cg hq (e6 5 (by omega) (by omega)) (codeK_cg (e6 5 (by omega) (by omega)) (fun j _ => e9 _ (by omega))), hQ.2.2.2.2.2.2.2.1.cg hq (e6 6 (by omega) (by omega)) (codeK_cg (e6 6 (by omega) (by omega)) (fun j _ => e9 _ (by omega))), hp⟩
theorem BrAt.kq (hQ : BrAt Γ D ro σ b K ag pa pf lm lt lw) (hq : ∀ q, b ≤ q → q ≤ b + 3 → σ1 q = σ q) (hq2 : ∀ q, D ≤ q → σ1 q = σ q) : BrAt Γ D ro σ1 b K ag pa pf lm lt lw := hQ.ed ((hq b (by omega) (by omega)).trans (be0 hQ)) ((hq _ (by omega) (by omega)).trans (be1 hQ)) ((hq _ (by omega) (by omega)).trans (be2 hQ)) ((hq _ (by omega) (by omega)).trans (be3 hQ)) hq2 (fun _ _ _ => rfl) (fun _ _ => rfl) hQ.2.2.2.2.2.2.2.2
theorem ClG.kq (h : ClG Γ D ro σ a b T) (hq : ∀ q, b ≤ q → σ1 q = σ q) (hbD : b ≤ D) (hs : ∀ q, a + 72 ≤ q → q ≤ a + 76 → σ1 q = σ q) : ClG Γ D ro σ1 a b T := by
  obtain ⟨ag, pa, pf, lm, lt, lw, ch, co, rw, bk, hQ, hdf, hR, hr, hbk⟩ := h
  exact ⟨ag, pa, pf, lm, lt, lw, ch, co, rw, bk, hQ.kq (fun q h1 _ => hq q h1) (fun q h1 => hq q (by omega)), hdf, hR.kq (fun q h1 h2 => hs q h1 (by omega)), hr, hbk⟩
theorem ClG.kp (h : ClG Γ D ro σ a b T) (hq : ∀ q, q ≠ a + 71 → q ≠ a + 80 → σ1 q = σ q) (hab : a + 113 < b) (hbD : b ≤ D) : ClG Γ D ro σ1 a b T := h.kq (fun q h1 => hq q (by omega) (by omega)) hbD (fun q h1 h2 => hq q (by omega) (by omega))
/-- a change of the beach's own cells -/
theorem clg_ed (hQ : BrAt Γ D ro σ b K ag pa pf lm lt lw) (hR : SrAt Γ ro σ (a + 72) b 0 (K 33) ch co rw bk) (hr : rS K ch co rw bk) (hbk : ∀ q, q < 8 → bk q = -1) (h8 : kP K ≤ 8) (c0 : σ1 b = some (cO 0 [.int (K2 1), .int (K2 2), .int (K2 3), .int (K2 0), .int (K2 42), .ref (b + 1), .ref (b + 2), .ref (b + 3), lm, lt, lw])) (c1 : σ1 (b + 1) = some (cI Γ 8 ag2)) (c2 : σ1 (b + 2) = some (cI Γ 8 pa2)) (c3 : σ1 (b + 3) = some (cI Γ 8 pf2)) (hq : ∀ q, D ≤ q → σ1 q = σ q) (hs : ∀ q, a + 72 ≤ q → q ≤ a + 76 → σ1 q = σ q) (e6 : ∀ j, 1 ≤ j → j < 34 → K2 j = K j) (e9 : ∀ j, 319 ≤ j → K2 j = K j) (hp : ∀ p, p < kP K → ag2 p = K2 (34 + p) ∧ pa2 p = K2 (43 + p) ∧ pf2 p = K2 (51 + p)) (hdf : ∀ q, kP K ≤ q → q < 8 → ag2 q = 0 ∧ pa2 q = -1 ∧ pf2 q = -1) : ClG Γ D ro σ1 a b K2 := by
  have eP : kP K2 = kP K := by show (K2 3).toNatClampNeg = _; rw [e6 3 (by omega) (by omega)]
  refine ⟨ag2, pa2, pf2, lm, lt, lw, ch, co, rw, bk, hQ.ed c0 c1 c2 c3 hq (fun j h1 h2 => e6 j (by omega) (by omega)) e9 (by rw [eP]; exact hp), by rw [eP]; exact hdf, ?_, rS_eq hr h8 (fun j hj => e6 j (by omega) (by omega)), hbk⟩
  rw [e6 33 (by omega) (by omega)]
  exact hR.kq (fun q h1 h2 => hs q h1 (by omega))
end ClGs
section ClgU
variable {Γ : gam} {D : Nat} {ro : Nat → Nat} {σ : sto} {a b p : Nat} {K : row} {ag pa pf ch co rw bk : row} {lm lt lw : Value} {v u : Int32}
theorem clg_age (hQ : BrAt Γ D ro σ b K ag pa pf lm lt lw) (hdf : ∀ q, kP K ≤ q → q < 8 → ag q = 0 ∧ pa q = -1 ∧ pf q = -1) (hR : SrAt Γ ro σ (a + 72) b 0 (K 33) ch co rw bk) (hr : rS K ch co rw bk) (hbk : ∀ q, q < 8 → bk q = -1) (h8 : kP K ≤ 8) (hp : p < kP K) (hab : a + 113 < b) (hbD : b + 4 ≤ D) : ClG Γ D ro (sup σ (b + 1) (cI Γ 8 (upd ag p v))) a b (upd K (34 + p) v) := by
  refine clg_ed hQ hR hr hbk h8 ?_ sup_eq (sup_ne (by omega) (be2 hQ)) (sup_ne (by omega) (be3 hQ)) (fun q h1 => sup_ne (by omega) rfl) (fun q h1 h2 => sup_ne (by omega) rfl) (fun j h1 h2 => pk_un (by omega)) (fun j h1 => pk_un (by omega)) (fun q hq => ?_) (fun q h1 h2 => ?_)
  · rw [pk_un (by omega), pk_un (by omega), pk_un (by omega), pk_un (by omega), pk_un (by omega)]
    exact sup_ne (by omega) (be0 hQ)
  · have g := hQ.2.2.2.2.2.2.2.2 q hq
    rw [pk_un (j := 43 + q) (by omega), pk_un (j := 51 + q) (by omega)]
    refine ⟨?_, g.2⟩
    by_cases e : q = p
    · rw [e, pk_us, pk_us]
    · rw [pk_un e, pk_un (by omega)]
      exact g.1
  · rw [pk_un (by omega)]
    exact hdf q h1 h2
theorem clg_slp (hQ : BrAt Γ D ro σ b K ag pa pf lm lt lw) (hdf : ∀ q, kP K ≤ q → q < 8 → ag q = 0 ∧ pa q = -1 ∧ pf q = -1) (hR : SrAt Γ ro σ (a + 72) b 0 (K 33) ch co rw bk) (hr : rS K ch co rw bk) (hbk : ∀ q, q < 8 → bk q = -1) (h8 : kP K ≤ 8) (hab : a + 113 < b) (hbD : b + 4 ≤ D) : ClG Γ D ro (sup σ b (cO 0 [.int (K 1), .int (K 2), .int (K 3), .int (K 0), .int v, .ref (b + 1), .ref (b + 2), .ref (b + 3), lm, lt, lw])) a b (upd K 42 v) := by
  refine clg_ed hQ hR hr hbk h8 ?_ (sup_ne (by omega) (be1 hQ)) (sup_ne (by omega) (be2 hQ)) (sup_ne (by omega) (be3 hQ)) (fun q h1 => sup_ne (by omega) rfl) (fun q h1 h2 => sup_ne (by omega) rfl) (fun j h1 h2 => pk_un (by omega)) (fun j h1 => pk_un (by omega)) (fun q hq => ?_) hdf
  · rw [pk_un (by omega), pk_un (by omega), pk_un (by omega), pk_un (by omega), pk_us]
    exact sup_eq
  · rw [pk_un (by omega), pk_un (by omega), pk_un (by omega)]
    exact hQ.2.2.2.2.2.2.2.2 q hq
theorem clg_ln (hQ : BrAt Γ D ro σ b K ag pa pf lm lt lw) (hdf : ∀ q, kP K ≤ q → q < 8 → ag q = 0 ∧ pa q = -1 ∧ pf q = -1) (hR : SrAt Γ ro σ (a + 72) b 0 (K 33) ch co rw bk) (hr : rS K ch co rw bk) (hbk : ∀ q, q < 8 → bk q = -1) (h8 : kP K ≤ 8) (hab : a + 113 < b) (hbD : b + 4 ≤ D) : ClG Γ D ro (sup σ b (cO 0 [.int (K 1), .int (K 2), .int (K 3), .int v, .int (K 42), .ref (b + 1), .ref (b + 2), .ref (b + 3), lm, lt, lw])) a b (upd K 0 v) := by
  refine clg_ed hQ hR hr hbk h8 ?_ (sup_ne (by omega) (be1 hQ)) (sup_ne (by omega) (be2 hQ)) (sup_ne (by omega) (be3 hQ)) (fun q h1 => sup_ne (by omega) rfl) (fun q h1 h2 => sup_ne (by omega) rfl) (fun j h1 h2 => pk_un (by omega)) (fun j h1 => pk_un (by omega)) (fun q hq => ?_) hdf
  · rw [pk_un (by omega), pk_un (by omega), pk_un (by omega), pk_us, pk_un (by omega)]
    exact sup_eq
  · rw [pk_un (by omega), pk_un (by omega), pk_un (by omega)]
    exact hQ.2.2.2.2.2.2.2.2 q hq
theorem clg_at (hQ : BrAt Γ D ro σ b K ag pa pf lm lt lw) (hdf : ∀ q, kP K ≤ q → q < 8 → ag q = 0 ∧ pa q = -1 ∧ pf q = -1) (hR : SrAt Γ ro σ (a + 72) b 0 (K 33) ch co rw bk) (hr : rS K ch co rw bk) (hbk : ∀ q, q < 8 → bk q = -1) (h8 : kP K ≤ 8) (hp : p < kP K) (hab : a + 113 < b) (hbD : b + 4 ≤ D) : ClG Γ D ro (sup σ (b + 2) (cI Γ 8 (upd pa p v))) a b (upd K (43 + p) v) := by
  refine clg_ed hQ hR hr hbk h8 ?_ (sup_ne (by omega) (be1 hQ)) sup_eq (sup_ne (by omega) (be3 hQ)) (fun q h1 => sup_ne (by omega) rfl) (fun q h1 h2 => sup_ne (by omega) rfl) (fun j h1 h2 => pk_un (by omega)) (fun j h1 => pk_un (by omega)) (fun q hq => ?_) (fun q h1 h2 => ?_)
  · rw [pk_un (by omega), pk_un (by omega), pk_un (by omega), pk_un (by omega), pk_un (by omega)]
    exact sup_ne (by omega) (be0 hQ)
  · have g := hQ.2.2.2.2.2.2.2.2 q hq
    rw [pk_un (j := 34 + q) (by omega), pk_un (j := 51 + q) (by omega)]
    refine ⟨g.1, ?_, g.2.2⟩
    by_cases e : q = p
    · rw [e, pk_us, pk_us]
    · rw [pk_un e, pk_un (by omega)]
      exact g.2.1
  · rw [pk_un (by omega)]
    exact hdf q h1 h2
theorem clg_for (hQ : BrAt Γ D ro σ b K ag pa pf lm lt lw) (hdf : ∀ q, kP K ≤ q → q < 8 → ag q = 0 ∧ pa q = -1 ∧ pf q = -1) (hR : SrAt Γ ro σ (a + 72) b 0 (K 33) ch co rw bk) (hr : rS K ch co rw bk) (hbk : ∀ q, q < 8 → bk q = -1) (h8 : kP K ≤ 8) (hp : p < kP K) (hab : a + 113 < b) (hbD : b + 4 ≤ D) : ClG Γ D ro (sup σ (b + 3) (cI Γ 8 (upd pf p v))) a b (upd K (51 + p) v) := by
  refine clg_ed hQ hR hr hbk h8 ?_ (sup_ne (by omega) (be1 hQ)) (sup_ne (by omega) (be2 hQ)) sup_eq (fun q h1 => sup_ne (by omega) rfl) (fun q h1 h2 => sup_ne (by omega) rfl) (fun j h1 h2 => pk_un (by omega)) (fun j h1 => pk_un (by omega)) (fun q hq => ?_) (fun q h1 h2 => ?_)
  · rw [pk_un (by omega), pk_un (by omega), pk_un (by omega), pk_un (by omega), pk_un (by omega)]
    exact sup_ne (by omega) (be0 hQ)
  · have g := hQ.2.2.2.2.2.2.2.2 q hq
    rw [pk_un (j := 34 + q) (by omega), pk_un (j := 43 + q) (by omega)]
    refine ⟨g.1, g.2.1, ?_⟩
    by_cases e : q = p
    · rw [e, pk_us, pk_us]
    · rw [pk_un e, pk_un (by omega)]
      exact g.2.2
  · rw [pk_un (by omega)]
    exact hdf q h1 h2
theorem clg_min (hQ : BrAt Γ D ro σ b K ag pa pf lm lt lw) (hdf : ∀ q, kP K ≤ q → q < 8 → ag q = 0 ∧ pa q = -1 ∧ pf q = -1) (hR : SrAt Γ ro σ (a + 72) b 0 (K 33) ch co rw bk) (hr : rS K ch co rw bk) (hbk : ∀ q, q < 8 → bk q = -1) (h8 : kP K ≤ 8) (hab : a + 113 < b) (hbD : b + 4 ≤ D) : ClG Γ D ro (sup σ (a + 72) (cO 5 [.ref (a + 72 + 1), .ref (a + 72 + 2), .ref (a + 72 + 3), .ref (a + 72 + 4), .ref b, .int 0, .int v])) a b (upd K 33 v) := by
  have eP : kP (upd K 33 v) = kP K := by show (upd K 33 v 3).toNatClampNeg = _; rw [pk_un (by omega)]
  refine ⟨ag, pa, pf, lm, lt, lw, ch, co, rw, bk, hQ.ed ?_ (sup_ne (by omega) (be1 hQ)) (sup_ne (by omega) (be2 hQ)) (sup_ne (by omega) (be3 hQ)) (fun q h1 => sup_ne (by omega) rfl) (fun j h1 h2 => pk_un (by omega)) (fun j h1 => pk_un (by omega)) (fun q hq => ?_), by rw [eP]; exact hdf, ?_, rS_eq hr h8 (fun j hj => pk_un (by omega)), hbk⟩
  · rw [pk_un (by omega), pk_un (by omega), pk_un (by omega), pk_un (by omega), pk_un (by omega)]
    exact sup_ne (by omega) (be0 hQ)
  · rw [eP] at hq
    rw [pk_un (by omega), pk_un (by omega), pk_un (by omega)]
    exact hQ.2.2.2.2.2.2.2.2 q hq
  · rw [pk_us]
    exact ⟨hR.1, sup_eq, sup_ne (by omega) hR.2.2.1, sup_ne (by omega) hR.2.2.2.1, sup_ne (by omega) hR.2.2.2.2.1, sup_ne (by omega) hR.2.2.2.2.2⟩
end ClgU
/-- a law is kept -/
theorem LwV.nw {Γ : gam} {D : Nat} {ro : Nat → Nat} {σ : sto} {T : row} {w l : Nat} {st : List Int32} (hw : w ≤ 6) (hl : st.length ≤ 900) (hne : st ≠ []) (hL : LwAt Γ D ro σ l (st.map trS)) : LwV Γ D ro σ (layT w st T) w (lwA w) (.ref l) := by
  refine Or.inr ⟨?_, l, rfl, ?_⟩
  · rw [lay_w]
    exact nI_ne0 (List.length_pos_iff.mpr hne) (by omega)
  · rw [lay_c hw hl]
    exact hL
theorem LwV.ot {Γ : gam} {D : Nat} {ro : Nat → Nat} {σ σ1 : sto} {T : row} {w w2 : Nat} {st : List Int32} {v : Value} (h4 : 4 ≤ w) (h6 : w ≤ 6) (g4 : 4 ≤ w2) (g6 : w2 ≤ 6) (hne : w2 ≠ w) (hl : st.length ≤ 900) (hT : (T w2).toNatClampNeg ≤ 900) (h : LwV Γ D ro σ T w2 (lwA w2) v) (hq : ∀ q, D ≤ q → σ q ≠ none → σ1 q = σ q) : LwV Γ D ro σ1 (layT w st T) w2 (lwA w2) v := by
  have hb := lwA_b (w := w)
  have hb2 := lwA_b (w := w2)
  have hf := lw_far h4 h6 g4 g6 hne
  have e1 : layT w st T w2 = T w2 := lay_o hne (by omega)
  have e2 : codeK (layT w st T) w2 (lwA w2) = codeK T w2 (lwA w2) := codeK_cg e1 (fun j hj => lay_o (by omega) (by omega))
  rcases h with ⟨h1, h2⟩ | ⟨h1, l, h2, h3⟩
  · exact Or.inl ⟨e1.trans h1, h2⟩
  · refine Or.inr ⟨by rw [e1]; exact h1, l, h2, ?_⟩
    rw [e2]
    have h0 := h3.1.1
    obtain ⟨s9, hs9⟩ := h3.2.2.2
    exact ⟨h3.1, (hq l h0 (by rw [h3.2.1]; exact fun e => by cases e)).trans h3.2.1, (hq (l + 1) (by omega) (by rw [h3.2.2.1]; exact fun e => by cases e)).trans h3.2.2.1, ⟨s9, (hq (l + 2) (by omega) (by rw [hs9]; exact fun e => by cases e)).trans hs9⟩⟩
/-- one more person on a free chair -/
theorem rS_new {T X ch co rw bk : row} {p c r : Nat} (h : rS T ch co rw bk) (hT : okP T) (hg : gS T) (hgX : gS X) (ep : kP T = p) (hp : p < 8) (eX : kP X = p + 1) (eW : kW X = kW T) (eH : kH X = kH T) (s8 : ∀ q, q < p → X (8 + q) = T (8 + q)) (s16 : ∀ q, q < p → X (16 + q) = T (16 + q)) (s24 : ∀ q, q < p → X (24 + q) = T (24 + q)) (a8 : X (8 + p) = nI c) (a16 : X (16 + p) = nI r) (a24 : X (24 + p) = -1) (hbk : bk p = -1) (hc : c < kW T) (hr : r < kH T) (hn : sitK T (nI c) (nI r) = none) : rS X (upd ch (5 * c + r) (nI p)) (upd co p (nI c)) (upd rw p (nI r)) bk := by
  have hH5 := hT.2.2.2.1
  have hW4 := hT.2.2.2.2.2
  refine ⟨fun q hq => ?_, fun c2 w2 hc2 hw2 => ?_⟩
  · rw [eX] at hq
    by_cases e : q = p
    · subst e
      rw [pk_us, pk_us, a8, a16, a24]
      exact ⟨rfl, rfl, hbk⟩
    · rw [pk_un e, pk_un e, s8 q (by omega), s16 q (by omega), s24 q (by omega)]
      exact h.1 q (by omega)
  · rw [eW] at hc2
    rw [eH] at hw2
    have key := h.2 c2 w2 hc2 hw2
    by_cases e : c2 = c ∧ w2 = r
    · obtain ⟨rfl, rfl⟩ := e
      rw [pk_us, (sit_iff hgX.2.1).mpr ⟨by rw [eX]; omega, a16, a8, nI_ne1 (by omega)⟩]
      rfl
    · rw [pk_un (by omega), key]
      congr 1
      cases hs : sitK T (nI c2) (nI w2) with
      | some q =>
        obtain ⟨g1, g2, g3, g4⟩ := (sit_iff hg.2.1).mp hs
        exact ((sit_iff hgX.2.1).mpr ⟨by omega, by rw [s16 q (by omega)]; exact g2, by rw [s8 q (by omega)]; exact g3, g4⟩).symm
      | none =>
        refine (sit_no.mpr (fun q hq hh => ?_)).symm
        rw [eX] at hq
        by_cases e3 : q = p
        · subst e3
          rw [a8, a16] at hh
          exact e ⟨((nI_eq (by omega) (by omega)).mp hh.2.1).symm, ((nI_eq (by omega) (by omega)).mp hh.1).symm⟩
        · rw [s16 q (by omega), s8 q (by omega)] at hh
          exact sit_no.mp hs q (by omega) hh
/-- who sits there, asked of a text's numbers -/
theorem who_sit {T : row} {c v : Nat} (hT : okP T) (hg : gS T) (hc : c < kW T) (hv : v ≤ 999) : whoK T (nI c).toInt (nI v).toInt = -1 ↔ sitK T (nI c) (nI v) = none := by
  have hH5 := hT.2.2.2.1
  have hW4 := hT.2.2.2.2.2
  rw [nI_toInt (by omega), nI_toInt (by omega)]
  by_cases h : v < kH T
  · rw [whoK_at hc h]
    exact sit_m1 hT.2.1
  · have e1 : whoK T (c : Int) (v : Int) = -1 := by
      have : pN (kH T) (v : Int) = none := by
        unfold pN
        rw [if_neg (by omega)]
      rw [whoK, chK, pN_nat hc, this]
    refine ⟨fun _ => ?_, fun _ => e1⟩
    cases hs : sitK T (nI c) (nI v) with
    | none => rfl
    | some q =>
      obtain ⟨g1, g2, g3, g4⟩ := sitK_lt hs
      rcases (hg.1 q g1).2 with e | ⟨w2, hw2, e⟩
      · rw [e] at g2
        exact absurd g2.symm g4
      · rw [e] at g2
        have := (nI_eq (by omega) (by omega)).mp g2
        omega
