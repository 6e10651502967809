/-! ===== the class's half of a round: trays and images ===== -/
def LwU (Γ : gam) (n b a L : Nat) (xs : row) (ro : Nat → Nat) (K G : row) (im : Nat → Option Nat) (A : Nat → row) (Nm : Nat → Int64) (KI : Nat → row) (F KR : row) (AR : Nat → row) (NR : Nat → Int64) (t r9 : Int32) (σ : sto) (n1 : Nat) : Prop := r9 = t ∧ n ≤ n1 ∧ LC Γ σ n1 b a L xs ro K G im A Nm KI ∧ MoAt Γ σ (a + 114) F KR AR NR
theorem okT_tr {g m : row} {t s y : Int32} (h : okT g m) (ht : trT t.toInt s.toInt y.toInt = 0) : okT (upd g t.toInt.toNat s) (upd m t.toInt.toNat y) := by
  unfold trT at ht
  split at ht
  · exact absurd ht (by decide)
  · split at ht
    · next j k e1 e2 =>
      obtain ⟨a1, -, a2⟩ := rN_some e1
      obtain ⟨b1, -, b2⟩ := rN_some e2
      intro q hq
      by_cases c : q = t.toInt.toNat
      · subst c
        have u1 : upd g t.toInt.toNat s t.toInt.toNat = s := by unfold upd; rw [if_pos rfl]
        have u2 : upd m t.toInt.toNat y t.toInt.toNat = y := by unfold upd; rw [if_pos rfl]
        rw [u1, u2]
        exact ⟨⟨k, by omega, I_nat b1 (by omega)⟩, Or.inr ⟨j, a2, I_nat a1 (by omega)⟩⟩
      · have u1 : upd g t.toInt.toNat s q = g q := by unfold upd; rw [if_neg c]
        have u2 : upd m t.toInt.toNat y q = m q := by unfold upd; rw [if_neg c]
        rw [u1, u2]
        exact h q hq
    · exact absurd ht (by decide)
section LwtS
variable {Γ : gam} {σ : sto} {n n2 k b a L : Nat} {xs : row} {ro : Nat → Nat} {F KR K K2 G G2 : row} {im : Nat → Option Nat} {A A2 : Nat → row} {Nm N2 : Nat → Int64} {KI : Nat → row}
theorem wq_tray (h : LC Γ σ n b a L xs ro K G im A Nm KI) (hm : MoAt Γ σ (a + 114) F KR A Nm) (hk : 8 ≤ k) (p0 p1 p2 : Int32) : Sp Γ (rmk (k + 1) 4 24) uL_tray [.ref a, .int p0, .int p1, .int p2] σ n (qI fun r9 σ' n' => ∃ (A2 : Nat → row) (N2 : Nat → Int64), (trT p0.toInt p1.toInt p2.toInt = 0 → A2 14 = upd (A 14) p0.toInt.toNat p1 ∧ A2 15 = upd (A 15) p0.toInt.toNat p2 ∧ A2 5 = A 5 ∧ N2 = zerN Nm p0.toInt.toNat 30) ∧ (trT p0.toInt p1.toInt p2.toInt ≠ 0 → A2 = A ∧ N2 = Nm) ∧ LwU Γ n b a L xs ro K G im A2 N2 KI F KR A Nm (trT p0.toInt p1.toInt p2.toInt) r9 σ' n') := by
  obtain ⟨h1, h2, h3, -, h5, h6, h7, -⟩ := h.2.2.2
  refine sp_mono (lw_tray (o_q := a + 131) (co0 h1) (cp_tray h1 h6 h7 hk p0 p1 p2)) (fun o9 σ' n' hq => ?_)
  obtain ⟨r9, e9, hp⟩ := hq
  refine ⟨r9, e9, ?_⟩
  rcases hp with ⟨e1, e2, e3, e4, e5⟩ | ⟨e1, e2, e3, e4⟩
  · subst e3
    have c5 : frS Γ ro (fun q => a ≤ q ∧ q ≤ a + 113) σ σ' := e5.wk (fun q x => by omega)
    refine ⟨fun j => if j = 14 then upd (A 14) p0.toInt.toNat p1 else if j = 15 then upd (A 15) p0.toInt.toNat p2 else A j, zerN Nm p0.toInt.toNat 30, fun _ => ⟨rfl, rfl, rfl, rfl⟩, fun z => absurd e2 z, e1.trans e2.symm, Nat.le_refl _, h.fc c5 (h.2.2.2.ty0 e4 (okT_tr h7 e2) e5 rfl), h.mo hm c5 (fun q x => by omega)⟩
  · subst e3
    exact ⟨A, Nm, fun z => absurd z e2, fun _ => ⟨rfl, rfl⟩, e1, e4, h.wn e4, hm⟩
theorem wq_write (h : LC Γ σ n b a L xs ro K G im A Nm KI) (hm : MoAt Γ σ (a + 114) F KR A Nm) (hk : 8 ≤ k) (p0 p1 : Int32) (p2 : Int64) : Sp Γ (rmk (k + 1) 4 24) uL_write [.ref a, .int p0, .int p1, .long p2, .ref (a + 131)] σ n (qI fun r9 σ' n' => ∃ N2 : Nat → Int64, (wrT (A 14) (A 15) p0.toInt p1.toInt = 0 → N2 = vp_updL Nm (30 * p0.toInt.toNat + p1.toInt.toNat) (cutV (A 14 p0.toInt.toNat) p2)) ∧ (wrT (A 14) (A 15) p0.toInt p1.toInt ≠ 0 → N2 = Nm) ∧ LwR Γ n b a L xs ro K G im A N2 KI F KR A Nm (wrT (A 14) (A 15) p0.toInt p1.toInt) (cutV (A 14 p0.toInt.toNat) p2) r9 σ' n') := by
  obtain ⟨h1, h2, h3, -, h5, h6, h7, -⟩ := h.2.2.2
  refine sp_mono (lw_write (o_q := a + 131) (co0 h1) (cp_write h1 h6 h7 hk p0 p1 p2) (fun v σ' n' hX => h.hq (hX.2.2.2.2.wk (fun q x => by omega)))) (fun o9 σ' n' hq => ?_)
  obtain ⟨r9, e9, hp⟩ := hq
  refine ⟨r9, e9, ?_⟩
  by_cases c : wrT (A 14) (A 15) p0.toInt p1.toInt = 0
  · exact ⟨_, fun _ => rfl, fun z => absurd c z, lc_dg (n2 := n') (fun v => v) h hm (fun z => absurd c z) (fun σ1 _ hs => ⟨h.2.2.2.ty0 hs.1 h7 hs.2 rfl, hs.2.wk (fun q x => by omega)⟩) hp⟩
  · exact ⟨Nm, fun z => absurd z c, fun _ => rfl, lc_dg (n2 := n') (fun v => v) h hm (fun _ => h) (fun σ1 z _ => absurd z c) hp⟩
theorem wq_copy (h : LC Γ σ n b a L xs ro K G im A Nm KI) (hm : MoAt Γ σ (a + 114) F KR A Nm) (hk : 14 ≤ k) (p0 p1 : Int32) : Sp Γ (rmk (k + 1) 4 24) uL_copy [.ref a, .int p0, .int p1, .ref (a + 131)] σ n (qI fun r9 σ' n' => ∃ N2 : Nat → Int64, (cpT K (A 14) p0.toInt p1.toInt = 0 → N2 = cpF (A 14 p0.toInt.toNat) p0.toInt.toNat p1.toInt.toNat (A 15 p0.toInt.toNat).toNatClampNeg 0 K Nm) ∧ (cpT K (A 14) p0.toInt p1.toInt ≠ 0 → N2 = Nm) ∧ LwR Γ n b a L xs ro K G im A N2 KI F KR A Nm (cpT K (A 14) p0.toInt p1.toInt) ((A 15 p0.toInt.toNat).toInt64) r9 σ' n') := by
  obtain ⟨h1, h2, h3, ⟨b2, D, ⟨⟨ch, co, rw, bk, s1, s2⟩, f2, d2, s3⟩, ⟨ag, pa, pf, lm, lt, lw, g2⟩, g3, g4⟩, h5, h6, h7, -⟩ := h.2.2.2
  refine sp_mono (lw_copy (o_q := a + 131) (co0 h1) (cp_copy h1 s1 s2 g2 h3.1 h3.2.1 h5 (by omega) (by omega) h6 h7 hk p0 p1) (fun v σ' n' hX => h.hq (hX.2.2.2.2.2.wk (fun q x => by omega)))) (fun o9 σ' n' hq => ?_)
  obtain ⟨r9, e9, hp⟩ := hq
  refine ⟨r9, e9, ?_⟩
  by_cases c : cpT K (A 14) p0.toInt p1.toInt = 0
  · exact ⟨_, fun _ => rfl, fun z => absurd c z, lc_dg (n2 := n') Int32.toInt64 h hm (fun z => absurd c z) (fun σ1 _ hs => ⟨h.2.2.2.ty hs.1 hs.2.1 h7 hs.2.2 rfl, hs.2.2.wk (fun q x => by omega)⟩) hp⟩
  · exact ⟨Nm, fun z => absurd z c, fun _ => rfl, lc_dg (n2 := n') Int32.toInt64 h hm (fun _ => h) (fun σ1 z _ => absurd z c) hp⟩
theorem rs_c {g : row} {z : Int} (h : rsT g z = 0) : ∃ j : Nat, j < 3 ∧ z = (j : Int) ∧ g j ≠ 0 := by
  unfold rsT at h
  split at h
  · exact absurd h (by decide)
  · next j e =>
    obtain ⟨a1, -, a2⟩ := rN_some e
    split at h
    · exact absurd h (by decide)
    · next c => exact ⟨j, a2, a1, c⟩
theorem wq_restore (h : LC Γ σ n b a L xs ro K G im A Nm KI) (hg : ∀ j, j < 3 → (A 4 j = 0 ↔ im j = none)) (hm : MoAt Γ σ (a + 114) F KR A Nm) (hk : 8 ≤ k) (p0 : Int32) : Sp Γ (rmk (k + 1) 4 24) uL_restore [.ref a, .int p0] σ n (qI fun r9 σ' n' => ∃ K2 : row, (rsT (A 4) p0.toInt = 0 → K2 = KI p0.toInt.toNat) ∧ (rsT (A 4) p0.toInt ≠ 0 → K2 = K) ∧ LwU Γ n b a L xs ro K2 G im A Nm KI F KR A Nm (rsT (A 4) p0.toInt) r9 σ' n') := by
  obtain ⟨bI, DI, hI⟩ := h.2.2.2.bI
  obtain ⟨h1, h2, h3, ⟨b2, D, ⟨s0, f2, d2, s3⟩, g2, g3, g4⟩, -⟩ := h.2.2.2
  refine sp_mono (lw_restore (o_q := a + 131) (co0 h1) (cp_restore h1 s0.T s3.hs hg (fun j x hj hx => ⟨by have := (hI j x hj hx).1; omega, (hI j x hj hx).2.2.1, (hI j x hj hx).2.1.1⟩) hk p0)) (fun o9 σ' n' hq => ?_)
  obtain ⟨r9, e9, hp⟩ := hq
  refine ⟨r9, e9, ?_⟩
  rcases hp with ⟨e1, e2, e3, e4, e5⟩ | ⟨e1, e2, e3, e4⟩
  · subst e3
    obtain ⟨j, hj, ej, hz⟩ := rs_c e2
    have ej2 : p0.toInt.toNat = j := by rw [ej]; rfl
    rw [ej2] at e4 ⊢
    cases hx : im j with
    | none => exact absurd ((hg j hj).2 hx) hz
    | some x =>
      obtain ⟨k1, k2, k3, k4, k5, k6⟩ := hI j x hj hx
      have c5 : frS Γ ro (fun q => a ≤ q ∧ q ≤ a + 113) σ σ' := e5.wk (fun q x => by omega)
      exact ⟨KI j, fun _ => rfl, fun z => absurd e2 z, e1.trans e2.symm, Nat.le_refl _, h.fc c5 (h.2.2.2.rst ⟨k4, k5, k6⟩ k2 e4 e5), h.mo hm c5 (fun q x => by omega)⟩
  · subst e3
    exact ⟨K, fun z => absurd z e2, fun _ => rfl, e1, e4, h.wn e4, hm⟩
end LwtS
