/-! ===== the class's half of a round: deeds ===== -/
def LwR (Γ : gam) (n b a L : Nat) (xs : row) (ro : Nat → Nat) (K G : row) (im : Nat → Option Nat) (A : Nat → row) (Nm : Nat → Int64) (KI : Nat → row) (F KR : row) (AR : Nat → row) (NR : Nat → Int64) (t : Int32) (v : Int64) (r9 : Int32) (σ : sto) (n1 : Nat) : Prop := r9 = t ∧ n ≤ n1 ∧ LC Γ σ n1 b a L xs ro K G im A Nm KI ∧ (∃ fo, σ (a + 131) = some (cJ Γ 1 fo) ∧ (t = 0 → fo 0 = v)) ∧ MoAt Γ σ (a + 114) F KR AR NR
section LwrS
variable {Γ : gam} {σ : sto} {n n2 k b a L : Nat} {xs : row} {ro : Nat → Nat} {F KR K K2 G G2 : row} {im : Nat → Option Nat} {A A2 : Nat → row} {Nm N2 : Nat → Int64} {KI : Nat → row}
theorem LC.fc {σ1 : sto} (h : LC Γ σ n b a L xs ro K G im A Nm KI) (hf : frS Γ ro (fun q => a ≤ q ∧ q ≤ a + 113) σ σ1) (hc : ClI Γ σ1 a ro K2 G2 im A2 N2 KI) : LC Γ σ1 n b a L xs ro K2 G2 im A2 N2 KI := by
  obtain ⟨h1, h2, ⟨fo, h3⟩, h4⟩ := h
  exact ⟨h1, h2, ⟨fo, hf.at (fun x => by omega) (h4.2.1 _ (by omega) (by omega)) h3⟩, hc⟩
theorem LC.hq {σ1 : sto} (h : LC Γ σ n b a L xs ro K G im A Nm KI) (hf : frS Γ ro (fun q => a ≤ q ∧ q ≤ a + 113) σ σ1) : ∃ fo, σ1 (a + 131) = some (cJ Γ 1 fo) := by
  obtain ⟨fo, h5⟩ := h.2.2.1
  exact ⟨fo, hf.at (fun x => by omega) (h.2.2.2.2.1 _ (by omega) (by omega)) h5⟩
theorem lc_dg {α : Type} (cv : α → Int64) {v : α} {t : Int32} {r9 : Int32} {σ2 : sto} {X : sto → Prop} (h : LC Γ σ n b a L xs ro K G im A Nm KI) (hm : MoAt Γ σ (a + 114) F KR A Nm) (hK : t ≠ 0 → LC Γ σ n b a L xs ro K2 G2 im A2 N2 KI) (hX : ∀ σ1, t = 0 → X σ1 → ClI Γ σ1 a ro K2 G2 im A2 N2 KI ∧ frS Γ ro (fun q => a ≤ q ∧ q ≤ a + 113) σ σ1) (hp : (r9 = 0 ∧ ∃ (v' : α) (σ1 : sto) (fo : Nat → Int64), (t = 0 ∧ v' = v ∧ n2 = n ∧ X σ1) ∧ σ1 (a + 131) = some (cJ Γ 1 fo) ∧ σ2 = sup σ1 (a + 131) (cJ Γ 1 (vp_updL fo 0 (cv v')))) ∨ (r9 = t ∧ t ≠ 0 ∧ σ2 = σ ∧ n ≤ n2)) : LwR Γ n b a L xs ro K2 G2 im A2 N2 KI F KR A Nm t (cv v) r9 σ2 n2 := by
  rcases hp with ⟨h1, v', σ1, fo, ⟨h2, h3, h4, h5⟩, h7, h8⟩ | ⟨h1, h2, h3, h4⟩
  · subst h3
    subst h4
    subst h8
    obtain ⟨c1, c2⟩ := hX σ1 h2 h5
    exact ⟨h1.trans h2.symm, Nat.le_refl _, (h.fc c2 c1).out, ⟨_, sup_eq, fun _ => by unfold vp_updL; rw [if_pos rfl]⟩, mo_out (h.mo hm c2 (fun q x => by omega))⟩
  · subst h3
    obtain ⟨fo, h5⟩ := h.2.2.1
    exact ⟨h1, h4, (hK h2).wn h4, ⟨fo, h5, fun z => absurd z h2⟩, hm⟩
theorem ClI.dG {b2 D : Nat} {σ1 : sto} (h : ClI Γ σ a ro K G im A Nm KI) (hb : BeAt Γ D ro σ b2 K ∧ a + 131 < D ∧ (b2 = a + 10 ∨ a + 131 < b2)) (hs : StAt Γ ro σ1 a b2 K2) (hc : CoAt Γ ro σ1 a G2 im) (hG : G2 1 = G 1) (hf : frS Γ ro (fun q => q = a ∨ dS a q) σ σ1) (hg : GK K2) (ht : tlE K K2) : ClI Γ σ1 a ro K2 G2 im A Nm KI := by
  obtain ⟨h1, h2, h3, -, h5, h6, h7, h8, h9, h10, h11, h12, h13, h14⟩ := h
  obtain ⟨g2, g3, g4⟩ := hb
  refine ⟨hc, h2, hg, ⟨b2, D, hs, (g2.tl ht h3.P8).fs hf (fun q x1 x3 => by omega) (fun q x1 x2 x3 => by omega), g3, g4⟩, h5.fs (fun q x1 x2 => h2 q x1 (by omega)) hf (fun q x1 x3 => by omega), h6.fs hf (fun q x1 x2 x3 => by omega), h7, hf.at (fun x3 => by omega) (h2 _ (by omega) (by omega)) h8, h9, by rw [hG]; exact h10, h11.fs hf (fun q x1 x2 => h2 q (by omega) (by omega)) (fun q x1 x2 x3 x4 => by omega), h12.fs hf (fun q x1 x2 x3 => by omega), fun j x hj hx => (h13 j x hj hx).fs hf (fun q x3 => by omega), h14⟩
theorem min_r {z : Int} (h : (aMin K z).1 ≠ 0) : (aMin K z).2.2 = K := by
  unfold aMin at h ⊢
  split at h
  · rfl
  · exact absurd rfl h
theorem undo_r {z : Int} (h : (aUndo K z).1 ≠ 0) : (aUndo K z).2.2 = K := by
  unfold aUndo at h ⊢
  split at h
  · rfl
  · exact absurd rfl h
theorem aft_r {s : Int32} {z : Int} (h : (aAfter K s z).1 ≠ 0) : (aAfter K s z).2.2 = K := by
  unfold aAfter at h ⊢
  split at h
  · rfl
  · exact absurd rfl h
theorem prf_r {g m : row} {t : Int} (h : (aPerform K g m Nm t).1 ≠ 0) : (aPerform K g m Nm t).2.2 = K := by
  unfold aPerform at h ⊢
  split at h
  · next c => rw [if_pos c]
  · exact absurd rfl h
theorem wq_minutes (h : LC Γ σ n b a L xs ro K G im A Nm KI) (hm : MoAt Γ σ (a + 114) F KR A Nm) (hk : 12 ≤ k) (p0 : Int32) : Sp Γ (rmk (k + 1) 2 12) uL_minutes [.ref a, .int p0, .ref (a + 131)] σ n (qI (LwR Γ n b a L xs ro (aMin K p0.toInt).2.2 G im A Nm KI F KR A Nm (aMin K p0.toInt).1 ((aMin K p0.toInt).2.1.toInt64))) := by
  obtain ⟨h1, h2, h3, ⟨b2, D, ⟨⟨ch, co, rw, bk, s1, s2⟩, f2, d2, s3⟩, ⟨ag, pa, pf, lm, lt, lw, g2⟩, g3, g4⟩, h5, h6, h7, -⟩ := h.2.2.2
  refine sp_mono (lw_minutes (o_q := a + 131) (co0 h1) (cp_minutes h1 s1 s2 rfl g2 h3.1 h3.2.1 s3 (by omega) (by omega) h3.2.2.2.1 hk p0) (fun v σ' n' hX => h.hq (hX.2.2.2.2.wk (fun q x => by omega)))) (fun o9 σ' n' hq => ?_)
  obtain ⟨r9, e9, hp⟩ := hq
  exact ⟨r9, e9, lc_dg (n2 := n') Int32.toInt64 h hm (fun z => by rw [min_r z]; exact h) (fun σ1 _ hs => ⟨h.2.2.2.d ⟨⟨ag, pa, pf, lm, lt, lw, g2⟩, g3, g4⟩ hs.1 hs.2 h3.mins (tl_min h3), hs.2.wk (fun q x => by omega)⟩) hp⟩
theorem wq_undo (h : LC Γ σ n b a L xs ro K G im A Nm KI) (hm : MoAt Γ σ (a + 114) F KR A Nm) (hk : 8 ≤ k) (p0 : Int32) : Sp Γ (rmk (k + 1) 2 12) uL_undo [.ref a, .int p0, .ref (a + 131)] σ n (qI (LwR Γ n b a L xs ro (aUndo K p0.toInt).2.2 G im A Nm KI F KR A Nm (aUndo K p0.toInt).1 ((aUndo K p0.toInt).2.1.toInt64))) := by
  obtain ⟨h1, h2, h3, ⟨b2, D, ⟨⟨ch, co, rw, bk, s1, s2⟩, f2, d2, s3⟩, ⟨ag, pa, pf, lm, lt, lw, g2⟩, g3, g4⟩, h5, h6, h7, -⟩ := h.2.2.2
  refine sp_mono (lw_undo (o_q := a + 131) (co0 h1) (cp_undo h1 s1 s2 rfl g2 h3.1 h3.2.1 s3 (by omega) (by omega) hk p0) (fun v σ' n' hX => h.hq (hX.2.2.2.2.wk (fun q x => by omega)))) (fun o9 σ' n' hq => ?_)
  obtain ⟨r9, e9, hp⟩ := hq
  exact ⟨r9, e9, lc_dg (n2 := n') Int32.toInt64 h hm (fun z => by rw [undo_r z]; exact h) (fun σ1 _ hs => ⟨h.2.2.2.d ⟨⟨ag, pa, pf, lm, lt, lw, g2⟩, g3, g4⟩ hs.1 hs.2 h3.undoA (tl_undo), hs.2.wk (fun q x => by omega)⟩) hp⟩
theorem wq_perform (h : LC Γ σ n b a L xs ro K G im A Nm KI) (hm : MoAt Γ σ (a + 114) F KR A Nm) (hk : 14 ≤ k) (p0 : Int32) : Sp Γ (rmk (k + 1) 4 24) uL_perform [.ref a, .int p0, .ref (a + 131)] σ n (qI (LwR Γ n b a L xs ro (aPerform K (A 14) (A 15) Nm p0.toInt).2.2 G im A Nm KI F KR A Nm (aPerform K (A 14) (A 15) Nm p0.toInt).1 ((aPerform K (A 14) (A 15) Nm p0.toInt).2.1.toInt64))) := by
  obtain ⟨h1, h2, h3, ⟨b2, D, ⟨⟨ch, co, rw, bk, s1, s2⟩, f2, d2, s3⟩, ⟨ag, pa, pf, lm, lt, lw, g2⟩, g3, g4⟩, h5, h6, h7, -⟩ := h.2.2.2
  refine sp_mono (lw_perform (o_q := a + 131) (co0 h1) (cp_perform h1 s1 s2 rfl g2 h3.1 h3.2.1 s3 (by omega) (by omega) h6 h7 hk p0) (fun v σ' n' hX => h.hq (hX.2.2.2.2.wk (fun q x => by omega)))) (fun o9 σ' n' hq => ?_)
  obtain ⟨r9, e9, hp⟩ := hq
  exact ⟨r9, e9, lc_dg (n2 := n') Int32.toInt64 h hm (fun z => by rw [prf_r z]; exact h) (fun σ1 _ hs => ⟨h.2.2.2.d ⟨⟨ag, pa, pf, lm, lt, lw, g2⟩, g3, g4⟩ hs.1 hs.2 h3.perform (tl_perform h3), hs.2.wk (fun q x => by omega)⟩) hp⟩
theorem wq_afternoon (h : LC Γ σ n b a L xs ro K G im A Nm KI) (hm : MoAt Γ σ (a + 114) F KR A Nm) (hk : 14 ≤ k) (p0 p1 : Int32) : Sp Γ (rmk (k + 1) 2 12) uL_afternoon [.ref a, .int p0, .int p1, .ref (a + 131)] σ n (qI fun r9 σ' n' => ∃ G2 : row, (∀ j, j ≠ 15 → G2 j = G j) ∧ LwR Γ n b a L xs ro (aAfter K p0 p1.toInt).2.2 G2 im A Nm KI F KR A Nm (aAfter K p0 p1.toInt).1 ((aAfter K p0 p1.toInt).2.1.toInt64) r9 σ' n') := by
  obtain ⟨h1, h2, h3, ⟨b2, D, ⟨⟨ch, co, rw, bk, s1, s2⟩, f2, d2, s3⟩, ⟨ag, pa, pf, lm, lt, lw, g2⟩, g3, g4⟩, h5, h6, h7, -⟩ := h.2.2.2
  refine sp_mono (lw_afternoon (o_q := a + 131) (co0 h1) (cp_afternoon h1 s1 s2 rfl g2 h3.1 h3.2.1 s3 (by omega) (by omega) hk p0 p1) (fun v σ' n' hX => h.hq (hX.2.2.2.2.2.wk (fun q x => by omega)))) (fun o9 σ' n' hq => ?_)
  obtain ⟨r9, e9, hp⟩ := hq
  refine ⟨r9, e9, ?_⟩
  rcases hp with ⟨e1, v, σ1, fo, ⟨e2, e3, e4, e5, ⟨G2, e6, e7⟩, e8⟩, e10, e11⟩ | hp
  · exact ⟨G2, e7, lc_dg (n2 := n') (X := fun s => s = σ1) Int32.toInt64 h hm (fun z => absurd e2 z) (fun s _ hs => by subst hs; exact ⟨h.2.2.2.dG ⟨⟨ag, pa, pf, lm, lt, lw, g2⟩, g3, g4⟩ e5 e6 (e7 1 (by omega)) e8 h3.after (tl_after h3), e8.wk (fun q x => by omega)⟩) (Or.inl ⟨e1, v, σ1, fo, ⟨e2, e3, e4, rfl⟩, e10, e11⟩)⟩
  · exact ⟨G, fun _ _ => rfl, lc_dg (n2 := n') (X := fun _ => False) (v := (aAfter K p0 p1.toInt).2.1) Int32.toInt64 h hm (fun z => by rw [aft_r z]; exact h) (fun _ _ hs => hs.elim) (Or.inr hp)⟩
theorem wq_rise (h : LC Γ σ n b a L xs ro K G im A Nm KI) (hm : MoAt Γ σ (a + 114) F KR A Nm) (hk : 8 ≤ k) (p0 : Int32) : Sp Γ (rmk k 0 0) uX7_rise [.ref a, .int p0] σ n (qI fun v σ' n' => v = (aRise K p0.toInt).1 ∧ n' = n ∧ LC Γ σ' n b a L xs ro (aRise K p0.toInt).2 G im A Nm KI ∧ MoAt Γ σ' (a + 114) F KR A Nm) := by
  obtain ⟨h1, h2, h3, ⟨b2, D, ⟨⟨ch, co, rw, bk, s1, s2⟩, f2, d2, s3⟩, ⟨ag, pa, pf, lm, lt, lw, g2⟩, g3, g4⟩, h5, h6, h7, -⟩ := h.2.2.2
  refine sp_mono (cp_rise h1 s1 s2 rfl g2 h3.1 h3.2.1 s3 (by omega) (by omega) hk p0) (fun o9 σ' n' hq => ?_)
  obtain ⟨r9, e9, e1, e2, e3, e4⟩ := hq
  exact ⟨r9, e9, e1, e2, h.fr e4 (fun q x => by omega) (h.2.2.2.d ⟨⟨ag, pa, pf, lm, lt, lw, g2⟩, g3, g4⟩ e3 e4 h3.rise (tl_rise h3)), h.mo hm e4 (fun q x => by omega)⟩
theorem wq_sit (h : LC Γ σ n b a L xs ro K G im A Nm KI) (hm : MoAt Γ σ (a + 114) F KR A Nm) (hk : 8 ≤ k) (p0 p1 : Int32) : Sp Γ (rmk k 0 0) uX7_sit [.ref a, .int p0, .int p1] σ n (qI fun v σ' n' => v = (aSit K p0.toInt p1.toInt).1 ∧ n' = n ∧ LC Γ σ' n b a L xs ro (aSit K p0.toInt p1.toInt).2 G im A Nm KI ∧ MoAt Γ σ' (a + 114) F KR A Nm) := by
  obtain ⟨h1, h2, h3, ⟨b2, D, ⟨⟨ch, co, rw, bk, s1, s2⟩, f2, d2, s3⟩, ⟨ag, pa, pf, lm, lt, lw, g2⟩, g3, g4⟩, h5, h6, h7, -⟩ := h.2.2.2
  refine sp_mono (cp_sit h1 s1 s2 rfl g2 h3.1 h3.2.1 s3 (by omega) (by omega) hk p0 p1) (fun o9 σ' n' hq => ?_)
  obtain ⟨r9, e9, e1, e2, e3, e4⟩ := hq
  exact ⟨r9, e9, e1, e2, h.fr e4 (fun q x => by omega) (h.2.2.2.d ⟨⟨ag, pa, pf, lm, lt, lw, g2⟩, g3, g4⟩ e3 e4 h3.sit (tl_sit h3)), h.mo hm e4 (fun q x => by omega)⟩
theorem wq_swap (h : LC Γ σ n b a L xs ro K G im A Nm KI) (hm : MoAt Γ σ (a + 114) F KR A Nm) (hk : 8 ≤ k) (p0 p1 : Int32) : Sp Γ (rmk k 0 0) uX7_swap [.ref a, .int p0, .int p1] σ n (qI fun v σ' n' => v = (aSwap K p0.toInt p1.toInt).1 ∧ n' = n ∧ LC Γ σ' n b a L xs ro (aSwap K p0.toInt p1.toInt).2 G im A Nm KI ∧ MoAt Γ σ' (a + 114) F KR A Nm) := by
  obtain ⟨h1, h2, h3, ⟨b2, D, ⟨⟨ch, co, rw, bk, s1, s2⟩, f2, d2, s3⟩, ⟨ag, pa, pf, lm, lt, lw, g2⟩, g3, g4⟩, h5, h6, h7, -⟩ := h.2.2.2
  refine sp_mono (cp_swap h1 s1 s2 rfl g2 h3.1 h3.2.1 s3 (by omega) (by omega) hk p0 p1) (fun o9 σ' n' hq => ?_)
  obtain ⟨r9, e9, e1, e2, e3, e4⟩ := hq
  exact ⟨r9, e9, e1, e2, h.fr e4 (fun q x => by omega) (h.2.2.2.d ⟨⟨ag, pa, pf, lm, lt, lw, g2⟩, g3, g4⟩ e3 e4 h3.swap (tl_swap h3)), h.mo hm e4 (fun q x => by omega)⟩
theorem wq_stir (h : LC Γ σ n b a L xs ro K G im A Nm KI) (hm : MoAt Γ σ (a + 114) F KR A Nm) (hk : 12 ≤ k) : Sp Γ (rmk k 0 0) uX7_stir [.ref a] σ n (qI fun v σ' n' => v = aStir K ∧ n' = n ∧ LC Γ σ' n b a L xs ro K G im A Nm KI ∧ MoAt Γ σ' (a + 114) F KR A Nm) := by
  obtain ⟨h1, h2, h3, ⟨b2, D, ⟨⟨ch, co, rw, bk, s1, s2⟩, f2, d2, s3⟩, ⟨ag, pa, pf, lm, lt, lw, g2⟩, g3, g4⟩, h5, h6, h7, -⟩ := h.2.2.2
  refine sp_mono (cp_stir h1 s1 s2 g2 h3.1 h3.2.1 h5 (by omega) (by omega) hk) (fun o9 σ' n' hq => ?_)
  obtain ⟨r9, e9, e1, e2, e3, e4⟩ := hq
  exact ⟨r9, e9, e1, e2, h.fr e4 (fun q x => by omega) (h.2.2.2.q e3 e4), h.mo hm e4 (fun q x => by omega)⟩
theorem wq_heaps (h : LC Γ σ n b a L xs ro K G im A Nm KI) (hm : MoAt Γ σ (a + 114) F KR A Nm) (hk : 12 ≤ k) : Sp Γ (rmk k 0 0) uX7_heaps [.ref a] σ n (qI fun v σ' n' => v = aHeaps K ∧ n' = n ∧ LC Γ σ' n b a L xs ro K G im A Nm KI ∧ MoAt Γ σ' (a + 114) F KR A Nm) := by
  obtain ⟨h1, h2, h3, ⟨b2, D, ⟨⟨ch, co, rw, bk, s1, s2⟩, f2, d2, s3⟩, ⟨ag, pa, pf, lm, lt, lw, g2⟩, g3, g4⟩, h5, h6, h7, -⟩ := h.2.2.2
  refine sp_mono (cp_heaps h1 s1 s2 g2 h3.1 h3.2.1 h5 (by omega) (by omega) hk) (fun o9 σ' n' hq => ?_)
  obtain ⟨r9, e9, e1, e2, e3, e4⟩ := hq
  exact ⟨r9, e9, e1, e2, h.fr e4 (fun q x => by omega) (h.2.2.2.q e3 e4), h.mo hm e4 (fun q x => by omega)⟩
end LwrS
