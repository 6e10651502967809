/-! ===== the class's half of a round: questions ===== -/
section LwqS
variable {Γ : gam} {σ : sto} {n n2 k b a L : Nat} {xs : row} {ro : Nat → Nat} {F KR K G : row} {im : Nat → Option Nat} {A : Nat → row} {Nm : Nat → Int64} {KI : Nat → row}
theorem lc_qg {α : Type} (cv : α → Int64) {v : α} {t : Int32} {r9 : Int32} {σ2 : sto} (h : LC Γ σ n b a L xs ro K G im A Nm KI) (hm : MoAt Γ σ (a + 114) F KR A Nm) (hp : (r9 = 0 ∧ ∃ (v' : α) (σ1 : sto) (fo : Nat → Int64), (t = 0 ∧ v' = v ∧ n2 = n ∧ ScAt Γ ro σ1 a ∧ frS Γ ro (scr a) σ σ1) ∧ σ1 (a + 131) = some (cJ Γ 1 fo) ∧ σ2 = sup σ1 (a + 131) (cJ Γ 1 (vp_updL fo 0 (cv v')))) ∨ (r9 = t ∧ t ≠ 0 ∧ σ2 = σ ∧ n ≤ n2)) : LwQ Γ n b a L xs ro F KR K G im A Nm KI t (cv v) r9 σ2 n2 := by
  rcases hp with ⟨h1, v', σ1, fo, ⟨h2, h3, h4, h5, h6⟩, h7, h8⟩ | ⟨h1, h2, h3, h4⟩
  · subst h3
    subst h4
    subst h8
    have hl := h.fr h6 (fun q x => by omega) (h.2.2.2.q h5 h6)
    exact ⟨h1.trans h2.symm, Nat.le_refl _, hl.out, ⟨_, sup_eq, fun _ => by unfold vp_updL; rw [if_pos rfl]⟩, mo_out (h.mo hm h6 (fun q x => by omega))⟩
  · subst h3
    obtain ⟨fo, h5⟩ := h.2.2.1
    exact ⟨h1, h4, h.wn h4, ⟨fo, h5, fun z => absurd z h2⟩, hm⟩
theorem LC.ho {σ1 : sto} (h : LC Γ σ n b a L xs ro K G im A Nm KI) (hf : frS Γ ro (scr a) σ σ1) : ∃ fo, σ1 (a + 131) = some (cJ Γ 1 fo) := by
  obtain ⟨fo, h5⟩ := h.2.2.1
  exact ⟨fo, hf.at (fun x => by omega) (h.2.2.2.2.1 _ (by omega) (by omega)) h5⟩
theorem wq_chair (h : LC Γ σ n b a L xs ro K G im A Nm KI) (hm : MoAt Γ σ (a + 114) F KR A Nm) (hk : 12 ≤ k) (p0 p1 : Int32) : Sp Γ (rmk (k + 1) 4 24) uL_chair [.ref a, .int p0, .int p1, .ref (a + 131)] σ n (qI (LwQ Γ n b a L xs ro F KR K G im A Nm KI (aChair K p0.toInt p1.toInt).1 ((aChair K p0.toInt p1.toInt).2.toInt64))) := by
  obtain ⟨h1, h2, h3, ⟨b2, D, ⟨⟨ch, co, rw, bk, s1, s2⟩, f2, d2, s3⟩, ⟨ag, pa, pf, lm, lt, lw, g2⟩, g3, g4⟩, h5, h6, h7, -⟩ := h.2.2.2
  refine sp_mono (lw_chair (o_q := a + 131) (co0 h1) (cp_chair h1 s1 s2 g2 h3.1 h3.2.1 h5 (by omega) (by omega) hk p0 p1) (fun v σ' n' hX => h.ho hX.2.2.2.2)) (fun o9 σ' n' hq => ?_)
  obtain ⟨r9, e9, hp⟩ := hq
  exact ⟨r9, e9, lc_qg (n2 := n') Int32.toInt64 h hm hp⟩
theorem wq_person (h : LC Γ σ n b a L xs ro K G im A Nm KI) (hm : MoAt Γ σ (a + 114) F KR A Nm) (hk : 12 ≤ k) (p0 p1 : Int32) : Sp Γ (rmk (k + 1) 4 24) uL_person [.ref a, .int p0, .int p1, .ref (a + 131)] σ n (qI (LwQ Γ n b a L xs ro F KR K G im A Nm KI (aPerson K p0.toInt p1.toInt).1 ((aPerson K p0.toInt p1.toInt).2.toInt64))) := by
  obtain ⟨h1, h2, h3, ⟨b2, D, ⟨⟨ch, co, rw, bk, s1, s2⟩, f2, d2, s3⟩, ⟨ag, pa, pf, lm, lt, lw, g2⟩, g3, g4⟩, h5, h6, h7, -⟩ := h.2.2.2
  refine sp_mono (lw_person (o_q := a + 131) (co0 h1) (cp_person h1 s1 s2 g2 h3.1 h3.2.1 h5 (by omega) (by omega) rfl hk p0 p1) (fun v σ' n' hX => h.ho hX.2.2.2.2)) (fun o9 σ' n' hq => ?_)
  obtain ⟨r9, e9, hp⟩ := hq
  exact ⟨r9, e9, lc_qg (n2 := n') Int32.toInt64 h hm hp⟩
theorem wq_tide (h : LC Γ σ n b a L xs ro K G im A Nm KI) (hm : MoAt Γ σ (a + 114) F KR A Nm) (hk : 12 ≤ k) (p0 : Int32) : Sp Γ (rmk (k + 1) 4 24) uL_tide [.ref a, .int p0, .ref (a + 131)] σ n (qI (LwQ Γ n b a L xs ro F KR K G im A Nm KI (aTide K p0.toInt).1 ((aTide K p0.toInt).2.toInt64))) := by
  obtain ⟨h1, h2, h3, ⟨b2, D, ⟨⟨ch, co, rw, bk, s1, s2⟩, f2, d2, s3⟩, ⟨ag, pa, pf, lm, lt, lw, g2⟩, g3, g4⟩, h5, h6, h7, -⟩ := h.2.2.2
  refine sp_mono (lw_tide (o_q := a + 131) (co0 h1) (cp_tide h1 s1 s2 g2 h3.1 h3.2.1 h5 (by omega) (by omega) hk p0) (fun v σ' n' hX => h.ho hX.2.2.2.2)) (fun o9 σ' n' hq => ?_)
  obtain ⟨r9, e9, hp⟩ := hq
  exact ⟨r9, e9, lc_qg (n2 := n') Int32.toInt64 h hm hp⟩
theorem wq_moves (h : LC Γ σ n b a L xs ro K G im A Nm KI) (hm : MoAt Γ σ (a + 114) F KR A Nm) (hk : 12 ≤ k) (p0 p1 p2 : Int32) : Sp Γ (rmk (k + 1) 4 24) uL_moves [.ref a, .int p0, .int p1, .int p2, .ref (a + 131)] σ n (qI (LwQ Γ n b a L xs ro F KR K G im A Nm KI (aMoves K p0.toInt p1.toInt p2.toInt).1 (if (aMoves K p0.toInt p1.toInt p2.toInt).2 = 0 then 0 else 1))) := by
  obtain ⟨h1, h2, h3, ⟨b2, D, ⟨⟨ch, co, rw, bk, s1, s2⟩, f2, d2, s3⟩, ⟨ag, pa, pf, lm, lt, lw, g2⟩, g3, g4⟩, h5, h6, h7, -⟩ := h.2.2.2
  refine sp_mono (lw_moves (o_q := a + 131) (co0 h1) (cp_moves h1 s1 s2 g2 h3.1 h3.2.1 h5 (by omega) (by omega) hk p0 p1 p2) (fun v σ' n' hX => h.ho hX.2.2.2.2)) (fun o9 σ' n' hq => ?_)
  obtain ⟨r9, e9, hp⟩ := hq
  exact ⟨r9, e9, lc_qg (n2 := n') (fun v => if v = 0 then 0 else 1) h hm hp⟩
theorem wq_wets (h : LC Γ σ n b a L xs ro K G im A Nm KI) (hm : MoAt Γ σ (a + 114) F KR A Nm) (hk : 12 ≤ k) (p0 p1 p2 : Int32) : Sp Γ (rmk (k + 1) 4 24) uL_wets [.ref a, .int p0, .int p1, .int p2, .ref (a + 131)] σ n (qI (LwQ Γ n b a L xs ro F KR K G im A Nm KI (aWets K p0.toInt p1.toInt p2.toInt).1 ((aWets K p0.toInt p1.toInt p2.toInt).2.toInt64))) := by
  obtain ⟨h1, h2, h3, ⟨b2, D, ⟨⟨ch, co, rw, bk, s1, s2⟩, f2, d2, s3⟩, ⟨ag, pa, pf, lm, lt, lw, g2⟩, g3, g4⟩, h5, h6, h7, -⟩ := h.2.2.2
  refine sp_mono (lw_wets (o_q := a + 131) (co0 h1) (cp_wets h1 s1 s2 g2 h3.1 h3.2.1 h5 (by omega) (by omega) hk p0 p1 p2) (fun v σ' n' hX => h.ho hX.2.2.2.2)) (fun o9 σ' n' hq => ?_)
  obtain ⟨r9, e9, hp⟩ := hq
  exact ⟨r9, e9, lc_qg (n2 := n') Int32.toInt64 h hm hp⟩
theorem wq_judge (h : LC Γ σ n b a L xs ro K G im A Nm KI) (hm : MoAt Γ σ (a + 114) F KR A Nm) (hk : 14 ≤ k) (p0 p1 : Int32) : Sp Γ (rmk (k + 1) 4 24) uL_judge [.ref a, .int p0, .int p1, .ref (a + 131)] σ n (qI (LwQ Γ n b a L xs ro F KR K G im A Nm KI (aJudge K (A 14) (A 15) Nm p0.toInt p1).1 ((aJudge K (A 14) (A 15) Nm p0.toInt p1).2.toInt64))) := by
  obtain ⟨h1, h2, h3, ⟨b2, D, ⟨⟨ch, co, rw, bk, s1, s2⟩, f2, d2, s3⟩, ⟨ag, pa, pf, lm, lt, lw, g2⟩, g3, g4⟩, h5, h6, h7, -⟩ := h.2.2.2
  refine sp_mono (lw_judge (o_q := a + 131) (co0 h1) (cp_judge h1 s1 s2 g2 h3.1 h3.2.1 h5 (by omega) (by omega) h6 h7 hk p0 p1) (fun v σ' n' hX => h.ho hX.2.2.2.2)) (fun o9 σ' n' hq => ?_)
  obtain ⟨r9, e9, hp⟩ := hq
  exact ⟨r9, e9, lc_qg (n2 := n') Int32.toInt64 h hm hp⟩
theorem wq_sits (h : LC Γ σ n b a L xs ro K G im A Nm KI) (hm : MoAt Γ σ (a + 114) F KR A Nm) (hk : 12 ≤ k) (p0 p1 : Int32) : Sp Γ (rmk (k + 1) 4 24) uL_sits [.ref a, .int p0, .int p1, .ref (a + 131)] σ n (qI (LwQ Γ n b a L xs ro F KR K G im A Nm KI (aSits K p0.toInt p1.toInt).1 ((aSits K p0.toInt p1.toInt).2.toInt64))) := by
  obtain ⟨h1, h2, h3, ⟨b2, D, ⟨⟨ch, co, rw, bk, s1, s2⟩, f2, d2, s3⟩, ⟨ag, pa, pf, lm, lt, lw, g2⟩, g3, g4⟩, h5, h6, h7, -⟩ := h.2.2.2
  refine sp_mono (lw_sits (o_q := a + 131) (co0 h1) (cp_sits h1 s1 s2 g2 h3.1 h3.2.1 h5 (by omega) (by omega) hk p0 p1) (fun v σ' n' hX => h.ho hX.2.2.2.2)) (fun o9 σ' n' hq => ?_)
  obtain ⟨r9, e9, hp⟩ := hq
  exact ⟨r9, e9, lc_qg (n2 := n') Int32.toInt64 h hm hp⟩
theorem wq_wetIn (h : LC Γ σ n b a L xs ro K G im A Nm KI) (hm : MoAt Γ σ (a + 114) F KR A Nm) (hk : 12 ≤ k) (p0 : Int32) : Sp Γ (rmk (k + 1) 4 24) uL_wetIn [.ref a, .int p0, .ref (a + 131)] σ n (qI (LwQ Γ n b a L xs ro F KR K G im A Nm KI (aWetIn K p0.toInt).1 ((aWetIn K p0.toInt).2.toInt64))) := by
  obtain ⟨h1, h2, h3, ⟨b2, D, ⟨⟨ch, co, rw, bk, s1, s2⟩, f2, d2, s3⟩, ⟨ag, pa, pf, lm, lt, lw, g2⟩, g3, g4⟩, h5, h6, h7, -⟩ := h.2.2.2
  refine sp_mono (lw_wetIn (o_q := a + 131) (co0 h1) (cp_wetIn h1 s1 s2 g2 h3.1 h3.2.1 h5 (by omega) (by omega) rfl hk p0) (fun v σ' n' hX => h.ho hX.2.2.2.2)) (fun o9 σ' n' hq => ?_)
  obtain ⟨r9, e9, hp⟩ := hq
  exact ⟨r9, e9, lc_qg (n2 := n') Int32.toInt64 h hm hp⟩
theorem wq_wetBy (h : LC Γ σ n b a L xs ro K G im A Nm KI) (hm : MoAt Γ σ (a + 114) F KR A Nm) (hk : 12 ≤ k) (p0 : Int32) : Sp Γ (rmk (k + 1) 4 24) uL_wetBy [.ref a, .int p0, .ref (a + 131)] σ n (qI (LwQ Γ n b a L xs ro F KR K G im A Nm KI (aWetBy K p0.toInt).1 ((aWetBy K p0.toInt).2.toInt64))) := by
  obtain ⟨h1, h2, h3, ⟨b2, D, ⟨⟨ch, co, rw, bk, s1, s2⟩, f2, d2, s3⟩, ⟨ag, pa, pf, lm, lt, lw, g2⟩, g3, g4⟩, h5, h6, h7, -⟩ := h.2.2.2
  refine sp_mono (lw_wetBy (o_q := a + 131) (co0 h1) (cp_wetBy h1 s1 s2 g2 h3.1 h3.2.1 h5 (by omega) (by omega) rfl hk p0) (fun v σ' n' hX => h.ho hX.2.2.2.2)) (fun o9 σ' n' hq => ?_)
  obtain ⟨r9, e9, hp⟩ := hq
  exact ⟨r9, e9, lc_qg (n2 := n') Int32.toInt64 h hm hp⟩
theorem wq_frontIn (h : LC Γ σ n b a L xs ro K G im A Nm KI) (hm : MoAt Γ σ (a + 114) F KR A Nm) (hk : 12 ≤ k) (p0 : Int32) : Sp Γ (rmk (k + 1) 4 24) uL_frontIn [.ref a, .int p0, .ref (a + 131)] σ n (qI (LwQ Γ n b a L xs ro F KR K G im A Nm KI (aFrontIn K p0.toInt).1 ((aFrontIn K p0.toInt).2.toInt64))) := by
  obtain ⟨h1, h2, h3, ⟨b2, D, ⟨⟨ch, co, rw, bk, s1, s2⟩, f2, d2, s3⟩, ⟨ag, pa, pf, lm, lt, lw, g2⟩, g3, g4⟩, h5, h6, h7, -⟩ := h.2.2.2
  refine sp_mono (lw_frontIn (o_q := a + 131) (co0 h1) (cp_frontIn h1 s1 s2 g2 h3.1 h3.2.1 h5 (by omega) (by omega) hk p0) (fun v σ' n' hX => h.ho hX.2.2.2.2)) (fun o9 σ' n' hq => ?_)
  obtain ⟨r9, e9, hp⟩ := hq
  exact ⟨r9, e9, lc_qg (n2 := n') Int32.toInt64 h hm hp⟩
theorem wq_front (h : LC Γ σ n b a L xs ro K G im A Nm KI) (hm : MoAt Γ σ (a + 114) F KR A Nm) (hk : 12 ≤ k) (p0 : Int32) : Sp Γ (rmk (k + 1) 4 24) uL_front [.ref a, .int p0, .ref (a + 131)] σ n (qI (LwQ Γ n b a L xs ro F KR K G im A Nm KI (aFront K p0.toInt).1 ((aFront K p0.toInt).2.toInt64))) := by
  obtain ⟨h1, h2, h3, ⟨b2, D, ⟨⟨ch, co, rw, bk, s1, s2⟩, f2, d2, s3⟩, ⟨ag, pa, pf, lm, lt, lw, g2⟩, g3, g4⟩, h5, h6, h7, -⟩ := h.2.2.2
  refine sp_mono (lw_front (o_q := a + 131) (co0 h1) (cp_front h1 s1 s2 g2 h3.1 h3.2.1 h5 (by omega) (by omega) hk p0) (fun v σ' n' hX => h.ho hX.2.2.2.2)) (fun o9 σ' n' hq => ?_)
  obtain ⟨r9, e9, hp⟩ := hq
  exact ⟨r9, e9, lc_qg (n2 := n') Int32.toInt64 h hm hp⟩
theorem wq_king (h : LC Γ σ n b a L xs ro K G im A Nm KI) (hm : MoAt Γ σ (a + 114) F KR A Nm) (hk : 12 ≤ k) (p0 : Int32) : Sp Γ (rmk (k + 1) 4 24) uL_king [.ref a, .int p0, .ref (a + 131)] σ n (qI (LwQ Γ n b a L xs ro F KR K G im A Nm KI (aKing K p0.toInt).1 ((aKing K p0.toInt).2.toInt64))) := by
  obtain ⟨h1, h2, h3, ⟨b2, D, ⟨⟨ch, co, rw, bk, s1, s2⟩, f2, d2, s3⟩, ⟨ag, pa, pf, lm, lt, lw, g2⟩, g3, g4⟩, h5, h6, h7, -⟩ := h.2.2.2
  refine sp_mono (lw_king (o_q := a + 131) (co0 h1) (cp_king h1 s1 s2 g2 h3.1 h3.2.1 h5 (by omega) (by omega) hk p0) (fun v σ' n' hX => h.ho hX.2.2.2.2)) (fun o9 σ' n' hq => ?_)
  obtain ⟨r9, e9, hp⟩ := hq
  exact ⟨r9, e9, lc_qg (n2 := n') Int32.toInt64 h hm hp⟩
theorem wq_bring (h : LC Γ σ n b a L xs ro K G im A Nm KI) (hm : MoAt Γ σ (a + 114) F KR A Nm) (hk : 16 ≤ k) (p0 p1 p2 : Int32) : Sp Γ (rmk (k + 1) 4 24) uL_bring [.ref a, .int p0, .int p1, .int p2, .ref (a + 131)] σ n (qI (LwQ Γ n b a L xs ro F KR K G im A Nm KI (aBring K p0.toInt p1 p2).1 ((aBring K p0.toInt p1 p2).2.toInt64))) := by
  obtain ⟨h1, h2, h3, ⟨b2, D, ⟨⟨ch, co, rw, bk, s1, s2⟩, f2, d2, s3⟩, ⟨ag, pa, pf, lm, lt, lw, g2⟩, g3, g4⟩, h5, h6, h7, -⟩ := h.2.2.2
  refine sp_mono (lw_bring (o_q := a + 131) (co0 h1) (cp_bring h1 s1 s2 g2 h3.1 h3.2.1 h5 (by omega) (by omega) h3.2.2.1 hk p0 p1 p2) (fun v σ' n' hX => h.ho hX.2.2.2.2)) (fun o9 σ' n' hq => ?_)
  obtain ⟨r9, e9, hp⟩ := hq
  exact ⟨r9, e9, lc_qg (n2 := n') Int32.toInt64 h hm hp⟩
theorem wq_faints (h : LC Γ σ n b a L xs ro K G im A Nm KI) (hm : MoAt Γ σ (a + 114) F KR A Nm) (hk : 14 ≤ k) (p0 p1 p2 : Int32) : Sp Γ (rmk (k + 1) 4 24) uL_faints [.ref a, .int p0, .int p1, .int p2, .ref (a + 131)] σ n (qI (LwQ Γ n b a L xs ro F KR K G im A Nm KI (aFaints K p0.toInt p1.toInt p2.toInt).1 ((aFaints K p0.toInt p1.toInt p2.toInt).2.toInt64))) := by
  obtain ⟨h1, h2, h3, ⟨b2, D, ⟨⟨ch, co, rw, bk, s1, s2⟩, f2, d2, s3⟩, ⟨ag, pa, pf, lm, lt, lw, g2⟩, g3, g4⟩, h5, h6, h7, -⟩ := h.2.2.2
  refine sp_mono (lw_faints (o_q := a + 131) (co0 h1) (cp_faints h1 s1 s2 g2 h3.1 h3.2.1 h5 (by omega) (by omega) hk p0 p1 p2) (fun v σ' n' hX => h.ho hX.2.2.2.2)) (fun o9 σ' n' hq => ?_)
  obtain ⟨r9, e9, hp⟩ := hq
  exact ⟨r9, e9, lc_qg (n2 := n') Int32.toInt64 h hm hp⟩
theorem wq_round (h : LC Γ σ n b a L xs ro K G im A Nm KI) (hm : MoAt Γ σ (a + 114) F KR A Nm) (hk : 12 ≤ k) (p0 : Int32) : Sp Γ (rmk (k + 1) 4 24) uL_round [.ref a, .int p0, .ref (a + 131)] σ n (qI (LwQ Γ n b a L xs ro F KR K G im A Nm KI (aRound K p0.toInt).1 ((aRound K p0.toInt).2.toInt64))) := by
  obtain ⟨h1, h2, h3, ⟨b2, D, ⟨⟨ch, co, rw, bk, s1, s2⟩, f2, d2, s3⟩, ⟨ag, pa, pf, lm, lt, lw, g2⟩, g3, g4⟩, h5, h6, h7, -⟩ := h.2.2.2
  refine sp_mono (lw_round (o_q := a + 131) (co0 h1) (cp_round h1 s1 s2 g2 h3.1 h3.2.1 h5 (by omega) (by omega) h3.2.2.1 hk p0) (fun v σ' n' hX => h.ho hX.2.2.2.2)) (fun o9 σ' n' hq => ?_)
  obtain ⟨r9, e9, hp⟩ := hq
  exact ⟨r9, e9, lc_qg (n2 := n') Int32.toInt64 h hm hp⟩
theorem wq_hands (h : LC Γ σ n b a L xs ro K G im A Nm KI) (hm : MoAt Γ σ (a + 114) F KR A Nm) (hk : 12 ≤ k) (p0 p1 : Int32) : Sp Γ (rmk (k + 1) 4 24) uL_hands [.ref a, .int p0, .int p1, .ref (a + 131)] σ n (qI (LwQ Γ n b a L xs ro F KR K G im A Nm KI (aHands K p0.toInt p1.toInt).1 ((aHands K p0.toInt p1.toInt).2.toInt64))) := by
  obtain ⟨h1, h2, h3, ⟨b2, D, ⟨⟨ch, co, rw, bk, s1, s2⟩, f2, d2, s3⟩, ⟨ag, pa, pf, lm, lt, lw, g2⟩, g3, g4⟩, h5, h6, h7, -⟩ := h.2.2.2
  refine sp_mono (lw_hands (o_q := a + 131) (co0 h1) (cp_hands h1 s1 s2 g2 h3.1 h3.2.1 h5 (by omega) (by omega) hk p0 p1) (fun v σ' n' hX => h.ho hX.2.2.2.2)) (fun o9 σ' n' hq => ?_)
  obtain ⟨r9, e9, hp⟩ := hq
  exact ⟨r9, e9, lc_qg (n2 := n') Int32.toInt64 h hm hp⟩
theorem wq_relay (h : LC Γ σ n b a L xs ro K G im A Nm KI) (hm : MoAt Γ σ (a + 114) F KR A Nm) (hk : 12 ≤ k) (p0 : Int32) : Sp Γ (rmk (k + 1) 4 24) uL_relay [.ref a, .int p0, .ref (a + 131)] σ n (qI (LwQ Γ n b a L xs ro F KR K G im A Nm KI (aRelay K p0.toInt).1 ((aRelay K p0.toInt).2.toInt64))) := by
  obtain ⟨h1, h2, h3, ⟨b2, D, ⟨⟨ch, co, rw, bk, s1, s2⟩, f2, d2, s3⟩, ⟨ag, pa, pf, lm, lt, lw, g2⟩, g3, g4⟩, h5, h6, h7, -⟩ := h.2.2.2
  refine sp_mono (lw_relay (o_q := a + 131) (co0 h1) (cp_relay h1 s1 s2 g2 h3.1 h3.2.1 h5 (by omega) (by omega) hk p0) (fun v σ' n' hX => h.ho hX.2.2.2.2)) (fun o9 σ' n' hq => ?_)
  obtain ⟨r9, e9, hp⟩ := hq
  exact ⟨r9, e9, lc_qg (n2 := n') Int32.toInt64 h hm hp⟩
theorem wq_cut (h : LC Γ σ n b a L xs ro K G im A Nm KI) (hm : MoAt Γ σ (a + 114) F KR A Nm) (hk : 12 ≤ k) (p0 p1 : Int32) : Sp Γ (rmk (k + 1) 4 24) uL_cut [.ref a, .int p0, .int p1, .ref (a + 131)] σ n (qI (LwQ Γ n b a L xs ro F KR K G im A Nm KI (aCut K p0.toInt p1.toInt).1 ((aCut K p0.toInt p1.toInt).2.toInt64))) := by
  obtain ⟨h1, h2, h3, ⟨b2, D, ⟨⟨ch, co, rw, bk, s1, s2⟩, f2, d2, s3⟩, ⟨ag, pa, pf, lm, lt, lw, g2⟩, g3, g4⟩, h5, h6, h7, -⟩ := h.2.2.2
  refine sp_mono (lw_cut (o_q := a + 131) (co0 h1) (cp_cut h1 s1 s2 g2 h3.1 h3.2.1 h5 (by omega) (by omega) hk p0 p1) (fun v σ' n' hX => h.ho hX.2.2.2.2)) (fun o9 σ' n' hq => ?_)
  obtain ⟨r9, e9, hp⟩ := hq
  exact ⟨r9, e9, lc_qg (n2 := n') Int32.toInt64 h hm hp⟩
theorem wq_dry (h : LC Γ σ n b a L xs ro K G im A Nm KI) (hm : MoAt Γ σ (a + 114) F KR A Nm) (hk : 12 ≤ k) (p0 p1 p2 : Int32) : Sp Γ (rmk (k + 1) 4 24) uL_dry [.ref a, .int p0, .int p1, .int p2, .ref (a + 131)] σ n (qI (LwQ Γ n b a L xs ro F KR K G im A Nm KI (aDry K p0.toInt p1.toInt p2.toInt).1 (aDry K p0.toInt p1.toInt p2.toInt).2)) := by
  obtain ⟨h1, h2, h3, ⟨b2, D, ⟨⟨ch, co, rw, bk, s1, s2⟩, f2, d2, s3⟩, ⟨ag, pa, pf, lm, lt, lw, g2⟩, g3, g4⟩, h5, h6, h7, -⟩ := h.2.2.2
  refine sp_mono (lw_dry (o_q := a + 131) (co0 h1) (cp_dry h1 s1 s2 g2 h3.1 h3.2.1 h5 (by omega) (by omega) hk p0 p1 p2) (fun v σ' n' hX => h.ho hX.2.2.2.2)) (fun o9 σ' n' hq => ?_)
  obtain ⟨r9, e9, hp⟩ := hq
  exact ⟨r9, e9, lc_qg (n2 := n') (fun v => v) h hm hp⟩
theorem wq_driest (h : LC Γ σ n b a L xs ro K G im A Nm KI) (hm : MoAt Γ σ (a + 114) F KR A Nm) (hk : 12 ≤ k) (p0 : Int32) : Sp Γ (rmk (k + 1) 4 24) uL_driest [.ref a, .int p0, .ref (a + 131)] σ n (qI (LwQ Γ n b a L xs ro F KR K G im A Nm KI (aDriest K p0.toInt).1 ((aDriest K p0.toInt).2.toInt64))) := by
  obtain ⟨h1, h2, h3, ⟨b2, D, ⟨⟨ch, co, rw, bk, s1, s2⟩, f2, d2, s3⟩, ⟨ag, pa, pf, lm, lt, lw, g2⟩, g3, g4⟩, h5, h6, h7, -⟩ := h.2.2.2
  refine sp_mono (lw_driest (o_q := a + 131) (co0 h1) (cp_driest h1 s1 s2 g2 h3.1 h3.2.1 h5 (by omega) (by omega) hk p0) (fun v σ' n' hX => h.ho hX.2.2.2.2)) (fun o9 σ' n' hq => ?_)
  obtain ⟨r9, e9, hp⟩ := hq
  exact ⟨r9, e9, lc_qg (n2 := n') Int32.toInt64 h hm hp⟩
theorem wq_where (h : LC Γ σ n b a L xs ro K G im A Nm KI) (hm : MoAt Γ σ (a + 114) F KR A Nm) (hk : 12 ≤ k) (p0 p1 : Int32) : Sp Γ (rmk (k + 1) 4 24) uL_where [.ref a, .int p0, .int p1, .ref (a + 131)] σ n (qI (LwQ Γ n b a L xs ro F KR K G im A Nm KI (aWhere K p0.toInt p1.toInt).1 ((aWhere K p0.toInt p1.toInt).2.toInt64))) := by
  obtain ⟨h1, h2, h3, ⟨b2, D, ⟨⟨ch, co, rw, bk, s1, s2⟩, f2, d2, s3⟩, ⟨ag, pa, pf, lm, lt, lw, g2⟩, g3, g4⟩, h5, h6, h7, -⟩ := h.2.2.2
  refine sp_mono (lw_where (o_q := a + 131) (co0 h1) (cp_where h1 s1 s2 g2 h3.1 h3.2.1 h5 (by omega) (by omega) hk p0 p1) (fun v σ' n' hX => h.ho hX.2.2.2.2)) (fun o9 σ' n' hq => ?_)
  obtain ⟨r9, e9, hp⟩ := hq
  exact ⟨r9, e9, lc_qg (n2 := n') Int32.toInt64 h hm hp⟩
theorem wq_changed (h : LC Γ σ n b a L xs ro K G im A Nm KI) (hm : MoAt Γ σ (a + 114) F KR A Nm) (hk : 14 ≤ k) (p0 p1 : Int32) : Sp Γ (rmk (k + 1) 4 24) uL_changed [.ref a, .int p0, .int p1, .ref (a + 131)] σ n (qI (LwQ Γ n b a L xs ro F KR K G im A Nm KI (aChanged K p0 p1.toInt).1 ((aChanged K p0 p1.toInt).2.toInt64))) := by
  obtain ⟨h1, h2, h3, ⟨b2, D, ⟨⟨ch, co, rw, bk, s1, s2⟩, f2, d2, s3⟩, ⟨ag, pa, pf, lm, lt, lw, g2⟩, g3, g4⟩, h5, h6, h7, -⟩ := h.2.2.2
  refine sp_mono (lw_changed (o_q := a + 131) (co0 h1) (cp_changed h1 s1 s2 g2 h3.1 h3.2.1 h5 (by omega) (by omega) rfl hk p0 p1) (fun v σ' n' hX => h.ho hX.2.2.2.2)) (fun o9 σ' n' hq => ?_)
  obtain ⟨r9, e9, hp⟩ := hq
  exact ⟨r9, e9, lc_qg (n2 := n') Int32.toInt64 h hm hp⟩
theorem wq_changedAt (h : LC Γ σ n b a L xs ro K G im A Nm KI) (hm : MoAt Γ σ (a + 114) F KR A Nm) (hk : 14 ≤ k) (p0 p1 p2 : Int32) : Sp Γ (rmk (k + 1) 4 24) uL_changedAt [.ref a, .int p0, .int p1, .int p2, .ref (a + 131)] σ n (qI (LwQ Γ n b a L xs ro F KR K G im A Nm KI (aChangedAt K p0 p1.toInt p2).1 ((aChangedAt K p0 p1.toInt p2).2.toInt64))) := by
  obtain ⟨h1, h2, h3, ⟨b2, D, ⟨⟨ch, co, rw, bk, s1, s2⟩, f2, d2, s3⟩, ⟨ag, pa, pf, lm, lt, lw, g2⟩, g3, g4⟩, h5, h6, h7, -⟩ := h.2.2.2
  refine sp_mono (lw_changedAt (o_q := a + 131) (co0 h1) (cp_changedAt h1 s1 s2 g2 h3.1 h3.2.1 h5 (by omega) (by omega) rfl hk p0 p1 p2) (fun v σ' n' hX => h.ho hX.2.2.2.2)) (fun o9 σ' n' hq => ?_)
  obtain ⟨r9, e9, hp⟩ := hq
  exact ⟨r9, e9, lc_qg (n2 := n') Int32.toInt64 h hm hp⟩
theorem wq_sure (h : LC Γ σ n b a L xs ro K G im A Nm KI) (hm : MoAt Γ σ (a + 114) F KR A Nm) (hk : 14 ≤ k) (p0 p1 : Int32) : Sp Γ (rmk (k + 1) 4 24) uL_sure [.ref a, .int p0, .int p1, .ref (a + 131)] σ n (qI (LwQ Γ n b a L xs ro F KR K G im A Nm KI (aSure K p0 p1.toInt).1 ((aSure K p0 p1.toInt).2.toInt64))) := by
  obtain ⟨h1, h2, h3, ⟨b2, D, ⟨⟨ch, co, rw, bk, s1, s2⟩, f2, d2, s3⟩, ⟨ag, pa, pf, lm, lt, lw, g2⟩, g3, g4⟩, h5, h6, h7, -⟩ := h.2.2.2
  refine sp_mono (lw_sure (o_q := a + 131) (co0 h1) (cp_sure h1 s1 s2 g2 h3.1 h3.2.1 h5 (by omega) (by omega) rfl hk p0 p1) (fun v σ' n' hX => h.ho hX.2.2.2.2)) (fun o9 σ' n' hq => ?_)
  obtain ⟨r9, e9, hp⟩ := hq
  exact ⟨r9, e9, lc_qg (n2 := n') Int32.toInt64 h hm hp⟩
theorem wq_look (h : LC Γ σ n b a L xs ro K G im A Nm KI) (hm : MoAt Γ σ (a + 114) F KR A Nm) (hk : 14 ≤ k) (p0 p1 : Int32) : Sp Γ (rmk (k + 1) 4 24) uL_look [.ref a, .int p0, .int p1, .ref (a + 131)] σ n (qI (LwQ Γ n b a L xs ro F KR K G im A Nm KI (aLook K p0 p1.toInt).1 ((aLook K p0 p1.toInt).2.toInt64))) := by
  obtain ⟨h1, h2, h3, ⟨b2, D, ⟨⟨ch, co, rw, bk, s1, s2⟩, f2, d2, s3⟩, ⟨ag, pa, pf, lm, lt, lw, g2⟩, g3, g4⟩, h5, h6, h7, -⟩ := h.2.2.2
  refine sp_mono (lw_look (o_q := a + 131) (co0 h1) (cp_look h1 s1 s2 g2 h3.1 h3.2.1 h5 (by omega) (by omega) rfl hk p0 p1) (fun v σ' n' hX => h.ho hX.2.2.2.2)) (fun o9 σ' n' hq => ?_)
  obtain ⟨r9, e9, hp⟩ := hq
  exact ⟨r9, e9, lc_qg (n2 := n') Int32.toInt64 h hm hp⟩
end LwqS
