/-! ===== a round, both halves: feed and beach ===== -/
section FdS
variable {Γ : gam} {σ σ1 σ2 : sto} {n n1 n2 b a L T : Nat} {xs : row} {ro : Nat → Nat} {F K G : row} {im : Nat → Option Nat} {A : Nat → row} {Nm : Nat → Int64} {KI : Nat → row} {u w v1 v2 v3 v4 v5 p0 r9 : Int32}
def fdP (Γ : gam) (ro : Nat → Nat) (σ : sto) (n a T : Nat) (G f : row) (im : Nat → Option Nat) (v1 v2 v3 v4 v5 u : Int32) (σ1 : sto) (n1 : Nat) : Prop := n1 = n ∧ ((880 < T ∧ u = -1 ∧ σ1 = σ) ∨ (T ≤ 880 ∧ u = nI (T + 20) ∧ (∃ G', CoAt Γ ro σ1 a G' im ∧ G' 1 = nI (T + 20) ∧ ∀ j, j ≠ 1 → G' j = G j) ∧ σ1 (a + 1) = some (cI Γ 900 (fdI f T v1 v2 v3 v4 v5 20)) ∧ ∀ q, q ≠ a → q ≠ a + 1 → σ1 q = σ q))
theorem fd_1 (h : LC Γ σ n b a L xs ro K G im A Nm KI) (hm : MoAt Γ σ (a + 114) F K A Nm) (hp : fdP Γ ro σ n a T G (A 5) im v1 v2 v3 v4 v5 u σ1 n1) : scA Γ b L xs ∧ MoAt Γ σ1 (a + 114) F K A Nm := by
  have h1 := h.1
  obtain ⟨-, hp⟩ := hp
  rcases hp with ⟨-, -, e⟩ | ⟨-, -, -, -, hq⟩
  · rw [e]; exact ⟨h.2.1, hm⟩
  · exact ⟨h.2.1, moEq hm (fun q x1 x2 => hq q (by omega) (by omega))⟩
theorem fd_2 (h : LC Γ σ n b a L xs ro K G im A Nm KI) (hR : RfI Γ σ (a + 114) F K G im A Nm KI) (hp : fdP Γ ro σ n a T G (A 5) im v1 v2 v3 v4 v5 u σ1 n1) (hq : (880 < T ∧ w = -1 ∧ apG Γ (a + 114) F K A Nm σ1 n1 0 [] (fun _ F' => F' 6 = F 6) σ2 n2) ∨ (T ≤ 880 ∧ w = nI (T + 20) ∧ apG Γ (a + 114) F K A Nm σ1 n1 0 [5] (fun A' F' => F' 6 = nI (T + 20) ∧ A' 5 = fdI (A 5) T v1 v2 v3 v4 v5 20) σ2 n2)) : u = w ∧ n2 = n ∧ LI Γ σ2 n2 b a L xs := by
  obtain ⟨hn, hp⟩ := hp
  rcases hp with ⟨p1, p2, p3⟩ | ⟨p1, p2, ⟨G2, p3, p4, p5⟩, p6, p7⟩
  · rcases hq with ⟨q1, q2, j1, F2, A2, j2, j3, j4, j5, j6, j7⟩ | ⟨q1, -⟩
    · have eA : ∀ j, A2 j = A j := fun j => j5 j List.not_mem_nil
      rw [p3] at j6
      refine ⟨p2.trans q2.symm, j1.trans hn, ?_⟩
      rw [j1.trans hn]
      refine ⟨ro, F2, K, G, im, A2, Nm, KI, lc_ref h j6 (eA 5) (eA 14) (eA 15), hR.ch j2 ?_ ?_ ?_ (eA 3) (eA 4)⟩
      · rw [j7, hR.2.1]
      · rw [j4 14 (by omega) (by omega) (by omega) (by omega), hR.2.2.1]
      · rw [j4 15 (by omega) (by omega) (by omega) (by omega), hR.2.2.2.1]
    · omega
  · rcases hq with ⟨q1, -⟩ | ⟨q1, q2, j1, F2, A2, j2, j3, j4, j5, j6, j7, j8⟩
    · omega
    · have eA : ∀ j, j ≠ 5 → A2 j = A j := fun j hj => j5 j (by simp only [List.mem_cons, List.not_mem_nil, or_false]; omega)
      have hc : ClI Γ σ1 a ro K G2 im A2 Nm KI := h.2.2.2.feed p1 p3 p4 p6 p7 j8 (eA 14 (by decide)) (eA 15 (by decide))
      obtain ⟨h1, h2, ⟨fo, h3⟩, h4⟩ := h
      have hl : LC Γ σ1 n b a L xs ro K G2 im A2 Nm KI := ⟨h1, h2, ⟨fo, (p7 _ (by omega) (by omega)).trans h3⟩, hc⟩
      refine ⟨p2.trans q2.symm, j1.trans hn, ?_⟩
      rw [j1.trans hn]
      refine ⟨ro, F2, K, G2, im, A2, Nm, KI, lc_ref hl j6 rfl rfl rfl, hR.ch j2 (j7.trans p4.symm) ?_ ?_ (eA 3 (by decide)) (eA 4 (by decide))⟩
      · rw [j4 14 (by omega) (by omega) (by omega) (by omega), hR.2.2.1, p5 2 (by omega)]
      · rw [j4 15 (by omega) (by omega) (by omega) (by omega), hR.2.2.2.1, p5 3 (by omega)]
def beP (Γ : gam) (ro : Nat → Nat) (σ : sto) (n a t : Nat) (G f : row) (im : Nat → Option Nat) (p0 r9 : Int32) (σ' : sto) (n' : Nat) : Prop := n ≤ n' ∧ ((r9 = 0 ∧ ∃ (N : Nat) (v : Int32) (σ1 : sto) (fo : Nat → Int64), rN 0 (t + 1) p0.toInt = some N ∧ bchC Γ ro σ n a N G f im v σ1 ∧ σ1 (a + 131) = some (cJ Γ 1 fo) ∧ σ' = sup σ1 (a + 131) (cJ Γ 1 (vp_updL fo 0 v.toInt64))) ∨ (r9 = 1 ∧ rN 0 (t + 1) p0.toInt = none ∧ σ' = σ))
theorem be_1 (h : LC Γ σ n b a L xs ro K G im A Nm KI) (hm : MoAt Γ σ (a + 114) F K A Nm) (hp : beP Γ ro σ n a T G (A 5) im p0 r9 σ1 n1) : scA Γ b L xs ∧ MoAt Γ σ1 (a + 114) F K A Nm := by
  have h1 := h.1
  obtain ⟨hn, hp⟩ := hp
  rcases hp with ⟨r0, N, v, σ3, fo, e1, hC, e2, e3⟩ | ⟨-, -, e⟩
  · obtain ⟨ro', G', c1, -, -, -, -, -, -, -, hf, -⟩ := hC
    rw [e3]
    exact ⟨h.2.1, mo_out (moEq hm (fun q x1 x2 => hf.1 q (fun x => by unfold bS at x; omega) (by rw [c1 q (by omega)]; exact h.2.2.2.2.1 q (by omega) (by omega))))⟩
  · rw [e]; exact ⟨h.2.1, hm⟩
theorem be_2 (h : LC Γ σ n b a L xs ro K G im A Nm KI) (hR : RfI Γ σ (a + 114) F K G im A Nm KI) (hlo : ∀ q e, σ q = some e → q < n) (hp : beP Γ ro σ n a T G (A 5) im p0 r9 σ1 n1) (hq : n2 = n1 ∧ ((rN 0 (T + 1) p0.toInt = none ∧ w = 0 ∧ ∃ F' : row, MoAt Γ σ2 (a + 114) F' K A Nm ∧ F' 4 = 1 ∧ (∀ j, j ≠ 4 → F' j = F j) ∧ fr (a + 114) (a + 114 + 16) σ1 σ2) ∨ ∃ N, rN 0 (T + 1) p0.toInt = some N ∧ bchR Γ σ1 (a + 114) N F K A Nm w σ2)) : n2 = n1 ∧ LI Γ σ2 n2 b a L xs ∧ (∃ (F2 : row) (A2 : Nat → row) (K2 : row), MoAt Γ σ2 (a + 114) F2 K2 A2 Nm ∧ F2 4 = r9) ∧ ∃ fo, σ2 (a + 131) = some (cJ Γ 1 fo) ∧ (r9 = 0 → fo 0 = w.toInt64) := by
  have h1 := h.1
  obtain ⟨hn, hp⟩ := hp
  obtain ⟨hn2, hq⟩ := hq
  subst hn2
  rcases hp with ⟨r0, N, v, σ3, fo, e1, hC, e2, e3⟩ | ⟨r0, e1, e⟩
  · rcases hq with ⟨q1, -⟩ | ⟨N', q1, hB⟩
    · rw [e1] at q1; cases q1
    · rw [e1] at q1
      obtain rfl : N = N' := by injection q1
      obtain ⟨ev, ro', G', F2, K2, A2, d1, d2, d3, d4, d6, d14, d15, dA, dB, hf, hr⟩ := h.2.2.2.bch h1.2.1 hlo hC hB
      have hl : LC Γ σ3 n2 b a L xs ro' K2 G' im A2 Nm KI := ⟨⟨h1.1, by omega, by rw [d1 b (by omega)]; exact h1.2.2⟩, h.2.1, ⟨fo, e2⟩, d2⟩
      have hl2 := hl.out (f := vp_updL fo 0 v.toInt64)
      rw [← e3] at hl2
      refine ⟨rfl, ⟨ro', F2, K2, G', im, A2, Nm, KI, lc_ref hl2 hr rfl rfl rfl, hR.ch d3 d6 d14 d15 dA dB⟩, ⟨F2, A2, K2, d3, d4.trans r0.symm⟩, vp_updL fo 0 v.toInt64, (hr _ (by omega)).trans (by rw [e3]; exact sup_eq), fun _ => ?_⟩
      unfold vp_updL
      rw [if_pos rfl, ev]
  · rcases hq with ⟨q1, q2, F2, j2, j3, j4, j6⟩ | ⟨N', q1, -⟩
    · rw [e] at j6
      obtain ⟨fo, h3⟩ := h.2.2.1
      refine ⟨rfl, ⟨ro, F2, K, G, im, A, Nm, KI, lc_ref (h.wn hn) j6 rfl rfl rfl, hR.ch j2 ?_ ?_ ?_ rfl rfl⟩, ⟨F2, A, K, j2, j3.trans r0.symm⟩, fo, (j6 _ (by omega)).trans h3, fun z => ?_⟩
      · rw [j4 6 (by omega), hR.2.1]
      · rw [j4 14 (by omega), hR.2.2.1]
      · rw [j4 15 (by omega), hR.2.2.2.1]
      · rw [r0] at z; exact absurd z (by decide)
    · rw [e1] at q1; cases q1
end FdS
