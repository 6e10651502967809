/-! ===== the law's start: both objects new ===== -/
def G00 : row := fun j => if j = 3 then -1 else 0
theorem a14_ : ∀ t, t < 4 → A00 14 t = -1 := by
  intro t ht
  match t, ht with
  | 0, _ => rfl
  | 1, _ => rfl
  | 2, _ => rfl
  | 3, _ => rfl
theorem fcn_kp {Γ : gam} {σ σ1 : sto} {a : Nat} (h : FcN Γ σ a) (hq : ∀ q, a ≤ q → q ≤ a + 113 → σ1 q = σ q) : FcN Γ σ1 a := by
  obtain ⟨h1, h2, h3, h4, h5, h6, h7, h8⟩ := h
  exact ⟨h1.kp (fun q x y => hq q (by omega) (by omega)), h2.kp (fun q x y => hq q (by omega) (by omega)), h3.kp (fun q x y => hq q (by omega) (by omega)), h4.kp (fun q x y => hq q (by omega) (by omega)), h5.kp (hq _ (by omega) (by omega)) (fun q x y => hq q (by omega) (by omega)), h6.kp (fun q x y => hq q (by omega) (by omega)), fun i hi => (h7 i hi).kp (fun q x y => hq q (by omega) (by omega)), fun i hi => (h8 i hi).kp (fun q x y => hq q (by omega) (by omega))⟩
theorem cl_new {Γ : gam} {σ : sto} {a : Nat} (h : FcN Γ σ a) : ClI Γ σ a (fun _ => 0) K00 G00 (fun _ => none) A00 (fun _ => 0) (fun _ => K00) := by
  obtain ⟨⟨f0, f1, f2, f3, f4, f5, f6, f7, f8, f9⟩, ⟨b0, b1, ⟨g2, b2, -⟩, ⟨g3, b3, -⟩⟩, hs, hh, ⟨r0, r1, r2, r3, r4⟩, hm, ht, hl⟩ := h
  have hz : ∀ q : Nat, (fun _ : Nat => (0 : Nat)) q ≠ 1 := fun q => Nat.zero_ne_one
  refine ⟨⟨fun q _ _ => hz q, f0, f2, f3, f4⟩, fun q _ _ => hz q, GK.k00, ⟨a + 10, a + 132, ⟨?_, 0, 0, ?_⟩, ?_, by omega, Or.inl rfl⟩, ?_, ⟨fun q _ _ => hz q, fun t h4 => ?_⟩, ?_, f1, fun j => ⟨0, by omega, rfl⟩, ⟨0, by omega, rfl⟩, ?_, hm.T (fun q _ _ => hz q), fun j x _ z => (by cases z), fun i j x y _ _ _ z => (by cases z)⟩
  · obtain ⟨ch, co, rw, bk, s0, s1, s2, s3, s4, s5, s6, s7, s8⟩ := hs
    refine ⟨ch, co, rw, bk, ⟨⟨hz 0, hz 0, hz 0, hz 0, hz 0⟩, s0, s1, s2, s3, s4⟩, fun p hp => absurd hp (by show ¬ p < (K00 3).toNatClampNeg; rw [show (K00 3).toNatClampNeg = 0 by decide]; omega), fun c w hc hw => ?_⟩
    have e1 : kW K00 = 1 := by decide
    have e2 : kH K00 = 1 := by decide
    have c0 : c = 0 := by omega
    have w0 : w = 0 := by omega
    subst c0
    subst w0
    rw [s5 (5 * 0 + 0) (by omega)]
    decide
  · exact ⟨⟨hz 0, hz 0⟩, ⟨by omega, by omega, rfl⟩, hh.1, hh.2.1, fun i hi => (hh.2.2 i hi).T (fun q _ _ => hz q), fun i hi => absurd hi (Nat.not_lt_zero i)⟩
  · exact ⟨_, g2, g3, .null, .null, .null, ⟨rfl, rfl, rfl, rfl⟩, b0, b1, b2, b3, Or.inl ⟨rfl, rfl⟩, Or.inl ⟨rfl, rfl⟩, Or.inl ⟨rfl, rfl⟩, fun p hp => absurd hp (by show ¬ p < (K00 3).toNatClampNeg; rw [show (K00 3).toNatClampNeg = 0 by decide]; omega)⟩
  · have hT : ∀ i, i < 5 → TrAt Γ (fun _ => 0) σ (a + 89 + 5 * i) := fun i hi => (hl i hi).T (fun q _ _ => hz q)
    exact ⟨⟨_, f5⟩, ⟨_, f6⟩, ⟨_, f7⟩, ⟨_, f8⟩, ⟨_, f9⟩, hT 0 (by omega), hT 1 (by omega), hT 2 (by omega), hT 3 (by omega), hT 4 (by omega)⟩
  · have h1 := ht t h4
    rw [a14_ t h4]
    exact ⟨h1.1, _, h1.2, fun j hj => rfl⟩
  · exact fun t h4 => ⟨⟨0, by omega, rfl⟩, Or.inl (a14_ t h4)⟩
  · exact ⟨a + 10, 0, 0, 0, 8, 0, -1, _, _, _, _, r0, r1, r2, r3, r4⟩
theorem rf_new {Γ : gam} {σ : sto} {r : Nat} (h : MoAt Γ σ r F00 K00 A00 (fun _ => 0)) : RfI Γ σ r F00 K00 G00 (fun _ => none) A00 (fun _ => 0) (fun _ => K00) :=
  ⟨h, rfl, rfl, rfl, fun j _ => ⟨fun _ => rfl, fun _ => rfl⟩, fun j _ z => absurd rfl z⟩
