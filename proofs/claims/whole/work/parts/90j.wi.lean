/-! ===== the class's half of a round: image, beach, feed ===== -/
section LwiS
variable {Γ : gam} {σ : sto} {n n2 k b a L : Nat} {xs : row} {ro : Nat → Nat} {F KR K K2 G G2 : row} {im : Nat → Option Nat} {A A2 : Nat → row} {Nm N2 : Nat → Int64} {KI : Nat → row}
theorem im_c {z : Int} (h : imT z = 0) : ∃ j : Nat, j < 3 ∧ z = (j : Int) := by
  unfold imT at h
  split at h
  · exact absurd h (by decide)
  · next j e =>
    obtain ⟨a1, -, a2⟩ := rN_some e
    exact ⟨j, a2, a1⟩
theorem wq_image (h : LC Γ σ n b a L xs ro K G im A Nm KI) (hl : ∀ q e, σ q = some e → q < n) (hm : MoAt Γ σ (a + 114) F KR A Nm) (hk : 12 ≤ k) (p0 : Int32) : Sp Γ (rmk (k + 1) 60 600) uL_image [.ref a, .int p0] σ n (qI fun r9 σ' n' => ∃ (ro2 : Nat → Nat) (im2 : Nat → Option Nat) (KI2 : Nat → row), (imT p0.toInt = 0 → p0.toInt.toNat < 3 ∧ (∃ x, im2 p0.toInt.toNat = some x) ∧ (∀ j, j ≠ p0.toInt.toNat → im2 j = im j) ∧ KI2 = fun j => if j = p0.toInt.toNat then K else KI j) ∧ (imT p0.toInt ≠ 0 → im2 = im ∧ KI2 = KI) ∧ LwU Γ n b a L xs ro2 K G im2 A Nm KI2 F KR A Nm (imT p0.toInt) r9 σ' n') := by
  have hA := h.1
  obtain ⟨h1, h2, h3, ⟨b2, D, ⟨⟨ch, co, rw, bk, s1, s2⟩, f2, d2, s3⟩, g2, g3, g4⟩, h5, h6, h7, h8, h9, h10, h11, h12, h13, h14⟩ := h.2.2.2
  have s0 : SeAt Γ ro σ (a + 14) b2 (K 32) K := ⟨ch, co, rw, bk, s1, s2⟩
  refine sp_mono (lw_image (o_q := a + 131) (co0 h1) (cp_image h1 (by omega) s1 s2 rfl h3.1 s3 (fun j x hj hx => by
    obtain ⟨k1, k2, b', D', k3, -⟩ := h13 j x hj hx
    exact ⟨by omega, k3.A⟩) hk p0)) (fun o9 σ' n' hq => ?_)
  obtain ⟨r9, e9, hp⟩ := hq
  refine ⟨r9, e9, ?_⟩
  rcases hp with ⟨e1, e2, ro2, x, im2, hr, hc, i1, i2, c1, c2, hf⟩ | ⟨e1, e2, e3, e4⟩
  · obtain ⟨j, hj, ej⟩ := im_c e2
    have ej2 : p0.toInt.toNat = j := by rw [ej]; rfl
    rw [ej2] at hc i1 i2 ⊢
    have hn : n ≤ n' := by rcases hc with ⟨-, q, -⟩ | ⟨-, -, q, -⟩ <;> omega
    have hx : a + 131 < x := by
      rcases hc with ⟨q, -⟩ | ⟨-, q, -⟩
      · exact (h13 j x hj q).1
      · omega
    have hd : ∀ i y, i < 3 → i ≠ j → im i = some y → x + 57 < y ∨ y + 57 < x := by
      intro i y hi hne hy
      rcases hc with ⟨q, -⟩ | ⟨-, q, -⟩
      · exact h14 j i x y hj hi (Ne.symm hne) q hy
      · have := (h13 i y hi hy).top hl
        omega
    have hC := ClI.img (h.2.2.2.rol hA.2.1 hl hr) ⟨g2.rol hl hr, g3, g4⟩ ⟨s0.rol hl hr, f2, d2, s3.rol hl hr⟩ c1 c2 i1 i2 hx hd hf (A2 := A) rfl rfl rfl
    have hro : ∀ q, q < n → ro q ≠ 1 → ro2 q ≠ 1 := fun q x1 x2 => by rw [hr q x1]; exact x2
    obtain ⟨fo, hfo⟩ := h.2.2.1
    refine ⟨ro2, im2, _, fun _ => ⟨hj, ⟨x, i1⟩, i2, rfl⟩, fun z => absurd e2 z, e1.trans e2.symm, hn, ⟨⟨hA.1, by omega, hro b (by omega) hA.2.2⟩, h.2.1, ⟨fo, hf.at (fun z => by omega) (hro _ (by omega) (h2 _ (by omega) (by omega))) hfo⟩, hC⟩, moEq hm (fun q x1 x2 => hf.1 q (fun x3 => by omega) (hro q (by omega) (h2 q (by omega) (by omega))))⟩
  · subst e3
    exact ⟨ro, im, KI, fun z => absurd z e2, fun _ => ⟨rfl, rfl⟩, e1, e4, h.wn e4, hm⟩
theorem wq_beach {t : Nat} (h : LC Γ σ n b a L xs ro K G im A Nm KI) (hG : G 1 = nI t) (ht : t ≤ 900) (hk : 130 ≤ k) (p0 : Int32) : Sp Γ (rmk (k + 1) 910 12700) uL_beach [.ref a, .int p0, .ref (a + 131)] σ n (qI fun r9 σ' n' => n ≤ n' ∧ ((r9 = 0 ∧ ∃ (N : Nat) (v : Int32) (σ1 : sto) (fo : Nat → Int64), rN 0 (t + 1) p0.toInt = some N ∧ bchC Γ ro σ n a N G (A 5) im v σ1 ∧ σ1 (a + 131) = some (cJ Γ 1 fo) ∧ σ' = sup σ1 (a + 131) (cJ Γ 1 (vp_updL fo 0 v.toInt64))) ∨ (r9 = 1 ∧ rN 0 (t + 1) p0.toInt = none ∧ σ' = σ))) := by
  have hA := h.1
  obtain ⟨h1, h2, h3, ⟨b2, D, ⟨s0, f2, d2, s3⟩, g2, g3, g4⟩, h5, h6, h7, h8, h9, h10, h11, h12, h13, h14⟩ := h.2.2.2
  refine sp_mono (lw_beach (o_q := a + 131) (t_q := if rN 0 (t + 1) p0.toInt = none then 1 else 0) (X := fun v σ' n' => ∃ N, rN 0 (t + 1) p0.toInt = some N ∧ n ≤ n' ∧ bchC Γ ro σ n a N G (A 5) im v σ') (co0 h1) (sp_mono (cp_beach (t_q := t) h1 h8 hG ht (fun j _ => h9 j) h11 h12 s0.T s3.hs (by omega) p0 hk) (fun o9 σ' n' hq => ?_)) (fun v σ' n' hX => ?_)) (fun o9 σ' n' hq => ?_)
  · rcases hq with hq | ⟨x, e1, e2, e3, e4, e5⟩
    · exact Or.inl hq
    · exact Or.inr ⟨x, e1, ⟨0, by rw [if_pos e2]; rfl, by rw [e3]; rfl⟩, e4, e5⟩
  · obtain ⟨N, e1, e2, ro2, G2, e3, e4, -, -, -, -, -, -, hf, -⟩ := hX
    obtain ⟨fo, hfo⟩ := h.2.2.1
    exact ⟨fo, hf.at (fun z => by unfold bS at z; omega) (by rw [e3 _ (by omega)]; exact h2 _ (by omega) (by omega)) hfo⟩
  · obtain ⟨r9, e9, hp⟩ := hq
    refine ⟨r9, e9, ?_⟩
    rcases hp with ⟨e1, v, σ1, fo, ⟨N, e2, e3, e4⟩, e5, e6⟩ | ⟨e1, e2, e3, e4⟩
    · exact ⟨e3, Or.inl ⟨e1, N, v, σ1, fo, e2, e4, e5, e6⟩⟩
    · by_cases c : rN 0 (t + 1) p0.toInt = none
      · rw [if_pos c] at e1
        exact ⟨e4, Or.inr ⟨e1, c, e3⟩⟩
      · rw [if_neg c] at e2
        exact absurd rfl e2
end LwiS
