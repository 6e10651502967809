/-! ===== what each deed leaves of the two objects ===== -/
theorem and_255 (x : Int32) : ∃ c, c < 256 ∧ x &&& 255 = nI c := by
  refine ⟨(x.toBitVec &&& 255#32).toNat, ?_, ?_⟩
  · have h := Nat.and_le_right (n := x.toBitVec.toNat) (m := 255)
    rw [BitVec.toNat_and]
    show x.toBitVec.toNat &&& 255 < 256
    omega
  · apply Int32.toBitVec_inj.1
    show x.toBitVec &&& 255#32 = BitVec.ofNat 32 _
    rw [BitVec.ofNat_toNat, BitVec.setWidth_eq]
section ObTw
variable {Γ : gam} {σ σ1 : sto} {a n : Nat} {ro ro1 : Nat → Nat} {K G : row} {im : Nat → Option Nat} {A A2 : Nat → row} {Nm : Nat → Int64} {KI : Nat → row} {S : Nat → Prop}
theorem ClI.cA (h : ClI Γ σ a ro K G im A Nm KI) (e5 : A2 5 = A 5) (e14 : A2 14 = A 14) (e15 : A2 15 = A 15) : ClI Γ σ a ro K G im A2 Nm KI := by
  unfold ClI at h ⊢
  rw [e5, e14, e15]
  exact h
theorem fd_byte {f : row} {T : Nat} {v1 v2 v3 v4 v5 : Int32} (h : ∀ j, ∃ c, c < 256 ∧ f j = nI c) (j : Nat) : ∃ c, c < 256 ∧ fdI f T v1 v2 v3 v4 v5 20 j = nI c := by
  unfold fdI
  split
  · unfold fdB; exact and_255 _
  · exact h j
theorem ClI.feed {G2 : row} {T : Nat} {v1 v2 v3 v4 v5 : Int32} (h : ClI Γ σ a ro K G im A Nm KI) (hT : T ≤ 880) (c1 : CoAt Γ ro σ1 a G2 im) (c2 : G2 1 = nI (T + 20)) (c3 : σ1 (a + 1) = some (cI Γ 900 (fdI (A 5) T v1 v2 v3 v4 v5 20))) (hq : ∀ q, q ≠ a → q ≠ a + 1 → σ1 q = σ q) (e5 : A2 5 = fdI (A 5) T v1 v2 v3 v4 v5 20) (e14 : A2 14 = A 14) (e15 : A2 15 = A 15) : ClI Γ σ1 a ro K G2 im A2 Nm KI := by
  have hf : frS Γ ro (fun q => q = a ∨ q = a + 1) σ σ1 := frS.pt (fun q hn => hq q (fun x => hn (Or.inl x)) (fun x => hn (Or.inr x)))
  obtain ⟨h1, h2, h3, ⟨b, D, g1, g2, g3, g4⟩, h5, h6, h7, h8, h9, h10, h11, h12, h13, h14⟩ := h
  refine ⟨c1, h2, h3, ⟨b, D, g1.fs hf (fun q x1 x2 x3 => by omega), g2.fs hf (fun q x1 x3 => by omega) (fun q x1 x2 x3 => by omega), g3, g4⟩, h5.fs (fun q x1 x2 => h2 q x1 (by omega)) hf (fun q x1 x3 => by omega), ?_, ?_, ?_, ?_, ⟨T + 20, by omega, c2⟩, h11.fs hf (fun q x1 x2 => h2 q (by omega) (by omega)) (fun q x1 x2 x3 x4 => by omega), h12.fs hf (fun q x1 x2 x3 => by omega), fun j x hj hx => (h13 j x hj hx).fs hf (fun q x3 => by omega), h14⟩
  · rw [e14, e15]; exact h6.fs hf (fun q x1 x2 x3 => by omega)
  · rw [e14, e15]; exact h7
  · rw [e5]; exact c3
  · rw [e5]; exact fd_byte h9
/-- behind a change of the trays -/
theorem ClI.ty {N2 : Nat → Int64} (h : ClI Γ σ a ro K G im A Nm KI) (hs : ScAt Γ ro σ1 a) (ht : TyAt Γ ro σ1 a (A2 14) (A2 15) N2) (ho : okT (A2 14) (A2 15)) (hf : frS Γ ro (fun q => scr a q ∨ tS a q) σ σ1) (e5 : A2 5 = A 5) : ClI Γ σ1 a ro K G im A2 N2 KI := by
  obtain ⟨h1, h2, h3, ⟨b, D, g1, g2, g3, g4⟩, h5, h6, h7, h8, h9, h10, h11, h12, h13, h14⟩ := h
  refine ⟨h1.fs hf (fun q x1 x3 => by omega), h2, h3, ⟨b, D, g1.fs hf (fun q x1 x2 x3 => by omega), g2.fs hf (fun q x1 x3 => by omega) (fun q x1 x2 x3 => by omega), g3, g4⟩, hs, ht, ho, ?_, ?_, h10, h11.fs hf (fun q x1 x2 => h2 q (by omega) (by omega)) (fun q x1 x2 x3 x4 => by omega), h12.fs hf (fun q x1 x2 x3 => by omega), fun j x hj hx => (h13 j x hj hx).fs hf (fun q x3 => by omega), h14⟩
  · rw [e5]; exact hf.at (fun x3 => by omega) (h2 _ (by omega) (by omega)) h8
  · rw [e5]; exact h9
theorem ClI.ty0 {N2 : Nat → Int64} (h : ClI Γ σ a ro K G im A Nm KI) (ht : TyAt Γ ro σ1 a (A2 14) (A2 15) N2) (ho : okT (A2 14) (A2 15)) (hf : frS Γ ro (tS a) σ σ1) (e5 : A2 5 = A 5) : ClI Γ σ1 a ro K G im A2 N2 KI := h.ty (h.2.2.2.2.1.fs (fun q x1 x2 => h.2.1 q x1 (by omega)) hf (fun q x1 x3 => by omega)) ht ho (hf.wk fun _ z => Or.inr z) e5
/-- roles of cells not yet made do not count -/
theorem ImI.top {x : Nat} {X : row} (h : ImI Γ ro σ a x X) (hl : ∀ q e, σ q = some e → q < n) : x + 57 < n := by
  obtain ⟨-, -, b, D, h3, -⟩ := h
  obtain ⟨f, d, hH⟩ := h3.2.2.2
  obtain ⟨b, w, m, ch, co, rw, bk, hR⟩ := hH.2.2.2.2.1 9 (by omega)
  exact hl _ _ (sr4 hR)
theorem BeAt.rol {D b : Nat} (h : BeAt Γ D ro σ b K) (hl : ∀ q e, σ q = some e → q < n) (hr : ∀ q, q < n → ro1 q = ro q) : BeAt Γ D ro1 σ b K := by
  obtain ⟨ag, pa, pf, lm, lt, lw, hQ⟩ := h
  exact ⟨ag, pa, pf, lm, lt, lw, hQ.rol hl hr⟩
theorem ImI.rol {x : Nat} {X : row} (h : ImI Γ ro σ a x X) (hl : ∀ q e, σ q = some e → q < n) (hr : ∀ q, q < n → ro1 q = ro q) : ImI Γ ro1 σ a x X := by
  have ht := h.top hl
  obtain ⟨h1, h2, b, D, h3, h4, h5⟩ := h
  exact ⟨h1, h2, b, D, h3.rol hl ht hr, h4.rol hl hr, h5⟩
theorem ClI.rol (h : ClI Γ σ a ro K G im A Nm KI) (ha : a + 131 < n) (hl : ∀ q e, σ q = some e → q < n) (hr : ∀ q, q < n → ro1 q = ro q) : ClI Γ σ a ro1 K G im A Nm KI := by
  obtain ⟨h1, h2, h3, ⟨b, D, ⟨s1, f, d, s2⟩, g2, g3, g4⟩, h5, h6, h7, h8, h9, h10, h11, h12, h13, h14⟩ := h
  exact ⟨h1.rol (by omega) hr, fun q x1 x2 => by rw [hr q (by omega)]; exact h2 q x1 x2, h3, ⟨b, D, ⟨s1.rol hl hr, f, d, s2.rol hl hr⟩, g2.rol hl hr, g3, g4⟩, h5.rol hl hr, h6.rol (by omega) hr, h7, h8, h9, h10, h11, h12.rol hl hr, fun j x hj hx => (h13 j x hj hx).rol hl hr, h14⟩
theorem BeAt.fi {D b : Nat} (h : BeAt Γ D ro σ b K) (hf : frS Γ ro S σ σ1) (hS : ∀ q, D ≤ q → S q → ro q = 2) (hb : ∀ q, b ≤ q → q ≤ b + 3 → S q → ro q = 2) : BeAt Γ D ro σ1 b K := by
  obtain ⟨ag, pa, pf, lm, lt, lw, hQ⟩ := h
  exact ⟨ag, pa, pf, lm, lt, lw, hQ.fi hf hS hb⟩
theorem ClI.img {i x b D : Nat} {im2 : Nat → Option Nat} (h : ClI Γ σ a ro K G im A Nm KI) (hb : BeAt Γ D ro σ b K ∧ a + 131 < D ∧ (b = a + 10 ∨ a + 131 < b)) (hs : StAt Γ ro σ a b K) (c1 : CoAt Γ ro σ1 a G im2) (c2 : ImT Γ ro σ1 x b K) (e1 : im2 i = some x) (e2 : ∀ j, j ≠ i → im2 j = im j) (hx : a + 131 < x) (hd : ∀ j y, j < 3 → j ≠ i → im j = some y → x + 57 < y ∨ y + 57 < x) (hf : frS Γ ro (fun q => q = a + 3 ∨ (x ≤ q ∧ q ≤ x + 57)) σ σ1) (e5 : A2 5 = A 5) (e14 : A2 14 = A 14) (e15 : A2 15 = A 15) : ClI Γ σ1 a ro K G im2 A2 Nm (fun j => if j = i then K else KI j) := by
  refine ClI.cA (A := A) ?_ e5 e14 e15
  obtain ⟨h1, h2, h3, -, h5, h6, h7, h8, h9, h10, h11, h12, h13, h14⟩ := h
  obtain ⟨g2, g3, g4⟩ := hb
  have b2 : BeAt Γ D ro σ1 b K := g2.fi hf (fun q x1 x2 => by rcases x2 with x2 | x2
                                                              · omega
                                                              · exact c2.1 q x2.1 x2.2) (fun q x1 x2 x3 => by rcases x3 with x3 | x3
                                                                                                              · omega
                                                                                                              · exact c2.1 q x3.1 x3.2)
  refine ⟨c1, h2, h3, ⟨b, D, hs.fs hf (fun q x1 x2 x3 => by omega), b2, g3, g4⟩, h5.fs (fun q x1 x2 => h2 q x1 (by omega)) hf (fun q x1 x3 => by omega), h6.fs hf (fun q x1 x2 x3 => by omega), h7, hf.at (fun x3 => by omega) (h2 _ (by omega) (by omega)) h8, h9, h10, h11.fs hf (fun q x1 x2 => h2 q (by omega) (by omega)) (fun q x1 x2 x3 x4 => by omega), h12.fs hf (fun q x1 x2 x3 => by omega), ?_, ?_⟩
  · intro j y hj hy
    by_cases c : j = i
    · subst c
      rw [e1] at hy
      obtain rfl : x = y := by injection hy
      show ImI Γ ro σ1 a x (if j = j then K else KI j)
      rw [if_pos rfl]
      exact ⟨hx, h3, b, D, c2, b2, g3, g4⟩
    · rw [e2 j c] at hy
      show ImI Γ ro σ1 a y (if j = i then K else KI j)
      rw [if_neg c]
      obtain ⟨k1, k2, b', D', k3, k4, k5, k6⟩ := h13 j y hj hy
      have hdj := hd j y hj c hy
      exact ⟨k1, k2, b', D', k3.fs hf (fun q x1 x2 x3 => by omega), k4.fi hf (fun q x1 x2 => by rcases x2 with x2 | x2
                                                                                                · omega
                                                                                                · exact c2.1 q x2.1 x2.2) (fun q x1 x2 x3 => by rcases x3 with x3 | x3
                                                                                                                                                · omega
                                                                                                                                                · exact c2.1 q x3.1 x3.2), k5, k6⟩
  · intro u j y z hu hj hne hy hz
    by_cases c : u = i
    · subst c
      rw [e1] at hy
      obtain rfl : x = y := by injection hy
      rw [e2 j (Ne.symm hne)] at hz
      exact hd j z hj (Ne.symm hne) hz
    · rw [e2 u c] at hy
      by_cases c2 : j = i
      · subst c2
        rw [e1] at hz
        obtain rfl : x = z := by injection hz
        have := hd u y hu c hy
        omega
      · rw [e2 j c2] at hz
        exact h14 u j y z hu hj hne hy hz
/-- the images' beaches -/
theorem ClI.bI (h : ClI Γ σ a ro K G im A Nm KI) : ∃ bI DI : Nat → Nat, ∀ j x, j < 3 → im j = some x → a + 131 < x ∧ GK (KI j) ∧ ImT Γ ro σ x (bI j) (KI j) ∧ BeAt Γ (DI j) ro σ (bI j) (KI j) ∧ a + 131 < DI j ∧ (bI j = a + 10 ∨ a + 131 < bI j) := by
  have h13 := h.2.2.2.2.2.2.2.2.2.2.2.2.1
  have hp : ∀ j : Nat, ∃ p : Nat × Nat, ∀ x, j < 3 → im j = some x → a + 131 < x ∧ GK (KI j) ∧ ImT Γ ro σ x p.1 (KI j) ∧ BeAt Γ p.2 ro σ p.1 (KI j) ∧ a + 131 < p.2 ∧ (p.1 = a + 10 ∨ a + 131 < p.1) := by
    intro j
    by_cases hj : j < 3
    · cases hx : im j with
      | none => exact ⟨(0, 0), fun x _ e => by cases e⟩
      | some y =>
        obtain ⟨k1, k2, b, D, k3, k4, k5, k6⟩ := h13 j y hj hx
        exact ⟨(b, D), fun x _ e => by obtain rfl : y = x := by injection e
                                       exact ⟨k1, k2, k3, k4, k5, k6⟩⟩
    · exact ⟨(0, 0), fun x e => absurd e hj⟩
  obtain ⟨f, hf⟩ := Classical.axiomOfChoice hp
  exact ⟨fun j => (f j).1, fun j => (f j).2, fun j x => hf j x⟩
/-- behind restore -/
theorem ClI.rst {b D : Nat} {X : row} (h : ClI Γ σ a ro K G im A Nm KI) (hb : BeAt Γ D ro σ b X ∧ a + 131 < D ∧ (b = a + 10 ∨ a + 131 < b)) (hg : GK X) (hs : StAt Γ ro σ1 a b X) (hf : frS Γ ro (dS a) σ σ1) : ClI Γ σ1 a ro X G im A Nm KI := by
  obtain ⟨h1, h2, h3, -, h5, h6, h7, h8, h9, h10, h11, h12, h13, h14⟩ := h
  obtain ⟨g2, g3, g4⟩ := hb
  refine ⟨h1.fs hf (fun q x1 x3 => by omega), h2, hg, ⟨b, D, hs, g2.fs hf (fun q x1 x3 => by omega) (fun q x1 x2 x3 => by omega), g3, g4⟩, h5.fs (fun q x1 x2 => h2 q x1 (by omega)) hf (fun q x1 x3 => by omega), h6.fs hf (fun q x1 x2 x3 => by omega), h7, hf.at (fun x3 => by omega) (h2 _ (by omega) (by omega)) h8, h9, h10, h11.fs hf (fun q x1 x2 => h2 q (by omega) (by omega)) (fun q x1 x2 x3 x4 => by omega), h12.fs hf (fun q x1 x2 x3 => by omega), fun j x hj hx => (h13 j x hj hx).fs hf (fun q x3 => by omega), h14⟩
theorem RfI.rs {r i x : Nat} {F : row} (h : RfI Γ σ r F K G im A Nm KI) (hK : GK K) (hI : GK (KI i)) (hi : i < 3) (hx : im i = some x) : rsI K (A 3) i 3020 = KI i := by
  funext j
  unfold rsI
  split
  · next c => exact h.2.2.2.2.2 i hi (by rw [hx]; exact fun z => by cases z) j c
  · next c => rw [hK.2.2.2.2.2 j (by omega), hI.2.2.2.2.2 j (by omega)]
/-- the reference behind image -/
theorem RfI.img {r i x : Nat} {F F2 : row} {im2 : Nat → Option Nat} (h : RfI Γ σ r F K G im A Nm KI) (hm : MoAt Γ σ1 r F2 K A2 Nm) (hi : i < 3) (f6 : F2 6 = F 6) (f14 : F2 14 = F 14) (f15 : F2 15 = F 15) (e1 : im2 i = some x) (e2 : ∀ j, j ≠ i → im2 j = im j) (e3 : A2 3 = imI (A 3) K i 3020) (e4 : A2 4 = upd (A 4) i 1) : RfI Γ σ1 r F2 K G im2 A2 Nm (fun j => if j = i then K else KI j) := by
  obtain ⟨-, h6, h14, h15, h4, h3⟩ := h
  refine ⟨hm, f6.trans h6, f14.trans h14, f15.trans h15, fun j hj => ?_, fun j hj hn q hq => ?_⟩
  · rw [e4]
    by_cases c : j = i
    · subst c
      rw [e1]
      have : upd (A 4) j 1 j = 1 := by unfold upd; rw [if_pos rfl]
      rw [this]
      exact ⟨fun z => absurd z (by decide), fun z => by cases z⟩
    · have : upd (A 4) i 1 j = A 4 j := by unfold upd; rw [if_neg c]
      rw [this, e2 j c]
      exact h4 j hj
  · rw [e3]
    unfold imI
    show _ = (if j = i then K else KI j) q
    by_cases c : j = i
    · subst c
      rw [if_pos (by omega), if_pos rfl]
      congr 1
      omega
    · rw [if_neg (by omega), if_neg c]
      rw [e2 j c] at hn
      exact h3 j hj hn q hq
end ObTw
