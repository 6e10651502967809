/-! ===== the class's rows follow the row K ===== -/
theorem ix5 {c w c2 w2 : Nat} (hw : w < 5) (hw2 : w2 < 5) : 5 * c + w = 5 * c2 + w2 ↔ c = c2 ∧ w = w2 := by omega
theorem rS_cong {K ch co rw bk ch2 co2 rw2 bk2 : row} (hB : okB K) (h : rS K ch co rw bk) (h1 : ∀ j, j < 20 → ch2 j = ch j) (h2 : ∀ j, j < 8 → co2 j = co j) (h3 : ∀ j, j < 8 → rw2 j = rw j) (h4 : ∀ j, j < 8 → bk2 j = bk j) : rS K ch2 co2 rw2 bk2 := by
  have hP8 := hB.1.2.1
  have hH5 := hB.1.2.2.2.1
  have hW4 := hB.1.2.2.2.2.2
  refine ⟨fun p hp => ?_, fun c w hc hw => ?_⟩
  · rw [h2 p (by omega), h3 p (by omega), h4 p (by omega)]
    exact h.1 p hp
  · rw [h1 _ (by omega)]
    exact h.2 c w hc hw
theorem rS_same {K K2 ch co rw bk : row} (hB : sameB K K2) (h : rS K ch co rw bk) (e : ∀ j, 8 ≤ j → j < 32 → K2 j = K j) (h8 : kP K ≤ 8) : rS K2 ch co rw bk := by
  refine ⟨fun p hp => ?_, fun c w hc hw => ?_⟩
  · rw [hB.P] at hp
    rw [e (8 + p) (by omega) (by omega), e (16 + p) (by omega) (by omega), e (24 + p) (by omega) (by omega)]
    exact h.1 p hp
  · rw [hB.W] at hc
    rw [hB.H] at hw
    rw [h.2 c w hc hw]
    congr 1
    unfold sitK
    rw [hB.P]
    have key : ∀ {m i : Nat}, i + m ≤ kP K → fnd (fun p => decide (K (16 + p) = nI w ∧ K (8 + p) = nI c ∧ nI w ≠ -1)) i m = fnd (fun p => decide (K2 (16 + p) = nI w ∧ K2 (8 + p) = nI c ∧ nI w ≠ -1)) i m := by
      intro m
      induction m with
      | zero => intros; rfl
      | succ m ih =>
        intro i hi
        rw [fnd, fnd, ih (by omega)]
        simp only [e (16 + i) (by omega) (by omega), e (8 + i) (by omega) (by omega)]
    exact key (by omega)
theorem rS_up {K ch co rw bk : row} {p c w : Nat} (hB : okB K) (hg : gS K) (h : rS K ch co rw bk) (hp : p < kP K) (hc : K (8 + p) = nI c) (hw : K (16 + p) = nI w) (hc2 : c < kW K) (hw2 : w < kH K) : rS (upP K p (-1)) (upd ch (5 * c + w) (-1)) co (upd rw p (-1)) bk := by
  have hP8 := hB.1.2.1
  have hH5 := hB.1.2.2.2.1
  have hW4 := hB.1.2.2.2.2.2
  have hs := upP_P (K := K) (p := p) (s := -1) (by omega)
  have hu : K (16 + p) ≠ -1 := by rw [hw]; exact nI_ne1 (by omega)
  refine ⟨fun q hq => ?_, fun x y hx hy => ?_⟩
  · rw [hs.P] at hq
    obtain ⟨g1, g2, g3⟩ := h.1 q hq
    by_cases e : q = p
    · subst e
      rw [upP_16 (by omega), pk_us]
      refine ⟨?_, rfl, ?_⟩
      · rw [g1]; unfold upP; rw [pk_un (by omega), pk_un (by omega)]
      · rw [g3, hg.2.2 q hq hu]; unfold upP; rw [pk_us]
    · obtain ⟨o1, o2⟩ := upP_o (s := -1) hP8 (show p < 8 by omega) q hq e
      rw [o1, o2, pk_un e]
      refine ⟨g1, g2, ?_⟩
      rw [g3]; unfold upP; rw [pk_un (by omega), pk_un (by omega)]
  · rw [hs.W] at hx
    rw [hs.H] at hy
    rw [upP_sit hP8 hp hg.2.1, hc, hw]
    by_cases e : 5 * x + y = 5 * c + w
    · obtain ⟨e1, e2⟩ := (ix5 (by omega) (by omega)).mp e
      subst e1; subst e2
      rw [pk_us, if_pos ⟨rfl, rfl, nI_ne1 (by omega)⟩]
      rfl
    · rw [pk_un e, if_neg (fun h2 => e ((ix5 (by omega) (by omega)).mpr ⟨((nI_eq (by omega) (by omega)).mp h2.1).symm, ((nI_eq (by omega) (by omega)).mp h2.2.1).symm⟩))]
      exact h.2 x y hx hy
theorem rS_mv {K ch co rw bk : row} {p c w f : Nat} (hB : okB K) (hg : gS K) (h : rS K ch co rw bk) (hs : sitK K (nI c) (nI w) = some p) (hn : sitK K (nI c) (nI f) = none) (hc2 : c < kW K) (hw2 : w < kH K) (hf : f < kH K) (hfw : f ≠ w) : rS (mvP K p f) (upd (upd ch (5 * c + w) (-1)) (5 * c + f) (nI p)) co (upd rw p (nI f)) bk := by
  have hP8 := hB.1.2.1
  have hH5 := hB.1.2.2.2.1
  have hW4 := hB.1.2.2.2.2.2
  obtain ⟨hp, h2, h3, h4⟩ := sitK_lt hs
  have hm := mvP_P (K := K) (p := p) (f := f) (by omega)
  refine ⟨fun q hq => ?_, fun x y hx hy => ?_⟩
  · rw [hm.P] at hq
    obtain ⟨g1, g2, g3⟩ := h.1 q hq
    rw [mvP_8 (by omega), mvP_24 (by omega)]
    by_cases e : q = p
    · subst e
      rw [pk_us, mvP_16]
      exact ⟨g1, rfl, g3⟩
    · rw [pk_un e, (mvP_o hP8 (by omega) q hq e).1]
      exact ⟨g1, g2, g3⟩
  · rw [hm.W] at hx
    rw [hm.H] at hy
    rw [mvP_sit hP8 hp hg.2.1 (by rw [h3]; exact hn) (by omega), h3, h2]
    by_cases e : 5 * x + y = 5 * c + f
    · obtain ⟨e1, e2⟩ := (ix5 (by omega) (by omega)).mp e
      subst e1; subst e2
      rw [pk_us, if_pos ⟨rfl, rfl⟩]
      rfl
    · rw [pk_un e, if_neg (fun hh => e ((ix5 (by omega) (by omega)).mpr ⟨((nI_eq (by omega) (by omega)).mp hh.1).symm, ((nI_eq (by omega) (by omega)).mp hh.2).symm⟩))]
      by_cases e3 : 5 * x + y = 5 * c + w
      · obtain ⟨e1, e2⟩ := (ix5 (by omega) (by omega)).mp e3
        subst e1; subst e2
        rw [pk_us, if_pos ⟨rfl, rfl, h4⟩]
        rfl
      · rw [pk_un e3, if_neg (fun hh => e3 ((ix5 (by omega) (by omega)).mpr ⟨((nI_eq (by omega) (by omega)).mp hh.1).symm, ((nI_eq (by omega) (by omega)).mp hh.2.1).symm⟩))]
        exact h.2 x y hx hy
theorem rS_sd {K ch co rw bk : row} {p c f : Nat} (hB : okB K) (hg : gS K) (h : rS K ch co rw bk) (hp : p < kP K) (hu : K (16 + p) = -1) (hc2 : c < kW K) (hf : freeK K (nI c) = some f) : rS (sitdK K p (nI c)) (upd ch (5 * c + f) (nI p)) (upd co p (nI c)) (upd rw p (nI f)) (upd bk p (-1)) := by
  have hP8 := hB.1.2.1
  have hH5 := hB.1.2.2.2.1
  have hW4 := hB.1.2.2.2.2.2
  have hm := sitdK_same (K := K) (p := p) (c := nI c) (by omega)
  have hfl := (free_some hf).1
  refine ⟨fun q hq => ?_, fun x y hx hy => ?_⟩
  · rw [hm.P] at hq
    obtain ⟨g1, g2, g3⟩ := h.1 q hq
    rw [sd_24 (by omega) (by omega)]
    by_cases e : q = p
    · subst e
      rw [pk_us, pk_us, pk_us, sd_16 (by omega), sd_8 (by omega), hf, if_pos rfl]
      exact ⟨rfl, rfl, rfl⟩
    · obtain ⟨o1, o2⟩ := sd_o (c := nI c) hP8 (show p < 8 by omega) q hq e
      rw [pk_un e, pk_un e, pk_un e, o1, o2, if_neg e]
      exact ⟨g1, g2, g3⟩
  · rw [hm.W] at hx
    rw [hm.H] at hy
    rw [sd_sit hP8 hH5 hp hg.2.1 hf hu]
    by_cases e : 5 * x + y = 5 * c + f
    · obtain ⟨e1, e2⟩ := (ix5 (by omega) (by omega)).mp e
      subst e1; subst e2
      rw [pk_us, if_pos ⟨rfl, rfl⟩]
      rfl
    · rw [pk_un e, if_neg (fun hh => e ((ix5 (by omega) (by omega)).mpr ⟨((nI_eq (by omega) (by omega)).mp hh.1).symm, ((nI_eq (by omega) (by omega)).mp hh.2).symm⟩))]
      exact h.2 x y hx hy
theorem rS_sw {K ch co rw bk : row} {p q c1 w1 c2 w2 : Nat} (hB : okB K) (hg : gS K) (h : rS K ch co rw bk) (hp : p < kP K) (hq : q < kP K) (hne : p ≠ q) (e1 : K (8 + p) = nI c1) (e2 : K (16 + p) = nI w1) (e3 : K (8 + q) = nI c2) (e4 : K (16 + q) = nI w2) (hc1 : c1 < kW K) (hw1 : w1 < kH K) (hc2 : c2 < kW K) (hw2 : w2 < kH K) : rS (swapK K p q) (upd (upd ch (5 * c2 + w2) (nI p)) (5 * c1 + w1) (nI q)) (upd (upd co p (nI c2)) q (nI c1)) (upd (upd rw p (nI w2)) q (nI w1)) bk := by
  have hP8 := hB.1.2.1
  have hH5 := hB.1.2.2.2.1
  have hW4 := hB.1.2.2.2.2.2
  have hm := swapK_same (K := K) (p := p) (q := q) (by omega) (by omega)
  refine ⟨fun x hx => ?_, fun x y hx hy => ?_⟩
  · rw [hm.P] at hx
    obtain ⟨g1, g2, g3⟩ := h.1 x hx
    obtain ⟨a1, a2, a3⟩ := sw_at (K := K) (p := p) (q := q) (x := x) (by omega) (by omega) (by omega)
    rw [a1, a2, a3]
    by_cases ex : x = q
    · subst ex
      rw [pk_us, pk_us, show pi2 p x x = p by unfold pi2; rw [if_neg (fun z => hne z.symm), if_pos rfl], e1, e2]
      exact ⟨rfl, rfl, g3⟩
    · rw [pk_un ex, pk_un ex]
      by_cases ey : x = p
      · subst ey
        rw [pk_us, pk_us, show pi2 x q x = q by unfold pi2; rw [if_pos rfl], e3, e4]
        exact ⟨rfl, rfl, g3⟩
      · rw [pk_un ey, pk_un ey, show pi2 p q x = x by unfold pi2; rw [if_neg ey, if_neg ex]]
        exact ⟨g1, g2, g3⟩
  · rw [hm.W] at hx
    rw [hm.H] at hy
    rw [sw_sit hP8 hp hq hg.2.1]
    by_cases k1 : 5 * x + y = 5 * c1 + w1
    · obtain ⟨d1, d2⟩ := (ix5 (by omega) (by omega)).mp k1
      subst d1; subst d2
      rw [pk_us, (sit_iff hg.2.1).mpr ⟨hp, e2, e1, nI_ne1 (by omega)⟩]
      show nI q = oI (some (pi2 p q p))
      rw [show pi2 p q p = q by unfold pi2; rw [if_pos rfl]]
      rfl
    · rw [pk_un k1]
      by_cases k2 : 5 * x + y = 5 * c2 + w2
      · obtain ⟨d1, d2⟩ := (ix5 (by omega) (by omega)).mp k2
        subst d1; subst d2
        rw [pk_us, (sit_iff hg.2.1).mpr ⟨hq, e4, e3, nI_ne1 (by omega)⟩]
        show nI p = oI (some (pi2 p q q))
        rw [show pi2 p q q = p by unfold pi2; rw [if_neg (fun z => hne z.symm), if_pos rfl]]
        rfl
      · rw [pk_un k2, h.2 x y hx hy]
        cases hs : sitK K (nI x) (nI y) with
        | none => rfl
        | some z =>
          obtain ⟨z1, z2, z3, -⟩ := sitK_lt hs
          have np : z ≠ p := fun e => k1 (by subst e; rw [e1] at z3; rw [e2] at z2; rw [(nI_eq (by omega) (by omega)).mp z3, (nI_eq (by omega) (by omega)).mp z2])
          have nq : z ≠ q := fun e => k2 (by subst e; rw [e3] at z3; rw [e4] at z2; rw [(nI_eq (by omega) (by omega)).mp z3, (nI_eq (by omega) (by omega)).mp z2])
          show _ = oI (some (pi2 p q z))
          rw [show pi2 p q z = z by unfold pi2; rw [if_neg np, if_neg nq]]
/-! rises -/
theorem com_s {K K2 : row} (h : sameB K K2) (h33 : K2 33 = K 33) (p : Nat) (c w : Int32) : comK K2 p c w = comK K p c w := by
  unfold comK
  rw [h 4 (by omega), h33, h (34 + p) (by omega), h.law (by omega) (by omega)]
theorem fwd_n {c : Int32} {N i s free k : Nat} {K : row} (h : i < N) (hc : ¬ comes K c free (s + i) = true) : fwd c (N - i) (s + i) free K k = fwd c (N - (i + 1)) (s + (i + 1)) free K k := by
  rw [show N - i = (N - (i + 1)) + 1 by omega, fwd, if_neg hc, Nat.add_assoc]
theorem fwd_y {c : Int32} {N i s free k p : Nat} {K : row} (h : i < N) (hc : comes K c free (s + i) = true) (hs : sitK K c (nI (s + i)) = some p) : fwd c (N - i) (s + i) free K k = fwd c (N - (i + 1)) (s + (i + 1)) (s + i) (mvP K p free) (k + 1) := by
  rw [show N - i = (N - (i + 1)) + 1 by omega, fwd, if_pos hc, hs, Nat.add_assoc]
  rfl
theorem rise_fwd {K : row} {p c w : Nat} {s : Int32} (hc : K (8 + p) = nI c) (hw : K (16 + p) = nI w) (hw2 : w < 5) : riseK K p s = fwd (nI c) (kH K - (w + 1)) (w + 1) w (upP K p s) 0 := by
  unfold riseK
  rw [hc, hw, nI_clamp (by omega)]
  rfl
theorem sit_24 {K : row} {p : Nat} {s c w : Int32} (h8 : kP K ≤ 8) (hp : p < 8) : sitK (upd K (24 + p) s) c w = sitK K c w := by
  unfold sitK
  rw [show kP (upd K (24 + p) s) = kP K from (sameB.rf.up (by omega) : sameB K (upd K (24 + p) s)).P]
  have key : ∀ {m i : Nat}, i + m ≤ kP K → fnd (fun q => decide (upd K (24 + p) s (16 + q) = w ∧ upd K (24 + p) s (8 + q) = c ∧ w ≠ -1)) i m = fnd (fun q => decide (K (16 + q) = w ∧ K (8 + q) = c ∧ w ≠ -1)) i m := by
    intro m
    induction m with
    | zero => intros; rfl
    | succ m ih =>
      intro i hi
      rw [fnd, fnd, ih (by omega)]
      simp only [pk_un (show 16 + i ≠ 24 + p by omega), pk_un (show 8 + i ≠ 24 + p by omega)]
  exact key (by omega)
theorem comes_24 {K : row} {p : Nat} {s c : Int32} {f w : Nat} (h8 : kP K ≤ 8) (hp : p < 8) : comes (upd K (24 + p) s) c f w = comes K c f w := by
  have hs : sameB K (upd K (24 + p) s) := sameB.rf.up (by omega)
  unfold comes
  rw [sit_24 h8 hp]
  split
  · rfl
  · rw [hs.asl, com_s hs (pk_un (by omega))]
theorem fwd_24 {c : Int32} {p : Nat} {s : Int32} (hp : p < 8) : ∀ {m w free : Nat} {K : row} {k : Nat}, kP K ≤ 8 → fwd c m w free (upd K (24 + p) s) k = (upd (fwd c m w free K k).1 (24 + p) s, (fwd c m w free K k).2)
  | 0, _, _, _, _, _ => rfl
  | m + 1, w, free, K, k, h8 => by
    rw [fwd, fwd, comes_24 h8 hp, sit_24 h8 hp]
    by_cases hc : comes K c free w = true
    · rw [if_pos hc, if_pos hc]
      obtain ⟨q, hq, -, -⟩ := comes_some hc
      rw [hq]
      have hlt := (sitK_lt hq).1
      have hs : sameB K (upd K (16 + q) (nI free)) := sameB.rf.up (by omega)
      have e : upd (upd K (24 + p) s) (16 + q) (nI free) = upd (upd K (16 + q) (nI free)) (24 + p) s := by
        funext j
        by_cases e1 : j = 16 + q
        · subst e1
          rw [pk_us, pk_un (by omega), pk_us]
        · rw [pk_un e1]
          by_cases e2 : j = 24 + p
          · subst e2
            rw [pk_us, pk_us]
          · rw [pk_un e2, pk_un e2, pk_un e1]
      simp only
      rw [e]
      exact fwd_24 hp (by rw [hs.P]; exact h8)
    · rw [if_neg hc, if_neg hc]
      exact fwd_24 hp h8
theorem rise_s {K : row} {p : Nat} {s : Int32} (h8 : kP K ≤ 8) (hp : p < 8) : riseK K p s = (upd (riseK K p (-1)).1 (24 + p) s, (riseK K p (-1)).2) := by
  have hs := upP_P (K := K) (p := p) (s := -1) hp
  have e : upP K p s = upd (upP K p (-1)) (24 + p) s := by
    funext j
    unfold upP
    by_cases e2 : j = 24 + p
    · subst e2
      rw [pk_us, pk_us]
    · rw [pk_un e2, pk_un e2, pk_un e2]
  have : riseK K p s = fwd (K (8 + p)) (kH K - ((K (16 + p)).toNatClampNeg + 1)) ((K (16 + p)).toNatClampNeg + 1) (K (16 + p)).toNatClampNeg (upP K p s) 0 := rfl
  rw [this, e, fwd_24 hp (by rw [hs.P]; exact h8)]
  rfl
/-! wetness -/
def wetV (K : row) (t : Int32) : Nat → Nat → Int32 → Int32
  | 0, _, x => x
  | j + 1, p, x => wetV K t j (p + 1) (x ||| (if upK K p = false ∧ K (16 + p) < t then (1 : Int32) <<< (nI p &&& 31) else 0))
theorem wetV_step {K : row} {t : Int32} {P i : Nat} {x : Int32} (h : i < P) : wetV K t (P - i) i x = wetV K t (P - (i + 1)) (i + 1) (x ||| (if upK K i = false ∧ K (16 + i) < t then (1 : Int32) <<< (nI i &&& 31) else 0)) := by
  rw [show P - i = (P - (i + 1)) + 1 by omega, wetV]
theorem wetV_cong {K K2 : row} {t : Int32} : ∀ {j p : Nat} {x : Int32}, (∀ q, p ≤ q → q < p + j → K2 (16 + q) = K (16 + q)) → wetV K2 t j p x = wetV K t j p x
  | 0, _, _, _ => rfl
  | j + 1, p, x, h => by
    have e : upK K2 p = upK K p := by
      unfold upK
      exact decide_eq_decide.mpr (by rw [h p (by omega) (by omega)])
    rw [wetV, wetV, wetV_cong (fun q h1 h2 => h q (by omega) (by omega)), e, h p (by omega) (by omega)]
theorem wetL_32 {t : Int32} : ∀ {j p : Nat} {K : row}, p + j ≤ 8 → wetL t j p K 32 = wetV K t j p (K 32)
  | 0, _, _, _ => rfl
  | j + 1, p, K, h => by
    rw [wetL, wetL_32 (by omega), wetV, pk_us]
    exact wetV_cong fun q h1 h2 => pk_un (by omega)
/-- who is wet when a minute has gone by, the tide being up so far -/
def pasW (K : row) (t w : Int32) : Int32 := wetV (dryK K) t (kP K) 0 w
theorem wetV_0 {K : row} {t : Int32} (ht : ¬ 0 < t) : ∀ {j p : Nat} {x : Int32}, (∀ q, p ≤ q → q < p + j → K (16 + q) = -1 ∨ ∃ w, w < 100 ∧ K (16 + q) = nI w) → wetV K t j p x = x
  | 0, _, _, _ => rfl
  | j + 1, p, x, h => by
    rw [wetV, wetV_0 ht (fun q h1 h2 => h q (by omega) (by omega)), if_neg]
    · simp
    · rintro ⟨h1, h2⟩
      rcases h p (by omega) (by omega) with e | ⟨w, hw, e⟩
      · exact upK_f.mp h1 e
      · rw [e] at h2
        exact ht (Int32.lt_of_le_of_lt (nI_pos' (by omega)) h2)
theorem pasW_0 {K : row} {t w : Int32} (ht : ¬ 0 < t) (hg : gS K) (h8 : kP K ≤ 8) (h5 : kH K ≤ 5) : pasW K t w = w := by
  have h1 := dry_same h8
  refine wetV_0 ht fun q _ hq => ?_
  have := ((gS_dry hg h8 h5).1 q (by rw [h1.P]; omega)).2
  rcases this with e | ⟨w, hw, e⟩
  · exact Or.inl e
  · exact Or.inr ⟨w, by rw [h1.H] at hw; omega, e⟩
theorem minK_32 {K : row} (h8 : kP K ≤ 8) : minK K 32 = pasW K (tideK K (K 33)) (K 32) := by
  rw [minK_T, minT, pk_un (by omega), wetL_32 (by omega), tide_same (dry_same h8), dry_hi h8 (by omega)]
  rfl
def takK (K : row) (p : Nat) (c : Int32) : row := if freeK K c = none then K else sitdK K p c
theorem takK_same {K : row} {p : Nat} {c : Int32} (hp : p < 8) : sameB K (takK K p c) := by
  unfold takK
  split
  · exact sameB.rf
  · exact sitdK_same hp
theorem takK_33 {K : row} {p : Nat} {c : Int32} (hp : p < 8) : takK K p c 33 = K 33 := by
  unfold takK
  split
  · rfl
  · exact sitd_hi hp (by omega)
theorem gS_tak {K : row} {p c : Nat} (h8 : kP K ≤ 8) (h5 : kH K ≤ 5) (hp : p < kP K) (h : gS K) (hc : c < kW K) : gS (takK K p (nI c)) := by
  unfold takK
  split
  · exact h
  · rename_i hn
    obtain ⟨f, hf⟩ := Option.ne_none_iff_exists'.mp hn
    exact gS_sd h8 h5 hp h hc hf
theorem SrAt.fe {Γ : gam} {ro : Nat → Nat} {a b : Nat} {σ σ1 : sto} {w m : Int32} {ch co rw bk : row} (h : SrAt Γ ro σ a b w m ch co rw bk) (hf : frC Γ ro 1 0 σ σ1) : SrAt Γ ro σ1 a b w m ch co rw bk := h.fr (hf.wk (lo2 := a + 5) (hi2 := a + 5) (by omega)) (by omega)
theorem LwV.fe {Γ : gam} {D : Nat} {ro : Nat → Nat} {σ σ1 : sto} {K : row} {mn pl : Nat} {v : Value} (h : LwV Γ D ro σ K mn pl v) (hf : frC Γ ro 1 0 σ σ1) : LwV Γ D ro σ1 K mn pl v := by
  rcases h with h | ⟨h1, l, h2, ⟨k1, k2, k3, k4⟩, h5, h6, h7⟩
  · exact Or.inl h
  · exact Or.inr ⟨h1, l, h2, ⟨k1, k2, k3, k4⟩, (hf.1 _ (by omega) (by rw [k2]; decide)).trans h5, (hf.1 _ (by omega) (by rw [k3]; decide)).trans h6, hf.2 _ (by omega) k4 h7⟩
theorem BrAt.fe {Γ : gam} {D : Nat} {ro : Nat → Nat} {b : Nat} {σ σ1 : sto} {K ag pa pf : row} {lm lt lw : Value} (h : BrAt Γ D ro σ b K ag pa pf lm lt lw) (hf : frC Γ ro 1 0 σ σ1) : BrAt Γ D ro σ1 b K ag pa pf lm lt lw := by
  obtain ⟨⟨r0, r1, r2, r3⟩, h0, h1, h2, h3, h4, h5, h6, h7⟩ := h
  exact ⟨⟨r0, r1, r2, r3⟩, (hf.1 _ (by omega) (by rw [r0]; decide)).trans h0, (hf.1 _ (by omega) (by rw [r1]; decide)).trans h1, (hf.1 _ (by omega) (by rw [r2]; decide)).trans h2, (hf.1 _ (by omega) (by rw [r3]; decide)).trans h3, h4.fe hf, h5.fe hf, h6.fe hf, h7⟩
theorem comes_0 {K : row} {c : Int32} {f w : Nat} (h : sitK K c (nI w) = none) : ¬ comes K c f w = true := by
  unfold comes
  rw [h]
  simp
theorem comes_1 {K : row} {c : Int32} {f w p : Nat} (h : sitK K c (nI w) = some p) : comes K c f w = (!aslK K p && comK K p c (nI f)) := by
  unfold comes
  rw [h]
