/-! ===== who sits where: no two on one chair; what deeds change of it ===== -/
def injK (K : row) : Prop := ∀ p q, p < kP K → q < kP K → K (16 + p) = K (16 + q) → K (8 + p) = K (8 + q) → K (16 + p) ≠ -1 → p = q
/-- who sits isn't awaited back -/
def bakK (K : row) : Prop := ∀ p, p < kP K → K (16 + p) ≠ -1 → K (24 + p) = -1
def gS (K : row) : Prop := vS K ∧ injK K ∧ bakK K
theorem sit_iff {K : row} {c w : Int32} {p : Nat} (hi : injK K) : sitK K c w = some p ↔ p < kP K ∧ K (16 + p) = w ∧ K (8 + p) = c ∧ w ≠ -1 := by
  constructor
  · exact sitK_lt
  · rintro ⟨h1, h2, h3, h4⟩
    cases hs : sitK K c w with
    | none =>
      have := fnd_no hs p (by omega) (by omega)
      simp only [decide_eq_false_iff_not] at this
      exact absurd ⟨h2, h3, h4⟩ this
    | some q =>
      obtain ⟨g1, g2, g3, -⟩ := sitK_lt hs
      rw [hi q p g1 h1 (by rw [g2, h2]) (by rw [g3, h3]) (by rw [g2]; exact h4)]
theorem sit_no {K : row} {c w : Int32} : sitK K c w = none ↔ ∀ p, p < kP K → ¬ (K (16 + p) = w ∧ K (8 + p) = c ∧ w ≠ -1) := by
  constructor
  · intro h p hp
    have := fnd_no h p (by omega) (by omega)
    simpa only [decide_eq_false_iff_not] using this
  · intro h
    exact fnd_none fun p _ hp => by simpa only [decide_eq_false_iff_not] using h p (by omega)
theorem sit_ext {K K2 : row} {c w c2 w2 : Int32} (hi : injK K) (hi2 : injK K2) (hP : kP K2 = kP K) (h : ∀ p, p < kP K → ((K2 (16 + p) = w2 ∧ K2 (8 + p) = c2 ∧ w2 ≠ -1) ↔ (K (16 + p) = w ∧ K (8 + p) = c ∧ w ≠ -1))) : sitK K2 c2 w2 = sitK K c w := by
  apply Option.ext
  intro p
  rw [sit_iff hi, sit_iff hi2, hP]
  constructor
  · rintro ⟨h1, h2⟩
    exact ⟨h1, (h p h1).mp h2⟩
  · rintro ⟨h1, h2⟩
    exact ⟨h1, (h p h1).mpr h2⟩
/-- one alone has moved -/
theorem sit_mv {K K2 : row} {p : Nat} (hi : injK K) (hi2 : injK K2) (hP : kP K2 = kP K) (hp : p < kP K) (ho : ∀ q, q < kP K → q ≠ p → K2 (16 + q) = K (16 + q) ∧ K2 (8 + q) = K (8 + q)) (c w : Int32) : sitK K2 c w = if K2 (8 + p) = c ∧ K2 (16 + p) = w ∧ w ≠ -1 then some p else if K (8 + p) = c ∧ K (16 + p) = w ∧ w ≠ -1 then none else sitK K c w := by
  by_cases h1 : K2 (8 + p) = c ∧ K2 (16 + p) = w ∧ w ≠ -1
  · rw [if_pos h1, sit_iff hi2, hP]
    exact ⟨hp, h1.2.1, h1.1, h1.2.2⟩
  · rw [if_neg h1]
    by_cases h2 : K (8 + p) = c ∧ K (16 + p) = w ∧ w ≠ -1
    · rw [if_pos h2, sit_no]
      intro q hq ⟨a1, a2, a3⟩
      rw [hP] at hq
      by_cases e : q = p
      · subst e
        exact h1 ⟨a2, a1, a3⟩
      · obtain ⟨b1, b2⟩ := ho q hq e
        exact e (hi q p hq hp (by rw [← b1, a1, h2.2.1]) (by rw [← b2, a2, h2.1]) (by rw [← b1, a1]; exact a3))
    · rw [if_neg h2]
      refine sit_ext hi hi2 hP fun q hq => ?_
      by_cases e : q = p
      · subst e
        exact ⟨fun ⟨a1, a2, a3⟩ => absurd ⟨a2, a1, a3⟩ h1, fun ⟨a1, a2, a3⟩ => absurd ⟨a2, a1, a3⟩ h2⟩
      · obtain ⟨b1, b2⟩ := ho q hq e
        rw [b1, b2]
theorem inj_mv {K K2 : row} {p : Nat} (hi : injK K) (hP : kP K2 = kP K) (ho : ∀ q, q < kP K → q ≠ p → K2 (16 + q) = K (16 + q) ∧ K2 (8 + q) = K (8 + q)) (hn : ∀ q, q < kP K → q ≠ p → K (16 + q) = K2 (16 + p) → K (8 + q) = K2 (8 + p) → K2 (16 + p) = -1) : injK K2 := by
  intro x y hx hy h1 h2 h3
  rw [hP] at hx hy
  by_cases ex : x = p
  · by_cases ey : y = p
    · rw [ex, ey]
    · subst ex
      obtain ⟨b1, b2⟩ := ho y hy ey
      exact absurd (hn y hy ey (by rw [← b1, h1]) (by rw [← b2, h2])) h3
  · by_cases ey : y = p
    · subst ey
      obtain ⟨b1, b2⟩ := ho x hx ex
      exact absurd (h1.trans (hn x hx ex (by rw [← b1, h1]) (by rw [← b2, h2]))) h3
    · obtain ⟨b1, b2⟩ := ho x hx ex
      obtain ⟨d1, d2⟩ := ho y hy ey
      exact hi x y hx hy (by rw [← b1, ← d1, h1]) (by rw [← b2, ← d2, h2]) (by rw [← b1]; exact h3)
/-! one rises -/
def upP (K : row) (p : Nat) (s : Int32) : row := upd (upd K (16 + p) (-1)) (24 + p) s
theorem upP_P {K : row} {p : Nat} {s : Int32} (hp : p < 8) : sameB K (upP K p s) := (sameB.rf.up (by omega)).up (by omega)
theorem upP_o {K : row} {p : Nat} {s : Int32} (h8 : kP K ≤ 8) (hp : p < 8) : ∀ q, q < kP K → q ≠ p → upP K p s (16 + q) = K (16 + q) ∧ upP K p s (8 + q) = K (8 + q) := fun q hq hne => by
  unfold upP
  exact ⟨by rw [pk_un (by omega), pk_un (by omega)], by rw [pk_un (by omega), pk_un (by omega)]⟩
theorem upP_16 {K : row} {p : Nat} {s : Int32} (hp : p < 8) : upP K p s (16 + p) = -1 := by
  unfold upP
  rw [pk_un (by omega), pk_us]
theorem upP_inj {K : row} {p : Nat} {s : Int32} (h8 : kP K ≤ 8) (hp : p < 8) (hi : injK K) : injK (upP K p s) := inj_mv hi (upP_P hp).P (upP_o h8 hp) (fun q _ _ _ _ => upP_16 hp)
theorem upP_sit {K : row} {p : Nat} {s : Int32} (h8 : kP K ≤ 8) (hp : p < kP K) (hi : injK K) (c w : Int32) : sitK (upP K p s) c w = if K (8 + p) = c ∧ K (16 + p) = w ∧ w ≠ -1 then none else sitK K c w := by
  rw [sit_mv hi (upP_inj h8 (by omega) hi) (upP_P (by omega)).P hp (upP_o h8 (by omega)) c w, if_neg]
  rw [upP_16 (by omega)]
  exact fun h => h.2.2 h.2.1.symm
/-! one comes forward -/
def mvP (K : row) (p f : Nat) : row := upd K (16 + p) (nI f)
theorem mvP_P {K : row} {p f : Nat} (hp : p < 8) : sameB K (mvP K p f) := sameB.rf.up (by omega)
theorem mvP_o {K : row} {p f : Nat} (h8 : kP K ≤ 8) (hp : p < 8) : ∀ q, q < kP K → q ≠ p → mvP K p f (16 + q) = K (16 + q) ∧ mvP K p f (8 + q) = K (8 + q) := fun q hq hne => by
  unfold mvP
  exact ⟨by rw [pk_un (by omega)], by rw [pk_un (by omega)]⟩
theorem mvP_16 {K : row} {p f : Nat} : mvP K p f (16 + p) = nI f := pk_us
theorem mvP_8 {K : row} {p f q : Nat} (hq : q < 8) : mvP K p f (8 + q) = K (8 + q) := pk_un (by omega)
theorem mvP_24 {K : row} {p f q : Nat} (hp : p < 8) : mvP K p f (24 + q) = K (24 + q) := pk_un (by omega)
theorem mvP_inj {K : row} {p f : Nat} (h8 : kP K ≤ 8) (hp : p < kP K) (hi : injK K) (hn : sitK K (K (8 + p)) (nI f) = none) (hf : f < 100) : injK (mvP K p f) := inj_mv hi (mvP_P (by omega)).P (mvP_o h8 (by omega)) (fun q hq _ h1 h2 => absurd ⟨h1.trans mvP_16, by rw [h2]; exact mvP_8 (by omega), nI_ne1 (by omega)⟩ (sit_no.mp hn q hq))
theorem mvP_sit {K : row} {p f : Nat} (h8 : kP K ≤ 8) (hp : p < kP K) (hi : injK K) (hn : sitK K (K (8 + p)) (nI f) = none) (hf : f < 100) (c w : Int32) : sitK (mvP K p f) c w = if K (8 + p) = c ∧ nI f = w then some p else if K (8 + p) = c ∧ K (16 + p) = w ∧ w ≠ -1 then none else sitK K c w := by
  rw [sit_mv hi (mvP_inj h8 hp hi hn hf) (mvP_P (by omega)).P hp (mvP_o h8 (by omega)) c w, mvP_16, mvP_8 (by omega)]
  by_cases e : K (8 + p) = c ∧ nI f = w
  · rw [if_pos e, if_pos ⟨e.1, e.2, by rw [← e.2]; exact nI_ne1 (by omega)⟩]
  · rw [if_neg e, if_neg (fun h => e ⟨h.1, h.2.1⟩)]
/-! one sits down -/
theorem sd_P {K : row} {p : Nat} {c : Int32} (hp : p < 8) : kP (sitdK K p c) = kP K := (sitdK_same hp).P
theorem sd_o {K : row} {p : Nat} {c : Int32} (h8 : kP K ≤ 8) (hp : p < 8) : ∀ q, q < kP K → q ≠ p → sitdK K p c (16 + q) = K (16 + q) ∧ sitdK K p c (8 + q) = K (8 + q) := fun q hq hne => by
  unfold sitdK
  exact ⟨by rw [pk_un (by omega), pk_un (by omega), pk_un (by omega)], by rw [pk_un (by omega), pk_un (by omega), pk_un (by omega)]⟩
theorem sd_16 {K : row} {p : Nat} {c : Int32} (hp : p < 8) : sitdK K p c (16 + p) = oI (freeK K c) := by
  unfold sitdK
  rw [pk_un (by omega), pk_un (by omega), pk_us]
theorem sd_8 {K : row} {p : Nat} {c : Int32} (hp : p < 8) : sitdK K p c (8 + p) = c := by
  unfold sitdK
  rw [pk_un (by omega), pk_us]
theorem sd_24 {K : row} {p q : Nat} {c : Int32} (hp : p < 8) (hq : q < 8) : sitdK K p c (24 + q) = if q = p then -1 else K (24 + q) := by
  unfold sitdK
  by_cases e : q = p
  · subst e
    rw [if_pos rfl, pk_us]
  · rw [if_neg e, pk_un (by omega), pk_un (by omega), pk_un (by omega)]
theorem free_some {K : row} {c : Int32} {f : Nat} (h : freeK K c = some f) : f < kH K ∧ sitK K c (nI f) = none := lastF_lt h
theorem sd_inj {K : row} {p f : Nat} {c : Int32} (h8 : kP K ≤ 8) (h5 : kH K ≤ 5) (hp : p < kP K) (hi : injK K) (hf : freeK K c = some f) : injK (sitdK K p c) := inj_mv hi (sd_P (by omega)) (sd_o h8 (by omega)) (fun q hq _ h1 h2 => by
  obtain ⟨g1, g2⟩ := free_some hf
  rw [sd_16 (by omega), hf] at h1
  rw [sd_8 (by omega)] at h2
  exact absurd ⟨h1, h2, nI_ne1 (by omega)⟩ (sit_no.mp g2 q hq))
theorem sd_sit {K : row} {p f : Nat} {c : Int32} (h8 : kP K ≤ 8) (h5 : kH K ≤ 5) (hp : p < kP K) (hi : injK K) (hf : freeK K c = some f) (hu : K (16 + p) = -1) (c' w : Int32) : sitK (sitdK K p c) c' w = if c = c' ∧ nI f = w then some p else sitK K c' w := by
  obtain ⟨g1, g2⟩ := free_some hf
  rw [sit_mv hi (sd_inj h8 h5 hp hi hf) (sd_P (by omega)) hp (sd_o h8 (by omega)) c' w, sd_16 (by omega), sd_8 (by omega), hf]
  by_cases e : c = c' ∧ nI f = w
  · rw [if_pos e, if_pos ⟨e.1, e.2, by rw [← e.2]; exact nI_ne1 (by omega)⟩]
  · rw [if_neg e, if_neg (fun h => e ⟨h.1, h.2.1⟩), if_neg]
    rw [hu]
    exact fun h => h.2.2 h.2.1.symm
/-! two swap -/
def pi2 (p q x : Nat) : Nat := if x = p then q else if x = q then p else x
theorem sw_at {K : row} {p q x : Nat} (hp : p < 8) (hq : q < 8) (hx : x < 8) : swapK K p q (16 + x) = K (16 + pi2 p q x) ∧ swapK K p q (8 + x) = K (8 + pi2 p q x) ∧ swapK K p q (24 + x) = K (24 + x) := by
  unfold pi2
  simp only [swapK]
  by_cases e1 : x = p
  · subst e1
    rw [if_pos rfl]
    by_cases e2 : x = q
    · subst e2
      exact ⟨by rw [pk_us], by rw [pk_un (by omega), pk_un (by omega), pk_us], by rw [pk_un (by omega), pk_un (by omega), pk_un (by omega), pk_un (by omega)]⟩
    · exact ⟨by rw [pk_un (by omega), pk_us], by rw [pk_un (by omega), pk_un (by omega), pk_un (by omega), pk_us], by rw [pk_un (by omega), pk_un (by omega), pk_un (by omega), pk_un (by omega)]⟩
  · rw [if_neg e1]
    by_cases e2 : x = q
    · subst e2
      rw [if_pos rfl]
      exact ⟨by rw [pk_us], by rw [pk_un (by omega), pk_un (by omega), pk_us], by rw [pk_un (by omega), pk_un (by omega), pk_un (by omega), pk_un (by omega)]⟩
    · rw [if_neg e2]
      exact ⟨by rw [pk_un (by omega), pk_un (by omega), pk_un (by omega), pk_un (by omega)], by rw [pk_un (by omega), pk_un (by omega), pk_un (by omega), pk_un (by omega)], by rw [pk_un (by omega), pk_un (by omega), pk_un (by omega), pk_un (by omega)]⟩
theorem pi2_lt {p q x m : Nat} (hp : p < m) (hq : q < m) (hx : x < m) : pi2 p q x < m := by
  unfold pi2
  split
  · exact hq
  · split
    · exact hp
    · exact hx
theorem pi2_pi {p q x : Nat} : pi2 p q (pi2 p q x) = x := by
  unfold pi2
  by_cases e1 : x = p
  · subst e1
    rw [if_pos rfl]
    by_cases e2 : q = x
    · rw [if_pos e2, e2]
    · rw [if_neg e2, if_pos rfl]
  · rw [if_neg e1]
    by_cases e2 : x = q
    · subst e2
      rw [if_pos rfl, if_pos rfl]
    · rw [if_neg e2, if_neg e1, if_neg e2]
theorem sw_inj {K : row} {p q : Nat} (h8 : kP K ≤ 8) (hp : p < kP K) (hq : q < kP K) (hi : injK K) : injK (swapK K p q) := by
  intro x y hx hy h1 h2 h3
  rw [(swapK_same (K := K) (by omega) (by omega)).P] at hx hy
  obtain ⟨a1, a2, -⟩ := sw_at (K := K) (p := p) (q := q) (x := x) (by omega) (by omega) (by omega)
  obtain ⟨b1, b2, -⟩ := sw_at (K := K) (p := p) (q := q) (x := y) (by omega) (by omega) (by omega)
  have := hi _ _ (pi2_lt hp hq hx) (pi2_lt hp hq hy) (by rw [← a1, ← b1, h1]) (by rw [← a2, ← b2, h2]) (by rw [← a1]; exact h3)
  rw [← pi2_pi (p := p) (q := q) (x := x), this, pi2_pi]
theorem sw_sit {K : row} {p q : Nat} (h8 : kP K ≤ 8) (hp : p < kP K) (hq : q < kP K) (hi : injK K) (c w : Int32) : sitK (swapK K p q) c w = (sitK K c w).map (pi2 p q) := by
  apply Option.ext
  intro x
  have hP := (swapK_same (K := K) (p := p) (q := q) (by omega) (by omega)).P
  rw [sit_iff (sw_inj h8 hp hq hi), hP, Option.map_eq_some_iff]
  constructor
  · rintro ⟨h1, h2, h3, h4⟩
    obtain ⟨a1, a2, -⟩ := sw_at (K := K) (p := p) (q := q) (x := x) (by omega) (by omega) (by omega)
    exact ⟨pi2 p q x, (sit_iff hi).mpr ⟨pi2_lt hp hq h1, by rw [← a1, h2], by rw [← a2, h3], h4⟩, pi2_pi⟩
  · rintro ⟨y, hy, rfl⟩
    obtain ⟨h1, h2, h3, h4⟩ := (sit_iff hi).mp hy
    have hl := pi2_lt hp hq h1
    obtain ⟨a1, a2, -⟩ := sw_at (K := K) (p := p) (q := q) (x := pi2 p q y) (by omega) (by omega) (by omega)
    rw [pi2_pi] at a1 a2
    exact ⟨hl, by rw [a1, h2], by rw [a2, h3], h4⟩
/-! what is good stays so -/
theorem gS_up {K : row} {p : Nat} {s : Int32} (h8 : kP K ≤ 8) (hp : p < kP K) (h : gS K) : vS (upP K p s) ∧ injK (upP K p s) ∧ bakK (upP K p s) := by
  refine ⟨vS_up h.1 (by omega) h8, upP_inj h8 (by omega) h.2.1, fun q hq hu => ?_⟩
  rw [(upP_P (by omega)).P] at hq
  by_cases e : q = p
  · subst e
    exact absurd (upP_16 (by omega)) hu
  · rw [(upP_o h8 (by omega) q hq e).1] at hu
    unfold upP
    rw [pk_un (by omega), pk_un (by omega)]
    exact h.2.2 q hq hu
theorem gS_mv {K : row} {p f : Nat} (h8 : kP K ≤ 8) (h5 : kH K ≤ 5) (hp : p < kP K) (h : gS K) (hu : K (16 + p) ≠ -1) (hn : sitK K (K (8 + p)) (nI f) = none) (hf : f < kH K) : gS (mvP K p f) := by
  have hs := mvP_P (K := K) (p := p) (f := f) (by omega)
  refine ⟨fun q hq => ?_, mvP_inj h8 hp h.2.1 hn (by omega), fun q hq hq2 => ?_⟩
  · rw [hs.P] at hq
    rw [hs.W, hs.H, mvP_8 (by omega)]
    refine ⟨(h.1 q hq).1, ?_⟩
    by_cases e : q = p
    · subst e
      exact Or.inr ⟨f, hf, mvP_16⟩
    · rw [(mvP_o h8 (by omega) q hq e).1]
      exact (h.1 q hq).2
  · rw [hs.P] at hq
    rw [mvP_24 (by omega)]
    by_cases e : q = p
    · subst e
      exact h.2.2 q hq hu
    · rw [(mvP_o h8 (by omega) q hq e).1] at hq2
      exact h.2.2 q hq hq2
theorem gS_sd {K : row} {p c f : Nat} (h8 : kP K ≤ 8) (h5 : kH K ≤ 5) (hp : p < kP K) (h : gS K) (hc : c < kW K) (hf : freeK K (nI c) = some f) : gS (sitdK K p (nI c)) := by
  refine ⟨vS_sitd h.1 hp h8 hc, sd_inj h8 h5 hp h.2.1 hf, fun q hq hu => ?_⟩
  rw [sd_P (by omega)] at hq
  rw [sd_24 (by omega) (by omega)]
  by_cases e : q = p
  · rw [if_pos e]
  · rw [if_neg e]
    rw [(sd_o h8 (by omega) q hq e).1] at hu
    exact h.2.2 q hq hu
theorem gS_sw {K : row} {p q : Nat} (h8 : kP K ≤ 8) (hp : p < kP K) (hq : q < kP K) (h : gS K) (hup : K (16 + p) ≠ -1) (huq : K (16 + q) ≠ -1) : gS (swapK K p q) := by
  refine ⟨vS_swap h.1 hp hq h8, sw_inj h8 hp hq h.2.1, fun x hx hu => ?_⟩
  rw [(swapK_same (K := K) (by omega) (by omega)).P] at hx
  obtain ⟨a1, -, a3⟩ := sw_at (K := K) (p := p) (q := q) (x := x) (by omega) (by omega) (by omega)
  rw [a3]
  by_cases e1 : x = p
  · subst e1
    exact h.2.2 x hx hup
  · by_cases e2 : x = q
    · subst e2
      exact h.2.2 x hx huq
    · rw [a1, show pi2 p q x = x by unfold pi2; rw [if_neg e1, if_neg e2]] at hu
      exact h.2.2 x hx hu
theorem comes_some {K : row} {c : Int32} {free w : Nat} (h : comes K c free w = true) : ∃ p, sitK K c (nI w) = some p ∧ aslK K p = false ∧ comK K p c (nI free) = true := by
  unfold comes at h
  split at h
  · cases h
  · rename_i p hp
    simp only [Bool.and_eq_true, Bool.not_eq_true'] at h
    exact ⟨p, hp, h.1, h.2⟩
theorem mv_free {K : row} {p w : Nat} {c : Int32} {f : Nat} (h8 : kP K ≤ 8) (hi : injK K) (hs : sitK K c (nI w) = some p) (hn : sitK K c (nI f) = none) (hf : f < 100) (hw : w < 100) (hne : f ≠ w) : sitK (mvP K p f) c (nI w) = none := by
  obtain ⟨h1, h2, h3, h4⟩ := sitK_lt hs
  rw [mvP_sit h8 h1 hi (by rw [h3]; exact hn) hf, if_neg (fun e => hne ((nI_eq (by omega) (by omega)).mp e.2)), if_pos ⟨h3, h2, h4⟩]
theorem gS_fwd {c : Int32} : ∀ {m w free : Nat} {K : row} {k : Nat}, gS K → kP K ≤ 8 → kH K ≤ 5 → free < kH K → w + m ≤ kH K → free < w → sitK K c (nI free) = none → gS (fwd c m w free K k).1
  | 0, _, _, _, _, h, _, _, _, _, _, _ => h
  | m + 1, w, free, K, k, h, h8, h5, hf, hw, hfw, hn => by
    rw [fwd]
    split
    · rename_i hc
      obtain ⟨p, hp, -, -⟩ := comes_some hc
      rw [hp]
      simp only
      obtain ⟨h1, h2, h3, h4⟩ := sitK_lt hp
      have hs := mvP_P (K := K) (p := p) (f := free) (by omega)
      exact gS_fwd (K := mvP K p free) (gS_mv h8 h5 h1 h (by rw [h2]; exact h4) (by rw [h3]; exact hn) hf) (by rw [hs.P]; exact h8) (by rw [hs.H]; exact h5) (by rw [hs.H]; omega) (by rw [hs.H]; omega) (by omega) (mv_free h8 h.2.1 hp hn (by omega) (by omega) (by omega))
    · exact gS_fwd h h8 h5 hf (by omega) (by omega) hn
theorem gS_rise {K : row} {p : Nat} {s : Int32} (h8 : kP K ≤ 8) (h5 : kH K ≤ 5) (hp : p < kP K) (h : gS K) (hu : K (16 + p) ≠ -1) : gS (riseK K p s).1 := by
  obtain ⟨w, hw, e⟩ := (h.1 p hp).2.resolve_left hu
  have hs := upP_P (K := K) (p := p) (s := s) (by omega)
  unfold riseK
  rw [e, nI_clamp (by omega)]
  refine gS_fwd (K := upP K p s) (gS_up h8 hp h) (by rw [hs.P]; exact h8) (by rw [hs.H]; exact h5) (by rw [hs.H]; omega) (by rw [hs.H]; omega) (by omega) ?_
  rw [upP_sit h8 hp h.2.1, if_pos ⟨rfl, e, nI_ne1 (by omega)⟩]
theorem gS_down {m : Int32} : ∀ {j p : Nat} {K : row}, gS K → kP K ≤ 8 → kH K ≤ 5 → p + j ≤ kP K → gS (downK m j p K)
  | 0, _, _, h, _, _, _ => h
  | j + 1, p, K, h, h8, h5, hj => by
    rw [downK]
    split
    · rename_i hc
      obtain ⟨⟨c, hc1, e⟩, -⟩ := h.1 p (by omega)
      obtain ⟨f, hf⟩ := Option.ne_none_iff_exists'.mp hc.2.2.2
      have hB : sameB K (sitdK K p (K (8 + p))) := sitdK_same (by omega)
      refine gS_down ?_ (by rw [hB.P]; exact h8) (by rw [hB.H]; exact h5) (by rw [hB.P]; omega)
      rw [e] at hf ⊢
      exact gS_sd h8 h5 (by omega) h hc1 hf
    · exact gS_down h h8 h5 (by omega)
theorem gS_plan {m : Int32} : ∀ {j p : Nat} {K : row}, gS K → kP K ≤ 8 → kH K ≤ 5 → p + j ≤ kP K → gS (planK m j p K)
  | 0, _, _, h, _, _, _ => h
  | j + 1, p, K, h, h8, h5, hj => by
    rw [planK]
    split
    · rename_i hc
      have hB : sameB K (riseK K p (m + K (51 + p))).1 := riseK_same h8 (by omega)
      exact gS_plan (gS_rise h8 h5 (by omega) h (upK_f.mp hc.2.1)) (by rw [hB.P]; exact h8) (by rw [hB.H]; exact h5) (by rw [hB.P]; omega)
    · exact gS_plan h h8 h5 (by omega)
/-- alike in who sits where and who comes back -/
theorem gS_e {K K2 : row} (hB : sameB K K2) (h : gS K) (e : ∀ j, 8 ≤ j → j < 32 → K2 j = K j) (h8 : kP K ≤ 8) : gS K2 := by
  refine ⟨vS_wet hB h.1 (fun j h1 h2 => e j h1 (by omega)) h8, ?_, ?_⟩
  · intro p q hp hq
    rw [hB.P] at hp hq
    rw [e (16 + p) (by omega) (by omega), e (16 + q) (by omega) (by omega), e (8 + p) (by omega) (by omega), e (8 + q) (by omega) (by omega)]
    exact h.2.1 p q hp hq
  · intro p hp
    rw [hB.P] at hp
    rw [e (16 + p) (by omega) (by omega), e (24 + p) (by omega) (by omega)]
    exact h.2.2 p hp
theorem gS_dry {K : row} (h : gS K) (h8 : kP K ≤ 8) (h5 : kH K ≤ 5) : gS (dryK K) := by
  have h1 : sameB K (downK (K 33) (kP K) 0 K) := downK_same (by omega)
  exact gS_plan (gS_down h h8 h5 (by omega)) (by rw [h1.P]; exact h8) (by rw [h1.H]; exact h5) (by rw [h1.P]; omega)
theorem gS_minT {t : Int32} {K : row} (h : gS K) (h8 : kP K ≤ 8) (h5 : kH K ≤ 5) : gS (minT t K) := by
  have h1 := dry_same h8
  exact gS_e (K := dryK K) (wetL_same.up (by omega)) (gS_dry h h8 h5) (fun j h1 h2 => minT_e (by omega)) (by rw [h1.P]; exact h8)
theorem gS_min {K : row} (h : gS K) (h8 : kP K ≤ 8) (h5 : kH K ≤ 5) : gS (minK K) := by
  rw [minK_T]
  exact gS_minT h h8 h5
theorem gS_go {m : Nat} : ∀ {K : row}, gS K → kP K ≤ 8 → kH K ≤ 5 → gS (goK m K) := by
  induction m with
  | zero => intro K h _ _; exact h
  | succ m ih =>
    intro K h h8 h5
    have h1 := minK_same h8
    exact ih (gS_min h h8 h5) (by rw [h1.P]; exact h8) (by rw [h1.H]; exact h5)
theorem gS_do {K : row} {v : Int} (hv : gS K) (h8 : kP K ≤ 8) (h5 : kH K ≤ 5) (h : whyT K v = 0) : gS (doK K v) := by
  rcases told_c h with rfl | ⟨j, h1, h2, rfl, h3, -⟩ | ⟨j, d, h1, h2, h3, h4, rfl, h6, h7⟩ | ⟨j, d, h1, h2, h3, h4, rfl, h6, h7, h9⟩
  · exact gS_min hv h8 h5
  · rw [do_r h2]; exact gS_rise h8 h5 h1 hv h3
  · rw [do_s h3 h4]
    obtain ⟨f, hf⟩ := Option.ne_none_iff_exists'.mp h7
    exact gS_sd h8 h5 h1 hv h2 hf
  · rw [do_x h3 h4]; exact gS_sw h8 h1 h2 hv h7 h9
