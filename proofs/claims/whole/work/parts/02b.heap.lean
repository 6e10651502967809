/-! ===== the heap: cells of the store, what a store or a new cell does to the world ===== -/
abbrev cI (Γ : gam) (N : Nat) (f : Nat → Int32) : va_E := .inl (gA Γ 0, N, .inl f)
abbrev cJ (Γ : gam) (N : Nat) (f : Nat → Int64) : va_E := .inl (gA Γ 1, N, .inr (.inl f))
abbrev cZ (Γ : gam) (N : Nat) (f : Nat → Int32) : va_E := .inl (gA Γ 2, N, .inl f)
abbrev cR (Γ : gam) (k N : Nat) (f : Nat → Option Nat) : va_E := .inl (gA Γ k, N, .inr (.inr (.inr (.inr f))))
abbrev cO (ci : Nat) (fs : List Value) : va_E := .inr (ci, fs)
theorem Wd.one {Γ : gam} {σ : sto} {n a : Nat} {e : va_E} {H : Heap} (h : Wd Γ σ n H) (ha : σ a = some e) : va_P (gD Γ) cls_ [(a, e)] H := by
  intro k q hk
  match k, hk with
  | 0, hk =>
    cases hk
    exact (h.2.2.2 a e ha).2.2
  | k + 1, hk => simp at hk
theorem Wd.top {Γ : gam} {σ : sto} {n a : Nat} {e : va_E} {H : Heap} (h : Wd Γ σ n H) (ha : σ a = some e) : gtop Γ a := (h.2.2.2 a e ha).1
theorem Wd.put {Γ : gam} {σ : sto} {n a : Nat} {e e' : va_E} {H H1 : Heap} (h : Wd Γ σ n H) (ha : σ a = some e) (hz : H1.size = H.size) (oq : ∀ q : Nat, q ≠ a → H1[q]? = H[q]?) (he : va_at (gD Γ) cls_ (a, e') H1) : Wd Γ (sup σ a e') n H1 := by
  obtain ⟨h1, h2, h3, h4⟩ := h
  have hta := (h4 a e ha).1
  refine ⟨hz.trans h1, h2, fun q hq => ?_, fun b x hb => ?_⟩
  · rw [oq q (fun z => by subst z; exact absurd hta (Nat.not_le.mpr hq))]
    exact h3 q hq
  · by_cases hba : b = a
    · subst hba
      rw [sup_eq] at hb
      cases hb
      exact ⟨hta, (h4 b e ha).2.1, he⟩
    · simp only [sup, if_neg hba] at hb
      obtain ⟨g1, g2, g3⟩ := h4 b x hb
      exact ⟨g1, g2, g3.kept (oq b hba)⟩
theorem Wd.push {Γ : gam} {σ : sto} {n : Nat} {e' : va_E} {H H1 : Heap} (h : Wd Γ σ n H) (hz : H1.size = H.size + 1) (oq : ∀ q : Nat, q < H.size → H1[q]? = H[q]?) (he : va_at (gD Γ) cls_ (n, e') H1) : Wd Γ (sup σ n e') (n + 1) H1 := by
  obtain ⟨h1, h2, h3, h4⟩ := h
  refine ⟨by rw [hz, h1], by omega, fun q hq => ?_, fun b x hb => ?_⟩
  · rw [oq q (by omega)]
    exact h3 q hq
  · by_cases hba : b = n
    · subst hba
      rw [sup_eq] at hb
      cases hb
      exact ⟨h2, by omega, he⟩
    · simp only [sup, if_neg hba] at hb
      obtain ⟨g1, g2, g3⟩ := h4 b x hb
      exact ⟨g1, by omega, g3.kept (oq b (by omega))⟩
theorem vaS_new {A : Nat → Prop} {H0 H H1 : Heap} {locs : List Loc} (h : va_S A H0 H locs) (z : H1.size = H.size + 1) (oq : ∀ q : Nat, q < H.size → H1[q]? = H[q]?) : va_S A H0 H1 locs := ⟨Nat.le_trans h.1 (by omega), fun x h1 h2 => (oq x (Nat.lt_of_lt_of_le h1 h.1)).trans (h.2.1 x h1 h2), h.2.2⟩
section GoHeap
variable {Γ : gam} {R : Room} {M : mth} {Q : qp} {cells slots pc : Nat} {lv : List (Option Value)} {st : List Value} {σ : sto} {n : Nat}
theorem go_getf {ix ci k a : Nat} {ty : FieldType} {fin : Bool} {fs : List Value} {v : Value} (hf : fLk M.1.cls ix ci k ty fin) (hd : decode M.2.1 pc = .ok (.getfield ix, 3)) (ho : σ a = some (cO ci fs)) (hv : fs[k]? = some v) (kk : Go Γ R M Q cells slots (pc + 3) lv (v :: st) σ n) : Go Γ R M Q cells slots pc lv (.ref a :: st) σ n := by
  intro p e s m args below meth c H locs ls C W0 S0 L0
  obtain ⟨⟨hx, hb, hml, hown, hts⟩, hr, hlk, hnm, htb, htr, hK, hlo⟩ := id C
  obtain ⟨K, T, N, hc, hk, h1, h2, h3, h4⟩ := hf
  obtain ⟨hin, ty0, hty, hnm0⟩ := cls_ok hc
  exact va_get (own := M.1.cls) (ref := K) hx hb hts hin hown hK.1 (W0.one ho) 0 rfl hc k hk (hts _ h4) (fun x h => by rw [h1] at h; exact h) hv hd (kk p e s m args below meth c H locs ls C W0 S0 L0)
theorem go_putf {ix ci k a : Nat} {ty : FieldType} {fs fs' : List Value} {v : Value} (hf : fLk M.1.cls ix ci k ty false) (hd : decode M.2.1 pc = .ok (.putfield ix, 3)) (ho : σ a = some (cO ci fs)) (hl : k < fs.length) (hfs : fs.set k v = fs') (hn : narrow ty v = v) (hfit : fits ty v = true) (kk : Go Γ R M Q cells slots (pc + 3) lv st (sup σ a (cO ci fs')) n) : Go Γ R M Q cells slots pc lv (v :: .ref a :: st) σ n := by
  subst hfs
  intro p e s m args below meth c H locs ls C W0 S0 L0
  obtain ⟨⟨hx, hb, hml, hown, hts⟩, hr, hlk, hnm, htb, htr, hK, hlo⟩ := id C
  obtain ⟨K, T, N, hc, hk, h1, h2, h3, h4⟩ := hf
  obtain ⟨hin, ty0, hty, hnm0⟩ := cls_ok hc
  have hap := va_apart (own := M.1.cls) hts hin ty0 hty hnm0 hK.1 hc
  obtain ⟨r, h5, cell, q1, q2, q3, q4⟩ := (W0.2.2.2 a _ ho).2.2
  have hr0 : r = (K, T, N) := Option.some.inj (h5.symm.trans hc)
  subst hr0
  obtain ⟨hS, hfc, kC, hkC, hkind⟩ := hK.1.1 ci _ hc
  obtain ⟨cf, kf, fi, f, hi, hsl⟩ := hS k hk
  have hlay := hts _ (hin _ (u_in_lay hk))
  unfold u_lay at hlay
  rw [if_neg (by rw [h3]; decide)] at hlay
  have hst := (u_facts hfc hkC (u_lays hts hin hk) hi).1
  have h6 := u_store hfc hkC hkind hlay hi h2 hn hfit
  refine W.putK hx hb (f := f) ⟨hown, hts _ h4, ⟨_, _, _, (by rw [h1] at hi; exact hi)⟩, hst⟩ (by rw [q2]; exact h6) q1 q3 (by rw [hsl]; exact k2_hasslot (q4 k hk)) rfl rfl hd fun H' e1 e2 e3 => ?_
  rw [hsl] at e1 ⊢
  exact kk p e s m args below meth c H' _ ls C (W0.put ho e2 e3 ⟨_, hc, t_OB.to (V := updV (vp_V fs) k v) ⟨_, e1, q2, q3, t_set q4 hap hk v⟩ (fun j _ => vp_updV_set hl v j)⟩) (S0.put e2 e3 (W0.top ho)) L0
theorem go_putF {ix ci k a : Nat} {ty : FieldType} {fs fs' : List Value} {v : Value} (hf : fLk M.1.cls ix ci k ty true) (hi0 : M.1.name = "<init>") (hci : ∀ (K : String) (T : u_T) (N : Nat), cls_[ci]? = some (K, T, N) → K = M.1.cls) (hd : decode M.2.1 pc = .ok (.putfield ix, 3)) (ho : σ a = some (cO ci fs)) (hl : k < fs.length) (hfs : fs.set k v = fs') (hn : narrow ty v = v) (hfit : fits ty v = true) (kk : Go Γ R M Q cells slots (pc + 3) lv st (sup σ a (cO ci fs')) n) : Go Γ R M Q cells slots pc lv (v :: .ref a :: st) σ n := by
  subst hfs
  intro p e s m args below meth c H locs ls C W0 S0 L0
  obtain ⟨⟨hx, hb, hml, hown, hts⟩, hr, hlk, hnm, htb, htr, hK, hlo⟩ := id C
  obtain ⟨K, T, N, hc, hk, h1, h2, h3, h4⟩ := hf
  obtain ⟨hin, ty0, hty, hnm0⟩ := cls_ok hc
  have hap := va_apart (own := M.1.cls) hts hin ty0 hty hnm0 hK.1 hc
  obtain ⟨r, h5, cell, q1, q2, q3, q4⟩ := (W0.2.2.2 a _ ho).2.2
  have hr0 : r = (K, T, N) := Option.some.inj (h5.symm.trans hc)
  subst hr0
  have hdecl : (T k).1 = M.1.cls := by rw [h1]; exact hci K T N hc
  obtain ⟨hS, hfc, kC, hkC, hkind⟩ := hK.1.1 ci _ hc
  obtain ⟨cf, kf, fi, f, hi, hsl⟩ := hS k hk
  have hlay := hts _ (hin _ (u_in_lay hk))
  unfold u_lay at hlay
  rw [if_pos h3] at hlay
  have hst := (u_facts hfc hkC (u_lays hts hin hk) hi).1
  have hcf : m.cls = cf := by
    obtain ⟨_, _, c', _, _, _, -, -, hf', -, -, -, hown2, -⟩ := Cond.laysFinal_spec hlay
    have e1 : c' = cf := by have := hi.symm.trans hf'; simp at this; exact this.1.symm
    rw [hdecl] at hown2
    rw [← e1]; exact Option.some.inj (hown.symm.trans hown2)
  have h6 := u_fits hfc hkC hkind (Or.inr hlay) hi h2 hn hfit
  refine W.putFinK hx hb hown (hts _ h4) (by rw [h1] at hi; exact hi) hst hcf (hnm.trans hi0) (by rw [q2]; exact h6) q1 q3 (by rw [hsl]; exact k2_hasslot (q4 k hk)) rfl rfl hd fun H' e1 e2 e3 => ?_
  rw [hsl] at e1 ⊢
  exact kk p e s m args below meth c H' _ ls C (W0.put ho e2 e3 ⟨_, hc, t_OB.to (V := updV (vp_V fs) k v) ⟨_, e1, q2, q3, t_set q4 hap hk v⟩ (fun j _ => vp_updV_set hl v j)⟩) (S0.put e2 e3 (W0.top ho)) L0
theorem go_iaload {a N : Nat} {f : Nat → Int32} {i : Int32} (hd : decode M.2.1 pc = .ok (.iaload, 1)) (ho : σ a = some (cI Γ N f)) (hin : vp_in i N) (kk : Go Γ R M Q cells slots (pc + 1) lv (.int (f i.toNatClampNeg) :: st) σ n) : Go Γ R M Q cells slots pc lv (.int i :: .ref a :: st) σ n := by
  intro p e s m args below meth c H locs ls C W0 S0 L0
  obtain ⟨⟨hx, hb, hml, hown, hts⟩, hr, hlk, hnm, htb, htr, hK, hlo⟩ := id C
  exact va_iald hx hb hK.1 (W0.one ho) 0 0 rfl rfl hin hd (kk p e s m args below meth c H locs ls C W0 S0 L0)
theorem go_laload {a N : Nat} {f : Nat → Int64} {i : Int32} (hd : decode M.2.1 pc = .ok (.laload, 1)) (ho : σ a = some (cJ Γ N f)) (hin : vp_in i N) (kk : Go Γ R M Q cells slots (pc + 1) lv (.long (f i.toNatClampNeg) :: st) σ n) : Go Γ R M Q cells slots pc lv (.int i :: .ref a :: st) σ n := by
  intro p e s m args below meth c H locs ls C W0 S0 L0
  obtain ⟨⟨hx, hb, hml, hown, hts⟩, hr, hlk, hnm, htb, htr, hK, hlo⟩ := id C
  exact va_lald hx hb hK.1 (W0.one ho) 0 1 rfl rfl hin hd (kk p e s m args below meth c H locs ls C W0 S0 L0)
theorem go_zaload {a N : Nat} {f : Nat → Int32} {i : Int32} (hd : decode M.2.1 pc = .ok (.baload, 1)) (ho : σ a = some (cZ Γ N f)) (hin : vp_in i N) (kk : Go Γ R M Q cells slots (pc + 1) lv (.int (f i.toNatClampNeg) :: st) σ n) : Go Γ R M Q cells slots pc lv (.int i :: .ref a :: st) σ n := by
  intro p e s m args below meth c H locs ls C W0 S0 L0
  obtain ⟨⟨hx, hb, hml, hown, hts⟩, hr, hlk, hnm, htb, htr, hK, hlo⟩ := id C
  exact va_zald hx hb hK.1 (W0.one ho) 0 2 rfl rfl hin hd (kk p e s m args below meth c H locs ls C W0 S0 L0)
theorem go_aaload {a k N b : Nat} {X : String} {f : Nat → Option Nat} {i : Int32} (hd : decode M.2.1 pc = .ok (.aaload, 1)) (ho : σ a = some (cR Γ k N f)) (hk : (gty Γ)[k]? = some (gA Γ k, .object X)) (hin : vp_in i N) (hb0 : f i.toNatClampNeg = some b) (kk : Go Γ R M Q cells slots (pc + 1) lv (.ref b :: st) σ n) : Go Γ R M Q cells slots pc lv (.int i :: .ref a :: st) σ n := by
  intro p e s m args below meth c H locs ls C W0 S0 L0
  obtain ⟨⟨hx, hb, hml, hown, hts⟩, hr, hlk, hnm, htb, htr, hK, hlo⟩ := id C
  refine va_aldq hx hb hK.1 (W0.one ho) 0 k rfl hk hin hd ?_
  rw [hb0]
  exact kk p e s m args below meth c H locs ls C W0 S0 L0
theorem go_aaloadN {a k N : Nat} {X : String} {f : Nat → Option Nat} {i : Int32} (hd : decode M.2.1 pc = .ok (.aaload, 1)) (ho : σ a = some (cR Γ k N f)) (hk : (gty Γ)[k]? = some (gA Γ k, .object X)) (hin : vp_in i N) (hb0 : f i.toNatClampNeg = none) (kk : Go Γ R M Q cells slots (pc + 1) lv (.null :: st) σ n) : Go Γ R M Q cells slots pc lv (.int i :: .ref a :: st) σ n := by
  intro p e s m args below meth c H locs ls C W0 S0 L0
  obtain ⟨⟨hx, hb, hml, hown, hts⟩, hr, hlk, hnm, htb, htr, hK, hlo⟩ := id C
  refine va_aldq hx hb hK.1 (W0.one ho) 0 k rfl hk hin hd ?_
  rw [hb0]
  exact kk p e s m args below meth c H locs ls C W0 S0 L0
theorem go_alen {a t0 : Nat} {cA : ClassId} {x : vp_A} {ty : FieldType} {v : Int32} (hd : decode M.2.1 pc = .ok (.arraylength, 1)) (ho : σ a = some (.inl (cA, x))) (ht : (gty Γ)[t0]? = some (cA, ty)) (hv : Int32.ofNat x.1 = v) (kk : Go Γ R M Q cells slots (pc + 1) lv (.int v :: st) σ n) : Go Γ R M Q cells slots pc lv (.ref a :: st) σ n := by
  intro p e s m args below meth c H locs ls C W0 S0 L0
  obtain ⟨⟨hx, hb, hml, hown, hts⟩, hr, hlk, hnm, htb, htr, hK, hlo⟩ := id C
  exact va_alen hx hb hK.1 (W0.one ho) 0 t0 rfl ht hv hd (kk p e s m args below meth c H locs ls C W0 S0 L0)
theorem go_iastore {a N : Nat} {f : Nat → Int32} {i : Int32} {x : Int32} (hd : decode M.2.1 pc = .ok (.iastore, 1)) (ho : σ a = some (cI Γ N f)) (hin : vp_in i N) (kk : Go Γ R M Q cells slots (pc + 1) lv st (sup σ a (cI Γ N (upd f i.toNatClampNeg x))) n) : Go Γ R M Q cells slots pc lv (.int x :: .int i :: .ref a :: st) σ n := by
  intro p e s m args below meth c H locs ls C W0 S0 L0
  obtain ⟨⟨hx, hb, hml, hown, hts⟩, hr, hlk, hnm, htb, htr, hK, hlo⟩ := id C
  refine W.iast hx hb ((W0.one ho) 0 _ rfl) ((hK.1.2 0 _ rfl).1 N (fun j => .int (f j))) (fun q => by cases q) (by show ¬ (i < 0 ∨ (arrV _ _ _).slots.size ≤ _); rw [arrV_size]; exact hin) rfl rfl hd fun H1 e1 z oq => ?_
  refine kk p e s m args below meth c H1 _ ls C (W0.put ho z oq ?_) (S0.put z oq (W0.top ho)) L0
  show H1[a]? = some (vp_cell _ _)
  rw [e1]
  rw [vp_cell_i, vp_cell_i, arrV_store]
  congr 2
  funext q
  by_cases hq : q = i.toNatClampNeg
  · subst hq
    simp [updV, upd]
    try rfl
  · simp [updV, upd, hq]
theorem go_lastore {a N : Nat} {f : Nat → Int64} {i : Int32} {x : Int64} (hd : decode M.2.1 pc = .ok (.lastore, 1)) (ho : σ a = some (cJ Γ N f)) (hin : vp_in i N) (kk : Go Γ R M Q cells slots (pc + 1) lv st (sup σ a (cJ Γ N (vp_updL f i.toNatClampNeg x))) n) : Go Γ R M Q cells slots pc lv (.long x :: .int i :: .ref a :: st) σ n := by
  intro p e s m args below meth c H locs ls C W0 S0 L0
  obtain ⟨⟨hx, hb, hml, hown, hts⟩, hr, hlk, hnm, htb, htr, hK, hlo⟩ := id C
  refine W.last hx hb ((W0.one ho) 0 _ rfl) ((hK.1.2 1 _ rfl).1 N (fun j => .long (f j))) (fun q => by cases q) (by show ¬ (i < 0 ∨ (arrV _ _ _).slots.size ≤ _); rw [arrV_size]; exact hin) rfl rfl hd fun H1 e1 z oq => ?_
  refine kk p e s m args below meth c H1 _ ls C (W0.put ho z oq ?_) (S0.put z oq (W0.top ho)) L0
  show H1[a]? = some (vp_cell _ _)
  rw [e1]
  rw [vp_cell_l, vp_cell_l, arrV_store]
  congr 2
  funext q
  by_cases hq : q = i.toNatClampNeg
  · subst hq
    simp [updV, vp_updL]
    try rfl
  · simp [updV, vp_updL, hq]
theorem go_zastore {a N : Nat} {f : Nat → Int32} {i : Int32} {x : Int32} (hd : decode M.2.1 pc = .ok (.bastore, 1)) (ho : σ a = some (cZ Γ N f)) (hin : vp_in i N) (kk : Go Γ R M Q cells slots (pc + 1) lv st (sup σ a (cZ Γ N (upd f i.toNatClampNeg (vp_nar .boolean x)))) n) : Go Γ R M Q cells slots pc lv (.int x :: .int i :: .ref a :: st) σ n := by
  intro p e s m args below meth c H locs ls C W0 S0 L0
  obtain ⟨⟨hx, hb, hml, hown, hts⟩, hr, hlk, hnm, htb, htr, hK, hlo⟩ := id C
  refine W.zast hx hb ((W0.one ho) 0 _ rfl) ((hK.1.2 2 _ rfl).1 N (fun j => .int (f j))) (fun q => by cases q) (by show ¬ (i < 0 ∨ (arrV _ _ _).slots.size ≤ _); rw [arrV_size]; exact hin) rfl rfl hd fun H1 e1 z oq => ?_
  refine kk p e s m args below meth c H1 _ ls C (W0.put ho z oq ?_) (S0.put z oq (W0.top ho)) L0
  show H1[a]? = some (vp_cell _ _)
  rw [e1]
  rw [vp_cell_i, vp_cell_i, arrV_store]
  congr 2
  funext q
  by_cases hq : q = i.toNatClampNeg
  · subst hq
    simp [updV, upd, vp_nar]
    try rfl
  · simp [updV, upd, vp_nar, hq]
theorem go_aastore {a k N v ci : Nat} {r : vw_C} {vs : List Value} {f : Nat → Option Nat} {i : Int32} (hd : decode M.2.1 pc = .ok (.aastore, 1)) (ho : σ a = some (cR Γ k N f)) (hk : (gty Γ)[k]? = some (gA Γ k, .object r.1)) (hv : σ v = some (cO ci vs)) (hc : cls_[ci]? = some r) (hin : vp_in i N) (kk : Go Γ R M Q cells slots (pc + 1) lv st (sup σ a (cR Γ k N (va_up f i.toNatClampNeg (some v)))) n) : Go Γ R M Q cells slots pc lv (.ref v :: .int i :: .ref a :: st) σ n := by
  intro p e s m args below meth c H locs ls C W0 S0 L0
  obtain ⟨⟨hx, hb, hml, hown, hts⟩, hr, hlk, hnm, htb, htr, hK, hlo⟩ := id C
  have hlt : i.toNatClampNeg < N := Nat.not_le.mp fun q => hin (Or.inr q)
  have h0 : ¬ i < 0 := fun q => hin (Or.inl q)
  obtain ⟨r', hr', cellV, g1, g2, g3, -⟩ := (W0.2.2.2 v _ hv).2.2
  have hcls := (hK.1.1 ci r hc).2
  obtain ⟨kA, comp, k1, k2, k3, -⟩ := (hK.1.2 k _ hk).2
  have hcomp : comp = (gD Γ).1 ci := Option.some.inj (k3.symm.trans hcls.1)
  subst hcomp
  obtain ⟨kC, hkC, -⟩ := hcls.2
  refine W.aast hx hb ((W0.one ho) 0 _ rfl) (fun q h => by cases h) (fun h => by cases h) k1 k2 rfl hkC ⟨h0, by show _ < (arrV _ _ _).slots.size; rw [arrV_size]; exact hlt⟩ g1 (fun q h => by rw [g3] at h; cases h) (by rw [g2]; exact hkC) (by rw [g2]; exact va_assign hcls) rfl rfl hd fun H1 e1 z oq => ?_
  refine kk p e s m args below meth c H1 _ ls C (W0.put ho z oq ?_) (S0.put z oq (W0.top ho)) L0
  show H1[a]? = some (vp_cell _ _)
  rw [e1]
  rw [vp_cell_q, vp_cell_q, arrV_store]
  congr 2
  funext q
  by_cases hq : q = i.toNatClampNeg
  · subst hq
    simp [updV, va_up, va_rf]
  · simp [updV, va_up, hq]
theorem go_newI {x : Int32} {N : Nat} (hd : decode M.2.1 pc = .ok (.newarray .int, 2)) (hn : ¬ x < 0) (hN : x.toNatClampNeg = N) (hby : N * componentBytes (newarray.typeOf .int) ≤ 536870912) (hcc : cells + 1 ≤ R.cells) (hss : slots + N ≤ R.slots) (kk : Go Γ R M Q (cells + 1) (slots + N) (pc + 2) lv (.ref n :: st) (sup σ n (cI Γ N (fun _ => 0))) (n + 1)) : Go Γ R M Q cells slots pc lv (.int x :: st) σ n := by
  intro p e s m args below meth c H locs ls C W0 S0 L0
  obtain ⟨⟨hx, hb, hml, hown, hts⟩, hr, hlk, hnm, htb, htr, hK, hlo⟩ := id C
  refine va_newaK (atype := .int) hx hb (hts _ kw1_106) rfl hd rfl hn hN hby hcc hss W0.1 fun H1 cA e1 z1 o1 hAr hNm => ?_
  have hcA : cA = gA Γ 0 := by
    have h9 := (hK.1.2 0 _ rfl).2
    exact Option.some.inj (hNm.symm.trans h9)
  subst hcA
  refine kk p e s m args below meth c H1 locs ls C (W0.push (by rw [W0.1]; exact z1) (fun q hq => o1 q (by rw [← W0.1]; exact hq)) ?_) (vaS_new S0 (by rw [W0.1]; exact z1) (fun q hq => o1 q (by rw [← W0.1]; exact hq))) L0
  show H1[n]? = some (vp_cell _ _)
  rw [e1]
  rfl
theorem go_newJ {x : Int32} {N : Nat} (hd : decode M.2.1 pc = .ok (.newarray .long, 2)) (hn : ¬ x < 0) (hN : x.toNatClampNeg = N) (hby : N * componentBytes (newarray.typeOf .long) ≤ 536870912) (hcc : cells + 1 ≤ R.cells) (hss : slots + N ≤ R.slots) (kk : Go Γ R M Q (cells + 1) (slots + N) (pc + 2) lv (.ref n :: st) (sup σ n (cJ Γ N (fun _ => 0))) (n + 1)) : Go Γ R M Q cells slots pc lv (.int x :: st) σ n := by
  intro p e s m args below meth c H locs ls C W0 S0 L0
  obtain ⟨⟨hx, hb, hml, hown, hts⟩, hr, hlk, hnm, htb, htr, hK, hlo⟩ := id C
  refine va_newaK (atype := .long) hx hb (hts _ kw1_225) rfl hd rfl hn hN hby hcc hss W0.1 fun H1 cA e1 z1 o1 hAr hNm => ?_
  have hcA : cA = gA Γ 1 := by
    have h9 := (hK.1.2 1 _ rfl).2
    exact Option.some.inj (hNm.symm.trans h9)
  subst hcA
  refine kk p e s m args below meth c H1 locs ls C (W0.push (by rw [W0.1]; exact z1) (fun q hq => o1 q (by rw [← W0.1]; exact hq)) ?_) (vaS_new S0 (by rw [W0.1]; exact z1) (fun q hq => o1 q (by rw [← W0.1]; exact hq))) L0
  show H1[n]? = some (vp_cell _ _)
  rw [e1]
  rfl
theorem go_newZ {x : Int32} {N : Nat} (hd : decode M.2.1 pc = .ok (.newarray .boolean, 2)) (hn : ¬ x < 0) (hN : x.toNatClampNeg = N) (hby : N * componentBytes (newarray.typeOf .boolean) ≤ 536870912) (hcc : cells + 1 ≤ R.cells) (hss : slots + N ≤ R.slots) (kk : Go Γ R M Q (cells + 1) (slots + N) (pc + 2) lv (.ref n :: st) (sup σ n (cZ Γ N (fun _ => 0))) (n + 1)) : Go Γ R M Q cells slots pc lv (.int x :: st) σ n := by
  intro p e s m args below meth c H locs ls C W0 S0 L0
  obtain ⟨⟨hx, hb, hml, hown, hts⟩, hr, hlk, hnm, htb, htr, hK, hlo⟩ := id C
  refine va_newaK (atype := .boolean) hx hb (hts _ kw6_150) rfl hd rfl hn hN hby hcc hss W0.1 fun H1 cA e1 z1 o1 hAr hNm => ?_
  have hcA : cA = gA Γ 2 := by
    have h9 := (hK.1.2 2 _ rfl).2
    exact Option.some.inj (hNm.symm.trans h9)
  subst hcA
  refine kk p e s m args below meth c H1 locs ls C (W0.push (by rw [W0.1]; exact z1) (fun q hq => o1 q (by rw [← W0.1]; exact hq)) ?_) (vaS_new S0 (by rw [W0.1]; exact z1) (fun q hq => o1 q (by rw [← W0.1]; exact hq))) L0
  show H1[n]? = some (vp_cell _ _)
  rw [e1]
  rfl
theorem go_newQ {x : Int32} {N ix k : Nat} {X : String} (hcl : Cond.classLink M.1.cls ix X ∈ tb) (hk : (gty Γ)[k]? = some (gA Γ k, .object X)) (hov : ∀ U : State, Kn Γ U → va_AO X U) (hd : decode M.2.1 pc = .ok (.anewarray ix, 3)) (hn : ¬ x < 0) (hN : x.toNatClampNeg = N) (hby : N * 4 ≤ 536870912) (hcc : cells + 1 ≤ R.cells) (hss : slots + N ≤ R.slots) (kk : Go Γ R M Q (cells + 1) (slots + N) (pc + 3) lv (.ref n :: st) (sup σ n (cR Γ k N (fun _ => none))) (n + 1)) : Go Γ R M Q cells slots pc lv (.int x :: st) σ n := by
  intro p e s m args below meth c H locs ls C W0 S0 L0
  obtain ⟨⟨hx, hb, hml, hown, hts⟩, hr, hlk, hnm, htb, htr, hK, hlo⟩ := id C
  subst hN
  refine W.anew hx hb hown (hts _ hcl) (va_AO.use (hov s hK)) rfl hd rfl hn hby hcc hss fun cA kA comp f1 f2 f3 f4 => ?_
  have hcA : cA = gA Γ k := by
    obtain ⟨kA', comp', -, -, -, h9⟩ := (hK.1.2 k _ hk).2
    first | exact Option.some.inj (f1.symm.trans h9) | exact Option.some.inj (f2.symm.trans h9) | exact Option.some.inj (f3.symm.trans h9)
  subst hcA
  generalize hH1 : H.push ({ cls := gA Γ k, slots := Array.replicate x.toNatClampNeg .null, vm := .none } : Cell) = H1
  have z1 : H1.size = H.size + 1 := by rw [← hH1, Array.size_push]
  have e1 : H1[H.size]? = some (arrV (gA Γ k) x.toNatClampNeg (fun _ => .null)) := by rw [← hH1, Array.getElem?_push_size, ← arrV_new]
  have o1 : ∀ q : Nat, q < H.size → H1[q]? = H[q]? := fun q hq => by rw [← hH1, Array.getElem?_push, if_neg (Nat.ne_of_lt hq)]
  rw [W0.1]
  refine kk p e s m args below meth c H1 locs ls C (W0.push z1 o1 ?_) (vaS_new S0 z1 o1) L0
  show H1[n]? = some (vp_cell _ _)
  rw [← W0.1, e1]
  rfl
theorem go_new {ix ci N : Nat} {K : String} {T : u_T} {fs : List Value} (hn : nLk M.1.cls ix K N) (hc : cls_[ci]? = some (K, T, N)) (hfs : ∀ j, j < N → ∀ ty, parseFieldDescriptor (T j).2.2.1 = some ty → defaultValue ty = vp_V fs j) (hd : decode M.2.1 pc = .ok (.new ix, 3)) (hcc : cells + 1 ≤ R.cells) (hss : slots + N ≤ R.slots) (kk : Go Γ R M Q (cells + 1) (slots + N) (pc + 3) lv (.ref n :: st) (sup σ n (cO ci fs)) (n + 1)) : Go Γ R M Q cells slots pc lv st σ n := by
  intro p e s m args below meth c H locs ls C W0 S0 L0
  obtain ⟨⟨hx, hb, hml, hown, hts⟩, hr, hlk, hnm, htb, htr, hK, hlo⟩ := id C
  obtain ⟨hin, ty0, hty, hnm0⟩ := cls_ok hc
  have hKn := hK.1.1 ci _ hc
  refine W.newcK hx hb hown (hts _ hn.1) (hts _ hn.2.1) (hts _ hn.2.2) rfl hd hcc hss hKn.2.1 W0.1 fun H1 kC hkC e1 z1 o1 => ?_
  exact kk p e s m args below meth c H1 locs ls C (W0.push (by rw [W0.1]; exact z1) (fun q hq => o1 q (by rw [← W0.1]; exact hq)) ⟨_, hc, (u_born ty0 hts hin hKn hkC e1 hty).to (fun j hj => hfs j hj _ (hty j hj))⟩) (vaS_new S0 (by rw [W0.1]; exact z1) (fun q hq => o1 q (by rw [← W0.1]; exact hq))) L0
theorem go_iret {v : Int32} (ht : M.2.2.2.1 = some .int) (hd : decode M.2.1 pc = .ok (.ireturn, 1)) (hcc : cells ≤ R.cells) (hss : slots ≤ R.slots) (hq : Q (.inl (some (.int v))) σ n) : Go Γ R M Q cells slots pc lv ([.int v]) σ n := by
  intro p e s m args below meth c H locs ls C W0 S0 L0
  obtain ⟨⟨hx, hb, hml, hown, hts⟩, hr, hlk, hnm, htb, htr, hK, hlo⟩ := id C
  refine W.widen (k := R.cells) (n := R.slots) hcc hss (vx_ret ?_)
  exact W.iret hx hb (hr.trans ht) (fun t ht hW => ⟨some (.int v), σ, n, rfl, hq, by rw [ht]; exact W0, S0.F ht⟩) S0.2.2 hd hlk
theorem go_zret {v : Int32} {ty : FieldType} (ht : M.2.2.2.1 = some ty) (hz : narrow ty (.int v) = .int v) (hd : decode M.2.1 pc = .ok (.ireturn, 1)) (hcc : cells ≤ R.cells) (hss : slots ≤ R.slots) (hq : Q (.inl (some (.int v))) σ n) : Go Γ R M Q cells slots pc lv ([.int v]) σ n := by
  intro p e s m args below meth c H locs ls C W0 S0 L0
  obtain ⟨⟨hx, hb, hml, hown, hts⟩, hr, hlk, hnm, htb, htr, hK, hlo⟩ := id C
  refine W.widen (k := R.cells) (n := R.slots) hcc hss (vx_ret ?_)
  exact W.zret hx hb (hr.trans ht) hz (fun t ht hW => ⟨some (.int v), σ, n, rfl, hq, by rw [ht]; exact W0, S0.F ht⟩) S0.2.2 hd hlk
theorem go_lret {v : Int64} (ht : M.2.2.2.1 = some .long) (hd : decode M.2.1 pc = .ok (.lreturn, 1)) (hcc : cells ≤ R.cells) (hss : slots ≤ R.slots) (hq : Q (.inl (some (.long v))) σ n) : Go Γ R M Q cells slots pc lv ([.long v]) σ n := by
  intro p e s m args below meth c H locs ls C W0 S0 L0
  obtain ⟨⟨hx, hb, hml, hown, hts⟩, hr, hlk, hnm, htb, htr, hK, hlo⟩ := id C
  refine W.widen (k := R.cells) (n := R.slots) hcc hss (vx_ret ?_)
  exact W.lret hx hb (hr.trans ht) (fun t ht hW => ⟨some (.long v), σ, n, rfl, hq, by rw [ht]; exact W0, S0.F ht⟩) S0.2.2 hd hlk
theorem go_vret  (ht : M.2.2.2.1 = none) (hd : decode M.2.1 pc = .ok (.return_, 1)) (hcc : cells ≤ R.cells) (hss : slots ≤ R.slots) (hq : Q (.inl (none)) σ n) : Go Γ R M Q cells slots pc lv ([]) σ n := by
  intro p e s m args below meth c H locs ls C W0 S0 L0
  obtain ⟨⟨hx, hb, hml, hown, hts⟩, hr, hlk, hnm, htb, htr, hK, hlo⟩ := id C
  refine W.widen (k := R.cells) (n := R.slots) hcc hss (vx_ret ?_)
  exact W.vret hx hb (hr.trans ht) (fun t ht hW => ⟨none, σ, n, rfl, hq, by rw [ht]; exact W0, S0.F ht⟩) S0.2.2 hd hlk
theorem go_aret {a : Nat} {rt : FieldType} (ht : M.2.2.2.1 = some rt) (ho : (∃ z, rt = .object z) ∨ ∃ t, rt = .array t) (hd : decode M.2.1 pc = .ok (.areturn, 1)) (hcc : cells ≤ R.cells) (hss : slots ≤ R.slots) (hq : Q (.inl (some (.ref a))) σ n) : Go Γ R M Q cells slots pc lv ([.ref a]) σ n := by
  intro p e s m args below meth c H locs ls C W0 S0 L0
  obtain ⟨⟨hx, hb, hml, hown, hts⟩, hr, hlk, hnm, htb, htr, hK, hlo⟩ := id C
  refine W.widen (k := R.cells) (n := R.slots) hcc hss (vx_ret ?_)
  exact W.aret (v := .ref a) hx hb (hr.trans ht) ho (Or.inr ⟨a, rfl⟩) (fun t ht hW => ⟨some (.ref a), σ, n, rfl, hq, by rw [ht]; exact W0, S0.F ht⟩) S0.2.2 hd hlk
end GoHeap
def qI (X : Int32 → sto → Nat → Prop) : qp := fun o σ n => ∃ v, o = .inl (some (.int v)) ∧ X v σ n
def qL (X : Int64 → sto → Nat → Prop) : qp := fun o σ n => ∃ v, o = .inl (some (.long v)) ∧ X v σ n
def qA (X : Nat → sto → Nat → Prop) : qp := fun o σ n => ∃ v, o = .inl (some (.ref v)) ∧ X v σ n
def qV (X : sto → Nat → Prop) : qp := fun o σ n => o = .inl none ∧ X σ n
def qT (q : qp) (E : String → sto → Nat → Prop) : qp := fun o σ n => q o σ n ∨ ∃ x, o = .inr x ∧ E x σ n
/-- a pure answer: nothing changes -/
def qP (r : Int32) (σ : sto) (n : Nat) : qp := qI fun v σ' n' => v = r ∧ σ' = σ ∧ n' = n
def qPL (r : Int64) (σ : sto) (n : Nat) : qp := qL fun v σ' n' => v = r ∧ σ' = σ ∧ n' = n
section GoRet
variable {Γ : gam} {R : Room} {M : mth} {cells slots pc : Nat} {lv : List (Option Value)} {σ : sto} {n : Nat}
theorem go_iretP {v r : Int32} (ht : M.2.2.2.1 = some .int) (hd : decode M.2.1 pc = .ok (.ireturn, 1)) (hcc : cells ≤ R.cells) (hss : slots ≤ R.slots) (hq : v = r) : Go Γ R M (qP r σ n) cells slots pc lv [.int v] σ n := go_iret ht hd hcc hss ⟨v, rfl, hq, rfl, rfl⟩
theorem go_iretI {v : Int32} {X : Int32 → sto → Nat → Prop} (ht : M.2.2.2.1 = some .int) (hd : decode M.2.1 pc = .ok (.ireturn, 1)) (hcc : cells ≤ R.cells) (hss : slots ≤ R.slots) (hq : X v σ n) : Go Γ R M (qI X) cells slots pc lv [.int v] σ n := go_iret ht hd hcc hss ⟨v, rfl, hq⟩
theorem go_iretT {v : Int32} {X : Int32 → sto → Nat → Prop} {E : String → sto → Nat → Prop} (ht : M.2.2.2.1 = some .int) (hd : decode M.2.1 pc = .ok (.ireturn, 1)) (hcc : cells ≤ R.cells) (hss : slots ≤ R.slots) (hq : X v σ n) : Go Γ R M (qT (qI X) E) cells slots pc lv [.int v] σ n := go_iret ht hd hcc hss (Or.inl ⟨v, rfl, hq⟩)
theorem go_zretP {v r : Int32} {ty : FieldType} (ht : M.2.2.2.1 = some ty) (hz : narrow ty (.int v) = .int v) (hd : decode M.2.1 pc = .ok (.ireturn, 1)) (hcc : cells ≤ R.cells) (hss : slots ≤ R.slots) (hq : v = r) : Go Γ R M (qP r σ n) cells slots pc lv [.int v] σ n := go_zret ht hz hd hcc hss ⟨v, rfl, hq, rfl, rfl⟩
theorem go_zretI {v : Int32} {X : Int32 → sto → Nat → Prop} {ty : FieldType} (ht : M.2.2.2.1 = some ty) (hz : narrow ty (.int v) = .int v) (hd : decode M.2.1 pc = .ok (.ireturn, 1)) (hcc : cells ≤ R.cells) (hss : slots ≤ R.slots) (hq : X v σ n) : Go Γ R M (qI X) cells slots pc lv [.int v] σ n := go_zret ht hz hd hcc hss ⟨v, rfl, hq⟩
theorem go_zretT {v : Int32} {X : Int32 → sto → Nat → Prop} {E : String → sto → Nat → Prop} {ty : FieldType} (ht : M.2.2.2.1 = some ty) (hz : narrow ty (.int v) = .int v) (hd : decode M.2.1 pc = .ok (.ireturn, 1)) (hcc : cells ≤ R.cells) (hss : slots ≤ R.slots) (hq : X v σ n) : Go Γ R M (qT (qI X) E) cells slots pc lv [.int v] σ n := go_zret ht hz hd hcc hss (Or.inl ⟨v, rfl, hq⟩)
theorem go_lretP {v r : Int64} (ht : M.2.2.2.1 = some .long) (hd : decode M.2.1 pc = .ok (.lreturn, 1)) (hcc : cells ≤ R.cells) (hss : slots ≤ R.slots) (hq : v = r) : Go Γ R M (qPL r σ n) cells slots pc lv [.long v] σ n := go_lret ht hd hcc hss ⟨v, rfl, hq, rfl, rfl⟩
theorem go_lretI {v : Int64} {X : Int64 → sto → Nat → Prop} (ht : M.2.2.2.1 = some .long) (hd : decode M.2.1 pc = .ok (.lreturn, 1)) (hcc : cells ≤ R.cells) (hss : slots ≤ R.slots) (hq : X v σ n) : Go Γ R M (qL X) cells slots pc lv [.long v] σ n := go_lret ht hd hcc hss ⟨v, rfl, hq⟩
theorem go_lretT {v : Int64} {X : Int64 → sto → Nat → Prop} {E : String → sto → Nat → Prop} (ht : M.2.2.2.1 = some .long) (hd : decode M.2.1 pc = .ok (.lreturn, 1)) (hcc : cells ≤ R.cells) (hss : slots ≤ R.slots) (hq : X v σ n) : Go Γ R M (qT (qL X) E) cells slots pc lv [.long v] σ n := go_lret ht hd hcc hss (Or.inl ⟨v, rfl, hq⟩)
theorem go_vretV {X : sto → Nat → Prop} (ht : M.2.2.2.1 = none) (hd : decode M.2.1 pc = .ok (.return_, 1)) (hcc : cells ≤ R.cells) (hss : slots ≤ R.slots) (hq : X σ n) : Go Γ R M (qV X) cells slots pc lv [] σ n := go_vret ht hd hcc hss ⟨rfl, hq⟩
theorem go_vretT {X : sto → Nat → Prop} {E : String → sto → Nat → Prop} (ht : M.2.2.2.1 = none) (hd : decode M.2.1 pc = .ok (.return_, 1)) (hcc : cells ≤ R.cells) (hss : slots ≤ R.slots) (hq : X σ n) : Go Γ R M (qT (qV X) E) cells slots pc lv [] σ n := go_vret ht hd hcc hss (Or.inl ⟨rfl, hq⟩)
theorem go_aretA {a : Nat} {rt : FieldType} {X : Nat → sto → Nat → Prop} (ht : M.2.2.2.1 = some rt) (ho : (∃ z, rt = .object z) ∨ ∃ t, rt = .array t) (hd : decode M.2.1 pc = .ok (.areturn, 1)) (hcc : cells ≤ R.cells) (hss : slots ≤ R.slots) (hq : X a σ n) : Go Γ R M (qA X) cells slots pc lv [.ref a] σ n := go_aret ht ho hd hcc hss ⟨a, rfl, hq⟩
end GoRet
