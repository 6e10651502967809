/-! ===== contracts and calls ===== -/
def Sp (Γ : gam) (R : Room) (M : mth) (as : List Value) (σ : sto) (n : Nat) (Q : qp) : Prop :=
  vx_Met (gL Γ) M.1 (mcw M :: tb) R (fun v U => v = as.toArray ∧ Wd Γ σ n U.heap ∧ Kn Γ U ∧ (gL Γ).stackTraces = false) (gQ Γ Q) (gX Γ Q) R.cells R.slots (gtop Γ)
def rmk (k c s : Nat) : Room := { frames := k, cells := c, slots := s, locals := 40 * k }
theorem rm_ok {k k' c c' s s' nL : Nat} (h : nL ≤ 21) (h2 : k' + 1 ≤ k) : (rmk k' c' s').frames + 1 ≤ (rmk k c s).frames ∧ 8 + (nL + 11) + (rmk k' c' s').locals ≤ (rmk k c s).locals := by
  refine ⟨h2, ?_⟩
  show 8 + (nL + 11) + 40 * k' ≤ 40 * k
  omega
theorem Wd.lowS {Γ : gam} {σ : sto} {n : Nat} {s : State} (h : Wd Γ σ n s.heap) : lowS Γ s := ⟨by rw [h.1]; exact h.2.1, h.2.2.1⟩
theorem sp_intro {Γ : gam} {R : Room} {M : mth} {as : List Value} {σ : sto} {n : Nat} {Q : qp} (lv : List (Option Value)) (hp : plainName M.1.cls = true) (hh : M.2.2.2.2 = []) (hl : (lg_sl as).length ≤ M.2.2.1) (hlv : lvl 0 lv = lv_args 0 as) (k : Go Γ R M Q 0 0 0 lv [] σ n) : Sp Γ R M as σ n Q := by
  refine vx_ofW (cc := M.2.1) (maxL := M.2.2.1) (ret := M.2.2.2.1) (ws' := tb) hp (by simp only [mcw, hh]) ?_
  intro p e s m args below meth c s₁ B hml hno hv
  obtain ⟨rfl, hW, hK, htr⟩ := hv
  have hts := atoms_spec (ws := mcw M :: tb) B.pre
  have hl0 := lv_entry as (n := M.2.2.1) hl
  rw [lg_entry_eq]
  have htb : c.exceptionTable.toList = tableOf M.2.2.2.2 := by
    rw [hh]
    exact List.eq_nil_iff_forall_not_mem.mpr fun x hx => hno x hx
  exact k p e s m _ below meth c s.heap [] _ ⟨⟨B.exec, B.bytes, hml, findClass_of_methodNamed B.named, fun w hw => hts w (List.mem_cons_of_mem _ hw)⟩, B.returns, B.notSynchronized, (name_of_methodNamed B.named B.method).1, htb, htr, hK, hW.lowS⟩ hW va_S.rf (by rw [hlv]; exact hl0)
theorem sp_introH {Γ : gam} {R : Room} {M : mth} {as : List Value} {σ : sto} {n : Nat} {Q : qp} (lv : List (Option Value)) (hp : plainName M.1.cls = true) (hh : mcw M = Cond.codeWith M.1 M.2.1 M.2.2.1 M.2.2.2.1 M.2.2.2.2) (hl : (lg_sl as).length ≤ M.2.2.1) (hlv : lvl 0 lv = lv_args 0 as) (k : Go Γ R M Q 0 0 0 lv [] σ n) : Sp Γ R M as σ n Q := by
  refine vx_ofWH (cc := M.2.1) (maxL := M.2.2.1) (ret := M.2.2.2.1) (hh := M.2.2.2.2) (ws' := tb) hp (by rw [hh]) ?_
  intro p e s m args below meth c s₁ B hml hv
  obtain ⟨rfl, hW, hK, htr⟩ := hv
  have hts := atoms_spec (ws := mcw M :: tb) B.pre
  have hl0 := lv_entry as (n := M.2.2.1) hl
  rw [lg_entry_eq]
  have htb : c.exceptionTable.toList = tableOf M.2.2.2.2 := vx_table (x := M.1) B (by rw [← hh]; exact hts _ List.mem_cons_self)
  exact k p e s m _ below meth c s.heap [] _ ⟨⟨B.exec, B.bytes, hml, findClass_of_methodNamed B.named, fun w hw => hts w (List.mem_cons_of_mem _ hw)⟩, B.returns, B.notSynchronized, (name_of_methodNamed B.named B.method).1, htb, htr, hK, hW.lowS⟩ hW va_S.rf (by rw [hlv]; exact hl0)
theorem sp_mono {Γ : gam} {R : Room} {M : mth} {as : List Value} {σ : sto} {n : Nat} {Q Q' : qp} (h : Sp Γ R M as σ n Q) (hQ : ∀ o σ n, Q o σ n → Q' o σ n) : Sp Γ R M as σ n Q' := by
  intro p e ha hc hk s m args below hf hap hP hK
  obtain ⟨t, o, h1, h2, h3, h4⟩ := h p e ha hc hk s m args below hf hap hP hK
  refine ⟨t, o, h1, h2, h3, ?_⟩
  rcases h4 with ⟨⟨r, σ', n', e1, e2, e3⟩, e4⟩ | ⟨q, e1, E, ce, L, ⟨σ', n', e2, e3⟩, e4⟩
  · exact Or.inl ⟨⟨r, σ', n', e1, hQ _ _ _ e2, e3⟩, e4⟩
  · exact Or.inr ⟨q, e1, E, ce, L, ⟨σ', n', hQ _ _ _ e2, e3⟩, e4⟩
def rcv (Γ : gam) (σ : sto) (n b : Nat) (K : String) : Prop := ∀ (s : State) (H : Heap), Kn Γ s → Wd Γ σ n H → ∃ cell : Cell, H[b]? = some cell ∧ cell.vm.isStatics = false ∧ s.vm.findClass K = some cell.cls
theorem rcv_of {Γ : gam} {σ : sto} {n b ci N : Nat} {fs : List Value} {K : String} {T : u_T} (ho : σ b = some (cO ci fs)) (hc : cls_[ci]? = some (K, T, N)) : rcv Γ σ n b K := fun _ _ hK hW => va_recv (q0 := 0) hK.1 (hW.one ho) hc rfl
theorem gi_tb {w : Cond} (h : w ∈ tb) : GoodIn tb (w :: tb) := fun x hx => by
  rcases List.mem_cons.mp hx with h1 | h1
  · subst h1
    exact ⟨h, good_of_word (tb_good h)⟩
  · exact ⟨h1, good_of_word (tb_good h1)⟩
theorem fb_Pc {Γ : gam} {as : List Value} {σ : sto} {n : Nat} : FrameBlind (fun (v : Array Value) (U : State) => v = as.toArray ∧ Wd Γ σ n U.heap ∧ Kn Γ U ∧ (gL Γ).stackTraces = false) := fun a U g mk h => ⟨h.1, h.2.1, Kn.same (u := U) rfl h.2.2.1, h.2.2.2⟩
section GoCalls
variable {Γ : gam} {R R' : Room} {M M' : mth} {Q Q' : qp} {cells slots pc : Nat} {lv : List (Option Value)} {rest : List Value} {σ : sto} {n : Nat}
/-- behind a call: it returned, or it threw and nothing here catches it -/
theorem go_ran {st0 As : List Value} (hh : M.2.2.2.2 = []) (hC : cells + R'.cells ≤ R.cells ∧ slots + R'.slots ≤ R.slots)
    (hrun : ∀ (p : Program) (e : Env) (s : State) (m : MethodId) (args : Array Value) (below : List Frame) (meth : Method) (c : Code) (H : Heap) (locs : List Loc) (ls : Array Slot), cx Γ M p s m args meth c → Wd Γ σ n H → lv_has ls M.2.2.1 (lvl 0 lv) → vx_Run p (gL Γ) e R s m args below meth c H locs cells slots R'.cells R'.slots (F0 m pc ls st0) rest (gQ Γ Q' As.toArray) (gX Γ Q') (gtop Γ))
    (kr : ∀ r σ' n', Q' (.inl r) σ' n' → Go Γ R M Q (cells + R'.cells) (slots + R'.slots) (pc + 3) lv (r.toList ++ rest) σ' n') (kx : ∀ E σ' n', Q' (.inr E) σ' n' → Q (.inr E) σ' n') : Go Γ R M Q cells slots pc lv st0 σ n := by
  intro p e s m args below meth c H locs ls C W0 S0 L0
  obtain ⟨⟨hx, hb, hml, hown, hts⟩, hr, hlk, hnm, htb, htr, hK, hlo⟩ := id C
  have hr0 := hrun p e s m args below meth c H locs ls C W0 L0
  intro T hT X
  rcases hr0 T hT X with ⟨v, st₀, t, T', L, h0, X', hL, e1, e2, ⟨r, σ', n', hq1, hq2, hq3, hF⟩, stp⟩ | ⟨q, st₀, t, T', L, E, ce, h0, X', hL, e1, e2, ⟨σ', n', hq2, hq3, hF⟩, hce, hcv, hcl, stp⟩
  · cases hq1
    obtain ⟨-, -, hS⟩ := vx_keep h0 e1 S0 (fun _ _ h => h) (fun _ h => h) hL hF
    obtain ⟨t2, a1, b1⟩ := kr v σ' n' hq2 p e s m args below meth c T'.heap (locs ++ L) ls C (by rw [e1]; exact hq3) hS L0 T' rfl X'
    exact ⟨t2, stp t2 a1, b1⟩
  · obtain ⟨-, -, hS⟩ := vx_keep h0 e1 S0 (fun _ _ h => h) (fun _ h => h) hL hF
    have hout : ∀ x ∈ c.exceptionTable.toList, covers x pc = false := fun x hx0 => by
      rw [htb, hh] at hx0
      cases hx0
    obtain ⟨t2, a1, b1⟩ := vx_out (Qc := gQ Γ Q) (XC := gX Γ Q) (free := gtop Γ) (ls := ls) (rest := rest) (pc := pc) (H := T'.heap) (locs := locs ++ L) (cells := cells + R'.cells) (slots := slots + R'.slots) (mc := R.cells) (ms := R.slots) (R := R) (e := e) (p := p) (l := gL Γ) (m := m) (args := args) (below := below) (E := E) (ce := ce) (q := q) hout hlk (by rw [e1]; exact hce) hcv hcl (fun t3 h3 _ => ⟨σ', n', kx E σ' n' hq2, by rw [h3, e1]; exact hq3, hS.F h3⟩) hS.2.2 hC.1 hC.2 T' rfl X'
    exact ⟨t2, stp.trans a1, b1⟩
theorem go_cv {ix na b : Nat} {As : List Value} (hv : vLk M.1.cls ix M' na) (hm : M'.2.2.2.2 = []) (hn : As.length = na) (hh : M.2.2.2.2 = []) (hrv : rcv Γ σ n b M'.1.cls) (hd : decode M.2.1 pc = .ok (.invokevirtual ix, 3)) (sp : Sp Γ R' M' (.ref b :: As) σ n Q')
    (hR : R'.frames + 1 ≤ R.frames ∧ 8 + (M'.2.2.1 + 11) + R'.locals ≤ R.locals) (hC : cells + R'.cells ≤ R.cells ∧ slots + R'.slots ≤ R.slots) (hst : (rest.map fun v => v.category).sum ≤ 8)
    (kr : ∀ r σ' n', Q' (.inl r) σ' n' → Go Γ R M Q (cells + R'.cells) (slots + R'.slots) (pc + 3) lv (r.toList ++ rest) σ' n') (kx : ∀ E σ' n', Q' (.inr E) σ' n' → Q (.inr E) σ' n') : Go Γ R M Q cells slots pc lv (As.reverse ++ .ref b :: rest) σ n := by
  refine go_ran (As := .ref b :: As) hh hC ?_ kr kx
  intro p e s m args below meth c H locs ls C W0 L0
  obtain ⟨⟨hx, hb, hml, hown, hts⟩, hr, hlk, hnm, htb, htr, hK, hlo⟩ := id C
  obtain ⟨l1, l2, l3, l4, l5, l6⟩ := hv
  exact vx_runV (Ts := tb) (own := M.1.cls) (C := M'.1.cls) ⟨hx, hb, hml, hown, hts⟩ sp ⟨callB_of (bytes := M'.2.1) (maxL := M'.2.2.1) (ret := M'.2.2.2.1) (ws' := tb) na hts (gi_tb l5) (by simp only [mcw, hm]) rfl rfl (hts _ l4) (hts _ l1) ⟨l6.1.1, l6.1.2, l6.2⟩ hR, hts _ l2, hts _ l3⟩ ⟨fb_Pc, hrv s H hK W0, fun U hU hW => ⟨rfl, by rw [hU]; exact W0, hK.warm hW, htr⟩⟩ rfl hn L0.1 rfl (lv_room hst) hd hC
theorem go_cs {ix na : Nat} {As : List Value} (hv : sLk M.1.cls ix M' na) (hm : M'.2.2.2.2 = []) (hn : As.length = na) (hh : M.2.2.2.2 = []) (hd : decode M.2.1 pc = .ok (.invokestatic ix, 3)) (sp : Sp Γ R' M' As σ n Q')
    (hR : R'.frames + 1 ≤ R.frames ∧ 8 + (M'.2.2.1 + 11) + R'.locals ≤ R.locals) (hC : cells + R'.cells ≤ R.cells ∧ slots + R'.slots ≤ R.slots) (hst : (rest.map fun v => v.category).sum ≤ 8)
    (kr : ∀ r σ' n', Q' (.inl r) σ' n' → Go Γ R M Q (cells + R'.cells) (slots + R'.slots) (pc + 3) lv (r.toList ++ rest) σ' n') (kx : ∀ E σ' n', Q' (.inr E) σ' n' → Q (.inr E) σ' n') : Go Γ R M Q cells slots pc lv (As.reverse ++ rest) σ n := by
  refine go_ran (As := As) hh hC ?_ kr kx
  intro p e s m args below meth c H locs ls C W0 L0
  obtain ⟨⟨hx, hb, hml, hown, hts⟩, hr, hlk, hnm, htb, htr, hK, hlo⟩ := id C
  obtain ⟨l1, l2, l4, l5, l6⟩ := hv
  exact vx_runS (Ts := tb) (own := M.1.cls) ⟨hx, hb, hml, hown, hts⟩ sp ⟨callB_of (bytes := M'.2.1) (maxL := M'.2.2.1) (ret := M'.2.2.2.1) (ws' := tb) na hts (gi_tb l5) (by simp only [mcw, hm]) rfl rfl (hts _ l4) (hts _ l1) ⟨l6.1.1, l6.1.2, l6.2⟩ hR, hts _ l2⟩ ⟨fb_Pc, fun U hU hW => ⟨rfl, by rw [hU]; exact W0, hK.warm hW, htr⟩⟩ rfl hn L0.1 rfl (lv_room hst) hd hC
/-- a method that throws nothing, in the kit's plain form -/
theorem sp_met {as : List Value} (sp : Sp Γ R' M' as σ n Q') (hno : ∀ E σ n, ¬ Q' (.inr E) σ n) : Met (gL Γ) M'.1 (mcw M' :: tb) R' (fun v U => v = as.toArray ∧ Wd Γ σ n U.heap ∧ Kn Γ U ∧ (gL Γ).stackTraces = false) (gQ Γ Q') R'.cells R'.slots (gtop Γ) := by
  intro p e ha hc hk s m args below hf hap hP hK
  obtain ⟨t, o, h1, h2, h3, h4⟩ := sp p e ha hc hk s m args below hf hap hP hK
  refine ⟨t, o, h1, h2, h3, ?_⟩
  rcases h4 with h4 | ⟨q, e1, E, ce, L, ⟨σ', n', e2, e3⟩, e4⟩
  · exact h4
  · exact absurd e2 (hno _ _ _)
theorem go_ranP {st0 As : List Value} (hrun : ∀ (p : Program) (e : Env) (s : State) (m : MethodId) (args : Array Value) (below : List Frame) (meth : Method) (c : Code) (H : Heap) (locs : List Loc) (ls : Array Slot), cx Γ M p s m args meth c → Wd Γ σ n H → lv_has ls M.2.2.1 (lvl 0 lv) → va_Run p (gL Γ) e R s m args below meth c H locs cells slots R'.cells R'.slots (F0 m pc ls st0) rest (gQ Γ Q' As.toArray) (gtop Γ))
    (kr : ∀ r σ' n', Q' (.inl r) σ' n' → Go Γ R M Q (cells + R'.cells) (slots + R'.slots) (pc + 3) lv (r.toList ++ rest) σ' n') : Go Γ R M Q cells slots pc lv st0 σ n := by
  intro p e s m args below meth c H locs ls C W0 S0 L0
  obtain ⟨⟨hx, hb, hml, hown, hts⟩, hr, hlk, hnm, htb, htr, hK, hlo⟩ := id C
  have hr0 := hrun p e s m args below meth c H locs ls C W0 L0
  intro T hT X
  obtain ⟨v, st₀, t, T', L, h0, X', hL, e1, e2, ⟨r, σ', n', hq1, hq2, hq3, hF⟩, stp⟩ := hr0 T hT X
  cases hq1
  obtain ⟨-, -, hS⟩ := vx_keep h0 e1 S0 (fun _ _ h => h) (fun _ h => h) hL hF
  obtain ⟨t2, a1, b1⟩ := kr v σ' n' hq2 p e s m args below meth c T'.heap (locs ++ L) ls C (by rw [e1]; exact hq3) hS L0 T' rfl X'
  exact ⟨t2, stp t2 a1, b1⟩
theorem go_ci {ix na b : Nat} {As : List Value} (hv : iLk M.1.cls ix M' na) (hm : M'.2.2.2.2 = []) (hret : M'.2.2.2.1 = none) (hn : As.length = na) (hd : decode M.2.1 pc = .ok (.invokespecial ix, 3)) (sp : Sp Γ R' M' (.ref b :: As) σ n Q') (hno : ∀ E σ n, ¬ Q' (.inr E) σ n)
    (hR : R'.frames + 1 ≤ R.frames ∧ 8 + (M'.2.2.1 + 11) + R'.locals ≤ R.locals) (hC : cells + R'.cells ≤ R.cells ∧ slots + R'.slots ≤ R.slots) (hst : (rest.map fun v => v.category).sum ≤ 8)
    (kr : ∀ r σ' n', Q' (.inl r) σ' n' → Go Γ R M Q (cells + R'.cells) (slots + R'.slots) (pc + 3) lv (r.toList ++ rest) σ' n') : Go Γ R M Q cells slots pc lv (As.reverse ++ .ref b :: rest) σ n := by
  refine go_ranP (As := .ref b :: As) ?_ kr
  intro p e s m args below meth c H locs ls C W0 L0
  obtain ⟨⟨hx, hb, hml, hown, hts⟩, hr, hlk, hnm, htb, htr, hK, hlo⟩ := id C
  obtain ⟨l1, l2, l4, l5, l6, l7⟩ := hv
  exact va_runI (Ts := tb) (own := M.1.cls) ⟨hx, hb, hml, hown, hts⟩ (sp_met sp hno) ⟨callB_of (bytes := M'.2.1) (maxL := M'.2.2.1) (ret := none) (ws' := tb) na hts (gi_tb l5) (by simp only [mcw, hm, hret]) rfl rfl (hts _ l4) (hts _ l1) ⟨l6.1.1, l6.1.2, l6.2⟩ hR, l7, hts _ l2⟩ ⟨fb_Pc, fun U hU hW => ⟨rfl, by rw [hU]; exact W0, hK.warm hW, htr⟩⟩ rfl hn L0.1 rfl (lv_room hst) hd hC
theorem go_obj {ix a : Nat} (hl : Cond.methodLink M.1.cls ix objectInit ∈ tb) (hin : Cond.instanceMethod objectInit ∈ tb) (hco : Cond.code objectInit ⟨#[0xb1]⟩ 1 none ∈ tb) (hd : decode M.2.1 pc = .ok (.invokespecial ix, 3)) (hf : 1 ≤ R.frames) (hlo9 : (rest.map fun v => v.category).sum + 12 ≤ R.locals) (kk : Go Γ R M Q cells slots (pc + 3) lv rest σ n) : Go Γ R M Q cells slots pc lv (.ref a :: rest) σ n := by
  intro p e s m args below meth c H locs ls C W0 S0 L0
  obtain ⟨⟨hx, hb, hml, hown, hts⟩, hr, hlk, hnm, htb, htr, hK, hlo⟩ := id C
  refine W.objInit hx hb hown (hts _ hl) (hts _ hin) (hts _ hco) rfl (by rw [hml]; exact L0.1) rfl hd hf ?_ ?_
  · show 2 * 0 + _ + 12 ≤ _
    omega
  · exact kk p e s m args below meth c H locs ls C W0 S0 L0
end GoCalls
