/-! ===== a call inside a try ===== -/
/-- the method's rows take an E that is thrown at pc, at hp -/
def hnd (M : mth) (pc : Nat) (E : String) (hp : Nat) : Prop := E ∈ eN ∧ ∃ (pre : List (Nat × Nat × Nat × Nat)) (x : Nat × Nat × Nat × Nat) (rest : List (Nat × Nat × Nat × Nat)), M.2.2.2.2 = pre ++ x :: rest ∧ (x.1 ≤ pc ∧ pc < x.2.1) ∧ x.2.2.2 ≠ 0 ∧ Cond.classLink M.1.cls x.2.2.2 E ∈ tb ∧ x.2.2.1 = hp ∧ ∀ y ∈ pre, (y.1 ≤ pc ∧ pc < y.2.1) ∧ y.2.2.2 ≠ 0 ∧ ∃ F, F ∈ eN ∧ E ≠ F ∧ Cond.classLink M.1.cls y.2.2.2 F ∈ tb
section TryGo
variable {Γ : gam} {R R' : Room} {M M' : mth} {Q Q' : qp} {cells slots pc : Nat} {lv : List (Option Value)} {rest : List Value} {σ : sto} {n : Nat}
theorem go_ranH {st0 As : List Value} (hC : cells + R'.cells ≤ R.cells ∧ slots + R'.slots ≤ R.slots)
    (hrun : ∀ (p : Program) (e : Env) (s : State) (m : MethodId) (args : Array Value) (below : List Frame) (meth : Method) (c : Code) (H : Heap) (locs : List Loc) (ls : Array Slot), cx Γ M p s m args meth c → Wd Γ σ n H → lv_has ls M.2.2.1 (lvl 0 lv) → vx_Run p (gL Γ) e R s m args below meth c H locs cells slots R'.cells R'.slots (F0 m pc ls st0) rest (gQ Γ Q' As.toArray) (gX Γ Q') (gtop Γ))
    (kr : ∀ r σ' n', Q' (.inl r) σ' n' → Go Γ R M Q (cells + R'.cells) (slots + R'.slots) (pc + 3) lv (r.toList ++ rest) σ' n') (kx : ∀ E σ' n', Q' (.inr E) σ' n' → ∃ hp, hnd M pc E hp ∧ ∀ q, Go Γ R M Q (cells + R'.cells) (slots + R'.slots) hp lv [.ref q] σ' n') : Go Γ R M Q cells slots pc lv st0 σ n := by
  intro p e s m args below meth c H locs ls C W0 S0 L0
  obtain ⟨⟨hx, hb, hml, hown, hts⟩, hr, hlk, hnm, htb, htr, hK, hlo⟩ := id C
  have hr0 := hrun p e s m args below meth c H locs ls C W0 L0
  intro T hT X
  rcases hr0 T hT X with ⟨v, st₀, t, T', L, h0, X', hL, e1, e2, ⟨r, σ', n', hq1, hq2, hq3, hF⟩, stp⟩ | ⟨q, st₀, t, T', L, E, ce, h0, X', hL, e1, e2, ⟨σ', n', hq2, hq3, hF⟩, hce, hcv, hcl, stp⟩
  · cases hq1
    obtain ⟨-, -, hS⟩ := vx_keep h0 e1 S0 (fun _ _ h => h) (fun _ h => h) hL hF
    obtain ⟨t2, a1, b1⟩ := kr v σ' n' hq2 p e s m args below meth c T'.heap (locs ++ L) ls C (by rw [e1]; exact hq3) hS L0 T' rfl X'
    exact ⟨t2, stp t2 a1, b1⟩
  · obtain ⟨-, -, hS⟩ := vx_keep h0 e1 S0 (fun _ _ h => h) (fun _ h => h) hL hF
    obtain ⟨hp, ⟨hEn, pre, x, rs, hsp, hcov, hz, hlk2, hhp, hpre⟩, hgo⟩ := kx E σ' n' hq2
    have hsp2 : c.exceptionTable.toList = tableOf pre ++ (⟨x.1, x.2.1, x.2.2.1, x.2.2.2⟩ : ExceptionTableEntry) :: tableOf rs := by
      rw [htb, hsp]
      simp [tableOf]
    have hpre2 : ∀ y ∈ tableOf pre, covers y (F0 m pc ls rest).pc = true ∧ y.catchType ≠ 0 ∧ ∃ F, (Cond.classLink M.1.cls y.catchType F).before args s = true ∧ va_Nc E F s := by
      intro y hy
      obtain ⟨y0, hy0, rfl⟩ := List.mem_map.mp hy
      obtain ⟨b1, b2, F, b3, b4, b5⟩ := hpre y0 hy0
      refine ⟨?_, b2, F, hts _ b5, hK.2.2.2.2.2.1 E hEn F b3 b4⟩
      show (decide (y0.1 ≤ pc) && decide (pc < y0.2.1)) = true
      rw [decide_eq_true b1.1, decide_eq_true b1.2]
      rfl
    obtain ⟨v, X2, st2⟩ := caught_in X' hown (by rw [e1]; exact hce) hcv hcl (g := F0 m pc ls rest) rfl hsp2 (by
      show (decide (x.1 ≤ pc) && decide (pc < x.2.1)) = true
      rw [decide_eq_true hcov.1, decide_eq_true hcov.2]
      rfl) hz (hts _ hlk2) hpre2
    obtain ⟨t2, a1, b1⟩ := hgo q p e s m args below meth c T'.heap (locs ++ L) ls C (by rw [e1]; exact hq3) hS L0 (T'.setVm v) rfl X2
    refine ⟨t2, stp.trans (st2 t2 ?_), b1⟩
    rw [hhp]
    exact a1
theorem go_cvH {ix na b : Nat} {As : List Value} (hv : vLk M.1.cls ix M' na) (hm : M'.2.2.2.2 = []) (hn : As.length = na) (hrv : rcv Γ σ n b M'.1.cls) (hd : decode M.2.1 pc = .ok (.invokevirtual ix, 3)) (sp : Sp Γ R' M' (.ref b :: As) σ n Q')
    (hR : R'.frames + 1 ≤ R.frames ∧ 8 + (M'.2.2.1 + 11) + R'.locals ≤ R.locals) (hC : cells + R'.cells ≤ R.cells ∧ slots + R'.slots ≤ R.slots) (hst : (rest.map fun v => v.category).sum ≤ 8)
    (kr : ∀ r σ' n', Q' (.inl r) σ' n' → Go Γ R M Q (cells + R'.cells) (slots + R'.slots) (pc + 3) lv (r.toList ++ rest) σ' n') (kx : ∀ E σ' n', Q' (.inr E) σ' n' → ∃ hp, hnd M pc E hp ∧ ∀ q, Go Γ R M Q (cells + R'.cells) (slots + R'.slots) hp lv [.ref q] σ' n') : Go Γ R M Q cells slots pc lv (As.reverse ++ .ref b :: rest) σ n := by
  refine go_ranH (As := .ref b :: As) hC ?_ kr kx
  intro p e s m args below meth c H locs ls C W0 L0
  obtain ⟨⟨hx, hb, hml, hown, hts⟩, hr, hlk, hnm, htb, htr, hK, hlo⟩ := id C
  obtain ⟨l1, l2, l3, l4, l5, l6⟩ := hv
  exact vx_runV (Ts := tb) (own := M.1.cls) (C := M'.1.cls) ⟨hx, hb, hml, hown, hts⟩ sp ⟨callB_of (bytes := M'.2.1) (maxL := M'.2.2.1) (ret := M'.2.2.2.1) (ws' := tb) na hts (gi_tb l5) (by simp only [mcw, hm]) rfl rfl (hts _ l4) (hts _ l1) ⟨l6.1.1, l6.1.2, l6.2⟩ hR, hts _ l2, hts _ l3⟩ ⟨fb_Pc, hrv s H hK W0, fun U hU hW => ⟨rfl, by rw [hU]; exact W0, hK.warm hW, htr⟩⟩ rfl hn L0.1 rfl (lv_room hst) hd hC
/-- cells and slots are only counted up to -/
theorem go_wide {c2 s2 : Nat} {st : List Value} (h1 : cells ≤ c2) (h2 : slots ≤ s2) (k : Go Γ R M Q c2 s2 pc lv st σ n) : Go Γ R M Q cells slots pc lv st σ n := by
  intro p e s m args below meth c H locs ls C W0 S0 L0
  exact W.widen (k := c2) (n := s2) h1 h2 (k p e s m args below meth c H locs ls C W0 S0 L0)
end TryGo
