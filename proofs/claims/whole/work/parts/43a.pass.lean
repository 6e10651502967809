/-! ===== the class: minutes, copies ===== -/
theorem LwV.sm {Γ : gam} {D : Nat} {ro : Nat → Nat} {σ : sto} {K K2 : row} {mn pl : Nat} {v : Value} (h : LwV Γ D ro σ K mn pl v) (hs : sameB K K2) (h1 : mn < 8) (h2 : 33 < pl) : LwV Γ D ro σ K2 mn pl v := by
  unfold LwV at *
  rw [hs mn (by omega), hs.code h1 h2]
  exact h
theorem BrAt.sm {Γ : gam} {D : Nat} {ro : Nat → Nat} {b : Nat} {σ : sto} {K K2 ag pa pf : row} {lm lt lw : Value} (h : BrAt Γ D ro σ b K ag pa pf lm lt lw) (hs : sameB K K2) : BrAt Γ D ro σ b K2 ag pa pf lm lt lw := by
  obtain ⟨h0, h1, h2, h3, h4, h5, h6, h7, h8⟩ := h
  refine ⟨h0, ?_, h2, h3, h4, h5.sm hs (by omega) (by omega), h6.sm hs (by omega) (by omega), h7.sm hs (by omega) (by omega), ?_⟩
  · rw [hs 1 (by omega), hs 2 (by omega), hs 3 (by omega), hs 0 (by omega), hs 42 (by omega)]
    exact h1
  · rw [hs.P]
    intro p hp
    rw [hs (34 + p) (by omega), hs (43 + p) (by omega), hs (51 + p) (by omega)]
    exact h8 p hp
theorem dn_tak {K : row} {i : Nat} {m : Int32} (h1 : upK K i = true) (h2 : ¬ K (24 + i) = -1) (h3 : K (24 + i) ≤ m) : (if upK K i = true ∧ K (24 + i) ≠ -1 ∧ K (24 + i) ≤ m ∧ freeK K (K (8 + i)) ≠ none then sitdK K i (K (8 + i)) else K) = takK K i (K (8 + i)) := by
  unfold takK
  by_cases e : freeK K (K (8 + i)) = none
  · rw [if_neg (fun h => h.2.2.2 e), if_pos e]
  · rw [if_pos ⟨h1, h2, h3, e⟩, if_neg e]
theorem bak_up {K : row} {i : Nat} (hg : gS K) (hi : i < kP K) (h : ¬ K (24 + i) = -1) : K (16 + i) = -1 := Decidable.not_not.mp fun hc => h (hg.2.2 i hi hc)
theorem rS_24 {K ch co rw bk : row} {p : Nat} {s : Int32} (h8 : kP K ≤ 8) (hp : p < 8) (h : rS K ch co rw bk) : rS (upd K (24 + p) s) ch co rw (upd bk p s) := by
  have hs : sameB K (upd K (24 + p) s) := sameB.rf.up (by omega)
  refine ⟨fun q hq => ?_, fun c w hc hw => ?_⟩
  · rw [hs.P] at hq
    obtain ⟨g1, g2, g3⟩ := h.1 q hq
    rw [pk_un (show 8 + q ≠ 24 + p by omega), pk_un (show 16 + q ≠ 24 + p by omega)]
    refine ⟨g1, g2, ?_⟩
    by_cases e : q = p
    · subst e
      rw [pk_us, pk_us]
    · rw [pk_un e, pk_un (by omega)]
      exact g3
  · rw [hs.W] at hc
    rw [hs.H] at hw
    rw [sit_24 h8 hp]
    exact h.2 c w hc hw
section CpGo
variable {Γ : gam} {R : Room} {M : mth} {Q : qp} {cells slots pc : Nat} {lv : List (Option Value)} {st : List Value} {σ : sto} {n a b a2 b2 : Nat} {ro : Nat → Nat} {w m w2 m2 : Int32} {ch co rw bk ch2 co2 rw2 bk2 : row}
theorem go_cp1 {ix : Nat} (hl : Cond.methodLink M.1.cls ix arraycopyName ∈ tb) (hR : SrAt Γ ro σ a b w m ch co rw bk) (hR2 : SrAt Γ ro σ a2 b2 w2 m2 ch2 co2 rw2 bk2) (hne : a + 4 < a2 ∨ a2 + 4 < a) (hd : decode M.2.1 pc = .ok (.invokestatic ix, 3)) (hfr : 1 ≤ R.frames) (hlo : (st.map fun v => v.category).sum + (nativeFrameWords "java/lang/System" "arraycopy" 5 + 11) ≤ R.locals) (kk : ∀ σ', SrAt Γ ro σ' a b w m (va_cpy ch2 ch 0 0 20) co rw bk → SrAt Γ ro σ' a2 b2 w2 m2 ch2 co2 rw2 bk2 → frC Γ ro a (a + 4) σ σ' → Go Γ R M Q cells slots (pc + 3) lv st σ' n) : Go Γ R M Q cells slots pc lv (.int 20 :: .int 0 :: .ref (a + 1) :: .int 0 :: .ref (a2 + 1) :: st) σ n :=
  go_copyI hl hd (sr1 hR2) (sr1 hR) (by decide) (by decide) (by decide) (by decide) (by decide) (kk _ hR.s1 (hR2.fr (frC.rf.up (lo := a) (hi := a + 4) ⟨by omega, by omega⟩) (by omega)) (frC.rf.up ⟨by omega, by omega⟩)) hfr hlo
theorem go_cp2 {ix : Nat} (hl : Cond.methodLink M.1.cls ix arraycopyName ∈ tb) (hR : SrAt Γ ro σ a b w m ch co rw bk) (hR2 : SrAt Γ ro σ a2 b2 w2 m2 ch2 co2 rw2 bk2) (hne : a + 4 < a2 ∨ a2 + 4 < a) (hd : decode M.2.1 pc = .ok (.invokestatic ix, 3)) (hfr : 1 ≤ R.frames) (hlo : (st.map fun v => v.category).sum + (nativeFrameWords "java/lang/System" "arraycopy" 5 + 11) ≤ R.locals) (kk : ∀ σ', SrAt Γ ro σ' a b w m ch (va_cpy co2 co 0 0 8) rw bk → SrAt Γ ro σ' a2 b2 w2 m2 ch2 co2 rw2 bk2 → frC Γ ro a (a + 4) σ σ' → Go Γ R M Q cells slots (pc + 3) lv st σ' n) : Go Γ R M Q cells slots pc lv (.int 8 :: .int 0 :: .ref (a + 2) :: .int 0 :: .ref (a2 + 2) :: st) σ n :=
  go_copyI hl hd (sr2 hR2) (sr2 hR) (by decide) (by decide) (by decide) (by decide) (by decide) (kk _ hR.s2 (hR2.fr (frC.rf.up (lo := a) (hi := a + 4) ⟨by omega, by omega⟩) (by omega)) (frC.rf.up ⟨by omega, by omega⟩)) hfr hlo
theorem go_cp3 {ix : Nat} (hl : Cond.methodLink M.1.cls ix arraycopyName ∈ tb) (hR : SrAt Γ ro σ a b w m ch co rw bk) (hR2 : SrAt Γ ro σ a2 b2 w2 m2 ch2 co2 rw2 bk2) (hne : a + 4 < a2 ∨ a2 + 4 < a) (hd : decode M.2.1 pc = .ok (.invokestatic ix, 3)) (hfr : 1 ≤ R.frames) (hlo : (st.map fun v => v.category).sum + (nativeFrameWords "java/lang/System" "arraycopy" 5 + 11) ≤ R.locals) (kk : ∀ σ', SrAt Γ ro σ' a b w m ch co (va_cpy rw2 rw 0 0 8) bk → SrAt Γ ro σ' a2 b2 w2 m2 ch2 co2 rw2 bk2 → frC Γ ro a (a + 4) σ σ' → Go Γ R M Q cells slots (pc + 3) lv st σ' n) : Go Γ R M Q cells slots pc lv (.int 8 :: .int 0 :: .ref (a + 3) :: .int 0 :: .ref (a2 + 3) :: st) σ n :=
  go_copyI hl hd (sr3 hR2) (sr3 hR) (by decide) (by decide) (by decide) (by decide) (by decide) (kk _ hR.s3 (hR2.fr (frC.rf.up (lo := a) (hi := a + 4) ⟨by omega, by omega⟩) (by omega)) (frC.rf.up ⟨by omega, by omega⟩)) hfr hlo
theorem go_cp4 {ix : Nat} (hl : Cond.methodLink M.1.cls ix arraycopyName ∈ tb) (hR : SrAt Γ ro σ a b w m ch co rw bk) (hR2 : SrAt Γ ro σ a2 b2 w2 m2 ch2 co2 rw2 bk2) (hne : a + 4 < a2 ∨ a2 + 4 < a) (hd : decode M.2.1 pc = .ok (.invokestatic ix, 3)) (hfr : 1 ≤ R.frames) (hlo : (st.map fun v => v.category).sum + (nativeFrameWords "java/lang/System" "arraycopy" 5 + 11) ≤ R.locals) (kk : ∀ σ', SrAt Γ ro σ' a b w m ch co rw (va_cpy bk2 bk 0 0 8) → SrAt Γ ro σ' a2 b2 w2 m2 ch2 co2 rw2 bk2 → frC Γ ro a (a + 4) σ σ' → Go Γ R M Q cells slots (pc + 3) lv st σ' n) : Go Γ R M Q cells slots pc lv (.int 8 :: .int 0 :: .ref (a + 4) :: .int 0 :: .ref (a2 + 4) :: st) σ n :=
  go_copyI hl hd (sr4 hR2) (sr4 hR) (by decide) (by decide) (by decide) (by decide) (by decide) (kk _ hR.s4 (hR2.fr (frC.rf.up (lo := a) (hi := a + 4) ⟨by omega, by omega⟩) (by omega)) (frC.rf.up ⟨by omega, by omega⟩)) hfr hlo
end CpGo
theorem cpy_at {f g : row} {N j : Nat} (h : j < N) : va_cpy f g 0 0 N j = f j := by
  rw [pk_cpy_in (by omega) (by omega)]
  congr 1
  omega
/-- what a told deed makes of who is wet -/
def doW (K : row) (v : Int) (w : Int32) : Int32 := if v = -1 then pasW K (tideK K (K 33)) w else w
theorem doW_32 {K : row} {v : Int} (h8 : kP K ≤ 8) (h : whyT K v = 0) : doK K v 32 = doW K v (K 32) := by
  unfold doW
  rcases told_c h with rfl | ⟨j, h1, h2, rfl, h3, -⟩ | ⟨j, d, h1, h2, h3, h4, rfl, -⟩ | ⟨j, d, h1, h2, h3, h4, rfl, -⟩
  · rw [if_pos rfl]; exact minK_32 h8
  · rw [if_neg (by omega), do_r h2, rise_hi h8 (by omega) (by omega)]
  · rw [if_neg (by omega), do_s h3 h4, sitd_hi (by omega) (by omega)]
  · rw [if_neg (by omega), do_x h3 h4, swap_hi (by omega) (by omega) (by omega)]
