/-! ===== a static call of a method with an exception table ===== -/
section CallW
variable {Γ : gam} {R R' : Room} {M M' : mth} {Q Q' : qp} {cells slots pc : Nat} {lv : List (Option Value)} {rest : List Value} {σ : sto} {n : Nat}
theorem go_csW {ix na : Nat} {As : List Value} (hv : sLk M.1.cls ix M' na) (hm : mcw M' = Cond.codeWith M'.1 M'.2.1 M'.2.2.1 M'.2.2.2.1 M'.2.2.2.2) (hn : As.length = na) (hh : M.2.2.2.2 = []) (hd : decode M.2.1 pc = .ok (.invokestatic ix, 3)) (sp : Sp Γ R' M' As σ n Q')
    (hR : R'.frames + 1 ≤ R.frames ∧ 8 + (M'.2.2.1 + 11) + R'.locals ≤ R.locals) (hC : cells + R'.cells ≤ R.cells ∧ slots + R'.slots ≤ R.slots) (hst : (rest.map fun v => v.category).sum ≤ 8)
    (kr : ∀ r σ' n', Q' (.inl r) σ' n' → Go Γ R M Q (cells + R'.cells) (slots + R'.slots) (pc + 3) lv (r.toList ++ rest) σ' n') (kx : ∀ E σ' n', Q' (.inr E) σ' n' → Q (.inr E) σ' n') : Go Γ R M Q cells slots pc lv (As.reverse ++ rest) σ n := by
  refine go_ran (As := As) hh hC ?_ kr kx
  intro p e s m args below meth c H locs ls C W0 L0
  obtain ⟨⟨hx, hb, hml, hown, hts⟩, hr, hlk, hnm, htb, htr, hK, hlo⟩ := id C
  obtain ⟨l1, l2, l4, l5, l6⟩ := hv
  have hG := gi_tb l5
  have hc0 : Cond.codeWith M'.1 M'.2.1 M'.2.2.1 M'.2.2.2.1 M'.2.2.2.2 ∈ mcw M' :: tb := by rw [hm]; exact List.mem_cons_self
  have cw : vx_CSW R s args M.1.cls ix M'.1 M'.2.1 M'.2.2.1 M'.2.2.2.1 M'.2.2.2.2 (mcw M' :: tb) R' R'.cells R'.slots na := by
    refine ⟨⟨rfl, rfl, hR.1, hR.2, pay_in hts hG, hc0⟩, hts _ (hG _ hc0).1, hts _ l4, ⟨l6.1.1, l6.1.2⟩, fun sig h => ?_, hts _ l1, hts _ l2⟩
    have h2 := l6.2
    rw [h] at h2
    exact (Option.some.inj h2).symm
  exact vx_runSX (Ts := tb) (own := M.1.cls) (hh := M'.2.2.2.2) ⟨hx, hb, hml, hown, hts⟩ sp cw ⟨fb_Pc, fun U hU hW => ⟨rfl, by rw [hU]; exact W0, hK.warm hW, htr⟩⟩ rfl hn L0.1 rfl (lv_room hst) hd hC
end CallW
