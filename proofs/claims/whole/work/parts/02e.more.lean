/-! ===== throws, System.arraycopy, texts, statics ===== -/
abbrev nms : List String := ["java/lang/RuntimeException", "java/lang/Exception"]
def thL (E : String) (ik ic : Nat) : Prop := E ∈ eN ∧ Bundle.fit E = true ∧ Cond.classLink RX7 ik E ∈ tb ∧ Cond.initialized E ∈ tb ∧ (∀ w ∈ (vx_atS RX7 ic E nms).filter goodWord, w ∈ tb) ∧ (∀ w ∈ (vx_atS RX7 ic E nms).filter (fun w => !goodWord w), w ∈ Cond.castable E E :: dcl) ∧ ∀ w ∈ Cond.classLink RX7 ik E :: Cond.initialized E :: vx_atS RX7 ic E nms, vx_ot w = true
theorem lowS.zq {Γ : gam} {s : State} {C n d : String} (h : lowS Γ s) (hZ : vx_Zq C n d (gtop Γ) s (gH Γ)) : vx_Zq C n d (gtop Γ) s s.heap := hZ.kept fun a ha hna => h.2 a ha
section GoMore
variable {Γ : gam} {R : Room} {M : mth} {Q : qp} {cells slots pc : Nat} {lv : List (Option Value)} {st : List Value} {σ : sto} {n : Nat}
theorem go_throw {E tx : String} {ik is ic si : Nat} (hE : thL E ik ic) (hcls : M.1.cls = RX7) (hh : M.2.2.2.2 = []) (hs : sTab[si]? = some (RX7, is, tx)) (d0 : decode M.2.1 pc = .ok (.new ik, 3)) (d3 : decode M.2.1 (pc + 3) = .ok (.dup, 1)) (d4 : decode M.2.1 (pc + 4) = .ok (.ldc is, 2)) (d6 : decode M.2.1 (pc + 6) = .ok (.invokespecial ic, 3)) (d9 : decode M.2.1 (pc + 9) = .ok (.athrow, 1)) (hq : ∀ n', n ≤ n' → Q (.inr E) σ n')
    (hRf : 5 < R.frames := by first | exact Nat.le_of_ble_eq_true rfl | (simp only [rmk, List.map_cons, List.map_nil, List.sum_cons, List.sum_nil, Value.category]; first | omega | (simp [nativeFrameWords]; omega))) (hRl : (st.map fun v => v.category).sum + 82 ≤ R.locals := by first | exact Nat.le_of_ble_eq_true rfl | (simp only [rmk, List.map_cons, List.map_nil, List.sum_cons, List.sum_nil, Value.category]; first | omega | (simp [nativeFrameWords]; omega))) (hRc : cells + 1 ≤ R.cells := by first | exact Nat.le_of_ble_eq_true rfl | (simp only [rmk, List.map_cons, List.map_nil, List.sum_cons, List.sum_nil, Value.category]; first | omega | (simp [nativeFrameWords]; omega))) (hRs : slots + 6 ≤ R.slots := by first | exact Nat.le_of_ble_eq_true rfl | (simp only [rmk, List.map_cons, List.map_nil, List.sum_cons, List.sum_nil, Value.category]; first | omega | (simp [nativeFrameWords]; omega))) : Go Γ R M Q cells slots pc lv st σ n := by
  intro p e s m args below meth c H locs ls C W0 S0 L0
  obtain ⟨⟨hx, hb, hml, hown, hts⟩, hr, hlk, hnm, htb, htr, hK, hlo⟩ := id C
  obtain ⟨e1, e2, e3, e4, e5, e6, e7⟩ := hE
  rw [hcls] at hown
  refine vx_throwS (names := nms) (sa := gK Γ si) (A := gtop Γ) hx hb htr hown e2 (by decide +kernel) (hts _ e3) (hts _ e4) (hK.2.1 si _ hs).1 (vx_hat (fun w hw => hts w (e5 w hw)) e6 (vx_c ((hK.2.2.2.2.1 E e1).use rfl) (fun w hw => by obtain ⟨X, hX, rfl⟩ := List.mem_map.mp hw; exact (hK.2.2.2.1 X hX).use rfl))) e7 (hlo.zq hK.2.2.1.2.1) (hlo.zq hK.2.2.1.2.2.1) S0 (by rw [hml]; exact L0.1) d0 d3 d4 d6 d9 ?_ hRf hRl hRc hRs hlk ?_ S0.2.2 hRc hRs
  · intro x hx0
    rw [htb, hh] at hx0
    cases hx0
  · intro t hA hz hkp
    have hz' : n ≤ t.heap.size := by rw [← W0.1]; exact hz
    refine ⟨σ, t.heap.size, hq _ hz', ⟨rfl, Nat.le_trans W0.2.1 hz', fun q h => ?_, fun a x ha => ?_⟩, ?_⟩
    · rw [hkp q (by rw [W0.1]; exact Nat.lt_of_lt_of_le h W0.2.1)]
      exact W0.2.2.1 q h
    · obtain ⟨g1, g2, g3⟩ := W0.2.2.2 a x ha
      exact ⟨g1, Nat.lt_of_lt_of_le g2 hz', g3.kept (hkp a (by rw [W0.1]; exact g2))⟩
    · refine ⟨Nat.le_trans S0.1 hz, fun q h1 h2 => ?_⟩
      rw [hkp q (Nat.lt_of_lt_of_le h1 S0.1)]
      exact S0.2.1 q h1 h2
theorem go_throwW {E tx : String} {ik is ic si : Nat} (hE : thL E ik ic) (hcls : M.1.cls = RX7) (hh : M.2.2.2.2 = []) (hs : sTab[si]? = some (RX7, is, tx)) (d0 : decode M.2.1 pc = .ok (.new ik, 3)) (d3 : decode M.2.1 (pc + 3) = .ok (.dup, 1)) (d4 : decode M.2.1 (pc + 4) = .ok (.ldc_w is, 3)) (d6 : decode M.2.1 (pc + 7) = .ok (.invokespecial ic, 3)) (d9 : decode M.2.1 (pc + 10) = .ok (.athrow, 1)) (hq : ∀ n', n ≤ n' → Q (.inr E) σ n')
    (hRf : 5 < R.frames := by first | exact Nat.le_of_ble_eq_true rfl | (simp only [rmk, List.map_cons, List.map_nil, List.sum_cons, List.sum_nil, Value.category]; first | omega | (simp [nativeFrameWords]; omega))) (hRl : (st.map fun v => v.category).sum + 82 ≤ R.locals := by first | exact Nat.le_of_ble_eq_true rfl | (simp only [rmk, List.map_cons, List.map_nil, List.sum_cons, List.sum_nil, Value.category]; first | omega | (simp [nativeFrameWords]; omega))) (hRc : cells + 1 ≤ R.cells := by first | exact Nat.le_of_ble_eq_true rfl | (simp only [rmk, List.map_cons, List.map_nil, List.sum_cons, List.sum_nil, Value.category]; first | omega | (simp [nativeFrameWords]; omega))) (hRs : slots + 6 ≤ R.slots := by first | exact Nat.le_of_ble_eq_true rfl | (simp only [rmk, List.map_cons, List.map_nil, List.sum_cons, List.sum_nil, Value.category]; first | omega | (simp [nativeFrameWords]; omega))) : Go Γ R M Q cells slots pc lv st σ n := by
  intro p e s m args below meth c H locs ls C W0 S0 L0
  obtain ⟨⟨hx, hb, hml, hown, hts⟩, hr, hlk, hnm, htb, htr, hK, hlo⟩ := id C
  obtain ⟨e1, e2, e3, e4, e5, e6, e7⟩ := hE
  rw [hcls] at hown
  refine vx_throwSW (names := nms) (sa := gK Γ si) (A := gtop Γ) hx hb htr hown e2 (by decide +kernel) (hts _ e3) (hts _ e4) (hK.2.1 si _ hs).1 (vx_hat (fun w hw => hts w (e5 w hw)) e6 (vx_c ((hK.2.2.2.2.1 E e1).use rfl) (fun w hw => by obtain ⟨X, hX, rfl⟩ := List.mem_map.mp hw; exact (hK.2.2.2.1 X hX).use rfl))) e7 (hlo.zq hK.2.2.1.2.1) (hlo.zq hK.2.2.1.2.2.1) S0 (by rw [hml]; exact L0.1) d0 d3 d4 d6 d9 ?_ hRf hRl hRc hRs hlk ?_ S0.2.2 hRc hRs
  · intro x hx0
    rw [htb, hh] at hx0
    cases hx0
  · intro t hA hz hkp
    have hz' : n ≤ t.heap.size := by rw [← W0.1]; exact hz
    refine ⟨σ, t.heap.size, hq _ hz', ⟨rfl, Nat.le_trans W0.2.1 hz', fun q h => ?_, fun a x ha => ?_⟩, ?_⟩
    · rw [hkp q (by rw [W0.1]; exact Nat.lt_of_lt_of_le h W0.2.1)]
      exact W0.2.2.1 q h
    · obtain ⟨g1, g2, g3⟩ := W0.2.2.2 a x ha
      exact ⟨g1, Nat.lt_of_lt_of_le g2 hz', g3.kept (hkp a (by rw [W0.1]; exact g2))⟩
    · refine ⟨Nat.le_trans S0.1 hz, fun q h1 h2 => ?_⟩
      rw [hkp q (Nat.lt_of_lt_of_le h1 S0.1)]
      exact S0.2.1 q h1 h2
theorem go_copyI {ix a0 a n0 n1 : Nat} {f g : Nat → Int32} {sp dp k : Int32} (hl : Cond.methodLink M.1.cls ix arraycopyName ∈ tb) (hd : decode M.2.1 pc = .ok (.invokestatic ix, 3)) (ho : σ a0 = some (cI Γ n0 f)) (ho1 : σ a = some (cI Γ n1 g)) (h1 : ¬ sp < 0) (h2 : ¬ dp < 0) (h3 : ¬ k < 0) (h4 : sp.toNatClampNeg + k.toNatClampNeg ≤ n0) (h5 : dp.toNatClampNeg + k.toNatClampNeg ≤ n1) (kk : Go Γ R M Q cells slots (pc + 3) lv st (sup σ a (cI Γ n1 (va_cpy f g sp.toNatClampNeg dp.toNatClampNeg k.toNatClampNeg))) n)
    (hframes : 1 ≤ R.frames := by first | exact Nat.le_of_ble_eq_true rfl | (simp only [rmk, List.map_cons, List.map_nil, List.sum_cons, List.sum_nil, Value.category]; first | omega | (simp [nativeFrameWords]; omega))) (hlocals : (st.map fun v => v.category).sum + (nativeFrameWords "java/lang/System" "arraycopy" 5 + 11) ≤ R.locals := by first | exact Nat.le_of_ble_eq_true rfl | (simp only [rmk, List.map_cons, List.map_nil, List.sum_cons, List.sum_nil, Value.category]; first | omega | (simp [nativeFrameWords]; omega))) : Go Γ R M Q cells slots pc lv (.int k :: .int dp :: .ref a :: .int sp :: .ref a0 :: st) σ n := by
  intro p e s m args below meth c H locs ls C W0 S0 L0
  obtain ⟨⟨hx, hb, hml, hown, hts⟩, hr, hlk, hnm, htb, htr, hK, hlo⟩ := id C
  have nn : ∀ z : Int32, ¬ z < 0 → z.toInt = (z.toNatClampNeg : Int) := by
    intro z hz
    have hz0 : (0 : Int) ≤ z.toInt := by
      have := Int32.not_lt.mp hz
      simpa using Int32.le_iff_toInt_le.mp this
    show z.toInt = ((z.toInt.toNat : Nat) : Int)
    omega
  intro T hT X
  have hc0 : H[a0]? = some (vp_cell (gA Γ 0) (n0, .inl f)) := (W0.2.2.2 a0 _ ho).2.2
  have hc1 : H[a]? = some (vp_cell (gA Γ 0) (n1, .inl g)) := (W0.2.2.2 a _ ho1).2.2
  obtain ⟨-, k0, hk0, cm0, hkk0⟩ := (hK.1.2 0 _ rfl).1 n0 (fun j => .int (f j))
  obtain ⟨-, k1, hk1, cm1, hkk1⟩ := (hK.1.2 0 _ rfl).1 n1 (fun j => .int (g j))
  obtain ⟨vm', X', step⟩ := X.arraycopy hx hown (hts _ hl) (hts _ kw2_73) (hts _ kw2_72) (hts _ kw1_20) (src := a0) (dst := a) (cs := vp_cell (gA Γ 0) (n0, .inl f)) (cd := vp_cell (gA Γ 0) (n1, .inl g)) (srcPos := sp) (destPos := dp) (n := k) (by rw [hT]; exact hc0) (by rw [hT]; exact hc1)
    (fun _ h => by cases h) (fun _ h => by cases h) (fun h => by cases h) (fun h => by cases h) hk0 hk1 hkk0 hkk1 (by simp [refKind]) h1 h2 h3
    (by rw [nn sp h1, nn k h3]; show ¬ _ > ((arrV (gA Γ 0) n0 (fun j => .int (f j))).slots.size : Int); rw [arrV_size]; omega)
    (by rw [nn dp h2, nn k h3]; show ¬ _ > ((arrV (gA Γ 0) n1 (fun j => .int (g j))).slots.size : Int); rw [arrV_size]; omega)
    (fun vm₁ _ i hi => by
      have e : (vp_cell (gA Γ 0) (n0, .inl f)).slots.getD (sp.toNatClampNeg + i) .null = .int (f (sp.toNatClampNeg + i)) := by
        show (arrV (gA Γ 0) n0 (fun j => .int (f j))).slots.getD _ _ = _
        rw [Array.getD_eq_getD_getElem?, arrV_read _ _ (by omega)]
        rfl
      refine ⟨?_, ?_⟩
      · rw [e]
        rfl
      · rw [e]
        exact trivial)
    (g := F0 m pc ls (.int k :: .int dp :: .ref a :: .int sp :: .ref a0 :: st)) rfl (by rw [hml]; exact L0.1) (rest := st) rfl (by rw [hb]; exact hd) hframes (by show 2 * 0 + _ + _ ≤ _; omega)
  have e1 : copied (vp_cell (gA Γ 0) (n0, .inl f)) (vp_cell (gA Γ 0) (n1, .inl g)) sp dp k = vp_cell (gA Γ 0) (n1, .inl (va_cpy f g sp.toNatClampNeg dp.toNatClampNeg k.toNatClampNeg)) := va_copied (fun z => .int z) _ _ f g h4
  rw [e1] at X' step
  have hl9 : a < H.size := (Array.getElem?_eq_some_iff.mp hc1).1
  have hheap : ((T.setVm vm').setCell a (vp_cell (gA Γ 0) (n1, .inl (va_cpy f g sp.toNatClampNeg dp.toNatClampNeg k.toNatClampNeg)))).heap = H.setIfInBounds a (vp_cell (gA Γ 0) (n1, .inl (va_cpy f g sp.toNatClampNeg dp.toNatClampNeg k.toNatClampNeg))) := by rw [← hT]; rfl
  have oq : ∀ q : Nat, q ≠ a → (H.setIfInBounds a (vp_cell (gA Γ 0) (n1, .inl (va_cpy f g sp.toNatClampNeg dp.toNatClampNeg k.toNatClampNeg))))[q]? = H[q]? := fun q hq => by simp [Array.getElem?_setIfInBounds, Ne.symm hq]
  obtain ⟨t, a1, b1⟩ := kk p e s m args below meth c _ _ ls C (W0.put ho1 (by simp) oq (show (H.setIfInBounds a _)[a]? = some _ by simp [Array.getElem?_setIfInBounds, hl9])) ⟨by simp; exact S0.1, fun q g1 g2 => by
      rw [oq q (fun e => g2 (by rw [e]; exact W0.top ho1))]
      exact S0.2.1 q g1 g2, fun q hq => by
      rcases List.mem_append.mp hq with h | h
      · exact S0.2.2 q h
      · obtain ⟨z, -, hz⟩ := List.mem_map.mp h
        rw [← hz]
        exact W0.top ho1⟩ L0 _ hheap X'
  exact ⟨t, step t a1, b1⟩
theorem go_ldcS {ix si : Nat} {tx : String} (hs : sTab[si]? = some (M.1.cls, ix, tx)) (hd : decode M.2.1 pc = .ok (.ldc ix, 2)) (kk : Go Γ R M Q cells slots (pc + 2) lv (.ref (gK Γ si) :: st) σ n) : Go Γ R M Q cells slots pc lv st σ n := by
  intro p e s m args below meth c H locs ls C W0 S0 L0
  obtain ⟨⟨hx, hb, hml, hown, hts⟩, hr, hlk, hnm, htb, htr, hK, hlo⟩ := id C
  exact va_ldcS hx hb hown (hK.2.1 si _ hs).1 hd (kk p e s m args below meth c H locs ls C W0 S0 L0)
theorem rcv_str {si : Nat} {q : String × Nat × String} (hs : sTab[si]? = some q) : rcv Γ σ n (gK Γ si) "java/lang/String" := fun s H hK hW => by
  obtain ⟨cell, h1, h2, h3, h4⟩ := (hK.2.1 si _ hs).2.1
  exact ⟨cell, by rw [hW.2.2.1 _ (Nat.not_le.mp h4)]; exact h1, h2, h3⟩
theorem go_strV {si : Nat} {q : String × Nat × String} (hs : sTab[si]? = some q) (hc : M.1.cls = "java/lang/String") (hd : decode M.2.1 pc = .ok (.getfield 9, 3)) (kk : Go Γ R M Q cells slots (pc + 3) lv (.ref (gV Γ si) :: st) σ n) : Go Γ R M Q cells slots pc lv (.ref (gK Γ si) :: st) σ n := by
  intro p e s m args below meth c H locs ls C W0 S0 L0
  obtain ⟨⟨hx, hb, hml, hown, hts⟩, hr, hlk, hnm, htb, htr, hK, hlo⟩ := id C
  rw [hc] at hown
  exact vk_getf hx hb (va_OF.kept (hK.2.1 si _ hs).2.2.2.1 (fun a ha _ => hlo.2 a ha)) S0 hown (hts _ kw9_7) (fun _ h => h) hd (kk p e s m args below meth c H locs ls C W0 S0 L0)
theorem go_strC {si : Nat} {q : String × Nat × String} (hs : sTab[si]? = some q) (hc : M.1.cls = "java/lang/String") (hd : decode M.2.1 pc = .ok (.getfield 15, 3)) (kk : Go Γ R M Q cells slots (pc + 3) lv (.int 0 :: st) σ n) : Go Γ R M Q cells slots pc lv (.ref (gK Γ si) :: st) σ n := by
  intro p e s m args below meth c H locs ls C W0 S0 L0
  obtain ⟨⟨hx, hb, hml, hown, hts⟩, hr, hlk, hnm, htb, htr, hK, hlo⟩ := id C
  rw [hc] at hown
  exact vk_getf hx hb (va_OF.kept (hK.2.1 si _ hs).2.2.1 (fun a ha _ => hlo.2 a ha)) S0 hown (hts _ kw9_8) (fun _ h => h) hd (kk p e s m args below meth c H locs ls C W0 S0 L0)
theorem go_strL {si : Nat} {q : String × Nat × String} (hs : sTab[si]? = some q) (hd : decode M.2.1 pc = .ok (.arraylength, 1)) (kk : Go Γ R M Q cells slots (pc + 1) lv (.int (nI q.2.2.length) :: st) σ n) : Go Γ R M Q cells slots pc lv (.ref (gV Γ si) :: st) σ n := by
  intro p e s m args below meth c H locs ls C W0 S0 L0
  obtain ⟨⟨hx, hb, hml, hown, hts⟩, hr, hlk, hnm, htb, htr, hK, hlo⟩ := id C
  exact va_tlen hx hb (va_T.kept (hK.2.1 si _ hs).2.2.2.2 (fun a ha _ => hlo.2 a ha)) S0 rfl hd (kk p e s m args below meth c H locs ls C W0 S0 L0)
theorem go_strB {si : Nat} {q : String × Nat × String} {i : Int32} (hs : sTab[si]? = some q) (hin : vp_in i q.2.2.length) (hd : decode M.2.1 pc = .ok (.baload, 1)) (kk : Go Γ R M Q cells slots (pc + 1) lv (.int (sB q.2.2 i.toNatClampNeg) :: st) σ n) : Go Γ R M Q cells slots pc lv (.int i :: .ref (gV Γ si) :: st) σ n := by
  intro p e s m args below meth c H locs ls C W0 S0 L0
  obtain ⟨⟨hx, hb, hml, hown, hts⟩, hr, hlk, hnm, htb, htr, hK, hlo⟩ := id C
  exact va_tb hx hb (va_T.kept (hK.2.1 si _ hs).2.2.2.2 (fun a ha _ => hlo.2 a ha)) S0 hin rfl hd (kk p e s m args below meth c H locs ls C W0 S0 L0)
theorem go_compact (hc : M.1.cls = "java/lang/String") (hd : decode M.2.1 pc = .ok (.getstatic 38, 3)) (kk : Go Γ R M Q cells slots (pc + 3) lv (.int 1 :: st) σ n) : Go Γ R M Q cells slots pc lv st σ n := by
  intro p e s m args below meth c H locs ls C W0 S0 L0
  obtain ⟨⟨hx, hb, hml, hown, hts⟩, hr, hlk, hnm, htb, htr, hK, hlo⟩ := id C
  rw [hc] at hown
  exact va_gets hx hb (va_Z.kept hK.2.2.1.1 (fun a ha _ => hlo.2 a ha)) S0 hown (hts _ kw3_50) (fun _ h => h) hd (kk p e s m args below meth c H locs ls C W0 S0 L0)
theorem go_sioob (hc : M.1.cls = "java/lang/String") (hd : decode M.2.1 pc = .ok (.getstatic 1053, 3)) (kk : ∀ v : Value, (v = .null ∨ ∃ a, v = .ref a) → Go Γ R M Q cells slots (pc + 3) lv (v :: st) σ n) : Go Γ R M Q cells slots pc lv st σ n := by
  intro p e s m args below meth c H locs ls C W0 S0 L0
  obtain ⟨⟨hx, hb, hml, hown, hts⟩, hr, hlk, hnm, htb, htr, hK, hlo⟩ := id C
  rw [hc] at hown
  rcases hK.2.2.1.2.2.2.1 with hZ | ⟨a, hZ⟩
  · exact va_gets hx hb (va_Z.kept hZ (fun a ha _ => hlo.2 a ha)) S0 hown (hts _ kw3_66) (fun _ h => h) hd (kk _ (Or.inl rfl) p e s m args below meth c H locs ls C W0 S0 L0)
  · exact va_gets hx hb (va_Z.kept hZ (fun a ha _ => hlo.2 a ha)) S0 hown (hts _ kw3_66) (fun _ h => h) hd (kk _ (Or.inr ⟨a, rfl⟩) p e s m args below meth c H locs ls C W0 S0 L0)
end GoMore
abbrev eIA : String := "java/lang/IllegalArgumentException"
theorem thw_IA : ∀ w ∈ (vx_atS RX7 337 "java/lang/IllegalArgumentException" nms).filter goodWord, w ∈ lw_tbl := by decide +kernel
theorem th_IA : thL "java/lang/IllegalArgumentException" 333 337 := ⟨by decide, by decide +kernel, kw2_195, kw1_12, fun w h => tb_in (thw_IA w h) (List.mem_filter.mp h).2, by decide +kernel, by decide +kernel⟩
abbrev eIS : String := "java/lang/IllegalStateException"
theorem thw_IS : ∀ w ∈ (vx_atS RX7 295 "java/lang/IllegalStateException" nms).filter goodWord, w ∈ lw_tbl := by decide +kernel
theorem th_IS : thL "java/lang/IllegalStateException" 291 295 := ⟨by decide, by decide +kernel, kw4_159, kw1_23, fun w h => tb_in (thw_IS w h) (List.mem_filter.mp h).2, by decide +kernel, by decide +kernel⟩
abbrev eIO : String := "java/lang/IndexOutOfBoundsException"
theorem thw_IO : ∀ w ∈ (vx_atS RX7 348 "java/lang/IndexOutOfBoundsException" nms).filter goodWord, w ∈ lw_tbl := by decide +kernel
theorem th_IO : thL "java/lang/IndexOutOfBoundsException" 344 348 := ⟨by decide, by decide +kernel, kw5_218, kw1_24, fun w h => tb_in (thw_IO w h) (List.mem_filter.mp h).2, by decide +kernel, by decide +kernel⟩
