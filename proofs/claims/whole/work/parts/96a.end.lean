/-! ===== the claim ===== -/
def lw_P (b : Addr) (xs : List Int32) (args : Array Value) (s : State) : Prop := args = #[.ref b] ∧ s.IntsAt b xs ∧ xs.length ≤ 3072 ∧ (Jvm.Cond.and given_1 narrow_1).before args s = true
def lw_Q (_ : Array Value) (s : State) (o : Outcome) (t : State) : Prop := o = .returned (some (.int 1)) ∧ Framed s o t [] 601024 7293034
theorem lw_same {Γ : gam} {s t : State} {L : List Loc} {k n : Nat} (hH : gH Γ = s.heap) (h : s.sameButNew ({ t with vm := s.vm } : State) L k n) (hL : ∀ q ∈ L, gtop Γ q.base) : s.sameButNew ({ t with vm := s.vm } : State) [] k n := by
  obtain ⟨g1, g2, g3, g4, g5, g6⟩ := h
  refine ⟨g1, g2, g3, g4, g5, fun a c h => ?_⟩
  obtain ⟨c', k1, k2, k3, k4⟩ := g6 a c h
  refine ⟨c', k1, k2, k3, fun i _ => k4 i (fun hm => ?_)⟩
  have h1 : (gH Γ).size ≤ a := hL _ hm
  rw [hH] at h1
  exact absurd (Array.getElem?_eq_some_iff.mp h).1 (Nat.not_lt.mpr h1)
set_option maxHeartbeats 4000000 in
theorem lw_walk (l : Launch) (htr : l.stackTraces = false) (b : Addr) (xs : List Int32) : MetFree l x (headSpec (Jvm.Cond.code x code maxLocals ret :: tables_1) room_1) (lw_P b xs) (fun _ _ _ _ _ => True) lw_Q := by
  refine MetFree.of_bodyS (code := code) (maxLocals := maxLocals) (ret := ret) (by decide) ?_ ?_
  · intro args s m h hn
    obtain ⟨meth, c, h1, h2, h3, h4, h5, h6, -, -⟩ := Cond.code_spec hn (atoms_spec (ws := Jvm.Cond.code x code maxLocals ret :: tables_1) h _ List.mem_cons_self)
    exact ⟨meth, c, h1, h2, h3, h4, h5, h6⟩
  · intro p e s m args below meth c s₁ B hml0 hP _
    obtain ⟨rfl, hx, hbd, hgv⟩ := hP
    obtain ⟨cell0, harrAt, hlist, hof, hsmall⟩ := hx
    obtain ⟨hcb, hkn, -, -⟩ := State.arrayAt?_spec harrAt
    have hown := findClass_of_methodNamed B.named
    have hts0 : ∀ c ∈ (Jvm.Cond.code x code maxLocals ret :: tables_1), c.before #[Value.ref b] s = true := atoms_spec (ws := Jvm.Cond.code x code maxLocals ret :: tables_1) B.pre
    have hts : ∀ w ∈ lw_tbl, w.before #[Value.ref b] s = true := k2_hts_sels lw_privs (fun w hw => hts0 w (List.mem_cons_of_mem _ hw)) lw_privs_ok
    have X₀ : Stand p l e room_1 s m #[Value.ref b] below meth c s₁ [] 0 0 := Stand.of_body B
    have hh0 : s₁.heap = s.heap := by rw [B.state]; rfl
    have hsz : cell0.slots.size = xs.length := by rw [← Array.length_toList, hlist, List.length_map]
    have hval : ∀ j : Nat, j < xs.length → cell0.slots[j]? = some (.int (xs.getD j 0)) := fun j hj => by
      rw [← Array.getElem?_toList, hlist]
      simp [hj]
    have hbl : b < s.heap.size := (Array.getElem?_eq_some_iff.mp hcb).1
    have hX : va_X b xs.length (fun j => xs.getD j 0) s s.heap := ⟨cell0, hcb, hof, hkn, hsz, hval⟩
    have hno : c.exceptionTable.toList = tableOf [] := by
      obtain ⟨meth9, c9, h1, h2, -, -, -, -, h7, -⟩ := Cond.code_spec B.named (hts0 _ List.mem_cons_self)
      cases Option.some.inj (h1.symm.trans B.method)
      cases Option.some.inj (h2.symm.trans X₀.code)
      rw [Array.isEmpty_iff.mp h7]
      rfl
    obtain ⟨Γ, e1, hH, hK, cell, y1, y2, y3, y4, y5, y6⟩ := kn_of l hts (flat_of_before _ hgv) hX
    subst e1
    have hsc : scA Γ b xs.length (fun j => xs.getD j 0) := ⟨by rw [hH]; exact hbl, cell, by rw [hH]; exact y1, y2, y3, y4, y5, y6⟩
    have hW : Wd Γ (fun _ => none) s.heap.size s.heap := ⟨rfl, by rw [hH]; exact Nat.le_refl _, fun q _ => by rw [hH], fun a e h => by cases h⟩
    have hcx : cx Γ uL_law p s m #[Value.ref b] meth c := ⟨⟨B.exec, B.bytes, hml0, hown, fun w hw => hts w (tb_tbl hw)⟩, B.returns, B.notSynchronized, (name_of_methodNamed B.named B.method).1, hno, htr, hK, hW.lowS⟩
    have hl0 := lv_entry [Value.ref b] (n := 8) (Nat.le_of_ble_eq_true rfl)
    have K : W p (gL Γ) e RL1 s m #[Value.ref b] below meth c s.heap [] 0 0 (vx_MQ below (gQ Γ (fun o _ _ => o = .inl (some (.int 1)))) (gX Γ (fun o _ _ => o = .inl (some (.int 1)))) #[Value.ref b] s RL1.cells RL1.slots (gtop Γ)) (entryFrame m ([Value.ref b] : List Value).toArray 8) := by
      rw [lg_entry_eq]
      exact law_go (Q := fun o _ _ => o = .inl (some (.int 1))) hsc hbd hbl (fun _ _ => rfl) p e s m #[Value.ref b] below meth c s.heap [] _ hcx hW va_S.rf hl0
    obtain ⟨t, a1, o, b1, b2, b3⟩ := K s₁ hh0 X₀
    refine ⟨t, o, a1, b1, b2, ?_⟩
    rcases b3 with ⟨⟨r, σ, n, q1, q2, -⟩, L, ⟨f1, f2, f3⟩, f4⟩ | ⟨q, -, E, ce, L, ⟨σ, n, q2, -⟩, -⟩
    · have q3 : r = some (.int 1) := by injection q2
      rw [q3] at q1
      exact ⟨q1, f1, f2, lw_same hH f3 f4⟩
    · cases q2
theorem lw_pre_spec {args : Array Value} {s : State} (h : (Jvm.Cond.and given_1 narrow_1).before args s = true) (hr : rest_1_c.before args s = true) : ∃ (b : Addr) (xs : List Int32), lw_P b xs args s := by
  have hs := flat_of_before _ h
  have hq := flat_of_before _ hr
  have hc : (Cond.count 1).before args s = true := hs _ (by decide +kernel)
  have harr : (Cond.arrayOf (.arg 0) .int).before args s = true := hs _ (by decide +kernel)
  have hle : (Cond.le (.length (.arg 0)) (.int 3072)).before args s = true := hs _ (by decide +kernel)
  have hlen : (Cond.isInt (.length (.arg 0))).before args s = true := hq _ (by decide +kernel)
  have hall : (Cond.all (.arg 0) (.isInt (.elem (.arg 0) (.index 0)))).before args s = true := hq _ (by decide +kernel)
  obtain ⟨b, xs, hb, hx⟩ := State.ints_of_pre rfl harr hlen hall
  have hsm : xs.length < 2 ^ 31 := hx.choose_spec.2.2.2
  have hev : (Term.length (.arg 0)).eval args s none [] s = some (.int xs.length.toInt32) := hx.length_eval hb
  have hv := Cond.le_ints hev (show (Term.int 3072).eval args s none [] s = some (.int 3072) from rfl)
  have hd : xs.length.toInt32 ≤ 3072 := by
    simpa [Cond.before, Cond.holds, hv] using hle
  have hN : xs.length ≤ 3072 := (Int32.ofNat_le_ofNat hsm (by decide)).mp (show Int32.ofNat xs.length ≤ Int32.ofNat 3072 from hd)
  exact ⟨b, xs, Cond.one_arg hc (show args[0]? = some (.ref b) from hb), hx, hN, h⟩
theorem lw_comes (l : Launch) (htr : l.stackTraces = false) : Comes l x (Jvm.Cond.code x code maxLocals ret :: tables_1) room_1 (fun tb e args s => Calls_1 tb e args s ∧ rest_1 tb e args s ∧ Pre_1 tb e args s)
    (fun _ _ args s o t => lw_Q args s o t) := by
  intro p e ha hc hk s m args below hf hfit hheap happ hpre
  obtain ⟨b, xs, hP⟩ := lw_pre_spec hpre.2.2 hpre.2.1
  obtain ⟨k, o, h1, h2, h3, hQ⟩ := lw_walk l htr b xs p e ha hc hk s m args below hf ((Spec.applies_iff_loose hf).mp happ).1 hP trivial
  exact ⟨k, o, h1, h2, h3, hQ⟩
theorem lw_frame {s t : State} {o : Outcome} {args : Array Value} (h : Framed s o t [] 601024 7293034) :
    Framed s o t (fieldLocs frame_1_writes args s ++ arrayLocs frame_1_arrays args s ++ staticLocs frame_1_statics s) 601024 7293034 := h
theorem lw_limb (L : Cond) (hL : ∀ (args : Array Value) (s t : State), L.after args s (.returned (some (.int 1))) t = true) :
    ArmFor flags0 classFile x code maxLocals ret World_1 tables_1 room_1 Calls_1 rest_1 Pre_1
      (fun tb e a s o t => postC L tb e a s o t ∧ Framed s o t (fieldLocs frame_1_writes a s ++ arrayLocs frame_1_arrays a s ++ staticLocs frame_1_statics s) 601024 7293034) := by
  intro l hfl _ _ p e ha hc hk s m args below hf hfit hheap happ hpre
  obtain ⟨k, o, h1, h2, h3, rfl, hF⟩ := lw_comes l (by unfold Launch.stackTraces; rw [hfl]; decide) p e ha hc hk s m args below hf hfit hheap happ hpre
  exact ⟨k, _, h1, h2, h3, hL args s _, lw_frame hF⟩
