/-! ===== the search goes through the rows ===== -/
theorem asg_refl {vm : Vm} {c : ClassId} : vm.assignable c c = true := by
  show vm.assignableAux (255 + 1) c c = true
  rw [Vm.assignableAux]
  simp
section FdAll
variable {p : Program} {l : Launch} {e : Env} {R : Room} {s : State} {m : MethodId} {args : Array Value} {below : List Frame} {meth : Method} {c : Code} {locs : List Loc} {cells slots : Nat}
/-- a class link of the start, in any tables that have been warmed since -/
theorem lk_at {T : State} (X : Stand p l e R s m args below meth c T locs cells slots) {own F : String} (hown : s.vm.findClass own = some m.cls) {i : Nat} (hl : (Cond.classLink own i F).before args s = true) : ∃ cF : ClassId, s.vm.findClass F = some cF ∧ T.vm.ClassLinks e.platform m.cls i cF ∧ s.WarmedH (T.vm.noted m.cls i (.cls cF)) := by
  have hpl : e.platform.magicAccessors = ({} : Platform).magicAccessors := by rw [X.admits.platform]
  obtain ⟨cF, h1, h2⟩ := Cond.classLink_spec hown hl e.platform hpl
  obtain ⟨dk, _, _, kt, hd, _, _, _, _, hkt, _, hopen⟩ := h2.here
  exact ⟨cF, h1, X.warmed.classLinks h2, X.warmed.noted hd hopen (State.rightAt_cls h2)⟩
theorem cl_at {T : State} (X : Stand p l e R s m args below meth c T locs cells slots) {F : String} {cF : ClassId} (h : s.vm.findClass F = some cF) : ∃ k, T.vm.classes[cF]? = some k := by
  obtain ⟨k, hk⟩ := Vm.classAt_of_findClass h
  obtain ⟨k2, hk2, -⟩ := X.warmed.alike.2.2 _ _ hk
  exact ⟨k2, hk2⟩
theorem fd_all {own E : String} (hown : s.vm.findClass own = some m.cls) {a : Addr} {cell : Cell} (hobj : cell.vm = .none) (hE : s.vm.findClass E = some cell.cls) {f : JFrame} (hf : f.method = m) {x : ExceptionTableEntry} {rest : List ExceptionTableEntry} (hx : covers x f.pc = true) (h0 : x.catchType ≠ 0) (hl : (Cond.classLink own x.catchType E).before args s = true) :
    ∀ (pre : List ExceptionTableEntry) (T S : State), Stand p l e R s m args below meth c T locs cells slots → S.vm = T.vm → S.heap[a]? = some cell → (∀ y ∈ pre, covers y f.pc = true ∧ y.catchType ≠ 0 ∧ ∃ F, (Cond.classLink own y.catchType F).before args s = true ∧ va_Nc E F s) → ∃ v, Stand p l e R s m args below meth c (T.setVm v) locs cells slots ∧ fdT e S f a (pre ++ x :: rest) (.found x.handlerPc) v := by
  have hob : ∀ k, cell.vm ≠ .statics k := fun k h => by rw [hobj] at h; cases h
  intro pre
  induction pre with
  | nil =>
    intro T S X hvm hcell _
    obtain ⟨cF, h1, h2, h3⟩ := lk_at X hown hl
    cases hE.symm.trans h1
    refine ⟨_, X.noted h3, ?_⟩
    have key := fd_hit (e := e) (S := S) (f := f) (a := a) (x := x) (t := rest) (c := cell.cls) (cell := cell) hx h0 (by rw [hvm, hf]; exact h2) hcell hob (by rw [hvm]; exact cl_at X hE) (by rw [hvm]; exact cl_at X hE) asg_refl
    rw [hvm, hf] at key
    exact key
  | cons y pre ih =>
    intro T S X hvm hcell hpre
    obtain ⟨y1, y2, F, y3, y4⟩ := hpre y (List.mem_cons_self ..)
    obtain ⟨cF, h1, h2, h3⟩ := lk_at X hown y3
    obtain ⟨c1, c2, n1, n2, n3⟩ := y4
    cases hE.symm.trans n1
    cases h1.symm.trans n2
    obtain ⟨v, X2, hr⟩ := ih (T.setVm (T.vm.noted m.cls y.catchType (.cls cF))) (S.setVm (S.vm.noted f.method.cls y.catchType (.cls cF))) (X.noted h3) (by rw [hvm, hf]; rfl) hcell (fun z hz => hpre z (List.mem_cons_of_mem _ hz))
    refine ⟨v, X2, ?_⟩
    exact fd_miss (e := e) (S := S) (f := f) (a := a) (x := y) (t := pre ++ x :: rest) (c := cF) (cell := cell) y1 y2 (by rw [hvm, hf]; exact h2) hcell hob (by rw [hvm]; exact cl_at X hE) (by rw [hvm]; exact cl_at X h1) (by rw [hvm, X.warmed.alike.assignable]; exact n3) hr
/-- caught: the method goes on at the row's own place -/
theorem st_caught {T target : State} {g : JFrame} {a : Addr} (h : At T g.method c below) {pc : Nat} {v : Vm} (hfind : ∀ (Q : Handler → Pre) (E : CtlPost) (d : Bool) (acts : List Action), wp (findHandler g a) Q E e d acts ((T.setTop g).pushFrame (.throwing a)) ↔ Q (.found pc) d acts (((T.setTop g).pushFrame (.throwing a)).setVm v)) (hrest : Steps p.tables e below ((T.setVm v).setTop { g with pc := pc, stack := [.ref a] }) target) : Steps p.tables e below ((T.setTop g).pushFrame (.throwing a)) target := by
  obtain ⟨hgo, hw⟩ := h.throwing a
  refine Steps.head hgo hw ?_
  have key : ∀ r : List Frame, (stepThrowing e ((T.setTop g).pushFrame (.throwing a)) a (.java g :: r)).Is ((((T.setTop g).pushFrame (.throwing a)).setVm v).setFrames (.java { g with pc := pc, stack := [.ref a] } :: r)) [] := by
    intro r
    simp only [stepThrowing, searchFrame, vmDo]
    generalize hr : Sem.go _ e false [] _ = res
    obtain ⟨as, rfl, ha⟩ := Sem.eq_ok_of hr (a := Handler.found pc) (s' := ((T.setTop g).pushFrame (.throwing a)).setVm v) (acts' := []) (by simp [hfind _ _ _ _])
    exact ⟨rfl, ha⟩
  rw [stepThread_throwing (frames_entered h.top _), (key _).1]
  obtain ⟨g0, hg⟩ := Option.isSome_iff_exists.mp h.top
  obtain ⟨r, hr⟩ := State.topJava?_eq_some.mp hg
  have hr2 : (T.setVm v).frames = .java g0 :: r := hr
  have mv : ∀ (u : State) (F G : List Frame), ((u.setFrames F).setVm v).setFrames G = (u.setVm v).setFrames G := by
    intro u F G
    rw [show (u.setFrames F).setVm v = (u.setVm v).setFrames F from rfl, State.setFrames_setFrames]
  rw [State.setTop_of_frames _ hr2] at hrest
  rw [hr, List.tail_cons, State.pushFrame, mv, State.setTop_of_frames _ hr, mv]
  exact hrest
theorem caught_in {T : State} (X : Stand p l e R s m args below meth c T locs cells slots) {own E : String} (hown : s.vm.findClass own = some m.cls) {a : Addr} {cell : Cell} (hcell : T.heap[a]? = some cell) (hobj : cell.vm = .none) (hE : s.vm.findClass E = some cell.cls) {g : JFrame} (hg : g.method = m) {pre rest : List ExceptionTableEntry} {x : ExceptionTableEntry} (hsp : c.exceptionTable.toList = pre ++ x :: rest) (hx : covers x g.pc = true) (h0 : x.catchType ≠ 0) (hl : (Cond.classLink own x.catchType E).before args s = true) (hpre : ∀ y ∈ pre, covers y g.pc = true ∧ y.catchType ≠ 0 ∧ ∃ F, (Cond.classLink own y.catchType F).before args s = true ∧ va_Nc E F s) : ∃ v, Stand p l e R s m args below meth c (T.setVm v) locs cells slots ∧ ∀ target, Steps p.tables e below ((T.setVm v).setTop { g with pc := x.handlerPc, stack := [.ref a] }) target → Steps p.tables e below ((T.setTop g).pushFrame (.throwing a)) target := by
  have hvm : ((T.setTop g).pushFrame (.throwing a)).vm = T.vm := by simp [State.pushFrame, State.setFrames, State.setTop, State.modifyTopJava]
  have hhp : ((T.setTop g).pushFrame (.throwing a)).heap = T.heap := by simp [State.pushFrame, State.setFrames, State.setTop, State.modifyTopJava]
  obtain ⟨v, X2, hfd⟩ := fd_all (rest := rest) hown hobj hE hg hx h0 hl pre T _ X hvm (by rw [hhp]; exact hcell) hpre
  refine ⟨v, X2, fun target hrest => ?_⟩
  refine st_caught (by rw [hg]; exact X.here) (fun Q E d acts => ?_) hrest
  rw [W.findHandler_eq (meth := meth) (code := c) (by rw [hvm, hg]; exact X.method') X.code, hsp]
  exact hfd Q E d acts
end FdAll
