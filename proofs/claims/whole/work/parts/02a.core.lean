/-! ===== our own machine: a store of cells by address, the world of it, the judgement Go ===== -/
abbrev sto : Type := Nat → Option va_E
def sup (σ : sto) (a : Nat) (e : va_E) : sto := fun q => if q = a then some e else σ q
theorem sup_eq {σ : sto} {a : Nat} {e : va_E} : sup σ a e a = some e := by simp [sup]
theorem sup_ne {σ : sto} {a q : Nat} {e : va_E} {x : Option va_E} (h : q ≠ a) (hq : σ q = x) : sup σ a e q = x := by simp [sup, h, hq]
/-- launch, class numbers and slots, array classes, the first heap, addresses of the texts and of their bytes -/
abbrev gam : Type := Launch × va_G × (Nat → ClassId) × Heap × (Nat → Nat) × (Nat → Nat)
abbrev gL (Γ : gam) : Launch := Γ.1
abbrev gD (Γ : gam) : va_G := Γ.2.1
abbrev gA (Γ : gam) : Nat → ClassId := Γ.2.2.1
abbrev gH (Γ : gam) : Heap := Γ.2.2.2.1
abbrev gK (Γ : gam) : Nat → Nat := Γ.2.2.2.2.1
abbrev gV (Γ : gam) : Nat → Nat := Γ.2.2.2.2.2
abbrev gty (Γ : gam) : List (ClassId × FieldType) := [(gA Γ 0, .int), (gA Γ 1, .long), (gA Γ 2, .boolean), (gA Γ 3, .object RX5), (gA Γ 4, .object RX6), (gA Γ 5, .object RX2)]
def gtop (Γ : gam) : Nat → Prop := fun q => (gH Γ).size ≤ q
def sB (tx : String) (j : Nat) : Int32 := Int32.ofNat ((tx.toList.getD j 'a').toNat)
def sS (Γ : gam) (i : Nat) (tx : String) (U : State) : Prop := va_O "java/lang/String" (gK Γ i) (gtop Γ) U (gH Γ) ∧ va_OF "java/lang/String" "coder" "B" (.int 0) (gK Γ i) (gtop Γ) U (gH Γ) ∧ va_OF "java/lang/String" "value" "[B" (.ref (gV Γ i)) (gK Γ i) (gtop Γ) U (gH Γ) ∧ va_T .byte (gV Γ i) tx.length (fun j => .int (sB tx j)) (gtop Γ) U (gH Γ)
theorem sS.moved {Γ : gam} {i : Nat} {tx : String} {u U : State} (hvm : u.vm.Alike U.vm) (h : sS Γ i tx u) : sS Γ i tx U := ⟨va_O.moved hvm h.1, va_OF.moved hvm h.2.1, va_OF.moved hvm h.2.2.1, va_T.moved hvm h.2.2.2⟩
abbrev eN : List String := ["java/util/NoSuchElementException", "java/lang/IllegalArgumentException", "java/lang/IllegalStateException", "java/lang/IndexOutOfBoundsException"]
def Kt (Γ : gam) (U : State) : Prop := ∀ (i : Nat) (q : String × Nat × String), sTab[i]? = some q → vk_R q.1 q.2.1 q.2.2 (gK Γ i) U ∧ sS Γ i q.2.2 U
/-- the class of the script's cell is one of int arrays -/
def scK (Γ : gam) (U : State) : Prop := ∃ k, U.vm.classes[gA Γ 6]? = some k ∧ ∃ comp, k.kind = .array comp .int
theorem scK.moved {Γ : gam} {u U : State} (hvm : u.vm.Alike U.vm) (h : scK Γ u) : scK Γ U := by
  obtain ⟨k, h1, comp, h2⟩ := h
  obtain ⟨k', hk', he⟩ := hvm.2.2 _ _ h1
  exact ⟨k', hk', comp, by rw [he]; exact h2⟩
def Ks (Γ : gam) (U : State) : Prop := va_Z "java/lang/String" "COMPACT_STRINGS" "Z" (.int 1) (gtop Γ) U (gH Γ) ∧ vx_Zq Bundle.tN "UNASSIGNED_STACK" Bundle.steD (gtop Γ) U (gH Γ) ∧ vx_Zq Bundle.tN "SUPPRESSED_SENTINEL" Bundle.listD (gtop Γ) U (gH Γ) ∧ va_Zq "jdk/internal/util/Preconditions" "SIOOBE_FORMATTER" "Ljava/util/function/BiFunction;" (gtop Γ) U (gH Γ) ∧ scK Γ U
abbrev dcn : List String := ["java/lang/RuntimeException", "java/lang/Exception", "java/lang/Throwable"]
abbrev dcl : List Cond := dcn.map fun X => Cond.declares ⟨X, "<init>", "(Ljava/lang/String;)V"⟩
def Ke (U : State) : Prop := (∀ X ∈ dcn, va_Nw (.declares ⟨X, "<init>", "(Ljava/lang/String;)V"⟩) U) ∧ (∀ E ∈ eN, va_Nw (.castable E E) U) ∧ (∀ E ∈ eN, ∀ F ∈ eN, E ≠ F → va_Nc E F U) ∧ va_AO RX5 U ∧ va_AO RX6 U ∧ va_AO RX2 U ∧ va_Nw (.methodLinkNest RX7 85 yX6_init RX7) U
def Kn (Γ : gam) (U : State) : Prop := va_K (gD Γ) cls_ (gty Γ) U ∧ Kt Γ U ∧ Ks Γ U ∧ Ke U
theorem Kn.warm {Γ : gam} {s U : State} (hW : s.WarmedH U.vm) (h : Kn Γ s) : Kn Γ U := ⟨va_K.moved hW.alike h.1, fun i q hq => ⟨(h.2.1 i q hq).1.warm hW, (h.2.1 i q hq).2.moved hW.alike⟩, ⟨va_Z.moved hW.alike h.2.2.1.1, vx_Zq.moved hW.alike h.2.2.1.2.1, vx_Zq.moved hW.alike h.2.2.1.2.2.1, va_Zq.moved hW.alike h.2.2.1.2.2.2.1, h.2.2.1.2.2.2.2.moved hW.alike⟩, ⟨fun X hX => (h.2.2.2.1 X hX).warmD hW, fun E hE => (h.2.2.2.2.1 E hE).warmC hW, fun E hE F hF n => (h.2.2.2.2.2.1 E hE F hF n).moved hW.alike, va_AO.moved hW.alike h.2.2.2.2.2.2.1, va_AO.moved hW.alike h.2.2.2.2.2.2.2.1, va_AO.moved hW.alike h.2.2.2.2.2.2.2.2.1, h.2.2.2.2.2.2.2.2.2.warmM hW⟩⟩
theorem Kn.same {Γ : gam} {u U : State} (hv : U.vm = u.vm) (h : Kn Γ u) : Kn Γ U := by
  have hA : u.vm.Alike U.vm := by rw [hv]; exact Vm.Alike.refl _
  exact ⟨va_K.moved hA h.1, fun i q hq => ⟨(h.2.1 i q hq).1.same hv, (h.2.1 i q hq).2.moved hA⟩, ⟨va_Z.moved hA h.2.2.1.1, vx_Zq.moved hA h.2.2.1.2.1, vx_Zq.moved hA h.2.2.1.2.2.1, va_Zq.moved hA h.2.2.1.2.2.2.1, h.2.2.1.2.2.2.2.moved hA⟩, ⟨fun X hX => (h.2.2.2.1 X hX).same rfl hv.symm, fun E hE => (h.2.2.2.2.1 E hE).same rfl hv.symm, fun E hE F hF n => (h.2.2.2.2.2.1 E hE F hF n).moved hA, va_AO.moved hA h.2.2.2.2.2.2.1, va_AO.moved hA h.2.2.2.2.2.2.2.1, va_AO.moved hA h.2.2.2.2.2.2.2.2.1, h.2.2.2.2.2.2.2.2.2.same rfl hv.symm⟩⟩
/-- the heap holds the store, and has n cells; what was there first is untouched -/
def Wd (Γ : gam) (σ : sto) (n : Nat) (H : Heap) : Prop := H.size = n ∧ (gH Γ).size ≤ n ∧ (∀ q, q < (gH Γ).size → H[q]? = (gH Γ)[q]?) ∧ ∀ (a : Nat) (e : va_E), σ a = some e → gtop Γ a ∧ a < n ∧ va_at (gD Γ) cls_ (a, e) H
def lowS (Γ : gam) (s : State) : Prop := (gH Γ).size ≤ s.heap.size ∧ ∀ q, q < (gH Γ).size → s.heap[q]? = (gH Γ)[q]?
/-- an outcome: a return with or without a value, or the class of what was thrown -/
abbrev oc : Type := Option Value ⊕ String
abbrev qp : Type := oc → sto → Nat → Prop
def gQ (Γ : gam) (Q : qp) : Array Value → State → Outcome → State → Prop := fun _ st o t => ∃ (r : Option Value) (σ : sto) (n : Nat), o = .returned r ∧ Q (.inl r) σ n ∧ Wd Γ σ n t.heap ∧ va_F (gtop Γ) st t
def gX (Γ : gam) (Q : qp) : String → State → State → Prop := fun E st t => ∃ (σ : sto) (n : Nat), Q (.inr E) σ n ∧ Wd Γ σ n t.heap ∧ va_F (gtop Γ) st t
def lvl : Nat → List (Option Value) → List (Nat × Value)
  | _, [] => []
  | k, none :: t => lvl (k + 1) t
  | k, some v :: t => (k, v) :: lvl (k + 1) t
theorem lvl_mem {q : Nat × Value} : ∀ {lv : List (Option Value)} {k : Nat}, q ∈ lvl k lv ↔ k ≤ q.1 ∧ lv[q.1 - k]? = some (some q.2)
  | [], k => by simp [lvl]
  | none :: t, k => by
    rw [lvl, lvl_mem (lv := t) (k := k + 1)]
    constructor
    · rintro ⟨h1, h2⟩
      refine ⟨by omega, ?_⟩
      rw [show q.1 - k = (q.1 - (k + 1)) + 1 by omega, List.getElem?_cons_succ]
      exact h2
    · rintro ⟨h1, h2⟩
      rcases Nat.eq_or_lt_of_le h1 with h | h
      · rw [h, Nat.sub_self] at h2
        simp at h2
      · refine ⟨h, ?_⟩
        rw [show q.1 - k = (q.1 - (k + 1)) + 1 by omega, List.getElem?_cons_succ] at h2
        exact h2
  | some v :: t, k => by
    rw [lvl, List.mem_cons, lvl_mem (lv := t) (k := k + 1)]
    constructor
    · rintro (h | ⟨h1, h2⟩)
      · subst h
        exact ⟨Nat.le_refl _, by simp⟩
      · refine ⟨by omega, ?_⟩
        rw [show q.1 - k = (q.1 - (k + 1)) + 1 by omega, List.getElem?_cons_succ]
        exact h2
    · rintro ⟨h1, h2⟩
      rcases Nat.eq_or_lt_of_le h1 with h | h
      · rw [h, Nat.sub_self] at h2
        simp at h2
        exact Or.inl (by rw [h2, h])
      · refine Or.inr ⟨h, ?_⟩
        rw [show q.1 - k = (q.1 - (k + 1)) + 1 by omega, List.getElem?_cons_succ] at h2
        exact h2
theorem lvl_at {lv : List (Option Value)} {ls : Array Slot} {nL i : Nat} {v : Value} (h : lv_has ls nL (lvl 0 lv)) (hi : lv[i]? = some (some v)) : ls[i]? = some (.val v) := h.2.2 (i, v) (lvl_mem.mpr ⟨Nat.zero_le _, by simpa using hi⟩)
/-- a store of one word, of two words: what stood across it is gone -/
def slk (lv : List (Option Value)) (i : Nat) : List (Option Value) := match i with
  | 0 => lv
  | j + 1 => match lv[j]? with
    | some (some (.long _)) => lv.set j none
    | some (some (.double _)) => lv.set j none
    | _ => lv
def sl1 (lv : List (Option Value)) (i : Nat) (v : Value) : List (Option Value) := (slk lv i).set i (some v)
def sl2 (lv : List (Option Value)) (i : Nat) (v : Value) : List (Option Value) := ((slk lv i).set i (some v)).set (i + 1) none
theorem slk_at {lv : List (Option Value)} {i j : Nat} {w : Value} (h : (slk lv i)[j]? = some (some w)) : lv[j]? = some (some w) ∧ ¬ (j + 1 = i ∧ w.category = 2) := by
  cases i with
  | zero => exact ⟨h, by rintro ⟨h, -⟩; omega⟩
  | succ i =>
    simp only [slk] at h
    by_cases hj : j = i
    · subst hj
      split at h
      · rename_i v hv
        have hlt : j < lv.length := (List.getElem?_eq_some_iff.mp hv).1
        simp [hlt] at h
      · rename_i v hv
        have hlt : j < lv.length := (List.getElem?_eq_some_iff.mp hv).1
        simp [hlt] at h
      · rename_i h1 h2
        refine ⟨h, fun q => ?_⟩
        cases w with
        | long v => exact h1 v h
        | double v => exact h2 v h
        | _ => simp [Value.category] at q
    · refine ⟨?_, by rintro ⟨q, -⟩; omega⟩
      split at h
      · rwa [List.getElem?_set_ne (fun q => hj q.symm)] at h
      · rwa [List.getElem?_set_ne (fun q => hj q.symm)] at h
      · exact h
theorem sl1_has {lv : List (Option Value)} {ls : Array Slot} {nL i : Nat} {v : Value} (h : lv_has ls nL ((i, v) :: (lvl 0 lv).filter (fun q => !(q.1 == i) && !(q.1 + 1 == i && q.2.category == 2)))) : lv_has ls nL (lvl 0 (sl1 lv i v)) := by
  refine ⟨h.1, h.2.1, fun q hq => h.2.2 q ?_⟩
  obtain ⟨-, hq⟩ := lvl_mem.mp hq
  rw [Nat.sub_zero] at hq
  by_cases hi : q.1 = i
  · have hlt : q.1 < (sl1 lv i v).length := (List.getElem?_eq_some_iff.mp hq).1
    have h5 : i < (slk lv i).length := by
      simp only [sl1, List.length_set] at hlt
      omega
    rw [sl1, hi, List.getElem?_set_self h5] at hq
    simp at hq
    exact List.mem_cons.mpr (Or.inl (by rw [hq, ← hi]))
  · rw [sl1, List.getElem?_set_ne (fun z => hi z.symm)] at hq
    obtain ⟨h1, h2⟩ := slk_at hq
    refine List.mem_cons.mpr (Or.inr (List.mem_filter.mpr ⟨lvl_mem.mpr ⟨Nat.zero_le _, by simpa using h1⟩, ?_⟩))
    simp only [Bool.and_eq_true, Bool.not_eq_true', beq_eq_false_iff_ne, Bool.and_eq_false_iff, ne_eq]
    refine ⟨hi, ?_⟩
    by_cases h3 : q.1 + 1 = i
    · exact Or.inr fun z => h2 ⟨h3, z⟩
    · exact Or.inl h3
theorem sl2_has {lv : List (Option Value)} {ls : Array Slot} {nL i : Nat} {v : Value} (h : lv_has ls nL ((i, v) :: (lvl 0 lv).filter (fun q => !(q.1 == i) && (!(q.1 == i + 1) && !(q.1 + 1 == i && q.2.category == 2))))) : lv_has ls nL (lvl 0 (sl2 lv i v)) := by
  refine ⟨h.1, h.2.1, fun q hq => h.2.2 q ?_⟩
  obtain ⟨-, hq⟩ := lvl_mem.mp hq
  rw [Nat.sub_zero] at hq
  have hn : q.1 ≠ i + 1 := fun z => by
    have hlt : q.1 < (sl2 lv i v).length := (List.getElem?_eq_some_iff.mp hq).1
    rw [sl2, z, List.getElem?_set_self (by rw [← z]; simpa [sl2] using hlt)] at hq
    simp at hq
  rw [sl2, List.getElem?_set_ne (fun z => hn z.symm)] at hq
  by_cases hi : q.1 = i
  · have hlt : q.1 < ((slk lv i).set i (some v)).length := (List.getElem?_eq_some_iff.mp hq).1
    have h5 : i < (slk lv i).length := by
      simp only [List.length_set] at hlt
      omega
    rw [hi, List.getElem?_set_self h5] at hq
    simp at hq
    exact List.mem_cons.mpr (Or.inl (by rw [hq, ← hi]))
  · rw [List.getElem?_set_ne (fun z => hi z.symm)] at hq
    obtain ⟨h1, h2⟩ := slk_at hq
    refine List.mem_cons.mpr (Or.inr (List.mem_filter.mpr ⟨lvl_mem.mpr ⟨Nat.zero_le _, by simpa using h1⟩, ?_⟩))
    simp only [Bool.and_eq_true, Bool.not_eq_true', beq_eq_false_iff_ne, Bool.and_eq_false_iff, ne_eq]
    refine ⟨hi, hn, ?_⟩
    by_cases h3 : q.1 + 1 = i
    · exact Or.inr fun z => h2 ⟨h3, z⟩
    · exact Or.inl h3
/-- fewer locals known -/
def lle : List (Option Value) → List (Option Value) → Prop
  | [], _ => True
  | none :: t, [] => lle t []
  | some _ :: _, [] => False
  | none :: t, _ :: u => lle t u
  | some v :: t, x :: u => x = some v ∧ lle t u
theorem lle_at {i : Nat} {v : Value} : ∀ {a b : List (Option Value)} {i : Nat}, lle a b → a[i]? = some (some v) → b[i]? = some (some v)
  | [], _, i, _, h => by simp at h
  | none :: t, [], 0, _, h => by simp at h
  | none :: t, [], i + 1, h, h1 => by
    have h2 := lle_at (a := t) (b := []) (i := i) h (by simpa using h1)
    simp at h2
  | some _ :: _, [], _, h, _ => False.elim h
  | none :: t, x :: u, 0, _, h => by simp at h
  | none :: t, x :: u, i + 1, h, h1 => by
    have h2 := lle_at (a := t) (b := u) (i := i) h (by simpa using h1)
    simpa using h2
  | some w :: t, x :: u, 0, h, h1 => by
    have h2 : x = some w := h.1
    simp at h1
    simp [h2, h1]
  | some w :: t, x :: u, i + 1, h, h1 => by
    have h2 := lle_at (a := t) (b := u) (i := i) h.2 (by simpa using h1)
    simpa using h2
theorem lle_has {a b : List (Option Value)} {ls : Array Slot} {nL : Nat} (h : lle a b) (hl : lv_has ls nL (lvl 0 b)) : lv_has ls nL (lvl 0 a) := by
  refine ⟨hl.1, hl.2.1, fun q hq => ?_⟩
  obtain ⟨-, hq⟩ := lvl_mem.mp hq
  rw [Nat.sub_zero] at hq
  exact lvl_at hl (lle_at (i := q.1) h hq)
def cx (Γ : gam) (M : mth) (p : Program) (s : State) (m : MethodId) (args : Array Value) (meth : Method) (c : Code) : Prop :=
  CallFix p m c M.2.1 M.2.2.1 s args tb M.1.cls ∧ meth.sig.returnType = M.2.2.2.1 ∧ meth.locks = false ∧ meth.name = M.1.name ∧ c.exceptionTable.toList = tableOf M.2.2.2.2 ∧ (gL Γ).stackTraces = false ∧ Kn Γ s ∧ lowS Γ s
/-- from pc, with these locals, this stack, this store of n cells: the method comes to an end with Q -/
def Go (Γ : gam) (R : Room) (M : mth) (Q : qp) (cells slots pc : Nat) (lv : List (Option Value)) (st : List Value) (σ : sto) (n : Nat) : Prop :=
  ∀ (p : Program) (e : Env) (s : State) (m : MethodId) (args : Array Value) (below : List Frame) (meth : Method) (c : Code) (H : Heap) (locs : List Loc) (ls : Array Slot),
    cx Γ M p s m args meth c → Wd Γ σ n H → va_S (gtop Γ) s.heap H locs → lv_has ls M.2.2.1 (lvl 0 lv) →
    W p (gL Γ) e R s m args below meth c H locs cells slots (vx_MQ below (gQ Γ Q) (gX Γ Q) args s R.cells R.slots (gtop Γ)) (F0 m pc ls st)
section GoRules
variable {Γ : gam} {R : Room} {M : mth} {Q : qp} {cells slots pc : Nat} {lv : List (Option Value)} {st : List Value} {σ : sto} {n : Nat}
theorem go_lv {lw : List (Option Value)} (h : lle lw lv) (k : Go Γ R M Q cells slots pc lw st σ n) : Go Γ R M Q cells slots pc lv st σ n := fun p e s m args below meth c H locs ls C W0 S0 L0 => k p e s m args below meth c H locs ls C W0 S0 (lle_has h L0)
theorem go_iconst {z : Int} {v : Int32} (hd : decode M.2.1 pc = .ok (.iconst z, 1)) (hv : Int32.ofInt z = v) (k : Go Γ R M Q cells slots (pc + 1) lv (.int v :: st) σ n) : Go Γ R M Q cells slots pc lv (st) σ n := by
  intro p e s m args below meth c H locs ls C W0 S0 L0
  obtain ⟨⟨hx, hb, hml, hown, hts⟩, hr, hlk, hnm, htb, htr, hK, hlo⟩ := id C
  exact lv_iconst hx hb hd hv (k p e s m args below meth c H locs ls C W0 S0 L0)
theorem go_bipush {z : Int} {v : Int32} (hd : decode M.2.1 pc = .ok (.bipush z, 2)) (hv : (Int8.ofInt z).toInt32 = v) (k : Go Γ R M Q cells slots (pc + 2) lv (.int v :: st) σ n) : Go Γ R M Q cells slots pc lv (st) σ n := by
  intro p e s m args below meth c H locs ls C W0 S0 L0
  obtain ⟨⟨hx, hb, hml, hown, hts⟩, hr, hlk, hnm, htb, htr, hK, hlo⟩ := id C
  exact lv_bipush hx hb hd hv (k p e s m args below meth c H locs ls C W0 S0 L0)
theorem go_sipush {z : Int} {v : Int32} (hd : decode M.2.1 pc = .ok (.sipush z, 3)) (hv : (Int16.ofInt z).toInt32 = v) (k : Go Γ R M Q cells slots (pc + 3) lv (.int v :: st) σ n) : Go Γ R M Q cells slots pc lv (st) σ n := by
  intro p e s m args below meth c H locs ls C W0 S0 L0
  obtain ⟨⟨hx, hb, hml, hown, hts⟩, hr, hlk, hnm, htb, htr, hK, hlo⟩ := id C
  exact lv_sipush hx hb hd hv (k p e s m args below meth c H locs ls C W0 S0 L0)
theorem go_lconst {z : Fin 2} {v : Int64} (hd : decode M.2.1 pc = .ok (.lconst z, 1)) (hv : Int64.ofNat (z : Nat) = v) (k : Go Γ R M Q cells slots (pc + 1) lv (.long v :: st) σ n) : Go Γ R M Q cells slots pc lv (st) σ n := by
  intro p e s m args below meth c H locs ls C W0 S0 L0
  obtain ⟨⟨hx, hb, hml, hown, hts⟩, hr, hlk, hnm, htb, htr, hK, hlo⟩ := id C
  exact lv_lconst hx hb hd hv (k p e s m args below meth c H locs ls C W0 S0 L0)
theorem go_null  (hd : decode M.2.1 pc = .ok (.aconst_null, 1)) (k : Go Γ R M Q cells slots (pc + 1) lv (.null :: st) σ n) : Go Γ R M Q cells slots pc lv (st) σ n := by
  intro p e s m args below meth c H locs ls C W0 S0 L0
  obtain ⟨⟨hx, hb, hml, hown, hts⟩, hr, hlk, hnm, htb, htr, hK, hlo⟩ := id C
  exact lv_null hx hb hd (k p e s m args below meth c H locs ls C W0 S0 L0)
theorem go_ldc {ix : Nat} {v : Int32} (hc : Cond.constant M.1.cls ix v ∈ tb) (hd : decode M.2.1 pc = .ok (.ldc ix, 2)) (k : Go Γ R M Q cells slots (pc + 2) lv (.int v :: st) σ n) : Go Γ R M Q cells slots pc lv (st) σ n := by
  intro p e s m args below meth c H locs ls C W0 S0 L0
  obtain ⟨⟨hx, hb, hml, hown, hts⟩, hr, hlk, hnm, htb, htr, hK, hlo⟩ := id C
  exact lv_ldc hx hb hown (hts _ hc) hd (k p e s m args below meth c H locs ls C W0 S0 L0)
theorem go_ldcw {ix : Nat} {v : Int32} (hc : Cond.constant M.1.cls ix v ∈ tb) (hd : decode M.2.1 pc = .ok (.ldc_w ix, 3)) (k : Go Γ R M Q cells slots (pc + 3) lv (.int v :: st) σ n) : Go Γ R M Q cells slots pc lv (st) σ n := by
  intro p e s m args below meth c H locs ls C W0 S0 L0
  obtain ⟨⟨hx, hb, hml, hown, hts⟩, hr, hlk, hnm, htb, htr, hK, hlo⟩ := id C
  exact lv_ldcw hx hb hown (hts _ hc) hd (k p e s m args below meth c H locs ls C W0 S0 L0)
theorem go_ldc2 {ix : Nat} {v : Int64} (hc : Cond.constantLong M.1.cls ix v ∈ tb) (hd : decode M.2.1 pc = .ok (.ldc2_w ix, 3)) (k : Go Γ R M Q cells slots (pc + 3) lv (.long v :: st) σ n) : Go Γ R M Q cells slots pc lv (st) σ n := by
  intro p e s m args below meth c H locs ls C W0 S0 L0
  obtain ⟨⟨hx, hb, hml, hown, hts⟩, hr, hlk, hnm, htb, htr, hK, hlo⟩ := id C
  exact lv_ldc2 hx hb hown (hts _ hc) hd (k p e s m args below meth c H locs ls C W0 S0 L0)
theorem go_iload_n {z : Fin 4} {x : Int32} (hd : decode M.2.1 pc = .ok (.iload_n z, 1)) (hl : lv[(z : Nat)]? = some (some (.int x))) (k : Go Γ R M Q cells slots (pc + 1) lv (.int x :: st) σ n) : Go Γ R M Q cells slots pc lv (st) σ n := by
  intro p e s m args below meth c H locs ls C W0 S0 L0
  obtain ⟨⟨hx, hb, hml, hown, hts⟩, hr, hlk, hnm, htb, htr, hK, hlo⟩ := id C
  exact lv_iload_n hx hb hd rfl (lvl_at L0 hl) (k p e s m args below meth c H locs ls C W0 S0 L0)
theorem go_iload {i : Nat} {x : Int32} (hd : decode M.2.1 pc = .ok (.iload i, 2)) (hl : lv[i]? = some (some (.int x))) (k : Go Γ R M Q cells slots (pc + 2) lv (.int x :: st) σ n) : Go Γ R M Q cells slots pc lv (st) σ n := by
  intro p e s m args below meth c H locs ls C W0 S0 L0
  obtain ⟨⟨hx, hb, hml, hown, hts⟩, hr, hlk, hnm, htb, htr, hK, hlo⟩ := id C
  exact lv_iload hx hb hd (lvl_at L0 hl) (k p e s m args below meth c H locs ls C W0 S0 L0)
theorem go_lload_n {z : Fin 4} {x : Int64} (hd : decode M.2.1 pc = .ok (.lload_n z, 1)) (hl : lv[(z : Nat)]? = some (some (.long x))) (k : Go Γ R M Q cells slots (pc + 1) lv (.long x :: st) σ n) : Go Γ R M Q cells slots pc lv (st) σ n := by
  intro p e s m args below meth c H locs ls C W0 S0 L0
  obtain ⟨⟨hx, hb, hml, hown, hts⟩, hr, hlk, hnm, htb, htr, hK, hlo⟩ := id C
  exact lv_lload_n hx hb hd rfl (lvl_at L0 hl) (k p e s m args below meth c H locs ls C W0 S0 L0)
theorem go_lload {i : Nat} {x : Int64} (hd : decode M.2.1 pc = .ok (.lload i, 2)) (hl : lv[i]? = some (some (.long x))) (k : Go Γ R M Q cells slots (pc + 2) lv (.long x :: st) σ n) : Go Γ R M Q cells slots pc lv (st) σ n := by
  intro p e s m args below meth c H locs ls C W0 S0 L0
  obtain ⟨⟨hx, hb, hml, hown, hts⟩, hr, hlk, hnm, htb, htr, hK, hlo⟩ := id C
  exact lv_lload hx hb hd (lvl_at L0 hl) (k p e s m args below meth c H locs ls C W0 S0 L0)
theorem go_aload_n {z : Fin 4} {x : Nat} (hd : decode M.2.1 pc = .ok (.aload_n z, 1)) (hl : lv[(z : Nat)]? = some (some (.ref x))) (k : Go Γ R M Q cells slots (pc + 1) lv (.ref x :: st) σ n) : Go Γ R M Q cells slots pc lv (st) σ n := by
  intro p e s m args below meth c H locs ls C W0 S0 L0
  obtain ⟨⟨hx, hb, hml, hown, hts⟩, hr, hlk, hnm, htb, htr, hK, hlo⟩ := id C
  exact lv_aload_n hx hb hd rfl (lvl_at L0 hl) (k p e s m args below meth c H locs ls C W0 S0 L0)
theorem go_aload {i : Nat} {x : Nat} (hd : decode M.2.1 pc = .ok (.aload i, 2)) (hl : lv[i]? = some (some (.ref x))) (k : Go Γ R M Q cells slots (pc + 2) lv (.ref x :: st) σ n) : Go Γ R M Q cells slots pc lv (st) σ n := by
  intro p e s m args below meth c H locs ls C W0 S0 L0
  obtain ⟨⟨hx, hb, hml, hown, hts⟩, hr, hlk, hnm, htb, htr, hK, hlo⟩ := id C
  exact lv_aload hx hb hd (lvl_at L0 hl) (k p e s m args below meth c H locs ls C W0 S0 L0)
theorem go_aload_nN {z : Fin 4} (hd : decode M.2.1 pc = .ok (.aload_n z, 1)) (hl : lv[(z : Nat)]? = some (some .null)) (k : Go Γ R M Q cells slots (pc + 1) lv (.null :: st) σ n) : Go Γ R M Q cells slots pc lv (st) σ n := by
  intro p e s m args below meth c H locs ls C W0 S0 L0
  obtain ⟨⟨hx, hb, hml, hown, hts⟩, hr, hlk, hnm, htb, htr, hK, hlo⟩ := id C
  exact lv_aload_nN hx hb hd rfl (lvl_at L0 hl) (k p e s m args below meth c H locs ls C W0 S0 L0)
theorem go_istore_n {z : Fin 4} {x : Int32} {lw : List (Option Value)} (hd : decode M.2.1 pc = .ok (.istore_n z, 1)) (hn : (z : Nat) < M.2.2.1) (hlv : sl1 lv z (.int x) = lw) (k : Go Γ R M Q cells slots (pc + 1) lw st σ n) : Go Γ R M Q cells slots pc lv (.int x :: st) σ n := by
  subst hlv
  intro p e s m args below meth c H locs ls C W0 S0 L0
  obtain ⟨⟨hx, hb, hml, hown, hts⟩, hr, hlk, hnm, htb, htr, hK, hlo⟩ := id C
  exact lv_istore_n hx hb hd rfl L0 hn rfl (fun ls' L1 => k p e s m args below meth c H locs ls' C W0 S0 (sl1_has L1))
theorem go_istore {i : Nat} {x : Int32} {lw : List (Option Value)} (hd : decode M.2.1 pc = .ok (.istore i, 2)) (hn : i < M.2.2.1) (hlv : sl1 lv i (.int x) = lw) (k : Go Γ R M Q cells slots (pc + 2) lw st σ n) : Go Γ R M Q cells slots pc lv (.int x :: st) σ n := by
  subst hlv
  intro p e s m args below meth c H locs ls C W0 S0 L0
  obtain ⟨⟨hx, hb, hml, hown, hts⟩, hr, hlk, hnm, htb, htr, hK, hlo⟩ := id C
  exact lv_istore hx hb hd L0 hn rfl (fun ls' L1 => k p e s m args below meth c H locs ls' C W0 S0 (sl1_has L1))
theorem go_lstore_n {z : Fin 4} {x : Int64} {lw : List (Option Value)} (hd : decode M.2.1 pc = .ok (.lstore_n z, 1)) (hn : (z : Nat) + 1 < M.2.2.1) (hlv : sl2 lv z (.long x) = lw) (k : Go Γ R M Q cells slots (pc + 1) lw st σ n) : Go Γ R M Q cells slots pc lv (.long x :: st) σ n := by
  subst hlv
  intro p e s m args below meth c H locs ls C W0 S0 L0
  obtain ⟨⟨hx, hb, hml, hown, hts⟩, hr, hlk, hnm, htb, htr, hK, hlo⟩ := id C
  exact lv_lstore_n hx hb hd rfl L0 hn rfl (fun ls' L1 => k p e s m args below meth c H locs ls' C W0 S0 (sl2_has L1))
theorem go_lstore {i : Nat} {x : Int64} {lw : List (Option Value)} (hd : decode M.2.1 pc = .ok (.lstore i, 2)) (hn : i + 1 < M.2.2.1) (hlv : sl2 lv i (.long x) = lw) (k : Go Γ R M Q cells slots (pc + 2) lw st σ n) : Go Γ R M Q cells slots pc lv (.long x :: st) σ n := by
  subst hlv
  intro p e s m args below meth c H locs ls C W0 S0 L0
  obtain ⟨⟨hx, hb, hml, hown, hts⟩, hr, hlk, hnm, htb, htr, hK, hlo⟩ := id C
  exact lv_lstore hx hb hd L0 hn rfl (fun ls' L1 => k p e s m args below meth c H locs ls' C W0 S0 (sl2_has L1))
theorem go_astore_n {z : Fin 4} {x : Nat} {lw : List (Option Value)} (hd : decode M.2.1 pc = .ok (.astore_n z, 1)) (hn : (z : Nat) < M.2.2.1) (hlv : sl1 lv z (.ref x) = lw) (k : Go Γ R M Q cells slots (pc + 1) lw st σ n) : Go Γ R M Q cells slots pc lv (.ref x :: st) σ n := by
  subst hlv
  intro p e s m args below meth c H locs ls C W0 S0 L0
  obtain ⟨⟨hx, hb, hml, hown, hts⟩, hr, hlk, hnm, htb, htr, hK, hlo⟩ := id C
  exact lv_astore_n hx hb hd rfl L0 hn rfl (fun ls' L1 => k p e s m args below meth c H locs ls' C W0 S0 (sl1_has L1))
theorem go_astore {i : Nat} {x : Nat} {lw : List (Option Value)} (hd : decode M.2.1 pc = .ok (.astore i, 2)) (hn : i < M.2.2.1) (hlv : sl1 lv i (.ref x) = lw) (k : Go Γ R M Q cells slots (pc + 2) lw st σ n) : Go Γ R M Q cells slots pc lv (.ref x :: st) σ n := by
  subst hlv
  intro p e s m args below meth c H locs ls C W0 S0 L0
  obtain ⟨⟨hx, hb, hml, hown, hts⟩, hr, hlk, hnm, htb, htr, hK, hlo⟩ := id C
  exact lv_astore hx hb hd L0 hn rfl (fun ls' L1 => k p e s m args below meth c H locs ls' C W0 S0 (sl1_has L1))
theorem go_iinc {i : Nat} {z : Int} {x v : Int32} {lw : List (Option Value)} (hd : decode M.2.1 pc = .ok (.iinc i z, 3)) (hl : lv[i]? = some (some (.int x))) (hv : Int32.ofInt z = v) (hn : i < M.2.2.1) (hlv : sl1 lv i (.int (x + v)) = lw) (k : Go Γ R M Q cells slots (pc + 3) lw st σ n) : Go Γ R M Q cells slots pc lv st σ n := by
  subst hlv
  intro p e s m args below meth c H locs ls C W0 S0 L0
  obtain ⟨⟨hx, hb, hml, hown, hts⟩, hr, hlk, hnm, htb, htr, hK, hlo⟩ := id C
  obtain ⟨j, hj⟩ : ∃ j : Nat, (lvl 0 lv)[j]? = some (i, .int x) := List.getElem?_of_mem (lvl_mem.mpr ⟨Nat.zero_le _, by simpa using hl⟩)
  exact lv_iinc hx hb hd L0 hj (by rw [hv]) hn rfl (fun ls' L1 => k p e s m args below meth c H locs ls' C W0 S0 (sl1_has L1))
theorem go_iadd {x y : Int32} (hd : decode M.2.1 pc = .ok (.iadd, 1)) (k : Go Γ R M Q cells slots (pc + 1) lv (.int (x + y) :: st) σ n) : Go Γ R M Q cells slots pc lv (.int y :: .int x :: st) σ n := by
  intro p e s m args below meth c H locs ls C W0 S0 L0
  obtain ⟨⟨hx, hb, hml, hown, hts⟩, hr, hlk, hnm, htb, htr, hK, hlo⟩ := id C
  exact lv_iadd hx hb hd (k p e s m args below meth c H locs ls C W0 S0 L0)
theorem go_isub {x y : Int32} (hd : decode M.2.1 pc = .ok (.isub, 1)) (k : Go Γ R M Q cells slots (pc + 1) lv (.int (x - y) :: st) σ n) : Go Γ R M Q cells slots pc lv (.int y :: .int x :: st) σ n := by
  intro p e s m args below meth c H locs ls C W0 S0 L0
  obtain ⟨⟨hx, hb, hml, hown, hts⟩, hr, hlk, hnm, htb, htr, hK, hlo⟩ := id C
  exact lv_isub hx hb hd (k p e s m args below meth c H locs ls C W0 S0 L0)
theorem go_imul {x y : Int32} (hd : decode M.2.1 pc = .ok (.imul, 1)) (k : Go Γ R M Q cells slots (pc + 1) lv (.int (x * y) :: st) σ n) : Go Γ R M Q cells slots pc lv (.int y :: .int x :: st) σ n := by
  intro p e s m args below meth c H locs ls C W0 S0 L0
  obtain ⟨⟨hx, hb, hml, hown, hts⟩, hr, hlk, hnm, htb, htr, hK, hlo⟩ := id C
  exact lv_imul hx hb hd (k p e s m args below meth c H locs ls C W0 S0 L0)
theorem go_iand {x y : Int32} (hd : decode M.2.1 pc = .ok (.iand, 1)) (k : Go Γ R M Q cells slots (pc + 1) lv (.int (x &&& y) :: st) σ n) : Go Γ R M Q cells slots pc lv (.int y :: .int x :: st) σ n := by
  intro p e s m args below meth c H locs ls C W0 S0 L0
  obtain ⟨⟨hx, hb, hml, hown, hts⟩, hr, hlk, hnm, htb, htr, hK, hlo⟩ := id C
  exact lv_iand hx hb hd (k p e s m args below meth c H locs ls C W0 S0 L0)
theorem go_ior {x y : Int32} (hd : decode M.2.1 pc = .ok (.ior, 1)) (k : Go Γ R M Q cells slots (pc + 1) lv (.int (x ||| y) :: st) σ n) : Go Γ R M Q cells slots pc lv (.int y :: .int x :: st) σ n := by
  intro p e s m args below meth c H locs ls C W0 S0 L0
  obtain ⟨⟨hx, hb, hml, hown, hts⟩, hr, hlk, hnm, htb, htr, hK, hlo⟩ := id C
  exact lv_ior hx hb hd (k p e s m args below meth c H locs ls C W0 S0 L0)
theorem go_ixor {x y : Int32} (hd : decode M.2.1 pc = .ok (.ixor, 1)) (k : Go Γ R M Q cells slots (pc + 1) lv (.int (x ^^^ y) :: st) σ n) : Go Γ R M Q cells slots pc lv (.int y :: .int x :: st) σ n := by
  intro p e s m args below meth c H locs ls C W0 S0 L0
  obtain ⟨⟨hx, hb, hml, hown, hts⟩, hr, hlk, hnm, htb, htr, hK, hlo⟩ := id C
  exact lv_ixor hx hb hd (k p e s m args below meth c H locs ls C W0 S0 L0)
theorem go_ishl {x y : Int32} (hd : decode M.2.1 pc = .ok (.ishl, 1)) (k : Go Γ R M Q cells slots (pc + 1) lv (.int (x <<< (y &&& 31)) :: st) σ n) : Go Γ R M Q cells slots pc lv (.int y :: .int x :: st) σ n := by
  intro p e s m args below meth c H locs ls C W0 S0 L0
  obtain ⟨⟨hx, hb, hml, hown, hts⟩, hr, hlk, hnm, htb, htr, hK, hlo⟩ := id C
  exact lv_ishl hx hb hd (k p e s m args below meth c H locs ls C W0 S0 L0)
theorem go_ishr {x y : Int32} (hd : decode M.2.1 pc = .ok (.ishr, 1)) (k : Go Γ R M Q cells slots (pc + 1) lv (.int (x >>> (y &&& 31)) :: st) σ n) : Go Γ R M Q cells slots pc lv (.int y :: .int x :: st) σ n := by
  intro p e s m args below meth c H locs ls C W0 S0 L0
  obtain ⟨⟨hx, hb, hml, hown, hts⟩, hr, hlk, hnm, htb, htr, hK, hlo⟩ := id C
  exact lv_ishr hx hb hd (k p e s m args below meth c H locs ls C W0 S0 L0)
theorem go_iushr {x y : Int32} (hd : decode M.2.1 pc = .ok (.iushr, 1)) (k : Go Γ R M Q cells slots (pc + 1) lv (.int ((x.toUInt32 >>> (y.toUInt32 &&& Int32.toUInt32 31)).toInt32) :: st) σ n) : Go Γ R M Q cells slots pc lv (.int y :: .int x :: st) σ n := by
  intro p e s m args below meth c H locs ls C W0 S0 L0
  obtain ⟨⟨hx, hb, hml, hown, hts⟩, hr, hlk, hnm, htb, htr, hK, hlo⟩ := id C
  exact lv_iushr hx hb hd rfl (k p e s m args below meth c H locs ls C W0 S0 L0)
theorem go_idiv {x y : Int32} (hd : decode M.2.1 pc = .ok (.idiv, 1)) (hne : ¬ y = 0) (k : Go Γ R M Q cells slots (pc + 1) lv (.int (x / y) :: st) σ n) : Go Γ R M Q cells slots pc lv (.int y :: .int x :: st) σ n := by
  intro p e s m args below meth c H locs ls C W0 S0 L0
  obtain ⟨⟨hx, hb, hml, hown, hts⟩, hr, hlk, hnm, htb, htr, hK, hlo⟩ := id C
  exact lv_idiv hx hb hd hne (k p e s m args below meth c H locs ls C W0 S0 L0)
theorem go_irem {x y : Int32} (hd : decode M.2.1 pc = .ok (.irem, 1)) (hne : ¬ y = 0) (k : Go Γ R M Q cells slots (pc + 1) lv (.int (x - x / y * y) :: st) σ n) : Go Γ R M Q cells slots pc lv (.int y :: .int x :: st) σ n := by
  intro p e s m args below meth c H locs ls C W0 S0 L0
  obtain ⟨⟨hx, hb, hml, hown, hts⟩, hr, hlk, hnm, htb, htr, hK, hlo⟩ := id C
  exact lv_irem hx hb hd hne (k p e s m args below meth c H locs ls C W0 S0 L0)
theorem go_ineg {x : Int32} (hd : decode M.2.1 pc = .ok (.ineg, 1)) (k : Go Γ R M Q cells slots (pc + 1) lv (.int (-x) :: st) σ n) : Go Γ R M Q cells slots pc lv (.int x :: st) σ n := by
  intro p e s m args below meth c H locs ls C W0 S0 L0
  obtain ⟨⟨hx, hb, hml, hown, hts⟩, hr, hlk, hnm, htb, htr, hK, hlo⟩ := id C
  exact lv_ineg hx hb hd (k p e s m args below meth c H locs ls C W0 S0 L0)
theorem go_ladd {x y : Int64} (hd : decode M.2.1 pc = .ok (.ladd, 1)) (k : Go Γ R M Q cells slots (pc + 1) lv (.long (x + y) :: st) σ n) : Go Γ R M Q cells slots pc lv (.long y :: .long x :: st) σ n := by
  intro p e s m args below meth c H locs ls C W0 S0 L0
  obtain ⟨⟨hx, hb, hml, hown, hts⟩, hr, hlk, hnm, htb, htr, hK, hlo⟩ := id C
  exact lv_ladd hx hb hd (k p e s m args below meth c H locs ls C W0 S0 L0)
theorem go_lsub {x y : Int64} (hd : decode M.2.1 pc = .ok (.lsub, 1)) (k : Go Γ R M Q cells slots (pc + 1) lv (.long (x - y) :: st) σ n) : Go Γ R M Q cells slots pc lv (.long y :: .long x :: st) σ n := by
  intro p e s m args below meth c H locs ls C W0 S0 L0
  obtain ⟨⟨hx, hb, hml, hown, hts⟩, hr, hlk, hnm, htb, htr, hK, hlo⟩ := id C
  exact lv_lsub hx hb hd (k p e s m args below meth c H locs ls C W0 S0 L0)
theorem go_lmul {x y : Int64} (hd : decode M.2.1 pc = .ok (.lmul, 1)) (k : Go Γ R M Q cells slots (pc + 1) lv (.long (x * y) :: st) σ n) : Go Γ R M Q cells slots pc lv (.long y :: .long x :: st) σ n := by
  intro p e s m args below meth c H locs ls C W0 S0 L0
  obtain ⟨⟨hx, hb, hml, hown, hts⟩, hr, hlk, hnm, htb, htr, hK, hlo⟩ := id C
  exact lv_lmul hx hb hd (k p e s m args below meth c H locs ls C W0 S0 L0)
theorem go_land {x y : Int64} (hd : decode M.2.1 pc = .ok (.land, 1)) (k : Go Γ R M Q cells slots (pc + 1) lv (.long (x &&& y) :: st) σ n) : Go Γ R M Q cells slots pc lv (.long y :: .long x :: st) σ n := by
  intro p e s m args below meth c H locs ls C W0 S0 L0
  obtain ⟨⟨hx, hb, hml, hown, hts⟩, hr, hlk, hnm, htb, htr, hK, hlo⟩ := id C
  exact lv_land hx hb hd (k p e s m args below meth c H locs ls C W0 S0 L0)
theorem go_lor {x y : Int64} (hd : decode M.2.1 pc = .ok (.lor, 1)) (k : Go Γ R M Q cells slots (pc + 1) lv (.long (x ||| y) :: st) σ n) : Go Γ R M Q cells slots pc lv (.long y :: .long x :: st) σ n := by
  intro p e s m args below meth c H locs ls C W0 S0 L0
  obtain ⟨⟨hx, hb, hml, hown, hts⟩, hr, hlk, hnm, htb, htr, hK, hlo⟩ := id C
  exact lv_lor hx hb hd (k p e s m args below meth c H locs ls C W0 S0 L0)
theorem go_lxor {x y : Int64} (hd : decode M.2.1 pc = .ok (.lxor, 1)) (k : Go Γ R M Q cells slots (pc + 1) lv (.long (x ^^^ y) :: st) σ n) : Go Γ R M Q cells slots pc lv (.long y :: .long x :: st) σ n := by
  intro p e s m args below meth c H locs ls C W0 S0 L0
  obtain ⟨⟨hx, hb, hml, hown, hts⟩, hr, hlk, hnm, htb, htr, hK, hlo⟩ := id C
  exact lv_lxor hx hb hd (k p e s m args below meth c H locs ls C W0 S0 L0)
theorem go_ldiv {x y : Int64} (hd : decode M.2.1 pc = .ok (.ldiv, 1)) (hne : ¬ y = 0) (k : Go Γ R M Q cells slots (pc + 1) lv (.long (x / y) :: st) σ n) : Go Γ R M Q cells slots pc lv (.long y :: .long x :: st) σ n := by
  intro p e s m args below meth c H locs ls C W0 S0 L0
  obtain ⟨⟨hx, hb, hml, hown, hts⟩, hr, hlk, hnm, htb, htr, hK, hlo⟩ := id C
  exact lv_ldiv hx hb hd hne (k p e s m args below meth c H locs ls C W0 S0 L0)
theorem go_lrem {x y : Int64} (hd : decode M.2.1 pc = .ok (.lrem, 1)) (hne : ¬ y = 0) (k : Go Γ R M Q cells slots (pc + 1) lv (.long (x - x / y * y) :: st) σ n) : Go Γ R M Q cells slots pc lv (.long y :: .long x :: st) σ n := by
  intro p e s m args below meth c H locs ls C W0 S0 L0
  obtain ⟨⟨hx, hb, hml, hown, hts⟩, hr, hlk, hnm, htb, htr, hK, hlo⟩ := id C
  exact lv_lrem hx hb hd hne (k p e s m args below meth c H locs ls C W0 S0 L0)
theorem go_lshl {x : Int64} {y : Int32} (hd : decode M.2.1 pc = .ok (.lshl, 1)) (k : Go Γ R M Q cells slots (pc + 1) lv (.long (x <<< (y.toInt64 &&& 63)) :: st) σ n) : Go Γ R M Q cells slots pc lv (.int y :: .long x :: st) σ n := by
  intro p e s m args below meth c H locs ls C W0 S0 L0
  obtain ⟨⟨hx, hb, hml, hown, hts⟩, hr, hlk, hnm, htb, htr, hK, hlo⟩ := id C
  exact lv_lshl hx hb hd rfl (k p e s m args below meth c H locs ls C W0 S0 L0)
theorem go_lshr {x : Int64} {y : Int32} (hd : decode M.2.1 pc = .ok (.lshr, 1)) (k : Go Γ R M Q cells slots (pc + 1) lv (.long (x >>> (y.toInt64 &&& 63)) :: st) σ n) : Go Γ R M Q cells slots pc lv (.int y :: .long x :: st) σ n := by
  intro p e s m args below meth c H locs ls C W0 S0 L0
  obtain ⟨⟨hx, hb, hml, hown, hts⟩, hr, hlk, hnm, htb, htr, hK, hlo⟩ := id C
  exact lv_lshr hx hb hd rfl (k p e s m args below meth c H locs ls C W0 S0 L0)
theorem go_i2l {x : Int32} (hd : decode M.2.1 pc = .ok (.i2l, 1)) (k : Go Γ R M Q cells slots (pc + 1) lv (.long x.toInt64 :: st) σ n) : Go Γ R M Q cells slots pc lv (.int x :: st) σ n := by
  intro p e s m args below meth c H locs ls C W0 S0 L0
  obtain ⟨⟨hx, hb, hml, hown, hts⟩, hr, hlk, hnm, htb, htr, hK, hlo⟩ := id C
  exact lv_i2l hx hb hd rfl (k p e s m args below meth c H locs ls C W0 S0 L0)
theorem go_l2i {x : Int64} (hd : decode M.2.1 pc = .ok (.l2i, 1)) (k : Go Γ R M Q cells slots (pc + 1) lv (.int x.toInt32 :: st) σ n) : Go Γ R M Q cells slots pc lv (.long x :: st) σ n := by
  intro p e s m args below meth c H locs ls C W0 S0 L0
  obtain ⟨⟨hx, hb, hml, hown, hts⟩, hr, hlk, hnm, htb, htr, hK, hlo⟩ := id C
  exact lv_l2i hx hb hd rfl (k p e s m args below meth c H locs ls C W0 S0 L0)
theorem go_i2b {x : Int32} (hd : decode M.2.1 pc = .ok (.i2b, 1)) (k : Go Γ R M Q cells slots (pc + 1) lv (.int x.toInt8.toInt32 :: st) σ n) : Go Γ R M Q cells slots pc lv (.int x :: st) σ n := by
  intro p e s m args below meth c H locs ls C W0 S0 L0
  obtain ⟨⟨hx, hb, hml, hown, hts⟩, hr, hlk, hnm, htb, htr, hK, hlo⟩ := id C
  exact lv_i2b hx hb hd rfl (k p e s m args below meth c H locs ls C W0 S0 L0)
theorem go_i2s {x : Int32} (hd : decode M.2.1 pc = .ok (.i2s, 1)) (k : Go Γ R M Q cells slots (pc + 1) lv (.int x.toInt16.toInt32 :: st) σ n) : Go Γ R M Q cells slots pc lv (.int x :: st) σ n := by
  intro p e s m args below meth c H locs ls C W0 S0 L0
  obtain ⟨⟨hx, hb, hml, hown, hts⟩, hr, hlk, hnm, htb, htr, hK, hlo⟩ := id C
  exact lv_i2s hx hb hd rfl (k p e s m args below meth c H locs ls C W0 S0 L0)
theorem go_i2c {x : Int32} (hd : decode M.2.1 pc = .ok (.i2c, 1)) (k : Go Γ R M Q cells slots (pc + 1) lv (.int (x.toUInt32 % 65536).toInt32 :: st) σ n) : Go Γ R M Q cells slots pc lv (.int x :: st) σ n := by
  intro p e s m args below meth c H locs ls C W0 S0 L0
  obtain ⟨⟨hx, hb, hml, hown, hts⟩, hr, hlk, hnm, htb, htr, hK, hlo⟩ := id C
  exact lv_i2c hx hb hd rfl (k p e s m args below meth c H locs ls C W0 S0 L0)
theorem go_lcmp {x y : Int64} (hd : decode M.2.1 pc = .ok (.lcmp, 1)) (k : Go Γ R M Q cells slots (pc + 1) lv (.int (lg_cmp x y) :: st) σ n) : Go Γ R M Q cells slots pc lv (.long y :: .long x :: st) σ n := by
  intro p e s m args below meth c H locs ls C W0 S0 L0
  obtain ⟨⟨hx, hb, hml, hown, hts⟩, hr, hlk, hnm, htb, htr, hK, hlo⟩ := id C
  exact W.lcmp hx hb hd (k p e s m args below meth c H locs ls C W0 S0 L0)
theorem go_dup {v : Value} (hd : decode M.2.1 pc = .ok (.dup, 1)) (hv : v.category = 1) (k : Go Γ R M Q cells slots (pc + 1) lv (v :: v :: st) σ n) : Go Γ R M Q cells slots pc lv (v :: st) σ n := by
  intro p e s m args below meth c H locs ls C W0 S0 L0
  obtain ⟨⟨hx, hb, hml, hown, hts⟩, hr, hlk, hnm, htb, htr, hK, hlo⟩ := id C
  exact lv_dup hx hb hd hv (k p e s m args below meth c H locs ls C W0 S0 L0)
theorem go_pop {v : Value} (hd : decode M.2.1 pc = .ok (.pop, 1)) (hv : v.category = 1) (k : Go Γ R M Q cells slots (pc + 1) lv (st) σ n) : Go Γ R M Q cells slots pc lv (v :: st) σ n := by
  intro p e s m args below meth c H locs ls C W0 S0 L0
  obtain ⟨⟨hx, hb, hml, hown, hts⟩, hr, hlk, hnm, htb, htr, hK, hlo⟩ := id C
  exact lv_pop hx hb hd hv (k p e s m args below meth c H locs ls C W0 S0 L0)
theorem go_dup_x1 {v u : Value} (hd : decode M.2.1 pc = .ok (.dup_x1, 1)) (hv : v.category = 1) (hu : u.category = 1) (k : Go Γ R M Q cells slots (pc + 1) lv (v :: u :: v :: st) σ n) : Go Γ R M Q cells slots pc lv (v :: u :: st) σ n := by
  intro p e s m args below meth c H locs ls C W0 S0 L0
  obtain ⟨⟨hx, hb, hml, hown, hts⟩, hr, hlk, hnm, htb, htr, hK, hlo⟩ := id C
  exact lv_dup_x1 hx hb hd hv hu (k p e s m args below meth c H locs ls C W0 S0 L0)
theorem go_dup_x2 {v u t : Value} (hd : decode M.2.1 pc = .ok (.dup_x2, 1)) (hv : v.category = 1) (hu : u.category = 1) (ht : t.category = 1) (k : Go Γ R M Q cells slots (pc + 1) lv (v :: u :: t :: v :: st) σ n) : Go Γ R M Q cells slots pc lv (v :: u :: t :: st) σ n := by
  intro p e s m args below meth c H locs ls C W0 S0 L0
  obtain ⟨⟨hx, hb, hml, hown, hts⟩, hr, hlk, hnm, htb, htr, hK, hlo⟩ := id C
  exact lv_dup_x2 hx hb hd hv hu ht (k p e s m args below meth c H locs ls C W0 S0 L0)
theorem go_dup2 {v u : Value} (hd : decode M.2.1 pc = .ok (.dup2, 1)) (hv : v.category = 1) (hu : u.category = 1) (k : Go Γ R M Q cells slots (pc + 1) lv (v :: u :: v :: u :: st) σ n) : Go Γ R M Q cells slots pc lv (v :: u :: st) σ n := by
  intro p e s m args below meth c H locs ls C W0 S0 L0
  obtain ⟨⟨hx, hb, hml, hown, hts⟩, hr, hlk, hnm, htb, htr, hK, hlo⟩ := id C
  exact lv_dup2_11 hx hb hd hv hu (k p e s m args below meth c H locs ls C W0 S0 L0)
theorem go_dup2L {v : Value} (hd : decode M.2.1 pc = .ok (.dup2, 1)) (hv : v.category = 2) (k : Go Γ R M Q cells slots (pc + 1) lv (v :: v :: st) σ n) : Go Γ R M Q cells slots pc lv (v :: st) σ n := by
  intro p e s m args below meth c H locs ls C W0 S0 L0
  obtain ⟨⟨hx, hb, hml, hown, hts⟩, hr, hlk, hnm, htb, htr, hK, hlo⟩ := id C
  exact lv_dup2_2 hx hb hd hv (k p e s m args below meth c H locs ls C W0 S0 L0)
theorem go_pop2L {v : Value} (hd : decode M.2.1 pc = .ok (.pop2, 1)) (hv : v.category = 2) (k : Go Γ R M Q cells slots (pc + 1) lv (st) σ n) : Go Γ R M Q cells slots pc lv (v :: st) σ n := by
  intro p e s m args below meth c H locs ls C W0 S0 L0
  obtain ⟨⟨hx, hb, hml, hown, hts⟩, hr, hlk, hnm, htb, htr, hK, hlo⟩ := id C
  exact lv_pop2_2 hx hb hd hv (k p e s m args below meth c H locs ls C W0 S0 L0)
theorem go_if_eq {x : Int32} {off : Int} {tgt : Nat} (hd : decode M.2.1 pc = .ok (.ifCond .eq off, 3)) (ht : (pc : Int) + off = (tgt : Int)) (kt : x = 0 → Go Γ R M Q cells slots tgt lv st σ n) (kf : ¬ x = 0 → Go Γ R M Q cells slots (pc + 3) lv st σ n) : Go Γ R M Q cells slots pc lv (.int x :: st) σ n := by
  intro p e s m args below meth c H locs ls C W0 S0 L0
  obtain ⟨⟨hx, hb, hml, hown, hts⟩, hr, hlk, hnm, htb, htr, hK, hlo⟩ := id C
  exact lv_if_eq hx hb hd ht (fun h => kt h p e s m args below meth c H locs ls C W0 S0 L0) (fun h => kf h p e s m args below meth c H locs ls C W0 S0 L0)
theorem go_icmp_eq {x y : Int32} {off : Int} {tgt : Nat} (hd : decode M.2.1 pc = .ok (.if_icmp .eq off, 3)) (ht : (pc : Int) + off = (tgt : Int)) (kt : x = y → Go Γ R M Q cells slots tgt lv st σ n) (kf : ¬ x = y → Go Γ R M Q cells slots (pc + 3) lv st σ n) : Go Γ R M Q cells slots pc lv (.int y :: .int x :: st) σ n := by
  intro p e s m args below meth c H locs ls C W0 S0 L0
  obtain ⟨⟨hx, hb, hml, hown, hts⟩, hr, hlk, hnm, htb, htr, hK, hlo⟩ := id C
  exact lv_icmp_eq hx hb hd ht (fun h => kt h p e s m args below meth c H locs ls C W0 S0 L0) (fun h => kf h p e s m args below meth c H locs ls C W0 S0 L0)
theorem go_if_ne {x : Int32} {off : Int} {tgt : Nat} (hd : decode M.2.1 pc = .ok (.ifCond .ne off, 3)) (ht : (pc : Int) + off = (tgt : Int)) (kt : ¬ x = 0 → Go Γ R M Q cells slots tgt lv st σ n) (kf : x = 0 → Go Γ R M Q cells slots (pc + 3) lv st σ n) : Go Γ R M Q cells slots pc lv (.int x :: st) σ n := by
  intro p e s m args below meth c H locs ls C W0 S0 L0
  obtain ⟨⟨hx, hb, hml, hown, hts⟩, hr, hlk, hnm, htb, htr, hK, hlo⟩ := id C
  exact lv_if_ne hx hb hd ht (fun h => kt h p e s m args below meth c H locs ls C W0 S0 L0) (fun h => kf h p e s m args below meth c H locs ls C W0 S0 L0)
theorem go_icmp_ne {x y : Int32} {off : Int} {tgt : Nat} (hd : decode M.2.1 pc = .ok (.if_icmp .ne off, 3)) (ht : (pc : Int) + off = (tgt : Int)) (kt : ¬ x = y → Go Γ R M Q cells slots tgt lv st σ n) (kf : x = y → Go Γ R M Q cells slots (pc + 3) lv st σ n) : Go Γ R M Q cells slots pc lv (.int y :: .int x :: st) σ n := by
  intro p e s m args below meth c H locs ls C W0 S0 L0
  obtain ⟨⟨hx, hb, hml, hown, hts⟩, hr, hlk, hnm, htb, htr, hK, hlo⟩ := id C
  exact lv_icmp_ne hx hb hd ht (fun h => kt h p e s m args below meth c H locs ls C W0 S0 L0) (fun h => kf h p e s m args below meth c H locs ls C W0 S0 L0)
theorem go_if_lt {x : Int32} {off : Int} {tgt : Nat} (hd : decode M.2.1 pc = .ok (.ifCond .lt off, 3)) (ht : (pc : Int) + off = (tgt : Int)) (kt : x < 0 → Go Γ R M Q cells slots tgt lv st σ n) (kf : ¬ x < 0 → Go Γ R M Q cells slots (pc + 3) lv st σ n) : Go Γ R M Q cells slots pc lv (.int x :: st) σ n := by
  intro p e s m args below meth c H locs ls C W0 S0 L0
  obtain ⟨⟨hx, hb, hml, hown, hts⟩, hr, hlk, hnm, htb, htr, hK, hlo⟩ := id C
  exact lv_if_lt hx hb hd ht (fun h => kt h p e s m args below meth c H locs ls C W0 S0 L0) (fun h => kf h p e s m args below meth c H locs ls C W0 S0 L0)
theorem go_icmp_lt {x y : Int32} {off : Int} {tgt : Nat} (hd : decode M.2.1 pc = .ok (.if_icmp .lt off, 3)) (ht : (pc : Int) + off = (tgt : Int)) (kt : x < y → Go Γ R M Q cells slots tgt lv st σ n) (kf : ¬ x < y → Go Γ R M Q cells slots (pc + 3) lv st σ n) : Go Γ R M Q cells slots pc lv (.int y :: .int x :: st) σ n := by
  intro p e s m args below meth c H locs ls C W0 S0 L0
  obtain ⟨⟨hx, hb, hml, hown, hts⟩, hr, hlk, hnm, htb, htr, hK, hlo⟩ := id C
  exact lv_icmp_lt hx hb hd ht (fun h => kt h p e s m args below meth c H locs ls C W0 S0 L0) (fun h => kf h p e s m args below meth c H locs ls C W0 S0 L0)
theorem go_if_ge {x : Int32} {off : Int} {tgt : Nat} (hd : decode M.2.1 pc = .ok (.ifCond .ge off, 3)) (ht : (pc : Int) + off = (tgt : Int)) (kt : 0 ≤ x → Go Γ R M Q cells slots tgt lv st σ n) (kf : ¬ 0 ≤ x → Go Γ R M Q cells slots (pc + 3) lv st σ n) : Go Γ R M Q cells slots pc lv (.int x :: st) σ n := by
  intro p e s m args below meth c H locs ls C W0 S0 L0
  obtain ⟨⟨hx, hb, hml, hown, hts⟩, hr, hlk, hnm, htb, htr, hK, hlo⟩ := id C
  exact lv_if_ge hx hb hd ht (fun h => kt h p e s m args below meth c H locs ls C W0 S0 L0) (fun h => kf h p e s m args below meth c H locs ls C W0 S0 L0)
theorem go_icmp_ge {x y : Int32} {off : Int} {tgt : Nat} (hd : decode M.2.1 pc = .ok (.if_icmp .ge off, 3)) (ht : (pc : Int) + off = (tgt : Int)) (kt : y ≤ x → Go Γ R M Q cells slots tgt lv st σ n) (kf : ¬ y ≤ x → Go Γ R M Q cells slots (pc + 3) lv st σ n) : Go Γ R M Q cells slots pc lv (.int y :: .int x :: st) σ n := by
  intro p e s m args below meth c H locs ls C W0 S0 L0
  obtain ⟨⟨hx, hb, hml, hown, hts⟩, hr, hlk, hnm, htb, htr, hK, hlo⟩ := id C
  exact lv_icmp_ge hx hb hd ht (fun h => kt h p e s m args below meth c H locs ls C W0 S0 L0) (fun h => kf h p e s m args below meth c H locs ls C W0 S0 L0)
theorem go_if_gt {x : Int32} {off : Int} {tgt : Nat} (hd : decode M.2.1 pc = .ok (.ifCond .gt off, 3)) (ht : (pc : Int) + off = (tgt : Int)) (kt : 0 < x → Go Γ R M Q cells slots tgt lv st σ n) (kf : ¬ 0 < x → Go Γ R M Q cells slots (pc + 3) lv st σ n) : Go Γ R M Q cells slots pc lv (.int x :: st) σ n := by
  intro p e s m args below meth c H locs ls C W0 S0 L0
  obtain ⟨⟨hx, hb, hml, hown, hts⟩, hr, hlk, hnm, htb, htr, hK, hlo⟩ := id C
  exact lv_if_gt hx hb hd ht (fun h => kt h p e s m args below meth c H locs ls C W0 S0 L0) (fun h => kf h p e s m args below meth c H locs ls C W0 S0 L0)
theorem go_icmp_gt {x y : Int32} {off : Int} {tgt : Nat} (hd : decode M.2.1 pc = .ok (.if_icmp .gt off, 3)) (ht : (pc : Int) + off = (tgt : Int)) (kt : y < x → Go Γ R M Q cells slots tgt lv st σ n) (kf : ¬ y < x → Go Γ R M Q cells slots (pc + 3) lv st σ n) : Go Γ R M Q cells slots pc lv (.int y :: .int x :: st) σ n := by
  intro p e s m args below meth c H locs ls C W0 S0 L0
  obtain ⟨⟨hx, hb, hml, hown, hts⟩, hr, hlk, hnm, htb, htr, hK, hlo⟩ := id C
  exact lv_icmp_gt hx hb hd ht (fun h => kt h p e s m args below meth c H locs ls C W0 S0 L0) (fun h => kf h p e s m args below meth c H locs ls C W0 S0 L0)
theorem go_if_le {x : Int32} {off : Int} {tgt : Nat} (hd : decode M.2.1 pc = .ok (.ifCond .le off, 3)) (ht : (pc : Int) + off = (tgt : Int)) (kt : x ≤ 0 → Go Γ R M Q cells slots tgt lv st σ n) (kf : ¬ x ≤ 0 → Go Γ R M Q cells slots (pc + 3) lv st σ n) : Go Γ R M Q cells slots pc lv (.int x :: st) σ n := by
  intro p e s m args below meth c H locs ls C W0 S0 L0
  obtain ⟨⟨hx, hb, hml, hown, hts⟩, hr, hlk, hnm, htb, htr, hK, hlo⟩ := id C
  exact lv_if_le hx hb hd ht (fun h => kt h p e s m args below meth c H locs ls C W0 S0 L0) (fun h => kf h p e s m args below meth c H locs ls C W0 S0 L0)
theorem go_icmp_le {x y : Int32} {off : Int} {tgt : Nat} (hd : decode M.2.1 pc = .ok (.if_icmp .le off, 3)) (ht : (pc : Int) + off = (tgt : Int)) (kt : x ≤ y → Go Γ R M Q cells slots tgt lv st σ n) (kf : ¬ x ≤ y → Go Γ R M Q cells slots (pc + 3) lv st σ n) : Go Γ R M Q cells slots pc lv (.int y :: .int x :: st) σ n := by
  intro p e s m args below meth c H locs ls C W0 S0 L0
  obtain ⟨⟨hx, hb, hml, hown, hts⟩, hr, hlk, hnm, htb, htr, hK, hlo⟩ := id C
  exact lv_icmp_le hx hb hd ht (fun h => kt h p e s m args below meth c H locs ls C W0 S0 L0) (fun h => kf h p e s m args below meth c H locs ls C W0 S0 L0)
theorem go_goto {off : Int} {tgt : Nat} (hd : decode M.2.1 pc = .ok (.goto off, 3)) (ht : (pc : Int) + off = (tgt : Int)) (k : Go Γ R M Q cells slots tgt lv st σ n) : Go Γ R M Q cells slots pc lv st σ n := by
  intro p e s m args below meth c H locs ls C W0 S0 L0
  obtain ⟨⟨hx, hb, hml, hown, hts⟩, hr, hlk, hnm, htb, htr, hK, hlo⟩ := id C
  exact lv_goto hx hb hd ht (k p e s m args below meth c H locs ls C W0 S0 L0)
theorem go_ifnonnull {x : Nat} {off : Int} {tgt : Nat} (hd : decode M.2.1 pc = .ok (.ifnonnull off, 3)) (ht : (pc : Int) + off = (tgt : Int)) (k : Go Γ R M Q cells slots tgt lv st σ n) : Go Γ R M Q cells slots pc lv (.ref x :: st) σ n := by
  intro p e s m args below meth c H locs ls C W0 S0 L0
  obtain ⟨⟨hx, hb, hml, hown, hts⟩, hr, hlk, hnm, htb, htr, hK, hlo⟩ := id C
  exact lv_ifnonnull hx hb hd ht (k p e s m args below meth c H locs ls C W0 S0 L0)
theorem go_ifnonnullN {off : Int} (hd : decode M.2.1 pc = .ok (.ifnonnull off, 3)) (k : Go Γ R M Q cells slots (pc + 3) lv st σ n) : Go Γ R M Q cells slots pc lv (.null :: st) σ n := by
  intro p e s m args below meth c H locs ls C W0 S0 L0
  obtain ⟨⟨hx, hb, hml, hown, hts⟩, hr, hlk, hnm, htb, htr, hK, hlo⟩ := id C
  exact lv_ifnonnullN hx hb hd (k p e s m args below meth c H locs ls C W0 S0 L0)
theorem go_ifnull {x : Nat} {off : Int} (hd : decode M.2.1 pc = .ok (.ifnull off, 3)) (k : Go Γ R M Q cells slots (pc + 3) lv st σ n) : Go Γ R M Q cells slots pc lv (.ref x :: st) σ n := by
  intro p e s m args below meth c H locs ls C W0 S0 L0
  obtain ⟨⟨hx, hb, hml, hown, hts⟩, hr, hlk, hnm, htb, htr, hK, hlo⟩ := id C
  exact lv_ifnull hx hb hd (k p e s m args below meth c H locs ls C W0 S0 L0)
theorem go_ifnullN {off : Int} {tgt : Nat} (hd : decode M.2.1 pc = .ok (.ifnull off, 3)) (ht : (pc : Int) + off = (tgt : Int)) (k : Go Γ R M Q cells slots tgt lv st σ n) : Go Γ R M Q cells slots pc lv (.null :: st) σ n := by
  intro p e s m args below meth c H locs ls C W0 S0 L0
  obtain ⟨⟨hx, hb, hml, hown, hts⟩, hr, hlk, hnm, htb, htr, hK, hlo⟩ := id C
  exact lv_ifnullN hx hb hd ht (k p e s m args below meth c H locs ls C W0 S0 L0)
theorem go_tableOut {dflt lo hi : Int} {offs : Array Int} {len : Nat} {x : Int32} {tgt : Nat} (hd : decode M.2.1 pc = .ok (.tableswitch dflt lo hi offs, len)) (h : x.toInt < lo ∨ hi < x.toInt) (ht : (pc : Int) + dflt = (tgt : Int)) (k : Go Γ R M Q cells slots tgt lv st σ n) : Go Γ R M Q cells slots pc lv (.int x :: st) σ n := by
  intro p e s m args below meth c H locs ls C W0 S0 L0
  obtain ⟨⟨hx, hb, hml, hown, hts⟩, hr, hlk, hnm, htb, htr, hK, hlo⟩ := id C
  exact lv_tableOut hx hb hd h ht (k p e s m args below meth c H locs ls C W0 S0 L0)
theorem go_tableIn {dflt lo hi : Int} {offs : Array Int} {len : Nat} {x : Int32} {off : Int} {tgt : Nat} (hd : decode M.2.1 pc = .ok (.tableswitch dflt lo hi offs, len)) (h1 : ¬ x.toInt < lo) (h2 : ¬ hi < x.toInt) (ho : offs[(x.toInt - lo).toNat]? = some off) (ht : (pc : Int) + off = (tgt : Int)) (k : Go Γ R M Q cells slots tgt lv st σ n) : Go Γ R M Q cells slots pc lv (.int x :: st) σ n := by
  intro p e s m args below meth c H locs ls C W0 S0 L0
  obtain ⟨⟨hx, hb, hml, hown, hts⟩, hr, hlk, hnm, htb, htr, hK, hlo⟩ := id C
  exact lv_tableIn hx hb hd h1 h2 ho ht (k p e s m args below meth c H locs ls C W0 S0 L0)
end GoRules
