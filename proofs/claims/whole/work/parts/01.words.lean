/-! ===== the words that every method carries; links by class and entry of the pool ===== -/
def tb : List Cond := lw_tbl.filter goodWord
theorem tb_in {w : Cond} (h : w ∈ lw_tbl) (g : goodWord w = true) : w ∈ tb := List.mem_filter.mpr ⟨h, g⟩
theorem tb_good {w : Cond} (h : w ∈ tb) : goodWord w = true := (List.mem_filter.mp h).2
theorem tb_tbl {w : Cond} (h : w ∈ tb) : w ∈ lw_tbl := (List.mem_filter.mp h).1
theorem inT1 {w : Cond} (h : w ∈ tables_1_1) (g : goodWord w = true) : w ∈ tb := tb_in (List.mem_append_right _ ((List.mem_append_left _ h : w ∈ tables_1))) g
theorem inT2 {w : Cond} (h : w ∈ tables_1_2) (g : goodWord w = true) : w ∈ tb := tb_in (List.mem_append_right _ ((List.mem_append_right _ (List.mem_append_left _ h) : w ∈ tables_1))) g
theorem inT3 {w : Cond} (h : w ∈ tables_1_3) (g : goodWord w = true) : w ∈ tb := tb_in (List.mem_append_right _ ((List.mem_append_right _ (List.mem_append_right _ (List.mem_append_left _ h)) : w ∈ tables_1))) g
theorem inT4 {w : Cond} (h : w ∈ tables_1_4) (g : goodWord w = true) : w ∈ tb := tb_in (List.mem_append_right _ ((List.mem_append_right _ (List.mem_append_right _ (List.mem_append_right _ (List.mem_append_left _ h))) : w ∈ tables_1))) g
theorem inT5 {w : Cond} (h : w ∈ tables_1_5) (g : goodWord w = true) : w ∈ tb := tb_in (List.mem_append_right _ ((List.mem_append_right _ (List.mem_append_right _ (List.mem_append_right _ (List.mem_append_right _ (List.mem_append_left _ h)))) : w ∈ tables_1))) g
theorem inT6 {w : Cond} (h : w ∈ tables_1_6) (g : goodWord w = true) : w ∈ tb := tb_in (List.mem_append_right _ ((List.mem_append_right _ (List.mem_append_right _ (List.mem_append_right _ (List.mem_append_right _ (List.mem_append_right _ (List.mem_append_left _ h))))) : w ∈ tables_1))) g
theorem inT7 {w : Cond} (h : w ∈ tables_1_7) (g : goodWord w = true) : w ∈ tb := tb_in (List.mem_append_right _ ((List.mem_append_right _ (List.mem_append_right _ (List.mem_append_right _ (List.mem_append_right _ (List.mem_append_right _ (List.mem_append_right _ (List.mem_append_left _ h)))))) : w ∈ tables_1))) g
theorem inT8 {w : Cond} (h : w ∈ tables_1_8) (g : goodWord w = true) : w ∈ tb := tb_in (List.mem_append_right _ ((List.mem_append_right _ (List.mem_append_right _ (List.mem_append_right _ (List.mem_append_right _ (List.mem_append_right _ (List.mem_append_right _ (List.mem_append_right _ (List.mem_append_left _ h))))))) : w ∈ tables_1))) g
theorem inT9 {w : Cond} (h : w ∈ tables_1_9) (g : goodWord w = true) : w ∈ tb := tb_in (List.mem_append_right _ ((List.mem_append_right _ (List.mem_append_right _ (List.mem_append_right _ (List.mem_append_right _ (List.mem_append_right _ (List.mem_append_right _ (List.mem_append_right _ (List.mem_append_right _ (h)))))))) : w ∈ tables_1))) g
abbrev cls_ : List vw_C := [(RX0, TX0, 11), (RX1, TX1, 3), (RX2, TX2, 2), (RX3, TX3, 2), (RX4, TX4, 12), (RX5, TX5, 7), (RX6, TX6, 3), (RX7, TX7, 16), (RX8, TX8, 32)]
/-- a method: name, bytes, locals, type of its answer, its table of handlers -/
abbrev mth : Type := MethodName × ByteArray × Nat × Option FieldType × List (Nat × Nat × Nat × Nat)
def mcw (M : mth) : Cond := match M.2.2.2.2 with
  | [] => Cond.code M.1 M.2.1 M.2.2.1 M.2.2.2.1
  | _ => Cond.codeWith M.1 M.2.1 M.2.2.1 M.2.2.2.1 M.2.2.2.2
def fLk (own : String) (ix ci k : Nat) (ty : FieldType) (fin : Bool) : Prop := ∃ (C : String) (T : u_T) (N : Nat), cls_[ci]? = some (C, T, N) ∧ k < N ∧ (T k).1 = C ∧ parseFieldDescriptor (T k).2.2.1 = some ty ∧ (T k).2.2.2 = fin ∧ Cond.fieldLink own ix C (T k).2.1 (T k).2.2.1 ∈ tb
def dLk (M : mth) (na : Nat) : Prop := (M.1.cls ≠ "java/lang/invoke/MethodHandle" ∧ M.1.cls ≠ "java/lang/invoke/VarHandle") ∧ (parseMethodDescriptor M.1.desc).map (fun d => d.parameters.length) = some na
def vLk (own : String) (ix : Nat) (M : mth) (na : Nat) : Prop := Cond.methodLink own ix M.1 ∈ tb ∧ Cond.instanceMethod M.1 ∈ tb ∧ Cond.selects M.1.cls M.1 M.1 ∈ tb ∧ Cond.initialized M.1.cls ∈ tb ∧ mcw M ∈ tb ∧ dLk M na
def sLk (own : String) (ix : Nat) (M : mth) (na : Nat) : Prop := Cond.methodLink own ix M.1 ∈ tb ∧ Cond.static M.1 ∈ tb ∧ Cond.initialized M.1.cls ∈ tb ∧ mcw M ∈ tb ∧ dLk M na
def iLk (own : String) (ix : Nat) (M : mth) (na : Nat) : Prop := Cond.methodLink own ix M.1 ∈ tb ∧ Cond.instanceMethod M.1 ∈ tb ∧ Cond.initialized M.1.cls ∈ tb ∧ mcw M ∈ tb ∧ dLk M na ∧ M.1.name = "<init>"
def nLk (own : String) (ix : Nat) (C : String) (N : Nat) : Prop := Cond.classLink own ix C ∈ tb ∧ Cond.instantiable C N ∈ tb ∧ Cond.initialized C ∈ tb
theorem kw1_0 : (Jvm.Cond.initialized "FrontChairsLaw") ∈ tb := inT1 (List.mem_of_getElem? (i := 0) rfl) rfl
theorem kw1_1 : (Jvm.Cond.initialized "FrontChairs") ∈ tb := inT1 (List.mem_of_getElem? (i := 1) rfl) rfl
theorem kw1_2 : (Jvm.Cond.initialized "FrontChairs$Beach") ∈ tb := inT1 (List.mem_of_getElem? (i := 2) rfl) rfl
theorem kw1_3 : (Jvm.Cond.initialized "java/util/Arrays") ∈ tb := inT1 (List.mem_of_getElem? (i := 3) rfl) rfl
theorem kw1_4 : (Jvm.Cond.initialized "FrontChairs$Seats") ∈ tb := inT1 (List.mem_of_getElem? (i := 4) rfl) rfl
theorem kw1_5 : (Jvm.Cond.initialized "FrontChairs$History") ∈ tb := inT1 (List.mem_of_getElem? (i := 5) rfl) rfl
theorem kw1_6 : (Jvm.Cond.initialized "FrontChairs$Reader") ∈ tb := inT1 (List.mem_of_getElem? (i := 6) rfl) rfl
theorem kw1_7 : (Jvm.Cond.initialized "FrontChairs$Tray") ∈ tb := inT1 (List.mem_of_getElem? (i := 7) rfl) rfl
theorem kw1_8 : (Jvm.Cond.initialized "FrontChairsModel") ∈ tb := inT1 (List.mem_of_getElem? (i := 8) rfl) rfl
theorem kw1_9 : (Jvm.Cond.initialized "java/lang/Throwable") ∈ tb := inT1 (List.mem_of_getElem? (i := 9) rfl) rfl
theorem kw1_10 : (Jvm.Cond.initialized "java/lang/Exception") ∈ tb := inT1 (List.mem_of_getElem? (i := 10) rfl) rfl
theorem kw1_11 : (Jvm.Cond.initialized "java/lang/RuntimeException") ∈ tb := inT1 (List.mem_of_getElem? (i := 11) rfl) rfl
theorem kw1_12 : (Jvm.Cond.initialized "java/lang/IllegalArgumentException") ∈ tb := inT1 (List.mem_of_getElem? (i := 12) rfl) rfl
theorem kw1_13 : (Jvm.Cond.initialized "java/lang/String") ∈ tb := inT1 (List.mem_of_getElem? (i := 13) rfl) rfl
theorem kw1_14 : (Jvm.Cond.initialized "java/lang/StringLatin1") ∈ tb := inT1 (List.mem_of_getElem? (i := 14) rfl) rfl
theorem kw1_15 : (Jvm.Cond.initialized "jdk/internal/util/Preconditions") ∈ tb := inT1 (List.mem_of_getElem? (i := 15) rfl) rfl
theorem kw1_16 : (Jvm.Cond.initialized "java/lang/StringUTF16") ∈ tb := inT1 (List.mem_of_getElem? (i := 16) rfl) rfl
theorem kw1_17 : (Jvm.Cond.initialized "java/lang/Math") ∈ tb := inT1 (List.mem_of_getElem? (i := 17) rfl) rfl
theorem kw1_18 : (Jvm.Cond.initialized "java/lang/Character") ∈ tb := inT1 (List.mem_of_getElem? (i := 18) rfl) rfl
theorem kw1_19 : (Jvm.Cond.initialized "FrontChairs$Law") ∈ tb := inT1 (List.mem_of_getElem? (i := 19) rfl) rfl
theorem kw1_20 : (Jvm.Cond.initialized "java/lang/System") ∈ tb := inT1 (List.mem_of_getElem? (i := 20) rfl) rfl
theorem kw1_21 : (Jvm.Cond.initialized "java/util/NoSuchElementException") ∈ tb := inT1 (List.mem_of_getElem? (i := 21) rfl) rfl
theorem kw1_22 : (Jvm.Cond.initialized "java/lang/Integer") ∈ tb := inT1 (List.mem_of_getElem? (i := 22) rfl) rfl
theorem kw1_23 : (Jvm.Cond.initialized "java/lang/IllegalStateException") ∈ tb := inT1 (List.mem_of_getElem? (i := 23) rfl) rfl
theorem kw1_24 : (Jvm.Cond.initialized "java/lang/IndexOutOfBoundsException") ∈ tb := inT1 (List.mem_of_getElem? (i := 24) rfl) rfl
theorem kw1_25 : (Jvm.Cond.initialized "FrontChairs$Image") ∈ tb := inT1 (List.mem_of_getElem? (i := 25) rfl) rfl
theorem kw1_26 : (Jvm.Cond.classLink "FrontChairsLaw" (8 : Nat) "FrontChairs") ∈ tb := inT1 (List.mem_of_getElem? (i := 26) rfl) rfl
theorem kw1_27 : (Jvm.Cond.instantiable "FrontChairs" (16 : Nat)) ∈ tb := inT1 (List.mem_of_getElem? (i := 27) rfl) rfl
theorem kw1_28 : (Jvm.Cond.methodLink "FrontChairsLaw" (130 : Nat) ({ cls := "FrontChairs", name := "<init>", desc := "()V" } : Jvm.MethodName)) ∈ tb := inT1 (List.mem_of_getElem? (i := 28) rfl) rfl
theorem kw1_29 : (Jvm.Cond.instanceMethod ({ cls := "FrontChairs", name := "<init>", desc := "()V" } : Jvm.MethodName)) ∈ tb := inT1 (List.mem_of_getElem? (i := 29) rfl) rfl
theorem kw1_30 : (Jvm.Cond.code ({ cls := "FrontChairs", name := "<init>", desc := "()V" } : Jvm.MethodName) prog_1_method_1_code (3 : Nat) (Option.none : Option Jvm.ClassFile.FieldType)) ∈ tb := inT1 (List.mem_of_getElem? (i := 30) rfl) rfl
theorem kw1_31 : (Jvm.Cond.methodLink "FrontChairs" (1 : Nat) ({ cls := "java/lang/Object", name := "<init>", desc := "()V" } : Jvm.MethodName)) ∈ tb := inT1 (List.mem_of_getElem? (i := 31) rfl) rfl
theorem kw1_32 : (Jvm.Cond.instanceMethod ({ cls := "java/lang/Object", name := "<init>", desc := "()V" } : Jvm.MethodName)) ∈ tb := inT1 (List.mem_of_getElem? (i := 32) rfl) rfl
theorem kw1_33 : (Jvm.Cond.code ({ cls := "java/lang/Object", name := "<init>", desc := "()V" } : Jvm.MethodName) object_method_1_code (1 : Nat) (Option.none : Option Jvm.ClassFile.FieldType)) ∈ tb := inT1 (List.mem_of_getElem? (i := 33) rfl) rfl
theorem kw1_34 : (Jvm.Cond.classLink "FrontChairs" (23 : Nat) "FrontChairs$Tray") ∈ tb := inT1 (List.mem_of_getElem? (i := 34) rfl) rfl
theorem kw1_36 : (Jvm.Cond.classLink "FrontChairs" (29 : Nat) "FrontChairs$Image") ∈ tb := inT1 (List.mem_of_getElem? (i := 36) rfl) rfl
theorem kw1_38 : (Jvm.Cond.classLink "FrontChairs" (35 : Nat) "FrontChairs$Seats") ∈ tb := inT1 (List.mem_of_getElem? (i := 38) rfl) rfl
theorem kw1_40 : (Jvm.Cond.classLink "FrontChairs" (59 : Nat) "FrontChairs$Beach") ∈ tb := inT1 (List.mem_of_getElem? (i := 40) rfl) rfl
theorem kw1_41 : (Jvm.Cond.instantiable "FrontChairs$Beach" (11 : Nat)) ∈ tb := inT1 (List.mem_of_getElem? (i := 41) rfl) rfl
theorem kw1_42 : (Jvm.Cond.methodLink "FrontChairs" (61 : Nat) ({ cls := "FrontChairs$Beach", name := "<init>", desc := "()V" } : Jvm.MethodName)) ∈ tb := inT1 (List.mem_of_getElem? (i := 42) rfl) rfl
theorem kw1_43 : (Jvm.Cond.instanceMethod ({ cls := "FrontChairs$Beach", name := "<init>", desc := "()V" } : Jvm.MethodName)) ∈ tb := inT1 (List.mem_of_getElem? (i := 43) rfl) rfl
theorem kw1_44 : (Jvm.Cond.code ({ cls := "FrontChairs$Beach", name := "<init>", desc := "()V" } : Jvm.MethodName) prog_2_method_1_code (1 : Nat) (Option.none : Option Jvm.ClassFile.FieldType)) ∈ tb := inT1 (List.mem_of_getElem? (i := 44) rfl) rfl
theorem kw1_45 : (Jvm.Cond.methodLink "FrontChairs$Beach" (3 : Nat) ({ cls := "java/lang/Object", name := "<init>", desc := "()V" } : Jvm.MethodName)) ∈ tb := inT1 (List.mem_of_getElem? (i := 45) rfl) rfl
theorem kw1_46 : (Jvm.Cond.methodLink "FrontChairs$Beach" (47 : Nat) ({ cls := "java/util/Arrays", name := "fill", desc := "([II)V" } : Jvm.MethodName)) ∈ tb := inT1 (List.mem_of_getElem? (i := 46) rfl) rfl
theorem kw1_47 : (Jvm.Cond.static ({ cls := "java/util/Arrays", name := "fill", desc := "([II)V" } : Jvm.MethodName)) ∈ tb := inT1 (List.mem_of_getElem? (i := 47) rfl) rfl
theorem kw1_48 : (Jvm.Cond.code ({ cls := "java/util/Arrays", name := "fill", desc := "([II)V" } : Jvm.MethodName) prog_30_method_103_code (4 : Nat) (Option.none : Option Jvm.ClassFile.FieldType)) ∈ tb := inT1 (List.mem_of_getElem? (i := 48) rfl) rfl
theorem kw1_49 : (Jvm.Cond.fieldLink "FrontChairs$Beach" (9 : Nat) "FrontChairs$Beach" "columns" "I") ∈ tb := inT1 (List.mem_of_getElem? (i := 49) rfl) rfl
theorem kw1_50 : (Jvm.Cond.fieldLink "FrontChairs$Reader" (73 : Nat) "FrontChairs$Beach" "columns" "I") ∈ tb := inT1 (List.mem_of_getElem? (i := 50) rfl) rfl
theorem kw1_51 : (Jvm.Cond.fieldLink "FrontChairs" (324 : Nat) "FrontChairs$Beach" "columns" "I") ∈ tb := inT1 (List.mem_of_getElem? (i := 51) rfl) rfl
theorem kw1_52 : (Jvm.Cond.fieldLink "FrontChairs$Beach" (15 : Nat) "FrontChairs$Beach" "rows" "I") ∈ tb := inT1 (List.mem_of_getElem? (i := 52) rfl) rfl
theorem kw1_53 : (Jvm.Cond.fieldLink "FrontChairs$Reader" (76 : Nat) "FrontChairs$Beach" "rows" "I") ∈ tb := inT1 (List.mem_of_getElem? (i := 53) rfl) rfl
theorem kw1_54 : (Jvm.Cond.fieldLink "FrontChairs$Seats" (103 : Nat) "FrontChairs$Beach" "rows" "I") ∈ tb := inT1 (List.mem_of_getElem? (i := 54) rfl) rfl
theorem kw1_55 : (Jvm.Cond.fieldLink "FrontChairs" (266 : Nat) "FrontChairs$Beach" "rows" "I") ∈ tb := inT1 (List.mem_of_getElem? (i := 55) rfl) rfl
theorem kw1_56 : (Jvm.Cond.fieldLink "FrontChairs$Beach" (18 : Nat) "FrontChairs$Beach" "people" "I") ∈ tb := inT1 (List.mem_of_getElem? (i := 56) rfl) rfl
theorem kw1_57 : (Jvm.Cond.fieldLink "FrontChairs$Reader" (190 : Nat) "FrontChairs$Beach" "people" "I") ∈ tb := inT1 (List.mem_of_getElem? (i := 57) rfl) rfl
theorem kw1_58 : (Jvm.Cond.fieldLink "FrontChairs$Seats" (117 : Nat) "FrontChairs$Beach" "people" "I") ∈ tb := inT1 (List.mem_of_getElem? (i := 58) rfl) rfl
theorem kw1_59 : (Jvm.Cond.fieldLink "FrontChairs" (263 : Nat) "FrontChairs$Beach" "people" "I") ∈ tb := inT1 (List.mem_of_getElem? (i := 59) rfl) rfl
theorem kw1_60 : (Jvm.Cond.fieldLink "FrontChairs$Beach" (21 : Nat) "FrontChairs$Beach" "lines" "I") ∈ tb := inT1 (List.mem_of_getElem? (i := 60) rfl) rfl
theorem kw1_61 : (Jvm.Cond.fieldLink "FrontChairs$Reader" (79 : Nat) "FrontChairs$Beach" "lines" "I") ∈ tb := inT1 (List.mem_of_getElem? (i := 61) rfl) rfl
theorem kw1_62 : (Jvm.Cond.fieldLink "FrontChairs" (124 : Nat) "FrontChairs$Beach" "lines" "I") ∈ tb := inT1 (List.mem_of_getElem? (i := 62) rfl) rfl
theorem kw1_63 : (Jvm.Cond.fieldLink "FrontChairs$Beach" (24 : Nat) "FrontChairs$Beach" "asleep" "I") ∈ tb := inT1 (List.mem_of_getElem? (i := 63) rfl) rfl
theorem kw1_64 : (Jvm.Cond.fieldLink "FrontChairs" (147 : Nat) "FrontChairs$Beach" "asleep" "I") ∈ tb := inT1 (List.mem_of_getElem? (i := 64) rfl) rfl
theorem kw1_65 : (Jvm.Cond.fieldLink "FrontChairs$Reader" (207 : Nat) "FrontChairs$Beach" "asleep" "I") ∈ tb := inT1 (List.mem_of_getElem? (i := 65) rfl) rfl
theorem kw1_66 : (Jvm.Cond.fieldLink "FrontChairs$Beach" (27 : Nat) "FrontChairs$Beach" "age" "[I") ∈ tb := inT1 (List.mem_of_getElem? (i := 66) rfl) rfl
theorem kw1_67 : (Jvm.Cond.fieldLink "FrontChairs" (144 : Nat) "FrontChairs$Beach" "age" "[I") ∈ tb := inT1 (List.mem_of_getElem? (i := 67) rfl) rfl
theorem kw1_68 : (Jvm.Cond.fieldLink "FrontChairs$Reader" (205 : Nat) "FrontChairs$Beach" "age" "[I") ∈ tb := inT1 (List.mem_of_getElem? (i := 68) rfl) rfl
theorem kw1_69 : (Jvm.Cond.fieldLink "FrontChairs$Beach" (31 : Nat) "FrontChairs$Beach" "planAt" "[I") ∈ tb := inT1 (List.mem_of_getElem? (i := 69) rfl) rfl
theorem kw1_70 : (Jvm.Cond.fieldLink "FrontChairs" (153 : Nat) "FrontChairs$Beach" "planAt" "[I") ∈ tb := inT1 (List.mem_of_getElem? (i := 70) rfl) rfl
theorem kw1_71 : (Jvm.Cond.fieldLink "FrontChairs$Seats" (120 : Nat) "FrontChairs$Beach" "planAt" "[I") ∈ tb := inT1 (List.mem_of_getElem? (i := 71) rfl) rfl
theorem kw1_72 : (Jvm.Cond.fieldLink "FrontChairs$Reader" (209 : Nat) "FrontChairs$Beach" "planAt" "[I") ∈ tb := inT1 (List.mem_of_getElem? (i := 72) rfl) rfl
theorem kw1_73 : (Jvm.Cond.fieldLink "FrontChairs$Beach" (34 : Nat) "FrontChairs$Beach" "planFor" "[I") ∈ tb := inT1 (List.mem_of_getElem? (i := 73) rfl) rfl
theorem kw1_74 : (Jvm.Cond.fieldLink "FrontChairs" (156 : Nat) "FrontChairs$Beach" "planFor" "[I") ∈ tb := inT1 (List.mem_of_getElem? (i := 74) rfl) rfl
theorem kw1_75 : (Jvm.Cond.fieldLink "FrontChairs$Seats" (123 : Nat) "FrontChairs$Beach" "planFor" "[I") ∈ tb := inT1 (List.mem_of_getElem? (i := 75) rfl) rfl
theorem kw1_76 : (Jvm.Cond.fieldLink "FrontChairs$Reader" (212 : Nat) "FrontChairs$Beach" "planFor" "[I") ∈ tb := inT1 (List.mem_of_getElem? (i := 76) rfl) rfl
theorem kw1_77 : (Jvm.Cond.fieldLink "FrontChairs$Beach" (37 : Nat) "FrontChairs$Beach" "movesLaw" "LFrontChairs$Law;") ∈ tb := inT1 (List.mem_of_getElem? (i := 77) rfl) rfl
theorem kw1_78 : (Jvm.Cond.fieldLink "FrontChairs$Reader" (180 : Nat) "FrontChairs$Beach" "movesLaw" "LFrontChairs$Law;") ∈ tb := inT1 (List.mem_of_getElem? (i := 78) rfl) rfl
theorem kw1_79 : (Jvm.Cond.fieldLink "FrontChairs$Beach" (41 : Nat) "FrontChairs$Beach" "tideLaw" "LFrontChairs$Law;") ∈ tb := inT1 (List.mem_of_getElem? (i := 79) rfl) rfl
theorem kw1_80 : (Jvm.Cond.fieldLink "FrontChairs$Reader" (184 : Nat) "FrontChairs$Beach" "tideLaw" "LFrontChairs$Law;") ∈ tb := inT1 (List.mem_of_getElem? (i := 80) rfl) rfl
theorem kw1_81 : (Jvm.Cond.fieldLink "FrontChairs$Beach" (44 : Nat) "FrontChairs$Beach" "wetsLaw" "LFrontChairs$Law;") ∈ tb := inT1 (List.mem_of_getElem? (i := 81) rfl) rfl
theorem kw1_82 : (Jvm.Cond.fieldLink "FrontChairs$Reader" (187 : Nat) "FrontChairs$Beach" "wetsLaw" "LFrontChairs$Law;") ∈ tb := inT1 (List.mem_of_getElem? (i := 82) rfl) rfl
theorem kw1_83 : (Jvm.Cond.lays "FrontChairs$Beach" "FrontChairs$Beach" "columns" "I") ∈ tb := inT1 (List.mem_of_getElem? (i := 83) rfl) rfl
theorem kw1_85 : (Jvm.Cond.lays "FrontChairs$Beach" "FrontChairs$Beach" "rows" "I") ∈ tb := inT1 (List.mem_of_getElem? (i := 85) rfl) rfl
theorem kw1_87 : (Jvm.Cond.lays "FrontChairs$Beach" "FrontChairs$Beach" "people" "I") ∈ tb := inT1 (List.mem_of_getElem? (i := 87) rfl) rfl
theorem kw1_89 : (Jvm.Cond.lays "FrontChairs$Beach" "FrontChairs$Beach" "lines" "I") ∈ tb := inT1 (List.mem_of_getElem? (i := 89) rfl) rfl
theorem kw1_91 : (Jvm.Cond.lays "FrontChairs$Beach" "FrontChairs$Beach" "asleep" "I") ∈ tb := inT1 (List.mem_of_getElem? (i := 91) rfl) rfl
theorem kw1_93 : (Jvm.Cond.laysFinal "FrontChairs$Beach" "FrontChairs$Beach" "age" "[I") ∈ tb := inT1 (List.mem_of_getElem? (i := 93) rfl) rfl
theorem kw1_95 : (Jvm.Cond.laysFinal "FrontChairs$Beach" "FrontChairs$Beach" "planAt" "[I") ∈ tb := inT1 (List.mem_of_getElem? (i := 95) rfl) rfl
theorem kw1_97 : (Jvm.Cond.laysFinal "FrontChairs$Beach" "FrontChairs$Beach" "planFor" "[I") ∈ tb := inT1 (List.mem_of_getElem? (i := 97) rfl) rfl
theorem kw1_99 : (Jvm.Cond.lays "FrontChairs$Beach" "FrontChairs$Beach" "movesLaw" "LFrontChairs$Law;") ∈ tb := inT1 (List.mem_of_getElem? (i := 99) rfl) rfl
theorem kw1_101 : (Jvm.Cond.lays "FrontChairs$Beach" "FrontChairs$Beach" "tideLaw" "LFrontChairs$Law;") ∈ tb := inT1 (List.mem_of_getElem? (i := 101) rfl) rfl
theorem kw1_103 : (Jvm.Cond.lays "FrontChairs$Beach" "FrontChairs$Beach" "wetsLaw" "LFrontChairs$Law;") ∈ tb := inT1 (List.mem_of_getElem? (i := 103) rfl) rfl
theorem kw1_106 : (Jvm.Cond.arrayClass Jvm.ClassFile.FieldType.int) ∈ tb := inT1 (List.mem_of_getElem? (i := 106) rfl) rfl
theorem kw1_107 : (Jvm.Cond.instantiable "FrontChairs$Seats" (7 : Nat)) ∈ tb := inT1 (List.mem_of_getElem? (i := 107) rfl) rfl
theorem kw1_108 : (Jvm.Cond.methodLink "FrontChairs" (62 : Nat) ({ cls := "FrontChairs$Seats", name := "<init>", desc := "(LFrontChairs$Beach;)V" } : Jvm.MethodName)) ∈ tb := inT1 (List.mem_of_getElem? (i := 108) rfl) rfl
theorem kw1_109 : (Jvm.Cond.instanceMethod ({ cls := "FrontChairs$Seats", name := "<init>", desc := "(LFrontChairs$Beach;)V" } : Jvm.MethodName)) ∈ tb := inT1 (List.mem_of_getElem? (i := 109) rfl) rfl
theorem kw1_110 : (Jvm.Cond.code ({ cls := "FrontChairs$Seats", name := "<init>", desc := "(LFrontChairs$Beach;)V" } : Jvm.MethodName) prog_7_method_1_code (2 : Nat) (Option.none : Option Jvm.ClassFile.FieldType)) ∈ tb := inT1 (List.mem_of_getElem? (i := 110) rfl) rfl
theorem kw1_111 : (Jvm.Cond.methodLink "FrontChairs$Seats" (3 : Nat) ({ cls := "java/lang/Object", name := "<init>", desc := "()V" } : Jvm.MethodName)) ∈ tb := inT1 (List.mem_of_getElem? (i := 111) rfl) rfl
theorem kw1_112 : (Jvm.Cond.methodLink "FrontChairs$Seats" (35 : Nat) ({ cls := "java/util/Arrays", name := "fill", desc := "([II)V" } : Jvm.MethodName)) ∈ tb := inT1 (List.mem_of_getElem? (i := 112) rfl) rfl
theorem kw1_113 : (Jvm.Cond.fieldLink "FrontChairs$Seats" (9 : Nat) "FrontChairs$Seats" "chairs" "[I") ∈ tb := inT1 (List.mem_of_getElem? (i := 113) rfl) rfl
theorem kw1_114 : (Jvm.Cond.fieldLink "FrontChairs$Seats" (15 : Nat) "FrontChairs$Seats" "column" "[I") ∈ tb := inT1 (List.mem_of_getElem? (i := 114) rfl) rfl
theorem kw1_115 : (Jvm.Cond.fieldLink "FrontChairs" (138 : Nat) "FrontChairs$Seats" "column" "[I") ∈ tb := inT1 (List.mem_of_getElem? (i := 115) rfl) rfl
theorem kw1_116 : (Jvm.Cond.fieldLink "FrontChairs$Seats" (18 : Nat) "FrontChairs$Seats" "row" "[I") ∈ tb := inT1 (List.mem_of_getElem? (i := 116) rfl) rfl
theorem kw1_117 : (Jvm.Cond.fieldLink "FrontChairs" (141 : Nat) "FrontChairs$Seats" "row" "[I") ∈ tb := inT1 (List.mem_of_getElem? (i := 117) rfl) rfl
theorem kw1_118 : (Jvm.Cond.fieldLink "FrontChairs$Seats" (21 : Nat) "FrontChairs$Seats" "back" "[I") ∈ tb := inT1 (List.mem_of_getElem? (i := 118) rfl) rfl
theorem kw1_119 : (Jvm.Cond.fieldLink "FrontChairs" (159 : Nat) "FrontChairs$Seats" "back" "[I") ∈ tb := inT1 (List.mem_of_getElem? (i := 119) rfl) rfl
theorem kw1_120 : (Jvm.Cond.fieldLink "FrontChairs$Seats" (31 : Nat) "FrontChairs$Seats" "beach" "LFrontChairs$Beach;") ∈ tb := inT1 (List.mem_of_getElem? (i := 120) rfl) rfl
theorem kw1_121 : (Jvm.Cond.fieldLink "FrontChairs$Reader" (47 : Nat) "FrontChairs$Seats" "beach" "LFrontChairs$Beach;") ∈ tb := inT1 (List.mem_of_getElem? (i := 121) rfl) rfl
theorem kw1_122 : (Jvm.Cond.fieldLink "FrontChairs" (120 : Nat) "FrontChairs$Seats" "beach" "LFrontChairs$Beach;") ∈ tb := inT1 (List.mem_of_getElem? (i := 122) rfl) rfl
theorem kw1_123 : (Jvm.Cond.fieldLink "FrontChairs$Seats" (24 : Nat) "FrontChairs$Seats" "wet" "I") ∈ tb := inT1 (List.mem_of_getElem? (i := 123) rfl) rfl
theorem kw1_124 : (Jvm.Cond.fieldLink "FrontChairs" (150 : Nat) "FrontChairs$Seats" "wet" "I") ∈ tb := inT1 (List.mem_of_getElem? (i := 124) rfl) rfl
theorem kw1_125 : (Jvm.Cond.fieldLink "FrontChairs$Seats" (28 : Nat) "FrontChairs$Seats" "minute" "I") ∈ tb := inT1 (List.mem_of_getElem? (i := 125) rfl) rfl
theorem kw1_126 : (Jvm.Cond.fieldLink "FrontChairs" (162 : Nat) "FrontChairs$Seats" "minute" "I") ∈ tb := inT1 (List.mem_of_getElem? (i := 126) rfl) rfl
theorem kw1_127 : (Jvm.Cond.fieldLink "FrontChairs$Reader" (158 : Nat) "FrontChairs$Seats" "minute" "I") ∈ tb := inT1 (List.mem_of_getElem? (i := 127) rfl) rfl
theorem kw1_128 : (Jvm.Cond.laysFinal "FrontChairs$Seats" "FrontChairs$Seats" "chairs" "[I") ∈ tb := inT1 (List.mem_of_getElem? (i := 128) rfl) rfl
theorem kw1_130 : (Jvm.Cond.laysFinal "FrontChairs$Seats" "FrontChairs$Seats" "column" "[I") ∈ tb := inT1 (List.mem_of_getElem? (i := 130) rfl) rfl
theorem kw1_132 : (Jvm.Cond.laysFinal "FrontChairs$Seats" "FrontChairs$Seats" "row" "[I") ∈ tb := inT1 (List.mem_of_getElem? (i := 132) rfl) rfl
theorem kw1_134 : (Jvm.Cond.laysFinal "FrontChairs$Seats" "FrontChairs$Seats" "back" "[I") ∈ tb := inT1 (List.mem_of_getElem? (i := 134) rfl) rfl
theorem kw1_136 : (Jvm.Cond.lays "FrontChairs$Seats" "FrontChairs$Seats" "beach" "LFrontChairs$Beach;") ∈ tb := inT1 (List.mem_of_getElem? (i := 136) rfl) rfl
theorem kw1_138 : (Jvm.Cond.lays "FrontChairs$Seats" "FrontChairs$Seats" "wet" "I") ∈ tb := inT1 (List.mem_of_getElem? (i := 138) rfl) rfl
theorem kw1_140 : (Jvm.Cond.lays "FrontChairs$Seats" "FrontChairs$Seats" "minute" "I") ∈ tb := inT1 (List.mem_of_getElem? (i := 140) rfl) rfl
theorem kw1_143 : (Jvm.Cond.classLink "FrontChairs" (69 : Nat) "FrontChairs$History") ∈ tb := inT1 (List.mem_of_getElem? (i := 143) rfl) rfl
theorem kw1_144 : (Jvm.Cond.instantiable "FrontChairs$History" (3 : Nat)) ∈ tb := inT1 (List.mem_of_getElem? (i := 144) rfl) rfl
theorem kw1_145 : (Jvm.Cond.methodLink "FrontChairs" (71 : Nat) ({ cls := "FrontChairs$History", name := "<init>", desc := "(LFrontChairs$Beach;)V" } : Jvm.MethodName)) ∈ tb := inT1 (List.mem_of_getElem? (i := 145) rfl) rfl
theorem kw1_146 : (Jvm.Cond.instanceMethod ({ cls := "FrontChairs$History", name := "<init>", desc := "(LFrontChairs$Beach;)V" } : Jvm.MethodName)) ∈ tb := inT1 (List.mem_of_getElem? (i := 146) rfl) rfl
theorem kw1_147 : (Jvm.Cond.code ({ cls := "FrontChairs$History", name := "<init>", desc := "(LFrontChairs$Beach;)V" } : Jvm.MethodName) prog_3_method_1_code (3 : Nat) (Option.none : Option Jvm.ClassFile.FieldType)) ∈ tb := inT1 (List.mem_of_getElem? (i := 147) rfl) rfl
theorem kw1_148 : (Jvm.Cond.methodLink "FrontChairs$History" (3 : Nat) ({ cls := "java/lang/Object", name := "<init>", desc := "()V" } : Jvm.MethodName)) ∈ tb := inT1 (List.mem_of_getElem? (i := 148) rfl) rfl
theorem kw1_149 : (Jvm.Cond.classLink "FrontChairs$History" (9 : Nat) "FrontChairs$Seats") ∈ tb := inT1 (List.mem_of_getElem? (i := 149) rfl) rfl
theorem kw1_150 : (Jvm.Cond.methodLink "FrontChairs$History" (24 : Nat) ({ cls := "FrontChairs$Seats", name := "<init>", desc := "(LFrontChairs$Beach;)V" } : Jvm.MethodName)) ∈ tb := inT1 (List.mem_of_getElem? (i := 150) rfl) rfl
theorem kw1_151 : (Jvm.Cond.fieldLink "FrontChairs$History" (11 : Nat) "FrontChairs$History" "kept" "[LFrontChairs$Seats;") ∈ tb := inT1 (List.mem_of_getElem? (i := 151) rfl) rfl
theorem kw1_152 : (Jvm.Cond.fieldLink "FrontChairs$History" (17 : Nat) "FrontChairs$History" "first" "I") ∈ tb := inT1 (List.mem_of_getElem? (i := 152) rfl) rfl
theorem kw1_153 : (Jvm.Cond.fieldLink "FrontChairs$History" (21 : Nat) "FrontChairs$History" "size" "I") ∈ tb := inT1 (List.mem_of_getElem? (i := 153) rfl) rfl
theorem kw1_154 : (Jvm.Cond.fieldLink "FrontChairs" (210 : Nat) "FrontChairs$History" "size" "I") ∈ tb := inT1 (List.mem_of_getElem? (i := 154) rfl) rfl
theorem kw1_155 : (Jvm.Cond.laysFinal "FrontChairs$History" "FrontChairs$History" "kept" "[LFrontChairs$Seats;") ∈ tb := inT1 (List.mem_of_getElem? (i := 155) rfl) rfl
theorem kw1_157 : (Jvm.Cond.lays "FrontChairs$History" "FrontChairs$History" "first" "I") ∈ tb := inT1 (List.mem_of_getElem? (i := 157) rfl) rfl
theorem kw1_159 : (Jvm.Cond.lays "FrontChairs$History" "FrontChairs$History" "size" "I") ∈ tb := inT1 (List.mem_of_getElem? (i := 159) rfl) rfl
theorem kw1_162 : (Jvm.Cond.classLink "FrontChairs" (76 : Nat) "FrontChairs$Reader") ∈ tb := inT1 (List.mem_of_getElem? (i := 162) rfl) rfl
theorem kw1_163 : (Jvm.Cond.instantiable "FrontChairs$Reader" (12 : Nat)) ∈ tb := inT1 (List.mem_of_getElem? (i := 163) rfl) rfl
theorem kw1_164 : (Jvm.Cond.methodLink "FrontChairs" (78 : Nat) ({ cls := "FrontChairs$Reader", name := "<init>", desc := "(LFrontChairs$Seats;)V" } : Jvm.MethodName)) ∈ tb := inT1 (List.mem_of_getElem? (i := 164) rfl) rfl
theorem kw1_165 : (Jvm.Cond.instanceMethod ({ cls := "FrontChairs$Reader", name := "<init>", desc := "(LFrontChairs$Seats;)V" } : Jvm.MethodName)) ∈ tb := inT1 (List.mem_of_getElem? (i := 165) rfl) rfl
theorem kw1_166 : (Jvm.Cond.code ({ cls := "FrontChairs$Reader", name := "<init>", desc := "(LFrontChairs$Seats;)V" } : Jvm.MethodName) prog_6_method_1_code (2 : Nat) (Option.none : Option Jvm.ClassFile.FieldType)) ∈ tb := inT1 (List.mem_of_getElem? (i := 166) rfl) rfl
theorem kw1_167 : (Jvm.Cond.methodLink "FrontChairs$Reader" (3 : Nat) ({ cls := "java/lang/Object", name := "<init>", desc := "()V" } : Jvm.MethodName)) ∈ tb := inT1 (List.mem_of_getElem? (i := 167) rfl) rfl
theorem kw1_168 : (Jvm.Cond.fieldLink "FrontChairs$Reader" (9 : Nat) "FrontChairs$Reader" "kinds" "[I") ∈ tb := inT1 (List.mem_of_getElem? (i := 168) rfl) rfl
theorem kw1_169 : (Jvm.Cond.fieldLink "FrontChairs$Reader" (15 : Nat) "FrontChairs$Reader" "values" "[I") ∈ tb := inT1 (List.mem_of_getElem? (i := 169) rfl) rfl
theorem kw1_170 : (Jvm.Cond.fieldLink "FrontChairs$Reader" (18 : Nat) "FrontChairs$Reader" "places" "[I") ∈ tb := inT1 (List.mem_of_getElem? (i := 170) rfl) rfl
theorem kw1_171 : (Jvm.Cond.fieldLink "FrontChairs$Reader" (21 : Nat) "FrontChairs$Reader" "code" "[I") ∈ tb := inT1 (List.mem_of_getElem? (i := 171) rfl) rfl
theorem kw1_172 : (Jvm.Cond.fieldLink "FrontChairs$Reader" (24 : Nat) "FrontChairs$Reader" "tokens" "I") ∈ tb := inT1 (List.mem_of_getElem? (i := 172) rfl) rfl
theorem kw1_173 : (Jvm.Cond.fieldLink "FrontChairs$Reader" (28 : Nat) "FrontChairs$Reader" "at" "I") ∈ tb := inT1 (List.mem_of_getElem? (i := 173) rfl) rfl
theorem kw1_174 : (Jvm.Cond.fieldLink "FrontChairs$Reader" (31 : Nat) "FrontChairs$Reader" "size" "I") ∈ tb := inT1 (List.mem_of_getElem? (i := 174) rfl) rfl
theorem kw1_175 : (Jvm.Cond.fieldLink "FrontChairs$Reader" (34 : Nat) "FrontChairs$Reader" "law" "I") ∈ tb := inT1 (List.mem_of_getElem? (i := 175) rfl) rfl
theorem kw1_176 : (Jvm.Cond.fieldLink "FrontChairs$Reader" (53 : Nat) "FrontChairs$Reader" "beach" "LFrontChairs$Beach;") ∈ tb := inT1 (List.mem_of_getElem? (i := 176) rfl) rfl
theorem kw1_177 : (Jvm.Cond.fieldLink "FrontChairs$Reader" (43 : Nat) "FrontChairs$Reader" "made" "LFrontChairs$Seats;") ∈ tb := inT1 (List.mem_of_getElem? (i := 177) rfl) rfl
theorem kw1_178 : (Jvm.Cond.fieldLink "FrontChairs" (111 : Nat) "FrontChairs$Reader" "made" "LFrontChairs$Seats;") ∈ tb := inT1 (List.mem_of_getElem? (i := 178) rfl) rfl
theorem kw1_179 : (Jvm.Cond.fieldLink "FrontChairs$Reader" (37 : Nat) "FrontChairs$Reader" "fault" "I") ∈ tb := inT1 (List.mem_of_getElem? (i := 179) rfl) rfl
theorem kw1_180 : (Jvm.Cond.fieldLink "FrontChairs" (105 : Nat) "FrontChairs$Reader" "fault" "I") ∈ tb := inT1 (List.mem_of_getElem? (i := 180) rfl) rfl
theorem kw1_181 : (Jvm.Cond.fieldLink "FrontChairs$Reader" (40 : Nat) "FrontChairs$Reader" "place" "I") ∈ tb := inT1 (List.mem_of_getElem? (i := 181) rfl) rfl
theorem kw1_182 : (Jvm.Cond.fieldLink "FrontChairs" (108 : Nat) "FrontChairs$Reader" "place" "I") ∈ tb := inT1 (List.mem_of_getElem? (i := 182) rfl) rfl
theorem kw1_183 : (Jvm.Cond.laysFinal "FrontChairs$Reader" "FrontChairs$Reader" "kinds" "[I") ∈ tb := inT1 (List.mem_of_getElem? (i := 183) rfl) rfl
theorem kw1_185 : (Jvm.Cond.laysFinal "FrontChairs$Reader" "FrontChairs$Reader" "values" "[I") ∈ tb := inT1 (List.mem_of_getElem? (i := 185) rfl) rfl
theorem kw1_187 : (Jvm.Cond.laysFinal "FrontChairs$Reader" "FrontChairs$Reader" "places" "[I") ∈ tb := inT1 (List.mem_of_getElem? (i := 187) rfl) rfl
theorem kw1_189 : (Jvm.Cond.laysFinal "FrontChairs$Reader" "FrontChairs$Reader" "code" "[I") ∈ tb := inT1 (List.mem_of_getElem? (i := 189) rfl) rfl
theorem kw1_191 : (Jvm.Cond.lays "FrontChairs$Reader" "FrontChairs$Reader" "tokens" "I") ∈ tb := inT1 (List.mem_of_getElem? (i := 191) rfl) rfl
theorem kw1_193 : (Jvm.Cond.lays "FrontChairs$Reader" "FrontChairs$Reader" "at" "I") ∈ tb := inT1 (List.mem_of_getElem? (i := 193) rfl) rfl
theorem kw1_195 : (Jvm.Cond.lays "FrontChairs$Reader" "FrontChairs$Reader" "size" "I") ∈ tb := inT1 (List.mem_of_getElem? (i := 195) rfl) rfl
theorem kw1_197 : (Jvm.Cond.lays "FrontChairs$Reader" "FrontChairs$Reader" "law" "I") ∈ tb := inT1 (List.mem_of_getElem? (i := 197) rfl) rfl
theorem kw1_199 : (Jvm.Cond.lays "FrontChairs$Reader" "FrontChairs$Reader" "beach" "LFrontChairs$Beach;") ∈ tb := inT1 (List.mem_of_getElem? (i := 199) rfl) rfl
theorem kw1_201 : (Jvm.Cond.laysFinal "FrontChairs$Reader" "FrontChairs$Reader" "made" "LFrontChairs$Seats;") ∈ tb := inT1 (List.mem_of_getElem? (i := 201) rfl) rfl
theorem kw1_203 : (Jvm.Cond.lays "FrontChairs$Reader" "FrontChairs$Reader" "fault" "I") ∈ tb := inT1 (List.mem_of_getElem? (i := 203) rfl) rfl
theorem kw1_205 : (Jvm.Cond.lays "FrontChairs$Reader" "FrontChairs$Reader" "place" "I") ∈ tb := inT1 (List.mem_of_getElem? (i := 205) rfl) rfl
theorem kw1_208 : (Jvm.Cond.instantiable "FrontChairs$Tray" (3 : Nat)) ∈ tb := inT1 (List.mem_of_getElem? (i := 208) rfl) rfl
theorem kw1_210 : (Jvm.Cond.instanceMethod ({ cls := "FrontChairs$Tray", name := "<init>", desc := "()V" } : Jvm.MethodName)) ∈ tb := inT1 (List.mem_of_getElem? (i := 210) rfl) rfl
theorem kw1_211 : (Jvm.Cond.code ({ cls := "FrontChairs$Tray", name := "<init>", desc := "()V" } : Jvm.MethodName) prog_8_method_1_code (1 : Nat) (Option.none : Option Jvm.ClassFile.FieldType)) ∈ tb := inT1 (List.mem_of_getElem? (i := 211) rfl) rfl
theorem kw1_212 : (Jvm.Cond.methodLink "FrontChairs$Tray" (3 : Nat) ({ cls := "java/lang/Object", name := "<init>", desc := "()V" } : Jvm.MethodName)) ∈ tb := inT1 (List.mem_of_getElem? (i := 212) rfl) rfl
theorem kw1_213 : (Jvm.Cond.fieldLink "FrontChairs$Tray" (9 : Nat) "FrontChairs$Tray" "sort" "I") ∈ tb := inT1 (List.mem_of_getElem? (i := 213) rfl) rfl
theorem kw1_214 : (Jvm.Cond.fieldLink "FrontChairs$Tray" (15 : Nat) "FrontChairs$Tray" "many" "I") ∈ tb := inT1 (List.mem_of_getElem? (i := 214) rfl) rfl
theorem kw1_215 : (Jvm.Cond.fieldLink "FrontChairs" (227 : Nat) "FrontChairs$Tray" "many" "I") ∈ tb := inT1 (List.mem_of_getElem? (i := 215) rfl) rfl
theorem kw1_216 : (Jvm.Cond.fieldLink "FrontChairs$Tray" (18 : Nat) "FrontChairs$Tray" "numbers" "[J") ∈ tb := inT1 (List.mem_of_getElem? (i := 216) rfl) rfl
theorem kw1_217 : (Jvm.Cond.fieldLink "FrontChairs" (230 : Nat) "FrontChairs$Tray" "numbers" "[J") ∈ tb := inT1 (List.mem_of_getElem? (i := 217) rfl) rfl
theorem kw1_218 : (Jvm.Cond.lays "FrontChairs$Tray" "FrontChairs$Tray" "sort" "I") ∈ tb := inT1 (List.mem_of_getElem? (i := 218) rfl) rfl
theorem kw1_220 : (Jvm.Cond.lays "FrontChairs$Tray" "FrontChairs$Tray" "many" "I") ∈ tb := inT1 (List.mem_of_getElem? (i := 220) rfl) rfl
theorem kw1_222 : (Jvm.Cond.laysFinal "FrontChairs$Tray" "FrontChairs$Tray" "numbers" "[J") ∈ tb := inT1 (List.mem_of_getElem? (i := 222) rfl) rfl
theorem kw1_225 : (Jvm.Cond.arrayClass Jvm.ClassFile.FieldType.long) ∈ tb := inT1 (List.mem_of_getElem? (i := 225) rfl) rfl
theorem kw1_226 : (Jvm.Cond.fieldLink "FrontChairs" (9 : Nat) "FrontChairs" "tape" "[I") ∈ tb := inT1 (List.mem_of_getElem? (i := 226) rfl) rfl
theorem kw1_227 : (Jvm.Cond.fieldLink "FrontChairs" (13 : Nat) "FrontChairs" "tapeSize" "I") ∈ tb := inT1 (List.mem_of_getElem? (i := 227) rfl) rfl
theorem kw1_228 : (Jvm.Cond.fieldLink "FrontChairs" (17 : Nat) "FrontChairs" "faultKind" "I") ∈ tb := inT1 (List.mem_of_getElem? (i := 228) rfl) rfl
theorem kw1_229 : (Jvm.Cond.fieldLink "FrontChairs" (20 : Nat) "FrontChairs" "faultPlace" "I") ∈ tb := inT1 (List.mem_of_getElem? (i := 229) rfl) rfl
theorem kw1_230 : (Jvm.Cond.fieldLink "FrontChairs" (65 : Nat) "FrontChairs" "seats" "LFrontChairs$Seats;") ∈ tb := inT1 (List.mem_of_getElem? (i := 230) rfl) rfl
theorem kw1_231 : (Jvm.Cond.fieldLink "FrontChairs" (72 : Nat) "FrontChairs" "history" "LFrontChairs$History;") ∈ tb := inT1 (List.mem_of_getElem? (i := 231) rfl) rfl
theorem kw1_232 : (Jvm.Cond.fieldLink "FrontChairs" (81 : Nat) "FrontChairs" "reader" "LFrontChairs$Reader;") ∈ tb := inT1 (List.mem_of_getElem? (i := 232) rfl) rfl
theorem kw1_233 : (Jvm.Cond.fieldLink "FrontChairs" (25 : Nat) "FrontChairs" "trays" "[LFrontChairs$Tray;") ∈ tb := inT1 (List.mem_of_getElem? (i := 233) rfl) rfl
theorem kw1_234 : (Jvm.Cond.fieldLink "FrontChairs" (31 : Nat) "FrontChairs" "images" "[LFrontChairs$Image;") ∈ tb := inT1 (List.mem_of_getElem? (i := 234) rfl) rfl
theorem kw1_235 : (Jvm.Cond.fieldLink "FrontChairs" (37 : Nat) "FrontChairs" "trials" "[LFrontChairs$Seats;") ∈ tb := inT1 (List.mem_of_getElem? (i := 235) rfl) rfl
theorem kw1_236 : (Jvm.Cond.fieldLink "FrontChairs" (41 : Nat) "FrontChairs" "risers" "[I") ∈ tb := inT1 (List.mem_of_getElem? (i := 236) rfl) rfl
theorem kw1_237 : (Jvm.Cond.fieldLink "FrontChairs" (44 : Nat) "FrontChairs" "tallies" "[I") ∈ tb := inT1 (List.mem_of_getElem? (i := 237) rfl) rfl
theorem kw1_238 : (Jvm.Cond.fieldLink "FrontChairs" (47 : Nat) "FrontChairs" "levels" "[I") ∈ tb := inT1 (List.mem_of_getElem? (i := 238) rfl) rfl
theorem kw1_239 : (Jvm.Cond.fieldLink "FrontChairs" (50 : Nat) "FrontChairs" "twos" "[I") ∈ tb := inT1 (List.mem_of_getElem? (i := 239) rfl) rfl
theorem kw2_0 : (Jvm.Cond.fieldLink "FrontChairs" (53 : Nat) "FrontChairs" "ends" "[I") ∈ tb := inT2 (List.mem_of_getElem? (i := 0) rfl) rfl
theorem kw2_1 : (Jvm.Cond.fieldLink "FrontChairs" (56 : Nat) "FrontChairs" "drawn" "I") ∈ tb := inT2 (List.mem_of_getElem? (i := 1) rfl) rfl
theorem kw2_2 : (Jvm.Cond.laysFinal "FrontChairs" "FrontChairs" "tape" "[I") ∈ tb := inT2 (List.mem_of_getElem? (i := 2) rfl) rfl
theorem kw2_4 : (Jvm.Cond.lays "FrontChairs" "FrontChairs" "tapeSize" "I") ∈ tb := inT2 (List.mem_of_getElem? (i := 4) rfl) rfl
theorem kw2_6 : (Jvm.Cond.lays "FrontChairs" "FrontChairs" "faultKind" "I") ∈ tb := inT2 (List.mem_of_getElem? (i := 6) rfl) rfl
theorem kw2_8 : (Jvm.Cond.lays "FrontChairs" "FrontChairs" "faultPlace" "I") ∈ tb := inT2 (List.mem_of_getElem? (i := 8) rfl) rfl
theorem kw2_10 : (Jvm.Cond.laysFinal "FrontChairs" "FrontChairs" "seats" "LFrontChairs$Seats;") ∈ tb := inT2 (List.mem_of_getElem? (i := 10) rfl) rfl
theorem kw2_12 : (Jvm.Cond.laysFinal "FrontChairs" "FrontChairs" "history" "LFrontChairs$History;") ∈ tb := inT2 (List.mem_of_getElem? (i := 12) rfl) rfl
theorem kw2_14 : (Jvm.Cond.laysFinal "FrontChairs" "FrontChairs" "reader" "LFrontChairs$Reader;") ∈ tb := inT2 (List.mem_of_getElem? (i := 14) rfl) rfl
theorem kw2_16 : (Jvm.Cond.laysFinal "FrontChairs" "FrontChairs" "trays" "[LFrontChairs$Tray;") ∈ tb := inT2 (List.mem_of_getElem? (i := 16) rfl) rfl
theorem kw2_18 : (Jvm.Cond.laysFinal "FrontChairs" "FrontChairs" "images" "[LFrontChairs$Image;") ∈ tb := inT2 (List.mem_of_getElem? (i := 18) rfl) rfl
theorem kw2_20 : (Jvm.Cond.laysFinal "FrontChairs" "FrontChairs" "trials" "[LFrontChairs$Seats;") ∈ tb := inT2 (List.mem_of_getElem? (i := 20) rfl) rfl
theorem kw2_22 : (Jvm.Cond.laysFinal "FrontChairs" "FrontChairs" "risers" "[I") ∈ tb := inT2 (List.mem_of_getElem? (i := 22) rfl) rfl
theorem kw2_24 : (Jvm.Cond.laysFinal "FrontChairs" "FrontChairs" "tallies" "[I") ∈ tb := inT2 (List.mem_of_getElem? (i := 24) rfl) rfl
theorem kw2_26 : (Jvm.Cond.laysFinal "FrontChairs" "FrontChairs" "levels" "[I") ∈ tb := inT2 (List.mem_of_getElem? (i := 26) rfl) rfl
theorem kw2_28 : (Jvm.Cond.laysFinal "FrontChairs" "FrontChairs" "twos" "[I") ∈ tb := inT2 (List.mem_of_getElem? (i := 28) rfl) rfl
theorem kw2_30 : (Jvm.Cond.laysFinal "FrontChairs" "FrontChairs" "ends" "[I") ∈ tb := inT2 (List.mem_of_getElem? (i := 30) rfl) rfl
theorem kw2_32 : (Jvm.Cond.lays "FrontChairs" "FrontChairs" "drawn" "I") ∈ tb := inT2 (List.mem_of_getElem? (i := 32) rfl) rfl
theorem kw2_35 : (Jvm.Cond.methodLink "FrontChairsLaw" (134 : Nat) ({ cls := "FrontChairs", name := "feed", desc := "(IIIII)I" } : Jvm.MethodName)) ∈ tb := inT2 (List.mem_of_getElem? (i := 35) rfl) rfl
theorem kw2_36 : (Jvm.Cond.instanceMethod ({ cls := "FrontChairs", name := "feed", desc := "(IIIII)I" } : Jvm.MethodName)) ∈ tb := inT2 (List.mem_of_getElem? (i := 36) rfl) rfl
theorem kw2_37 : (Jvm.Cond.selects "FrontChairs" ({ cls := "FrontChairs", name := "feed", desc := "(IIIII)I" } : Jvm.MethodName) ({ cls := "FrontChairs", name := "feed", desc := "(IIIII)I" } : Jvm.MethodName)) ∈ tb := inT2 (List.mem_of_getElem? (i := 37) rfl) rfl
theorem kw2_38 : (Jvm.Cond.code ({ cls := "FrontChairs", name := "feed", desc := "(IIIII)I" } : Jvm.MethodName) prog_1_method_2_code (6 : Nat) (Option.some Jvm.ClassFile.FieldType.int)) ∈ tb := inT2 (List.mem_of_getElem? (i := 38) rfl) rfl
theorem kw2_39 : (Jvm.Cond.methodLink "FrontChairs" (86 : Nat) ({ cls := "FrontChairs", name := "append", desc := "(I)V" } : Jvm.MethodName)) ∈ tb := inT2 (List.mem_of_getElem? (i := 39) rfl) rfl
theorem kw2_41 : (Jvm.Cond.instanceMethod ({ cls := "FrontChairs", name := "append", desc := "(I)V" } : Jvm.MethodName)) ∈ tb := inT2 (List.mem_of_getElem? (i := 41) rfl) rfl
theorem kw2_42 : (Jvm.Cond.code ({ cls := "FrontChairs", name := "append", desc := "(I)V" } : Jvm.MethodName) prog_1_method_53_code (3 : Nat) (Option.none : Option Jvm.ClassFile.FieldType)) ∈ tb := inT2 (List.mem_of_getElem? (i := 42) rfl) rfl
theorem kw2_43 : (Jvm.Cond.methodLink "FrontChairsLaw" (149 : Nat) ({ cls := "FrontChairs", name := "fault", desc := "(I)I" } : Jvm.MethodName)) ∈ tb := inT2 (List.mem_of_getElem? (i := 43) rfl) rfl
theorem kw2_44 : (Jvm.Cond.instanceMethod ({ cls := "FrontChairs", name := "fault", desc := "(I)I" } : Jvm.MethodName)) ∈ tb := inT2 (List.mem_of_getElem? (i := 44) rfl) rfl
theorem kw2_45 : (Jvm.Cond.selects "FrontChairs" ({ cls := "FrontChairs", name := "fault", desc := "(I)I" } : Jvm.MethodName) ({ cls := "FrontChairs", name := "fault", desc := "(I)I" } : Jvm.MethodName)) ∈ tb := inT2 (List.mem_of_getElem? (i := 45) rfl) rfl
theorem kw2_46 : (Jvm.Cond.code ({ cls := "FrontChairs", name := "fault", desc := "(I)I" } : Jvm.MethodName) prog_1_method_4_code (2 : Nat) (Option.some Jvm.ClassFile.FieldType.int)) ∈ tb := inT2 (List.mem_of_getElem? (i := 46) rfl) rfl
theorem kw2_47 : (Jvm.Cond.methodLink "FrontChairsLaw" (170 : Nat) ({ cls := "FrontChairs", name := "rise", desc := "(I)I" } : Jvm.MethodName)) ∈ tb := inT2 (List.mem_of_getElem? (i := 47) rfl) rfl
theorem kw2_48 : (Jvm.Cond.instanceMethod ({ cls := "FrontChairs", name := "rise", desc := "(I)I" } : Jvm.MethodName)) ∈ tb := inT2 (List.mem_of_getElem? (i := 48) rfl) rfl
theorem kw2_49 : (Jvm.Cond.selects "FrontChairs" ({ cls := "FrontChairs", name := "rise", desc := "(I)I" } : Jvm.MethodName) ({ cls := "FrontChairs", name := "rise", desc := "(I)I" } : Jvm.MethodName)) ∈ tb := inT2 (List.mem_of_getElem? (i := 49) rfl) rfl
theorem kw2_50 : (Jvm.Cond.code ({ cls := "FrontChairs", name := "rise", desc := "(I)I" } : Jvm.MethodName) prog_1_method_10_code (3 : Nat) (Option.some Jvm.ClassFile.FieldType.int)) ∈ tb := inT2 (List.mem_of_getElem? (i := 50) rfl) rfl
theorem kw2_51 : (Jvm.Cond.methodLink "FrontChairs" (177 : Nat) ({ cls := "FrontChairs$Seats", name := "whyNotLeave", desc := "(I)I" } : Jvm.MethodName)) ∈ tb := inT2 (List.mem_of_getElem? (i := 51) rfl) rfl
theorem kw2_52 : (Jvm.Cond.instanceMethod ({ cls := "FrontChairs$Seats", name := "whyNotLeave", desc := "(I)I" } : Jvm.MethodName)) ∈ tb := inT2 (List.mem_of_getElem? (i := 52) rfl) rfl
theorem kw2_53 : (Jvm.Cond.selects "FrontChairs$Seats" ({ cls := "FrontChairs$Seats", name := "whyNotLeave", desc := "(I)I" } : Jvm.MethodName) ({ cls := "FrontChairs$Seats", name := "whyNotLeave", desc := "(I)I" } : Jvm.MethodName)) ∈ tb := inT2 (List.mem_of_getElem? (i := 53) rfl) rfl
theorem kw2_54 : (Jvm.Cond.code ({ cls := "FrontChairs$Seats", name := "whyNotLeave", desc := "(I)I" } : Jvm.MethodName) prog_7_method_7_code (2 : Nat) (Option.some Jvm.ClassFile.FieldType.int)) ∈ tb := inT2 (List.mem_of_getElem? (i := 54) rfl) rfl
theorem kw2_55 : (Jvm.Cond.methodLink "FrontChairs$Seats" (53 : Nat) ({ cls := "FrontChairs$Beach", name := "isPerson", desc := "(I)Z" } : Jvm.MethodName)) ∈ tb := inT2 (List.mem_of_getElem? (i := 55) rfl) rfl
theorem kw2_56 : (Jvm.Cond.instanceMethod ({ cls := "FrontChairs$Beach", name := "isPerson", desc := "(I)Z" } : Jvm.MethodName)) ∈ tb := inT2 (List.mem_of_getElem? (i := 56) rfl) rfl
theorem kw2_57 : (Jvm.Cond.selects "FrontChairs$Beach" ({ cls := "FrontChairs$Beach", name := "isPerson", desc := "(I)Z" } : Jvm.MethodName) ({ cls := "FrontChairs$Beach", name := "isPerson", desc := "(I)Z" } : Jvm.MethodName)) ∈ tb := inT2 (List.mem_of_getElem? (i := 57) rfl) rfl
theorem kw2_58 : (Jvm.Cond.code ({ cls := "FrontChairs$Beach", name := "isPerson", desc := "(I)Z" } : Jvm.MethodName) prog_2_method_2_code (2 : Nat) (Option.some Jvm.ClassFile.FieldType.boolean)) ∈ tb := inT2 (List.mem_of_getElem? (i := 58) rfl) rfl
theorem kw2_59 : (Jvm.Cond.methodLink "FrontChairs$Seats" (57 : Nat) ({ cls := "FrontChairs$Beach", name := "isAsleep", desc := "(I)Z" } : Jvm.MethodName)) ∈ tb := inT2 (List.mem_of_getElem? (i := 59) rfl) rfl
theorem kw2_60 : (Jvm.Cond.instanceMethod ({ cls := "FrontChairs$Beach", name := "isAsleep", desc := "(I)Z" } : Jvm.MethodName)) ∈ tb := inT2 (List.mem_of_getElem? (i := 60) rfl) rfl
theorem kw2_61 : (Jvm.Cond.selects "FrontChairs$Beach" ({ cls := "FrontChairs$Beach", name := "isAsleep", desc := "(I)Z" } : Jvm.MethodName) ({ cls := "FrontChairs$Beach", name := "isAsleep", desc := "(I)Z" } : Jvm.MethodName)) ∈ tb := inT2 (List.mem_of_getElem? (i := 61) rfl) rfl
theorem kw2_62 : (Jvm.Cond.code ({ cls := "FrontChairs$Beach", name := "isAsleep", desc := "(I)Z" } : Jvm.MethodName) prog_2_method_5_code (2 : Nat) (Option.some Jvm.ClassFile.FieldType.boolean)) ∈ tb := inT2 (List.mem_of_getElem? (i := 62) rfl) rfl
theorem kw2_63 : (Jvm.Cond.methodLink "FrontChairs" (180 : Nat) ({ cls := "FrontChairs$History", name := "keep", desc := "(LFrontChairs$Seats;)V" } : Jvm.MethodName)) ∈ tb := inT2 (List.mem_of_getElem? (i := 63) rfl) rfl
theorem kw2_64 : (Jvm.Cond.instanceMethod ({ cls := "FrontChairs$History", name := "keep", desc := "(LFrontChairs$Seats;)V" } : Jvm.MethodName)) ∈ tb := inT2 (List.mem_of_getElem? (i := 64) rfl) rfl
theorem kw2_65 : (Jvm.Cond.selects "FrontChairs$History" ({ cls := "FrontChairs$History", name := "keep", desc := "(LFrontChairs$Seats;)V" } : Jvm.MethodName) ({ cls := "FrontChairs$History", name := "keep", desc := "(LFrontChairs$Seats;)V" } : Jvm.MethodName)) ∈ tb := inT2 (List.mem_of_getElem? (i := 65) rfl) rfl
theorem kw2_66 : (Jvm.Cond.code ({ cls := "FrontChairs$History", name := "keep", desc := "(LFrontChairs$Seats;)V" } : Jvm.MethodName) prog_3_method_2_code (2 : Nat) (Option.none : Option Jvm.ClassFile.FieldType)) ∈ tb := inT2 (List.mem_of_getElem? (i := 66) rfl) rfl
theorem kw2_67 : (Jvm.Cond.methodLink "FrontChairs$History" (27 : Nat) ({ cls := "FrontChairs$Seats", name := "copyFrom", desc := "(LFrontChairs$Seats;)V" } : Jvm.MethodName)) ∈ tb := inT2 (List.mem_of_getElem? (i := 67) rfl) rfl
theorem kw2_68 : (Jvm.Cond.instanceMethod ({ cls := "FrontChairs$Seats", name := "copyFrom", desc := "(LFrontChairs$Seats;)V" } : Jvm.MethodName)) ∈ tb := inT2 (List.mem_of_getElem? (i := 68) rfl) rfl
theorem kw2_69 : (Jvm.Cond.selects "FrontChairs$Seats" ({ cls := "FrontChairs$Seats", name := "copyFrom", desc := "(LFrontChairs$Seats;)V" } : Jvm.MethodName) ({ cls := "FrontChairs$Seats", name := "copyFrom", desc := "(LFrontChairs$Seats;)V" } : Jvm.MethodName)) ∈ tb := inT2 (List.mem_of_getElem? (i := 69) rfl) rfl
theorem kw2_70 : (Jvm.Cond.code ({ cls := "FrontChairs$Seats", name := "copyFrom", desc := "(LFrontChairs$Seats;)V" } : Jvm.MethodName) prog_7_method_2_code (2 : Nat) (Option.none : Option Jvm.ClassFile.FieldType)) ∈ tb := inT2 (List.mem_of_getElem? (i := 70) rfl) rfl
theorem kw2_71 : (Jvm.Cond.methodLink "FrontChairs$Seats" (41 : Nat) ({ cls := "java/lang/System", name := "arraycopy", desc := "(Ljava/lang/Object;ILjava/lang/Object;II)V" } : Jvm.MethodName)) ∈ tb := inT2 (List.mem_of_getElem? (i := 71) rfl) rfl
theorem kw2_72 : (Jvm.Cond.static ({ cls := "java/lang/System", name := "arraycopy", desc := "(Ljava/lang/Object;ILjava/lang/Object;II)V" } : Jvm.MethodName)) ∈ tb := inT2 (List.mem_of_getElem? (i := 72) rfl) rfl
theorem kw2_73 : (Jvm.Cond.native ({ cls := "java/lang/System", name := "arraycopy", desc := "(Ljava/lang/Object;ILjava/lang/Object;II)V" } : Jvm.MethodName)) ∈ tb := inT2 (List.mem_of_getElem? (i := 73) rfl) rfl
theorem kw2_74 : (Jvm.Cond.methodLink "FrontChairs" (183 : Nat) ({ cls := "FrontChairs$Seats", name := "leave", desc := "(I)I" } : Jvm.MethodName)) ∈ tb := inT2 (List.mem_of_getElem? (i := 74) rfl) rfl
theorem kw2_75 : (Jvm.Cond.instanceMethod ({ cls := "FrontChairs$Seats", name := "leave", desc := "(I)I" } : Jvm.MethodName)) ∈ tb := inT2 (List.mem_of_getElem? (i := 75) rfl) rfl
theorem kw2_76 : (Jvm.Cond.selects "FrontChairs$Seats" ({ cls := "FrontChairs$Seats", name := "leave", desc := "(I)I" } : Jvm.MethodName) ({ cls := "FrontChairs$Seats", name := "leave", desc := "(I)I" } : Jvm.MethodName)) ∈ tb := inT2 (List.mem_of_getElem? (i := 76) rfl) rfl
theorem kw2_77 : (Jvm.Cond.code ({ cls := "FrontChairs$Seats", name := "leave", desc := "(I)I" } : Jvm.MethodName) prog_7_method_12_code (8 : Nat) (Option.some Jvm.ClassFile.FieldType.int)) ∈ tb := inT2 (List.mem_of_getElem? (i := 77) rfl) rfl
theorem kw2_78 : (Jvm.Cond.methodLink "FrontChairs$Seats" (47 : Nat) ({ cls := "FrontChairs$Beach", name := "isChair", desc := "(II)Z" } : Jvm.MethodName)) ∈ tb := inT2 (List.mem_of_getElem? (i := 78) rfl) rfl
theorem kw2_79 : (Jvm.Cond.instanceMethod ({ cls := "FrontChairs$Beach", name := "isChair", desc := "(II)Z" } : Jvm.MethodName)) ∈ tb := inT2 (List.mem_of_getElem? (i := 79) rfl) rfl
theorem kw2_80 : (Jvm.Cond.selects "FrontChairs$Beach" ({ cls := "FrontChairs$Beach", name := "isChair", desc := "(II)Z" } : Jvm.MethodName) ({ cls := "FrontChairs$Beach", name := "isChair", desc := "(II)Z" } : Jvm.MethodName)) ∈ tb := inT2 (List.mem_of_getElem? (i := 80) rfl) rfl
theorem kw2_81 : (Jvm.Cond.code ({ cls := "FrontChairs$Beach", name := "isChair", desc := "(II)Z" } : Jvm.MethodName) prog_2_method_4_code (3 : Nat) (Option.some Jvm.ClassFile.FieldType.boolean)) ∈ tb := inT2 (List.mem_of_getElem? (i := 81) rfl) rfl
theorem kw2_82 : (Jvm.Cond.methodLink "FrontChairs$Beach" (53 : Nat) ({ cls := "FrontChairs$Beach", name := "isColumn", desc := "(I)Z" } : Jvm.MethodName)) ∈ tb := inT2 (List.mem_of_getElem? (i := 82) rfl) rfl
theorem kw2_83 : (Jvm.Cond.instanceMethod ({ cls := "FrontChairs$Beach", name := "isColumn", desc := "(I)Z" } : Jvm.MethodName)) ∈ tb := inT2 (List.mem_of_getElem? (i := 83) rfl) rfl
theorem kw2_84 : (Jvm.Cond.selects "FrontChairs$Beach" ({ cls := "FrontChairs$Beach", name := "isColumn", desc := "(I)Z" } : Jvm.MethodName) ({ cls := "FrontChairs$Beach", name := "isColumn", desc := "(I)Z" } : Jvm.MethodName)) ∈ tb := inT2 (List.mem_of_getElem? (i := 84) rfl) rfl
theorem kw2_85 : (Jvm.Cond.code ({ cls := "FrontChairs$Beach", name := "isColumn", desc := "(I)Z" } : Jvm.MethodName) prog_2_method_3_code (2 : Nat) (Option.some Jvm.ClassFile.FieldType.boolean)) ∈ tb := inT2 (List.mem_of_getElem? (i := 85) rfl) rfl
theorem kw2_86 : (Jvm.Cond.methodLink "FrontChairs$Seats" (106 : Nat) ({ cls := "FrontChairs$Beach", name := "lawful", desc := "(IIII)Z" } : Jvm.MethodName)) ∈ tb := inT2 (List.mem_of_getElem? (i := 86) rfl) rfl
theorem kw2_87 : (Jvm.Cond.instanceMethod ({ cls := "FrontChairs$Beach", name := "lawful", desc := "(IIII)Z" } : Jvm.MethodName)) ∈ tb := inT2 (List.mem_of_getElem? (i := 87) rfl) rfl
theorem kw2_88 : (Jvm.Cond.selects "FrontChairs$Beach" ({ cls := "FrontChairs$Beach", name := "lawful", desc := "(IIII)Z" } : Jvm.MethodName) ({ cls := "FrontChairs$Beach", name := "lawful", desc := "(IIII)Z" } : Jvm.MethodName)) ∈ tb := inT2 (List.mem_of_getElem? (i := 88) rfl) rfl
theorem kw2_89 : (Jvm.Cond.code ({ cls := "FrontChairs$Beach", name := "lawful", desc := "(IIII)Z" } : Jvm.MethodName) prog_2_method_7_code (5 : Nat) (Option.some Jvm.ClassFile.FieldType.boolean)) ∈ tb := inT2 (List.mem_of_getElem? (i := 89) rfl) rfl
theorem kw2_90 : (Jvm.Cond.methodLink "FrontChairs$Beach" (57 : Nat) ({ cls := "FrontChairs$Law", name := "value", desc := "(IIIII)I" } : Jvm.MethodName)) ∈ tb := inT2 (List.mem_of_getElem? (i := 90) rfl) rfl
theorem kw2_91 : (Jvm.Cond.instanceMethod ({ cls := "FrontChairs$Law", name := "value", desc := "(IIIII)I" } : Jvm.MethodName)) ∈ tb := inT2 (List.mem_of_getElem? (i := 91) rfl) rfl
theorem kw2_92 : (Jvm.Cond.selects "FrontChairs$Law" ({ cls := "FrontChairs$Law", name := "value", desc := "(IIIII)I" } : Jvm.MethodName) ({ cls := "FrontChairs$Law", name := "value", desc := "(IIIII)I" } : Jvm.MethodName)) ∈ tb := inT2 (List.mem_of_getElem? (i := 92) rfl) rfl
theorem kw2_93 : (Jvm.Cond.code ({ cls := "FrontChairs$Law", name := "value", desc := "(IIIII)I" } : Jvm.MethodName) prog_5_method_2_code (10 : Nat) (Option.some Jvm.ClassFile.FieldType.int)) ∈ tb := inT2 (List.mem_of_getElem? (i := 93) rfl) rfl
theorem kw2_94 : (Jvm.Cond.methodLink "FrontChairs$Law" (16 : Nat) ({ cls := "FrontChairs$Law", name := "joined", desc := "(III)I" } : Jvm.MethodName)) ∈ tb := inT2 (List.mem_of_getElem? (i := 94) rfl) rfl
theorem kw2_95 : (Jvm.Cond.static ({ cls := "FrontChairs$Law", name := "joined", desc := "(III)I" } : Jvm.MethodName)) ∈ tb := inT2 (List.mem_of_getElem? (i := 95) rfl) rfl
theorem kw2_96 : (Jvm.Cond.code ({ cls := "FrontChairs$Law", name := "joined", desc := "(III)I" } : Jvm.MethodName) prog_5_method_3_code (5 : Nat) (Option.some Jvm.ClassFile.FieldType.int)) ∈ tb := inT2 (List.mem_of_getElem? (i := 96) rfl) rfl
theorem kw2_97 : (Jvm.Cond.constantLong "FrontChairs$Law" (20 : Nat) (1000000 : Int64)) ∈ tb := inT2 (List.mem_of_getElem? (i := 97) rfl) rfl
theorem kw2_98 : (Jvm.Cond.constantLong "FrontChairs$Law" (22 : Nat) (-1000000 : Int64)) ∈ tb := inT2 (List.mem_of_getElem? (i := 98) rfl) rfl
theorem kw2_99 : (Jvm.Cond.methodLink "FrontChairsLaw" (174 : Nat) ({ cls := "FrontChairs", name := "sit", desc := "(II)I" } : Jvm.MethodName)) ∈ tb := inT2 (List.mem_of_getElem? (i := 99) rfl) rfl
theorem kw2_100 : (Jvm.Cond.instanceMethod ({ cls := "FrontChairs", name := "sit", desc := "(II)I" } : Jvm.MethodName)) ∈ tb := inT2 (List.mem_of_getElem? (i := 100) rfl) rfl
theorem kw2_101 : (Jvm.Cond.selects "FrontChairs" ({ cls := "FrontChairs", name := "sit", desc := "(II)I" } : Jvm.MethodName) ({ cls := "FrontChairs", name := "sit", desc := "(II)I" } : Jvm.MethodName)) ∈ tb := inT2 (List.mem_of_getElem? (i := 101) rfl) rfl
theorem kw2_102 : (Jvm.Cond.code ({ cls := "FrontChairs", name := "sit", desc := "(II)I" } : Jvm.MethodName) prog_1_method_11_code (4 : Nat) (Option.some Jvm.ClassFile.FieldType.int)) ∈ tb := inT2 (List.mem_of_getElem? (i := 102) rfl) rfl
theorem kw2_103 : (Jvm.Cond.methodLink "FrontChairs" (186 : Nat) ({ cls := "FrontChairs$Seats", name := "whyNotTake", desc := "(II)I" } : Jvm.MethodName)) ∈ tb := inT2 (List.mem_of_getElem? (i := 103) rfl) rfl
theorem kw2_104 : (Jvm.Cond.instanceMethod ({ cls := "FrontChairs$Seats", name := "whyNotTake", desc := "(II)I" } : Jvm.MethodName)) ∈ tb := inT2 (List.mem_of_getElem? (i := 104) rfl) rfl
theorem kw2_105 : (Jvm.Cond.selects "FrontChairs$Seats" ({ cls := "FrontChairs$Seats", name := "whyNotTake", desc := "(II)I" } : Jvm.MethodName) ({ cls := "FrontChairs$Seats", name := "whyNotTake", desc := "(II)I" } : Jvm.MethodName)) ∈ tb := inT2 (List.mem_of_getElem? (i := 105) rfl) rfl
theorem kw2_106 : (Jvm.Cond.code ({ cls := "FrontChairs$Seats", name := "whyNotTake", desc := "(II)I" } : Jvm.MethodName) prog_7_method_8_code (3 : Nat) (Option.some Jvm.ClassFile.FieldType.int)) ∈ tb := inT2 (List.mem_of_getElem? (i := 106) rfl) rfl
theorem kw2_107 : (Jvm.Cond.methodLink "FrontChairs$Seats" (60 : Nat) ({ cls := "FrontChairs$Beach", name := "isColumn", desc := "(I)Z" } : Jvm.MethodName)) ∈ tb := inT2 (List.mem_of_getElem? (i := 107) rfl) rfl
theorem kw2_108 : (Jvm.Cond.methodLink "FrontChairs$Seats" (63 : Nat) ({ cls := "FrontChairs$Seats", name := "hindmostFree", desc := "(I)I" } : Jvm.MethodName)) ∈ tb := inT2 (List.mem_of_getElem? (i := 108) rfl) rfl
theorem kw2_110 : (Jvm.Cond.instanceMethod ({ cls := "FrontChairs$Seats", name := "hindmostFree", desc := "(I)I" } : Jvm.MethodName)) ∈ tb := inT2 (List.mem_of_getElem? (i := 110) rfl) rfl
theorem kw2_111 : (Jvm.Cond.code ({ cls := "FrontChairs$Seats", name := "hindmostFree", desc := "(I)I" } : Jvm.MethodName) prog_7_method_18_code (3 : Nat) (Option.some Jvm.ClassFile.FieldType.int)) ∈ tb := inT2 (List.mem_of_getElem? (i := 111) rfl) rfl
theorem kw2_112 : (Jvm.Cond.methodLink "FrontChairs" (189 : Nat) ({ cls := "FrontChairs$Seats", name := "take", desc := "(II)I" } : Jvm.MethodName)) ∈ tb := inT2 (List.mem_of_getElem? (i := 112) rfl) rfl
theorem kw2_113 : (Jvm.Cond.instanceMethod ({ cls := "FrontChairs$Seats", name := "take", desc := "(II)I" } : Jvm.MethodName)) ∈ tb := inT2 (List.mem_of_getElem? (i := 113) rfl) rfl
theorem kw2_114 : (Jvm.Cond.selects "FrontChairs$Seats" ({ cls := "FrontChairs$Seats", name := "take", desc := "(II)I" } : Jvm.MethodName) ({ cls := "FrontChairs$Seats", name := "take", desc := "(II)I" } : Jvm.MethodName)) ∈ tb := inT2 (List.mem_of_getElem? (i := 114) rfl) rfl
theorem kw2_115 : (Jvm.Cond.code ({ cls := "FrontChairs$Seats", name := "take", desc := "(II)I" } : Jvm.MethodName) prog_7_method_13_code (4 : Nat) (Option.some Jvm.ClassFile.FieldType.int)) ∈ tb := inT2 (List.mem_of_getElem? (i := 115) rfl) rfl
theorem kw2_116 : (Jvm.Cond.methodLink "FrontChairs$Seats" (110 : Nat) ({ cls := "FrontChairs$Seats", name := "put", desc := "(III)V" } : Jvm.MethodName)) ∈ tb := inT2 (List.mem_of_getElem? (i := 116) rfl) rfl
theorem kw2_117 : (Jvm.Cond.instanceMethod ({ cls := "FrontChairs$Seats", name := "put", desc := "(III)V" } : Jvm.MethodName)) ∈ tb := inT2 (List.mem_of_getElem? (i := 117) rfl) rfl
theorem kw2_118 : (Jvm.Cond.selects "FrontChairs$Seats" ({ cls := "FrontChairs$Seats", name := "put", desc := "(III)V" } : Jvm.MethodName) ({ cls := "FrontChairs$Seats", name := "put", desc := "(III)V" } : Jvm.MethodName)) ∈ tb := inT2 (List.mem_of_getElem? (i := 118) rfl) rfl
theorem kw2_119 : (Jvm.Cond.code ({ cls := "FrontChairs$Seats", name := "put", desc := "(III)V" } : Jvm.MethodName) prog_7_method_5_code (4 : Nat) (Option.none : Option Jvm.ClassFile.FieldType)) ∈ tb := inT2 (List.mem_of_getElem? (i := 119) rfl) rfl
theorem kw2_120 : (Jvm.Cond.methodLink "FrontChairsLaw" (178 : Nat) ({ cls := "FrontChairs", name := "swap", desc := "(II)I" } : Jvm.MethodName)) ∈ tb := inT2 (List.mem_of_getElem? (i := 120) rfl) rfl
theorem kw2_121 : (Jvm.Cond.instanceMethod ({ cls := "FrontChairs", name := "swap", desc := "(II)I" } : Jvm.MethodName)) ∈ tb := inT2 (List.mem_of_getElem? (i := 121) rfl) rfl
theorem kw2_122 : (Jvm.Cond.selects "FrontChairs" ({ cls := "FrontChairs", name := "swap", desc := "(II)I" } : Jvm.MethodName) ({ cls := "FrontChairs", name := "swap", desc := "(II)I" } : Jvm.MethodName)) ∈ tb := inT2 (List.mem_of_getElem? (i := 122) rfl) rfl
theorem kw2_123 : (Jvm.Cond.code ({ cls := "FrontChairs", name := "swap", desc := "(II)I" } : Jvm.MethodName) prog_1_method_12_code (4 : Nat) (Option.some Jvm.ClassFile.FieldType.int)) ∈ tb := inT2 (List.mem_of_getElem? (i := 123) rfl) rfl
theorem kw2_124 : (Jvm.Cond.methodLink "FrontChairs" (192 : Nat) ({ cls := "FrontChairs$Seats", name := "whyNotExchange", desc := "(II)I" } : Jvm.MethodName)) ∈ tb := inT2 (List.mem_of_getElem? (i := 124) rfl) rfl
theorem kw2_125 : (Jvm.Cond.instanceMethod ({ cls := "FrontChairs$Seats", name := "whyNotExchange", desc := "(II)I" } : Jvm.MethodName)) ∈ tb := inT2 (List.mem_of_getElem? (i := 125) rfl) rfl
theorem kw2_126 : (Jvm.Cond.selects "FrontChairs$Seats" ({ cls := "FrontChairs$Seats", name := "whyNotExchange", desc := "(II)I" } : Jvm.MethodName) ({ cls := "FrontChairs$Seats", name := "whyNotExchange", desc := "(II)I" } : Jvm.MethodName)) ∈ tb := inT2 (List.mem_of_getElem? (i := 126) rfl) rfl
theorem kw2_127 : (Jvm.Cond.code ({ cls := "FrontChairs$Seats", name := "whyNotExchange", desc := "(II)I" } : Jvm.MethodName) prog_7_method_9_code (3 : Nat) (Option.some Jvm.ClassFile.FieldType.int)) ∈ tb := inT2 (List.mem_of_getElem? (i := 127) rfl) rfl
theorem kw2_128 : (Jvm.Cond.methodLink "FrontChairs" (195 : Nat) ({ cls := "FrontChairs$Seats", name := "exchange", desc := "(II)V" } : Jvm.MethodName)) ∈ tb := inT2 (List.mem_of_getElem? (i := 128) rfl) rfl
theorem kw2_129 : (Jvm.Cond.instanceMethod ({ cls := "FrontChairs$Seats", name := "exchange", desc := "(II)V" } : Jvm.MethodName)) ∈ tb := inT2 (List.mem_of_getElem? (i := 129) rfl) rfl
theorem kw2_130 : (Jvm.Cond.selects "FrontChairs$Seats" ({ cls := "FrontChairs$Seats", name := "exchange", desc := "(II)V" } : Jvm.MethodName) ({ cls := "FrontChairs$Seats", name := "exchange", desc := "(II)V" } : Jvm.MethodName)) ∈ tb := inT2 (List.mem_of_getElem? (i := 130) rfl) rfl
theorem kw2_131 : (Jvm.Cond.code ({ cls := "FrontChairs$Seats", name := "exchange", desc := "(II)V" } : Jvm.MethodName) prog_7_method_14_code (5 : Nat) (Option.none : Option Jvm.ClassFile.FieldType)) ∈ tb := inT2 (List.mem_of_getElem? (i := 131) rfl) rfl
theorem kw2_132 : (Jvm.Cond.methodLink "FrontChairsLaw" (224 : Nat) ({ cls := "FrontChairs", name := "stir", desc := "()I" } : Jvm.MethodName)) ∈ tb := inT2 (List.mem_of_getElem? (i := 132) rfl) rfl
theorem kw2_133 : (Jvm.Cond.instanceMethod ({ cls := "FrontChairs", name := "stir", desc := "()I" } : Jvm.MethodName)) ∈ tb := inT2 (List.mem_of_getElem? (i := 133) rfl) rfl
theorem kw2_134 : (Jvm.Cond.selects "FrontChairs" ({ cls := "FrontChairs", name := "stir", desc := "()I" } : Jvm.MethodName) ({ cls := "FrontChairs", name := "stir", desc := "()I" } : Jvm.MethodName)) ∈ tb := inT2 (List.mem_of_getElem? (i := 134) rfl) rfl
theorem kw2_135 : (Jvm.Cond.code ({ cls := "FrontChairs", name := "stir", desc := "()I" } : Jvm.MethodName) prog_1_method_27_code (5 : Nat) (Option.some Jvm.ClassFile.FieldType.int)) ∈ tb := inT2 (List.mem_of_getElem? (i := 135) rfl) rfl
theorem kw2_136 : (Jvm.Cond.methodLink "FrontChairs" (223 : Nat) ({ cls := "FrontChairs", name := "trial", desc := "()LFrontChairs$Seats;" } : Jvm.MethodName)) ∈ tb := inT2 (List.mem_of_getElem? (i := 136) rfl) rfl
theorem kw2_138 : (Jvm.Cond.instanceMethod ({ cls := "FrontChairs", name := "trial", desc := "()LFrontChairs$Seats;" } : Jvm.MethodName)) ∈ tb := inT2 (List.mem_of_getElem? (i := 138) rfl) rfl
theorem kw2_139 : (Jvm.Cond.code ({ cls := "FrontChairs", name := "trial", desc := "()LFrontChairs$Seats;" } : Jvm.MethodName) prog_1_method_54_code (2 : Nat) (Option.some (Jvm.ClassFile.FieldType.object "FrontChairs$Seats"))) ∈ tb := inT2 (List.mem_of_getElem? (i := 139) rfl) rfl
theorem kw2_140 : (Jvm.Cond.methodLink "FrontChairs" (114 : Nat) ({ cls := "FrontChairs$Seats", name := "copyFrom", desc := "(LFrontChairs$Seats;)V" } : Jvm.MethodName)) ∈ tb := inT2 (List.mem_of_getElem? (i := 140) rfl) rfl
theorem kw2_141 : (Jvm.Cond.methodLink "FrontChairsLaw" (237 : Nat) ({ cls := "FrontChairs", name := "heaps", desc := "()I" } : Jvm.MethodName)) ∈ tb := inT2 (List.mem_of_getElem? (i := 141) rfl) rfl
theorem kw2_142 : (Jvm.Cond.instanceMethod ({ cls := "FrontChairs", name := "heaps", desc := "()I" } : Jvm.MethodName)) ∈ tb := inT2 (List.mem_of_getElem? (i := 142) rfl) rfl
theorem kw2_143 : (Jvm.Cond.selects "FrontChairs" ({ cls := "FrontChairs", name := "heaps", desc := "()I" } : Jvm.MethodName) ({ cls := "FrontChairs", name := "heaps", desc := "()I" } : Jvm.MethodName)) ∈ tb := inT2 (List.mem_of_getElem? (i := 143) rfl) rfl
theorem kw2_144 : (Jvm.Cond.code ({ cls := "FrontChairs", name := "heaps", desc := "()I" } : Jvm.MethodName) prog_1_method_31_code (4 : Nat) (Option.some Jvm.ClassFile.FieldType.int)) ∈ tb := inT2 (List.mem_of_getElem? (i := 144) rfl) rfl
theorem kw2_145 : (Jvm.Cond.methodLink "FrontChairs" (301 : Nat) ({ cls := "FrontChairs$Seats", name := "whoIsUp", desc := "()I" } : Jvm.MethodName)) ∈ tb := inT2 (List.mem_of_getElem? (i := 145) rfl) rfl
theorem kw2_146 : (Jvm.Cond.instanceMethod ({ cls := "FrontChairs$Seats", name := "whoIsUp", desc := "()I" } : Jvm.MethodName)) ∈ tb := inT2 (List.mem_of_getElem? (i := 146) rfl) rfl
theorem kw2_147 : (Jvm.Cond.selects "FrontChairs$Seats" ({ cls := "FrontChairs$Seats", name := "whoIsUp", desc := "()I" } : Jvm.MethodName) ({ cls := "FrontChairs$Seats", name := "whoIsUp", desc := "()I" } : Jvm.MethodName)) ∈ tb := inT2 (List.mem_of_getElem? (i := 147) rfl) rfl
theorem kw2_148 : (Jvm.Cond.code ({ cls := "FrontChairs$Seats", name := "whoIsUp", desc := "()I" } : Jvm.MethodName) prog_7_method_23_code (1 : Nat) (Option.some Jvm.ClassFile.FieldType.int)) ∈ tb := inT2 (List.mem_of_getElem? (i := 148) rfl) rfl
theorem kw2_149 : (Jvm.Cond.methodLink "FrontChairs$Seats" (133 : Nat) ({ cls := "FrontChairs$Seats", name := "sittersOf", desc := "(I)I" } : Jvm.MethodName)) ∈ tb := inT2 (List.mem_of_getElem? (i := 149) rfl) rfl
theorem kw2_150 : (Jvm.Cond.instanceMethod ({ cls := "FrontChairs$Seats", name := "sittersOf", desc := "(I)I" } : Jvm.MethodName)) ∈ tb := inT2 (List.mem_of_getElem? (i := 150) rfl) rfl
theorem kw2_151 : (Jvm.Cond.selects "FrontChairs$Seats" ({ cls := "FrontChairs$Seats", name := "sittersOf", desc := "(I)I" } : Jvm.MethodName) ({ cls := "FrontChairs$Seats", name := "sittersOf", desc := "(I)I" } : Jvm.MethodName)) ∈ tb := inT2 (List.mem_of_getElem? (i := 151) rfl) rfl
theorem kw2_152 : (Jvm.Cond.code ({ cls := "FrontChairs$Seats", name := "sittersOf", desc := "(I)I" } : Jvm.MethodName) prog_7_method_21_code (4 : Nat) (Option.some Jvm.ClassFile.FieldType.int)) ∈ tb := inT2 (List.mem_of_getElem? (i := 152) rfl) rfl
theorem kw2_153 : (Jvm.Cond.methodLink "FrontChairs" (304 : Nat) ({ cls := "FrontChairs$Beach", name := "everybody", desc := "()I" } : Jvm.MethodName)) ∈ tb := inT2 (List.mem_of_getElem? (i := 153) rfl) rfl
theorem kw2_154 : (Jvm.Cond.instanceMethod ({ cls := "FrontChairs$Beach", name := "everybody", desc := "()I" } : Jvm.MethodName)) ∈ tb := inT2 (List.mem_of_getElem? (i := 154) rfl) rfl
theorem kw2_155 : (Jvm.Cond.selects "FrontChairs$Beach" ({ cls := "FrontChairs$Beach", name := "everybody", desc := "()I" } : Jvm.MethodName) ({ cls := "FrontChairs$Beach", name := "everybody", desc := "()I" } : Jvm.MethodName)) ∈ tb := inT2 (List.mem_of_getElem? (i := 155) rfl) rfl
theorem kw2_156 : (Jvm.Cond.code ({ cls := "FrontChairs$Beach", name := "everybody", desc := "()I" } : Jvm.MethodName) prog_2_method_6_code (1 : Nat) (Option.some Jvm.ClassFile.FieldType.int)) ∈ tb := inT2 (List.mem_of_getElem? (i := 156) rfl) rfl
theorem kw2_157 : (Jvm.Cond.methodLink "FrontChairs" (307 : Nat) ({ cls := "FrontChairs$Seats", name := "heapOf", desc := "(I)I" } : Jvm.MethodName)) ∈ tb := inT2 (List.mem_of_getElem? (i := 157) rfl) rfl
theorem kw2_158 : (Jvm.Cond.instanceMethod ({ cls := "FrontChairs$Seats", name := "heapOf", desc := "(I)I" } : Jvm.MethodName)) ∈ tb := inT2 (List.mem_of_getElem? (i := 158) rfl) rfl
theorem kw2_159 : (Jvm.Cond.selects "FrontChairs$Seats" ({ cls := "FrontChairs$Seats", name := "heapOf", desc := "(I)I" } : Jvm.MethodName) ({ cls := "FrontChairs$Seats", name := "heapOf", desc := "(I)I" } : Jvm.MethodName)) ∈ tb := inT2 (List.mem_of_getElem? (i := 159) rfl) rfl
theorem kw2_160 : (Jvm.Cond.code ({ cls := "FrontChairs$Seats", name := "heapOf", desc := "(I)I" } : Jvm.MethodName) prog_7_method_27_code (4 : Nat) (Option.some Jvm.ClassFile.FieldType.int)) ∈ tb := inT2 (List.mem_of_getElem? (i := 160) rfl) rfl
theorem kw2_161 : (Jvm.Cond.methodLink "FrontChairs$Seats" (139 : Nat) ({ cls := "FrontChairs$Seats", name := "widened", desc := "(I)I" } : Jvm.MethodName)) ∈ tb := inT2 (List.mem_of_getElem? (i := 161) rfl) rfl
theorem kw2_163 : (Jvm.Cond.instanceMethod ({ cls := "FrontChairs$Seats", name := "widened", desc := "(I)I" } : Jvm.MethodName)) ∈ tb := inT2 (List.mem_of_getElem? (i := 163) rfl) rfl
theorem kw2_164 : (Jvm.Cond.code ({ cls := "FrontChairs$Seats", name := "widened", desc := "(I)I" } : Jvm.MethodName) prog_7_method_24_code (4 : Nat) (Option.some Jvm.ClassFile.FieldType.int)) ∈ tb := inT2 (List.mem_of_getElem? (i := 164) rfl) rfl
theorem kw2_165 : (Jvm.Cond.methodLink "FrontChairs$Seats" (136 : Nat) ({ cls := "FrontChairs$Seats", name := "bitOn", desc := "(II)I" } : Jvm.MethodName)) ∈ tb := inT2 (List.mem_of_getElem? (i := 165) rfl) rfl
theorem kw2_167 : (Jvm.Cond.instanceMethod ({ cls := "FrontChairs$Seats", name := "bitOn", desc := "(II)I" } : Jvm.MethodName)) ∈ tb := inT2 (List.mem_of_getElem? (i := 167) rfl) rfl
theorem kw2_168 : (Jvm.Cond.code ({ cls := "FrontChairs$Seats", name := "bitOn", desc := "(II)I" } : Jvm.MethodName) prog_7_method_25_code (4 : Nat) (Option.some Jvm.ClassFile.FieldType.int)) ∈ tb := inT2 (List.mem_of_getElem? (i := 168) rfl) rfl
theorem kw2_169 : (Jvm.Cond.methodLink "FrontChairs$Seats" (130 : Nat) ({ cls := "FrontChairs$Seats", name := "whoOn", desc := "(II)I" } : Jvm.MethodName)) ∈ tb := inT2 (List.mem_of_getElem? (i := 169) rfl) rfl
theorem kw2_170 : (Jvm.Cond.instanceMethod ({ cls := "FrontChairs$Seats", name := "whoOn", desc := "(II)I" } : Jvm.MethodName)) ∈ tb := inT2 (List.mem_of_getElem? (i := 170) rfl) rfl
theorem kw2_171 : (Jvm.Cond.selects "FrontChairs$Seats" ({ cls := "FrontChairs$Seats", name := "whoOn", desc := "(II)I" } : Jvm.MethodName) ({ cls := "FrontChairs$Seats", name := "whoOn", desc := "(II)I" } : Jvm.MethodName)) ∈ tb := inT2 (List.mem_of_getElem? (i := 171) rfl) rfl
theorem kw2_172 : (Jvm.Cond.code ({ cls := "FrontChairs$Seats", name := "whoOn", desc := "(II)I" } : Jvm.MethodName) prog_7_method_4_code (3 : Nat) (Option.some Jvm.ClassFile.FieldType.int)) ∈ tb := inT2 (List.mem_of_getElem? (i := 172) rfl) rfl
theorem kw2_173 : (Jvm.Cond.methodLink "FrontChairsLaw" (282 : Nat) ({ cls := "FrontChairs", name := "count", desc := "(I)I" } : Jvm.MethodName)) ∈ tb := inT2 (List.mem_of_getElem? (i := 173) rfl) rfl
theorem kw2_174 : (Jvm.Cond.instanceMethod ({ cls := "FrontChairs", name := "count", desc := "(I)I" } : Jvm.MethodName)) ∈ tb := inT2 (List.mem_of_getElem? (i := 174) rfl) rfl
theorem kw2_175 : (Jvm.Cond.selects "FrontChairs" ({ cls := "FrontChairs", name := "count", desc := "(I)I" } : Jvm.MethodName) ({ cls := "FrontChairs", name := "count", desc := "(I)I" } : Jvm.MethodName)) ∈ tb := inT2 (List.mem_of_getElem? (i := 175) rfl) rfl
theorem kw2_176 : (Jvm.Cond.code ({ cls := "FrontChairs", name := "count", desc := "(I)I" } : Jvm.MethodName) prog_1_method_44_code (3 : Nat) (Option.some Jvm.ClassFile.FieldType.int)) ∈ tb := inT2 (List.mem_of_getElem? (i := 176) rfl) rfl
theorem kw2_177 : (Jvm.Cond.methodLink "FrontChairs" (198 : Nat) ({ cls := "java/lang/Integer", name := "bitCount", desc := "(I)I" } : Jvm.MethodName)) ∈ tb := inT2 (List.mem_of_getElem? (i := 177) rfl) rfl
theorem kw2_178 : (Jvm.Cond.static ({ cls := "java/lang/Integer", name := "bitCount", desc := "(I)I" } : Jvm.MethodName)) ∈ tb := inT2 (List.mem_of_getElem? (i := 178) rfl) rfl
theorem kw2_179 : (Jvm.Cond.code ({ cls := "java/lang/Integer", name := "bitCount", desc := "(I)I" } : Jvm.MethodName) prog_20_method_49_code (1 : Nat) (Option.some Jvm.ClassFile.FieldType.int)) ∈ tb := inT2 (List.mem_of_getElem? (i := 179) rfl) rfl
theorem kw2_180 : (Jvm.Cond.constant "java/lang/Integer" (265 : Nat) (1431655765 : Int32)) ∈ tb := inT2 (List.mem_of_getElem? (i := 180) rfl) rfl
theorem kw2_181 : (Jvm.Cond.constant "java/lang/Integer" (266 : Nat) (858993459 : Int32)) ∈ tb := inT2 (List.mem_of_getElem? (i := 181) rfl) rfl
theorem kw2_182 : (Jvm.Cond.constant "java/lang/Integer" (267 : Nat) (252645135 : Int32)) ∈ tb := inT2 (List.mem_of_getElem? (i := 182) rfl) rfl
theorem kw2_183 : (Jvm.Cond.methodLink "FrontChairsLaw" (139 : Nat) ({ cls := "FrontChairsLaw", name := "beach", desc := "(LFrontChairs;I[J)I" } : Jvm.MethodName)) ∈ tb := inT2 (List.mem_of_getElem? (i := 183) rfl) rfl
theorem kw2_184 : (Jvm.Cond.static ({ cls := "FrontChairsLaw", name := "beach", desc := "(LFrontChairs;I[J)I" } : Jvm.MethodName)) ∈ tb := inT2 (List.mem_of_getElem? (i := 184) rfl) rfl
theorem kw2_185 : (Jvm.Cond.codeWith ({ cls := "FrontChairsLaw", name := "beach", desc := "(LFrontChairs;I[J)I" } : Jvm.MethodName) method_3_code (4 : Nat) (Option.some Jvm.ClassFile.FieldType.int) [((0 : Nat), (9 : Nat), (12 : Nat), (13 : Nat))]) ∈ tb := inT2 (List.mem_of_getElem? (i := 185) rfl) rfl
theorem kw2_186 : (Jvm.Cond.classLink "FrontChairsLaw" (13 : Nat) "java/lang/IllegalArgumentException") ∈ tb := inT2 (List.mem_of_getElem? (i := 186) rfl) rfl
theorem kw2_187 : (Jvm.Cond.methodLink "FrontChairsLaw" (7 : Nat) ({ cls := "FrontChairs", name := "beach", desc := "(I)I" } : Jvm.MethodName)) ∈ tb := inT2 (List.mem_of_getElem? (i := 187) rfl) rfl
theorem kw2_188 : (Jvm.Cond.instanceMethod ({ cls := "FrontChairs", name := "beach", desc := "(I)I" } : Jvm.MethodName)) ∈ tb := inT2 (List.mem_of_getElem? (i := 188) rfl) rfl
theorem kw2_189 : (Jvm.Cond.selects "FrontChairs" ({ cls := "FrontChairs", name := "beach", desc := "(I)I" } : Jvm.MethodName) ({ cls := "FrontChairs", name := "beach", desc := "(I)I" } : Jvm.MethodName)) ∈ tb := inT2 (List.mem_of_getElem? (i := 189) rfl) rfl
theorem kw2_190 : (Jvm.Cond.code ({ cls := "FrontChairs", name := "beach", desc := "(I)I" } : Jvm.MethodName) prog_1_method_3_code (3 : Nat) (Option.some Jvm.ClassFile.FieldType.int)) ∈ tb := inT2 (List.mem_of_getElem? (i := 190) rfl) rfl
theorem kw2_191 : (Jvm.Cond.methodLink "FrontChairs" (90 : Nat) ({ cls := "FrontChairs", name := "needWithin", desc := "(III)V" } : Jvm.MethodName)) ∈ tb := inT2 (List.mem_of_getElem? (i := 191) rfl) rfl
theorem kw2_193 : (Jvm.Cond.instanceMethod ({ cls := "FrontChairs", name := "needWithin", desc := "(III)V" } : Jvm.MethodName)) ∈ tb := inT2 (List.mem_of_getElem? (i := 193) rfl) rfl
theorem kw2_194 : (Jvm.Cond.code ({ cls := "FrontChairs", name := "needWithin", desc := "(III)V" } : Jvm.MethodName) prog_1_method_45_code (4 : Nat) (Option.none : Option Jvm.ClassFile.FieldType)) ∈ tb := inT2 (List.mem_of_getElem? (i := 194) rfl) rfl
theorem kw2_195 : (Jvm.Cond.classLink "FrontChairs" (333 : Nat) "java/lang/IllegalArgumentException") ∈ tb := inT2 (List.mem_of_getElem? (i := 195) rfl) rfl
theorem kw2_196 : (Jvm.Cond.instantiable "java/lang/IllegalArgumentException" (6 : Nat)) ∈ tb := inT2 (List.mem_of_getElem? (i := 196) rfl) rfl
theorem kw2_204 : (Jvm.Cond.selects "java/lang/IllegalArgumentException" ({ cls := "java/lang/Throwable", name := "fillInStackTrace", desc := "(I)Ljava/lang/Throwable;" } : Jvm.MethodName) ({ cls := "java/lang/Throwable", name := "fillInStackTrace", desc := "(I)Ljava/lang/Throwable;" } : Jvm.MethodName)) ∈ tb := inT2 (List.mem_of_getElem? (i := 204) rfl) rfl
theorem kw2_205 : (Jvm.Cond.selects "java/lang/IllegalArgumentException" ({ cls := "java/lang/Throwable", name := "fillInStackTrace", desc := "()Ljava/lang/Throwable;" } : Jvm.MethodName) ({ cls := "java/lang/Throwable", name := "fillInStackTrace", desc := "()Ljava/lang/Throwable;" } : Jvm.MethodName)) ∈ tb := inT2 (List.mem_of_getElem? (i := 205) rfl) rfl
theorem kw2_206 : (Jvm.Cond.lays "java/lang/IllegalArgumentException" "java/lang/Throwable" "cause" "Ljava/lang/Throwable;") ∈ tb := inT2 (List.mem_of_getElem? (i := 206) rfl) rfl
theorem kw2_207 : (Jvm.Cond.lays "java/lang/Throwable" "java/lang/Throwable" "cause" "Ljava/lang/Throwable;") ∈ tb := inT2 (List.mem_of_getElem? (i := 207) rfl) rfl
theorem kw2_208 : (Jvm.Cond.lays "java/lang/IllegalArgumentException" "java/lang/Throwable" "stackTrace" "[Ljava/lang/StackTraceElement;") ∈ tb := inT2 (List.mem_of_getElem? (i := 208) rfl) rfl
theorem kw2_209 : (Jvm.Cond.lays "java/lang/Throwable" "java/lang/Throwable" "stackTrace" "[Ljava/lang/StackTraceElement;") ∈ tb := inT2 (List.mem_of_getElem? (i := 209) rfl) rfl
theorem kw2_210 : (Jvm.Cond.lays "java/lang/IllegalArgumentException" "java/lang/Throwable" "suppressedExceptions" "Ljava/util/List;") ∈ tb := inT2 (List.mem_of_getElem? (i := 210) rfl) rfl
theorem kw2_211 : (Jvm.Cond.lays "java/lang/Throwable" "java/lang/Throwable" "suppressedExceptions" "Ljava/util/List;") ∈ tb := inT2 (List.mem_of_getElem? (i := 211) rfl) rfl
theorem kw2_212 : (Jvm.Cond.lays "java/lang/IllegalArgumentException" "java/lang/Throwable" "detailMessage" "Ljava/lang/String;") ∈ tb := inT2 (List.mem_of_getElem? (i := 212) rfl) rfl
theorem kw2_213 : (Jvm.Cond.lays "java/lang/Throwable" "java/lang/Throwable" "detailMessage" "Ljava/lang/String;") ∈ tb := inT2 (List.mem_of_getElem? (i := 213) rfl) rfl
theorem kw2_214 : (Jvm.Cond.lays "java/lang/IllegalArgumentException" "java/lang/Throwable" "backtrace" "Ljava/lang/Object;") ∈ tb := inT2 (List.mem_of_getElem? (i := 214) rfl) rfl
theorem kw2_215 : (Jvm.Cond.lays "java/lang/Throwable" "java/lang/Throwable" "backtrace" "Ljava/lang/Object;") ∈ tb := inT2 (List.mem_of_getElem? (i := 215) rfl) rfl
theorem kw2_216 : (Jvm.Cond.fieldLink "java/lang/Throwable" (198 : Nat) "java/lang/Throwable" "backtrace" "Ljava/lang/Object;") ∈ tb := inT2 (List.mem_of_getElem? (i := 216) rfl) rfl
theorem kw2_218 : (Jvm.Cond.instanceMethod ({ cls := "java/lang/Throwable", name := "<init>", desc := "()V" } : Jvm.MethodName)) ∈ tb := inT2 (List.mem_of_getElem? (i := 218) rfl) rfl
theorem kw2_219 : (Jvm.Cond.code ({ cls := "java/lang/Throwable", name := "<init>", desc := "()V" } : Jvm.MethodName) prog_27_method_1_code (1 : Nat) (Option.none : Option Jvm.ClassFile.FieldType)) ∈ tb := inT2 (List.mem_of_getElem? (i := 219) rfl) rfl
theorem kw2_220 : (Jvm.Cond.methodLink "java/lang/Throwable" (1 : Nat) ({ cls := "java/lang/Object", name := "<init>", desc := "()V" } : Jvm.MethodName)) ∈ tb := inT2 (List.mem_of_getElem? (i := 220) rfl) rfl
theorem kw2_221 : (Jvm.Cond.fieldLink "java/lang/Throwable" (13 : Nat) "java/lang/Throwable" "UNASSIGNED_STACK" "[Ljava/lang/StackTraceElement;") ∈ tb := inT2 (List.mem_of_getElem? (i := 221) rfl) rfl
theorem kw2_223 : (Jvm.Cond.fieldLink "java/lang/Throwable" (20 : Nat) "java/lang/Throwable" "SUPPRESSED_SENTINEL" "Ljava/util/List;") ∈ tb := inT2 (List.mem_of_getElem? (i := 223) rfl) rfl
theorem kw2_225 : (Jvm.Cond.methodLink "java/lang/Throwable" (27 : Nat) ({ cls := "java/lang/Throwable", name := "fillInStackTrace", desc := "()Ljava/lang/Throwable;" } : Jvm.MethodName)) ∈ tb := inT2 (List.mem_of_getElem? (i := 225) rfl) rfl
theorem kw2_226 : (Jvm.Cond.instanceMethod ({ cls := "java/lang/Throwable", name := "fillInStackTrace", desc := "()Ljava/lang/Throwable;" } : Jvm.MethodName)) ∈ tb := inT2 (List.mem_of_getElem? (i := 226) rfl) rfl
theorem kw2_228 : (Jvm.Cond.selects "java/lang/IllegalStateException" ({ cls := "java/lang/Throwable", name := "fillInStackTrace", desc := "()Ljava/lang/Throwable;" } : Jvm.MethodName) ({ cls := "java/lang/Throwable", name := "fillInStackTrace", desc := "()Ljava/lang/Throwable;" } : Jvm.MethodName)) ∈ tb := inT2 (List.mem_of_getElem? (i := 228) rfl) rfl
theorem kw2_229 : (Jvm.Cond.selects "java/lang/IndexOutOfBoundsException" ({ cls := "java/lang/Throwable", name := "fillInStackTrace", desc := "()Ljava/lang/Throwable;" } : Jvm.MethodName) ({ cls := "java/lang/Throwable", name := "fillInStackTrace", desc := "()Ljava/lang/Throwable;" } : Jvm.MethodName)) ∈ tb := inT2 (List.mem_of_getElem? (i := 229) rfl) rfl
theorem kw2_230 : (Jvm.Cond.selects "java/util/NoSuchElementException" ({ cls := "java/lang/Throwable", name := "fillInStackTrace", desc := "()Ljava/lang/Throwable;" } : Jvm.MethodName) ({ cls := "java/lang/Throwable", name := "fillInStackTrace", desc := "()Ljava/lang/Throwable;" } : Jvm.MethodName)) ∈ tb := inT2 (List.mem_of_getElem? (i := 230) rfl) rfl
theorem kw2_232 : (Jvm.Cond.methodLink "java/lang/Throwable" (202 : Nat) ({ cls := "java/lang/Throwable", name := "fillInStackTrace", desc := "(I)Ljava/lang/Throwable;" } : Jvm.MethodName)) ∈ tb := inT2 (List.mem_of_getElem? (i := 232) rfl) rfl
theorem kw2_234 : (Jvm.Cond.instanceMethod ({ cls := "java/lang/Throwable", name := "fillInStackTrace", desc := "(I)Ljava/lang/Throwable;" } : Jvm.MethodName)) ∈ tb := inT2 (List.mem_of_getElem? (i := 234) rfl) rfl
theorem kw2_235 : (Jvm.Cond.instantiable "java/lang/Throwable" (6 : Nat)) ∈ tb := inT2 (List.mem_of_getElem? (i := 235) rfl) rfl
theorem kw2_236 : (Jvm.Cond.native ({ cls := "java/lang/Throwable", name := "fillInStackTrace", desc := "(I)Ljava/lang/Throwable;" } : Jvm.MethodName)) ∈ tb := inT2 (List.mem_of_getElem? (i := 236) rfl) rfl
theorem kw2_238 : (Jvm.Cond.methodLink "FrontChairs" (337 : Nat) ({ cls := "java/lang/IllegalArgumentException", name := "<init>", desc := "(Ljava/lang/String;)V" } : Jvm.MethodName)) ∈ tb := inT2 (List.mem_of_getElem? (i := 238) rfl) rfl
theorem kw2_239 : (Jvm.Cond.instanceMethod ({ cls := "java/lang/IllegalArgumentException", name := "<init>", desc := "(Ljava/lang/String;)V" } : Jvm.MethodName)) ∈ tb := inT2 (List.mem_of_getElem? (i := 239) rfl) rfl
theorem kw3_0 : (Jvm.Cond.code ({ cls := "java/lang/IllegalArgumentException", name := "<init>", desc := "(Ljava/lang/String;)V" } : Jvm.MethodName) prog_17_method_2_code (2 : Nat) (Option.none : Option Jvm.ClassFile.FieldType)) ∈ tb := inT3 (List.mem_of_getElem? (i := 0) rfl) rfl
theorem kw3_1 : (Jvm.Cond.methodLink "java/lang/IllegalArgumentException" (7 : Nat) ({ cls := "java/lang/RuntimeException", name := "<init>", desc := "(Ljava/lang/String;)V" } : Jvm.MethodName)) ∈ tb := inT3 (List.mem_of_getElem? (i := 1) rfl) rfl
theorem kw3_2 : (Jvm.Cond.instanceMethod ({ cls := "java/lang/RuntimeException", name := "<init>", desc := "(Ljava/lang/String;)V" } : Jvm.MethodName)) ∈ tb := inT3 (List.mem_of_getElem? (i := 2) rfl) rfl
theorem kw3_3 : (Jvm.Cond.code ({ cls := "java/lang/RuntimeException", name := "<init>", desc := "(Ljava/lang/String;)V" } : Jvm.MethodName) prog_22_method_2_code (2 : Nat) (Option.none : Option Jvm.ClassFile.FieldType)) ∈ tb := inT3 (List.mem_of_getElem? (i := 3) rfl) rfl
theorem kw3_4 : (Jvm.Cond.methodLink "java/lang/RuntimeException" (7 : Nat) ({ cls := "java/lang/Exception", name := "<init>", desc := "(Ljava/lang/String;)V" } : Jvm.MethodName)) ∈ tb := inT3 (List.mem_of_getElem? (i := 4) rfl) rfl
theorem kw3_5 : (Jvm.Cond.instanceMethod ({ cls := "java/lang/Exception", name := "<init>", desc := "(Ljava/lang/String;)V" } : Jvm.MethodName)) ∈ tb := inT3 (List.mem_of_getElem? (i := 5) rfl) rfl
theorem kw3_6 : (Jvm.Cond.code ({ cls := "java/lang/Exception", name := "<init>", desc := "(Ljava/lang/String;)V" } : Jvm.MethodName) prog_16_method_2_code (2 : Nat) (Option.none : Option Jvm.ClassFile.FieldType)) ∈ tb := inT3 (List.mem_of_getElem? (i := 6) rfl) rfl
theorem kw3_7 : (Jvm.Cond.methodLink "java/lang/Exception" (7 : Nat) ({ cls := "java/lang/Throwable", name := "<init>", desc := "(Ljava/lang/String;)V" } : Jvm.MethodName)) ∈ tb := inT3 (List.mem_of_getElem? (i := 7) rfl) rfl
theorem kw3_8 : (Jvm.Cond.instanceMethod ({ cls := "java/lang/Throwable", name := "<init>", desc := "(Ljava/lang/String;)V" } : Jvm.MethodName)) ∈ tb := inT3 (List.mem_of_getElem? (i := 8) rfl) rfl
theorem kw3_9 : (Jvm.Cond.code ({ cls := "java/lang/Throwable", name := "<init>", desc := "(Ljava/lang/String;)V" } : Jvm.MethodName) prog_27_method_2_code (2 : Nat) (Option.none : Option Jvm.ClassFile.FieldType)) ∈ tb := inT3 (List.mem_of_getElem? (i := 9) rfl) rfl
theorem kw3_10 : (Jvm.Cond.fieldLink "java/lang/Throwable" (198 : Nat) "java/lang/Throwable" "backtrace" "Ljava/lang/Object;") ∈ tb := inT3 (List.mem_of_getElem? (i := 10) rfl) rfl
theorem kw3_11 : (Jvm.Cond.fieldLink "java/lang/Throwable" (31 : Nat) "java/lang/Throwable" "detailMessage" "Ljava/lang/String;") ∈ tb := inT3 (List.mem_of_getElem? (i := 11) rfl) rfl
theorem kw3_12 : (Jvm.Cond.fieldLink "java/lang/Throwable" (7 : Nat) "java/lang/Throwable" "cause" "Ljava/lang/Throwable;") ∈ tb := inT3 (List.mem_of_getElem? (i := 12) rfl) rfl
theorem kw3_13 : (Jvm.Cond.fieldLink "java/lang/Throwable" (17 : Nat) "java/lang/Throwable" "stackTrace" "[Ljava/lang/StackTraceElement;") ∈ tb := inT3 (List.mem_of_getElem? (i := 13) rfl) rfl
theorem kw3_14 : (Jvm.Cond.fieldLink "java/lang/Throwable" (24 : Nat) "java/lang/Throwable" "suppressedExceptions" "Ljava/util/List;") ∈ tb := inT3 (List.mem_of_getElem? (i := 14) rfl) rfl
theorem kw3_19 : (Jvm.Cond.lays "java/lang/IllegalArgumentException" "java/lang/Throwable" "depth" "I") ∈ tb := inT3 (List.mem_of_getElem? (i := 19) rfl) rfl
theorem kw3_23 : (Jvm.Cond.arrayClass Jvm.ClassFile.FieldType.byte) ∈ tb := inT3 (List.mem_of_getElem? (i := 23) rfl) rfl
theorem kw3_24 : (Jvm.Cond.methodLink "FrontChairs" (94 : Nat) ({ cls := "FrontChairs$Reader", name := "open", desc := "([II)V" } : Jvm.MethodName)) ∈ tb := inT3 (List.mem_of_getElem? (i := 24) rfl) rfl
theorem kw3_25 : (Jvm.Cond.instanceMethod ({ cls := "FrontChairs$Reader", name := "open", desc := "([II)V" } : Jvm.MethodName)) ∈ tb := inT3 (List.mem_of_getElem? (i := 25) rfl) rfl
theorem kw3_26 : (Jvm.Cond.selects "FrontChairs$Reader" ({ cls := "FrontChairs$Reader", name := "open", desc := "([II)V" } : Jvm.MethodName) ({ cls := "FrontChairs$Reader", name := "open", desc := "([II)V" } : Jvm.MethodName)) ∈ tb := inT3 (List.mem_of_getElem? (i := 26) rfl) rfl
theorem kw3_27 : (Jvm.Cond.code ({ cls := "FrontChairs$Reader", name := "open", desc := "([II)V" } : Jvm.MethodName) prog_6_method_2_code (3 : Nat) (Option.none : Option Jvm.ClassFile.FieldType)) ∈ tb := inT3 (List.mem_of_getElem? (i := 27) rfl) rfl
theorem kw3_28 : (Jvm.Cond.methodLink "FrontChairs$Reader" (54 : Nat) ({ cls := "FrontChairs$Reader", name := "scan", desc := "([II)V" } : Jvm.MethodName)) ∈ tb := inT3 (List.mem_of_getElem? (i := 28) rfl) rfl
theorem kw3_30 : (Jvm.Cond.instanceMethod ({ cls := "FrontChairs$Reader", name := "scan", desc := "([II)V" } : Jvm.MethodName)) ∈ tb := inT3 (List.mem_of_getElem? (i := 30) rfl) rfl
theorem kw3_31 : (Jvm.Cond.code ({ cls := "FrontChairs$Reader", name := "scan", desc := "([II)V" } : Jvm.MethodName) prog_6_method_4_code (7 : Nat) (Option.none : Option Jvm.ClassFile.FieldType)) ∈ tb := inT3 (List.mem_of_getElem? (i := 31) rfl) rfl
theorem kw3_32 : (Jvm.Cond.methodLink "FrontChairs$Reader" (86 : Nat) ({ cls := "FrontChairs$Reader", name := "isLetter", desc := "(I)Z" } : Jvm.MethodName)) ∈ tb := inT3 (List.mem_of_getElem? (i := 32) rfl) rfl
theorem kw3_33 : (Jvm.Cond.static ({ cls := "FrontChairs$Reader", name := "isLetter", desc := "(I)Z" } : Jvm.MethodName)) ∈ tb := inT3 (List.mem_of_getElem? (i := 33) rfl) rfl
theorem kw3_34 : (Jvm.Cond.code ({ cls := "FrontChairs$Reader", name := "isLetter", desc := "(I)Z" } : Jvm.MethodName) prog_6_method_6_code (1 : Nat) (Option.some Jvm.ClassFile.FieldType.boolean)) ∈ tb := inT3 (List.mem_of_getElem? (i := 34) rfl) rfl
theorem kw3_35 : (Jvm.Cond.methodLink "FrontChairs$Reader" (90 : Nat) ({ cls := "FrontChairs$Reader", name := "word", desc := "([III)I" } : Jvm.MethodName)) ∈ tb := inT3 (List.mem_of_getElem? (i := 35) rfl) rfl
theorem kw3_36 : (Jvm.Cond.static ({ cls := "FrontChairs$Reader", name := "word", desc := "([III)I" } : Jvm.MethodName)) ∈ tb := inT3 (List.mem_of_getElem? (i := 36) rfl) rfl
theorem kw3_37 : (Jvm.Cond.code ({ cls := "FrontChairs$Reader", name := "word", desc := "([III)I" } : Jvm.MethodName) prog_6_method_8_code (3 : Nat) (Option.some Jvm.ClassFile.FieldType.int)) ∈ tb := inT3 (List.mem_of_getElem? (i := 37) rfl) rfl
theorem kw3_39 : (Jvm.Cond.methodLink "FrontChairs$Reader" (110 : Nat) ({ cls := "FrontChairs$Reader", name := "spells", desc := "([IIILjava/lang/String;)Z" } : Jvm.MethodName)) ∈ tb := inT3 (List.mem_of_getElem? (i := 39) rfl) rfl
theorem kw3_40 : (Jvm.Cond.static ({ cls := "FrontChairs$Reader", name := "spells", desc := "([IIILjava/lang/String;)Z" } : Jvm.MethodName)) ∈ tb := inT3 (List.mem_of_getElem? (i := 40) rfl) rfl
theorem kw3_41 : (Jvm.Cond.code ({ cls := "FrontChairs$Reader", name := "spells", desc := "([IIILjava/lang/String;)Z" } : Jvm.MethodName) prog_6_method_9_code (5 : Nat) (Option.some Jvm.ClassFile.FieldType.boolean)) ∈ tb := inT3 (List.mem_of_getElem? (i := 41) rfl) rfl
theorem kw3_42 : (Jvm.Cond.methodLink "FrontChairs$Reader" (145 : Nat) ({ cls := "java/lang/String", name := "length", desc := "()I" } : Jvm.MethodName)) ∈ tb := inT3 (List.mem_of_getElem? (i := 42) rfl) rfl
theorem kw3_43 : (Jvm.Cond.instanceMethod ({ cls := "java/lang/String", name := "length", desc := "()I" } : Jvm.MethodName)) ∈ tb := inT3 (List.mem_of_getElem? (i := 43) rfl) rfl
theorem kw3_44 : (Jvm.Cond.selects "java/lang/String" ({ cls := "java/lang/String", name := "length", desc := "()I" } : Jvm.MethodName) ({ cls := "java/lang/String", name := "length", desc := "()I" } : Jvm.MethodName)) ∈ tb := inT3 (List.mem_of_getElem? (i := 44) rfl) rfl
theorem kw3_45 : (Jvm.Cond.code ({ cls := "java/lang/String", name := "length", desc := "()I" } : Jvm.MethodName) prog_23_method_54_code (1 : Nat) (Option.some Jvm.ClassFile.FieldType.int)) ∈ tb := inT3 (List.mem_of_getElem? (i := 45) rfl) rfl
theorem kw3_46 : (Jvm.Cond.methodLink "java/lang/String" (335 : Nat) ({ cls := "java/lang/String", name := "coder", desc := "()B" } : Jvm.MethodName)) ∈ tb := inT3 (List.mem_of_getElem? (i := 46) rfl) rfl
theorem kw3_47 : (Jvm.Cond.instanceMethod ({ cls := "java/lang/String", name := "coder", desc := "()B" } : Jvm.MethodName)) ∈ tb := inT3 (List.mem_of_getElem? (i := 47) rfl) rfl
theorem kw3_48 : (Jvm.Cond.selects "java/lang/String" ({ cls := "java/lang/String", name := "coder", desc := "()B" } : Jvm.MethodName) ({ cls := "java/lang/String", name := "coder", desc := "()B" } : Jvm.MethodName)) ∈ tb := inT3 (List.mem_of_getElem? (i := 48) rfl) rfl
theorem kw3_49 : (Jvm.Cond.code ({ cls := "java/lang/String", name := "coder", desc := "()B" } : Jvm.MethodName) prog_23_method_152_code (1 : Nat) (Option.some Jvm.ClassFile.FieldType.byte)) ∈ tb := inT3 (List.mem_of_getElem? (i := 49) rfl) rfl
theorem kw3_50 : (Jvm.Cond.fieldLink "java/lang/String" (38 : Nat) "java/lang/String" "COMPACT_STRINGS" "Z") ∈ tb := inT3 (List.mem_of_getElem? (i := 50) rfl) rfl
theorem kw3_52 : (Jvm.Cond.methodLink "FrontChairs$Reader" (148 : Nat) ({ cls := "java/lang/String", name := "charAt", desc := "(I)C" } : Jvm.MethodName)) ∈ tb := inT3 (List.mem_of_getElem? (i := 52) rfl) rfl
theorem kw3_53 : (Jvm.Cond.instanceMethod ({ cls := "java/lang/String", name := "charAt", desc := "(I)C" } : Jvm.MethodName)) ∈ tb := inT3 (List.mem_of_getElem? (i := 53) rfl) rfl
theorem kw3_54 : (Jvm.Cond.selects "java/lang/String" ({ cls := "java/lang/String", name := "charAt", desc := "(I)C" } : Jvm.MethodName) ({ cls := "java/lang/String", name := "charAt", desc := "(I)C" } : Jvm.MethodName)) ∈ tb := inT3 (List.mem_of_getElem? (i := 54) rfl) rfl
theorem kw3_55 : (Jvm.Cond.code ({ cls := "java/lang/String", name := "charAt", desc := "(I)C" } : Jvm.MethodName) prog_23_method_56_code (2 : Nat) (Option.some Jvm.ClassFile.FieldType.char)) ∈ tb := inT3 (List.mem_of_getElem? (i := 55) rfl) rfl
theorem kw3_56 : (Jvm.Cond.methodLink "java/lang/String" (492 : Nat) ({ cls := "java/lang/String", name := "isLatin1", desc := "()Z" } : Jvm.MethodName)) ∈ tb := inT3 (List.mem_of_getElem? (i := 56) rfl) rfl
theorem kw3_57 : (Jvm.Cond.instanceMethod ({ cls := "java/lang/String", name := "isLatin1", desc := "()Z" } : Jvm.MethodName)) ∈ tb := inT3 (List.mem_of_getElem? (i := 57) rfl) rfl
theorem kw3_58 : (Jvm.Cond.selects "java/lang/String" ({ cls := "java/lang/String", name := "isLatin1", desc := "()Z" } : Jvm.MethodName) ({ cls := "java/lang/String", name := "isLatin1", desc := "()Z" } : Jvm.MethodName)) ∈ tb := inT3 (List.mem_of_getElem? (i := 58) rfl) rfl
theorem kw3_59 : (Jvm.Cond.code ({ cls := "java/lang/String", name := "isLatin1", desc := "()Z" } : Jvm.MethodName) prog_23_method_154_code (1 : Nat) (Option.some Jvm.ClassFile.FieldType.boolean)) ∈ tb := inT3 (List.mem_of_getElem? (i := 59) rfl) rfl
theorem kw3_60 : (Jvm.Cond.methodLink "java/lang/String" (495 : Nat) ({ cls := "java/lang/StringLatin1", name := "charAt", desc := "([BI)C" } : Jvm.MethodName)) ∈ tb := inT3 (List.mem_of_getElem? (i := 60) rfl) rfl
theorem kw3_61 : (Jvm.Cond.static ({ cls := "java/lang/StringLatin1", name := "charAt", desc := "([BI)C" } : Jvm.MethodName)) ∈ tb := inT3 (List.mem_of_getElem? (i := 61) rfl) rfl
theorem kw3_62 : (Jvm.Cond.code ({ cls := "java/lang/StringLatin1", name := "charAt", desc := "([BI)C" } : Jvm.MethodName) prog_24_method_2_code (2 : Nat) (Option.some Jvm.ClassFile.FieldType.char)) ∈ tb := inT3 (List.mem_of_getElem? (i := 62) rfl) rfl
theorem kw3_63 : (Jvm.Cond.methodLink "java/lang/StringLatin1" (9 : Nat) ({ cls := "java/lang/String", name := "checkIndex", desc := "(II)V" } : Jvm.MethodName)) ∈ tb := inT3 (List.mem_of_getElem? (i := 63) rfl) rfl
theorem kw3_64 : (Jvm.Cond.static ({ cls := "java/lang/String", name := "checkIndex", desc := "(II)V" } : Jvm.MethodName)) ∈ tb := inT3 (List.mem_of_getElem? (i := 64) rfl) rfl
theorem kw3_65 : (Jvm.Cond.code ({ cls := "java/lang/String", name := "checkIndex", desc := "(II)V" } : Jvm.MethodName) prog_23_method_155_code (2 : Nat) (Option.none : Option Jvm.ClassFile.FieldType)) ∈ tb := inT3 (List.mem_of_getElem? (i := 65) rfl) rfl
theorem kw3_66 : (Jvm.Cond.fieldLink "java/lang/String" (1053 : Nat) "jdk/internal/util/Preconditions" "SIOOBE_FORMATTER" "Ljava/util/function/BiFunction;") ∈ tb := inT3 (List.mem_of_getElem? (i := 66) rfl) rfl
theorem kw3_68 : (Jvm.Cond.methodLink "java/lang/String" (1059 : Nat) ({ cls := "jdk/internal/util/Preconditions", name := "checkIndex", desc := "(IILjava/util/function/BiFunction;)I" } : Jvm.MethodName)) ∈ tb := inT3 (List.mem_of_getElem? (i := 68) rfl) rfl
theorem kw3_69 : (Jvm.Cond.static ({ cls := "jdk/internal/util/Preconditions", name := "checkIndex", desc := "(IILjava/util/function/BiFunction;)I" } : Jvm.MethodName)) ∈ tb := inT3 (List.mem_of_getElem? (i := 69) rfl) rfl
theorem kw3_70 : (Jvm.Cond.code ({ cls := "jdk/internal/util/Preconditions", name := "checkIndex", desc := "(IILjava/util/function/BiFunction;)I" } : Jvm.MethodName) prog_32_method_11_code (3 : Nat) (Option.some Jvm.ClassFile.FieldType.int)) ∈ tb := inT3 (List.mem_of_getElem? (i := 70) rfl) rfl
theorem kw3_71 : (Jvm.Cond.methodLink "java/lang/String" (498 : Nat) ({ cls := "java/lang/StringUTF16", name := "charAt", desc := "([BI)C" } : Jvm.MethodName)) ∈ tb := inT3 (List.mem_of_getElem? (i := 71) rfl) rfl
theorem kw3_72 : (Jvm.Cond.static ({ cls := "java/lang/StringUTF16", name := "charAt", desc := "([BI)C" } : Jvm.MethodName)) ∈ tb := inT3 (List.mem_of_getElem? (i := 72) rfl) rfl
theorem kw3_73 : (Jvm.Cond.code ({ cls := "java/lang/StringUTF16", name := "charAt", desc := "([BI)C" } : Jvm.MethodName) prog_25_method_83_code (2 : Nat) (Option.some Jvm.ClassFile.FieldType.char)) ∈ tb := inT3 (List.mem_of_getElem? (i := 73) rfl) rfl
theorem kw3_74 : (Jvm.Cond.methodLink "java/lang/StringUTF16" (67 : Nat) ({ cls := "java/lang/StringUTF16", name := "checkIndex", desc := "(I[B)V" } : Jvm.MethodName)) ∈ tb := inT3 (List.mem_of_getElem? (i := 74) rfl) rfl
theorem kw3_75 : (Jvm.Cond.static ({ cls := "java/lang/StringUTF16", name := "checkIndex", desc := "(I[B)V" } : Jvm.MethodName)) ∈ tb := inT3 (List.mem_of_getElem? (i := 75) rfl) rfl
theorem kw3_76 : (Jvm.Cond.code ({ cls := "java/lang/StringUTF16", name := "checkIndex", desc := "(I[B)V" } : Jvm.MethodName) prog_25_method_91_code (2 : Nat) (Option.none : Option Jvm.ClassFile.FieldType)) ∈ tb := inT3 (List.mem_of_getElem? (i := 76) rfl) rfl
theorem kw3_77 : (Jvm.Cond.methodLink "java/lang/StringUTF16" (48 : Nat) ({ cls := "java/lang/StringUTF16", name := "length", desc := "([B)I" } : Jvm.MethodName)) ∈ tb := inT3 (List.mem_of_getElem? (i := 77) rfl) rfl
theorem kw3_78 : (Jvm.Cond.static ({ cls := "java/lang/StringUTF16", name := "length", desc := "([B)I" } : Jvm.MethodName)) ∈ tb := inT3 (List.mem_of_getElem? (i := 78) rfl) rfl
theorem kw3_79 : (Jvm.Cond.code ({ cls := "java/lang/StringUTF16", name := "length", desc := "([B)I" } : Jvm.MethodName) prog_25_method_6_code (1 : Nat) (Option.some Jvm.ClassFile.FieldType.int)) ∈ tb := inT3 (List.mem_of_getElem? (i := 79) rfl) rfl
theorem kw3_80 : (Jvm.Cond.methodLink "java/lang/StringUTF16" (414 : Nat) ({ cls := "java/lang/String", name := "checkIndex", desc := "(II)V" } : Jvm.MethodName)) ∈ tb := inT3 (List.mem_of_getElem? (i := 80) rfl) rfl
theorem kw3_81 : (Jvm.Cond.methodLink "java/lang/StringUTF16" (71 : Nat) ({ cls := "java/lang/StringUTF16", name := "getChar", desc := "([BI)C" } : Jvm.MethodName)) ∈ tb := inT3 (List.mem_of_getElem? (i := 81) rfl) rfl
theorem kw3_82 : (Jvm.Cond.static ({ cls := "java/lang/StringUTF16", name := "getChar", desc := "([BI)C" } : Jvm.MethodName)) ∈ tb := inT3 (List.mem_of_getElem? (i := 82) rfl) rfl
theorem kw3_83 : (Jvm.Cond.code ({ cls := "java/lang/StringUTF16", name := "getChar", desc := "([BI)C" } : Jvm.MethodName) prog_25_method_5_code (2 : Nat) (Option.some Jvm.ClassFile.FieldType.char)) ∈ tb := inT3 (List.mem_of_getElem? (i := 83) rfl) rfl
theorem kw3_84 : (Jvm.Cond.fieldLink "java/lang/StringUTF16" (44 : Nat) "java/lang/StringUTF16" "$assertionsDisabled" "Z") ∈ tb := inT3 (List.mem_of_getElem? (i := 84) rfl) rfl
theorem kw3_86 : (Jvm.Cond.fieldLink "java/lang/StringUTF16" (59 : Nat) "java/lang/StringUTF16" "HI_BYTE_SHIFT" "I") ∈ tb := inT3 (List.mem_of_getElem? (i := 86) rfl) rfl
theorem kw3_88 : (Jvm.Cond.fieldLink "java/lang/StringUTF16" (63 : Nat) "java/lang/StringUTF16" "LO_BYTE_SHIFT" "I") ∈ tb := inT3 (List.mem_of_getElem? (i := 88) rfl) rfl
theorem kw3_106 : (Jvm.Cond.methodLink "FrontChairs$Reader" (94 : Nat) ({ cls := "FrontChairs$Reader", name := "keep", desc := "(III)V" } : Jvm.MethodName)) ∈ tb := inT3 (List.mem_of_getElem? (i := 106) rfl) rfl
theorem kw3_108 : (Jvm.Cond.instanceMethod ({ cls := "FrontChairs$Reader", name := "keep", desc := "(III)V" } : Jvm.MethodName)) ∈ tb := inT3 (List.mem_of_getElem? (i := 108) rfl) rfl
theorem kw3_109 : (Jvm.Cond.code ({ cls := "FrontChairs$Reader", name := "keep", desc := "(III)V" } : Jvm.MethodName) prog_6_method_5_code (4 : Nat) (Option.none : Option Jvm.ClassFile.FieldType)) ∈ tb := inT3 (List.mem_of_getElem? (i := 109) rfl) rfl
theorem kw3_110 : (Jvm.Cond.methodLink "FrontChairs$Reader" (98 : Nat) ({ cls := "FrontChairs$Reader", name := "isDigit", desc := "(I)Z" } : Jvm.MethodName)) ∈ tb := inT3 (List.mem_of_getElem? (i := 110) rfl) rfl
theorem kw3_111 : (Jvm.Cond.static ({ cls := "FrontChairs$Reader", name := "isDigit", desc := "(I)Z" } : Jvm.MethodName)) ∈ tb := inT3 (List.mem_of_getElem? (i := 111) rfl) rfl
theorem kw3_112 : (Jvm.Cond.code ({ cls := "FrontChairs$Reader", name := "isDigit", desc := "(I)Z" } : Jvm.MethodName) prog_6_method_7_code (1 : Nat) (Option.some Jvm.ClassFile.FieldType.boolean)) ∈ tb := inT3 (List.mem_of_getElem? (i := 112) rfl) rfl
theorem kw3_114 : (Jvm.Cond.methodLink "FrontChairs$Reader" (103 : Nat) ({ cls := "java/lang/String", name := "indexOf", desc := "(I)I" } : Jvm.MethodName)) ∈ tb := inT3 (List.mem_of_getElem? (i := 114) rfl) rfl
theorem kw3_115 : (Jvm.Cond.instanceMethod ({ cls := "java/lang/String", name := "indexOf", desc := "(I)I" } : Jvm.MethodName)) ∈ tb := inT3 (List.mem_of_getElem? (i := 115) rfl) rfl
theorem kw3_116 : (Jvm.Cond.selects "java/lang/String" ({ cls := "java/lang/String", name := "indexOf", desc := "(I)I" } : Jvm.MethodName) ({ cls := "java/lang/String", name := "indexOf", desc := "(I)I" } : Jvm.MethodName)) ∈ tb := inT3 (List.mem_of_getElem? (i := 116) rfl) rfl
theorem kw3_117 : (Jvm.Cond.code ({ cls := "java/lang/String", name := "indexOf", desc := "(I)I" } : Jvm.MethodName) prog_23_method_79_code (2 : Nat) (Option.some Jvm.ClassFile.FieldType.int)) ∈ tb := inT3 (List.mem_of_getElem? (i := 117) rfl) rfl
theorem kw3_118 : (Jvm.Cond.methodLink "java/lang/String" (633 : Nat) ({ cls := "java/lang/String", name := "indexOf", desc := "(II)I" } : Jvm.MethodName)) ∈ tb := inT3 (List.mem_of_getElem? (i := 118) rfl) rfl
theorem kw3_119 : (Jvm.Cond.instanceMethod ({ cls := "java/lang/String", name := "indexOf", desc := "(II)I" } : Jvm.MethodName)) ∈ tb := inT3 (List.mem_of_getElem? (i := 119) rfl) rfl
theorem kw3_120 : (Jvm.Cond.selects "java/lang/String" ({ cls := "java/lang/String", name := "indexOf", desc := "(II)I" } : Jvm.MethodName) ({ cls := "java/lang/String", name := "indexOf", desc := "(II)I" } : Jvm.MethodName)) ∈ tb := inT3 (List.mem_of_getElem? (i := 120) rfl) rfl
theorem kw3_121 : (Jvm.Cond.code ({ cls := "java/lang/String", name := "indexOf", desc := "(II)I" } : Jvm.MethodName) prog_23_method_80_code (3 : Nat) (Option.some Jvm.ClassFile.FieldType.int)) ∈ tb := inT3 (List.mem_of_getElem? (i := 121) rfl) rfl
theorem kw3_122 : (Jvm.Cond.methodLink "java/lang/String" (505 : Nat) ({ cls := "java/lang/String", name := "length", desc := "()I" } : Jvm.MethodName)) ∈ tb := inT3 (List.mem_of_getElem? (i := 122) rfl) rfl
theorem kw3_123 : (Jvm.Cond.methodLink "java/lang/String" (637 : Nat) ({ cls := "java/lang/StringLatin1", name := "indexOf", desc := "([BIII)I" } : Jvm.MethodName)) ∈ tb := inT3 (List.mem_of_getElem? (i := 123) rfl) rfl
theorem kw3_124 : (Jvm.Cond.static ({ cls := "java/lang/StringLatin1", name := "indexOf", desc := "([BIII)I" } : Jvm.MethodName)) ∈ tb := inT3 (List.mem_of_getElem? (i := 124) rfl) rfl
theorem kw3_125 : (Jvm.Cond.code ({ cls := "java/lang/StringLatin1", name := "indexOf", desc := "([BIII)I" } : Jvm.MethodName) prog_24_method_22_code (4 : Nat) (Option.some Jvm.ClassFile.FieldType.int)) ∈ tb := inT3 (List.mem_of_getElem? (i := 125) rfl) rfl
theorem kw3_126 : (Jvm.Cond.methodLink "java/lang/StringLatin1" (88 : Nat) ({ cls := "java/lang/StringLatin1", name := "canEncode", desc := "(I)Z" } : Jvm.MethodName)) ∈ tb := inT3 (List.mem_of_getElem? (i := 126) rfl) rfl
theorem kw3_127 : (Jvm.Cond.static ({ cls := "java/lang/StringLatin1", name := "canEncode", desc := "(I)Z" } : Jvm.MethodName)) ∈ tb := inT3 (List.mem_of_getElem? (i := 127) rfl) rfl
theorem kw3_128 : (Jvm.Cond.code ({ cls := "java/lang/StringLatin1", name := "canEncode", desc := "(I)Z" } : Jvm.MethodName) prog_24_method_4_code (1 : Nat) (Option.some Jvm.ClassFile.FieldType.boolean)) ∈ tb := inT3 (List.mem_of_getElem? (i := 128) rfl) rfl
theorem kw3_129 : (Jvm.Cond.methodLink "java/lang/StringLatin1" (92 : Nat) ({ cls := "java/lang/Math", name := "max", desc := "(II)I" } : Jvm.MethodName)) ∈ tb := inT3 (List.mem_of_getElem? (i := 129) rfl) rfl
theorem kw3_130 : (Jvm.Cond.static ({ cls := "java/lang/Math", name := "max", desc := "(II)I" } : Jvm.MethodName)) ∈ tb := inT3 (List.mem_of_getElem? (i := 130) rfl) rfl
theorem kw3_131 : (Jvm.Cond.code ({ cls := "java/lang/Math", name := "max", desc := "(II)I" } : Jvm.MethodName) prog_21_method_65_code (2 : Nat) (Option.some Jvm.ClassFile.FieldType.int)) ∈ tb := inT3 (List.mem_of_getElem? (i := 131) rfl) rfl
theorem kw3_132 : (Jvm.Cond.methodLink "java/lang/StringLatin1" (38 : Nat) ({ cls := "java/lang/Math", name := "min", desc := "(II)I" } : Jvm.MethodName)) ∈ tb := inT3 (List.mem_of_getElem? (i := 132) rfl) rfl
theorem kw3_133 : (Jvm.Cond.static ({ cls := "java/lang/Math", name := "min", desc := "(II)I" } : Jvm.MethodName)) ∈ tb := inT3 (List.mem_of_getElem? (i := 133) rfl) rfl
theorem kw3_134 : (Jvm.Cond.code ({ cls := "java/lang/Math", name := "min", desc := "(II)I" } : Jvm.MethodName) prog_21_method_69_code (2 : Nat) (Option.some Jvm.ClassFile.FieldType.int)) ∈ tb := inT3 (List.mem_of_getElem? (i := 134) rfl) rfl
theorem kw3_135 : (Jvm.Cond.methodLink "java/lang/StringLatin1" (95 : Nat) ({ cls := "java/lang/StringLatin1", name := "indexOfChar", desc := "([BIII)I" } : Jvm.MethodName)) ∈ tb := inT3 (List.mem_of_getElem? (i := 135) rfl) rfl
theorem kw3_136 : (Jvm.Cond.static ({ cls := "java/lang/StringLatin1", name := "indexOfChar", desc := "([BIII)I" } : Jvm.MethodName)) ∈ tb := inT3 (List.mem_of_getElem? (i := 136) rfl) rfl
theorem kw3_137 : (Jvm.Cond.code ({ cls := "java/lang/StringLatin1", name := "indexOfChar", desc := "([BIII)I" } : Jvm.MethodName) prog_24_method_23_code (6 : Nat) (Option.some Jvm.ClassFile.FieldType.int)) ∈ tb := inT3 (List.mem_of_getElem? (i := 137) rfl) rfl
theorem kw3_138 : (Jvm.Cond.methodLink "java/lang/String" (640 : Nat) ({ cls := "java/lang/StringUTF16", name := "indexOf", desc := "([BIII)I" } : Jvm.MethodName)) ∈ tb := inT3 (List.mem_of_getElem? (i := 138) rfl) rfl
theorem kw3_139 : (Jvm.Cond.static ({ cls := "java/lang/StringUTF16", name := "indexOf", desc := "([BIII)I" } : Jvm.MethodName)) ∈ tb := inT3 (List.mem_of_getElem? (i := 139) rfl) rfl
theorem kw3_140 : (Jvm.Cond.code ({ cls := "java/lang/StringUTF16", name := "indexOf", desc := "([BIII)I" } : Jvm.MethodName) prog_25_method_40_code (4 : Nat) (Option.some Jvm.ClassFile.FieldType.int)) ∈ tb := inT3 (List.mem_of_getElem? (i := 140) rfl) rfl
theorem kw3_141 : (Jvm.Cond.methodLink "java/lang/StringUTF16" (224 : Nat) ({ cls := "java/lang/Math", name := "max", desc := "(II)I" } : Jvm.MethodName)) ∈ tb := inT3 (List.mem_of_getElem? (i := 141) rfl) rfl
theorem kw3_142 : (Jvm.Cond.methodLink "java/lang/StringUTF16" (183 : Nat) ({ cls := "java/lang/Math", name := "min", desc := "(II)I" } : Jvm.MethodName)) ∈ tb := inT3 (List.mem_of_getElem? (i := 142) rfl) rfl
theorem kw3_143 : (Jvm.Cond.constant "java/lang/StringUTF16" (227 : Nat) (65536 : Int32)) ∈ tb := inT3 (List.mem_of_getElem? (i := 143) rfl) rfl
theorem kw3_144 : (Jvm.Cond.methodLink "java/lang/StringUTF16" (228 : Nat) ({ cls := "java/lang/StringUTF16", name := "indexOfChar", desc := "([BIII)I" } : Jvm.MethodName)) ∈ tb := inT3 (List.mem_of_getElem? (i := 144) rfl) rfl
theorem kw3_145 : (Jvm.Cond.static ({ cls := "java/lang/StringUTF16", name := "indexOfChar", desc := "([BIII)I" } : Jvm.MethodName)) ∈ tb := inT3 (List.mem_of_getElem? (i := 145) rfl) rfl
theorem kw3_146 : (Jvm.Cond.code ({ cls := "java/lang/StringUTF16", name := "indexOfChar", desc := "([BIII)I" } : Jvm.MethodName) prog_25_method_47_code (4 : Nat) (Option.some Jvm.ClassFile.FieldType.int)) ∈ tb := inT3 (List.mem_of_getElem? (i := 146) rfl) rfl
theorem kw3_147 : (Jvm.Cond.methodLink "java/lang/StringUTF16" (96 : Nat) ({ cls := "java/lang/StringUTF16", name := "checkBoundsBeginEnd", desc := "(II[B)V" } : Jvm.MethodName)) ∈ tb := inT3 (List.mem_of_getElem? (i := 147) rfl) rfl
theorem kw3_148 : (Jvm.Cond.static ({ cls := "java/lang/StringUTF16", name := "checkBoundsBeginEnd", desc := "(II[B)V" } : Jvm.MethodName)) ∈ tb := inT3 (List.mem_of_getElem? (i := 148) rfl) rfl
theorem kw3_149 : (Jvm.Cond.code ({ cls := "java/lang/StringUTF16", name := "checkBoundsBeginEnd", desc := "(II[B)V" } : Jvm.MethodName) prog_25_method_93_code (3 : Nat) (Option.none : Option Jvm.ClassFile.FieldType)) ∈ tb := inT3 (List.mem_of_getElem? (i := 149) rfl) rfl
theorem kw3_150 : (Jvm.Cond.methodLink "java/lang/StringUTF16" (241 : Nat) ({ cls := "java/lang/String", name := "checkBoundsBeginEnd", desc := "(III)V" } : Jvm.MethodName)) ∈ tb := inT3 (List.mem_of_getElem? (i := 150) rfl) rfl
theorem kw3_151 : (Jvm.Cond.static ({ cls := "java/lang/String", name := "checkBoundsBeginEnd", desc := "(III)V" } : Jvm.MethodName)) ∈ tb := inT3 (List.mem_of_getElem? (i := 151) rfl) rfl
theorem kw3_152 : (Jvm.Cond.code ({ cls := "java/lang/String", name := "checkBoundsBeginEnd", desc := "(III)V" } : Jvm.MethodName) prog_23_method_158_code (3 : Nat) (Option.none : Option Jvm.ClassFile.FieldType)) ∈ tb := inT3 (List.mem_of_getElem? (i := 152) rfl) rfl
theorem kw3_153 : (Jvm.Cond.methodLink "java/lang/String" (1062 : Nat) ({ cls := "jdk/internal/util/Preconditions", name := "checkFromToIndex", desc := "(IIILjava/util/function/BiFunction;)I" } : Jvm.MethodName)) ∈ tb := inT3 (List.mem_of_getElem? (i := 153) rfl) rfl
theorem kw3_154 : (Jvm.Cond.static ({ cls := "jdk/internal/util/Preconditions", name := "checkFromToIndex", desc := "(IIILjava/util/function/BiFunction;)I" } : Jvm.MethodName)) ∈ tb := inT3 (List.mem_of_getElem? (i := 154) rfl) rfl
theorem kw3_155 : (Jvm.Cond.code ({ cls := "jdk/internal/util/Preconditions", name := "checkFromToIndex", desc := "(IIILjava/util/function/BiFunction;)I" } : Jvm.MethodName) prog_32_method_12_code (4 : Nat) (Option.some Jvm.ClassFile.FieldType.int)) ∈ tb := inT3 (List.mem_of_getElem? (i := 155) rfl) rfl
theorem kw3_156 : (Jvm.Cond.methodLink "java/lang/StringUTF16" (244 : Nat) ({ cls := "java/lang/StringUTF16", name := "indexOfCharUnsafe", desc := "([BIII)I" } : Jvm.MethodName)) ∈ tb := inT3 (List.mem_of_getElem? (i := 156) rfl) rfl
theorem kw3_157 : (Jvm.Cond.static ({ cls := "java/lang/StringUTF16", name := "indexOfCharUnsafe", desc := "([BIII)I" } : Jvm.MethodName)) ∈ tb := inT3 (List.mem_of_getElem? (i := 157) rfl) rfl
theorem kw3_158 : (Jvm.Cond.code ({ cls := "java/lang/StringUTF16", name := "indexOfCharUnsafe", desc := "([BIII)I" } : Jvm.MethodName) prog_25_method_48_code (5 : Nat) (Option.some Jvm.ClassFile.FieldType.int)) ∈ tb := inT3 (List.mem_of_getElem? (i := 158) rfl) rfl
theorem kw3_159 : (Jvm.Cond.methodLink "java/lang/StringUTF16" (232 : Nat) ({ cls := "java/lang/StringUTF16", name := "indexOfSupplementary", desc := "([BIII)I" } : Jvm.MethodName)) ∈ tb := inT3 (List.mem_of_getElem? (i := 159) rfl) rfl
theorem kw3_160 : (Jvm.Cond.static ({ cls := "java/lang/StringUTF16", name := "indexOfSupplementary", desc := "([BIII)I" } : Jvm.MethodName)) ∈ tb := inT3 (List.mem_of_getElem? (i := 160) rfl) rfl
theorem kw3_161 : (Jvm.Cond.code ({ cls := "java/lang/StringUTF16", name := "indexOfSupplementary", desc := "([BIII)I" } : Jvm.MethodName) prog_25_method_49_code (7 : Nat) (Option.some Jvm.ClassFile.FieldType.int)) ∈ tb := inT3 (List.mem_of_getElem? (i := 161) rfl) rfl
theorem kw3_162 : (Jvm.Cond.methodLink "java/lang/StringUTF16" (164 : Nat) ({ cls := "java/lang/Character", name := "isValidCodePoint", desc := "(I)Z" } : Jvm.MethodName)) ∈ tb := inT3 (List.mem_of_getElem? (i := 162) rfl) rfl
theorem kw3_163 : (Jvm.Cond.static ({ cls := "java/lang/Character", name := "isValidCodePoint", desc := "(I)Z" } : Jvm.MethodName)) ∈ tb := inT3 (List.mem_of_getElem? (i := 163) rfl) rfl
theorem kw3_164 : (Jvm.Cond.code ({ cls := "java/lang/Character", name := "isValidCodePoint", desc := "(I)Z" } : Jvm.MethodName) prog_13_method_11_code (2 : Nat) (Option.some Jvm.ClassFile.FieldType.boolean)) ∈ tb := inT3 (List.mem_of_getElem? (i := 164) rfl) rfl
theorem kw3_165 : (Jvm.Cond.methodLink "java/lang/StringUTF16" (157 : Nat) ({ cls := "java/lang/Character", name := "highSurrogate", desc := "(I)C" } : Jvm.MethodName)) ∈ tb := inT3 (List.mem_of_getElem? (i := 165) rfl) rfl
theorem kw3_166 : (Jvm.Cond.static ({ cls := "java/lang/Character", name := "highSurrogate", desc := "(I)C" } : Jvm.MethodName)) ∈ tb := inT3 (List.mem_of_getElem? (i := 166) rfl) rfl
theorem kw3_167 : (Jvm.Cond.code ({ cls := "java/lang/Character", name := "highSurrogate", desc := "(I)C" } : Jvm.MethodName) prog_13_method_28_code (1 : Nat) (Option.some Jvm.ClassFile.FieldType.char)) ∈ tb := inT3 (List.mem_of_getElem? (i := 167) rfl) rfl
theorem kw3_168 : (Jvm.Cond.constant "java/lang/Character" (110 : Nat) (55232 : Int32)) ∈ tb := inT3 (List.mem_of_getElem? (i := 168) rfl) rfl
theorem kw3_169 : (Jvm.Cond.methodLink "java/lang/StringUTF16" (161 : Nat) ({ cls := "java/lang/Character", name := "lowSurrogate", desc := "(I)C" } : Jvm.MethodName)) ∈ tb := inT3 (List.mem_of_getElem? (i := 169) rfl) rfl
theorem kw3_170 : (Jvm.Cond.static ({ cls := "java/lang/Character", name := "lowSurrogate", desc := "(I)C" } : Jvm.MethodName)) ∈ tb := inT3 (List.mem_of_getElem? (i := 170) rfl) rfl
theorem kw3_171 : (Jvm.Cond.code ({ cls := "java/lang/Character", name := "lowSurrogate", desc := "(I)C" } : Jvm.MethodName) prog_13_method_29_code (1 : Nat) (Option.some Jvm.ClassFile.FieldType.char)) ∈ tb := inT3 (List.mem_of_getElem? (i := 171) rfl) rfl
theorem kw3_172 : (Jvm.Cond.constant "java/lang/Character" (76 : Nat) (56320 : Int32)) ∈ tb := inT3 (List.mem_of_getElem? (i := 172) rfl) rfl
theorem kw3_173 : (Jvm.Cond.classLink "FrontChairs$Reader" (58 : Nat) "FrontChairs$Beach") ∈ tb := inT3 (List.mem_of_getElem? (i := 173) rfl) rfl
theorem kw3_174 : (Jvm.Cond.methodLink "FrontChairs$Reader" (60 : Nat) ({ cls := "FrontChairs$Beach", name := "<init>", desc := "()V" } : Jvm.MethodName)) ∈ tb := inT3 (List.mem_of_getElem? (i := 174) rfl) rfl
theorem kw3_175 : (Jvm.Cond.methodLink "FrontChairs$Reader" (61 : Nat) ({ cls := "FrontChairs$Seats", name := "clearFor", desc := "(LFrontChairs$Beach;)V" } : Jvm.MethodName)) ∈ tb := inT3 (List.mem_of_getElem? (i := 175) rfl) rfl
theorem kw3_176 : (Jvm.Cond.instanceMethod ({ cls := "FrontChairs$Seats", name := "clearFor", desc := "(LFrontChairs$Beach;)V" } : Jvm.MethodName)) ∈ tb := inT3 (List.mem_of_getElem? (i := 176) rfl) rfl
theorem kw3_177 : (Jvm.Cond.selects "FrontChairs$Seats" ({ cls := "FrontChairs$Seats", name := "clearFor", desc := "(LFrontChairs$Beach;)V" } : Jvm.MethodName) ({ cls := "FrontChairs$Seats", name := "clearFor", desc := "(LFrontChairs$Beach;)V" } : Jvm.MethodName)) ∈ tb := inT3 (List.mem_of_getElem? (i := 177) rfl) rfl
theorem kw3_178 : (Jvm.Cond.code ({ cls := "FrontChairs$Seats", name := "clearFor", desc := "(LFrontChairs$Beach;)V" } : Jvm.MethodName) prog_7_method_3_code (2 : Nat) (Option.none : Option Jvm.ClassFile.FieldType)) ∈ tb := inT3 (List.mem_of_getElem? (i := 178) rfl) rfl
theorem kw3_179 : (Jvm.Cond.methodLink "FrontChairs$Reader" (65 : Nat) ({ cls := "FrontChairs$Reader", name := "need", desc := "(I)V" } : Jvm.MethodName)) ∈ tb := inT3 (List.mem_of_getElem? (i := 179) rfl) rfl
theorem kw3_181 : (Jvm.Cond.instanceMethod ({ cls := "FrontChairs$Reader", name := "need", desc := "(I)V" } : Jvm.MethodName)) ∈ tb := inT3 (List.mem_of_getElem? (i := 181) rfl) rfl
theorem kw3_182 : (Jvm.Cond.code ({ cls := "FrontChairs$Reader", name := "need", desc := "(I)V" } : Jvm.MethodName) prog_6_method_12_code (2 : Nat) (Option.none : Option Jvm.ClassFile.FieldType)) ∈ tb := inT3 (List.mem_of_getElem? (i := 182) rfl) rfl
theorem kw3_183 : (Jvm.Cond.methodLink "FrontChairs$Reader" (82 : Nat) ({ cls := "FrontChairs$Reader", name := "kind", desc := "()I" } : Jvm.MethodName)) ∈ tb := inT3 (List.mem_of_getElem? (i := 183) rfl) rfl
theorem kw3_185 : (Jvm.Cond.instanceMethod ({ cls := "FrontChairs$Reader", name := "kind", desc := "()I" } : Jvm.MethodName)) ∈ tb := inT3 (List.mem_of_getElem? (i := 185) rfl) rfl
theorem kw3_186 : (Jvm.Cond.code ({ cls := "FrontChairs$Reader", name := "kind", desc := "()I" } : Jvm.MethodName) prog_6_method_10_code (1 : Nat) (Option.some Jvm.ClassFile.FieldType.int)) ∈ tb := inT3 (List.mem_of_getElem? (i := 186) rfl) rfl
theorem kw3_187 : (Jvm.Cond.methodLink "FrontChairs$Reader" (152 : Nat) ({ cls := "FrontChairs$Reader", name := "fail", desc := "(I)V" } : Jvm.MethodName)) ∈ tb := inT3 (List.mem_of_getElem? (i := 187) rfl) rfl
theorem kw3_189 : (Jvm.Cond.instanceMethod ({ cls := "FrontChairs$Reader", name := "fail", desc := "(I)V" } : Jvm.MethodName)) ∈ tb := inT3 (List.mem_of_getElem? (i := 189) rfl) rfl
theorem kw3_190 : (Jvm.Cond.code ({ cls := "FrontChairs$Reader", name := "fail", desc := "(I)V" } : Jvm.MethodName) prog_6_method_11_code (2 : Nat) (Option.none : Option Jvm.ClassFile.FieldType)) ∈ tb := inT3 (List.mem_of_getElem? (i := 190) rfl) rfl
theorem kw3_191 : (Jvm.Cond.methodLink "FrontChairs$Reader" (69 : Nat) ({ cls := "FrontChairs$Reader", name := "number", desc := "(II)I" } : Jvm.MethodName)) ∈ tb := inT3 (List.mem_of_getElem? (i := 191) rfl) rfl
theorem kw3_193 : (Jvm.Cond.instanceMethod ({ cls := "FrontChairs$Reader", name := "number", desc := "(II)I" } : Jvm.MethodName)) ∈ tb := inT3 (List.mem_of_getElem? (i := 193) rfl) rfl
theorem kw3_194 : (Jvm.Cond.code ({ cls := "FrontChairs$Reader", name := "number", desc := "(II)I" } : Jvm.MethodName) prog_6_method_13_code (4 : Nat) (Option.some Jvm.ClassFile.FieldType.int)) ∈ tb := inT3 (List.mem_of_getElem? (i := 194) rfl) rfl
theorem kw3_195 : (Jvm.Cond.methodLink "FrontChairs" (98 : Nat) ({ cls := "FrontChairs$Reader", name := "hasMore", desc := "()Z" } : Jvm.MethodName)) ∈ tb := inT3 (List.mem_of_getElem? (i := 195) rfl) rfl
theorem kw3_196 : (Jvm.Cond.instanceMethod ({ cls := "FrontChairs$Reader", name := "hasMore", desc := "()Z" } : Jvm.MethodName)) ∈ tb := inT3 (List.mem_of_getElem? (i := 196) rfl) rfl
theorem kw3_197 : (Jvm.Cond.selects "FrontChairs$Reader" ({ cls := "FrontChairs$Reader", name := "hasMore", desc := "()Z" } : Jvm.MethodName) ({ cls := "FrontChairs$Reader", name := "hasMore", desc := "()Z" } : Jvm.MethodName)) ∈ tb := inT3 (List.mem_of_getElem? (i := 197) rfl) rfl
theorem kw3_198 : (Jvm.Cond.code ({ cls := "FrontChairs$Reader", name := "hasMore", desc := "()Z" } : Jvm.MethodName) prog_6_method_3_code (1 : Nat) (Option.some Jvm.ClassFile.FieldType.boolean)) ∈ tb := inT3 (List.mem_of_getElem? (i := 198) rfl) rfl
theorem kw3_199 : (Jvm.Cond.methodLink "FrontChairs" (102 : Nat) ({ cls := "FrontChairs$Reader", name := "line", desc := "()V" } : Jvm.MethodName)) ∈ tb := inT3 (List.mem_of_getElem? (i := 199) rfl) rfl
theorem kw3_200 : (Jvm.Cond.instanceMethod ({ cls := "FrontChairs$Reader", name := "line", desc := "()V" } : Jvm.MethodName)) ∈ tb := inT3 (List.mem_of_getElem? (i := 200) rfl) rfl
theorem kw3_201 : (Jvm.Cond.selects "FrontChairs$Reader" ({ cls := "FrontChairs$Reader", name := "line", desc := "()V" } : Jvm.MethodName) ({ cls := "FrontChairs$Reader", name := "line", desc := "()V" } : Jvm.MethodName)) ∈ tb := inT3 (List.mem_of_getElem? (i := 201) rfl) rfl
theorem kw3_202 : (Jvm.Cond.code ({ cls := "FrontChairs$Reader", name := "line", desc := "()V" } : Jvm.MethodName) prog_6_method_14_code (2 : Nat) (Option.none : Option Jvm.ClassFile.FieldType)) ∈ tb := inT3 (List.mem_of_getElem? (i := 202) rfl) rfl
theorem kw3_203 : (Jvm.Cond.methodLink "FrontChairs$Reader" (155 : Nat) ({ cls := "FrontChairs$Reader", name := "personLine", desc := "()V" } : Jvm.MethodName)) ∈ tb := inT3 (List.mem_of_getElem? (i := 203) rfl) rfl
theorem kw3_205 : (Jvm.Cond.instanceMethod ({ cls := "FrontChairs$Reader", name := "personLine", desc := "()V" } : Jvm.MethodName)) ∈ tb := inT3 (List.mem_of_getElem? (i := 205) rfl) rfl
theorem kw3_206 : (Jvm.Cond.code ({ cls := "FrontChairs$Reader", name := "personLine", desc := "()V" } : Jvm.MethodName) prog_6_method_16_code (5 : Nat) (Option.none : Option Jvm.ClassFile.FieldType)) ∈ tb := inT3 (List.mem_of_getElem? (i := 206) rfl) rfl
theorem kw3_207 : (Jvm.Cond.methodLink "FrontChairs$Reader" (193 : Nat) ({ cls := "FrontChairs$Reader", name := "freeRow", desc := "(I)I" } : Jvm.MethodName)) ∈ tb := inT3 (List.mem_of_getElem? (i := 207) rfl) rfl
theorem kw3_209 : (Jvm.Cond.instanceMethod ({ cls := "FrontChairs$Reader", name := "freeRow", desc := "(I)I" } : Jvm.MethodName)) ∈ tb := inT3 (List.mem_of_getElem? (i := 209) rfl) rfl
theorem kw3_210 : (Jvm.Cond.code ({ cls := "FrontChairs$Reader", name := "freeRow", desc := "(I)I" } : Jvm.MethodName) prog_6_method_17_code (2 : Nat) (Option.some Jvm.ClassFile.FieldType.int)) ∈ tb := inT3 (List.mem_of_getElem? (i := 210) rfl) rfl
theorem kw3_211 : (Jvm.Cond.methodLink "FrontChairs$Reader" (202 : Nat) ({ cls := "FrontChairs$Seats", name := "whoOn", desc := "(II)I" } : Jvm.MethodName)) ∈ tb := inT3 (List.mem_of_getElem? (i := 211) rfl) rfl
theorem kw3_212 : (Jvm.Cond.methodLink "FrontChairs$Reader" (196 : Nat) ({ cls := "FrontChairs$Seats", name := "put", desc := "(III)V" } : Jvm.MethodName)) ∈ tb := inT3 (List.mem_of_getElem? (i := 212) rfl) rfl
theorem kw3_213 : (Jvm.Cond.methodLink "FrontChairs$Reader" (199 : Nat) ({ cls := "FrontChairs$Reader", name := "flag", desc := "(I)V" } : Jvm.MethodName)) ∈ tb := inT3 (List.mem_of_getElem? (i := 213) rfl) rfl
theorem kw3_215 : (Jvm.Cond.instanceMethod ({ cls := "FrontChairs$Reader", name := "flag", desc := "(I)V" } : Jvm.MethodName)) ∈ tb := inT3 (List.mem_of_getElem? (i := 215) rfl) rfl
theorem kw3_216 : (Jvm.Cond.code ({ cls := "FrontChairs$Reader", name := "flag", desc := "(I)V" } : Jvm.MethodName) prog_6_method_18_code (3 : Nat) (Option.none : Option Jvm.ClassFile.FieldType)) ∈ tb := inT3 (List.mem_of_getElem? (i := 216) rfl) rfl
theorem kw3_217 : (Jvm.Cond.methodLink "FrontChairs$Reader" (160 : Nat) ({ cls := "FrontChairs$Reader", name := "truth", desc := "(I)V" } : Jvm.MethodName)) ∈ tb := inT3 (List.mem_of_getElem? (i := 217) rfl) rfl
theorem kw3_219 : (Jvm.Cond.instanceMethod ({ cls := "FrontChairs$Reader", name := "truth", desc := "(I)V" } : Jvm.MethodName)) ∈ tb := inT3 (List.mem_of_getElem? (i := 219) rfl) rfl
theorem kw3_220 : (Jvm.Cond.code ({ cls := "FrontChairs$Reader", name := "truth", desc := "(I)V" } : Jvm.MethodName) prog_6_method_20_code (4 : Nat) (Option.none : Option Jvm.ClassFile.FieldType)) ∈ tb := inT3 (List.mem_of_getElem? (i := 220) rfl) rfl
theorem kw3_221 : (Jvm.Cond.methodLink "FrontChairs$Reader" (215 : Nat) ({ cls := "FrontChairs$Reader", name := "unit", desc := "(I)V" } : Jvm.MethodName)) ∈ tb := inT3 (List.mem_of_getElem? (i := 221) rfl) rfl
theorem kw3_223 : (Jvm.Cond.instanceMethod ({ cls := "FrontChairs$Reader", name := "unit", desc := "(I)V" } : Jvm.MethodName)) ∈ tb := inT3 (List.mem_of_getElem? (i := 223) rfl) rfl
theorem kw3_224 : (Jvm.Cond.code ({ cls := "FrontChairs$Reader", name := "unit", desc := "(I)V" } : Jvm.MethodName) prog_6_method_21_code (4 : Nat) (Option.none : Option Jvm.ClassFile.FieldType)) ∈ tb := inT3 (List.mem_of_getElem? (i := 224) rfl) rfl
theorem kw3_225 : (Jvm.Cond.methodLink "FrontChairs$Reader" (218 : Nat) ({ cls := "FrontChairs$Reader", name := "emit", desc := "(I)V" } : Jvm.MethodName)) ∈ tb := inT3 (List.mem_of_getElem? (i := 225) rfl) rfl
theorem kw3_227 : (Jvm.Cond.instanceMethod ({ cls := "FrontChairs$Reader", name := "emit", desc := "(I)V" } : Jvm.MethodName)) ∈ tb := inT3 (List.mem_of_getElem? (i := 227) rfl) rfl
theorem kw3_228 : (Jvm.Cond.code ({ cls := "FrontChairs$Reader", name := "emit", desc := "(I)V" } : Jvm.MethodName) prog_6_method_19_code (2 : Nat) (Option.none : Option Jvm.ClassFile.FieldType)) ∈ tb := inT3 (List.mem_of_getElem? (i := 228) rfl) rfl
theorem kw3_229 : (Jvm.Cond.methodLink "FrontChairs$Reader" (163 : Nat) ({ cls := "FrontChairs$Reader", name := "sum", desc := "(I)V" } : Jvm.MethodName)) ∈ tb := inT3 (List.mem_of_getElem? (i := 229) rfl) rfl
theorem kw3_231 : (Jvm.Cond.instanceMethod ({ cls := "FrontChairs$Reader", name := "sum", desc := "(I)V" } : Jvm.MethodName)) ∈ tb := inT3 (List.mem_of_getElem? (i := 231) rfl) rfl
theorem kw3_232 : (Jvm.Cond.code ({ cls := "FrontChairs$Reader", name := "sum", desc := "(I)V" } : Jvm.MethodName) prog_6_method_22_code (5 : Nat) (Option.none : Option Jvm.ClassFile.FieldType)) ∈ tb := inT3 (List.mem_of_getElem? (i := 232) rfl) rfl
theorem kw3_233 : (Jvm.Cond.methodLink "FrontChairs$Reader" (221 : Nat) ({ cls := "FrontChairs$Reader", name := "atom", desc := "(I)V" } : Jvm.MethodName)) ∈ tb := inT3 (List.mem_of_getElem? (i := 233) rfl) rfl
theorem kw3_235 : (Jvm.Cond.instanceMethod ({ cls := "FrontChairs$Reader", name := "atom", desc := "(I)V" } : Jvm.MethodName)) ∈ tb := inT3 (List.mem_of_getElem? (i := 235) rfl) rfl
theorem kw3_236 : (Jvm.Cond.code ({ cls := "FrontChairs$Reader", name := "atom", desc := "(I)V" } : Jvm.MethodName) prog_6_method_23_code (4 : Nat) (Option.none : Option Jvm.ClassFile.FieldType)) ∈ tb := inT3 (List.mem_of_getElem? (i := 236) rfl) rfl
theorem kw3_237 : (Jvm.Cond.methodLink "FrontChairs$Reader" (224 : Nat) ({ cls := "FrontChairs$Reader", name := "named", desc := "(I)I" } : Jvm.MethodName)) ∈ tb := inT3 (List.mem_of_getElem? (i := 237) rfl) rfl
theorem kw3_239 : (Jvm.Cond.instanceMethod ({ cls := "FrontChairs$Reader", name := "named", desc := "(I)I" } : Jvm.MethodName)) ∈ tb := inT3 (List.mem_of_getElem? (i := 239) rfl) rfl
theorem kw4_0 : (Jvm.Cond.code ({ cls := "FrontChairs$Reader", name := "named", desc := "(I)I" } : Jvm.MethodName) prog_6_method_24_code (2 : Nat) (Option.some Jvm.ClassFile.FieldType.int)) ∈ tb := inT4 (List.mem_of_getElem? (i := 0) rfl) rfl
theorem kw4_1 : (Jvm.Cond.methodLink "FrontChairs$Reader" (166 : Nat) ({ cls := "FrontChairs$Reader", name := "keepLaw", desc := "()V" } : Jvm.MethodName)) ∈ tb := inT4 (List.mem_of_getElem? (i := 1) rfl) rfl
theorem kw4_3 : (Jvm.Cond.instanceMethod ({ cls := "FrontChairs$Reader", name := "keepLaw", desc := "()V" } : Jvm.MethodName)) ∈ tb := inT4 (List.mem_of_getElem? (i := 3) rfl) rfl
theorem kw4_4 : (Jvm.Cond.code ({ cls := "FrontChairs$Reader", name := "keepLaw", desc := "()V" } : Jvm.MethodName) prog_6_method_15_code (2 : Nat) (Option.none : Option Jvm.ClassFile.FieldType)) ∈ tb := inT4 (List.mem_of_getElem? (i := 4) rfl) rfl
theorem kw4_5 : (Jvm.Cond.classLink "FrontChairs$Reader" (169 : Nat) "FrontChairs$Law") ∈ tb := inT4 (List.mem_of_getElem? (i := 5) rfl) rfl
theorem kw4_6 : (Jvm.Cond.instantiable "FrontChairs$Law" (2 : Nat)) ∈ tb := inT4 (List.mem_of_getElem? (i := 6) rfl) rfl
theorem kw4_7 : (Jvm.Cond.methodLink "FrontChairs$Reader" (171 : Nat) ({ cls := "java/util/Arrays", name := "copyOf", desc := "([II)[I" } : Jvm.MethodName)) ∈ tb := inT4 (List.mem_of_getElem? (i := 7) rfl) rfl
theorem kw4_8 : (Jvm.Cond.static ({ cls := "java/util/Arrays", name := "copyOf", desc := "([II)[I" } : Jvm.MethodName)) ∈ tb := inT4 (List.mem_of_getElem? (i := 8) rfl) rfl
theorem kw4_9 : (Jvm.Cond.code ({ cls := "java/util/Arrays", name := "copyOf", desc := "([II)[I" } : Jvm.MethodName) prog_30_method_123_code (3 : Nat) (Option.some (Jvm.ClassFile.FieldType.array Jvm.ClassFile.FieldType.int))) ∈ tb := inT4 (List.mem_of_getElem? (i := 9) rfl) rfl
theorem kw4_10 : (Jvm.Cond.methodLink "java/util/Arrays" (316 : Nat) ({ cls := "[I", name := "clone", desc := "()Ljava/lang/Object;" } : Jvm.MethodName)) ∈ tb := inT4 (List.mem_of_getElem? (i := 10) rfl) rfl
theorem kw4_12 : (Jvm.Cond.native ({ cls := "java/lang/Object", name := "clone", desc := "()Ljava/lang/Object;" } : Jvm.MethodName)) ∈ tb := inT4 (List.mem_of_getElem? (i := 12) rfl) rfl
theorem kw4_13 : (Jvm.Cond.instanceMethod ({ cls := "java/lang/Object", name := "clone", desc := "()Ljava/lang/Object;" } : Jvm.MethodName)) ∈ tb := inT4 (List.mem_of_getElem? (i := 13) rfl) rfl
theorem kw4_14 : (Jvm.Cond.selects "[I" ({ cls := "[I", name := "clone", desc := "()Ljava/lang/Object;" } : Jvm.MethodName) ({ cls := "java/lang/Object", name := "clone", desc := "()Ljava/lang/Object;" } : Jvm.MethodName)) ∈ tb := inT4 (List.mem_of_getElem? (i := 14) rfl) rfl
theorem kw4_16 : (Jvm.Cond.classLink "java/util/Arrays" (317 : Nat) "[I") ∈ tb := inT4 (List.mem_of_getElem? (i := 16) rfl) rfl
theorem kw4_17 : (Jvm.Cond.methodLink "java/util/Arrays" (304 : Nat) ({ cls := "java/lang/Math", name := "min", desc := "(II)I" } : Jvm.MethodName)) ∈ tb := inT4 (List.mem_of_getElem? (i := 17) rfl) rfl
theorem kw4_18 : (Jvm.Cond.methodLink "java/util/Arrays" (150 : Nat) ({ cls := "java/lang/System", name := "arraycopy", desc := "(Ljava/lang/Object;ILjava/lang/Object;II)V" } : Jvm.MethodName)) ∈ tb := inT4 (List.mem_of_getElem? (i := 18) rfl) rfl
theorem kw4_19 : (Jvm.Cond.methodLink "FrontChairs$Reader" (177 : Nat) ({ cls := "FrontChairs$Law", name := "<init>", desc := "([I)V" } : Jvm.MethodName)) ∈ tb := inT4 (List.mem_of_getElem? (i := 19) rfl) rfl
theorem kw4_20 : (Jvm.Cond.instanceMethod ({ cls := "FrontChairs$Law", name := "<init>", desc := "([I)V" } : Jvm.MethodName)) ∈ tb := inT4 (List.mem_of_getElem? (i := 20) rfl) rfl
theorem kw4_21 : (Jvm.Cond.code ({ cls := "FrontChairs$Law", name := "<init>", desc := "([I)V" } : Jvm.MethodName) prog_5_method_1_code (2 : Nat) (Option.none : Option Jvm.ClassFile.FieldType)) ∈ tb := inT4 (List.mem_of_getElem? (i := 21) rfl) rfl
theorem kw4_22 : (Jvm.Cond.methodLink "FrontChairs$Law" (1 : Nat) ({ cls := "java/lang/Object", name := "<init>", desc := "()V" } : Jvm.MethodName)) ∈ tb := inT4 (List.mem_of_getElem? (i := 22) rfl) rfl
theorem kw4_23 : (Jvm.Cond.fieldLink "FrontChairs$Law" (13 : Nat) "FrontChairs$Law" "code" "[I") ∈ tb := inT4 (List.mem_of_getElem? (i := 23) rfl) rfl
theorem kw4_24 : (Jvm.Cond.fieldLink "FrontChairs$Law" (9 : Nat) "FrontChairs$Law" "stack" "[I") ∈ tb := inT4 (List.mem_of_getElem? (i := 24) rfl) rfl
theorem kw4_25 : (Jvm.Cond.laysFinal "FrontChairs$Law" "FrontChairs$Law" "code" "[I") ∈ tb := inT4 (List.mem_of_getElem? (i := 25) rfl) rfl
theorem kw4_27 : (Jvm.Cond.laysFinal "FrontChairs$Law" "FrontChairs$Law" "stack" "[I") ∈ tb := inT4 (List.mem_of_getElem? (i := 27) rfl) rfl
theorem kw4_30 : (Jvm.Cond.methodLink "FrontChairs" (117 : Nat) ({ cls := "FrontChairs$History", name := "forget", desc := "()V" } : Jvm.MethodName)) ∈ tb := inT4 (List.mem_of_getElem? (i := 30) rfl) rfl
theorem kw4_31 : (Jvm.Cond.instanceMethod ({ cls := "FrontChairs$History", name := "forget", desc := "()V" } : Jvm.MethodName)) ∈ tb := inT4 (List.mem_of_getElem? (i := 31) rfl) rfl
theorem kw4_32 : (Jvm.Cond.selects "FrontChairs$History" ({ cls := "FrontChairs$History", name := "forget", desc := "()V" } : Jvm.MethodName) ({ cls := "FrontChairs$History", name := "forget", desc := "()V" } : Jvm.MethodName)) ∈ tb := inT4 (List.mem_of_getElem? (i := 32) rfl) rfl
theorem kw4_33 : (Jvm.Cond.code ({ cls := "FrontChairs$History", name := "forget", desc := "()V" } : Jvm.MethodName) prog_3_method_4_code (1 : Nat) (Option.none : Option Jvm.ClassFile.FieldType)) ∈ tb := inT4 (List.mem_of_getElem? (i := 33) rfl) rfl
theorem kw4_34 : (Jvm.Cond.methodLink "FrontChairsLaw" (153 : Nat) ({ cls := "FrontChairsLaw", name := "chair", desc := "(LFrontChairs;II[J)I" } : Jvm.MethodName)) ∈ tb := inT4 (List.mem_of_getElem? (i := 34) rfl) rfl
theorem kw4_35 : (Jvm.Cond.static ({ cls := "FrontChairsLaw", name := "chair", desc := "(LFrontChairs;II[J)I" } : Jvm.MethodName)) ∈ tb := inT4 (List.mem_of_getElem? (i := 35) rfl) rfl
theorem kw4_36 : (Jvm.Cond.codeWith ({ cls := "FrontChairsLaw", name := "chair", desc := "(LFrontChairs;II[J)I" } : Jvm.MethodName) method_4_code (5 : Nat) (Option.some Jvm.ClassFile.FieldType.int) [((0 : Nat), (10 : Nat), (13 : Nat), (19 : Nat))]) ∈ tb := inT4 (List.mem_of_getElem? (i := 36) rfl) rfl
theorem kw4_37 : (Jvm.Cond.classLink "FrontChairsLaw" (19 : Nat) "java/util/NoSuchElementException") ∈ tb := inT4 (List.mem_of_getElem? (i := 37) rfl) rfl
theorem kw4_38 : (Jvm.Cond.methodLink "FrontChairsLaw" (15 : Nat) ({ cls := "FrontChairs", name := "chair", desc := "(II)I" } : Jvm.MethodName)) ∈ tb := inT4 (List.mem_of_getElem? (i := 38) rfl) rfl
theorem kw4_39 : (Jvm.Cond.instanceMethod ({ cls := "FrontChairs", name := "chair", desc := "(II)I" } : Jvm.MethodName)) ∈ tb := inT4 (List.mem_of_getElem? (i := 39) rfl) rfl
theorem kw4_40 : (Jvm.Cond.selects "FrontChairs" ({ cls := "FrontChairs", name := "chair", desc := "(II)I" } : Jvm.MethodName) ({ cls := "FrontChairs", name := "chair", desc := "(II)I" } : Jvm.MethodName)) ∈ tb := inT4 (List.mem_of_getElem? (i := 40) rfl) rfl
theorem kw4_41 : (Jvm.Cond.code ({ cls := "FrontChairs", name := "chair", desc := "(II)I" } : Jvm.MethodName) prog_1_method_5_code (3 : Nat) (Option.some Jvm.ClassFile.FieldType.int)) ∈ tb := inT4 (List.mem_of_getElem? (i := 41) rfl) rfl
theorem kw4_42 : (Jvm.Cond.methodLink "FrontChairs" (127 : Nat) ({ cls := "FrontChairs", name := "needChair", desc := "(II)V" } : Jvm.MethodName)) ∈ tb := inT4 (List.mem_of_getElem? (i := 42) rfl) rfl
theorem kw4_44 : (Jvm.Cond.instanceMethod ({ cls := "FrontChairs", name := "needChair", desc := "(II)V" } : Jvm.MethodName)) ∈ tb := inT4 (List.mem_of_getElem? (i := 44) rfl) rfl
theorem kw4_45 : (Jvm.Cond.code ({ cls := "FrontChairs", name := "needChair", desc := "(II)V" } : Jvm.MethodName) prog_1_method_47_code (3 : Nat) (Option.none : Option Jvm.ClassFile.FieldType)) ∈ tb := inT4 (List.mem_of_getElem? (i := 45) rfl) rfl
theorem kw4_46 : (Jvm.Cond.methodLink "FrontChairs" (375 : Nat) ({ cls := "FrontChairs$Beach", name := "isChair", desc := "(II)Z" } : Jvm.MethodName)) ∈ tb := inT4 (List.mem_of_getElem? (i := 46) rfl) rfl
theorem kw4_47 : (Jvm.Cond.classLink "FrontChairs" (370 : Nat) "java/util/NoSuchElementException") ∈ tb := inT4 (List.mem_of_getElem? (i := 47) rfl) rfl
theorem kw4_48 : (Jvm.Cond.instantiable "java/util/NoSuchElementException" (6 : Nat)) ∈ tb := inT4 (List.mem_of_getElem? (i := 48) rfl) rfl
theorem kw4_50 : (Jvm.Cond.selects "java/util/NoSuchElementException" ({ cls := "java/lang/Throwable", name := "fillInStackTrace", desc := "(I)Ljava/lang/Throwable;" } : Jvm.MethodName) ({ cls := "java/lang/Throwable", name := "fillInStackTrace", desc := "(I)Ljava/lang/Throwable;" } : Jvm.MethodName)) ∈ tb := inT4 (List.mem_of_getElem? (i := 50) rfl) rfl
theorem kw4_51 : (Jvm.Cond.lays "java/util/NoSuchElementException" "java/lang/Throwable" "cause" "Ljava/lang/Throwable;") ∈ tb := inT4 (List.mem_of_getElem? (i := 51) rfl) rfl
theorem kw4_52 : (Jvm.Cond.lays "java/util/NoSuchElementException" "java/lang/Throwable" "stackTrace" "[Ljava/lang/StackTraceElement;") ∈ tb := inT4 (List.mem_of_getElem? (i := 52) rfl) rfl
theorem kw4_53 : (Jvm.Cond.lays "java/util/NoSuchElementException" "java/lang/Throwable" "suppressedExceptions" "Ljava/util/List;") ∈ tb := inT4 (List.mem_of_getElem? (i := 53) rfl) rfl
theorem kw4_54 : (Jvm.Cond.lays "java/util/NoSuchElementException" "java/lang/Throwable" "detailMessage" "Ljava/lang/String;") ∈ tb := inT4 (List.mem_of_getElem? (i := 54) rfl) rfl
theorem kw4_55 : (Jvm.Cond.lays "java/util/NoSuchElementException" "java/lang/Throwable" "backtrace" "Ljava/lang/Object;") ∈ tb := inT4 (List.mem_of_getElem? (i := 55) rfl) rfl
theorem kw4_57 : (Jvm.Cond.methodLink "FrontChairs" (374 : Nat) ({ cls := "java/util/NoSuchElementException", name := "<init>", desc := "(Ljava/lang/String;)V" } : Jvm.MethodName)) ∈ tb := inT4 (List.mem_of_getElem? (i := 57) rfl) rfl
theorem kw4_58 : (Jvm.Cond.instanceMethod ({ cls := "java/util/NoSuchElementException", name := "<init>", desc := "(Ljava/lang/String;)V" } : Jvm.MethodName)) ∈ tb := inT4 (List.mem_of_getElem? (i := 58) rfl) rfl
theorem kw4_59 : (Jvm.Cond.code ({ cls := "java/util/NoSuchElementException", name := "<init>", desc := "(Ljava/lang/String;)V" } : Jvm.MethodName) prog_31_method_4_code (2 : Nat) (Option.none : Option Jvm.ClassFile.FieldType)) ∈ tb := inT4 (List.mem_of_getElem? (i := 59) rfl) rfl
theorem kw4_60 : (Jvm.Cond.methodLink "java/util/NoSuchElementException" (13 : Nat) ({ cls := "java/lang/RuntimeException", name := "<init>", desc := "(Ljava/lang/String;)V" } : Jvm.MethodName)) ∈ tb := inT4 (List.mem_of_getElem? (i := 60) rfl) rfl
theorem kw4_61 : (Jvm.Cond.lays "java/util/NoSuchElementException" "java/lang/Throwable" "depth" "I") ∈ tb := inT4 (List.mem_of_getElem? (i := 61) rfl) rfl
theorem kw4_63 : (Jvm.Cond.methodLink "FrontChairs" (131 : Nat) ({ cls := "FrontChairs$Seats", name := "whoOn", desc := "(II)I" } : Jvm.MethodName)) ∈ tb := inT4 (List.mem_of_getElem? (i := 63) rfl) rfl
theorem kw4_64 : (Jvm.Cond.methodLink "FrontChairsLaw" (157 : Nat) ({ cls := "FrontChairsLaw", name := "person", desc := "(LFrontChairs;II[J)I" } : Jvm.MethodName)) ∈ tb := inT4 (List.mem_of_getElem? (i := 64) rfl) rfl
theorem kw4_65 : (Jvm.Cond.static ({ cls := "FrontChairsLaw", name := "person", desc := "(LFrontChairs;II[J)I" } : Jvm.MethodName)) ∈ tb := inT4 (List.mem_of_getElem? (i := 65) rfl) rfl
theorem kw4_66 : (Jvm.Cond.codeWith ({ cls := "FrontChairsLaw", name := "person", desc := "(LFrontChairs;II[J)I" } : Jvm.MethodName) method_5_code (5 : Nat) (Option.some Jvm.ClassFile.FieldType.int) [((0 : Nat), (10 : Nat), (13 : Nat), (19 : Nat)), ((0 : Nat), (10 : Nat), (17 : Nat), (13 : Nat))]) ∈ tb := inT4 (List.mem_of_getElem? (i := 66) rfl) rfl
theorem kw4_67 : (Jvm.Cond.methodLink "FrontChairsLaw" (21 : Nat) ({ cls := "FrontChairs", name := "person", desc := "(II)I" } : Jvm.MethodName)) ∈ tb := inT4 (List.mem_of_getElem? (i := 67) rfl) rfl
theorem kw4_68 : (Jvm.Cond.instanceMethod ({ cls := "FrontChairs", name := "person", desc := "(II)I" } : Jvm.MethodName)) ∈ tb := inT4 (List.mem_of_getElem? (i := 68) rfl) rfl
theorem kw4_69 : (Jvm.Cond.selects "FrontChairs" ({ cls := "FrontChairs", name := "person", desc := "(II)I" } : Jvm.MethodName) ({ cls := "FrontChairs", name := "person", desc := "(II)I" } : Jvm.MethodName)) ∈ tb := inT4 (List.mem_of_getElem? (i := 69) rfl) rfl
theorem kw4_70 : (Jvm.Cond.code ({ cls := "FrontChairs", name := "person", desc := "(II)I" } : Jvm.MethodName) prog_1_method_6_code (4 : Nat) (Option.some Jvm.ClassFile.FieldType.int)) ∈ tb := inT4 (List.mem_of_getElem? (i := 70) rfl) rfl
theorem kw4_71 : (Jvm.Cond.methodLink "FrontChairs" (135 : Nat) ({ cls := "FrontChairs", name := "needPerson", desc := "(I)V" } : Jvm.MethodName)) ∈ tb := inT4 (List.mem_of_getElem? (i := 71) rfl) rfl
theorem kw4_73 : (Jvm.Cond.instanceMethod ({ cls := "FrontChairs", name := "needPerson", desc := "(I)V" } : Jvm.MethodName)) ∈ tb := inT4 (List.mem_of_getElem? (i := 73) rfl) rfl
theorem kw4_74 : (Jvm.Cond.code ({ cls := "FrontChairs", name := "needPerson", desc := "(I)V" } : Jvm.MethodName) prog_1_method_46_code (2 : Nat) (Option.none : Option Jvm.ClassFile.FieldType)) ∈ tb := inT4 (List.mem_of_getElem? (i := 74) rfl) rfl
theorem kw4_75 : (Jvm.Cond.methodLink "FrontChairs" (366 : Nat) ({ cls := "FrontChairs$Beach", name := "isPerson", desc := "(I)Z" } : Jvm.MethodName)) ∈ tb := inT4 (List.mem_of_getElem? (i := 75) rfl) rfl
theorem kw4_77 : (Jvm.Cond.methodLink "FrontChairsLaw" (160 : Nat) ({ cls := "FrontChairsLaw", name := "tide", desc := "(LFrontChairs;I[J)I" } : Jvm.MethodName)) ∈ tb := inT4 (List.mem_of_getElem? (i := 77) rfl) rfl
theorem kw4_78 : (Jvm.Cond.static ({ cls := "FrontChairsLaw", name := "tide", desc := "(LFrontChairs;I[J)I" } : Jvm.MethodName)) ∈ tb := inT4 (List.mem_of_getElem? (i := 78) rfl) rfl
theorem kw4_79 : (Jvm.Cond.codeWith ({ cls := "FrontChairsLaw", name := "tide", desc := "(LFrontChairs;I[J)I" } : Jvm.MethodName) method_6_code (4 : Nat) (Option.some Jvm.ClassFile.FieldType.int) [((0 : Nat), (9 : Nat), (12 : Nat), (13 : Nat))]) ∈ tb := inT4 (List.mem_of_getElem? (i := 79) rfl) rfl
theorem kw4_80 : (Jvm.Cond.methodLink "FrontChairsLaw" (24 : Nat) ({ cls := "FrontChairs", name := "tide", desc := "(I)I" } : Jvm.MethodName)) ∈ tb := inT4 (List.mem_of_getElem? (i := 80) rfl) rfl
theorem kw4_81 : (Jvm.Cond.instanceMethod ({ cls := "FrontChairs", name := "tide", desc := "(I)I" } : Jvm.MethodName)) ∈ tb := inT4 (List.mem_of_getElem? (i := 81) rfl) rfl
theorem kw4_82 : (Jvm.Cond.selects "FrontChairs" ({ cls := "FrontChairs", name := "tide", desc := "(I)I" } : Jvm.MethodName) ({ cls := "FrontChairs", name := "tide", desc := "(I)I" } : Jvm.MethodName)) ∈ tb := inT4 (List.mem_of_getElem? (i := 82) rfl) rfl
theorem kw4_83 : (Jvm.Cond.code ({ cls := "FrontChairs", name := "tide", desc := "(I)I" } : Jvm.MethodName) prog_1_method_7_code (2 : Nat) (Option.some Jvm.ClassFile.FieldType.int)) ∈ tb := inT4 (List.mem_of_getElem? (i := 83) rfl) rfl
theorem kw4_84 : (Jvm.Cond.methodLink "FrontChairs" (165 : Nat) ({ cls := "FrontChairs$Beach", name := "tideIn", desc := "(I)I" } : Jvm.MethodName)) ∈ tb := inT4 (List.mem_of_getElem? (i := 84) rfl) rfl
theorem kw4_85 : (Jvm.Cond.instanceMethod ({ cls := "FrontChairs$Beach", name := "tideIn", desc := "(I)I" } : Jvm.MethodName)) ∈ tb := inT4 (List.mem_of_getElem? (i := 85) rfl) rfl
theorem kw4_86 : (Jvm.Cond.selects "FrontChairs$Beach" ({ cls := "FrontChairs$Beach", name := "tideIn", desc := "(I)I" } : Jvm.MethodName) ({ cls := "FrontChairs$Beach", name := "tideIn", desc := "(I)I" } : Jvm.MethodName)) ∈ tb := inT4 (List.mem_of_getElem? (i := 86) rfl) rfl
theorem kw4_87 : (Jvm.Cond.code ({ cls := "FrontChairs$Beach", name := "tideIn", desc := "(I)I" } : Jvm.MethodName) prog_2_method_8_code (2 : Nat) (Option.some Jvm.ClassFile.FieldType.int)) ∈ tb := inT4 (List.mem_of_getElem? (i := 87) rfl) rfl
theorem kw4_88 : (Jvm.Cond.methodLink "FrontChairs$Beach" (63 : Nat) ({ cls := "java/lang/Math", name := "min", desc := "(II)I" } : Jvm.MethodName)) ∈ tb := inT4 (List.mem_of_getElem? (i := 88) rfl) rfl
theorem kw4_89 : (Jvm.Cond.methodLink "FrontChairs$Beach" (69 : Nat) ({ cls := "java/lang/Math", name := "max", desc := "(II)I" } : Jvm.MethodName)) ∈ tb := inT4 (List.mem_of_getElem? (i := 89) rfl) rfl
theorem kw4_90 : (Jvm.Cond.methodLink "FrontChairsLaw" (163 : Nat) ({ cls := "FrontChairsLaw", name := "moves", desc := "(LFrontChairs;III[J)I" } : Jvm.MethodName)) ∈ tb := inT4 (List.mem_of_getElem? (i := 90) rfl) rfl
theorem kw4_91 : (Jvm.Cond.static ({ cls := "FrontChairsLaw", name := "moves", desc := "(LFrontChairs;III[J)I" } : Jvm.MethodName)) ∈ tb := inT4 (List.mem_of_getElem? (i := 91) rfl) rfl
theorem kw4_92 : (Jvm.Cond.codeWith ({ cls := "FrontChairsLaw", name := "moves", desc := "(LFrontChairs;III[J)I" } : Jvm.MethodName) method_7_code (6 : Nat) (Option.some Jvm.ClassFile.FieldType.int) [((0 : Nat), (19 : Nat), (22 : Nat), (19 : Nat))]) ∈ tb := inT4 (List.mem_of_getElem? (i := 92) rfl) rfl
theorem kw4_93 : (Jvm.Cond.methodLink "FrontChairsLaw" (27 : Nat) ({ cls := "FrontChairs", name := "moves", desc := "(III)Z" } : Jvm.MethodName)) ∈ tb := inT4 (List.mem_of_getElem? (i := 93) rfl) rfl
theorem kw4_94 : (Jvm.Cond.instanceMethod ({ cls := "FrontChairs", name := "moves", desc := "(III)Z" } : Jvm.MethodName)) ∈ tb := inT4 (List.mem_of_getElem? (i := 94) rfl) rfl
theorem kw4_95 : (Jvm.Cond.selects "FrontChairs" ({ cls := "FrontChairs", name := "moves", desc := "(III)Z" } : Jvm.MethodName) ({ cls := "FrontChairs", name := "moves", desc := "(III)Z" } : Jvm.MethodName)) ∈ tb := inT4 (List.mem_of_getElem? (i := 95) rfl) rfl
theorem kw4_96 : (Jvm.Cond.code ({ cls := "FrontChairs", name := "moves", desc := "(III)Z" } : Jvm.MethodName) prog_1_method_8_code (4 : Nat) (Option.some Jvm.ClassFile.FieldType.boolean)) ∈ tb := inT4 (List.mem_of_getElem? (i := 96) rfl) rfl
theorem kw4_97 : (Jvm.Cond.methodLink "FrontChairs" (169 : Nat) ({ cls := "FrontChairs$Beach", name := "lawful", desc := "(IIII)Z" } : Jvm.MethodName)) ∈ tb := inT4 (List.mem_of_getElem? (i := 97) rfl) rfl
theorem kw4_98 : (Jvm.Cond.methodLink "FrontChairsLaw" (167 : Nat) ({ cls := "FrontChairsLaw", name := "wets", desc := "(LFrontChairs;III[J)I" } : Jvm.MethodName)) ∈ tb := inT4 (List.mem_of_getElem? (i := 98) rfl) rfl
theorem kw4_99 : (Jvm.Cond.static ({ cls := "FrontChairsLaw", name := "wets", desc := "(LFrontChairs;III[J)I" } : Jvm.MethodName)) ∈ tb := inT4 (List.mem_of_getElem? (i := 99) rfl) rfl
theorem kw4_100 : (Jvm.Cond.codeWith ({ cls := "FrontChairsLaw", name := "wets", desc := "(LFrontChairs;III[J)I" } : Jvm.MethodName) method_8_code (6 : Nat) (Option.some Jvm.ClassFile.FieldType.int) [((0 : Nat), (12 : Nat), (15 : Nat), (19 : Nat)), ((0 : Nat), (12 : Nat), (19 : Nat), (13 : Nat))]) ∈ tb := inT4 (List.mem_of_getElem? (i := 100) rfl) rfl
theorem kw4_101 : (Jvm.Cond.methodLink "FrontChairsLaw" (31 : Nat) ({ cls := "FrontChairs", name := "wets", desc := "(III)I" } : Jvm.MethodName)) ∈ tb := inT4 (List.mem_of_getElem? (i := 101) rfl) rfl
theorem kw4_102 : (Jvm.Cond.instanceMethod ({ cls := "FrontChairs", name := "wets", desc := "(III)I" } : Jvm.MethodName)) ∈ tb := inT4 (List.mem_of_getElem? (i := 102) rfl) rfl
theorem kw4_103 : (Jvm.Cond.selects "FrontChairs" ({ cls := "FrontChairs", name := "wets", desc := "(III)I" } : Jvm.MethodName) ({ cls := "FrontChairs", name := "wets", desc := "(III)I" } : Jvm.MethodName)) ∈ tb := inT4 (List.mem_of_getElem? (i := 103) rfl) rfl
theorem kw4_104 : (Jvm.Cond.code ({ cls := "FrontChairs", name := "wets", desc := "(III)I" } : Jvm.MethodName) prog_1_method_9_code (4 : Nat) (Option.some Jvm.ClassFile.FieldType.int)) ∈ tb := inT4 (List.mem_of_getElem? (i := 104) rfl) rfl
theorem kw4_105 : (Jvm.Cond.methodLink "FrontChairs" (173 : Nat) ({ cls := "FrontChairs$Beach", name := "waveOn", desc := "(III)I" } : Jvm.MethodName)) ∈ tb := inT4 (List.mem_of_getElem? (i := 105) rfl) rfl
theorem kw4_106 : (Jvm.Cond.instanceMethod ({ cls := "FrontChairs$Beach", name := "waveOn", desc := "(III)I" } : Jvm.MethodName)) ∈ tb := inT4 (List.mem_of_getElem? (i := 106) rfl) rfl
theorem kw4_107 : (Jvm.Cond.selects "FrontChairs$Beach" ({ cls := "FrontChairs$Beach", name := "waveOn", desc := "(III)I" } : Jvm.MethodName) ({ cls := "FrontChairs$Beach", name := "waveOn", desc := "(III)I" } : Jvm.MethodName)) ∈ tb := inT4 (List.mem_of_getElem? (i := 107) rfl) rfl
theorem kw4_108 : (Jvm.Cond.code ({ cls := "FrontChairs$Beach", name := "waveOn", desc := "(III)I" } : Jvm.MethodName) prog_2_method_9_code (4 : Nat) (Option.some Jvm.ClassFile.FieldType.int)) ∈ tb := inT4 (List.mem_of_getElem? (i := 108) rfl) rfl
theorem kw4_109 : (Jvm.Cond.methodLink "FrontChairsLaw" (182 : Nat) ({ cls := "FrontChairsLaw", name := "minutes", desc := "(LFrontChairs;I[J)I" } : Jvm.MethodName)) ∈ tb := inT4 (List.mem_of_getElem? (i := 109) rfl) rfl
theorem kw4_110 : (Jvm.Cond.static ({ cls := "FrontChairsLaw", name := "minutes", desc := "(LFrontChairs;I[J)I" } : Jvm.MethodName)) ∈ tb := inT4 (List.mem_of_getElem? (i := 110) rfl) rfl
theorem kw4_111 : (Jvm.Cond.codeWith ({ cls := "FrontChairsLaw", name := "minutes", desc := "(LFrontChairs;I[J)I" } : Jvm.MethodName) method_9_code (4 : Nat) (Option.some Jvm.ClassFile.FieldType.int) [((0 : Nat), (9 : Nat), (12 : Nat), (13 : Nat))]) ∈ tb := inT4 (List.mem_of_getElem? (i := 111) rfl) rfl
theorem kw4_112 : (Jvm.Cond.methodLink "FrontChairsLaw" (35 : Nat) ({ cls := "FrontChairs", name := "minutes", desc := "(I)I" } : Jvm.MethodName)) ∈ tb := inT4 (List.mem_of_getElem? (i := 112) rfl) rfl
theorem kw4_113 : (Jvm.Cond.instanceMethod ({ cls := "FrontChairs", name := "minutes", desc := "(I)I" } : Jvm.MethodName)) ∈ tb := inT4 (List.mem_of_getElem? (i := 113) rfl) rfl
theorem kw4_114 : (Jvm.Cond.selects "FrontChairs" ({ cls := "FrontChairs", name := "minutes", desc := "(I)I" } : Jvm.MethodName) ({ cls := "FrontChairs", name := "minutes", desc := "(I)I" } : Jvm.MethodName)) ∈ tb := inT4 (List.mem_of_getElem? (i := 114) rfl) rfl
theorem kw4_115 : (Jvm.Cond.code ({ cls := "FrontChairs", name := "minutes", desc := "(I)I" } : Jvm.MethodName) prog_1_method_13_code (4 : Nat) (Option.some Jvm.ClassFile.FieldType.int)) ∈ tb := inT4 (List.mem_of_getElem? (i := 115) rfl) rfl
theorem kw4_116 : (Jvm.Cond.methodLink "FrontChairs" (203 : Nat) ({ cls := "FrontChairs$Seats", name := "level", desc := "()I" } : Jvm.MethodName)) ∈ tb := inT4 (List.mem_of_getElem? (i := 116) rfl) rfl
theorem kw4_117 : (Jvm.Cond.instanceMethod ({ cls := "FrontChairs$Seats", name := "level", desc := "()I" } : Jvm.MethodName)) ∈ tb := inT4 (List.mem_of_getElem? (i := 117) rfl) rfl
theorem kw4_118 : (Jvm.Cond.selects "FrontChairs$Seats" ({ cls := "FrontChairs$Seats", name := "level", desc := "()I" } : Jvm.MethodName) ({ cls := "FrontChairs$Seats", name := "level", desc := "()I" } : Jvm.MethodName)) ∈ tb := inT4 (List.mem_of_getElem? (i := 118) rfl) rfl
theorem kw4_119 : (Jvm.Cond.code ({ cls := "FrontChairs$Seats", name := "level", desc := "()I" } : Jvm.MethodName) prog_7_method_15_code (1 : Nat) (Option.some Jvm.ClassFile.FieldType.int)) ∈ tb := inT4 (List.mem_of_getElem? (i := 119) rfl) rfl
theorem kw4_120 : (Jvm.Cond.methodLink "FrontChairs$Seats" (114 : Nat) ({ cls := "FrontChairs$Beach", name := "tideIn", desc := "(I)I" } : Jvm.MethodName)) ∈ tb := inT4 (List.mem_of_getElem? (i := 120) rfl) rfl
theorem kw4_121 : (Jvm.Cond.methodLink "FrontChairs" (207 : Nat) ({ cls := "FrontChairs$Seats", name := "pass", desc := "(I)V" } : Jvm.MethodName)) ∈ tb := inT4 (List.mem_of_getElem? (i := 121) rfl) rfl
theorem kw4_122 : (Jvm.Cond.instanceMethod ({ cls := "FrontChairs$Seats", name := "pass", desc := "(I)V" } : Jvm.MethodName)) ∈ tb := inT4 (List.mem_of_getElem? (i := 122) rfl) rfl
theorem kw4_123 : (Jvm.Cond.selects "FrontChairs$Seats" ({ cls := "FrontChairs$Seats", name := "pass", desc := "(I)V" } : Jvm.MethodName) ({ cls := "FrontChairs$Seats", name := "pass", desc := "(I)V" } : Jvm.MethodName)) ∈ tb := inT4 (List.mem_of_getElem? (i := 123) rfl) rfl
theorem kw4_124 : (Jvm.Cond.code ({ cls := "FrontChairs$Seats", name := "pass", desc := "(I)V" } : Jvm.MethodName) prog_7_method_16_code (4 : Nat) (Option.none : Option Jvm.ClassFile.FieldType)) ∈ tb := inT4 (List.mem_of_getElem? (i := 124) rfl) rfl
theorem kw4_125 : (Jvm.Cond.methodLink "FrontChairs$Seats" (96 : Nat) ({ cls := "FrontChairs$Seats", name := "take", desc := "(II)I" } : Jvm.MethodName)) ∈ tb := inT4 (List.mem_of_getElem? (i := 125) rfl) rfl
theorem kw4_126 : (Jvm.Cond.methodLink "FrontChairs$Seats" (93 : Nat) ({ cls := "FrontChairs$Seats", name := "leave", desc := "(I)I" } : Jvm.MethodName)) ∈ tb := inT4 (List.mem_of_getElem? (i := 126) rfl) rfl
theorem kw4_127 : (Jvm.Cond.methodLink "FrontChairsLaw" (185 : Nat) ({ cls := "FrontChairsLaw", name := "undo", desc := "(LFrontChairs;I[J)I" } : Jvm.MethodName)) ∈ tb := inT4 (List.mem_of_getElem? (i := 127) rfl) rfl
theorem kw4_128 : (Jvm.Cond.static ({ cls := "FrontChairsLaw", name := "undo", desc := "(LFrontChairs;I[J)I" } : Jvm.MethodName)) ∈ tb := inT4 (List.mem_of_getElem? (i := 128) rfl) rfl
theorem kw4_129 : (Jvm.Cond.codeWith ({ cls := "FrontChairsLaw", name := "undo", desc := "(LFrontChairs;I[J)I" } : Jvm.MethodName) method_10_code (4 : Nat) (Option.some Jvm.ClassFile.FieldType.int) [((0 : Nat), (9 : Nat), (12 : Nat), (13 : Nat))]) ∈ tb := inT4 (List.mem_of_getElem? (i := 129) rfl) rfl
theorem kw4_130 : (Jvm.Cond.methodLink "FrontChairsLaw" (38 : Nat) ({ cls := "FrontChairs", name := "undo", desc := "(I)I" } : Jvm.MethodName)) ∈ tb := inT4 (List.mem_of_getElem? (i := 130) rfl) rfl
theorem kw4_131 : (Jvm.Cond.instanceMethod ({ cls := "FrontChairs", name := "undo", desc := "(I)I" } : Jvm.MethodName)) ∈ tb := inT4 (List.mem_of_getElem? (i := 131) rfl) rfl
theorem kw4_132 : (Jvm.Cond.selects "FrontChairs" ({ cls := "FrontChairs", name := "undo", desc := "(I)I" } : Jvm.MethodName) ({ cls := "FrontChairs", name := "undo", desc := "(I)I" } : Jvm.MethodName)) ∈ tb := inT4 (List.mem_of_getElem? (i := 132) rfl) rfl
theorem kw4_133 : (Jvm.Cond.code ({ cls := "FrontChairs", name := "undo", desc := "(I)I" } : Jvm.MethodName) prog_1_method_14_code (2 : Nat) (Option.some Jvm.ClassFile.FieldType.int)) ∈ tb := inT4 (List.mem_of_getElem? (i := 133) rfl) rfl
theorem kw4_134 : (Jvm.Cond.methodLink "FrontChairs" (213 : Nat) ({ cls := "FrontChairs$History", name := "goBack", desc := "(ILFrontChairs$Seats;)V" } : Jvm.MethodName)) ∈ tb := inT4 (List.mem_of_getElem? (i := 134) rfl) rfl
theorem kw4_135 : (Jvm.Cond.instanceMethod ({ cls := "FrontChairs$History", name := "goBack", desc := "(ILFrontChairs$Seats;)V" } : Jvm.MethodName)) ∈ tb := inT4 (List.mem_of_getElem? (i := 135) rfl) rfl
theorem kw4_136 : (Jvm.Cond.selects "FrontChairs$History" ({ cls := "FrontChairs$History", name := "goBack", desc := "(ILFrontChairs$Seats;)V" } : Jvm.MethodName) ({ cls := "FrontChairs$History", name := "goBack", desc := "(ILFrontChairs$Seats;)V" } : Jvm.MethodName)) ∈ tb := inT4 (List.mem_of_getElem? (i := 136) rfl) rfl
theorem kw4_137 : (Jvm.Cond.code ({ cls := "FrontChairs$History", name := "goBack", desc := "(ILFrontChairs$Seats;)V" } : Jvm.MethodName) prog_3_method_3_code (3 : Nat) (Option.none : Option Jvm.ClassFile.FieldType)) ∈ tb := inT4 (List.mem_of_getElem? (i := 137) rfl) rfl
theorem kw4_138 : (Jvm.Cond.methodLink "FrontChairsLaw" (188 : Nat) ({ cls := "FrontChairsLaw", name := "judge", desc := "(LFrontChairs;II[J)I" } : Jvm.MethodName)) ∈ tb := inT4 (List.mem_of_getElem? (i := 138) rfl) rfl
theorem kw4_139 : (Jvm.Cond.static ({ cls := "FrontChairsLaw", name := "judge", desc := "(LFrontChairs;II[J)I" } : Jvm.MethodName)) ∈ tb := inT4 (List.mem_of_getElem? (i := 139) rfl) rfl
theorem kw4_140 : (Jvm.Cond.codeWith ({ cls := "FrontChairsLaw", name := "judge", desc := "(LFrontChairs;II[J)I" } : Jvm.MethodName) method_11_code (5 : Nat) (Option.some Jvm.ClassFile.FieldType.int) [((0 : Nat), (10 : Nat), (13 : Nat), (19 : Nat)), ((0 : Nat), (10 : Nat), (17 : Nat), (44 : Nat)), ((0 : Nat), (10 : Nat), (21 : Nat), (13 : Nat))]) ∈ tb := inT4 (List.mem_of_getElem? (i := 140) rfl) rfl
theorem kw4_141 : (Jvm.Cond.classLink "FrontChairsLaw" (44 : Nat) "java/lang/IllegalStateException") ∈ tb := inT4 (List.mem_of_getElem? (i := 141) rfl) rfl
theorem kw4_142 : (Jvm.Cond.methodLink "FrontChairsLaw" (41 : Nat) ({ cls := "FrontChairs", name := "judge", desc := "(II)I" } : Jvm.MethodName)) ∈ tb := inT4 (List.mem_of_getElem? (i := 142) rfl) rfl
theorem kw4_143 : (Jvm.Cond.instanceMethod ({ cls := "FrontChairs", name := "judge", desc := "(II)I" } : Jvm.MethodName)) ∈ tb := inT4 (List.mem_of_getElem? (i := 143) rfl) rfl
theorem kw4_144 : (Jvm.Cond.selects "FrontChairs" ({ cls := "FrontChairs", name := "judge", desc := "(II)I" } : Jvm.MethodName) ({ cls := "FrontChairs", name := "judge", desc := "(II)I" } : Jvm.MethodName)) ∈ tb := inT4 (List.mem_of_getElem? (i := 144) rfl) rfl
theorem kw4_145 : (Jvm.Cond.code ({ cls := "FrontChairs", name := "judge", desc := "(II)I" } : Jvm.MethodName) prog_1_method_15_code (9 : Nat) (Option.some Jvm.ClassFile.FieldType.int)) ∈ tb := inT4 (List.mem_of_getElem? (i := 145) rfl) rfl
theorem kw4_146 : (Jvm.Cond.methodLink "FrontChairs" (217 : Nat) ({ cls := "FrontChairs", name := "needTray", desc := "(I)V" } : Jvm.MethodName)) ∈ tb := inT4 (List.mem_of_getElem? (i := 146) rfl) rfl
theorem kw4_148 : (Jvm.Cond.instanceMethod ({ cls := "FrontChairs", name := "needTray", desc := "(I)V" } : Jvm.MethodName)) ∈ tb := inT4 (List.mem_of_getElem? (i := 148) rfl) rfl
theorem kw4_149 : (Jvm.Cond.code ({ cls := "FrontChairs", name := "needTray", desc := "(I)V" } : Jvm.MethodName) prog_1_method_50_code (2 : Nat) (Option.none : Option Jvm.ClassFile.FieldType)) ∈ tb := inT4 (List.mem_of_getElem? (i := 149) rfl) rfl
theorem kw4_151 : (Jvm.Cond.methodLink "FrontChairs" (220 : Nat) ({ cls := "FrontChairs", name := "needLaid", desc := "(I)V" } : Jvm.MethodName)) ∈ tb := inT4 (List.mem_of_getElem? (i := 151) rfl) rfl
theorem kw4_153 : (Jvm.Cond.instanceMethod ({ cls := "FrontChairs", name := "needLaid", desc := "(I)V" } : Jvm.MethodName)) ∈ tb := inT4 (List.mem_of_getElem? (i := 153) rfl) rfl
theorem kw4_154 : (Jvm.Cond.code ({ cls := "FrontChairs", name := "needLaid", desc := "(I)V" } : Jvm.MethodName) prog_1_method_51_code (2 : Nat) (Option.none : Option Jvm.ClassFile.FieldType)) ∈ tb := inT4 (List.mem_of_getElem? (i := 154) rfl) rfl
theorem kw4_155 : (Jvm.Cond.methodLink "FrontChairs" (389 : Nat) ({ cls := "FrontChairs$Tray", name := "isMissing", desc := "()Z" } : Jvm.MethodName)) ∈ tb := inT4 (List.mem_of_getElem? (i := 155) rfl) rfl
theorem kw4_156 : (Jvm.Cond.instanceMethod ({ cls := "FrontChairs$Tray", name := "isMissing", desc := "()Z" } : Jvm.MethodName)) ∈ tb := inT4 (List.mem_of_getElem? (i := 156) rfl) rfl
theorem kw4_157 : (Jvm.Cond.selects "FrontChairs$Tray" ({ cls := "FrontChairs$Tray", name := "isMissing", desc := "()Z" } : Jvm.MethodName) ({ cls := "FrontChairs$Tray", name := "isMissing", desc := "()Z" } : Jvm.MethodName)) ∈ tb := inT4 (List.mem_of_getElem? (i := 157) rfl) rfl
theorem kw4_158 : (Jvm.Cond.code ({ cls := "FrontChairs$Tray", name := "isMissing", desc := "()Z" } : Jvm.MethodName) prog_8_method_2_code (1 : Nat) (Option.some Jvm.ClassFile.FieldType.boolean)) ∈ tb := inT4 (List.mem_of_getElem? (i := 158) rfl) rfl
theorem kw4_159 : (Jvm.Cond.classLink "FrontChairs" (291 : Nat) "java/lang/IllegalStateException") ∈ tb := inT4 (List.mem_of_getElem? (i := 159) rfl) rfl
theorem kw4_160 : (Jvm.Cond.instantiable "java/lang/IllegalStateException" (6 : Nat)) ∈ tb := inT4 (List.mem_of_getElem? (i := 160) rfl) rfl
theorem kw4_162 : (Jvm.Cond.selects "java/lang/IllegalStateException" ({ cls := "java/lang/Throwable", name := "fillInStackTrace", desc := "(I)Ljava/lang/Throwable;" } : Jvm.MethodName) ({ cls := "java/lang/Throwable", name := "fillInStackTrace", desc := "(I)Ljava/lang/Throwable;" } : Jvm.MethodName)) ∈ tb := inT4 (List.mem_of_getElem? (i := 162) rfl) rfl
theorem kw4_163 : (Jvm.Cond.lays "java/lang/IllegalStateException" "java/lang/Throwable" "cause" "Ljava/lang/Throwable;") ∈ tb := inT4 (List.mem_of_getElem? (i := 163) rfl) rfl
theorem kw4_164 : (Jvm.Cond.lays "java/lang/IllegalStateException" "java/lang/Throwable" "stackTrace" "[Ljava/lang/StackTraceElement;") ∈ tb := inT4 (List.mem_of_getElem? (i := 164) rfl) rfl
theorem kw4_165 : (Jvm.Cond.lays "java/lang/IllegalStateException" "java/lang/Throwable" "suppressedExceptions" "Ljava/util/List;") ∈ tb := inT4 (List.mem_of_getElem? (i := 165) rfl) rfl
theorem kw4_166 : (Jvm.Cond.lays "java/lang/IllegalStateException" "java/lang/Throwable" "detailMessage" "Ljava/lang/String;") ∈ tb := inT4 (List.mem_of_getElem? (i := 166) rfl) rfl
theorem kw4_167 : (Jvm.Cond.lays "java/lang/IllegalStateException" "java/lang/Throwable" "backtrace" "Ljava/lang/Object;") ∈ tb := inT4 (List.mem_of_getElem? (i := 167) rfl) rfl
theorem kw4_169 : (Jvm.Cond.methodLink "FrontChairs" (295 : Nat) ({ cls := "java/lang/IllegalStateException", name := "<init>", desc := "(Ljava/lang/String;)V" } : Jvm.MethodName)) ∈ tb := inT4 (List.mem_of_getElem? (i := 169) rfl) rfl
theorem kw4_170 : (Jvm.Cond.instanceMethod ({ cls := "java/lang/IllegalStateException", name := "<init>", desc := "(Ljava/lang/String;)V" } : Jvm.MethodName)) ∈ tb := inT4 (List.mem_of_getElem? (i := 170) rfl) rfl
theorem kw4_171 : (Jvm.Cond.code ({ cls := "java/lang/IllegalStateException", name := "<init>", desc := "(Ljava/lang/String;)V" } : Jvm.MethodName) prog_18_method_2_code (2 : Nat) (Option.none : Option Jvm.ClassFile.FieldType)) ∈ tb := inT4 (List.mem_of_getElem? (i := 171) rfl) rfl
theorem kw4_172 : (Jvm.Cond.methodLink "java/lang/IllegalStateException" (7 : Nat) ({ cls := "java/lang/RuntimeException", name := "<init>", desc := "(Ljava/lang/String;)V" } : Jvm.MethodName)) ∈ tb := inT4 (List.mem_of_getElem? (i := 172) rfl) rfl
theorem kw4_173 : (Jvm.Cond.lays "java/lang/IllegalStateException" "java/lang/Throwable" "depth" "I") ∈ tb := inT4 (List.mem_of_getElem? (i := 173) rfl) rfl
theorem kw4_175 : (Jvm.Cond.methodLink "FrontChairs" (234 : Nat) ({ cls := "FrontChairs$Seats", name := "whyNotTold", desc := "(J)I" } : Jvm.MethodName)) ∈ tb := inT4 (List.mem_of_getElem? (i := 175) rfl) rfl
theorem kw4_176 : (Jvm.Cond.instanceMethod ({ cls := "FrontChairs$Seats", name := "whyNotTold", desc := "(J)I" } : Jvm.MethodName)) ∈ tb := inT4 (List.mem_of_getElem? (i := 176) rfl) rfl
theorem kw4_177 : (Jvm.Cond.selects "FrontChairs$Seats" ({ cls := "FrontChairs$Seats", name := "whyNotTold", desc := "(J)I" } : Jvm.MethodName) ({ cls := "FrontChairs$Seats", name := "whyNotTold", desc := "(J)I" } : Jvm.MethodName)) ∈ tb := inT4 (List.mem_of_getElem? (i := 177) rfl) rfl
theorem kw4_178 : (Jvm.Cond.code ({ cls := "FrontChairs$Seats", name := "whyNotTold", desc := "(J)I" } : Jvm.MethodName) prog_7_method_10_code (5 : Nat) (Option.some Jvm.ClassFile.FieldType.int)) ∈ tb := inT4 (List.mem_of_getElem? (i := 178) rfl) rfl
theorem kw4_179 : (Jvm.Cond.constantLong "FrontChairs$Seats" (67 : Nat) (-1 : Int64)) ∈ tb := inT4 (List.mem_of_getElem? (i := 179) rfl) rfl
theorem kw4_180 : (Jvm.Cond.constantLong "FrontChairs$Seats" (69 : Nat) (299 : Int64)) ∈ tb := inT4 (List.mem_of_getElem? (i := 180) rfl) rfl
theorem kw4_181 : (Jvm.Cond.constantLong "FrontChairs$Seats" (71 : Nat) (10 : Int64)) ∈ tb := inT4 (List.mem_of_getElem? (i := 181) rfl) rfl
theorem kw4_182 : (Jvm.Cond.constantLong "FrontChairs$Seats" (73 : Nat) (100 : Int64)) ∈ tb := inT4 (List.mem_of_getElem? (i := 182) rfl) rfl
theorem kw4_183 : (Jvm.Cond.methodLink "FrontChairs$Seats" (75 : Nat) ({ cls := "FrontChairs$Seats", name := "whyNotLeave", desc := "(I)I" } : Jvm.MethodName)) ∈ tb := inT4 (List.mem_of_getElem? (i := 183) rfl) rfl
theorem kw4_184 : (Jvm.Cond.methodLink "FrontChairs$Seats" (78 : Nat) ({ cls := "FrontChairs$Seats", name := "whyNotTake", desc := "(II)I" } : Jvm.MethodName)) ∈ tb := inT4 (List.mem_of_getElem? (i := 184) rfl) rfl
theorem kw4_185 : (Jvm.Cond.methodLink "FrontChairs$Seats" (82 : Nat) ({ cls := "FrontChairs$Seats", name := "whyNotExchange", desc := "(II)I" } : Jvm.MethodName)) ∈ tb := inT4 (List.mem_of_getElem? (i := 185) rfl) rfl
theorem kw4_186 : (Jvm.Cond.methodLink "FrontChairs" (238 : Nat) ({ cls := "FrontChairs$Seats", name := "carryOut", desc := "(J)V" } : Jvm.MethodName)) ∈ tb := inT4 (List.mem_of_getElem? (i := 186) rfl) rfl
theorem kw4_187 : (Jvm.Cond.instanceMethod ({ cls := "FrontChairs$Seats", name := "carryOut", desc := "(J)V" } : Jvm.MethodName)) ∈ tb := inT4 (List.mem_of_getElem? (i := 187) rfl) rfl
theorem kw4_188 : (Jvm.Cond.selects "FrontChairs$Seats" ({ cls := "FrontChairs$Seats", name := "carryOut", desc := "(J)V" } : Jvm.MethodName) ({ cls := "FrontChairs$Seats", name := "carryOut", desc := "(J)V" } : Jvm.MethodName)) ∈ tb := inT4 (List.mem_of_getElem? (i := 188) rfl) rfl
theorem kw4_189 : (Jvm.Cond.code ({ cls := "FrontChairs$Seats", name := "carryOut", desc := "(J)V" } : Jvm.MethodName) prog_7_method_11_code (5 : Nat) (Option.none : Option Jvm.ClassFile.FieldType)) ∈ tb := inT4 (List.mem_of_getElem? (i := 189) rfl) rfl
theorem kw4_190 : (Jvm.Cond.methodLink "FrontChairs$Seats" (85 : Nat) ({ cls := "FrontChairs$Seats", name := "level", desc := "()I" } : Jvm.MethodName)) ∈ tb := inT4 (List.mem_of_getElem? (i := 190) rfl) rfl
theorem kw4_191 : (Jvm.Cond.methodLink "FrontChairs$Seats" (89 : Nat) ({ cls := "FrontChairs$Seats", name := "pass", desc := "(I)V" } : Jvm.MethodName)) ∈ tb := inT4 (List.mem_of_getElem? (i := 191) rfl) rfl
theorem kw4_192 : (Jvm.Cond.methodLink "FrontChairs$Seats" (99 : Nat) ({ cls := "FrontChairs$Seats", name := "exchange", desc := "(II)V" } : Jvm.MethodName)) ∈ tb := inT4 (List.mem_of_getElem? (i := 192) rfl) rfl
theorem kw4_193 : (Jvm.Cond.methodLink "FrontChairs" (242 : Nat) ({ cls := "FrontChairs$Seats", name := "inFront", desc := "()I" } : Jvm.MethodName)) ∈ tb := inT4 (List.mem_of_getElem? (i := 193) rfl) rfl
theorem kw4_194 : (Jvm.Cond.instanceMethod ({ cls := "FrontChairs$Seats", name := "inFront", desc := "()I" } : Jvm.MethodName)) ∈ tb := inT4 (List.mem_of_getElem? (i := 194) rfl) rfl
theorem kw4_195 : (Jvm.Cond.selects "FrontChairs$Seats" ({ cls := "FrontChairs$Seats", name := "inFront", desc := "()I" } : Jvm.MethodName) ({ cls := "FrontChairs$Seats", name := "inFront", desc := "()I" } : Jvm.MethodName)) ∈ tb := inT4 (List.mem_of_getElem? (i := 195) rfl) rfl
theorem kw4_196 : (Jvm.Cond.code ({ cls := "FrontChairs$Seats", name := "inFront", desc := "()I" } : Jvm.MethodName) prog_7_method_20_code (1 : Nat) (Option.some Jvm.ClassFile.FieldType.int)) ∈ tb := inT4 (List.mem_of_getElem? (i := 196) rfl) rfl
theorem kw4_197 : (Jvm.Cond.methodLink "FrontChairsLaw" (191 : Nat) ({ cls := "FrontChairsLaw", name := "perform", desc := "(LFrontChairs;I[J)I" } : Jvm.MethodName)) ∈ tb := inT4 (List.mem_of_getElem? (i := 197) rfl) rfl
theorem kw4_198 : (Jvm.Cond.static ({ cls := "FrontChairsLaw", name := "perform", desc := "(LFrontChairs;I[J)I" } : Jvm.MethodName)) ∈ tb := inT4 (List.mem_of_getElem? (i := 198) rfl) rfl
theorem kw4_199 : (Jvm.Cond.codeWith ({ cls := "FrontChairsLaw", name := "perform", desc := "(LFrontChairs;I[J)I" } : Jvm.MethodName) method_12_code (4 : Nat) (Option.some Jvm.ClassFile.FieldType.int) [((0 : Nat), (9 : Nat), (12 : Nat), (19 : Nat)), ((0 : Nat), (9 : Nat), (15 : Nat), (44 : Nat))]) ∈ tb := inT4 (List.mem_of_getElem? (i := 199) rfl) rfl
theorem kw4_200 : (Jvm.Cond.methodLink "FrontChairsLaw" (46 : Nat) ({ cls := "FrontChairs", name := "perform", desc := "(I)I" } : Jvm.MethodName)) ∈ tb := inT4 (List.mem_of_getElem? (i := 200) rfl) rfl
theorem kw4_201 : (Jvm.Cond.instanceMethod ({ cls := "FrontChairs", name := "perform", desc := "(I)I" } : Jvm.MethodName)) ∈ tb := inT4 (List.mem_of_getElem? (i := 201) rfl) rfl
theorem kw4_202 : (Jvm.Cond.selects "FrontChairs" ({ cls := "FrontChairs", name := "perform", desc := "(I)I" } : Jvm.MethodName) ({ cls := "FrontChairs", name := "perform", desc := "(I)I" } : Jvm.MethodName)) ∈ tb := inT4 (List.mem_of_getElem? (i := 202) rfl) rfl
theorem kw4_203 : (Jvm.Cond.code ({ cls := "FrontChairs", name := "perform", desc := "(I)I" } : Jvm.MethodName) prog_1_method_16_code (4 : Nat) (Option.some Jvm.ClassFile.FieldType.int)) ∈ tb := inT4 (List.mem_of_getElem? (i := 203) rfl) rfl
theorem kw4_204 : (Jvm.Cond.methodLink "FrontChairs" (245 : Nat) ({ cls := "FrontChairs", name := "performed", desc := "(J)Z" } : Jvm.MethodName)) ∈ tb := inT4 (List.mem_of_getElem? (i := 204) rfl) rfl
theorem kw4_206 : (Jvm.Cond.instanceMethod ({ cls := "FrontChairs", name := "performed", desc := "(J)Z" } : Jvm.MethodName)) ∈ tb := inT4 (List.mem_of_getElem? (i := 206) rfl) rfl
theorem kw4_207 : (Jvm.Cond.code ({ cls := "FrontChairs", name := "performed", desc := "(J)Z" } : Jvm.MethodName) prog_1_method_56_code (3 : Nat) (Option.some Jvm.ClassFile.FieldType.boolean)) ∈ tb := inT4 (List.mem_of_getElem? (i := 207) rfl) rfl
theorem kw4_208 : (Jvm.Cond.methodLink "FrontChairsLaw" (194 : Nat) ({ cls := "FrontChairsLaw", name := "afternoon", desc := "(LFrontChairs;II[J)I" } : Jvm.MethodName)) ∈ tb := inT4 (List.mem_of_getElem? (i := 208) rfl) rfl
theorem kw4_209 : (Jvm.Cond.static ({ cls := "FrontChairsLaw", name := "afternoon", desc := "(LFrontChairs;II[J)I" } : Jvm.MethodName)) ∈ tb := inT4 (List.mem_of_getElem? (i := 209) rfl) rfl
theorem kw4_210 : (Jvm.Cond.codeWith ({ cls := "FrontChairsLaw", name := "afternoon", desc := "(LFrontChairs;II[J)I" } : Jvm.MethodName) method_13_code (5 : Nat) (Option.some Jvm.ClassFile.FieldType.int) [((0 : Nat), (10 : Nat), (13 : Nat), (13 : Nat))]) ∈ tb := inT4 (List.mem_of_getElem? (i := 210) rfl) rfl
theorem kw4_211 : (Jvm.Cond.methodLink "FrontChairsLaw" (49 : Nat) ({ cls := "FrontChairs", name := "afternoon", desc := "(II)I" } : Jvm.MethodName)) ∈ tb := inT4 (List.mem_of_getElem? (i := 211) rfl) rfl
theorem kw4_212 : (Jvm.Cond.instanceMethod ({ cls := "FrontChairs", name := "afternoon", desc := "(II)I" } : Jvm.MethodName)) ∈ tb := inT4 (List.mem_of_getElem? (i := 212) rfl) rfl
theorem kw4_213 : (Jvm.Cond.selects "FrontChairs" ({ cls := "FrontChairs", name := "afternoon", desc := "(II)I" } : Jvm.MethodName) ({ cls := "FrontChairs", name := "afternoon", desc := "(II)I" } : Jvm.MethodName)) ∈ tb := inT4 (List.mem_of_getElem? (i := 213) rfl) rfl
theorem kw4_214 : (Jvm.Cond.code ({ cls := "FrontChairs", name := "afternoon", desc := "(II)I" } : Jvm.MethodName) prog_1_method_17_code (5 : Nat) (Option.some Jvm.ClassFile.FieldType.int)) ∈ tb := inT4 (List.mem_of_getElem? (i := 214) rfl) rfl
theorem kw4_215 : (Jvm.Cond.methodLink "FrontChairs" (249 : Nat) ({ cls := "FrontChairs", name := "drawnDeed", desc := "()I" } : Jvm.MethodName)) ∈ tb := inT4 (List.mem_of_getElem? (i := 215) rfl) rfl
theorem kw4_217 : (Jvm.Cond.instanceMethod ({ cls := "FrontChairs", name := "drawnDeed", desc := "()I" } : Jvm.MethodName)) ∈ tb := inT4 (List.mem_of_getElem? (i := 217) rfl) rfl
theorem kw4_218 : (Jvm.Cond.code ({ cls := "FrontChairs", name := "drawnDeed", desc := "()I" } : Jvm.MethodName) prog_1_method_58_code (3 : Nat) (Option.some Jvm.ClassFile.FieldType.int)) ∈ tb := inT4 (List.mem_of_getElem? (i := 218) rfl) rfl
theorem kw4_219 : (Jvm.Cond.methodLink "FrontChairs" (397 : Nat) ({ cls := "FrontChairs", name := "draw", desc := "()I" } : Jvm.MethodName)) ∈ tb := inT4 (List.mem_of_getElem? (i := 219) rfl) rfl
theorem kw4_221 : (Jvm.Cond.instanceMethod ({ cls := "FrontChairs", name := "draw", desc := "()I" } : Jvm.MethodName)) ∈ tb := inT4 (List.mem_of_getElem? (i := 221) rfl) rfl
theorem kw4_222 : (Jvm.Cond.code ({ cls := "FrontChairs", name := "draw", desc := "()I" } : Jvm.MethodName) prog_1_method_57_code (1 : Nat) (Option.some Jvm.ClassFile.FieldType.int)) ∈ tb := inT4 (List.mem_of_getElem? (i := 222) rfl) rfl
theorem kw4_223 : (Jvm.Cond.constant "FrontChairs" (396 : Nat) (1103515245 : Int32)) ∈ tb := inT4 (List.mem_of_getElem? (i := 223) rfl) rfl
theorem kw4_224 : (Jvm.Cond.methodLink "FrontChairsLaw" (197 : Nat) ({ cls := "FrontChairsLaw", name := "sits", desc := "(LFrontChairs;II[J)I" } : Jvm.MethodName)) ∈ tb := inT4 (List.mem_of_getElem? (i := 224) rfl) rfl
theorem kw4_225 : (Jvm.Cond.static ({ cls := "FrontChairsLaw", name := "sits", desc := "(LFrontChairs;II[J)I" } : Jvm.MethodName)) ∈ tb := inT4 (List.mem_of_getElem? (i := 225) rfl) rfl
theorem kw4_226 : (Jvm.Cond.codeWith ({ cls := "FrontChairsLaw", name := "sits", desc := "(LFrontChairs;II[J)I" } : Jvm.MethodName) method_14_code (5 : Nat) (Option.some Jvm.ClassFile.FieldType.int) [((0 : Nat), (10 : Nat), (13 : Nat), (19 : Nat)), ((0 : Nat), (10 : Nat), (17 : Nat), (13 : Nat))]) ∈ tb := inT4 (List.mem_of_getElem? (i := 226) rfl) rfl
theorem kw4_227 : (Jvm.Cond.methodLink "FrontChairsLaw" (52 : Nat) ({ cls := "FrontChairs", name := "sits", desc := "(II)I" } : Jvm.MethodName)) ∈ tb := inT4 (List.mem_of_getElem? (i := 227) rfl) rfl
theorem kw4_228 : (Jvm.Cond.instanceMethod ({ cls := "FrontChairs", name := "sits", desc := "(II)I" } : Jvm.MethodName)) ∈ tb := inT4 (List.mem_of_getElem? (i := 228) rfl) rfl
theorem kw4_229 : (Jvm.Cond.selects "FrontChairs" ({ cls := "FrontChairs", name := "sits", desc := "(II)I" } : Jvm.MethodName) ({ cls := "FrontChairs", name := "sits", desc := "(II)I" } : Jvm.MethodName)) ∈ tb := inT4 (List.mem_of_getElem? (i := 229) rfl) rfl
theorem kw4_230 : (Jvm.Cond.code ({ cls := "FrontChairs", name := "sits", desc := "(II)I" } : Jvm.MethodName) prog_1_method_18_code (3 : Nat) (Option.some Jvm.ClassFile.FieldType.int)) ∈ tb := inT4 (List.mem_of_getElem? (i := 230) rfl) rfl
theorem kw4_231 : (Jvm.Cond.methodLink "FrontChairs" (252 : Nat) ({ cls := "FrontChairs", name := "ahead", desc := "(I)LFrontChairs$Seats;" } : Jvm.MethodName)) ∈ tb := inT4 (List.mem_of_getElem? (i := 231) rfl) rfl
theorem kw4_233 : (Jvm.Cond.instanceMethod ({ cls := "FrontChairs", name := "ahead", desc := "(I)LFrontChairs$Seats;" } : Jvm.MethodName)) ∈ tb := inT4 (List.mem_of_getElem? (i := 233) rfl) rfl
theorem kw4_234 : (Jvm.Cond.code ({ cls := "FrontChairs", name := "ahead", desc := "(I)LFrontChairs$Seats;" } : Jvm.MethodName) prog_1_method_55_code (4 : Nat) (Option.some (Jvm.ClassFile.FieldType.object "FrontChairs$Seats"))) ∈ tb := inT4 (List.mem_of_getElem? (i := 234) rfl) rfl
theorem kw4_235 : (Jvm.Cond.methodLink "FrontChairs" (256 : Nat) ({ cls := "FrontChairs$Seats", name := "place", desc := "(I)I" } : Jvm.MethodName)) ∈ tb := inT4 (List.mem_of_getElem? (i := 235) rfl) rfl
theorem kw4_236 : (Jvm.Cond.instanceMethod ({ cls := "FrontChairs$Seats", name := "place", desc := "(I)I" } : Jvm.MethodName)) ∈ tb := inT4 (List.mem_of_getElem? (i := 236) rfl) rfl
theorem kw4_237 : (Jvm.Cond.selects "FrontChairs$Seats" ({ cls := "FrontChairs$Seats", name := "place", desc := "(I)I" } : Jvm.MethodName) ({ cls := "FrontChairs$Seats", name := "place", desc := "(I)I" } : Jvm.MethodName)) ∈ tb := inT4 (List.mem_of_getElem? (i := 237) rfl) rfl
theorem kw4_238 : (Jvm.Cond.code ({ cls := "FrontChairs$Seats", name := "place", desc := "(I)I" } : Jvm.MethodName) prog_7_method_6_code (2 : Nat) (Option.some Jvm.ClassFile.FieldType.int)) ∈ tb := inT4 (List.mem_of_getElem? (i := 238) rfl) rfl
theorem kw4_239 : (Jvm.Cond.methodLink "FrontChairsLaw" (200 : Nat) ({ cls := "FrontChairsLaw", name := "wetIn", desc := "(LFrontChairs;I[J)I" } : Jvm.MethodName)) ∈ tb := inT4 (List.mem_of_getElem? (i := 239) rfl) rfl
theorem kw5_0 : (Jvm.Cond.static ({ cls := "FrontChairsLaw", name := "wetIn", desc := "(LFrontChairs;I[J)I" } : Jvm.MethodName)) ∈ tb := inT5 (List.mem_of_getElem? (i := 0) rfl) rfl
theorem kw5_1 : (Jvm.Cond.codeWith ({ cls := "FrontChairsLaw", name := "wetIn", desc := "(LFrontChairs;I[J)I" } : Jvm.MethodName) method_15_code (4 : Nat) (Option.some Jvm.ClassFile.FieldType.int) [((0 : Nat), (9 : Nat), (12 : Nat), (19 : Nat))]) ∈ tb := inT5 (List.mem_of_getElem? (i := 1) rfl) rfl
theorem kw5_2 : (Jvm.Cond.methodLink "FrontChairsLaw" (55 : Nat) ({ cls := "FrontChairs", name := "wetIn", desc := "(I)I" } : Jvm.MethodName)) ∈ tb := inT5 (List.mem_of_getElem? (i := 2) rfl) rfl
theorem kw5_3 : (Jvm.Cond.instanceMethod ({ cls := "FrontChairs", name := "wetIn", desc := "(I)I" } : Jvm.MethodName)) ∈ tb := inT5 (List.mem_of_getElem? (i := 3) rfl) rfl
theorem kw5_4 : (Jvm.Cond.selects "FrontChairs" ({ cls := "FrontChairs", name := "wetIn", desc := "(I)I" } : Jvm.MethodName) ({ cls := "FrontChairs", name := "wetIn", desc := "(I)I" } : Jvm.MethodName)) ∈ tb := inT5 (List.mem_of_getElem? (i := 4) rfl) rfl
theorem kw5_5 : (Jvm.Cond.code ({ cls := "FrontChairs", name := "wetIn", desc := "(I)I" } : Jvm.MethodName) prog_1_method_19_code (4 : Nat) (Option.some Jvm.ClassFile.FieldType.int)) ∈ tb := inT5 (List.mem_of_getElem? (i := 5) rfl) rfl
theorem kw5_6 : (Jvm.Cond.methodLink "FrontChairsLaw" (203 : Nat) ({ cls := "FrontChairsLaw", name := "wetBy", desc := "(LFrontChairs;I[J)I" } : Jvm.MethodName)) ∈ tb := inT5 (List.mem_of_getElem? (i := 6) rfl) rfl
theorem kw5_7 : (Jvm.Cond.static ({ cls := "FrontChairsLaw", name := "wetBy", desc := "(LFrontChairs;I[J)I" } : Jvm.MethodName)) ∈ tb := inT5 (List.mem_of_getElem? (i := 7) rfl) rfl
theorem kw5_8 : (Jvm.Cond.codeWith ({ cls := "FrontChairsLaw", name := "wetBy", desc := "(LFrontChairs;I[J)I" } : Jvm.MethodName) method_16_code (4 : Nat) (Option.some Jvm.ClassFile.FieldType.int) [((0 : Nat), (9 : Nat), (12 : Nat), (13 : Nat))]) ∈ tb := inT5 (List.mem_of_getElem? (i := 8) rfl) rfl
theorem kw5_9 : (Jvm.Cond.methodLink "FrontChairsLaw" (58 : Nat) ({ cls := "FrontChairs", name := "wetBy", desc := "(I)I" } : Jvm.MethodName)) ∈ tb := inT5 (List.mem_of_getElem? (i := 9) rfl) rfl
theorem kw5_10 : (Jvm.Cond.instanceMethod ({ cls := "FrontChairs", name := "wetBy", desc := "(I)I" } : Jvm.MethodName)) ∈ tb := inT5 (List.mem_of_getElem? (i := 10) rfl) rfl
theorem kw5_11 : (Jvm.Cond.selects "FrontChairs" ({ cls := "FrontChairs", name := "wetBy", desc := "(I)I" } : Jvm.MethodName) ({ cls := "FrontChairs", name := "wetBy", desc := "(I)I" } : Jvm.MethodName)) ∈ tb := inT5 (List.mem_of_getElem? (i := 11) rfl) rfl
theorem kw5_12 : (Jvm.Cond.code ({ cls := "FrontChairs", name := "wetBy", desc := "(I)I" } : Jvm.MethodName) prog_1_method_20_code (4 : Nat) (Option.some Jvm.ClassFile.FieldType.int)) ∈ tb := inT5 (List.mem_of_getElem? (i := 12) rfl) rfl
theorem kw5_13 : (Jvm.Cond.methodLink "FrontChairsLaw" (206 : Nat) ({ cls := "FrontChairsLaw", name := "frontIn", desc := "(LFrontChairs;I[J)I" } : Jvm.MethodName)) ∈ tb := inT5 (List.mem_of_getElem? (i := 13) rfl) rfl
theorem kw5_14 : (Jvm.Cond.static ({ cls := "FrontChairsLaw", name := "frontIn", desc := "(LFrontChairs;I[J)I" } : Jvm.MethodName)) ∈ tb := inT5 (List.mem_of_getElem? (i := 14) rfl) rfl
theorem kw5_15 : (Jvm.Cond.codeWith ({ cls := "FrontChairsLaw", name := "frontIn", desc := "(LFrontChairs;I[J)I" } : Jvm.MethodName) method_17_code (4 : Nat) (Option.some Jvm.ClassFile.FieldType.int) [((0 : Nat), (9 : Nat), (12 : Nat), (19 : Nat))]) ∈ tb := inT5 (List.mem_of_getElem? (i := 15) rfl) rfl
theorem kw5_16 : (Jvm.Cond.methodLink "FrontChairsLaw" (61 : Nat) ({ cls := "FrontChairs", name := "frontIn", desc := "(I)I" } : Jvm.MethodName)) ∈ tb := inT5 (List.mem_of_getElem? (i := 16) rfl) rfl
theorem kw5_17 : (Jvm.Cond.instanceMethod ({ cls := "FrontChairs", name := "frontIn", desc := "(I)I" } : Jvm.MethodName)) ∈ tb := inT5 (List.mem_of_getElem? (i := 17) rfl) rfl
theorem kw5_18 : (Jvm.Cond.selects "FrontChairs" ({ cls := "FrontChairs", name := "frontIn", desc := "(I)I" } : Jvm.MethodName) ({ cls := "FrontChairs", name := "frontIn", desc := "(I)I" } : Jvm.MethodName)) ∈ tb := inT5 (List.mem_of_getElem? (i := 18) rfl) rfl
theorem kw5_19 : (Jvm.Cond.code ({ cls := "FrontChairs", name := "frontIn", desc := "(I)I" } : Jvm.MethodName) prog_1_method_21_code (4 : Nat) (Option.some Jvm.ClassFile.FieldType.int)) ∈ tb := inT5 (List.mem_of_getElem? (i := 19) rfl) rfl
theorem kw5_20 : (Jvm.Cond.methodLink "FrontChairsLaw" (209 : Nat) ({ cls := "FrontChairsLaw", name := "front", desc := "(LFrontChairs;I[J)I" } : Jvm.MethodName)) ∈ tb := inT5 (List.mem_of_getElem? (i := 20) rfl) rfl
theorem kw5_21 : (Jvm.Cond.static ({ cls := "FrontChairsLaw", name := "front", desc := "(LFrontChairs;I[J)I" } : Jvm.MethodName)) ∈ tb := inT5 (List.mem_of_getElem? (i := 21) rfl) rfl
theorem kw5_22 : (Jvm.Cond.codeWith ({ cls := "FrontChairsLaw", name := "front", desc := "(LFrontChairs;I[J)I" } : Jvm.MethodName) method_18_code (4 : Nat) (Option.some Jvm.ClassFile.FieldType.int) [((0 : Nat), (9 : Nat), (12 : Nat), (13 : Nat))]) ∈ tb := inT5 (List.mem_of_getElem? (i := 22) rfl) rfl
theorem kw5_23 : (Jvm.Cond.methodLink "FrontChairsLaw" (64 : Nat) ({ cls := "FrontChairs", name := "front", desc := "(I)I" } : Jvm.MethodName)) ∈ tb := inT5 (List.mem_of_getElem? (i := 23) rfl) rfl
theorem kw5_24 : (Jvm.Cond.instanceMethod ({ cls := "FrontChairs", name := "front", desc := "(I)I" } : Jvm.MethodName)) ∈ tb := inT5 (List.mem_of_getElem? (i := 24) rfl) rfl
theorem kw5_25 : (Jvm.Cond.selects "FrontChairs" ({ cls := "FrontChairs", name := "front", desc := "(I)I" } : Jvm.MethodName) ({ cls := "FrontChairs", name := "front", desc := "(I)I" } : Jvm.MethodName)) ∈ tb := inT5 (List.mem_of_getElem? (i := 25) rfl) rfl
theorem kw5_26 : (Jvm.Cond.code ({ cls := "FrontChairs", name := "front", desc := "(I)I" } : Jvm.MethodName) prog_1_method_22_code (2 : Nat) (Option.some Jvm.ClassFile.FieldType.int)) ∈ tb := inT5 (List.mem_of_getElem? (i := 26) rfl) rfl
theorem kw5_27 : (Jvm.Cond.methodLink "FrontChairsLaw" (212 : Nat) ({ cls := "FrontChairsLaw", name := "king", desc := "(LFrontChairs;I[J)I" } : Jvm.MethodName)) ∈ tb := inT5 (List.mem_of_getElem? (i := 27) rfl) rfl
theorem kw5_28 : (Jvm.Cond.static ({ cls := "FrontChairsLaw", name := "king", desc := "(LFrontChairs;I[J)I" } : Jvm.MethodName)) ∈ tb := inT5 (List.mem_of_getElem? (i := 28) rfl) rfl
theorem kw5_29 : (Jvm.Cond.codeWith ({ cls := "FrontChairsLaw", name := "king", desc := "(LFrontChairs;I[J)I" } : Jvm.MethodName) method_19_code (4 : Nat) (Option.some Jvm.ClassFile.FieldType.int) [((0 : Nat), (9 : Nat), (12 : Nat), (13 : Nat))]) ∈ tb := inT5 (List.mem_of_getElem? (i := 29) rfl) rfl
theorem kw5_30 : (Jvm.Cond.methodLink "FrontChairsLaw" (67 : Nat) ({ cls := "FrontChairs", name := "king", desc := "(I)I" } : Jvm.MethodName)) ∈ tb := inT5 (List.mem_of_getElem? (i := 30) rfl) rfl
theorem kw5_31 : (Jvm.Cond.instanceMethod ({ cls := "FrontChairs", name := "king", desc := "(I)I" } : Jvm.MethodName)) ∈ tb := inT5 (List.mem_of_getElem? (i := 31) rfl) rfl
theorem kw5_32 : (Jvm.Cond.selects "FrontChairs" ({ cls := "FrontChairs", name := "king", desc := "(I)I" } : Jvm.MethodName) ({ cls := "FrontChairs", name := "king", desc := "(I)I" } : Jvm.MethodName)) ∈ tb := inT5 (List.mem_of_getElem? (i := 32) rfl) rfl
theorem kw5_33 : (Jvm.Cond.code ({ cls := "FrontChairs", name := "king", desc := "(I)I" } : Jvm.MethodName) prog_1_method_23_code (7 : Nat) (Option.some Jvm.ClassFile.FieldType.int)) ∈ tb := inT5 (List.mem_of_getElem? (i := 33) rfl) rfl
theorem kw5_34 : (Jvm.Cond.methodLink "FrontChairs" (258 : Nat) ({ cls := "java/util/Arrays", name := "fill", desc := "([II)V" } : Jvm.MethodName)) ∈ tb := inT5 (List.mem_of_getElem? (i := 34) rfl) rfl
theorem kw5_35 : (Jvm.Cond.methodLink "FrontChairsLaw" (215 : Nat) ({ cls := "FrontChairsLaw", name := "bring", desc := "(LFrontChairs;III[J)I" } : Jvm.MethodName)) ∈ tb := inT5 (List.mem_of_getElem? (i := 35) rfl) rfl
theorem kw5_36 : (Jvm.Cond.static ({ cls := "FrontChairsLaw", name := "bring", desc := "(LFrontChairs;III[J)I" } : Jvm.MethodName)) ∈ tb := inT5 (List.mem_of_getElem? (i := 36) rfl) rfl
theorem kw5_37 : (Jvm.Cond.codeWith ({ cls := "FrontChairsLaw", name := "bring", desc := "(LFrontChairs;III[J)I" } : Jvm.MethodName) method_20_code (6 : Nat) (Option.some Jvm.ClassFile.FieldType.int) [((0 : Nat), (12 : Nat), (15 : Nat), (19 : Nat)), ((0 : Nat), (12 : Nat), (19 : Nat), (13 : Nat))]) ∈ tb := inT5 (List.mem_of_getElem? (i := 37) rfl) rfl
theorem kw5_38 : (Jvm.Cond.methodLink "FrontChairsLaw" (70 : Nat) ({ cls := "FrontChairs", name := "bring", desc := "(III)I" } : Jvm.MethodName)) ∈ tb := inT5 (List.mem_of_getElem? (i := 38) rfl) rfl
theorem kw5_39 : (Jvm.Cond.instanceMethod ({ cls := "FrontChairs", name := "bring", desc := "(III)I" } : Jvm.MethodName)) ∈ tb := inT5 (List.mem_of_getElem? (i := 39) rfl) rfl
theorem kw5_40 : (Jvm.Cond.selects "FrontChairs" ({ cls := "FrontChairs", name := "bring", desc := "(III)I" } : Jvm.MethodName) ({ cls := "FrontChairs", name := "bring", desc := "(III)I" } : Jvm.MethodName)) ∈ tb := inT5 (List.mem_of_getElem? (i := 40) rfl) rfl
theorem kw5_41 : (Jvm.Cond.code ({ cls := "FrontChairs", name := "bring", desc := "(III)I" } : Jvm.MethodName) prog_1_method_24_code (6 : Nat) (Option.some Jvm.ClassFile.FieldType.int)) ∈ tb := inT5 (List.mem_of_getElem? (i := 41) rfl) rfl
theorem kw5_42 : (Jvm.Cond.methodLink "FrontChairs" (269 : Nat) ({ cls := "FrontChairs", name := "fewestRisers", desc := "(II)I" } : Jvm.MethodName)) ∈ tb := inT5 (List.mem_of_getElem? (i := 42) rfl) rfl
theorem kw5_44 : (Jvm.Cond.instanceMethod ({ cls := "FrontChairs", name := "fewestRisers", desc := "(II)I" } : Jvm.MethodName)) ∈ tb := inT5 (List.mem_of_getElem? (i := 44) rfl) rfl
theorem kw5_45 : (Jvm.Cond.code ({ cls := "FrontChairs", name := "fewestRisers", desc := "(II)I" } : Jvm.MethodName) prog_1_method_59_code (4 : Nat) (Option.some Jvm.ClassFile.FieldType.int)) ∈ tb := inT5 (List.mem_of_getElem? (i := 45) rfl) rfl
theorem kw5_46 : (Jvm.Cond.methodLink "FrontChairs" (400 : Nat) ({ cls := "FrontChairs", name := "risersBring", desc := "(IIII)Z" } : Jvm.MethodName)) ∈ tb := inT5 (List.mem_of_getElem? (i := 46) rfl) rfl
theorem kw5_48 : (Jvm.Cond.instanceMethod ({ cls := "FrontChairs", name := "risersBring", desc := "(IIII)Z" } : Jvm.MethodName)) ∈ tb := inT5 (List.mem_of_getElem? (i := 48) rfl) rfl
theorem kw5_49 : (Jvm.Cond.code ({ cls := "FrontChairs", name := "risersBring", desc := "(IIII)Z" } : Jvm.MethodName) prog_1_method_60_code (8 : Nat) (Option.some Jvm.ClassFile.FieldType.boolean)) ∈ tb := inT5 (List.mem_of_getElem? (i := 49) rfl) rfl
theorem kw5_50 : (Jvm.Cond.methodLink "FrontChairsLaw" (218 : Nat) ({ cls := "FrontChairsLaw", name := "faints", desc := "(LFrontChairs;III[J)I" } : Jvm.MethodName)) ∈ tb := inT5 (List.mem_of_getElem? (i := 50) rfl) rfl
theorem kw5_51 : (Jvm.Cond.static ({ cls := "FrontChairsLaw", name := "faints", desc := "(LFrontChairs;III[J)I" } : Jvm.MethodName)) ∈ tb := inT5 (List.mem_of_getElem? (i := 51) rfl) rfl
theorem kw5_52 : (Jvm.Cond.codeWith ({ cls := "FrontChairsLaw", name := "faints", desc := "(LFrontChairs;III[J)I" } : Jvm.MethodName) method_21_code (6 : Nat) (Option.some Jvm.ClassFile.FieldType.int) [((0 : Nat), (12 : Nat), (15 : Nat), (19 : Nat)), ((0 : Nat), (12 : Nat), (19 : Nat), (13 : Nat))]) ∈ tb := inT5 (List.mem_of_getElem? (i := 52) rfl) rfl
theorem kw5_53 : (Jvm.Cond.methodLink "FrontChairsLaw" (73 : Nat) ({ cls := "FrontChairs", name := "faints", desc := "(III)I" } : Jvm.MethodName)) ∈ tb := inT5 (List.mem_of_getElem? (i := 53) rfl) rfl
theorem kw5_54 : (Jvm.Cond.instanceMethod ({ cls := "FrontChairs", name := "faints", desc := "(III)I" } : Jvm.MethodName)) ∈ tb := inT5 (List.mem_of_getElem? (i := 54) rfl) rfl
theorem kw5_55 : (Jvm.Cond.selects "FrontChairs" ({ cls := "FrontChairs", name := "faints", desc := "(III)I" } : Jvm.MethodName) ({ cls := "FrontChairs", name := "faints", desc := "(III)I" } : Jvm.MethodName)) ∈ tb := inT5 (List.mem_of_getElem? (i := 55) rfl) rfl
theorem kw5_56 : (Jvm.Cond.code ({ cls := "FrontChairs", name := "faints", desc := "(III)I" } : Jvm.MethodName) prog_1_method_25_code (9 : Nat) (Option.some Jvm.ClassFile.FieldType.int)) ∈ tb := inT5 (List.mem_of_getElem? (i := 56) rfl) rfl
theorem kw5_57 : (Jvm.Cond.methodLink "FrontChairs" (272 : Nat) ({ cls := "FrontChairs", name := "neighboursWhoCanRise", desc := "(I)I" } : Jvm.MethodName)) ∈ tb := inT5 (List.mem_of_getElem? (i := 57) rfl) rfl
theorem kw5_59 : (Jvm.Cond.instanceMethod ({ cls := "FrontChairs", name := "neighboursWhoCanRise", desc := "(I)I" } : Jvm.MethodName)) ∈ tb := inT5 (List.mem_of_getElem? (i := 59) rfl) rfl
theorem kw5_60 : (Jvm.Cond.code ({ cls := "FrontChairs", name := "neighboursWhoCanRise", desc := "(I)I" } : Jvm.MethodName) prog_1_method_61_code (4 : Nat) (Option.some Jvm.ClassFile.FieldType.int)) ∈ tb := inT5 (List.mem_of_getElem? (i := 60) rfl) rfl
theorem kw5_61 : (Jvm.Cond.methodLink "FrontChairs" (275 : Nat) ({ cls := "FrontChairs", name := "bringsToFront", desc := "(III)Z" } : Jvm.MethodName)) ∈ tb := inT5 (List.mem_of_getElem? (i := 61) rfl) rfl
theorem kw5_63 : (Jvm.Cond.instanceMethod ({ cls := "FrontChairs", name := "bringsToFront", desc := "(III)Z" } : Jvm.MethodName)) ∈ tb := inT5 (List.mem_of_getElem? (i := 63) rfl) rfl
theorem kw5_64 : (Jvm.Cond.code ({ cls := "FrontChairs", name := "bringsToFront", desc := "(III)Z" } : Jvm.MethodName) prog_1_method_62_code (6 : Nat) (Option.some Jvm.ClassFile.FieldType.boolean)) ∈ tb := inT5 (List.mem_of_getElem? (i := 64) rfl) rfl
theorem kw5_65 : (Jvm.Cond.methodLink "FrontChairsLaw" (221 : Nat) ({ cls := "FrontChairsLaw", name := "round", desc := "(LFrontChairs;I[J)I" } : Jvm.MethodName)) ∈ tb := inT5 (List.mem_of_getElem? (i := 65) rfl) rfl
theorem kw5_66 : (Jvm.Cond.static ({ cls := "FrontChairsLaw", name := "round", desc := "(LFrontChairs;I[J)I" } : Jvm.MethodName)) ∈ tb := inT5 (List.mem_of_getElem? (i := 66) rfl) rfl
theorem kw5_67 : (Jvm.Cond.codeWith ({ cls := "FrontChairsLaw", name := "round", desc := "(LFrontChairs;I[J)I" } : Jvm.MethodName) method_22_code (4 : Nat) (Option.some Jvm.ClassFile.FieldType.int) [((0 : Nat), (9 : Nat), (12 : Nat), (19 : Nat))]) ∈ tb := inT5 (List.mem_of_getElem? (i := 67) rfl) rfl
theorem kw5_68 : (Jvm.Cond.methodLink "FrontChairsLaw" (76 : Nat) ({ cls := "FrontChairs", name := "round", desc := "(I)I" } : Jvm.MethodName)) ∈ tb := inT5 (List.mem_of_getElem? (i := 68) rfl) rfl
theorem kw5_69 : (Jvm.Cond.instanceMethod ({ cls := "FrontChairs", name := "round", desc := "(I)I" } : Jvm.MethodName)) ∈ tb := inT5 (List.mem_of_getElem? (i := 69) rfl) rfl
theorem kw5_70 : (Jvm.Cond.selects "FrontChairs" ({ cls := "FrontChairs", name := "round", desc := "(I)I" } : Jvm.MethodName) ({ cls := "FrontChairs", name := "round", desc := "(I)I" } : Jvm.MethodName)) ∈ tb := inT5 (List.mem_of_getElem? (i := 70) rfl) rfl
theorem kw5_71 : (Jvm.Cond.code ({ cls := "FrontChairs", name := "round", desc := "(I)I" } : Jvm.MethodName) prog_1_method_26_code (6 : Nat) (Option.some Jvm.ClassFile.FieldType.int)) ∈ tb := inT5 (List.mem_of_getElem? (i := 71) rfl) rfl
theorem kw5_72 : (Jvm.Cond.methodLink "FrontChairs" (279 : Nat) ({ cls := "FrontChairs$Seats", name := "sittersIn", desc := "(I)I" } : Jvm.MethodName)) ∈ tb := inT5 (List.mem_of_getElem? (i := 72) rfl) rfl
theorem kw5_73 : (Jvm.Cond.instanceMethod ({ cls := "FrontChairs$Seats", name := "sittersIn", desc := "(I)I" } : Jvm.MethodName)) ∈ tb := inT5 (List.mem_of_getElem? (i := 73) rfl) rfl
theorem kw5_74 : (Jvm.Cond.selects "FrontChairs$Seats" ({ cls := "FrontChairs$Seats", name := "sittersIn", desc := "(I)I" } : Jvm.MethodName) ({ cls := "FrontChairs$Seats", name := "sittersIn", desc := "(I)I" } : Jvm.MethodName)) ∈ tb := inT5 (List.mem_of_getElem? (i := 74) rfl) rfl
theorem kw5_75 : (Jvm.Cond.code ({ cls := "FrontChairs$Seats", name := "sittersIn", desc := "(I)I" } : Jvm.MethodName) prog_7_method_22_code (4 : Nat) (Option.some Jvm.ClassFile.FieldType.int)) ∈ tb := inT5 (List.mem_of_getElem? (i := 75) rfl) rfl
theorem kw5_76 : (Jvm.Cond.methodLink "FrontChairs" (282 : Nat) ({ cls := "FrontChairs$Seats", name := "foremostAwake", desc := "(I)I" } : Jvm.MethodName)) ∈ tb := inT5 (List.mem_of_getElem? (i := 76) rfl) rfl
theorem kw5_77 : (Jvm.Cond.instanceMethod ({ cls := "FrontChairs$Seats", name := "foremostAwake", desc := "(I)I" } : Jvm.MethodName)) ∈ tb := inT5 (List.mem_of_getElem? (i := 77) rfl) rfl
theorem kw5_78 : (Jvm.Cond.selects "FrontChairs$Seats" ({ cls := "FrontChairs$Seats", name := "foremostAwake", desc := "(I)I" } : Jvm.MethodName) ({ cls := "FrontChairs$Seats", name := "foremostAwake", desc := "(I)I" } : Jvm.MethodName)) ∈ tb := inT5 (List.mem_of_getElem? (i := 78) rfl) rfl
theorem kw5_79 : (Jvm.Cond.code ({ cls := "FrontChairs$Seats", name := "foremostAwake", desc := "(I)I" } : Jvm.MethodName) prog_7_method_19_code (4 : Nat) (Option.some Jvm.ClassFile.FieldType.int)) ∈ tb := inT5 (List.mem_of_getElem? (i := 79) rfl) rfl
theorem kw5_80 : (Jvm.Cond.methodLink "FrontChairsLaw" (228 : Nat) ({ cls := "FrontChairsLaw", name := "hands", desc := "(LFrontChairs;II[J)I" } : Jvm.MethodName)) ∈ tb := inT5 (List.mem_of_getElem? (i := 80) rfl) rfl
theorem kw5_81 : (Jvm.Cond.static ({ cls := "FrontChairsLaw", name := "hands", desc := "(LFrontChairs;II[J)I" } : Jvm.MethodName)) ∈ tb := inT5 (List.mem_of_getElem? (i := 81) rfl) rfl
theorem kw5_82 : (Jvm.Cond.codeWith ({ cls := "FrontChairsLaw", name := "hands", desc := "(LFrontChairs;II[J)I" } : Jvm.MethodName) method_23_code (5 : Nat) (Option.some Jvm.ClassFile.FieldType.int) [((0 : Nat), (10 : Nat), (13 : Nat), (19 : Nat)), ((0 : Nat), (10 : Nat), (17 : Nat), (13 : Nat)), ((0 : Nat), (10 : Nat), (21 : Nat), (44 : Nat))]) ∈ tb := inT5 (List.mem_of_getElem? (i := 82) rfl) rfl
theorem kw5_83 : (Jvm.Cond.methodLink "FrontChairsLaw" (79 : Nat) ({ cls := "FrontChairs", name := "hands", desc := "(II)I" } : Jvm.MethodName)) ∈ tb := inT5 (List.mem_of_getElem? (i := 83) rfl) rfl
theorem kw5_84 : (Jvm.Cond.instanceMethod ({ cls := "FrontChairs", name := "hands", desc := "(II)I" } : Jvm.MethodName)) ∈ tb := inT5 (List.mem_of_getElem? (i := 84) rfl) rfl
theorem kw5_85 : (Jvm.Cond.selects "FrontChairs" ({ cls := "FrontChairs", name := "hands", desc := "(II)I" } : Jvm.MethodName) ({ cls := "FrontChairs", name := "hands", desc := "(II)I" } : Jvm.MethodName)) ∈ tb := inT5 (List.mem_of_getElem? (i := 85) rfl) rfl
theorem kw5_86 : (Jvm.Cond.code ({ cls := "FrontChairs", name := "hands", desc := "(II)I" } : Jvm.MethodName) prog_1_method_28_code (3 : Nat) (Option.some Jvm.ClassFile.FieldType.int)) ∈ tb := inT5 (List.mem_of_getElem? (i := 86) rfl) rfl
theorem kw5_87 : (Jvm.Cond.methodLink "FrontChairs" (285 : Nat) ({ cls := "FrontChairs", name := "needTwoWhoSit", desc := "(II)V" } : Jvm.MethodName)) ∈ tb := inT5 (List.mem_of_getElem? (i := 87) rfl) rfl
theorem kw5_89 : (Jvm.Cond.instanceMethod ({ cls := "FrontChairs", name := "needTwoWhoSit", desc := "(II)V" } : Jvm.MethodName)) ∈ tb := inT5 (List.mem_of_getElem? (i := 89) rfl) rfl
theorem kw5_90 : (Jvm.Cond.code ({ cls := "FrontChairs", name := "needTwoWhoSit", desc := "(II)V" } : Jvm.MethodName) prog_1_method_48_code (3 : Nat) (Option.none : Option Jvm.ClassFile.FieldType)) ∈ tb := inT5 (List.mem_of_getElem? (i := 90) rfl) rfl
theorem kw5_93 : (Jvm.Cond.methodLink "FrontChairs" (288 : Nat) ({ cls := "FrontChairs$Seats", name := "between", desc := "(III)I" } : Jvm.MethodName)) ∈ tb := inT5 (List.mem_of_getElem? (i := 93) rfl) rfl
theorem kw5_94 : (Jvm.Cond.instanceMethod ({ cls := "FrontChairs$Seats", name := "between", desc := "(III)I" } : Jvm.MethodName)) ∈ tb := inT5 (List.mem_of_getElem? (i := 94) rfl) rfl
theorem kw5_95 : (Jvm.Cond.selects "FrontChairs$Seats" ({ cls := "FrontChairs$Seats", name := "between", desc := "(III)I" } : Jvm.MethodName) ({ cls := "FrontChairs$Seats", name := "between", desc := "(III)I" } : Jvm.MethodName)) ∈ tb := inT5 (List.mem_of_getElem? (i := 95) rfl) rfl
theorem kw5_96 : (Jvm.Cond.code ({ cls := "FrontChairs$Seats", name := "between", desc := "(III)I" } : Jvm.MethodName) prog_7_method_26_code (6 : Nat) (Option.some Jvm.ClassFile.FieldType.int)) ∈ tb := inT5 (List.mem_of_getElem? (i := 96) rfl) rfl
theorem kw5_97 : (Jvm.Cond.methodLink "FrontChairsLaw" (231 : Nat) ({ cls := "FrontChairsLaw", name := "relay", desc := "(LFrontChairs;I[J)I" } : Jvm.MethodName)) ∈ tb := inT5 (List.mem_of_getElem? (i := 97) rfl) rfl
theorem kw5_98 : (Jvm.Cond.static ({ cls := "FrontChairsLaw", name := "relay", desc := "(LFrontChairs;I[J)I" } : Jvm.MethodName)) ∈ tb := inT5 (List.mem_of_getElem? (i := 98) rfl) rfl
theorem kw5_99 : (Jvm.Cond.codeWith ({ cls := "FrontChairsLaw", name := "relay", desc := "(LFrontChairs;I[J)I" } : Jvm.MethodName) method_24_code (4 : Nat) (Option.some Jvm.ClassFile.FieldType.int) [((0 : Nat), (9 : Nat), (12 : Nat), (19 : Nat)), ((0 : Nat), (9 : Nat), (15 : Nat), (44 : Nat))]) ∈ tb := inT5 (List.mem_of_getElem? (i := 99) rfl) rfl
theorem kw5_100 : (Jvm.Cond.methodLink "FrontChairsLaw" (82 : Nat) ({ cls := "FrontChairs", name := "relay", desc := "(I)I" } : Jvm.MethodName)) ∈ tb := inT5 (List.mem_of_getElem? (i := 100) rfl) rfl
theorem kw5_101 : (Jvm.Cond.instanceMethod ({ cls := "FrontChairs", name := "relay", desc := "(I)I" } : Jvm.MethodName)) ∈ tb := inT5 (List.mem_of_getElem? (i := 101) rfl) rfl
theorem kw5_102 : (Jvm.Cond.selects "FrontChairs" ({ cls := "FrontChairs", name := "relay", desc := "(I)I" } : Jvm.MethodName) ({ cls := "FrontChairs", name := "relay", desc := "(I)I" } : Jvm.MethodName)) ∈ tb := inT5 (List.mem_of_getElem? (i := 102) rfl) rfl
theorem kw5_103 : (Jvm.Cond.code ({ cls := "FrontChairs", name := "relay", desc := "(I)I" } : Jvm.MethodName) prog_1_method_29_code (3 : Nat) (Option.some Jvm.ClassFile.FieldType.int)) ∈ tb := inT5 (List.mem_of_getElem? (i := 103) rfl) rfl
theorem kw5_105 : (Jvm.Cond.methodLink "FrontChairs" (298 : Nat) ({ cls := "FrontChairs$Seats", name := "sittersOf", desc := "(I)I" } : Jvm.MethodName)) ∈ tb := inT5 (List.mem_of_getElem? (i := 105) rfl) rfl
theorem kw5_106 : (Jvm.Cond.methodLink "FrontChairsLaw" (234 : Nat) ({ cls := "FrontChairsLaw", name := "cut", desc := "(LFrontChairs;II[J)I" } : Jvm.MethodName)) ∈ tb := inT5 (List.mem_of_getElem? (i := 106) rfl) rfl
theorem kw5_107 : (Jvm.Cond.static ({ cls := "FrontChairsLaw", name := "cut", desc := "(LFrontChairs;II[J)I" } : Jvm.MethodName)) ∈ tb := inT5 (List.mem_of_getElem? (i := 107) rfl) rfl
theorem kw5_108 : (Jvm.Cond.codeWith ({ cls := "FrontChairsLaw", name := "cut", desc := "(LFrontChairs;II[J)I" } : Jvm.MethodName) method_25_code (5 : Nat) (Option.some Jvm.ClassFile.FieldType.int) [((0 : Nat), (10 : Nat), (13 : Nat), (19 : Nat)), ((0 : Nat), (10 : Nat), (17 : Nat), (13 : Nat)), ((0 : Nat), (10 : Nat), (21 : Nat), (44 : Nat))]) ∈ tb := inT5 (List.mem_of_getElem? (i := 108) rfl) rfl
theorem kw5_109 : (Jvm.Cond.methodLink "FrontChairsLaw" (85 : Nat) ({ cls := "FrontChairs", name := "cut", desc := "(II)I" } : Jvm.MethodName)) ∈ tb := inT5 (List.mem_of_getElem? (i := 109) rfl) rfl
theorem kw5_110 : (Jvm.Cond.instanceMethod ({ cls := "FrontChairs", name := "cut", desc := "(II)I" } : Jvm.MethodName)) ∈ tb := inT5 (List.mem_of_getElem? (i := 110) rfl) rfl
theorem kw5_111 : (Jvm.Cond.selects "FrontChairs" ({ cls := "FrontChairs", name := "cut", desc := "(II)I" } : Jvm.MethodName) ({ cls := "FrontChairs", name := "cut", desc := "(II)I" } : Jvm.MethodName)) ∈ tb := inT5 (List.mem_of_getElem? (i := 111) rfl) rfl
theorem kw5_112 : (Jvm.Cond.code ({ cls := "FrontChairs", name := "cut", desc := "(II)I" } : Jvm.MethodName) prog_1_method_30_code (5 : Nat) (Option.some Jvm.ClassFile.FieldType.int)) ∈ tb := inT5 (List.mem_of_getElem? (i := 112) rfl) rfl
theorem kw5_113 : (Jvm.Cond.methodLink "FrontChairsLaw" (241 : Nat) ({ cls := "FrontChairsLaw", name := "dry", desc := "(LFrontChairs;III[J)I" } : Jvm.MethodName)) ∈ tb := inT5 (List.mem_of_getElem? (i := 113) rfl) rfl
theorem kw5_114 : (Jvm.Cond.static ({ cls := "FrontChairsLaw", name := "dry", desc := "(LFrontChairs;III[J)I" } : Jvm.MethodName)) ∈ tb := inT5 (List.mem_of_getElem? (i := 114) rfl) rfl
theorem kw5_115 : (Jvm.Cond.codeWith ({ cls := "FrontChairsLaw", name := "dry", desc := "(LFrontChairs;III[J)I" } : Jvm.MethodName) method_26_code (6 : Nat) (Option.some Jvm.ClassFile.FieldType.int) [((0 : Nat), (11 : Nat), (14 : Nat), (19 : Nat)), ((0 : Nat), (11 : Nat), (18 : Nat), (13 : Nat))]) ∈ tb := inT5 (List.mem_of_getElem? (i := 115) rfl) rfl
theorem kw5_116 : (Jvm.Cond.methodLink "FrontChairsLaw" (88 : Nat) ({ cls := "FrontChairs", name := "dry", desc := "(III)J" } : Jvm.MethodName)) ∈ tb := inT5 (List.mem_of_getElem? (i := 116) rfl) rfl
theorem kw5_117 : (Jvm.Cond.instanceMethod ({ cls := "FrontChairs", name := "dry", desc := "(III)J" } : Jvm.MethodName)) ∈ tb := inT5 (List.mem_of_getElem? (i := 117) rfl) rfl
theorem kw5_118 : (Jvm.Cond.selects "FrontChairs" ({ cls := "FrontChairs", name := "dry", desc := "(III)J" } : Jvm.MethodName) ({ cls := "FrontChairs", name := "dry", desc := "(III)J" } : Jvm.MethodName)) ∈ tb := inT5 (List.mem_of_getElem? (i := 118) rfl) rfl
theorem kw5_119 : (Jvm.Cond.code ({ cls := "FrontChairs", name := "dry", desc := "(III)J" } : Jvm.MethodName) prog_1_method_32_code (10 : Nat) (Option.some Jvm.ClassFile.FieldType.long)) ∈ tb := inT5 (List.mem_of_getElem? (i := 119) rfl) rfl
theorem kw5_120 : (Jvm.Cond.methodLink "FrontChairs" (310 : Nat) ({ cls := "FrontChairs$Seats", name := "dryChances", desc := "(II)J" } : Jvm.MethodName)) ∈ tb := inT5 (List.mem_of_getElem? (i := 120) rfl) rfl
theorem kw5_121 : (Jvm.Cond.instanceMethod ({ cls := "FrontChairs$Seats", name := "dryChances", desc := "(II)J" } : Jvm.MethodName)) ∈ tb := inT5 (List.mem_of_getElem? (i := 121) rfl) rfl
theorem kw5_122 : (Jvm.Cond.selects "FrontChairs$Seats" ({ cls := "FrontChairs$Seats", name := "dryChances", desc := "(II)J" } : Jvm.MethodName) ({ cls := "FrontChairs$Seats", name := "dryChances", desc := "(II)J" } : Jvm.MethodName)) ∈ tb := inT5 (List.mem_of_getElem? (i := 122) rfl) rfl
theorem kw5_123 : (Jvm.Cond.code ({ cls := "FrontChairs$Seats", name := "dryChances", desc := "(II)J" } : Jvm.MethodName) prog_7_method_17_code (7 : Nat) (Option.some Jvm.ClassFile.FieldType.long)) ∈ tb := inT5 (List.mem_of_getElem? (i := 123) rfl) rfl
theorem kw5_124 : (Jvm.Cond.methodLink "FrontChairs$Seats" (126 : Nat) ({ cls := "FrontChairs$Beach", name := "waveOn", desc := "(III)I" } : Jvm.MethodName)) ∈ tb := inT5 (List.mem_of_getElem? (i := 124) rfl) rfl
theorem kw5_125 : (Jvm.Cond.constantLong "FrontChairs" (314 : Nat) (10 : Int64)) ∈ tb := inT5 (List.mem_of_getElem? (i := 125) rfl) rfl
theorem kw5_126 : (Jvm.Cond.methodLink "FrontChairs" (316 : Nat) ({ cls := "FrontChairs", name := "commonDivisor", desc := "(JJ)J" } : Jvm.MethodName)) ∈ tb := inT5 (List.mem_of_getElem? (i := 126) rfl) rfl
theorem kw5_127 : (Jvm.Cond.static ({ cls := "FrontChairs", name := "commonDivisor", desc := "(JJ)J" } : Jvm.MethodName)) ∈ tb := inT5 (List.mem_of_getElem? (i := 127) rfl) rfl
theorem kw5_128 : (Jvm.Cond.code ({ cls := "FrontChairs", name := "commonDivisor", desc := "(JJ)J" } : Jvm.MethodName) prog_1_method_63_code (7 : Nat) (Option.some Jvm.ClassFile.FieldType.long)) ∈ tb := inT5 (List.mem_of_getElem? (i := 128) rfl) rfl
theorem kw5_129 : (Jvm.Cond.constantLong "FrontChairs" (320 : Nat) (-1 : Int64)) ∈ tb := inT5 (List.mem_of_getElem? (i := 129) rfl) rfl
theorem kw5_130 : (Jvm.Cond.methodLink "FrontChairsLaw" (244 : Nat) ({ cls := "FrontChairsLaw", name := "driest", desc := "(LFrontChairs;I[J)I" } : Jvm.MethodName)) ∈ tb := inT5 (List.mem_of_getElem? (i := 130) rfl) rfl
theorem kw5_131 : (Jvm.Cond.static ({ cls := "FrontChairsLaw", name := "driest", desc := "(LFrontChairs;I[J)I" } : Jvm.MethodName)) ∈ tb := inT5 (List.mem_of_getElem? (i := 131) rfl) rfl
theorem kw5_132 : (Jvm.Cond.codeWith ({ cls := "FrontChairsLaw", name := "driest", desc := "(LFrontChairs;I[J)I" } : Jvm.MethodName) method_27_code (4 : Nat) (Option.some Jvm.ClassFile.FieldType.int) [((0 : Nat), (9 : Nat), (12 : Nat), (13 : Nat))]) ∈ tb := inT5 (List.mem_of_getElem? (i := 132) rfl) rfl
theorem kw5_133 : (Jvm.Cond.methodLink "FrontChairsLaw" (92 : Nat) ({ cls := "FrontChairs", name := "driest", desc := "(I)I" } : Jvm.MethodName)) ∈ tb := inT5 (List.mem_of_getElem? (i := 133) rfl) rfl
theorem kw5_134 : (Jvm.Cond.instanceMethod ({ cls := "FrontChairs", name := "driest", desc := "(I)I" } : Jvm.MethodName)) ∈ tb := inT5 (List.mem_of_getElem? (i := 134) rfl) rfl
theorem kw5_135 : (Jvm.Cond.selects "FrontChairs" ({ cls := "FrontChairs", name := "driest", desc := "(I)I" } : Jvm.MethodName) ({ cls := "FrontChairs", name := "driest", desc := "(I)I" } : Jvm.MethodName)) ∈ tb := inT5 (List.mem_of_getElem? (i := 135) rfl) rfl
theorem kw5_136 : (Jvm.Cond.code ({ cls := "FrontChairs", name := "driest", desc := "(I)I" } : Jvm.MethodName) prog_1_method_33_code (8 : Nat) (Option.some Jvm.ClassFile.FieldType.int)) ∈ tb := inT5 (List.mem_of_getElem? (i := 136) rfl) rfl
theorem kw5_137 : (Jvm.Cond.methodLink "FrontChairsLaw" (247 : Nat) ({ cls := "FrontChairsLaw", name := "where", desc := "(LFrontChairs;II[J)I" } : Jvm.MethodName)) ∈ tb := inT5 (List.mem_of_getElem? (i := 137) rfl) rfl
theorem kw5_138 : (Jvm.Cond.static ({ cls := "FrontChairsLaw", name := "where", desc := "(LFrontChairs;II[J)I" } : Jvm.MethodName)) ∈ tb := inT5 (List.mem_of_getElem? (i := 138) rfl) rfl
theorem kw5_139 : (Jvm.Cond.codeWith ({ cls := "FrontChairsLaw", name := "where", desc := "(LFrontChairs;II[J)I" } : Jvm.MethodName) method_28_code (5 : Nat) (Option.some Jvm.ClassFile.FieldType.int) [((0 : Nat), (10 : Nat), (13 : Nat), (19 : Nat)), ((0 : Nat), (10 : Nat), (17 : Nat), (13 : Nat)), ((0 : Nat), (10 : Nat), (21 : Nat), (44 : Nat))]) ∈ tb := inT5 (List.mem_of_getElem? (i := 139) rfl) rfl
theorem kw5_140 : (Jvm.Cond.methodLink "FrontChairsLaw" (95 : Nat) ({ cls := "FrontChairs", name := "where", desc := "(II)I" } : Jvm.MethodName)) ∈ tb := inT5 (List.mem_of_getElem? (i := 140) rfl) rfl
theorem kw5_141 : (Jvm.Cond.instanceMethod ({ cls := "FrontChairs", name := "where", desc := "(II)I" } : Jvm.MethodName)) ∈ tb := inT5 (List.mem_of_getElem? (i := 141) rfl) rfl
theorem kw5_142 : (Jvm.Cond.selects "FrontChairs" ({ cls := "FrontChairs", name := "where", desc := "(II)I" } : Jvm.MethodName) ({ cls := "FrontChairs", name := "where", desc := "(II)I" } : Jvm.MethodName)) ∈ tb := inT5 (List.mem_of_getElem? (i := 142) rfl) rfl
theorem kw5_143 : (Jvm.Cond.code ({ cls := "FrontChairs", name := "where", desc := "(II)I" } : Jvm.MethodName) prog_1_method_34_code (10 : Nat) (Option.some Jvm.ClassFile.FieldType.int)) ∈ tb := inT5 (List.mem_of_getElem? (i := 143) rfl) rfl
theorem kw5_145 : (Jvm.Cond.methodLink "FrontChairsLaw" (250 : Nat) ({ cls := "FrontChairsLaw", name := "changed", desc := "(LFrontChairs;II[J)I" } : Jvm.MethodName)) ∈ tb := inT5 (List.mem_of_getElem? (i := 145) rfl) rfl
theorem kw5_146 : (Jvm.Cond.static ({ cls := "FrontChairsLaw", name := "changed", desc := "(LFrontChairs;II[J)I" } : Jvm.MethodName)) ∈ tb := inT5 (List.mem_of_getElem? (i := 146) rfl) rfl
theorem kw5_147 : (Jvm.Cond.codeWith ({ cls := "FrontChairsLaw", name := "changed", desc := "(LFrontChairs;II[J)I" } : Jvm.MethodName) method_29_code (5 : Nat) (Option.some Jvm.ClassFile.FieldType.int) [((0 : Nat), (10 : Nat), (13 : Nat), (13 : Nat))]) ∈ tb := inT5 (List.mem_of_getElem? (i := 147) rfl) rfl
theorem kw5_148 : (Jvm.Cond.methodLink "FrontChairsLaw" (98 : Nat) ({ cls := "FrontChairs", name := "changed", desc := "(II)I" } : Jvm.MethodName)) ∈ tb := inT5 (List.mem_of_getElem? (i := 148) rfl) rfl
theorem kw5_149 : (Jvm.Cond.instanceMethod ({ cls := "FrontChairs", name := "changed", desc := "(II)I" } : Jvm.MethodName)) ∈ tb := inT5 (List.mem_of_getElem? (i := 149) rfl) rfl
theorem kw5_150 : (Jvm.Cond.selects "FrontChairs" ({ cls := "FrontChairs", name := "changed", desc := "(II)I" } : Jvm.MethodName) ({ cls := "FrontChairs", name := "changed", desc := "(II)I" } : Jvm.MethodName)) ∈ tb := inT5 (List.mem_of_getElem? (i := 150) rfl) rfl
theorem kw5_151 : (Jvm.Cond.code ({ cls := "FrontChairs", name := "changed", desc := "(II)I" } : Jvm.MethodName) prog_1_method_35_code (3 : Nat) (Option.some Jvm.ClassFile.FieldType.int)) ∈ tb := inT5 (List.mem_of_getElem? (i := 151) rfl) rfl
theorem kw5_152 : (Jvm.Cond.methodLink "FrontChairs" (327 : Nat) ({ cls := "FrontChairs", name := "needTwosAsked", desc := "(II)V" } : Jvm.MethodName)) ∈ tb := inT5 (List.mem_of_getElem? (i := 152) rfl) rfl
theorem kw5_154 : (Jvm.Cond.instanceMethod ({ cls := "FrontChairs", name := "needTwosAsked", desc := "(II)V" } : Jvm.MethodName)) ∈ tb := inT5 (List.mem_of_getElem? (i := 154) rfl) rfl
theorem kw5_155 : (Jvm.Cond.code ({ cls := "FrontChairs", name := "needTwosAsked", desc := "(II)V" } : Jvm.MethodName) prog_1_method_49_code (3 : Nat) (Option.none : Option Jvm.ClassFile.FieldType)) ∈ tb := inT5 (List.mem_of_getElem? (i := 155) rfl) rfl
theorem kw5_157 : (Jvm.Cond.methodLink "FrontChairs" (330 : Nat) ({ cls := "FrontChairs", name := "collectTwos", desc := "(II)I" } : Jvm.MethodName)) ∈ tb := inT5 (List.mem_of_getElem? (i := 157) rfl) rfl
theorem kw5_159 : (Jvm.Cond.instanceMethod ({ cls := "FrontChairs", name := "collectTwos", desc := "(II)I" } : Jvm.MethodName)) ∈ tb := inT5 (List.mem_of_getElem? (i := 159) rfl) rfl
theorem kw5_160 : (Jvm.Cond.code ({ cls := "FrontChairs", name := "collectTwos", desc := "(II)I" } : Jvm.MethodName) prog_1_method_64_code (7 : Nat) (Option.some Jvm.ClassFile.FieldType.int)) ∈ tb := inT5 (List.mem_of_getElem? (i := 160) rfl) rfl
theorem kw5_161 : (Jvm.Cond.methodLink "FrontChairs" (403 : Nat) ({ cls := "FrontChairs", name := "exchangedAhead", desc := "(III)LFrontChairs$Seats;" } : Jvm.MethodName)) ∈ tb := inT5 (List.mem_of_getElem? (i := 161) rfl) rfl
theorem kw5_163 : (Jvm.Cond.instanceMethod ({ cls := "FrontChairs", name := "exchangedAhead", desc := "(III)LFrontChairs$Seats;" } : Jvm.MethodName)) ∈ tb := inT5 (List.mem_of_getElem? (i := 163) rfl) rfl
theorem kw5_164 : (Jvm.Cond.code ({ cls := "FrontChairs", name := "exchangedAhead", desc := "(III)LFrontChairs$Seats;" } : Jvm.MethodName) prog_1_method_65_code (6 : Nat) (Option.some (Jvm.ClassFile.FieldType.object "FrontChairs$Seats"))) ∈ tb := inT5 (List.mem_of_getElem? (i := 164) rfl) rfl
theorem kw5_165 : (Jvm.Cond.methodLink "FrontChairs" (407 : Nat) ({ cls := "FrontChairs", name := "keepEnds", desc := "(LFrontChairs$Seats;I)V" } : Jvm.MethodName)) ∈ tb := inT5 (List.mem_of_getElem? (i := 165) rfl) rfl
theorem kw5_167 : (Jvm.Cond.instanceMethod ({ cls := "FrontChairs", name := "keepEnds", desc := "(LFrontChairs$Seats;I)V" } : Jvm.MethodName)) ∈ tb := inT5 (List.mem_of_getElem? (i := 167) rfl) rfl
theorem kw5_168 : (Jvm.Cond.code ({ cls := "FrontChairs", name := "keepEnds", desc := "(LFrontChairs$Seats;I)V" } : Jvm.MethodName) prog_1_method_66_code (4 : Nat) (Option.none : Option Jvm.ClassFile.FieldType)) ∈ tb := inT5 (List.mem_of_getElem? (i := 168) rfl) rfl
theorem kw5_169 : (Jvm.Cond.methodLink "FrontChairsLaw" (253 : Nat) ({ cls := "FrontChairsLaw", name := "changedAt", desc := "(LFrontChairs;III[J)I" } : Jvm.MethodName)) ∈ tb := inT5 (List.mem_of_getElem? (i := 169) rfl) rfl
theorem kw5_170 : (Jvm.Cond.static ({ cls := "FrontChairsLaw", name := "changedAt", desc := "(LFrontChairs;III[J)I" } : Jvm.MethodName)) ∈ tb := inT5 (List.mem_of_getElem? (i := 170) rfl) rfl
theorem kw5_171 : (Jvm.Cond.codeWith ({ cls := "FrontChairsLaw", name := "changedAt", desc := "(LFrontChairs;III[J)I" } : Jvm.MethodName) method_30_code (6 : Nat) (Option.some Jvm.ClassFile.FieldType.int) [((0 : Nat), (12 : Nat), (15 : Nat), (13 : Nat))]) ∈ tb := inT5 (List.mem_of_getElem? (i := 171) rfl) rfl
theorem kw5_172 : (Jvm.Cond.methodLink "FrontChairsLaw" (101 : Nat) ({ cls := "FrontChairs", name := "changedAt", desc := "(III)I" } : Jvm.MethodName)) ∈ tb := inT5 (List.mem_of_getElem? (i := 172) rfl) rfl
theorem kw5_173 : (Jvm.Cond.instanceMethod ({ cls := "FrontChairs", name := "changedAt", desc := "(III)I" } : Jvm.MethodName)) ∈ tb := inT5 (List.mem_of_getElem? (i := 173) rfl) rfl
theorem kw5_174 : (Jvm.Cond.selects "FrontChairs" ({ cls := "FrontChairs", name := "changedAt", desc := "(III)I" } : Jvm.MethodName) ({ cls := "FrontChairs", name := "changedAt", desc := "(III)I" } : Jvm.MethodName)) ∈ tb := inT5 (List.mem_of_getElem? (i := 174) rfl) rfl
theorem kw5_175 : (Jvm.Cond.code ({ cls := "FrontChairs", name := "changedAt", desc := "(III)I" } : Jvm.MethodName) prog_1_method_36_code (4 : Nat) (Option.some Jvm.ClassFile.FieldType.int)) ∈ tb := inT5 (List.mem_of_getElem? (i := 175) rfl) rfl
theorem kw5_177 : (Jvm.Cond.methodLink "FrontChairsLaw" (256 : Nat) ({ cls := "FrontChairsLaw", name := "sure", desc := "(LFrontChairs;II[J)I" } : Jvm.MethodName)) ∈ tb := inT5 (List.mem_of_getElem? (i := 177) rfl) rfl
theorem kw5_178 : (Jvm.Cond.static ({ cls := "FrontChairsLaw", name := "sure", desc := "(LFrontChairs;II[J)I" } : Jvm.MethodName)) ∈ tb := inT5 (List.mem_of_getElem? (i := 178) rfl) rfl
theorem kw5_179 : (Jvm.Cond.codeWith ({ cls := "FrontChairsLaw", name := "sure", desc := "(LFrontChairs;II[J)I" } : Jvm.MethodName) method_31_code (5 : Nat) (Option.some Jvm.ClassFile.FieldType.int) [((0 : Nat), (10 : Nat), (13 : Nat), (13 : Nat))]) ∈ tb := inT5 (List.mem_of_getElem? (i := 179) rfl) rfl
theorem kw5_180 : (Jvm.Cond.methodLink "FrontChairsLaw" (104 : Nat) ({ cls := "FrontChairs", name := "sure", desc := "(II)I" } : Jvm.MethodName)) ∈ tb := inT5 (List.mem_of_getElem? (i := 180) rfl) rfl
theorem kw5_181 : (Jvm.Cond.instanceMethod ({ cls := "FrontChairs", name := "sure", desc := "(II)I" } : Jvm.MethodName)) ∈ tb := inT5 (List.mem_of_getElem? (i := 181) rfl) rfl
theorem kw5_182 : (Jvm.Cond.selects "FrontChairs" ({ cls := "FrontChairs", name := "sure", desc := "(II)I" } : Jvm.MethodName) ({ cls := "FrontChairs", name := "sure", desc := "(II)I" } : Jvm.MethodName)) ∈ tb := inT5 (List.mem_of_getElem? (i := 182) rfl) rfl
theorem kw5_183 : (Jvm.Cond.code ({ cls := "FrontChairs", name := "sure", desc := "(II)I" } : Jvm.MethodName) prog_1_method_37_code (6 : Nat) (Option.some Jvm.ClassFile.FieldType.int)) ∈ tb := inT5 (List.mem_of_getElem? (i := 183) rfl) rfl
theorem kw5_184 : (Jvm.Cond.methodLink "FrontChairsLaw" (259 : Nat) ({ cls := "FrontChairsLaw", name := "look", desc := "(LFrontChairs;II[J)I" } : Jvm.MethodName)) ∈ tb := inT5 (List.mem_of_getElem? (i := 184) rfl) rfl
theorem kw5_185 : (Jvm.Cond.static ({ cls := "FrontChairsLaw", name := "look", desc := "(LFrontChairs;II[J)I" } : Jvm.MethodName)) ∈ tb := inT5 (List.mem_of_getElem? (i := 185) rfl) rfl
theorem kw5_186 : (Jvm.Cond.codeWith ({ cls := "FrontChairsLaw", name := "look", desc := "(LFrontChairs;II[J)I" } : Jvm.MethodName) method_32_code (5 : Nat) (Option.some Jvm.ClassFile.FieldType.int) [((0 : Nat), (10 : Nat), (13 : Nat), (13 : Nat))]) ∈ tb := inT5 (List.mem_of_getElem? (i := 186) rfl) rfl
theorem kw5_187 : (Jvm.Cond.methodLink "FrontChairsLaw" (107 : Nat) ({ cls := "FrontChairs", name := "look", desc := "(II)I" } : Jvm.MethodName)) ∈ tb := inT5 (List.mem_of_getElem? (i := 187) rfl) rfl
theorem kw5_188 : (Jvm.Cond.instanceMethod ({ cls := "FrontChairs", name := "look", desc := "(II)I" } : Jvm.MethodName)) ∈ tb := inT5 (List.mem_of_getElem? (i := 188) rfl) rfl
theorem kw5_189 : (Jvm.Cond.selects "FrontChairs" ({ cls := "FrontChairs", name := "look", desc := "(II)I" } : Jvm.MethodName) ({ cls := "FrontChairs", name := "look", desc := "(II)I" } : Jvm.MethodName)) ∈ tb := inT5 (List.mem_of_getElem? (i := 189) rfl) rfl
theorem kw5_190 : (Jvm.Cond.code ({ cls := "FrontChairs", name := "look", desc := "(II)I" } : Jvm.MethodName) prog_1_method_38_code (8 : Nat) (Option.some Jvm.ClassFile.FieldType.int)) ∈ tb := inT5 (List.mem_of_getElem? (i := 190) rfl) rfl
theorem kw5_191 : (Jvm.Cond.methodLink "FrontChairs" (338 : Nat) ({ cls := "FrontChairs", name := "mostAlike", desc := "(II)I" } : Jvm.MethodName)) ∈ tb := inT5 (List.mem_of_getElem? (i := 191) rfl) rfl
theorem kw5_193 : (Jvm.Cond.instanceMethod ({ cls := "FrontChairs", name := "mostAlike", desc := "(II)I" } : Jvm.MethodName)) ∈ tb := inT5 (List.mem_of_getElem? (i := 193) rfl) rfl
theorem kw5_194 : (Jvm.Cond.code ({ cls := "FrontChairs", name := "mostAlike", desc := "(II)I" } : Jvm.MethodName) prog_1_method_67_code (7 : Nat) (Option.some Jvm.ClassFile.FieldType.int)) ∈ tb := inT5 (List.mem_of_getElem? (i := 194) rfl) rfl
theorem kw5_195 : (Jvm.Cond.methodLink "FrontChairs" (411 : Nat) ({ cls := "java/lang/Math", name := "max", desc := "(II)I" } : Jvm.MethodName)) ∈ tb := inT5 (List.mem_of_getElem? (i := 195) rfl) rfl
theorem kw5_196 : (Jvm.Cond.methodLink "FrontChairsLaw" (262 : Nat) ({ cls := "FrontChairsLaw", name := "tray", desc := "(LFrontChairs;III)I" } : Jvm.MethodName)) ∈ tb := inT5 (List.mem_of_getElem? (i := 196) rfl) rfl
theorem kw5_197 : (Jvm.Cond.static ({ cls := "FrontChairsLaw", name := "tray", desc := "(LFrontChairs;III)I" } : Jvm.MethodName)) ∈ tb := inT5 (List.mem_of_getElem? (i := 197) rfl) rfl
theorem kw5_198 : (Jvm.Cond.codeWith ({ cls := "FrontChairsLaw", name := "tray", desc := "(LFrontChairs;III)I" } : Jvm.MethodName) method_33_code (5 : Nat) (Option.some Jvm.ClassFile.FieldType.int) [((0 : Nat), (7 : Nat), (10 : Nat), (19 : Nat)), ((0 : Nat), (7 : Nat), (14 : Nat), (13 : Nat))]) ∈ tb := inT5 (List.mem_of_getElem? (i := 198) rfl) rfl
theorem kw5_199 : (Jvm.Cond.methodLink "FrontChairsLaw" (110 : Nat) ({ cls := "FrontChairs", name := "tray", desc := "(III)V" } : Jvm.MethodName)) ∈ tb := inT5 (List.mem_of_getElem? (i := 199) rfl) rfl
theorem kw5_200 : (Jvm.Cond.instanceMethod ({ cls := "FrontChairs", name := "tray", desc := "(III)V" } : Jvm.MethodName)) ∈ tb := inT5 (List.mem_of_getElem? (i := 200) rfl) rfl
theorem kw5_201 : (Jvm.Cond.selects "FrontChairs" ({ cls := "FrontChairs", name := "tray", desc := "(III)V" } : Jvm.MethodName) ({ cls := "FrontChairs", name := "tray", desc := "(III)V" } : Jvm.MethodName)) ∈ tb := inT5 (List.mem_of_getElem? (i := 201) rfl) rfl
theorem kw5_202 : (Jvm.Cond.code ({ cls := "FrontChairs", name := "tray", desc := "(III)V" } : Jvm.MethodName) prog_1_method_39_code (4 : Nat) (Option.none : Option Jvm.ClassFile.FieldType)) ∈ tb := inT5 (List.mem_of_getElem? (i := 202) rfl) rfl
theorem kw5_203 : (Jvm.Cond.methodLink "FrontChairs" (341 : Nat) ({ cls := "FrontChairs$Tray", name := "lay", desc := "(II)V" } : Jvm.MethodName)) ∈ tb := inT5 (List.mem_of_getElem? (i := 203) rfl) rfl
theorem kw5_204 : (Jvm.Cond.instanceMethod ({ cls := "FrontChairs$Tray", name := "lay", desc := "(II)V" } : Jvm.MethodName)) ∈ tb := inT5 (List.mem_of_getElem? (i := 204) rfl) rfl
theorem kw5_205 : (Jvm.Cond.selects "FrontChairs$Tray" ({ cls := "FrontChairs$Tray", name := "lay", desc := "(II)V" } : Jvm.MethodName) ({ cls := "FrontChairs$Tray", name := "lay", desc := "(II)V" } : Jvm.MethodName)) ∈ tb := inT5 (List.mem_of_getElem? (i := 205) rfl) rfl
theorem kw5_206 : (Jvm.Cond.code ({ cls := "FrontChairs$Tray", name := "lay", desc := "(II)V" } : Jvm.MethodName) prog_8_method_3_code (3 : Nat) (Option.none : Option Jvm.ClassFile.FieldType)) ∈ tb := inT5 (List.mem_of_getElem? (i := 206) rfl) rfl
theorem kw5_207 : (Jvm.Cond.methodLink "FrontChairs$Tray" (22 : Nat) ({ cls := "java/util/Arrays", name := "fill", desc := "([JJ)V" } : Jvm.MethodName)) ∈ tb := inT5 (List.mem_of_getElem? (i := 207) rfl) rfl
theorem kw5_208 : (Jvm.Cond.static ({ cls := "java/util/Arrays", name := "fill", desc := "([JJ)V" } : Jvm.MethodName)) ∈ tb := inT5 (List.mem_of_getElem? (i := 208) rfl) rfl
theorem kw5_209 : (Jvm.Cond.code ({ cls := "java/util/Arrays", name := "fill", desc := "([JJ)V" } : Jvm.MethodName) prog_30_method_101_code (5 : Nat) (Option.none : Option Jvm.ClassFile.FieldType)) ∈ tb := inT5 (List.mem_of_getElem? (i := 209) rfl) rfl
theorem kw5_210 : (Jvm.Cond.methodLink "FrontChairsLaw" (268 : Nat) ({ cls := "FrontChairsLaw", name := "write", desc := "(LFrontChairs;IIJ[J)I" } : Jvm.MethodName)) ∈ tb := inT5 (List.mem_of_getElem? (i := 210) rfl) rfl
theorem kw5_211 : (Jvm.Cond.static ({ cls := "FrontChairsLaw", name := "write", desc := "(LFrontChairs;IIJ[J)I" } : Jvm.MethodName)) ∈ tb := inT5 (List.mem_of_getElem? (i := 211) rfl) rfl
theorem kw5_212 : (Jvm.Cond.codeWith ({ cls := "FrontChairsLaw", name := "write", desc := "(LFrontChairs;IIJ[J)I" } : Jvm.MethodName) method_34_code (7 : Nat) (Option.some Jvm.ClassFile.FieldType.int) [((0 : Nat), (11 : Nat), (14 : Nat), (19 : Nat)), ((0 : Nat), (11 : Nat), (18 : Nat), (44 : Nat)), ((0 : Nat), (11 : Nat), (22 : Nat), (118 : Nat))]) ∈ tb := inT5 (List.mem_of_getElem? (i := 212) rfl) rfl
theorem kw5_213 : (Jvm.Cond.classLink "FrontChairsLaw" (118 : Nat) "java/lang/IndexOutOfBoundsException") ∈ tb := inT5 (List.mem_of_getElem? (i := 213) rfl) rfl
theorem kw5_214 : (Jvm.Cond.methodLink "FrontChairsLaw" (114 : Nat) ({ cls := "FrontChairs", name := "write", desc := "(IIJ)J" } : Jvm.MethodName)) ∈ tb := inT5 (List.mem_of_getElem? (i := 214) rfl) rfl
theorem kw5_215 : (Jvm.Cond.instanceMethod ({ cls := "FrontChairs", name := "write", desc := "(IIJ)J" } : Jvm.MethodName)) ∈ tb := inT5 (List.mem_of_getElem? (i := 215) rfl) rfl
theorem kw5_216 : (Jvm.Cond.selects "FrontChairs" ({ cls := "FrontChairs", name := "write", desc := "(IIJ)J" } : Jvm.MethodName) ({ cls := "FrontChairs", name := "write", desc := "(IIJ)J" } : Jvm.MethodName)) ∈ tb := inT5 (List.mem_of_getElem? (i := 216) rfl) rfl
theorem kw5_217 : (Jvm.Cond.code ({ cls := "FrontChairs", name := "write", desc := "(IIJ)J" } : Jvm.MethodName) prog_1_method_40_code (5 : Nat) (Option.some Jvm.ClassFile.FieldType.long)) ∈ tb := inT5 (List.mem_of_getElem? (i := 217) rfl) rfl
theorem kw5_218 : (Jvm.Cond.classLink "FrontChairs" (344 : Nat) "java/lang/IndexOutOfBoundsException") ∈ tb := inT5 (List.mem_of_getElem? (i := 218) rfl) rfl
theorem kw5_219 : (Jvm.Cond.instantiable "java/lang/IndexOutOfBoundsException" (6 : Nat)) ∈ tb := inT5 (List.mem_of_getElem? (i := 219) rfl) rfl
theorem kw5_221 : (Jvm.Cond.selects "java/lang/IndexOutOfBoundsException" ({ cls := "java/lang/Throwable", name := "fillInStackTrace", desc := "(I)Ljava/lang/Throwable;" } : Jvm.MethodName) ({ cls := "java/lang/Throwable", name := "fillInStackTrace", desc := "(I)Ljava/lang/Throwable;" } : Jvm.MethodName)) ∈ tb := inT5 (List.mem_of_getElem? (i := 221) rfl) rfl
theorem kw5_222 : (Jvm.Cond.lays "java/lang/IndexOutOfBoundsException" "java/lang/Throwable" "cause" "Ljava/lang/Throwable;") ∈ tb := inT5 (List.mem_of_getElem? (i := 222) rfl) rfl
theorem kw5_223 : (Jvm.Cond.lays "java/lang/IndexOutOfBoundsException" "java/lang/Throwable" "stackTrace" "[Ljava/lang/StackTraceElement;") ∈ tb := inT5 (List.mem_of_getElem? (i := 223) rfl) rfl
theorem kw5_224 : (Jvm.Cond.lays "java/lang/IndexOutOfBoundsException" "java/lang/Throwable" "suppressedExceptions" "Ljava/util/List;") ∈ tb := inT5 (List.mem_of_getElem? (i := 224) rfl) rfl
theorem kw5_225 : (Jvm.Cond.lays "java/lang/IndexOutOfBoundsException" "java/lang/Throwable" "detailMessage" "Ljava/lang/String;") ∈ tb := inT5 (List.mem_of_getElem? (i := 225) rfl) rfl
theorem kw5_226 : (Jvm.Cond.lays "java/lang/IndexOutOfBoundsException" "java/lang/Throwable" "backtrace" "Ljava/lang/Object;") ∈ tb := inT5 (List.mem_of_getElem? (i := 226) rfl) rfl
theorem kw5_228 : (Jvm.Cond.methodLink "FrontChairs" (348 : Nat) ({ cls := "java/lang/IndexOutOfBoundsException", name := "<init>", desc := "(Ljava/lang/String;)V" } : Jvm.MethodName)) ∈ tb := inT5 (List.mem_of_getElem? (i := 228) rfl) rfl
theorem kw5_229 : (Jvm.Cond.instanceMethod ({ cls := "java/lang/IndexOutOfBoundsException", name := "<init>", desc := "(Ljava/lang/String;)V" } : Jvm.MethodName)) ∈ tb := inT5 (List.mem_of_getElem? (i := 229) rfl) rfl
theorem kw5_230 : (Jvm.Cond.code ({ cls := "java/lang/IndexOutOfBoundsException", name := "<init>", desc := "(Ljava/lang/String;)V" } : Jvm.MethodName) prog_19_method_2_code (2 : Nat) (Option.none : Option Jvm.ClassFile.FieldType)) ∈ tb := inT5 (List.mem_of_getElem? (i := 230) rfl) rfl
theorem kw5_231 : (Jvm.Cond.methodLink "java/lang/IndexOutOfBoundsException" (7 : Nat) ({ cls := "java/lang/RuntimeException", name := "<init>", desc := "(Ljava/lang/String;)V" } : Jvm.MethodName)) ∈ tb := inT5 (List.mem_of_getElem? (i := 231) rfl) rfl
theorem kw5_232 : (Jvm.Cond.lays "java/lang/IndexOutOfBoundsException" "java/lang/Throwable" "depth" "I") ∈ tb := inT5 (List.mem_of_getElem? (i := 232) rfl) rfl
theorem kw5_234 : (Jvm.Cond.methodLink "FrontChairs" (349 : Nat) ({ cls := "FrontChairs$Tray", name := "put", desc := "(IJ)J" } : Jvm.MethodName)) ∈ tb := inT5 (List.mem_of_getElem? (i := 234) rfl) rfl
theorem kw5_235 : (Jvm.Cond.instanceMethod ({ cls := "FrontChairs$Tray", name := "put", desc := "(IJ)J" } : Jvm.MethodName)) ∈ tb := inT5 (List.mem_of_getElem? (i := 235) rfl) rfl
theorem kw5_236 : (Jvm.Cond.selects "FrontChairs$Tray" ({ cls := "FrontChairs$Tray", name := "put", desc := "(IJ)J" } : Jvm.MethodName) ({ cls := "FrontChairs$Tray", name := "put", desc := "(IJ)J" } : Jvm.MethodName)) ∈ tb := inT5 (List.mem_of_getElem? (i := 236) rfl) rfl
theorem kw5_237 : (Jvm.Cond.code ({ cls := "FrontChairs$Tray", name := "put", desc := "(IJ)J" } : Jvm.MethodName) prog_8_method_4_code (6 : Nat) (Option.some Jvm.ClassFile.FieldType.long)) ∈ tb := inT5 (List.mem_of_getElem? (i := 237) rfl) rfl
theorem kw5_238 : (Jvm.Cond.methodLink "FrontChairsLaw" (272 : Nat) ({ cls := "FrontChairsLaw", name := "copy", desc := "(LFrontChairs;II[J)I" } : Jvm.MethodName)) ∈ tb := inT5 (List.mem_of_getElem? (i := 238) rfl) rfl
theorem kw5_239 : (Jvm.Cond.static ({ cls := "FrontChairsLaw", name := "copy", desc := "(LFrontChairs;II[J)I" } : Jvm.MethodName)) ∈ tb := inT5 (List.mem_of_getElem? (i := 239) rfl) rfl
theorem kw6_0 : (Jvm.Cond.codeWith ({ cls := "FrontChairsLaw", name := "copy", desc := "(LFrontChairs;II[J)I" } : Jvm.MethodName) method_35_code (5 : Nat) (Option.some Jvm.ClassFile.FieldType.int) [((0 : Nat), (10 : Nat), (13 : Nat), (19 : Nat)), ((0 : Nat), (10 : Nat), (17 : Nat), (44 : Nat))]) ∈ tb := inT6 (List.mem_of_getElem? (i := 0) rfl) rfl
theorem kw6_1 : (Jvm.Cond.methodLink "FrontChairsLaw" (120 : Nat) ({ cls := "FrontChairs", name := "copy", desc := "(II)I" } : Jvm.MethodName)) ∈ tb := inT6 (List.mem_of_getElem? (i := 1) rfl) rfl
theorem kw6_2 : (Jvm.Cond.instanceMethod ({ cls := "FrontChairs", name := "copy", desc := "(II)I" } : Jvm.MethodName)) ∈ tb := inT6 (List.mem_of_getElem? (i := 2) rfl) rfl
theorem kw6_3 : (Jvm.Cond.selects "FrontChairs" ({ cls := "FrontChairs", name := "copy", desc := "(II)I" } : Jvm.MethodName) ({ cls := "FrontChairs", name := "copy", desc := "(II)I" } : Jvm.MethodName)) ∈ tb := inT6 (List.mem_of_getElem? (i := 3) rfl) rfl
theorem kw6_4 : (Jvm.Cond.code ({ cls := "FrontChairs", name := "copy", desc := "(II)I" } : Jvm.MethodName) prog_1_method_41_code (6 : Nat) (Option.some Jvm.ClassFile.FieldType.int)) ∈ tb := inT6 (List.mem_of_getElem? (i := 4) rfl) rfl
theorem kw6_5 : (Jvm.Cond.methodLink "FrontChairsLaw" (275 : Nat) ({ cls := "FrontChairsLaw", name := "image", desc := "(LFrontChairs;I)I" } : Jvm.MethodName)) ∈ tb := inT6 (List.mem_of_getElem? (i := 5) rfl) rfl
theorem kw6_6 : (Jvm.Cond.static ({ cls := "FrontChairsLaw", name := "image", desc := "(LFrontChairs;I)I" } : Jvm.MethodName)) ∈ tb := inT6 (List.mem_of_getElem? (i := 6) rfl) rfl
theorem kw6_7 : (Jvm.Cond.codeWith ({ cls := "FrontChairsLaw", name := "image", desc := "(LFrontChairs;I)I" } : Jvm.MethodName) method_36_code (3 : Nat) (Option.some Jvm.ClassFile.FieldType.int) [((0 : Nat), (5 : Nat), (8 : Nat), (19 : Nat))]) ∈ tb := inT6 (List.mem_of_getElem? (i := 7) rfl) rfl
theorem kw6_8 : (Jvm.Cond.methodLink "FrontChairsLaw" (123 : Nat) ({ cls := "FrontChairs", name := "image", desc := "(I)V" } : Jvm.MethodName)) ∈ tb := inT6 (List.mem_of_getElem? (i := 8) rfl) rfl
theorem kw6_9 : (Jvm.Cond.instanceMethod ({ cls := "FrontChairs", name := "image", desc := "(I)V" } : Jvm.MethodName)) ∈ tb := inT6 (List.mem_of_getElem? (i := 9) rfl) rfl
theorem kw6_10 : (Jvm.Cond.selects "FrontChairs" ({ cls := "FrontChairs", name := "image", desc := "(I)V" } : Jvm.MethodName) ({ cls := "FrontChairs", name := "image", desc := "(I)V" } : Jvm.MethodName)) ∈ tb := inT6 (List.mem_of_getElem? (i := 10) rfl) rfl
theorem kw6_11 : (Jvm.Cond.code ({ cls := "FrontChairs", name := "image", desc := "(I)V" } : Jvm.MethodName) prog_1_method_42_code (2 : Nat) (Option.none : Option Jvm.ClassFile.FieldType)) ∈ tb := inT6 (List.mem_of_getElem? (i := 11) rfl) rfl
theorem kw6_12 : (Jvm.Cond.methodLink "FrontChairs" (353 : Nat) ({ cls := "FrontChairs", name := "needImage", desc := "(I)V" } : Jvm.MethodName)) ∈ tb := inT6 (List.mem_of_getElem? (i := 12) rfl) rfl
theorem kw6_14 : (Jvm.Cond.instanceMethod ({ cls := "FrontChairs", name := "needImage", desc := "(I)V" } : Jvm.MethodName)) ∈ tb := inT6 (List.mem_of_getElem? (i := 14) rfl) rfl
theorem kw6_15 : (Jvm.Cond.code ({ cls := "FrontChairs", name := "needImage", desc := "(I)V" } : Jvm.MethodName) prog_1_method_52_code (2 : Nat) (Option.none : Option Jvm.ClassFile.FieldType)) ∈ tb := inT6 (List.mem_of_getElem? (i := 15) rfl) rfl
theorem kw6_17 : (Jvm.Cond.instantiable "FrontChairs$Image" (2 : Nat)) ∈ tb := inT6 (List.mem_of_getElem? (i := 17) rfl) rfl
theorem kw6_18 : (Jvm.Cond.methodLink "FrontChairs" (356 : Nat) ({ cls := "FrontChairs$Image", name := "<init>", desc := "(LFrontChairs$Beach;)V" } : Jvm.MethodName)) ∈ tb := inT6 (List.mem_of_getElem? (i := 18) rfl) rfl
theorem kw6_19 : (Jvm.Cond.instanceMethod ({ cls := "FrontChairs$Image", name := "<init>", desc := "(LFrontChairs$Beach;)V" } : Jvm.MethodName)) ∈ tb := inT6 (List.mem_of_getElem? (i := 19) rfl) rfl
theorem kw6_20 : (Jvm.Cond.code ({ cls := "FrontChairs$Image", name := "<init>", desc := "(LFrontChairs$Beach;)V" } : Jvm.MethodName) prog_4_method_1_code (2 : Nat) (Option.none : Option Jvm.ClassFile.FieldType)) ∈ tb := inT6 (List.mem_of_getElem? (i := 20) rfl) rfl
theorem kw6_21 : (Jvm.Cond.methodLink "FrontChairs$Image" (1 : Nat) ({ cls := "java/lang/Object", name := "<init>", desc := "()V" } : Jvm.MethodName)) ∈ tb := inT6 (List.mem_of_getElem? (i := 21) rfl) rfl
theorem kw6_22 : (Jvm.Cond.classLink "FrontChairs$Image" (7 : Nat) "FrontChairs$Seats") ∈ tb := inT6 (List.mem_of_getElem? (i := 22) rfl) rfl
theorem kw6_23 : (Jvm.Cond.methodLink "FrontChairs$Image" (9 : Nat) ({ cls := "FrontChairs$Seats", name := "<init>", desc := "(LFrontChairs$Beach;)V" } : Jvm.MethodName)) ∈ tb := inT6 (List.mem_of_getElem? (i := 23) rfl) rfl
theorem kw6_24 : (Jvm.Cond.classLink "FrontChairs$Image" (18 : Nat) "FrontChairs$History") ∈ tb := inT6 (List.mem_of_getElem? (i := 24) rfl) rfl
theorem kw6_25 : (Jvm.Cond.methodLink "FrontChairs$Image" (20 : Nat) ({ cls := "FrontChairs$History", name := "<init>", desc := "(LFrontChairs$Beach;)V" } : Jvm.MethodName)) ∈ tb := inT6 (List.mem_of_getElem? (i := 25) rfl) rfl
theorem kw6_26 : (Jvm.Cond.fieldLink "FrontChairs$Image" (12 : Nat) "FrontChairs$Image" "seats" "LFrontChairs$Seats;") ∈ tb := inT6 (List.mem_of_getElem? (i := 26) rfl) rfl
theorem kw6_27 : (Jvm.Cond.fieldLink "FrontChairs" (357 : Nat) "FrontChairs$Image" "seats" "LFrontChairs$Seats;") ∈ tb := inT6 (List.mem_of_getElem? (i := 27) rfl) rfl
theorem kw6_28 : (Jvm.Cond.fieldLink "FrontChairs$Image" (21 : Nat) "FrontChairs$Image" "history" "LFrontChairs$History;") ∈ tb := inT6 (List.mem_of_getElem? (i := 28) rfl) rfl
theorem kw6_29 : (Jvm.Cond.fieldLink "FrontChairs" (358 : Nat) "FrontChairs$Image" "history" "LFrontChairs$History;") ∈ tb := inT6 (List.mem_of_getElem? (i := 29) rfl) rfl
theorem kw6_30 : (Jvm.Cond.laysFinal "FrontChairs$Image" "FrontChairs$Image" "seats" "LFrontChairs$Seats;") ∈ tb := inT6 (List.mem_of_getElem? (i := 30) rfl) rfl
theorem kw6_32 : (Jvm.Cond.laysFinal "FrontChairs$Image" "FrontChairs$Image" "history" "LFrontChairs$History;") ∈ tb := inT6 (List.mem_of_getElem? (i := 32) rfl) rfl
theorem kw6_35 : (Jvm.Cond.methodLink "FrontChairs" (359 : Nat) ({ cls := "FrontChairs$History", name := "copyFrom", desc := "(LFrontChairs$History;)V" } : Jvm.MethodName)) ∈ tb := inT6 (List.mem_of_getElem? (i := 35) rfl) rfl
theorem kw6_36 : (Jvm.Cond.instanceMethod ({ cls := "FrontChairs$History", name := "copyFrom", desc := "(LFrontChairs$History;)V" } : Jvm.MethodName)) ∈ tb := inT6 (List.mem_of_getElem? (i := 36) rfl) rfl
theorem kw6_37 : (Jvm.Cond.selects "FrontChairs$History" ({ cls := "FrontChairs$History", name := "copyFrom", desc := "(LFrontChairs$History;)V" } : Jvm.MethodName) ({ cls := "FrontChairs$History", name := "copyFrom", desc := "(LFrontChairs$History;)V" } : Jvm.MethodName)) ∈ tb := inT6 (List.mem_of_getElem? (i := 37) rfl) rfl
theorem kw6_38 : (Jvm.Cond.code ({ cls := "FrontChairs$History", name := "copyFrom", desc := "(LFrontChairs$History;)V" } : Jvm.MethodName) prog_3_method_5_code (3 : Nat) (Option.none : Option Jvm.ClassFile.FieldType)) ∈ tb := inT6 (List.mem_of_getElem? (i := 38) rfl) rfl
theorem kw6_39 : (Jvm.Cond.methodLink "FrontChairsLaw" (279 : Nat) ({ cls := "FrontChairsLaw", name := "restore", desc := "(LFrontChairs;I)I" } : Jvm.MethodName)) ∈ tb := inT6 (List.mem_of_getElem? (i := 39) rfl) rfl
theorem kw6_40 : (Jvm.Cond.static ({ cls := "FrontChairsLaw", name := "restore", desc := "(LFrontChairs;I)I" } : Jvm.MethodName)) ∈ tb := inT6 (List.mem_of_getElem? (i := 40) rfl) rfl
theorem kw6_41 : (Jvm.Cond.codeWith ({ cls := "FrontChairsLaw", name := "restore", desc := "(LFrontChairs;I)I" } : Jvm.MethodName) method_37_code (3 : Nat) (Option.some Jvm.ClassFile.FieldType.int) [((0 : Nat), (5 : Nat), (8 : Nat), (19 : Nat)), ((0 : Nat), (5 : Nat), (11 : Nat), (44 : Nat))]) ∈ tb := inT6 (List.mem_of_getElem? (i := 41) rfl) rfl
theorem kw6_42 : (Jvm.Cond.methodLink "FrontChairsLaw" (127 : Nat) ({ cls := "FrontChairs", name := "restore", desc := "(I)V" } : Jvm.MethodName)) ∈ tb := inT6 (List.mem_of_getElem? (i := 42) rfl) rfl
theorem kw6_43 : (Jvm.Cond.instanceMethod ({ cls := "FrontChairs", name := "restore", desc := "(I)V" } : Jvm.MethodName)) ∈ tb := inT6 (List.mem_of_getElem? (i := 43) rfl) rfl
theorem kw6_44 : (Jvm.Cond.selects "FrontChairs" ({ cls := "FrontChairs", name := "restore", desc := "(I)V" } : Jvm.MethodName) ({ cls := "FrontChairs", name := "restore", desc := "(I)V" } : Jvm.MethodName)) ∈ tb := inT6 (List.mem_of_getElem? (i := 44) rfl) rfl
theorem kw6_45 : (Jvm.Cond.code ({ cls := "FrontChairs", name := "restore", desc := "(I)V" } : Jvm.MethodName) prog_1_method_43_code (2 : Nat) (Option.none : Option Jvm.ClassFile.FieldType)) ∈ tb := inT6 (List.mem_of_getElem? (i := 45) rfl) rfl
theorem kw6_47 : (Jvm.Cond.classLink "FrontChairsLaw" (131 : Nat) "FrontChairsModel") ∈ tb := inT6 (List.mem_of_getElem? (i := 47) rfl) rfl
theorem kw6_48 : (Jvm.Cond.instantiable "FrontChairsModel" (32 : Nat)) ∈ tb := inT6 (List.mem_of_getElem? (i := 48) rfl) rfl
theorem kw6_49 : (Jvm.Cond.methodLink "FrontChairsLaw" (133 : Nat) ({ cls := "FrontChairsModel", name := "<init>", desc := "()V" } : Jvm.MethodName)) ∈ tb := inT6 (List.mem_of_getElem? (i := 49) rfl) rfl
theorem kw6_50 : (Jvm.Cond.instanceMethod ({ cls := "FrontChairsModel", name := "<init>", desc := "()V" } : Jvm.MethodName)) ∈ tb := inT6 (List.mem_of_getElem? (i := 50) rfl) rfl
theorem kw6_51 : (Jvm.Cond.code ({ cls := "FrontChairsModel", name := "<init>", desc := "()V" } : Jvm.MethodName) prog_10_method_1_code (1 : Nat) (Option.none : Option Jvm.ClassFile.FieldType)) ∈ tb := inT6 (List.mem_of_getElem? (i := 51) rfl) rfl
theorem kw6_52 : (Jvm.Cond.methodLink "FrontChairsModel" (1 : Nat) ({ cls := "java/lang/Object", name := "<init>", desc := "()V" } : Jvm.MethodName)) ∈ tb := inT6 (List.mem_of_getElem? (i := 52) rfl) rfl
theorem kw6_53 : (Jvm.Cond.fieldLink "FrontChairsModel" (9 : Nat) "FrontChairsModel" "known" "[I") ∈ tb := inT6 (List.mem_of_getElem? (i := 53) rfl) rfl
theorem kw6_54 : (Jvm.Cond.fieldLink "FrontChairsModel" (13 : Nat) "FrontChairsModel" "telling" "[I") ∈ tb := inT6 (List.mem_of_getElem? (i := 54) rfl) rfl
theorem kw6_55 : (Jvm.Cond.fieldLink "FrontChairsModel" (16 : Nat) "FrontChairsModel" "images" "[I") ∈ tb := inT6 (List.mem_of_getElem? (i := 55) rfl) rfl
theorem kw6_56 : (Jvm.Cond.fieldLink "FrontChairsModel" (19 : Nat) "FrontChairsModel" "isImage" "[Z") ∈ tb := inT6 (List.mem_of_getElem? (i := 56) rfl) rfl
theorem kw6_57 : (Jvm.Cond.fieldLink "FrontChairsModel" (64 : Nat) "FrontChairsModel" "thrown" "I") ∈ tb := inT6 (List.mem_of_getElem? (i := 57) rfl) rfl
theorem kw6_58 : (Jvm.Cond.fieldLink "FrontChairsModel" (23 : Nat) "FrontChairsModel" "tape" "[I") ∈ tb := inT6 (List.mem_of_getElem? (i := 58) rfl) rfl
theorem kw6_59 : (Jvm.Cond.fieldLink "FrontChairsModel" (67 : Nat) "FrontChairsModel" "taped" "I") ∈ tb := inT6 (List.mem_of_getElem? (i := 59) rfl) rfl
theorem kw6_60 : (Jvm.Cond.fieldLink "FrontChairsModel" (70 : Nat) "FrontChairsModel" "length" "I") ∈ tb := inT6 (List.mem_of_getElem? (i := 60) rfl) rfl
theorem kw6_61 : (Jvm.Cond.fieldLink "FrontChairsModel" (73 : Nat) "FrontChairsModel" "head" "I") ∈ tb := inT6 (List.mem_of_getElem? (i := 61) rfl) rfl
theorem kw6_62 : (Jvm.Cond.fieldLink "FrontChairsModel" (76 : Nat) "FrontChairsModel" "begin" "I") ∈ tb := inT6 (List.mem_of_getElem? (i := 62) rfl) rfl
theorem kw6_63 : (Jvm.Cond.fieldLink "FrontChairsModel" (79 : Nat) "FrontChairsModel" "token" "I") ∈ tb := inT6 (List.mem_of_getElem? (i := 63) rfl) rfl
theorem kw6_64 : (Jvm.Cond.fieldLink "FrontChairsModel" (93 : Nat) "FrontChairsModel" "value" "I") ∈ tb := inT6 (List.mem_of_getElem? (i := 64) rfl) rfl
theorem kw6_65 : (Jvm.Cond.fieldLink "FrontChairsModel" (99 : Nat) "FrontChairsModel" "bad" "I") ∈ tb := inT6 (List.mem_of_getElem? (i := 65) rfl) rfl
theorem kw6_66 : (Jvm.Cond.fieldLink "FrontChairsModel" (102 : Nat) "FrontChairsModel" "badPlace" "I") ∈ tb := inT6 (List.mem_of_getElem? (i := 66) rfl) rfl
theorem kw6_67 : (Jvm.Cond.fieldLink "FrontChairsModel" (239 : Nat) "FrontChairsModel" "faultKind" "I") ∈ tb := inT6 (List.mem_of_getElem? (i := 67) rfl) rfl
theorem kw6_68 : (Jvm.Cond.fieldLink "FrontChairsModel" (26 : Nat) "FrontChairsModel" "faultPlace" "I") ∈ tb := inT6 (List.mem_of_getElem? (i := 68) rfl) rfl
theorem kw6_69 : (Jvm.Cond.fieldLink "FrontChairsModel" (141 : Nat) "FrontChairsModel" "deep" "I") ∈ tb := inT6 (List.mem_of_getElem? (i := 69) rfl) rfl
theorem kw6_70 : (Jvm.Cond.fieldLink "FrontChairsModel" (135 : Nat) "FrontChairsModel" "lawMany" "I") ∈ tb := inT6 (List.mem_of_getElem? (i := 70) rfl) rfl
theorem kw6_71 : (Jvm.Cond.fieldLink "FrontChairsModel" (132 : Nat) "FrontChairsModel" "lawAt" "I") ∈ tb := inT6 (List.mem_of_getElem? (i := 71) rfl) rfl
theorem kw6_72 : (Jvm.Cond.fieldLink "FrontChairsModel" (30 : Nat) "FrontChairsModel" "stack" "[I") ∈ tb := inT6 (List.mem_of_getElem? (i := 72) rfl) rfl
theorem kw6_73 : (Jvm.Cond.fieldLink "FrontChairsModel" (33 : Nat) "FrontChairsModel" "asked" "[I") ∈ tb := inT6 (List.mem_of_getElem? (i := 73) rfl) rfl
theorem kw6_74 : (Jvm.Cond.fieldLink "FrontChairsModel" (36 : Nat) "FrontChairsModel" "aside" "[I") ∈ tb := inT6 (List.mem_of_getElem? (i := 74) rfl) rfl
theorem kw6_75 : (Jvm.Cond.fieldLink "FrontChairsModel" (385 : Nat) "FrontChairsModel" "state" "I") ∈ tb := inT6 (List.mem_of_getElem? (i := 75) rfl) rfl
theorem kw6_76 : (Jvm.Cond.fieldLink "FrontChairsModel" (39 : Nat) "FrontChairsModel" "often" "[I") ∈ tb := inT6 (List.mem_of_getElem? (i := 76) rfl) rfl
theorem kw6_77 : (Jvm.Cond.fieldLink "FrontChairsModel" (42 : Nat) "FrontChairsModel" "risen" "[I") ∈ tb := inT6 (List.mem_of_getElem? (i := 77) rfl) rfl
theorem kw6_78 : (Jvm.Cond.fieldLink "FrontChairsModel" (45 : Nat) "FrontChairsModel" "levels" "[I") ∈ tb := inT6 (List.mem_of_getElem? (i := 78) rfl) rfl
theorem kw6_79 : (Jvm.Cond.fieldLink "FrontChairsModel" (455 : Nat) "FrontChairsModel" "twoMany" "I") ∈ tb := inT6 (List.mem_of_getElem? (i := 79) rfl) rfl
theorem kw6_80 : (Jvm.Cond.fieldLink "FrontChairsModel" (48 : Nat) "FrontChairsModel" "twos" "[I") ∈ tb := inT6 (List.mem_of_getElem? (i := 80) rfl) rfl
theorem kw6_81 : (Jvm.Cond.fieldLink "FrontChairsModel" (51 : Nat) "FrontChairsModel" "placesThen" "[I") ∈ tb := inT6 (List.mem_of_getElem? (i := 81) rfl) rfl
theorem kw6_82 : (Jvm.Cond.fieldLink "FrontChairsModel" (54 : Nat) "FrontChairsModel" "tSort" "[I") ∈ tb := inT6 (List.mem_of_getElem? (i := 82) rfl) rfl
theorem kw6_83 : (Jvm.Cond.fieldLink "FrontChairsModel" (57 : Nat) "FrontChairsModel" "tMany" "[I") ∈ tb := inT6 (List.mem_of_getElem? (i := 83) rfl) rfl
theorem kw6_84 : (Jvm.Cond.fieldLink "FrontChairsModel" (60 : Nat) "FrontChairsModel" "numbers" "[J") ∈ tb := inT6 (List.mem_of_getElem? (i := 84) rfl) rfl
theorem kw6_85 : (Jvm.Cond.laysFinal "FrontChairsModel" "FrontChairsModel" "known" "[I") ∈ tb := inT6 (List.mem_of_getElem? (i := 85) rfl) rfl
theorem kw6_87 : (Jvm.Cond.laysFinal "FrontChairsModel" "FrontChairsModel" "telling" "[I") ∈ tb := inT6 (List.mem_of_getElem? (i := 87) rfl) rfl
theorem kw6_89 : (Jvm.Cond.laysFinal "FrontChairsModel" "FrontChairsModel" "images" "[I") ∈ tb := inT6 (List.mem_of_getElem? (i := 89) rfl) rfl
theorem kw6_91 : (Jvm.Cond.laysFinal "FrontChairsModel" "FrontChairsModel" "isImage" "[Z") ∈ tb := inT6 (List.mem_of_getElem? (i := 91) rfl) rfl
theorem kw6_93 : (Jvm.Cond.lays "FrontChairsModel" "FrontChairsModel" "thrown" "I") ∈ tb := inT6 (List.mem_of_getElem? (i := 93) rfl) rfl
theorem kw6_95 : (Jvm.Cond.laysFinal "FrontChairsModel" "FrontChairsModel" "tape" "[I") ∈ tb := inT6 (List.mem_of_getElem? (i := 95) rfl) rfl
theorem kw6_97 : (Jvm.Cond.lays "FrontChairsModel" "FrontChairsModel" "taped" "I") ∈ tb := inT6 (List.mem_of_getElem? (i := 97) rfl) rfl
theorem kw6_99 : (Jvm.Cond.lays "FrontChairsModel" "FrontChairsModel" "length" "I") ∈ tb := inT6 (List.mem_of_getElem? (i := 99) rfl) rfl
theorem kw6_101 : (Jvm.Cond.lays "FrontChairsModel" "FrontChairsModel" "head" "I") ∈ tb := inT6 (List.mem_of_getElem? (i := 101) rfl) rfl
theorem kw6_103 : (Jvm.Cond.lays "FrontChairsModel" "FrontChairsModel" "begin" "I") ∈ tb := inT6 (List.mem_of_getElem? (i := 103) rfl) rfl
theorem kw6_105 : (Jvm.Cond.lays "FrontChairsModel" "FrontChairsModel" "token" "I") ∈ tb := inT6 (List.mem_of_getElem? (i := 105) rfl) rfl
theorem kw6_107 : (Jvm.Cond.lays "FrontChairsModel" "FrontChairsModel" "value" "I") ∈ tb := inT6 (List.mem_of_getElem? (i := 107) rfl) rfl
theorem kw6_109 : (Jvm.Cond.lays "FrontChairsModel" "FrontChairsModel" "bad" "I") ∈ tb := inT6 (List.mem_of_getElem? (i := 109) rfl) rfl
theorem kw6_111 : (Jvm.Cond.lays "FrontChairsModel" "FrontChairsModel" "badPlace" "I") ∈ tb := inT6 (List.mem_of_getElem? (i := 111) rfl) rfl
theorem kw6_113 : (Jvm.Cond.lays "FrontChairsModel" "FrontChairsModel" "faultKind" "I") ∈ tb := inT6 (List.mem_of_getElem? (i := 113) rfl) rfl
theorem kw6_115 : (Jvm.Cond.lays "FrontChairsModel" "FrontChairsModel" "faultPlace" "I") ∈ tb := inT6 (List.mem_of_getElem? (i := 115) rfl) rfl
theorem kw6_117 : (Jvm.Cond.lays "FrontChairsModel" "FrontChairsModel" "deep" "I") ∈ tb := inT6 (List.mem_of_getElem? (i := 117) rfl) rfl
theorem kw6_119 : (Jvm.Cond.lays "FrontChairsModel" "FrontChairsModel" "lawMany" "I") ∈ tb := inT6 (List.mem_of_getElem? (i := 119) rfl) rfl
theorem kw6_121 : (Jvm.Cond.lays "FrontChairsModel" "FrontChairsModel" "lawAt" "I") ∈ tb := inT6 (List.mem_of_getElem? (i := 121) rfl) rfl
theorem kw6_123 : (Jvm.Cond.laysFinal "FrontChairsModel" "FrontChairsModel" "stack" "[I") ∈ tb := inT6 (List.mem_of_getElem? (i := 123) rfl) rfl
theorem kw6_125 : (Jvm.Cond.laysFinal "FrontChairsModel" "FrontChairsModel" "asked" "[I") ∈ tb := inT6 (List.mem_of_getElem? (i := 125) rfl) rfl
theorem kw6_127 : (Jvm.Cond.laysFinal "FrontChairsModel" "FrontChairsModel" "aside" "[I") ∈ tb := inT6 (List.mem_of_getElem? (i := 127) rfl) rfl
theorem kw6_129 : (Jvm.Cond.lays "FrontChairsModel" "FrontChairsModel" "state" "I") ∈ tb := inT6 (List.mem_of_getElem? (i := 129) rfl) rfl
theorem kw6_131 : (Jvm.Cond.laysFinal "FrontChairsModel" "FrontChairsModel" "often" "[I") ∈ tb := inT6 (List.mem_of_getElem? (i := 131) rfl) rfl
theorem kw6_133 : (Jvm.Cond.laysFinal "FrontChairsModel" "FrontChairsModel" "risen" "[I") ∈ tb := inT6 (List.mem_of_getElem? (i := 133) rfl) rfl
theorem kw6_135 : (Jvm.Cond.laysFinal "FrontChairsModel" "FrontChairsModel" "levels" "[I") ∈ tb := inT6 (List.mem_of_getElem? (i := 135) rfl) rfl
theorem kw6_137 : (Jvm.Cond.lays "FrontChairsModel" "FrontChairsModel" "twoMany" "I") ∈ tb := inT6 (List.mem_of_getElem? (i := 137) rfl) rfl
theorem kw6_139 : (Jvm.Cond.laysFinal "FrontChairsModel" "FrontChairsModel" "twos" "[I") ∈ tb := inT6 (List.mem_of_getElem? (i := 139) rfl) rfl
theorem kw6_141 : (Jvm.Cond.laysFinal "FrontChairsModel" "FrontChairsModel" "placesThen" "[I") ∈ tb := inT6 (List.mem_of_getElem? (i := 141) rfl) rfl
theorem kw6_143 : (Jvm.Cond.laysFinal "FrontChairsModel" "FrontChairsModel" "tSort" "[I") ∈ tb := inT6 (List.mem_of_getElem? (i := 143) rfl) rfl
theorem kw6_145 : (Jvm.Cond.laysFinal "FrontChairsModel" "FrontChairsModel" "tMany" "[I") ∈ tb := inT6 (List.mem_of_getElem? (i := 145) rfl) rfl
theorem kw6_147 : (Jvm.Cond.laysFinal "FrontChairsModel" "FrontChairsModel" "numbers" "[J") ∈ tb := inT6 (List.mem_of_getElem? (i := 147) rfl) rfl
theorem kw6_150 : (Jvm.Cond.arrayClass Jvm.ClassFile.FieldType.boolean) ∈ tb := inT6 (List.mem_of_getElem? (i := 150) rfl) rfl
theorem kw6_151 : (Jvm.Cond.methodLink "FrontChairsLaw" (145 : Nat) ({ cls := "FrontChairsModel", name := "thrown", desc := "()I" } : Jvm.MethodName)) ∈ tb := inT6 (List.mem_of_getElem? (i := 151) rfl) rfl
theorem kw6_152 : (Jvm.Cond.instanceMethod ({ cls := "FrontChairsModel", name := "thrown", desc := "()I" } : Jvm.MethodName)) ∈ tb := inT6 (List.mem_of_getElem? (i := 152) rfl) rfl
theorem kw6_153 : (Jvm.Cond.selects "FrontChairsModel" ({ cls := "FrontChairsModel", name := "thrown", desc := "()I" } : Jvm.MethodName) ({ cls := "FrontChairsModel", name := "thrown", desc := "()I" } : Jvm.MethodName)) ∈ tb := inT6 (List.mem_of_getElem? (i := 153) rfl) rfl
theorem kw6_154 : (Jvm.Cond.code ({ cls := "FrontChairsModel", name := "thrown", desc := "()I" } : Jvm.MethodName) prog_10_method_2_code (1 : Nat) (Option.some Jvm.ClassFile.FieldType.int)) ∈ tb := inT6 (List.mem_of_getElem? (i := 154) rfl) rfl
theorem kw6_155 : (Jvm.Cond.methodLink "FrontChairsLaw" (138 : Nat) ({ cls := "FrontChairsModel", name := "feed", desc := "(IIIII)I" } : Jvm.MethodName)) ∈ tb := inT6 (List.mem_of_getElem? (i := 155) rfl) rfl
theorem kw6_156 : (Jvm.Cond.instanceMethod ({ cls := "FrontChairsModel", name := "feed", desc := "(IIIII)I" } : Jvm.MethodName)) ∈ tb := inT6 (List.mem_of_getElem? (i := 156) rfl) rfl
theorem kw6_157 : (Jvm.Cond.selects "FrontChairsModel" ({ cls := "FrontChairsModel", name := "feed", desc := "(IIIII)I" } : Jvm.MethodName) ({ cls := "FrontChairsModel", name := "feed", desc := "(IIIII)I" } : Jvm.MethodName)) ∈ tb := inT6 (List.mem_of_getElem? (i := 157) rfl) rfl
theorem kw6_158 : (Jvm.Cond.code ({ cls := "FrontChairsModel", name := "feed", desc := "(IIIII)I" } : Jvm.MethodName) prog_10_method_7_code (8 : Nat) (Option.some Jvm.ClassFile.FieldType.int)) ∈ tb := inT6 (List.mem_of_getElem? (i := 158) rfl) rfl
theorem kw6_159 : (Jvm.Cond.methodLink "FrontChairsLaw" (144 : Nat) ({ cls := "FrontChairsModel", name := "beach", desc := "(I)I" } : Jvm.MethodName)) ∈ tb := inT6 (List.mem_of_getElem? (i := 159) rfl) rfl
theorem kw6_160 : (Jvm.Cond.instanceMethod ({ cls := "FrontChairsModel", name := "beach", desc := "(I)I" } : Jvm.MethodName)) ∈ tb := inT6 (List.mem_of_getElem? (i := 160) rfl) rfl
theorem kw6_161 : (Jvm.Cond.selects "FrontChairsModel" ({ cls := "FrontChairsModel", name := "beach", desc := "(I)I" } : Jvm.MethodName) ({ cls := "FrontChairsModel", name := "beach", desc := "(I)I" } : Jvm.MethodName)) ∈ tb := inT6 (List.mem_of_getElem? (i := 161) rfl) rfl
theorem kw6_162 : (Jvm.Cond.code ({ cls := "FrontChairsModel", name := "beach", desc := "(I)I" } : Jvm.MethodName) prog_10_method_35_code (3 : Nat) (Option.some Jvm.ClassFile.FieldType.int)) ∈ tb := inT6 (List.mem_of_getElem? (i := 162) rfl) rfl
theorem kw6_163 : (Jvm.Cond.methodLink "FrontChairsModel" (125 : Nat) ({ cls := "FrontChairsModel", name := "within", desc := "(JJJ)Z" } : Jvm.MethodName)) ∈ tb := inT6 (List.mem_of_getElem? (i := 163) rfl) rfl
theorem kw6_164 : (Jvm.Cond.static ({ cls := "FrontChairsModel", name := "within", desc := "(JJJ)Z" } : Jvm.MethodName)) ∈ tb := inT6 (List.mem_of_getElem? (i := 164) rfl) rfl
theorem kw6_165 : (Jvm.Cond.code ({ cls := "FrontChairsModel", name := "within", desc := "(JJJ)Z" } : Jvm.MethodName) prog_10_method_4_code (6 : Nat) (Option.some Jvm.ClassFile.FieldType.boolean)) ∈ tb := inT6 (List.mem_of_getElem? (i := 165) rfl) rfl
theorem kw6_166 : (Jvm.Cond.methodLink "FrontChairsModel" (231 : Nat) ({ cls := "FrontChairsModel", name := "fails", desc := "(I)I" } : Jvm.MethodName)) ∈ tb := inT6 (List.mem_of_getElem? (i := 166) rfl) rfl
theorem kw6_168 : (Jvm.Cond.instanceMethod ({ cls := "FrontChairsModel", name := "fails", desc := "(I)I" } : Jvm.MethodName)) ∈ tb := inT6 (List.mem_of_getElem? (i := 168) rfl) rfl
theorem kw6_169 : (Jvm.Cond.code ({ cls := "FrontChairsModel", name := "fails", desc := "(I)I" } : Jvm.MethodName) prog_10_method_3_code (2 : Nat) (Option.some Jvm.ClassFile.FieldType.int)) ∈ tb := inT6 (List.mem_of_getElem? (i := 169) rfl) rfl
theorem kw6_170 : (Jvm.Cond.methodLink "FrontChairsModel" (118 : Nat) ({ cls := "FrontChairsModel", name := "readsOn", desc := "()V" } : Jvm.MethodName)) ∈ tb := inT6 (List.mem_of_getElem? (i := 170) rfl) rfl
theorem kw6_172 : (Jvm.Cond.instanceMethod ({ cls := "FrontChairsModel", name := "readsOn", desc := "()V" } : Jvm.MethodName)) ∈ tb := inT6 (List.mem_of_getElem? (i := 172) rfl) rfl
theorem kw6_173 : (Jvm.Cond.code ({ cls := "FrontChairsModel", name := "readsOn", desc := "()V" } : Jvm.MethodName) prog_10_method_12_code (2 : Nat) (Option.none : Option Jvm.ClassFile.FieldType)) ∈ tb := inT6 (List.mem_of_getElem? (i := 173) rfl) rfl
theorem kw6_174 : (Jvm.Cond.methodLink "FrontChairsModel" (82 : Nat) ({ cls := "FrontChairsModel", name := "isLetter", desc := "(I)Z" } : Jvm.MethodName)) ∈ tb := inT6 (List.mem_of_getElem? (i := 174) rfl) rfl
theorem kw6_175 : (Jvm.Cond.static ({ cls := "FrontChairsModel", name := "isLetter", desc := "(I)Z" } : Jvm.MethodName)) ∈ tb := inT6 (List.mem_of_getElem? (i := 175) rfl) rfl
theorem kw6_176 : (Jvm.Cond.code ({ cls := "FrontChairsModel", name := "isLetter", desc := "(I)Z" } : Jvm.MethodName) prog_10_method_9_code (1 : Nat) (Option.some Jvm.ClassFile.FieldType.boolean)) ∈ tb := inT6 (List.mem_of_getElem? (i := 176) rfl) rfl
theorem kw6_177 : (Jvm.Cond.methodLink "FrontChairsModel" (86 : Nat) ({ cls := "FrontChairsModel", name := "see", desc := "(I)I" } : Jvm.MethodName)) ∈ tb := inT6 (List.mem_of_getElem? (i := 177) rfl) rfl
theorem kw6_179 : (Jvm.Cond.instanceMethod ({ cls := "FrontChairsModel", name := "see", desc := "(I)I" } : Jvm.MethodName)) ∈ tb := inT6 (List.mem_of_getElem? (i := 179) rfl) rfl
theorem kw6_180 : (Jvm.Cond.code ({ cls := "FrontChairsModel", name := "see", desc := "(I)I" } : Jvm.MethodName) prog_10_method_8_code (2 : Nat) (Option.some Jvm.ClassFile.FieldType.int)) ∈ tb := inT6 (List.mem_of_getElem? (i := 180) rfl) rfl
theorem kw6_181 : (Jvm.Cond.methodLink "FrontChairsModel" (90 : Nat) ({ cls := "FrontChairsModel", name := "isDigit", desc := "(I)Z" } : Jvm.MethodName)) ∈ tb := inT6 (List.mem_of_getElem? (i := 181) rfl) rfl
theorem kw6_182 : (Jvm.Cond.static ({ cls := "FrontChairsModel", name := "isDigit", desc := "(I)Z" } : Jvm.MethodName)) ∈ tb := inT6 (List.mem_of_getElem? (i := 182) rfl) rfl
theorem kw6_183 : (Jvm.Cond.code ({ cls := "FrontChairsModel", name := "isDigit", desc := "(I)Z" } : Jvm.MethodName) prog_10_method_10_code (1 : Nat) (Option.some Jvm.ClassFile.FieldType.boolean)) ∈ tb := inT6 (List.mem_of_getElem? (i := 183) rfl) rfl
theorem kw6_184 : (Jvm.Cond.methodLink "FrontChairsModel" (96 : Nat) ({ cls := "FrontChairsModel", name := "isSignByte", desc := "(I)Z" } : Jvm.MethodName)) ∈ tb := inT6 (List.mem_of_getElem? (i := 184) rfl) rfl
theorem kw6_185 : (Jvm.Cond.static ({ cls := "FrontChairsModel", name := "isSignByte", desc := "(I)Z" } : Jvm.MethodName)) ∈ tb := inT6 (List.mem_of_getElem? (i := 185) rfl) rfl
theorem kw6_186 : (Jvm.Cond.code ({ cls := "FrontChairsModel", name := "isSignByte", desc := "(I)Z" } : Jvm.MethodName) prog_10_method_11_code (2 : Nat) (Option.some Jvm.ClassFile.FieldType.boolean)) ∈ tb := inT6 (List.mem_of_getElem? (i := 186) rfl) rfl
theorem kw6_188 : (Jvm.Cond.methodLink "FrontChairsModel" (196 : Nat) ({ cls := "FrontChairsModel", name := "mustWord", desc := "(Ljava/lang/String;)V" } : Jvm.MethodName)) ∈ tb := inT6 (List.mem_of_getElem? (i := 188) rfl) rfl
theorem kw6_190 : (Jvm.Cond.instanceMethod ({ cls := "FrontChairsModel", name := "mustWord", desc := "(Ljava/lang/String;)V" } : Jvm.MethodName)) ∈ tb := inT6 (List.mem_of_getElem? (i := 190) rfl) rfl
theorem kw6_191 : (Jvm.Cond.code ({ cls := "FrontChairsModel", name := "mustWord", desc := "(Ljava/lang/String;)V" } : Jvm.MethodName) prog_10_method_19_code (2 : Nat) (Option.none : Option Jvm.ClassFile.FieldType)) ∈ tb := inT6 (List.mem_of_getElem? (i := 191) rfl) rfl
theorem kw6_192 : (Jvm.Cond.methodLink "FrontChairsModel" (129 : Nat) ({ cls := "FrontChairsModel", name := "took", desc := "(Ljava/lang/String;)Z" } : Jvm.MethodName)) ∈ tb := inT6 (List.mem_of_getElem? (i := 192) rfl) rfl
theorem kw6_194 : (Jvm.Cond.instanceMethod ({ cls := "FrontChairsModel", name := "took", desc := "(Ljava/lang/String;)Z" } : Jvm.MethodName)) ∈ tb := inT6 (List.mem_of_getElem? (i := 194) rfl) rfl
theorem kw6_195 : (Jvm.Cond.code ({ cls := "FrontChairsModel", name := "took", desc := "(Ljava/lang/String;)Z" } : Jvm.MethodName) prog_10_method_15_code (3 : Nat) (Option.some Jvm.ClassFile.FieldType.boolean)) ∈ tb := inT6 (List.mem_of_getElem? (i := 195) rfl) rfl
theorem kw6_196 : (Jvm.Cond.methodLink "FrontChairsModel" (114 : Nat) ({ cls := "FrontChairsModel", name := "isWord", desc := "(Ljava/lang/String;)Z" } : Jvm.MethodName)) ∈ tb := inT6 (List.mem_of_getElem? (i := 196) rfl) rfl
theorem kw6_198 : (Jvm.Cond.instanceMethod ({ cls := "FrontChairsModel", name := "isWord", desc := "(Ljava/lang/String;)Z" } : Jvm.MethodName)) ∈ tb := inT6 (List.mem_of_getElem? (i := 198) rfl) rfl
theorem kw6_199 : (Jvm.Cond.code ({ cls := "FrontChairsModel", name := "isWord", desc := "(Ljava/lang/String;)Z" } : Jvm.MethodName) prog_10_method_14_code (4 : Nat) (Option.some Jvm.ClassFile.FieldType.boolean)) ∈ tb := inT6 (List.mem_of_getElem? (i := 199) rfl) rfl
theorem kw6_200 : (Jvm.Cond.methodLink "FrontChairsModel" (105 : Nat) ({ cls := "java/lang/String", name := "length", desc := "()I" } : Jvm.MethodName)) ∈ tb := inT6 (List.mem_of_getElem? (i := 200) rfl) rfl
theorem kw6_201 : (Jvm.Cond.methodLink "FrontChairsModel" (110 : Nat) ({ cls := "java/lang/String", name := "charAt", desc := "(I)C" } : Jvm.MethodName)) ∈ tb := inT6 (List.mem_of_getElem? (i := 201) rfl) rfl
theorem kw6_202 : (Jvm.Cond.methodLink "FrontChairsModel" (121 : Nat) ({ cls := "FrontChairsModel", name := "blames", desc := "(I)V" } : Jvm.MethodName)) ∈ tb := inT6 (List.mem_of_getElem? (i := 202) rfl) rfl
theorem kw6_204 : (Jvm.Cond.instanceMethod ({ cls := "FrontChairsModel", name := "blames", desc := "(I)V" } : Jvm.MethodName)) ∈ tb := inT6 (List.mem_of_getElem? (i := 204) rfl) rfl
theorem kw6_205 : (Jvm.Cond.code ({ cls := "FrontChairsModel", name := "blames", desc := "(I)V" } : Jvm.MethodName) prog_10_method_13_code (2 : Nat) (Option.none : Option Jvm.ClassFile.FieldType)) ∈ tb := inT6 (List.mem_of_getElem? (i := 205) rfl) rfl
theorem kw6_206 : (Jvm.Cond.methodLink "FrontChairsModel" (190 : Nat) ({ cls := "FrontChairsModel", name := "number", desc := "(II)I" } : Jvm.MethodName)) ∈ tb := inT6 (List.mem_of_getElem? (i := 206) rfl) rfl
theorem kw6_208 : (Jvm.Cond.instanceMethod ({ cls := "FrontChairsModel", name := "number", desc := "(II)I" } : Jvm.MethodName)) ∈ tb := inT6 (List.mem_of_getElem? (i := 208) rfl) rfl
theorem kw6_209 : (Jvm.Cond.code ({ cls := "FrontChairsModel", name := "number", desc := "(II)I" } : Jvm.MethodName) prog_10_method_18_code (4 : Nat) (Option.some Jvm.ClassFile.FieldType.int)) ∈ tb := inT6 (List.mem_of_getElem? (i := 209) rfl) rfl
theorem kw6_210 : (Jvm.Cond.methodLink "FrontChairsModel" (228 : Nat) ({ cls := "FrontChairsModel", name := "readStop", desc := "()V" } : Jvm.MethodName)) ∈ tb := inT6 (List.mem_of_getElem? (i := 210) rfl) rfl
theorem kw6_212 : (Jvm.Cond.instanceMethod ({ cls := "FrontChairsModel", name := "readStop", desc := "()V" } : Jvm.MethodName)) ∈ tb := inT6 (List.mem_of_getElem? (i := 212) rfl) rfl
theorem kw6_213 : (Jvm.Cond.code ({ cls := "FrontChairsModel", name := "readStop", desc := "()V" } : Jvm.MethodName) prog_10_method_33_code (1 : Nat) (Option.none : Option Jvm.ClassFile.FieldType)) ∈ tb := inT6 (List.mem_of_getElem? (i := 213) rfl) rfl
theorem kw6_214 : (Jvm.Cond.methodLink "FrontChairsModel" (138 : Nat) ({ cls := "FrontChairsModel", name := "mustSign", desc := "(I)V" } : Jvm.MethodName)) ∈ tb := inT6 (List.mem_of_getElem? (i := 214) rfl) rfl
theorem kw6_216 : (Jvm.Cond.instanceMethod ({ cls := "FrontChairsModel", name := "mustSign", desc := "(I)V" } : Jvm.MethodName)) ∈ tb := inT6 (List.mem_of_getElem? (i := 216) rfl) rfl
theorem kw6_217 : (Jvm.Cond.code ({ cls := "FrontChairsModel", name := "mustSign", desc := "(I)V" } : Jvm.MethodName) prog_10_method_17_code (2 : Nat) (Option.none : Option Jvm.ClassFile.FieldType)) ∈ tb := inT6 (List.mem_of_getElem? (i := 217) rfl) rfl
theorem kw6_218 : (Jvm.Cond.methodLink "FrontChairsModel" (236 : Nat) ({ cls := "FrontChairsModel", name := "readLine", desc := "()V" } : Jvm.MethodName)) ∈ tb := inT6 (List.mem_of_getElem? (i := 218) rfl) rfl
theorem kw6_220 : (Jvm.Cond.instanceMethod ({ cls := "FrontChairsModel", name := "readLine", desc := "()V" } : Jvm.MethodName)) ∈ tb := inT6 (List.mem_of_getElem? (i := 220) rfl) rfl
theorem kw6_221 : (Jvm.Cond.code ({ cls := "FrontChairsModel", name := "readLine", desc := "()V" } : Jvm.MethodName) prog_10_method_34_code (1 : Nat) (Option.none : Option Jvm.ClassFile.FieldType)) ∈ tb := inT6 (List.mem_of_getElem? (i := 221) rfl) rfl
theorem kw6_223 : (Jvm.Cond.methodLink "FrontChairsModel" (215 : Nat) ({ cls := "FrontChairsModel", name := "readPerson", desc := "()V" } : Jvm.MethodName)) ∈ tb := inT6 (List.mem_of_getElem? (i := 223) rfl) rfl
theorem kw6_225 : (Jvm.Cond.instanceMethod ({ cls := "FrontChairsModel", name := "readPerson", desc := "()V" } : Jvm.MethodName)) ∈ tb := inT6 (List.mem_of_getElem? (i := 225) rfl) rfl
theorem kw6_226 : (Jvm.Cond.code ({ cls := "FrontChairsModel", name := "readPerson", desc := "()V" } : Jvm.MethodName) prog_10_method_31_code (5 : Nat) (Option.none : Option Jvm.ClassFile.FieldType)) ∈ tb := inT6 (List.mem_of_getElem? (i := 226) rfl) rfl
theorem kw6_228 : (Jvm.Cond.methodLink "FrontChairsModel" (200 : Nat) ({ cls := "FrontChairsModel", name := "isSeatTold", desc := "(II)Z" } : Jvm.MethodName)) ∈ tb := inT6 (List.mem_of_getElem? (i := 228) rfl) rfl
theorem kw6_230 : (Jvm.Cond.instanceMethod ({ cls := "FrontChairsModel", name := "isSeatTold", desc := "(II)Z" } : Jvm.MethodName)) ∈ tb := inT6 (List.mem_of_getElem? (i := 230) rfl) rfl
theorem kw6_231 : (Jvm.Cond.code ({ cls := "FrontChairsModel", name := "isSeatTold", desc := "(II)Z" } : Jvm.MethodName) prog_10_method_30_code (4 : Nat) (Option.some Jvm.ClassFile.FieldType.boolean)) ∈ tb := inT6 (List.mem_of_getElem? (i := 231) rfl) rfl
theorem kw6_235 : (Jvm.Cond.methodLink "FrontChairsModel" (208 : Nat) ({ cls := "FrontChairsModel", name := "readPlan", desc := "(I)V" } : Jvm.MethodName)) ∈ tb := inT6 (List.mem_of_getElem? (i := 235) rfl) rfl
theorem kw6_237 : (Jvm.Cond.instanceMethod ({ cls := "FrontChairsModel", name := "readPlan", desc := "(I)V" } : Jvm.MethodName)) ∈ tb := inT6 (List.mem_of_getElem? (i := 237) rfl) rfl
theorem kw6_238 : (Jvm.Cond.code ({ cls := "FrontChairsModel", name := "readPlan", desc := "(I)V" } : Jvm.MethodName) prog_10_method_32_code (2 : Nat) (Option.none : Option Jvm.ClassFile.FieldType)) ∈ tb := inT6 (List.mem_of_getElem? (i := 238) rfl) rfl
theorem kw7_2 : (Jvm.Cond.methodLink "FrontChairsModel" (220 : Nat) ({ cls := "FrontChairsModel", name := "beginsLaw", desc := "(II)V" } : Jvm.MethodName)) ∈ tb := inT7 (List.mem_of_getElem? (i := 2) rfl) rfl
theorem kw7_4 : (Jvm.Cond.instanceMethod ({ cls := "FrontChairsModel", name := "beginsLaw", desc := "(II)V" } : Jvm.MethodName)) ∈ tb := inT7 (List.mem_of_getElem? (i := 4) rfl) rfl
theorem kw7_5 : (Jvm.Cond.code ({ cls := "FrontChairsModel", name := "beginsLaw", desc := "(II)V" } : Jvm.MethodName) prog_10_method_21_code (3 : Nat) (Option.none : Option Jvm.ClassFile.FieldType)) ∈ tb := inT7 (List.mem_of_getElem? (i := 5) rfl) rfl
theorem kw7_6 : (Jvm.Cond.methodLink "FrontChairsModel" (165 : Nat) ({ cls := "FrontChairsModel", name := "readTruth", desc := "()V" } : Jvm.MethodName)) ∈ tb := inT7 (List.mem_of_getElem? (i := 6) rfl) rfl
theorem kw7_8 : (Jvm.Cond.instanceMethod ({ cls := "FrontChairsModel", name := "readTruth", desc := "()V" } : Jvm.MethodName)) ∈ tb := inT7 (List.mem_of_getElem? (i := 8) rfl) rfl
theorem kw7_9 : (Jvm.Cond.code ({ cls := "FrontChairsModel", name := "readTruth", desc := "()V" } : Jvm.MethodName) prog_10_method_23_code (1 : Nat) (Option.none : Option Jvm.ClassFile.FieldType)) ∈ tb := inT7 (List.mem_of_getElem? (i := 9) rfl) rfl
theorem kw7_10 : (Jvm.Cond.methodLink "FrontChairsModel" (144 : Nat) ({ cls := "FrontChairsModel", name := "readBoth", desc := "()V" } : Jvm.MethodName)) ∈ tb := inT7 (List.mem_of_getElem? (i := 10) rfl) rfl
theorem kw7_12 : (Jvm.Cond.instanceMethod ({ cls := "FrontChairsModel", name := "readBoth", desc := "()V" } : Jvm.MethodName)) ∈ tb := inT7 (List.mem_of_getElem? (i := 12) rfl) rfl
theorem kw7_13 : (Jvm.Cond.code ({ cls := "FrontChairsModel", name := "readBoth", desc := "()V" } : Jvm.MethodName) prog_10_method_24_code (1 : Nat) (Option.none : Option Jvm.ClassFile.FieldType)) ∈ tb := inT7 (List.mem_of_getElem? (i := 13) rfl) rfl
theorem kw7_14 : (Jvm.Cond.methodLink "FrontChairsModel" (152 : Nat) ({ cls := "FrontChairsModel", name := "readUnit", desc := "()V" } : Jvm.MethodName)) ∈ tb := inT7 (List.mem_of_getElem? (i := 14) rfl) rfl
theorem kw7_16 : (Jvm.Cond.instanceMethod ({ cls := "FrontChairsModel", name := "readUnit", desc := "()V" } : Jvm.MethodName)) ∈ tb := inT7 (List.mem_of_getElem? (i := 16) rfl) rfl
theorem kw7_17 : (Jvm.Cond.code ({ cls := "FrontChairsModel", name := "readUnit", desc := "()V" } : Jvm.MethodName) prog_10_method_25_code (2 : Nat) (Option.none : Option Jvm.ClassFile.FieldType)) ∈ tb := inT7 (List.mem_of_getElem? (i := 17) rfl) rfl
theorem kw7_19 : (Jvm.Cond.methodLink "FrontChairsModel" (159 : Nat) ({ cls := "FrontChairsModel", name := "goesIn", desc := "()V" } : Jvm.MethodName)) ∈ tb := inT7 (List.mem_of_getElem? (i := 19) rfl) rfl
theorem kw7_21 : (Jvm.Cond.instanceMethod ({ cls := "FrontChairsModel", name := "goesIn", desc := "()V" } : Jvm.MethodName)) ∈ tb := inT7 (List.mem_of_getElem? (i := 21) rfl) rfl
theorem kw7_22 : (Jvm.Cond.code ({ cls := "FrontChairsModel", name := "goesIn", desc := "()V" } : Jvm.MethodName) prog_10_method_22_code (1 : Nat) (Option.none : Option Jvm.ClassFile.FieldType)) ∈ tb := inT7 (List.mem_of_getElem? (i := 22) rfl) rfl
theorem kw7_23 : (Jvm.Cond.methodLink "FrontChairsModel" (149 : Nat) ({ cls := "FrontChairsModel", name := "laysStep", desc := "(I)V" } : Jvm.MethodName)) ∈ tb := inT7 (List.mem_of_getElem? (i := 23) rfl) rfl
theorem kw7_25 : (Jvm.Cond.instanceMethod ({ cls := "FrontChairsModel", name := "laysStep", desc := "(I)V" } : Jvm.MethodName)) ∈ tb := inT7 (List.mem_of_getElem? (i := 25) rfl) rfl
theorem kw7_26 : (Jvm.Cond.code ({ cls := "FrontChairsModel", name := "laysStep", desc := "(I)V" } : Jvm.MethodName) prog_10_method_20_code (2 : Nat) (Option.none : Option Jvm.ClassFile.FieldType)) ∈ tb := inT7 (List.mem_of_getElem? (i := 26) rfl) rfl
theorem kw7_27 : (Jvm.Cond.methodLink "FrontChairsModel" (162 : Nat) ({ cls := "FrontChairsModel", name := "isSign", desc := "(I)Z" } : Jvm.MethodName)) ∈ tb := inT7 (List.mem_of_getElem? (i := 27) rfl) rfl
theorem kw7_29 : (Jvm.Cond.instanceMethod ({ cls := "FrontChairsModel", name := "isSign", desc := "(I)Z" } : Jvm.MethodName)) ∈ tb := inT7 (List.mem_of_getElem? (i := 29) rfl) rfl
theorem kw7_30 : (Jvm.Cond.code ({ cls := "FrontChairsModel", name := "isSign", desc := "(I)Z" } : Jvm.MethodName) prog_10_method_16_code (2 : Nat) (Option.some Jvm.ClassFile.FieldType.boolean)) ∈ tb := inT7 (List.mem_of_getElem? (i := 30) rfl) rfl
theorem kw7_31 : (Jvm.Cond.methodLink "FrontChairsModel" (168 : Nat) ({ cls := "FrontChairsModel", name := "readSum", desc := "()V" } : Jvm.MethodName)) ∈ tb := inT7 (List.mem_of_getElem? (i := 31) rfl) rfl
theorem kw7_33 : (Jvm.Cond.instanceMethod ({ cls := "FrontChairsModel", name := "readSum", desc := "()V" } : Jvm.MethodName)) ∈ tb := inT7 (List.mem_of_getElem? (i := 33) rfl) rfl
theorem kw7_34 : (Jvm.Cond.code ({ cls := "FrontChairsModel", name := "readSum", desc := "()V" } : Jvm.MethodName) prog_10_method_26_code (2 : Nat) (Option.none : Option Jvm.ClassFile.FieldType)) ∈ tb := inT7 (List.mem_of_getElem? (i := 34) rfl) rfl
theorem kw7_35 : (Jvm.Cond.methodLink "FrontChairsModel" (171 : Nat) ({ cls := "FrontChairsModel", name := "readTerm", desc := "()V" } : Jvm.MethodName)) ∈ tb := inT7 (List.mem_of_getElem? (i := 35) rfl) rfl
theorem kw7_37 : (Jvm.Cond.instanceMethod ({ cls := "FrontChairsModel", name := "readTerm", desc := "()V" } : Jvm.MethodName)) ∈ tb := inT7 (List.mem_of_getElem? (i := 37) rfl) rfl
theorem kw7_38 : (Jvm.Cond.code ({ cls := "FrontChairsModel", name := "readTerm", desc := "()V" } : Jvm.MethodName) prog_10_method_27_code (1 : Nat) (Option.none : Option Jvm.ClassFile.FieldType)) ∈ tb := inT7 (List.mem_of_getElem? (i := 38) rfl) rfl
theorem kw7_39 : (Jvm.Cond.methodLink "FrontChairsModel" (174 : Nat) ({ cls := "FrontChairsModel", name := "readAtom", desc := "()V" } : Jvm.MethodName)) ∈ tb := inT7 (List.mem_of_getElem? (i := 39) rfl) rfl
theorem kw7_41 : (Jvm.Cond.instanceMethod ({ cls := "FrontChairsModel", name := "readAtom", desc := "()V" } : Jvm.MethodName)) ∈ tb := inT7 (List.mem_of_getElem? (i := 41) rfl) rfl
theorem kw7_42 : (Jvm.Cond.code ({ cls := "FrontChairsModel", name := "readAtom", desc := "()V" } : Jvm.MethodName) prog_10_method_29_code (3 : Nat) (Option.none : Option Jvm.ClassFile.FieldType)) ∈ tb := inT7 (List.mem_of_getElem? (i := 42) rfl) rfl
theorem kw7_43 : (Jvm.Cond.methodLink "FrontChairsModel" (187 : Nat) ({ cls := "FrontChairsModel", name := "lawWord", desc := "()I" } : Jvm.MethodName)) ∈ tb := inT7 (List.mem_of_getElem? (i := 43) rfl) rfl
theorem kw7_45 : (Jvm.Cond.instanceMethod ({ cls := "FrontChairsModel", name := "lawWord", desc := "()I" } : Jvm.MethodName)) ∈ tb := inT7 (List.mem_of_getElem? (i := 45) rfl) rfl
theorem kw7_46 : (Jvm.Cond.code ({ cls := "FrontChairsModel", name := "lawWord", desc := "()I" } : Jvm.MethodName) prog_10_method_28_code (1 : Nat) (Option.some Jvm.ClassFile.FieldType.int)) ∈ tb := inT7 (List.mem_of_getElem? (i := 46) rfl) rfl
theorem kw7_54 : (Jvm.Cond.methodLink "FrontChairsLaw" (152 : Nat) ({ cls := "FrontChairsModel", name := "fault", desc := "(I)I" } : Jvm.MethodName)) ∈ tb := inT7 (List.mem_of_getElem? (i := 54) rfl) rfl
theorem kw7_55 : (Jvm.Cond.instanceMethod ({ cls := "FrontChairsModel", name := "fault", desc := "(I)I" } : Jvm.MethodName)) ∈ tb := inT7 (List.mem_of_getElem? (i := 55) rfl) rfl
theorem kw7_56 : (Jvm.Cond.selects "FrontChairsModel" ({ cls := "FrontChairsModel", name := "fault", desc := "(I)I" } : Jvm.MethodName) ({ cls := "FrontChairsModel", name := "fault", desc := "(I)I" } : Jvm.MethodName)) ∈ tb := inT7 (List.mem_of_getElem? (i := 56) rfl) rfl
theorem kw7_57 : (Jvm.Cond.code ({ cls := "FrontChairsModel", name := "fault", desc := "(I)I" } : Jvm.MethodName) prog_10_method_36_code (2 : Nat) (Option.some Jvm.ClassFile.FieldType.int)) ∈ tb := inT7 (List.mem_of_getElem? (i := 57) rfl) rfl
theorem kw7_58 : (Jvm.Cond.methodLink "FrontChairsLaw" (156 : Nat) ({ cls := "FrontChairsModel", name := "chair", desc := "(II)I" } : Jvm.MethodName)) ∈ tb := inT7 (List.mem_of_getElem? (i := 58) rfl) rfl
theorem kw7_59 : (Jvm.Cond.instanceMethod ({ cls := "FrontChairsModel", name := "chair", desc := "(II)I" } : Jvm.MethodName)) ∈ tb := inT7 (List.mem_of_getElem? (i := 59) rfl) rfl
theorem kw7_60 : (Jvm.Cond.selects "FrontChairsModel" ({ cls := "FrontChairsModel", name := "chair", desc := "(II)I" } : Jvm.MethodName) ({ cls := "FrontChairsModel", name := "chair", desc := "(II)I" } : Jvm.MethodName)) ∈ tb := inT7 (List.mem_of_getElem? (i := 60) rfl) rfl
theorem kw7_61 : (Jvm.Cond.code ({ cls := "FrontChairsModel", name := "chair", desc := "(II)I" } : Jvm.MethodName) prog_10_method_56_code (3 : Nat) (Option.some Jvm.ClassFile.FieldType.int)) ∈ tb := inT7 (List.mem_of_getElem? (i := 61) rfl) rfl
theorem kw7_62 : (Jvm.Cond.methodLink "FrontChairsModel" (307 : Nat) ({ cls := "FrontChairsModel", name := "isChair", desc := "(II)Z" } : Jvm.MethodName)) ∈ tb := inT7 (List.mem_of_getElem? (i := 62) rfl) rfl
theorem kw7_64 : (Jvm.Cond.instanceMethod ({ cls := "FrontChairsModel", name := "isChair", desc := "(II)Z" } : Jvm.MethodName)) ∈ tb := inT7 (List.mem_of_getElem? (i := 64) rfl) rfl
theorem kw7_65 : (Jvm.Cond.code ({ cls := "FrontChairsModel", name := "isChair", desc := "(II)Z" } : Jvm.MethodName) prog_10_method_40_code (3 : Nat) (Option.some Jvm.ClassFile.FieldType.boolean)) ∈ tb := inT7 (List.mem_of_getElem? (i := 65) rfl) rfl
theorem kw7_66 : (Jvm.Cond.methodLink "FrontChairsModel" (245 : Nat) ({ cls := "FrontChairsModel", name := "isColumn", desc := "(J)Z" } : Jvm.MethodName)) ∈ tb := inT7 (List.mem_of_getElem? (i := 66) rfl) rfl
theorem kw7_68 : (Jvm.Cond.instanceMethod ({ cls := "FrontChairsModel", name := "isColumn", desc := "(J)Z" } : Jvm.MethodName)) ∈ tb := inT7 (List.mem_of_getElem? (i := 68) rfl) rfl
theorem kw7_69 : (Jvm.Cond.code ({ cls := "FrontChairsModel", name := "isColumn", desc := "(J)Z" } : Jvm.MethodName) prog_10_method_39_code (3 : Nat) (Option.some Jvm.ClassFile.FieldType.boolean)) ∈ tb := inT7 (List.mem_of_getElem? (i := 69) rfl) rfl
theorem kw7_70 : (Jvm.Cond.methodLink "FrontChairsModel" (280 : Nat) ({ cls := "FrontChairsModel", name := "sitter", desc := "(II)I" } : Jvm.MethodName)) ∈ tb := inT7 (List.mem_of_getElem? (i := 70) rfl) rfl
theorem kw7_72 : (Jvm.Cond.instanceMethod ({ cls := "FrontChairsModel", name := "sitter", desc := "(II)I" } : Jvm.MethodName)) ∈ tb := inT7 (List.mem_of_getElem? (i := 72) rfl) rfl
theorem kw7_73 : (Jvm.Cond.code ({ cls := "FrontChairsModel", name := "sitter", desc := "(II)I" } : Jvm.MethodName) prog_10_method_43_code (4 : Nat) (Option.some Jvm.ClassFile.FieldType.int)) ∈ tb := inT7 (List.mem_of_getElem? (i := 73) rfl) rfl
theorem kw7_74 : (Jvm.Cond.methodLink "FrontChairsModel" (242 : Nat) ({ cls := "FrontChairsModel", name := "people", desc := "()I" } : Jvm.MethodName)) ∈ tb := inT7 (List.mem_of_getElem? (i := 74) rfl) rfl
theorem kw7_76 : (Jvm.Cond.instanceMethod ({ cls := "FrontChairsModel", name := "people", desc := "()I" } : Jvm.MethodName)) ∈ tb := inT7 (List.mem_of_getElem? (i := 76) rfl) rfl
theorem kw7_77 : (Jvm.Cond.code ({ cls := "FrontChairsModel", name := "people", desc := "()I" } : Jvm.MethodName) prog_10_method_37_code (1 : Nat) (Option.some Jvm.ClassFile.FieldType.int)) ∈ tb := inT7 (List.mem_of_getElem? (i := 77) rfl) rfl
theorem kw7_78 : (Jvm.Cond.methodLink "FrontChairsLaw" (159 : Nat) ({ cls := "FrontChairsModel", name := "person", desc := "(II)I" } : Jvm.MethodName)) ∈ tb := inT7 (List.mem_of_getElem? (i := 78) rfl) rfl
theorem kw7_79 : (Jvm.Cond.instanceMethod ({ cls := "FrontChairsModel", name := "person", desc := "(II)I" } : Jvm.MethodName)) ∈ tb := inT7 (List.mem_of_getElem? (i := 79) rfl) rfl
theorem kw7_80 : (Jvm.Cond.selects "FrontChairsModel" ({ cls := "FrontChairsModel", name := "person", desc := "(II)I" } : Jvm.MethodName) ({ cls := "FrontChairsModel", name := "person", desc := "(II)I" } : Jvm.MethodName)) ∈ tb := inT7 (List.mem_of_getElem? (i := 80) rfl) rfl
theorem kw7_81 : (Jvm.Cond.code ({ cls := "FrontChairsModel", name := "person", desc := "(II)I" } : Jvm.MethodName) prog_10_method_57_code (3 : Nat) (Option.some Jvm.ClassFile.FieldType.int)) ∈ tb := inT7 (List.mem_of_getElem? (i := 81) rfl) rfl
theorem kw7_82 : (Jvm.Cond.methodLink "FrontChairsModel" (310 : Nat) ({ cls := "FrontChairsModel", name := "isPerson", desc := "(J)Z" } : Jvm.MethodName)) ∈ tb := inT7 (List.mem_of_getElem? (i := 82) rfl) rfl
theorem kw7_84 : (Jvm.Cond.instanceMethod ({ cls := "FrontChairsModel", name := "isPerson", desc := "(J)Z" } : Jvm.MethodName)) ∈ tb := inT7 (List.mem_of_getElem? (i := 84) rfl) rfl
theorem kw7_85 : (Jvm.Cond.code ({ cls := "FrontChairsModel", name := "isPerson", desc := "(J)Z" } : Jvm.MethodName) prog_10_method_38_code (3 : Nat) (Option.some Jvm.ClassFile.FieldType.boolean)) ∈ tb := inT7 (List.mem_of_getElem? (i := 85) rfl) rfl
theorem kw7_86 : (Jvm.Cond.constantLong "FrontChairsModel" (313 : Nat) (7 : Int64)) ∈ tb := inT7 (List.mem_of_getElem? (i := 86) rfl) rfl
theorem kw7_87 : (Jvm.Cond.methodLink "FrontChairsModel" (283 : Nat) ({ cls := "FrontChairsModel", name := "isAsleep", desc := "(I)Z" } : Jvm.MethodName)) ∈ tb := inT7 (List.mem_of_getElem? (i := 87) rfl) rfl
theorem kw7_89 : (Jvm.Cond.instanceMethod ({ cls := "FrontChairsModel", name := "isAsleep", desc := "(I)Z" } : Jvm.MethodName)) ∈ tb := inT7 (List.mem_of_getElem? (i := 89) rfl) rfl
theorem kw7_90 : (Jvm.Cond.code ({ cls := "FrontChairsModel", name := "isAsleep", desc := "(I)Z" } : Jvm.MethodName) prog_10_method_42_code (2 : Nat) (Option.some Jvm.ClassFile.FieldType.boolean)) ∈ tb := inT7 (List.mem_of_getElem? (i := 90) rfl) rfl
theorem kw7_91 : (Jvm.Cond.methodLink "FrontChairsModel" (249 : Nat) ({ cls := "FrontChairsModel", name := "has", desc := "(II)Z" } : Jvm.MethodName)) ∈ tb := inT7 (List.mem_of_getElem? (i := 91) rfl) rfl
theorem kw7_92 : (Jvm.Cond.static ({ cls := "FrontChairsModel", name := "has", desc := "(II)Z" } : Jvm.MethodName)) ∈ tb := inT7 (List.mem_of_getElem? (i := 92) rfl) rfl
theorem kw7_93 : (Jvm.Cond.code ({ cls := "FrontChairsModel", name := "has", desc := "(II)Z" } : Jvm.MethodName) prog_10_method_5_code (2 : Nat) (Option.some Jvm.ClassFile.FieldType.boolean)) ∈ tb := inT7 (List.mem_of_getElem? (i := 93) rfl) rfl
theorem kw7_94 : (Jvm.Cond.methodLink "FrontChairsLaw" (162 : Nat) ({ cls := "FrontChairsModel", name := "tide", desc := "(I)I" } : Jvm.MethodName)) ∈ tb := inT7 (List.mem_of_getElem? (i := 94) rfl) rfl
theorem kw7_95 : (Jvm.Cond.instanceMethod ({ cls := "FrontChairsModel", name := "tide", desc := "(I)I" } : Jvm.MethodName)) ∈ tb := inT7 (List.mem_of_getElem? (i := 95) rfl) rfl
theorem kw7_96 : (Jvm.Cond.selects "FrontChairsModel" ({ cls := "FrontChairsModel", name := "tide", desc := "(I)I" } : Jvm.MethodName) ({ cls := "FrontChairsModel", name := "tide", desc := "(I)I" } : Jvm.MethodName)) ∈ tb := inT7 (List.mem_of_getElem? (i := 96) rfl) rfl
theorem kw7_97 : (Jvm.Cond.code ({ cls := "FrontChairsModel", name := "tide", desc := "(I)I" } : Jvm.MethodName) prog_10_method_58_code (2 : Nat) (Option.some Jvm.ClassFile.FieldType.int)) ∈ tb := inT7 (List.mem_of_getElem? (i := 97) rfl) rfl
theorem kw7_98 : (Jvm.Cond.constantLong "FrontChairsModel" (315 : Nat) (999 : Int64)) ∈ tb := inT7 (List.mem_of_getElem? (i := 98) rfl) rfl
theorem kw7_99 : (Jvm.Cond.methodLink "FrontChairsModel" (304 : Nat) ({ cls := "FrontChairsModel", name := "tideIn", desc := "(I)I" } : Jvm.MethodName)) ∈ tb := inT7 (List.mem_of_getElem? (i := 99) rfl) rfl
theorem kw7_101 : (Jvm.Cond.instanceMethod ({ cls := "FrontChairsModel", name := "tideIn", desc := "(I)I" } : Jvm.MethodName)) ∈ tb := inT7 (List.mem_of_getElem? (i := 101) rfl) rfl
theorem kw7_102 : (Jvm.Cond.code ({ cls := "FrontChairsModel", name := "tideIn", desc := "(I)I" } : Jvm.MethodName) prog_10_method_48_code (2 : Nat) (Option.some Jvm.ClassFile.FieldType.int)) ∈ tb := inT7 (List.mem_of_getElem? (i := 102) rfl) rfl
theorem kw7_103 : (Jvm.Cond.methodLink "FrontChairsModel" (273 : Nat) ({ cls := "FrontChairsModel", name := "lawOf", desc := "(II)I" } : Jvm.MethodName)) ∈ tb := inT7 (List.mem_of_getElem? (i := 103) rfl) rfl
theorem kw7_105 : (Jvm.Cond.instanceMethod ({ cls := "FrontChairsModel", name := "lawOf", desc := "(II)I" } : Jvm.MethodName)) ∈ tb := inT7 (List.mem_of_getElem? (i := 105) rfl) rfl
theorem kw7_106 : (Jvm.Cond.code ({ cls := "FrontChairsModel", name := "lawOf", desc := "(II)I" } : Jvm.MethodName) prog_10_method_46_code (6 : Nat) (Option.some Jvm.ClassFile.FieldType.int)) ∈ tb := inT7 (List.mem_of_getElem? (i := 106) rfl) rfl
theorem kw7_107 : (Jvm.Cond.methodLink "FrontChairsModel" (269 : Nat) ({ cls := "FrontChairsModel", name := "done", desc := "(IJJ)I" } : Jvm.MethodName)) ∈ tb := inT7 (List.mem_of_getElem? (i := 107) rfl) rfl
theorem kw7_108 : (Jvm.Cond.static ({ cls := "FrontChairsModel", name := "done", desc := "(IJJ)I" } : Jvm.MethodName)) ∈ tb := inT7 (List.mem_of_getElem? (i := 108) rfl) rfl
theorem kw7_109 : (Jvm.Cond.code ({ cls := "FrontChairsModel", name := "done", desc := "(IJJ)I" } : Jvm.MethodName) prog_10_method_45_code (5 : Nat) (Option.some Jvm.ClassFile.FieldType.int)) ∈ tb := inT7 (List.mem_of_getElem? (i := 109) rfl) rfl
theorem kw7_110 : (Jvm.Cond.methodLink "FrontChairsModel" (265 : Nat) ({ cls := "FrontChairsModel", name := "bound", desc := "(J)I" } : Jvm.MethodName)) ∈ tb := inT7 (List.mem_of_getElem? (i := 110) rfl) rfl
theorem kw7_111 : (Jvm.Cond.static ({ cls := "FrontChairsModel", name := "bound", desc := "(J)I" } : Jvm.MethodName)) ∈ tb := inT7 (List.mem_of_getElem? (i := 111) rfl) rfl
theorem kw7_112 : (Jvm.Cond.code ({ cls := "FrontChairsModel", name := "bound", desc := "(J)I" } : Jvm.MethodName) prog_10_method_44_code (2 : Nat) (Option.some Jvm.ClassFile.FieldType.int)) ∈ tb := inT7 (List.mem_of_getElem? (i := 112) rfl) rfl
theorem kw7_113 : (Jvm.Cond.constantLong "FrontChairsModel" (252 : Nat) (-1000000 : Int64)) ∈ tb := inT7 (List.mem_of_getElem? (i := 113) rfl) rfl
theorem kw7_114 : (Jvm.Cond.constantLong "FrontChairsModel" (254 : Nat) (1000000 : Int64)) ∈ tb := inT7 (List.mem_of_getElem? (i := 114) rfl) rfl
theorem kw7_115 : (Jvm.Cond.methodLink "FrontChairsModel" (256 : Nat) ({ cls := "java/lang/Math", name := "min", desc := "(JJ)J" } : Jvm.MethodName)) ∈ tb := inT7 (List.mem_of_getElem? (i := 115) rfl) rfl
theorem kw7_116 : (Jvm.Cond.static ({ cls := "java/lang/Math", name := "min", desc := "(JJ)J" } : Jvm.MethodName)) ∈ tb := inT7 (List.mem_of_getElem? (i := 116) rfl) rfl
theorem kw7_117 : (Jvm.Cond.code ({ cls := "java/lang/Math", name := "min", desc := "(JJ)J" } : Jvm.MethodName) prog_21_method_70_code (4 : Nat) (Option.some Jvm.ClassFile.FieldType.long)) ∈ tb := inT7 (List.mem_of_getElem? (i := 117) rfl) rfl
theorem kw7_118 : (Jvm.Cond.methodLink "FrontChairsModel" (262 : Nat) ({ cls := "java/lang/Math", name := "max", desc := "(JJ)J" } : Jvm.MethodName)) ∈ tb := inT7 (List.mem_of_getElem? (i := 118) rfl) rfl
theorem kw7_119 : (Jvm.Cond.static ({ cls := "java/lang/Math", name := "max", desc := "(JJ)J" } : Jvm.MethodName)) ∈ tb := inT7 (List.mem_of_getElem? (i := 119) rfl) rfl
theorem kw7_120 : (Jvm.Cond.code ({ cls := "java/lang/Math", name := "max", desc := "(JJ)J" } : Jvm.MethodName) prog_21_method_66_code (4 : Nat) (Option.some Jvm.ClassFile.FieldType.long)) ∈ tb := inT7 (List.mem_of_getElem? (i := 120) rfl) rfl
theorem kw7_121 : (Jvm.Cond.methodLink "FrontChairsModel" (276 : Nat) ({ cls := "java/lang/Math", name := "min", desc := "(II)I" } : Jvm.MethodName)) ∈ tb := inT7 (List.mem_of_getElem? (i := 121) rfl) rfl
theorem kw7_122 : (Jvm.Cond.methodLink "FrontChairsModel" (278 : Nat) ({ cls := "java/lang/Math", name := "max", desc := "(II)I" } : Jvm.MethodName)) ∈ tb := inT7 (List.mem_of_getElem? (i := 122) rfl) rfl
theorem kw7_123 : (Jvm.Cond.methodLink "FrontChairsLaw" (166 : Nat) ({ cls := "FrontChairsModel", name := "moves", desc := "(III)Z" } : Jvm.MethodName)) ∈ tb := inT7 (List.mem_of_getElem? (i := 123) rfl) rfl
theorem kw7_124 : (Jvm.Cond.instanceMethod ({ cls := "FrontChairsModel", name := "moves", desc := "(III)Z" } : Jvm.MethodName)) ∈ tb := inT7 (List.mem_of_getElem? (i := 124) rfl) rfl
theorem kw7_125 : (Jvm.Cond.selects "FrontChairsModel" ({ cls := "FrontChairsModel", name := "moves", desc := "(III)Z" } : Jvm.MethodName) ({ cls := "FrontChairsModel", name := "moves", desc := "(III)Z" } : Jvm.MethodName)) ∈ tb := inT7 (List.mem_of_getElem? (i := 125) rfl) rfl
theorem kw7_126 : (Jvm.Cond.code ({ cls := "FrontChairsModel", name := "moves", desc := "(III)Z" } : Jvm.MethodName) prog_10_method_59_code (4 : Nat) (Option.some Jvm.ClassFile.FieldType.boolean)) ∈ tb := inT7 (List.mem_of_getElem? (i := 126) rfl) rfl
theorem kw7_127 : (Jvm.Cond.methodLink "FrontChairsModel" (286 : Nat) ({ cls := "FrontChairsModel", name := "comesTo", desc := "(III)Z" } : Jvm.MethodName)) ∈ tb := inT7 (List.mem_of_getElem? (i := 127) rfl) rfl
theorem kw7_129 : (Jvm.Cond.instanceMethod ({ cls := "FrontChairsModel", name := "comesTo", desc := "(III)Z" } : Jvm.MethodName)) ∈ tb := inT7 (List.mem_of_getElem? (i := 129) rfl) rfl
theorem kw7_130 : (Jvm.Cond.code ({ cls := "FrontChairsModel", name := "comesTo", desc := "(III)Z" } : Jvm.MethodName) prog_10_method_47_code (4 : Nat) (Option.some Jvm.ClassFile.FieldType.boolean)) ∈ tb := inT7 (List.mem_of_getElem? (i := 130) rfl) rfl
theorem kw7_131 : (Jvm.Cond.methodLink "FrontChairsLaw" (169 : Nat) ({ cls := "FrontChairsModel", name := "wets", desc := "(III)I" } : Jvm.MethodName)) ∈ tb := inT7 (List.mem_of_getElem? (i := 131) rfl) rfl
theorem kw7_132 : (Jvm.Cond.instanceMethod ({ cls := "FrontChairsModel", name := "wets", desc := "(III)I" } : Jvm.MethodName)) ∈ tb := inT7 (List.mem_of_getElem? (i := 132) rfl) rfl
theorem kw7_133 : (Jvm.Cond.selects "FrontChairsModel" ({ cls := "FrontChairsModel", name := "wets", desc := "(III)I" } : Jvm.MethodName) ({ cls := "FrontChairsModel", name := "wets", desc := "(III)I" } : Jvm.MethodName)) ∈ tb := inT7 (List.mem_of_getElem? (i := 133) rfl) rfl
theorem kw7_134 : (Jvm.Cond.code ({ cls := "FrontChairsModel", name := "wets", desc := "(III)I" } : Jvm.MethodName) prog_10_method_60_code (4 : Nat) (Option.some Jvm.ClassFile.FieldType.int)) ∈ tb := inT7 (List.mem_of_getElem? (i := 134) rfl) rfl
theorem kw7_135 : (Jvm.Cond.methodLink "FrontChairsModel" (317 : Nat) ({ cls := "FrontChairsModel", name := "wetsHow", desc := "(III)I" } : Jvm.MethodName)) ∈ tb := inT7 (List.mem_of_getElem? (i := 135) rfl) rfl
theorem kw7_137 : (Jvm.Cond.instanceMethod ({ cls := "FrontChairsModel", name := "wetsHow", desc := "(III)I" } : Jvm.MethodName)) ∈ tb := inT7 (List.mem_of_getElem? (i := 137) rfl) rfl
theorem kw7_138 : (Jvm.Cond.code ({ cls := "FrontChairsModel", name := "wetsHow", desc := "(III)I" } : Jvm.MethodName) prog_10_method_49_code (4 : Nat) (Option.some Jvm.ClassFile.FieldType.int)) ∈ tb := inT7 (List.mem_of_getElem? (i := 138) rfl) rfl
theorem kw7_139 : (Jvm.Cond.methodLink "FrontChairsLaw" (173 : Nat) ({ cls := "FrontChairsModel", name := "rise", desc := "(I)I" } : Jvm.MethodName)) ∈ tb := inT7 (List.mem_of_getElem? (i := 139) rfl) rfl
theorem kw7_140 : (Jvm.Cond.instanceMethod ({ cls := "FrontChairsModel", name := "rise", desc := "(I)I" } : Jvm.MethodName)) ∈ tb := inT7 (List.mem_of_getElem? (i := 140) rfl) rfl
theorem kw7_141 : (Jvm.Cond.selects "FrontChairsModel" ({ cls := "FrontChairsModel", name := "rise", desc := "(I)I" } : Jvm.MethodName) ({ cls := "FrontChairsModel", name := "rise", desc := "(I)I" } : Jvm.MethodName)) ∈ tb := inT7 (List.mem_of_getElem? (i := 141) rfl) rfl
theorem kw7_142 : (Jvm.Cond.code ({ cls := "FrontChairsModel", name := "rise", desc := "(I)I" } : Jvm.MethodName) prog_10_method_68_code (3 : Nat) (Option.some Jvm.ClassFile.FieldType.int)) ∈ tb := inT7 (List.mem_of_getElem? (i := 142) rfl) rfl
theorem kw7_143 : (Jvm.Cond.methodLink "FrontChairsModel" (324 : Nat) ({ cls := "FrontChairsModel", name := "whyRise", desc := "(J)I" } : Jvm.MethodName)) ∈ tb := inT7 (List.mem_of_getElem? (i := 143) rfl) rfl
theorem kw7_145 : (Jvm.Cond.instanceMethod ({ cls := "FrontChairsModel", name := "whyRise", desc := "(J)I" } : Jvm.MethodName)) ∈ tb := inT7 (List.mem_of_getElem? (i := 145) rfl) rfl
theorem kw7_146 : (Jvm.Cond.code ({ cls := "FrontChairsModel", name := "whyRise", desc := "(J)I" } : Jvm.MethodName) prog_10_method_64_code (3 : Nat) (Option.some Jvm.ClassFile.FieldType.int)) ∈ tb := inT7 (List.mem_of_getElem? (i := 146) rfl) rfl
theorem kw7_147 : (Jvm.Cond.methodLink "FrontChairsModel" (296 : Nat) ({ cls := "FrontChairsModel", name := "isUp", desc := "(I)Z" } : Jvm.MethodName)) ∈ tb := inT7 (List.mem_of_getElem? (i := 147) rfl) rfl
theorem kw7_149 : (Jvm.Cond.instanceMethod ({ cls := "FrontChairsModel", name := "isUp", desc := "(I)Z" } : Jvm.MethodName)) ∈ tb := inT7 (List.mem_of_getElem? (i := 149) rfl) rfl
theorem kw7_150 : (Jvm.Cond.code ({ cls := "FrontChairsModel", name := "isUp", desc := "(I)Z" } : Jvm.MethodName) prog_10_method_41_code (2 : Nat) (Option.some Jvm.ClassFile.FieldType.boolean)) ∈ tb := inT7 (List.mem_of_getElem? (i := 150) rfl) rfl
theorem kw7_151 : (Jvm.Cond.methodLink "FrontChairsModel" (327 : Nat) ({ cls := "FrontChairsModel", name := "refuses", desc := "(I)I" } : Jvm.MethodName)) ∈ tb := inT7 (List.mem_of_getElem? (i := 151) rfl) rfl
theorem kw7_153 : (Jvm.Cond.instanceMethod ({ cls := "FrontChairsModel", name := "refuses", desc := "(I)I" } : Jvm.MethodName)) ∈ tb := inT7 (List.mem_of_getElem? (i := 153) rfl) rfl
theorem kw7_154 : (Jvm.Cond.code ({ cls := "FrontChairsModel", name := "refuses", desc := "(I)I" } : Jvm.MethodName) prog_10_method_67_code (2 : Nat) (Option.some Jvm.ClassFile.FieldType.int)) ∈ tb := inT7 (List.mem_of_getElem? (i := 154) rfl) rfl
theorem kw7_155 : (Jvm.Cond.methodLink "FrontChairsModel" (321 : Nat) ({ cls := "FrontChairsModel", name := "keeps", desc := "()V" } : Jvm.MethodName)) ∈ tb := inT7 (List.mem_of_getElem? (i := 155) rfl) rfl
theorem kw7_157 : (Jvm.Cond.instanceMethod ({ cls := "FrontChairsModel", name := "keeps", desc := "()V" } : Jvm.MethodName)) ∈ tb := inT7 (List.mem_of_getElem? (i := 157) rfl) rfl
theorem kw7_158 : (Jvm.Cond.code ({ cls := "FrontChairsModel", name := "keeps", desc := "()V" } : Jvm.MethodName) prog_10_method_61_code (2 : Nat) (Option.none : Option Jvm.ClassFile.FieldType)) ∈ tb := inT7 (List.mem_of_getElem? (i := 158) rfl) rfl
theorem kw7_159 : (Jvm.Cond.methodLink "FrontChairsModel" (302 : Nat) ({ cls := "FrontChairsModel", name := "rises", desc := "(II)I" } : Jvm.MethodName)) ∈ tb := inT7 (List.mem_of_getElem? (i := 159) rfl) rfl
theorem kw7_161 : (Jvm.Cond.instanceMethod ({ cls := "FrontChairsModel", name := "rises", desc := "(II)I" } : Jvm.MethodName)) ∈ tb := inT7 (List.mem_of_getElem? (i := 161) rfl) rfl
theorem kw7_162 : (Jvm.Cond.code ({ cls := "FrontChairsModel", name := "rises", desc := "(II)I" } : Jvm.MethodName) prog_10_method_51_code (8 : Nat) (Option.some Jvm.ClassFile.FieldType.int)) ∈ tb := inT7 (List.mem_of_getElem? (i := 162) rfl) rfl
theorem kw7_163 : (Jvm.Cond.methodLink "FrontChairsModel" (290 : Nat) ({ cls := "FrontChairsModel", name := "comer", desc := "(II)I" } : Jvm.MethodName)) ∈ tb := inT7 (List.mem_of_getElem? (i := 163) rfl) rfl
theorem kw7_165 : (Jvm.Cond.instanceMethod ({ cls := "FrontChairsModel", name := "comer", desc := "(II)I" } : Jvm.MethodName)) ∈ tb := inT7 (List.mem_of_getElem? (i := 165) rfl) rfl
theorem kw7_166 : (Jvm.Cond.code ({ cls := "FrontChairsModel", name := "comer", desc := "(II)I" } : Jvm.MethodName) prog_10_method_50_code (5 : Nat) (Option.some Jvm.ClassFile.FieldType.int)) ∈ tb := inT7 (List.mem_of_getElem? (i := 166) rfl) rfl
theorem kw7_167 : (Jvm.Cond.methodLink "FrontChairsLaw" (177 : Nat) ({ cls := "FrontChairsModel", name := "sit", desc := "(II)I" } : Jvm.MethodName)) ∈ tb := inT7 (List.mem_of_getElem? (i := 167) rfl) rfl
theorem kw7_168 : (Jvm.Cond.instanceMethod ({ cls := "FrontChairsModel", name := "sit", desc := "(II)I" } : Jvm.MethodName)) ∈ tb := inT7 (List.mem_of_getElem? (i := 168) rfl) rfl
theorem kw7_169 : (Jvm.Cond.selects "FrontChairsModel" ({ cls := "FrontChairsModel", name := "sit", desc := "(II)I" } : Jvm.MethodName) ({ cls := "FrontChairsModel", name := "sit", desc := "(II)I" } : Jvm.MethodName)) ∈ tb := inT7 (List.mem_of_getElem? (i := 169) rfl) rfl
theorem kw7_170 : (Jvm.Cond.code ({ cls := "FrontChairsModel", name := "sit", desc := "(II)I" } : Jvm.MethodName) prog_10_method_69_code (4 : Nat) (Option.some Jvm.ClassFile.FieldType.int)) ∈ tb := inT7 (List.mem_of_getElem? (i := 170) rfl) rfl
theorem kw7_171 : (Jvm.Cond.methodLink "FrontChairsModel" (330 : Nat) ({ cls := "FrontChairsModel", name := "whySit", desc := "(JJ)I" } : Jvm.MethodName)) ∈ tb := inT7 (List.mem_of_getElem? (i := 171) rfl) rfl
theorem kw7_173 : (Jvm.Cond.instanceMethod ({ cls := "FrontChairsModel", name := "whySit", desc := "(JJ)I" } : Jvm.MethodName)) ∈ tb := inT7 (List.mem_of_getElem? (i := 173) rfl) rfl
theorem kw7_174 : (Jvm.Cond.code ({ cls := "FrontChairsModel", name := "whySit", desc := "(JJ)I" } : Jvm.MethodName) prog_10_method_65_code (5 : Nat) (Option.some Jvm.ClassFile.FieldType.int)) ∈ tb := inT7 (List.mem_of_getElem? (i := 174) rfl) rfl
theorem kw7_175 : (Jvm.Cond.methodLink "FrontChairsModel" (293 : Nat) ({ cls := "FrontChairsModel", name := "lastFree", desc := "(I)I" } : Jvm.MethodName)) ∈ tb := inT7 (List.mem_of_getElem? (i := 175) rfl) rfl
theorem kw7_177 : (Jvm.Cond.instanceMethod ({ cls := "FrontChairsModel", name := "lastFree", desc := "(I)I" } : Jvm.MethodName)) ∈ tb := inT7 (List.mem_of_getElem? (i := 177) rfl) rfl
theorem kw7_178 : (Jvm.Cond.code ({ cls := "FrontChairsModel", name := "lastFree", desc := "(I)I" } : Jvm.MethodName) prog_10_method_52_code (3 : Nat) (Option.some Jvm.ClassFile.FieldType.int)) ∈ tb := inT7 (List.mem_of_getElem? (i := 178) rfl) rfl
theorem kw7_179 : (Jvm.Cond.methodLink "FrontChairsModel" (299 : Nat) ({ cls := "FrontChairsModel", name := "sitsDown", desc := "(II)I" } : Jvm.MethodName)) ∈ tb := inT7 (List.mem_of_getElem? (i := 179) rfl) rfl
theorem kw7_181 : (Jvm.Cond.instanceMethod ({ cls := "FrontChairsModel", name := "sitsDown", desc := "(II)I" } : Jvm.MethodName)) ∈ tb := inT7 (List.mem_of_getElem? (i := 181) rfl) rfl
theorem kw7_182 : (Jvm.Cond.code ({ cls := "FrontChairsModel", name := "sitsDown", desc := "(II)I" } : Jvm.MethodName) prog_10_method_53_code (3 : Nat) (Option.some Jvm.ClassFile.FieldType.int)) ∈ tb := inT7 (List.mem_of_getElem? (i := 182) rfl) rfl
theorem kw7_183 : (Jvm.Cond.methodLink "FrontChairsLaw" (181 : Nat) ({ cls := "FrontChairsModel", name := "swap", desc := "(II)I" } : Jvm.MethodName)) ∈ tb := inT7 (List.mem_of_getElem? (i := 183) rfl) rfl
theorem kw7_184 : (Jvm.Cond.instanceMethod ({ cls := "FrontChairsModel", name := "swap", desc := "(II)I" } : Jvm.MethodName)) ∈ tb := inT7 (List.mem_of_getElem? (i := 184) rfl) rfl
theorem kw7_185 : (Jvm.Cond.selects "FrontChairsModel" ({ cls := "FrontChairsModel", name := "swap", desc := "(II)I" } : Jvm.MethodName) ({ cls := "FrontChairsModel", name := "swap", desc := "(II)I" } : Jvm.MethodName)) ∈ tb := inT7 (List.mem_of_getElem? (i := 185) rfl) rfl
theorem kw7_186 : (Jvm.Cond.code ({ cls := "FrontChairsModel", name := "swap", desc := "(II)I" } : Jvm.MethodName) prog_10_method_70_code (4 : Nat) (Option.some Jvm.ClassFile.FieldType.int)) ∈ tb := inT7 (List.mem_of_getElem? (i := 186) rfl) rfl
theorem kw7_187 : (Jvm.Cond.methodLink "FrontChairsModel" (334 : Nat) ({ cls := "FrontChairsModel", name := "whySwap", desc := "(JJ)I" } : Jvm.MethodName)) ∈ tb := inT7 (List.mem_of_getElem? (i := 187) rfl) rfl
theorem kw7_189 : (Jvm.Cond.instanceMethod ({ cls := "FrontChairsModel", name := "whySwap", desc := "(JJ)I" } : Jvm.MethodName)) ∈ tb := inT7 (List.mem_of_getElem? (i := 189) rfl) rfl
theorem kw7_190 : (Jvm.Cond.code ({ cls := "FrontChairsModel", name := "whySwap", desc := "(JJ)I" } : Jvm.MethodName) prog_10_method_66_code (5 : Nat) (Option.some Jvm.ClassFile.FieldType.int)) ∈ tb := inT7 (List.mem_of_getElem? (i := 190) rfl) rfl
theorem kw7_191 : (Jvm.Cond.methodLink "FrontChairsModel" (337 : Nat) ({ cls := "FrontChairsModel", name := "swaps", desc := "(II)V" } : Jvm.MethodName)) ∈ tb := inT7 (List.mem_of_getElem? (i := 191) rfl) rfl
theorem kw7_193 : (Jvm.Cond.instanceMethod ({ cls := "FrontChairsModel", name := "swaps", desc := "(II)V" } : Jvm.MethodName)) ∈ tb := inT7 (List.mem_of_getElem? (i := 193) rfl) rfl
theorem kw7_194 : (Jvm.Cond.code ({ cls := "FrontChairsModel", name := "swaps", desc := "(II)V" } : Jvm.MethodName) prog_10_method_54_code (5 : Nat) (Option.none : Option Jvm.ClassFile.FieldType)) ∈ tb := inT7 (List.mem_of_getElem? (i := 194) rfl) rfl
theorem kw7_195 : (Jvm.Cond.methodLink "FrontChairsLaw" (184 : Nat) ({ cls := "FrontChairsModel", name := "minutes", desc := "(I)I" } : Jvm.MethodName)) ∈ tb := inT7 (List.mem_of_getElem? (i := 195) rfl) rfl
theorem kw7_196 : (Jvm.Cond.instanceMethod ({ cls := "FrontChairsModel", name := "minutes", desc := "(I)I" } : Jvm.MethodName)) ∈ tb := inT7 (List.mem_of_getElem? (i := 196) rfl) rfl
theorem kw7_197 : (Jvm.Cond.selects "FrontChairsModel" ({ cls := "FrontChairsModel", name := "minutes", desc := "(I)I" } : Jvm.MethodName) ({ cls := "FrontChairsModel", name := "minutes", desc := "(I)I" } : Jvm.MethodName)) ∈ tb := inT7 (List.mem_of_getElem? (i := 197) rfl) rfl
theorem kw7_198 : (Jvm.Cond.code ({ cls := "FrontChairsModel", name := "minutes", desc := "(I)I" } : Jvm.MethodName) prog_10_method_71_code (4 : Nat) (Option.some Jvm.ClassFile.FieldType.int)) ∈ tb := inT7 (List.mem_of_getElem? (i := 198) rfl) rfl
theorem kw7_199 : (Jvm.Cond.constantLong "FrontChairsModel" (340 : Nat) (99 : Int64)) ∈ tb := inT7 (List.mem_of_getElem? (i := 199) rfl) rfl
theorem kw7_200 : (Jvm.Cond.methodLink "FrontChairsModel" (342 : Nat) ({ cls := "FrontChairsModel", name := "size", desc := "(I)I" } : Jvm.MethodName)) ∈ tb := inT7 (List.mem_of_getElem? (i := 200) rfl) rfl
theorem kw7_201 : (Jvm.Cond.static ({ cls := "FrontChairsModel", name := "size", desc := "(I)I" } : Jvm.MethodName)) ∈ tb := inT7 (List.mem_of_getElem? (i := 201) rfl) rfl
theorem kw7_202 : (Jvm.Cond.code ({ cls := "FrontChairsModel", name := "size", desc := "(I)I" } : Jvm.MethodName) prog_10_method_6_code (3 : Nat) (Option.some Jvm.ClassFile.FieldType.int)) ∈ tb := inT7 (List.mem_of_getElem? (i := 202) rfl) rfl
theorem kw7_203 : (Jvm.Cond.methodLink "FrontChairsModel" (345 : Nat) ({ cls := "FrontChairsModel", name := "minute", desc := "()V" } : Jvm.MethodName)) ∈ tb := inT7 (List.mem_of_getElem? (i := 203) rfl) rfl
theorem kw7_205 : (Jvm.Cond.instanceMethod ({ cls := "FrontChairsModel", name := "minute", desc := "()V" } : Jvm.MethodName)) ∈ tb := inT7 (List.mem_of_getElem? (i := 205) rfl) rfl
theorem kw7_206 : (Jvm.Cond.code ({ cls := "FrontChairsModel", name := "minute", desc := "()V" } : Jvm.MethodName) prog_10_method_55_code (4 : Nat) (Option.none : Option Jvm.ClassFile.FieldType)) ∈ tb := inT7 (List.mem_of_getElem? (i := 206) rfl) rfl
theorem kw7_207 : (Jvm.Cond.methodLink "FrontChairsLaw" (187 : Nat) ({ cls := "FrontChairsModel", name := "undo", desc := "(I)I" } : Jvm.MethodName)) ∈ tb := inT7 (List.mem_of_getElem? (i := 207) rfl) rfl
theorem kw7_208 : (Jvm.Cond.instanceMethod ({ cls := "FrontChairsModel", name := "undo", desc := "(I)I" } : Jvm.MethodName)) ∈ tb := inT7 (List.mem_of_getElem? (i := 208) rfl) rfl
theorem kw7_209 : (Jvm.Cond.selects "FrontChairsModel" ({ cls := "FrontChairsModel", name := "undo", desc := "(I)I" } : Jvm.MethodName) ({ cls := "FrontChairsModel", name := "undo", desc := "(I)I" } : Jvm.MethodName)) ∈ tb := inT7 (List.mem_of_getElem? (i := 209) rfl) rfl
theorem kw7_210 : (Jvm.Cond.code ({ cls := "FrontChairsModel", name := "undo", desc := "(I)I" } : Jvm.MethodName) prog_10_method_72_code (3 : Nat) (Option.some Jvm.ClassFile.FieldType.int)) ∈ tb := inT7 (List.mem_of_getElem? (i := 210) rfl) rfl
theorem kw7_211 : (Jvm.Cond.constantLong "FrontChairsModel" (347 : Nat) (10 : Int64)) ∈ tb := inT7 (List.mem_of_getElem? (i := 211) rfl) rfl
theorem kw7_212 : (Jvm.Cond.methodLink "FrontChairsLaw" (190 : Nat) ({ cls := "FrontChairsModel", name := "judge", desc := "(II)I" } : Jvm.MethodName)) ∈ tb := inT7 (List.mem_of_getElem? (i := 212) rfl) rfl
theorem kw7_213 : (Jvm.Cond.instanceMethod ({ cls := "FrontChairsModel", name := "judge", desc := "(II)I" } : Jvm.MethodName)) ∈ tb := inT7 (List.mem_of_getElem? (i := 213) rfl) rfl
theorem kw7_214 : (Jvm.Cond.selects "FrontChairsModel" ({ cls := "FrontChairsModel", name := "judge", desc := "(II)I" } : Jvm.MethodName) ({ cls := "FrontChairsModel", name := "judge", desc := "(II)I" } : Jvm.MethodName)) ∈ tb := inT7 (List.mem_of_getElem? (i := 214) rfl) rfl
theorem kw7_215 : (Jvm.Cond.code ({ cls := "FrontChairsModel", name := "judge", desc := "(II)I" } : Jvm.MethodName) prog_10_method_77_code (7 : Nat) (Option.some Jvm.ClassFile.FieldType.int)) ∈ tb := inT7 (List.mem_of_getElem? (i := 215) rfl) rfl
theorem kw7_216 : (Jvm.Cond.methodLink "FrontChairsModel" (364 : Nat) ({ cls := "FrontChairsModel", name := "trayFault", desc := "(I)I" } : Jvm.MethodName)) ∈ tb := inT7 (List.mem_of_getElem? (i := 216) rfl) rfl
theorem kw7_218 : (Jvm.Cond.instanceMethod ({ cls := "FrontChairsModel", name := "trayFault", desc := "(I)I" } : Jvm.MethodName)) ∈ tb := inT7 (List.mem_of_getElem? (i := 218) rfl) rfl
theorem kw7_219 : (Jvm.Cond.code ({ cls := "FrontChairsModel", name := "trayFault", desc := "(I)I" } : Jvm.MethodName) prog_10_method_73_code (2 : Nat) (Option.some Jvm.ClassFile.FieldType.int)) ∈ tb := inT7 (List.mem_of_getElem? (i := 219) rfl) rfl
theorem kw7_220 : (Jvm.Cond.methodLink "FrontChairsModel" (349 : Nat) ({ cls := "FrontChairsModel", name := "isTray", desc := "(I)Z" } : Jvm.MethodName)) ∈ tb := inT7 (List.mem_of_getElem? (i := 220) rfl) rfl
theorem kw7_221 : (Jvm.Cond.static ({ cls := "FrontChairsModel", name := "isTray", desc := "(I)Z" } : Jvm.MethodName)) ∈ tb := inT7 (List.mem_of_getElem? (i := 221) rfl) rfl
theorem kw7_222 : (Jvm.Cond.code ({ cls := "FrontChairsModel", name := "isTray", desc := "(I)Z" } : Jvm.MethodName) prog_10_method_123_code (1 : Nat) (Option.some Jvm.ClassFile.FieldType.boolean)) ∈ tb := inT7 (List.mem_of_getElem? (i := 222) rfl) rfl
theorem kw7_223 : (Jvm.Cond.constantLong "FrontChairsModel" (367 : Nat) (3 : Int64)) ∈ tb := inT7 (List.mem_of_getElem? (i := 223) rfl) rfl
theorem kw7_224 : (Jvm.Cond.methodLink "FrontChairsModel" (369 : Nat) ({ cls := "FrontChairsModel", name := "putsAside", desc := "()V" } : Jvm.MethodName)) ∈ tb := inT7 (List.mem_of_getElem? (i := 224) rfl) rfl
theorem kw7_226 : (Jvm.Cond.instanceMethod ({ cls := "FrontChairsModel", name := "putsAside", desc := "()V" } : Jvm.MethodName)) ∈ tb := inT7 (List.mem_of_getElem? (i := 226) rfl) rfl
theorem kw7_227 : (Jvm.Cond.code ({ cls := "FrontChairsModel", name := "putsAside", desc := "()V" } : Jvm.MethodName) prog_10_method_62_code (2 : Nat) (Option.none : Option Jvm.ClassFile.FieldType)) ∈ tb := inT7 (List.mem_of_getElem? (i := 227) rfl) rfl
theorem kw7_228 : (Jvm.Cond.methodLink "FrontChairsModel" (372 : Nat) ({ cls := "FrontChairsModel", name := "whyTold", desc := "(J)I" } : Jvm.MethodName)) ∈ tb := inT7 (List.mem_of_getElem? (i := 228) rfl) rfl
theorem kw7_230 : (Jvm.Cond.instanceMethod ({ cls := "FrontChairsModel", name := "whyTold", desc := "(J)I" } : Jvm.MethodName)) ∈ tb := inT7 (List.mem_of_getElem? (i := 230) rfl) rfl
theorem kw7_231 : (Jvm.Cond.code ({ cls := "FrontChairsModel", name := "whyTold", desc := "(J)I" } : Jvm.MethodName) prog_10_method_74_code (3 : Nat) (Option.some Jvm.ClassFile.FieldType.int)) ∈ tb := inT7 (List.mem_of_getElem? (i := 231) rfl) rfl
theorem kw7_232 : (Jvm.Cond.constantLong "FrontChairsModel" (352 : Nat) (-1 : Int64)) ∈ tb := inT7 (List.mem_of_getElem? (i := 232) rfl) rfl
theorem kw7_233 : (Jvm.Cond.constantLong "FrontChairsModel" (354 : Nat) (9 : Int64)) ∈ tb := inT7 (List.mem_of_getElem? (i := 233) rfl) rfl
theorem kw7_234 : (Jvm.Cond.constantLong "FrontChairsModel" (356 : Nat) (100 : Int64)) ∈ tb := inT7 (List.mem_of_getElem? (i := 234) rfl) rfl
theorem kw7_235 : (Jvm.Cond.constantLong "FrontChairsModel" (358 : Nat) (199 : Int64)) ∈ tb := inT7 (List.mem_of_getElem? (i := 235) rfl) rfl
theorem kw7_236 : (Jvm.Cond.constantLong "FrontChairsModel" (360 : Nat) (200 : Int64)) ∈ tb := inT7 (List.mem_of_getElem? (i := 236) rfl) rfl
theorem kw7_237 : (Jvm.Cond.constantLong "FrontChairsModel" (362 : Nat) (299 : Int64)) ∈ tb := inT7 (List.mem_of_getElem? (i := 237) rfl) rfl
theorem kw7_238 : (Jvm.Cond.methodLink "FrontChairsModel" (375 : Nat) ({ cls := "FrontChairsModel", name := "does", desc := "(I)V" } : Jvm.MethodName)) ∈ tb := inT7 (List.mem_of_getElem? (i := 238) rfl) rfl
theorem kw8_0 : (Jvm.Cond.instanceMethod ({ cls := "FrontChairsModel", name := "does", desc := "(I)V" } : Jvm.MethodName)) ∈ tb := inT8 (List.mem_of_getElem? (i := 0) rfl) rfl
theorem kw8_1 : (Jvm.Cond.code ({ cls := "FrontChairsModel", name := "does", desc := "(I)V" } : Jvm.MethodName) prog_10_method_75_code (2 : Nat) (Option.none : Option Jvm.ClassFile.FieldType)) ∈ tb := inT8 (List.mem_of_getElem? (i := 1) rfl) rfl
theorem kw8_2 : (Jvm.Cond.methodLink "FrontChairsModel" (378 : Nat) ({ cls := "FrontChairsModel", name := "inFront", desc := "()I" } : Jvm.MethodName)) ∈ tb := inT8 (List.mem_of_getElem? (i := 2) rfl) rfl
theorem kw8_4 : (Jvm.Cond.instanceMethod ({ cls := "FrontChairsModel", name := "inFront", desc := "()I" } : Jvm.MethodName)) ∈ tb := inT8 (List.mem_of_getElem? (i := 4) rfl) rfl
theorem kw8_5 : (Jvm.Cond.code ({ cls := "FrontChairsModel", name := "inFront", desc := "()I" } : Jvm.MethodName) prog_10_method_76_code (3 : Nat) (Option.some Jvm.ClassFile.FieldType.int)) ∈ tb := inT8 (List.mem_of_getElem? (i := 5) rfl) rfl
theorem kw8_6 : (Jvm.Cond.methodLink "FrontChairsModel" (381 : Nat) ({ cls := "FrontChairsModel", name := "putsBack", desc := "()V" } : Jvm.MethodName)) ∈ tb := inT8 (List.mem_of_getElem? (i := 6) rfl) rfl
theorem kw8_8 : (Jvm.Cond.instanceMethod ({ cls := "FrontChairsModel", name := "putsBack", desc := "()V" } : Jvm.MethodName)) ∈ tb := inT8 (List.mem_of_getElem? (i := 8) rfl) rfl
theorem kw8_9 : (Jvm.Cond.code ({ cls := "FrontChairsModel", name := "putsBack", desc := "()V" } : Jvm.MethodName) prog_10_method_63_code (2 : Nat) (Option.none : Option Jvm.ClassFile.FieldType)) ∈ tb := inT8 (List.mem_of_getElem? (i := 9) rfl) rfl
theorem kw8_10 : (Jvm.Cond.methodLink "FrontChairsLaw" (193 : Nat) ({ cls := "FrontChairsModel", name := "perform", desc := "(I)I" } : Jvm.MethodName)) ∈ tb := inT8 (List.mem_of_getElem? (i := 10) rfl) rfl
theorem kw8_11 : (Jvm.Cond.instanceMethod ({ cls := "FrontChairsModel", name := "perform", desc := "(I)I" } : Jvm.MethodName)) ∈ tb := inT8 (List.mem_of_getElem? (i := 11) rfl) rfl
theorem kw8_12 : (Jvm.Cond.selects "FrontChairsModel" ({ cls := "FrontChairsModel", name := "perform", desc := "(I)I" } : Jvm.MethodName) ({ cls := "FrontChairsModel", name := "perform", desc := "(I)I" } : Jvm.MethodName)) ∈ tb := inT8 (List.mem_of_getElem? (i := 12) rfl) rfl
theorem kw8_13 : (Jvm.Cond.code ({ cls := "FrontChairsModel", name := "perform", desc := "(I)I" } : Jvm.MethodName) prog_10_method_78_code (3 : Nat) (Option.some Jvm.ClassFile.FieldType.int)) ∈ tb := inT8 (List.mem_of_getElem? (i := 13) rfl) rfl
theorem kw8_14 : (Jvm.Cond.methodLink "FrontChairsLaw" (196 : Nat) ({ cls := "FrontChairsModel", name := "afternoon", desc := "(II)I" } : Jvm.MethodName)) ∈ tb := inT8 (List.mem_of_getElem? (i := 14) rfl) rfl
theorem kw8_15 : (Jvm.Cond.instanceMethod ({ cls := "FrontChairsModel", name := "afternoon", desc := "(II)I" } : Jvm.MethodName)) ∈ tb := inT8 (List.mem_of_getElem? (i := 15) rfl) rfl
theorem kw8_16 : (Jvm.Cond.selects "FrontChairsModel" ({ cls := "FrontChairsModel", name := "afternoon", desc := "(II)I" } : Jvm.MethodName) ({ cls := "FrontChairsModel", name := "afternoon", desc := "(II)I" } : Jvm.MethodName)) ∈ tb := inT8 (List.mem_of_getElem? (i := 16) rfl) rfl
theorem kw8_17 : (Jvm.Cond.code ({ cls := "FrontChairsModel", name := "afternoon", desc := "(II)I" } : Jvm.MethodName) prog_10_method_80_code (7 : Nat) (Option.some Jvm.ClassFile.FieldType.int)) ∈ tb := inT8 (List.mem_of_getElem? (i := 17) rfl) rfl
theorem kw8_18 : (Jvm.Cond.constantLong "FrontChairsModel" (388 : Nat) (30 : Int64)) ∈ tb := inT8 (List.mem_of_getElem? (i := 18) rfl) rfl
theorem kw8_19 : (Jvm.Cond.methodLink "FrontChairsModel" (390 : Nat) ({ cls := "FrontChairsModel", name := "draw", desc := "(I)I" } : Jvm.MethodName)) ∈ tb := inT8 (List.mem_of_getElem? (i := 19) rfl) rfl
theorem kw8_21 : (Jvm.Cond.instanceMethod ({ cls := "FrontChairsModel", name := "draw", desc := "(I)I" } : Jvm.MethodName)) ∈ tb := inT8 (List.mem_of_getElem? (i := 21) rfl) rfl
theorem kw8_22 : (Jvm.Cond.code ({ cls := "FrontChairsModel", name := "draw", desc := "(I)I" } : Jvm.MethodName) prog_10_method_79_code (2 : Nat) (Option.some Jvm.ClassFile.FieldType.int)) ∈ tb := inT8 (List.mem_of_getElem? (i := 22) rfl) rfl
theorem kw8_23 : (Jvm.Cond.constant "FrontChairsModel" (384 : Nat) (1103515245 : Int32)) ∈ tb := inT8 (List.mem_of_getElem? (i := 23) rfl) rfl
theorem kw8_24 : (Jvm.Cond.methodLink "FrontChairsModel" (393 : Nat) ({ cls := "FrontChairsModel", name := "drawn", desc := "(II)I" } : Jvm.MethodName)) ∈ tb := inT8 (List.mem_of_getElem? (i := 24) rfl) rfl
theorem kw8_26 : (Jvm.Cond.instanceMethod ({ cls := "FrontChairsModel", name := "drawn", desc := "(II)I" } : Jvm.MethodName)) ∈ tb := inT8 (List.mem_of_getElem? (i := 26) rfl) rfl
theorem kw8_27 : (Jvm.Cond.code ({ cls := "FrontChairsModel", name := "drawn", desc := "(II)I" } : Jvm.MethodName) prog_10_method_81_code (3 : Nat) (Option.some Jvm.ClassFile.FieldType.int)) ∈ tb := inT8 (List.mem_of_getElem? (i := 27) rfl) rfl
theorem kw8_28 : (Jvm.Cond.methodLink "FrontChairsLaw" (199 : Nat) ({ cls := "FrontChairsModel", name := "sits", desc := "(II)I" } : Jvm.MethodName)) ∈ tb := inT8 (List.mem_of_getElem? (i := 28) rfl) rfl
theorem kw8_29 : (Jvm.Cond.instanceMethod ({ cls := "FrontChairsModel", name := "sits", desc := "(II)I" } : Jvm.MethodName)) ∈ tb := inT8 (List.mem_of_getElem? (i := 29) rfl) rfl
theorem kw8_30 : (Jvm.Cond.selects "FrontChairsModel" ({ cls := "FrontChairsModel", name := "sits", desc := "(II)I" } : Jvm.MethodName) ({ cls := "FrontChairsModel", name := "sits", desc := "(II)I" } : Jvm.MethodName)) ∈ tb := inT8 (List.mem_of_getElem? (i := 30) rfl) rfl
theorem kw8_31 : (Jvm.Cond.code ({ cls := "FrontChairsModel", name := "sits", desc := "(II)I" } : Jvm.MethodName) prog_10_method_85_code (4 : Nat) (Option.some Jvm.ClassFile.FieldType.int)) ∈ tb := inT8 (List.mem_of_getElem? (i := 31) rfl) rfl
theorem kw8_32 : (Jvm.Cond.methodLink "FrontChairsModel" (396 : Nat) ({ cls := "FrontChairsModel", name := "isAheadOut", desc := "(II)Z" } : Jvm.MethodName)) ∈ tb := inT8 (List.mem_of_getElem? (i := 32) rfl) rfl
theorem kw8_34 : (Jvm.Cond.instanceMethod ({ cls := "FrontChairsModel", name := "isAheadOut", desc := "(II)Z" } : Jvm.MethodName)) ∈ tb := inT8 (List.mem_of_getElem? (i := 34) rfl) rfl
theorem kw8_35 : (Jvm.Cond.code ({ cls := "FrontChairsModel", name := "isAheadOut", desc := "(II)Z" } : Jvm.MethodName) prog_10_method_84_code (3 : Nat) (Option.some Jvm.ClassFile.FieldType.boolean)) ∈ tb := inT8 (List.mem_of_getElem? (i := 35) rfl) rfl
theorem kw8_36 : (Jvm.Cond.methodLink "FrontChairsModel" (399 : Nat) ({ cls := "FrontChairsModel", name := "goesOn", desc := "(I)V" } : Jvm.MethodName)) ∈ tb := inT8 (List.mem_of_getElem? (i := 36) rfl) rfl
theorem kw8_38 : (Jvm.Cond.instanceMethod ({ cls := "FrontChairsModel", name := "goesOn", desc := "(I)V" } : Jvm.MethodName)) ∈ tb := inT8 (List.mem_of_getElem? (i := 38) rfl) rfl
theorem kw8_39 : (Jvm.Cond.code ({ cls := "FrontChairsModel", name := "goesOn", desc := "(I)V" } : Jvm.MethodName) prog_10_method_82_code (3 : Nat) (Option.none : Option Jvm.ClassFile.FieldType)) ∈ tb := inT8 (List.mem_of_getElem? (i := 39) rfl) rfl
theorem kw8_40 : (Jvm.Cond.methodLink "FrontChairsModel" (402 : Nat) ({ cls := "FrontChairsModel", name := "placeOf", desc := "(I)I" } : Jvm.MethodName)) ∈ tb := inT8 (List.mem_of_getElem? (i := 40) rfl) rfl
theorem kw8_42 : (Jvm.Cond.instanceMethod ({ cls := "FrontChairsModel", name := "placeOf", desc := "(I)I" } : Jvm.MethodName)) ∈ tb := inT8 (List.mem_of_getElem? (i := 42) rfl) rfl
theorem kw8_43 : (Jvm.Cond.code ({ cls := "FrontChairsModel", name := "placeOf", desc := "(I)I" } : Jvm.MethodName) prog_10_method_83_code (2 : Nat) (Option.some Jvm.ClassFile.FieldType.int)) ∈ tb := inT8 (List.mem_of_getElem? (i := 43) rfl) rfl
theorem kw8_44 : (Jvm.Cond.methodLink "FrontChairsLaw" (202 : Nat) ({ cls := "FrontChairsModel", name := "wetIn", desc := "(I)I" } : Jvm.MethodName)) ∈ tb := inT8 (List.mem_of_getElem? (i := 44) rfl) rfl
theorem kw8_45 : (Jvm.Cond.instanceMethod ({ cls := "FrontChairsModel", name := "wetIn", desc := "(I)I" } : Jvm.MethodName)) ∈ tb := inT8 (List.mem_of_getElem? (i := 45) rfl) rfl
theorem kw8_46 : (Jvm.Cond.selects "FrontChairsModel" ({ cls := "FrontChairsModel", name := "wetIn", desc := "(I)I" } : Jvm.MethodName) ({ cls := "FrontChairsModel", name := "wetIn", desc := "(I)I" } : Jvm.MethodName)) ∈ tb := inT8 (List.mem_of_getElem? (i := 46) rfl) rfl
theorem kw8_47 : (Jvm.Cond.code ({ cls := "FrontChairsModel", name := "wetIn", desc := "(I)I" } : Jvm.MethodName) prog_10_method_86_code (3 : Nat) (Option.some Jvm.ClassFile.FieldType.int)) ∈ tb := inT8 (List.mem_of_getElem? (i := 47) rfl) rfl
theorem kw8_48 : (Jvm.Cond.methodLink "FrontChairsLaw" (205 : Nat) ({ cls := "FrontChairsModel", name := "wetBy", desc := "(I)I" } : Jvm.MethodName)) ∈ tb := inT8 (List.mem_of_getElem? (i := 48) rfl) rfl
theorem kw8_49 : (Jvm.Cond.instanceMethod ({ cls := "FrontChairsModel", name := "wetBy", desc := "(I)I" } : Jvm.MethodName)) ∈ tb := inT8 (List.mem_of_getElem? (i := 49) rfl) rfl
theorem kw8_50 : (Jvm.Cond.selects "FrontChairsModel" ({ cls := "FrontChairsModel", name := "wetBy", desc := "(I)I" } : Jvm.MethodName) ({ cls := "FrontChairsModel", name := "wetBy", desc := "(I)I" } : Jvm.MethodName)) ∈ tb := inT8 (List.mem_of_getElem? (i := 50) rfl) rfl
theorem kw8_51 : (Jvm.Cond.code ({ cls := "FrontChairsModel", name := "wetBy", desc := "(I)I" } : Jvm.MethodName) prog_10_method_87_code (3 : Nat) (Option.some Jvm.ClassFile.FieldType.int)) ∈ tb := inT8 (List.mem_of_getElem? (i := 51) rfl) rfl
theorem kw8_52 : (Jvm.Cond.methodLink "FrontChairsLaw" (208 : Nat) ({ cls := "FrontChairsModel", name := "frontIn", desc := "(I)I" } : Jvm.MethodName)) ∈ tb := inT8 (List.mem_of_getElem? (i := 52) rfl) rfl
theorem kw8_53 : (Jvm.Cond.instanceMethod ({ cls := "FrontChairsModel", name := "frontIn", desc := "(I)I" } : Jvm.MethodName)) ∈ tb := inT8 (List.mem_of_getElem? (i := 53) rfl) rfl
theorem kw8_54 : (Jvm.Cond.selects "FrontChairsModel" ({ cls := "FrontChairsModel", name := "frontIn", desc := "(I)I" } : Jvm.MethodName) ({ cls := "FrontChairsModel", name := "frontIn", desc := "(I)I" } : Jvm.MethodName)) ∈ tb := inT8 (List.mem_of_getElem? (i := 54) rfl) rfl
theorem kw8_55 : (Jvm.Cond.code ({ cls := "FrontChairsModel", name := "frontIn", desc := "(I)I" } : Jvm.MethodName) prog_10_method_88_code (3 : Nat) (Option.some Jvm.ClassFile.FieldType.int)) ∈ tb := inT8 (List.mem_of_getElem? (i := 55) rfl) rfl
theorem kw8_56 : (Jvm.Cond.methodLink "FrontChairsLaw" (211 : Nat) ({ cls := "FrontChairsModel", name := "front", desc := "(I)I" } : Jvm.MethodName)) ∈ tb := inT8 (List.mem_of_getElem? (i := 56) rfl) rfl
theorem kw8_57 : (Jvm.Cond.instanceMethod ({ cls := "FrontChairsModel", name := "front", desc := "(I)I" } : Jvm.MethodName)) ∈ tb := inT8 (List.mem_of_getElem? (i := 57) rfl) rfl
theorem kw8_58 : (Jvm.Cond.selects "FrontChairsModel" ({ cls := "FrontChairsModel", name := "front", desc := "(I)I" } : Jvm.MethodName) ({ cls := "FrontChairsModel", name := "front", desc := "(I)I" } : Jvm.MethodName)) ∈ tb := inT8 (List.mem_of_getElem? (i := 58) rfl) rfl
theorem kw8_59 : (Jvm.Cond.code ({ cls := "FrontChairsModel", name := "front", desc := "(I)I" } : Jvm.MethodName) prog_10_method_89_code (3 : Nat) (Option.some Jvm.ClassFile.FieldType.int)) ∈ tb := inT8 (List.mem_of_getElem? (i := 59) rfl) rfl
theorem kw8_60 : (Jvm.Cond.methodLink "FrontChairsLaw" (214 : Nat) ({ cls := "FrontChairsModel", name := "king", desc := "(I)I" } : Jvm.MethodName)) ∈ tb := inT8 (List.mem_of_getElem? (i := 60) rfl) rfl
theorem kw8_61 : (Jvm.Cond.instanceMethod ({ cls := "FrontChairsModel", name := "king", desc := "(I)I" } : Jvm.MethodName)) ∈ tb := inT8 (List.mem_of_getElem? (i := 61) rfl) rfl
theorem kw8_62 : (Jvm.Cond.selects "FrontChairsModel" ({ cls := "FrontChairsModel", name := "king", desc := "(I)I" } : Jvm.MethodName) ({ cls := "FrontChairsModel", name := "king", desc := "(I)I" } : Jvm.MethodName)) ∈ tb := inT8 (List.mem_of_getElem? (i := 62) rfl) rfl
theorem kw8_63 : (Jvm.Cond.code ({ cls := "FrontChairsModel", name := "king", desc := "(I)I" } : Jvm.MethodName) prog_10_method_90_code (4 : Nat) (Option.some Jvm.ClassFile.FieldType.int)) ∈ tb := inT8 (List.mem_of_getElem? (i := 63) rfl) rfl
theorem kw8_64 : (Jvm.Cond.methodLink "FrontChairsLaw" (217 : Nat) ({ cls := "FrontChairsModel", name := "bring", desc := "(III)I" } : Jvm.MethodName)) ∈ tb := inT8 (List.mem_of_getElem? (i := 64) rfl) rfl
theorem kw8_65 : (Jvm.Cond.instanceMethod ({ cls := "FrontChairsModel", name := "bring", desc := "(III)I" } : Jvm.MethodName)) ∈ tb := inT8 (List.mem_of_getElem? (i := 65) rfl) rfl
theorem kw8_66 : (Jvm.Cond.selects "FrontChairsModel" ({ cls := "FrontChairsModel", name := "bring", desc := "(III)I" } : Jvm.MethodName) ({ cls := "FrontChairsModel", name := "bring", desc := "(III)I" } : Jvm.MethodName)) ∈ tb := inT8 (List.mem_of_getElem? (i := 66) rfl) rfl
theorem kw8_67 : (Jvm.Cond.code ({ cls := "FrontChairsModel", name := "bring", desc := "(III)I" } : Jvm.MethodName) prog_10_method_94_code (6 : Nat) (Option.some Jvm.ClassFile.FieldType.int)) ∈ tb := inT8 (List.mem_of_getElem? (i := 67) rfl) rfl
theorem kw8_68 : (Jvm.Cond.constantLong "FrontChairsModel" (415 : Nat) (17 : Int64)) ∈ tb := inT8 (List.mem_of_getElem? (i := 68) rfl) rfl
theorem kw8_69 : (Jvm.Cond.methodLink "FrontChairsModel" (408 : Nat) ({ cls := "FrontChairsModel", name := "brings", desc := "(IIII)Z" } : Jvm.MethodName)) ∈ tb := inT8 (List.mem_of_getElem? (i := 69) rfl) rfl
theorem kw8_71 : (Jvm.Cond.instanceMethod ({ cls := "FrontChairsModel", name := "brings", desc := "(IIII)Z" } : Jvm.MethodName)) ∈ tb := inT8 (List.mem_of_getElem? (i := 71) rfl) rfl
theorem kw8_72 : (Jvm.Cond.code ({ cls := "FrontChairsModel", name := "brings", desc := "(IIII)Z" } : Jvm.MethodName) prog_10_method_93_code (6 : Nat) (Option.some Jvm.ClassFile.FieldType.boolean)) ∈ tb := inT8 (List.mem_of_getElem? (i := 72) rfl) rfl
theorem kw8_73 : (Jvm.Cond.methodLink "FrontChairsModel" (405 : Nat) ({ cls := "FrontChairsModel", name := "keepsLevel", desc := "(I)V" } : Jvm.MethodName)) ∈ tb := inT8 (List.mem_of_getElem? (i := 73) rfl) rfl
theorem kw8_75 : (Jvm.Cond.instanceMethod ({ cls := "FrontChairsModel", name := "keepsLevel", desc := "(I)V" } : Jvm.MethodName)) ∈ tb := inT8 (List.mem_of_getElem? (i := 75) rfl) rfl
theorem kw8_76 : (Jvm.Cond.code ({ cls := "FrontChairsModel", name := "keepsLevel", desc := "(I)V" } : Jvm.MethodName) prog_10_method_91_code (3 : Nat) (Option.none : Option Jvm.ClassFile.FieldType)) ∈ tb := inT8 (List.mem_of_getElem? (i := 76) rfl) rfl
theorem kw8_77 : (Jvm.Cond.methodLink "FrontChairsModel" (412 : Nat) ({ cls := "FrontChairsModel", name := "backToLevel", desc := "(I)V" } : Jvm.MethodName)) ∈ tb := inT8 (List.mem_of_getElem? (i := 77) rfl) rfl
theorem kw8_79 : (Jvm.Cond.instanceMethod ({ cls := "FrontChairsModel", name := "backToLevel", desc := "(I)V" } : Jvm.MethodName)) ∈ tb := inT8 (List.mem_of_getElem? (i := 79) rfl) rfl
theorem kw8_80 : (Jvm.Cond.code ({ cls := "FrontChairsModel", name := "backToLevel", desc := "(I)V" } : Jvm.MethodName) prog_10_method_92_code (3 : Nat) (Option.none : Option Jvm.ClassFile.FieldType)) ∈ tb := inT8 (List.mem_of_getElem? (i := 80) rfl) rfl
theorem kw8_81 : (Jvm.Cond.methodLink "FrontChairsLaw" (220 : Nat) ({ cls := "FrontChairsModel", name := "faints", desc := "(III)I" } : Jvm.MethodName)) ∈ tb := inT8 (List.mem_of_getElem? (i := 81) rfl) rfl
theorem kw8_82 : (Jvm.Cond.instanceMethod ({ cls := "FrontChairsModel", name := "faints", desc := "(III)I" } : Jvm.MethodName)) ∈ tb := inT8 (List.mem_of_getElem? (i := 82) rfl) rfl
theorem kw8_83 : (Jvm.Cond.selects "FrontChairsModel" ({ cls := "FrontChairsModel", name := "faints", desc := "(III)I" } : Jvm.MethodName) ({ cls := "FrontChairsModel", name := "faints", desc := "(III)I" } : Jvm.MethodName)) ∈ tb := inT8 (List.mem_of_getElem? (i := 83) rfl) rfl
theorem kw8_84 : (Jvm.Cond.code ({ cls := "FrontChairsModel", name := "faints", desc := "(III)I" } : Jvm.MethodName) prog_10_method_95_code (8 : Nat) (Option.some Jvm.ClassFile.FieldType.int)) ∈ tb := inT8 (List.mem_of_getElem? (i := 84) rfl) rfl
theorem kw8_85 : (Jvm.Cond.constantLong "FrontChairsModel" (417 : Nat) (60 : Int64)) ∈ tb := inT8 (List.mem_of_getElem? (i := 85) rfl) rfl
theorem kw8_86 : (Jvm.Cond.methodLink "FrontChairsLaw" (223 : Nat) ({ cls := "FrontChairsModel", name := "round", desc := "(I)I" } : Jvm.MethodName)) ∈ tb := inT8 (List.mem_of_getElem? (i := 86) rfl) rfl
theorem kw8_87 : (Jvm.Cond.instanceMethod ({ cls := "FrontChairsModel", name := "round", desc := "(I)I" } : Jvm.MethodName)) ∈ tb := inT8 (List.mem_of_getElem? (i := 87) rfl) rfl
theorem kw8_88 : (Jvm.Cond.selects "FrontChairsModel" ({ cls := "FrontChairsModel", name := "round", desc := "(I)I" } : Jvm.MethodName) ({ cls := "FrontChairsModel", name := "round", desc := "(I)I" } : Jvm.MethodName)) ∈ tb := inT8 (List.mem_of_getElem? (i := 88) rfl) rfl
theorem kw8_89 : (Jvm.Cond.code ({ cls := "FrontChairsModel", name := "round", desc := "(I)I" } : Jvm.MethodName) prog_10_method_98_code (6 : Nat) (Option.some Jvm.ClassFile.FieldType.int)) ∈ tb := inT8 (List.mem_of_getElem? (i := 89) rfl) rfl
theorem kw8_90 : (Jvm.Cond.methodLink "FrontChairsModel" (419 : Nat) ({ cls := "FrontChairsModel", name := "headOf", desc := "(I)I" } : Jvm.MethodName)) ∈ tb := inT8 (List.mem_of_getElem? (i := 90) rfl) rfl
theorem kw8_92 : (Jvm.Cond.instanceMethod ({ cls := "FrontChairsModel", name := "headOf", desc := "(I)I" } : Jvm.MethodName)) ∈ tb := inT8 (List.mem_of_getElem? (i := 92) rfl) rfl
theorem kw8_93 : (Jvm.Cond.code ({ cls := "FrontChairsModel", name := "headOf", desc := "(I)I" } : Jvm.MethodName) prog_10_method_97_code (3 : Nat) (Option.some Jvm.ClassFile.FieldType.int)) ∈ tb := inT8 (List.mem_of_getElem? (i := 93) rfl) rfl
theorem kw8_94 : (Jvm.Cond.methodLink "FrontChairsModel" (422 : Nat) ({ cls := "FrontChairsModel", name := "foremost", desc := "(I)I" } : Jvm.MethodName)) ∈ tb := inT8 (List.mem_of_getElem? (i := 94) rfl) rfl
theorem kw8_96 : (Jvm.Cond.instanceMethod ({ cls := "FrontChairsModel", name := "foremost", desc := "(I)I" } : Jvm.MethodName)) ∈ tb := inT8 (List.mem_of_getElem? (i := 96) rfl) rfl
theorem kw8_97 : (Jvm.Cond.code ({ cls := "FrontChairsModel", name := "foremost", desc := "(I)I" } : Jvm.MethodName) prog_10_method_96_code (4 : Nat) (Option.some Jvm.ClassFile.FieldType.int)) ∈ tb := inT8 (List.mem_of_getElem? (i := 97) rfl) rfl
theorem kw8_98 : (Jvm.Cond.methodLink "FrontChairsLaw" (227 : Nat) ({ cls := "FrontChairsModel", name := "stir", desc := "()I" } : Jvm.MethodName)) ∈ tb := inT8 (List.mem_of_getElem? (i := 98) rfl) rfl
theorem kw8_99 : (Jvm.Cond.instanceMethod ({ cls := "FrontChairsModel", name := "stir", desc := "()I" } : Jvm.MethodName)) ∈ tb := inT8 (List.mem_of_getElem? (i := 99) rfl) rfl
theorem kw8_100 : (Jvm.Cond.selects "FrontChairsModel" ({ cls := "FrontChairsModel", name := "stir", desc := "()I" } : Jvm.MethodName) ({ cls := "FrontChairsModel", name := "stir", desc := "()I" } : Jvm.MethodName)) ∈ tb := inT8 (List.mem_of_getElem? (i := 100) rfl) rfl
theorem kw8_101 : (Jvm.Cond.code ({ cls := "FrontChairsModel", name := "stir", desc := "()I" } : Jvm.MethodName) prog_10_method_99_code (5 : Nat) (Option.some Jvm.ClassFile.FieldType.int)) ∈ tb := inT8 (List.mem_of_getElem? (i := 101) rfl) rfl
theorem kw8_102 : (Jvm.Cond.methodLink "FrontChairsLaw" (230 : Nat) ({ cls := "FrontChairsModel", name := "hands", desc := "(II)I" } : Jvm.MethodName)) ∈ tb := inT8 (List.mem_of_getElem? (i := 102) rfl) rfl
theorem kw8_103 : (Jvm.Cond.instanceMethod ({ cls := "FrontChairsModel", name := "hands", desc := "(II)I" } : Jvm.MethodName)) ∈ tb := inT8 (List.mem_of_getElem? (i := 103) rfl) rfl
theorem kw8_104 : (Jvm.Cond.selects "FrontChairsModel" ({ cls := "FrontChairsModel", name := "hands", desc := "(II)I" } : Jvm.MethodName) ({ cls := "FrontChairsModel", name := "hands", desc := "(II)I" } : Jvm.MethodName)) ∈ tb := inT8 (List.mem_of_getElem? (i := 104) rfl) rfl
theorem kw8_105 : (Jvm.Cond.code ({ cls := "FrontChairsModel", name := "hands", desc := "(II)I" } : Jvm.MethodName) prog_10_method_104_code (3 : Nat) (Option.some Jvm.ClassFile.FieldType.int)) ∈ tb := inT8 (List.mem_of_getElem? (i := 105) rfl) rfl
theorem kw8_106 : (Jvm.Cond.methodLink "FrontChairsModel" (434 : Nat) ({ cls := "FrontChairsModel", name := "areHandsOut", desc := "(II)Z" } : Jvm.MethodName)) ∈ tb := inT8 (List.mem_of_getElem? (i := 106) rfl) rfl
theorem kw8_108 : (Jvm.Cond.instanceMethod ({ cls := "FrontChairsModel", name := "areHandsOut", desc := "(II)Z" } : Jvm.MethodName)) ∈ tb := inT8 (List.mem_of_getElem? (i := 108) rfl) rfl
theorem kw8_109 : (Jvm.Cond.code ({ cls := "FrontChairsModel", name := "areHandsOut", desc := "(II)Z" } : Jvm.MethodName) prog_10_method_103_code (3 : Nat) (Option.some Jvm.ClassFile.FieldType.boolean)) ∈ tb := inT8 (List.mem_of_getElem? (i := 109) rfl) rfl
theorem kw8_110 : (Jvm.Cond.methodLink "FrontChairsModel" (437 : Nat) ({ cls := "FrontChairsModel", name := "handsFrom", desc := "(III)I" } : Jvm.MethodName)) ∈ tb := inT8 (List.mem_of_getElem? (i := 110) rfl) rfl
theorem kw8_112 : (Jvm.Cond.instanceMethod ({ cls := "FrontChairsModel", name := "handsFrom", desc := "(III)I" } : Jvm.MethodName)) ∈ tb := inT8 (List.mem_of_getElem? (i := 112) rfl) rfl
theorem kw8_113 : (Jvm.Cond.code ({ cls := "FrontChairsModel", name := "handsFrom", desc := "(III)I" } : Jvm.MethodName) prog_10_method_102_code (6 : Nat) (Option.some Jvm.ClassFile.FieldType.int)) ∈ tb := inT8 (List.mem_of_getElem? (i := 113) rfl) rfl
theorem kw8_114 : (Jvm.Cond.methodLink "FrontChairsModel" (431 : Nat) ({ cls := "FrontChairsModel", name := "besides", desc := "(I)I" } : Jvm.MethodName)) ∈ tb := inT8 (List.mem_of_getElem? (i := 114) rfl) rfl
theorem kw8_116 : (Jvm.Cond.instanceMethod ({ cls := "FrontChairsModel", name := "besides", desc := "(I)I" } : Jvm.MethodName)) ∈ tb := inT8 (List.mem_of_getElem? (i := 116) rfl) rfl
theorem kw8_117 : (Jvm.Cond.code ({ cls := "FrontChairsModel", name := "besides", desc := "(I)I" } : Jvm.MethodName) prog_10_method_101_code (5 : Nat) (Option.some Jvm.ClassFile.FieldType.int)) ∈ tb := inT8 (List.mem_of_getElem? (i := 117) rfl) rfl
theorem kw8_118 : (Jvm.Cond.methodLink "FrontChairsModel" (428 : Nat) ({ cls := "FrontChairsModel", name := "areSide", desc := "(II)Z" } : Jvm.MethodName)) ∈ tb := inT8 (List.mem_of_getElem? (i := 118) rfl) rfl
theorem kw8_120 : (Jvm.Cond.instanceMethod ({ cls := "FrontChairsModel", name := "areSide", desc := "(II)Z" } : Jvm.MethodName)) ∈ tb := inT8 (List.mem_of_getElem? (i := 120) rfl) rfl
theorem kw8_121 : (Jvm.Cond.code ({ cls := "FrontChairsModel", name := "areSide", desc := "(II)Z" } : Jvm.MethodName) prog_10_method_100_code (3 : Nat) (Option.some Jvm.ClassFile.FieldType.boolean)) ∈ tb := inT8 (List.mem_of_getElem? (i := 121) rfl) rfl
theorem kw8_122 : (Jvm.Cond.methodLink "FrontChairsModel" (425 : Nat) ({ cls := "java/lang/Math", name := "abs", desc := "(I)I" } : Jvm.MethodName)) ∈ tb := inT8 (List.mem_of_getElem? (i := 122) rfl) rfl
theorem kw8_123 : (Jvm.Cond.static ({ cls := "java/lang/Math", name := "abs", desc := "(I)I" } : Jvm.MethodName)) ∈ tb := inT8 (List.mem_of_getElem? (i := 123) rfl) rfl
theorem kw8_124 : (Jvm.Cond.code ({ cls := "java/lang/Math", name := "abs", desc := "(I)I" } : Jvm.MethodName) prog_21_method_59_code (1 : Nat) (Option.some Jvm.ClassFile.FieldType.int)) ∈ tb := inT8 (List.mem_of_getElem? (i := 124) rfl) rfl
theorem kw8_125 : (Jvm.Cond.methodLink "FrontChairsLaw" (233 : Nat) ({ cls := "FrontChairsModel", name := "relay", desc := "(I)I" } : Jvm.MethodName)) ∈ tb := inT8 (List.mem_of_getElem? (i := 125) rfl) rfl
theorem kw8_126 : (Jvm.Cond.instanceMethod ({ cls := "FrontChairsModel", name := "relay", desc := "(I)I" } : Jvm.MethodName)) ∈ tb := inT8 (List.mem_of_getElem? (i := 126) rfl) rfl
theorem kw8_127 : (Jvm.Cond.selects "FrontChairsModel" ({ cls := "FrontChairsModel", name := "relay", desc := "(I)I" } : Jvm.MethodName) ({ cls := "FrontChairsModel", name := "relay", desc := "(I)I" } : Jvm.MethodName)) ∈ tb := inT8 (List.mem_of_getElem? (i := 127) rfl) rfl
theorem kw8_128 : (Jvm.Cond.code ({ cls := "FrontChairsModel", name := "relay", desc := "(I)I" } : Jvm.MethodName) prog_10_method_105_code (4 : Nat) (Option.some Jvm.ClassFile.FieldType.int)) ∈ tb := inT8 (List.mem_of_getElem? (i := 128) rfl) rfl
theorem kw8_129 : (Jvm.Cond.methodLink "FrontChairsLaw" (236 : Nat) ({ cls := "FrontChairsModel", name := "cut", desc := "(II)I" } : Jvm.MethodName)) ∈ tb := inT8 (List.mem_of_getElem? (i := 129) rfl) rfl
theorem kw8_130 : (Jvm.Cond.instanceMethod ({ cls := "FrontChairsModel", name := "cut", desc := "(II)I" } : Jvm.MethodName)) ∈ tb := inT8 (List.mem_of_getElem? (i := 130) rfl) rfl
theorem kw8_131 : (Jvm.Cond.selects "FrontChairsModel" ({ cls := "FrontChairsModel", name := "cut", desc := "(II)I" } : Jvm.MethodName) ({ cls := "FrontChairsModel", name := "cut", desc := "(II)I" } : Jvm.MethodName)) ∈ tb := inT8 (List.mem_of_getElem? (i := 131) rfl) rfl
theorem kw8_132 : (Jvm.Cond.code ({ cls := "FrontChairsModel", name := "cut", desc := "(II)I" } : Jvm.MethodName) prog_10_method_106_code (5 : Nat) (Option.some Jvm.ClassFile.FieldType.int)) ∈ tb := inT8 (List.mem_of_getElem? (i := 132) rfl) rfl
theorem kw8_133 : (Jvm.Cond.methodLink "FrontChairsLaw" (240 : Nat) ({ cls := "FrontChairsModel", name := "heaps", desc := "()I" } : Jvm.MethodName)) ∈ tb := inT8 (List.mem_of_getElem? (i := 133) rfl) rfl
theorem kw8_134 : (Jvm.Cond.instanceMethod ({ cls := "FrontChairsModel", name := "heaps", desc := "()I" } : Jvm.MethodName)) ∈ tb := inT8 (List.mem_of_getElem? (i := 134) rfl) rfl
theorem kw8_135 : (Jvm.Cond.selects "FrontChairsModel" ({ cls := "FrontChairsModel", name := "heaps", desc := "()I" } : Jvm.MethodName) ({ cls := "FrontChairsModel", name := "heaps", desc := "()I" } : Jvm.MethodName)) ∈ tb := inT8 (List.mem_of_getElem? (i := 135) rfl) rfl
theorem kw8_136 : (Jvm.Cond.code ({ cls := "FrontChairsModel", name := "heaps", desc := "()I" } : Jvm.MethodName) prog_10_method_107_code (5 : Nat) (Option.some Jvm.ClassFile.FieldType.int)) ∈ tb := inT8 (List.mem_of_getElem? (i := 136) rfl) rfl
theorem kw8_137 : (Jvm.Cond.methodLink "FrontChairsLaw" (243 : Nat) ({ cls := "FrontChairsModel", name := "dry", desc := "(III)J" } : Jvm.MethodName)) ∈ tb := inT8 (List.mem_of_getElem? (i := 137) rfl) rfl
theorem kw8_138 : (Jvm.Cond.instanceMethod ({ cls := "FrontChairsModel", name := "dry", desc := "(III)J" } : Jvm.MethodName)) ∈ tb := inT8 (List.mem_of_getElem? (i := 138) rfl) rfl
theorem kw8_139 : (Jvm.Cond.selects "FrontChairsModel" ({ cls := "FrontChairsModel", name := "dry", desc := "(III)J" } : Jvm.MethodName) ({ cls := "FrontChairsModel", name := "dry", desc := "(III)J" } : Jvm.MethodName)) ∈ tb := inT8 (List.mem_of_getElem? (i := 139) rfl) rfl
theorem kw8_140 : (Jvm.Cond.code ({ cls := "FrontChairsModel", name := "dry", desc := "(III)J" } : Jvm.MethodName) prog_10_method_112_code (10 : Nat) (Option.some Jvm.ClassFile.FieldType.long)) ∈ tb := inT8 (List.mem_of_getElem? (i := 140) rfl) rfl
theorem kw8_141 : (Jvm.Cond.methodLink "FrontChairsModel" (446 : Nat) ({ cls := "FrontChairsModel", name := "isDryLong", desc := "(I)Z" } : Jvm.MethodName)) ∈ tb := inT8 (List.mem_of_getElem? (i := 141) rfl) rfl
theorem kw8_142 : (Jvm.Cond.static ({ cls := "FrontChairsModel", name := "isDryLong", desc := "(I)Z" } : Jvm.MethodName)) ∈ tb := inT8 (List.mem_of_getElem? (i := 142) rfl) rfl
theorem kw8_143 : (Jvm.Cond.code ({ cls := "FrontChairsModel", name := "isDryLong", desc := "(I)Z" } : Jvm.MethodName) prog_10_method_108_code (1 : Nat) (Option.some Jvm.ClassFile.FieldType.boolean)) ∈ tb := inT8 (List.mem_of_getElem? (i := 143) rfl) rfl
theorem kw8_144 : (Jvm.Cond.constantLong "FrontChairsModel" (440 : Nat) (15 : Int64)) ∈ tb := inT8 (List.mem_of_getElem? (i := 144) rfl) rfl
theorem kw8_145 : (Jvm.Cond.methodLink "FrontChairsModel" (449 : Nat) ({ cls := "FrontChairsModel", name := "dryNow", desc := "(II)J" } : Jvm.MethodName)) ∈ tb := inT8 (List.mem_of_getElem? (i := 145) rfl) rfl
theorem kw8_147 : (Jvm.Cond.instanceMethod ({ cls := "FrontChairsModel", name := "dryNow", desc := "(II)J" } : Jvm.MethodName)) ∈ tb := inT8 (List.mem_of_getElem? (i := 147) rfl) rfl
theorem kw8_148 : (Jvm.Cond.code ({ cls := "FrontChairsModel", name := "dryNow", desc := "(II)J" } : Jvm.MethodName) prog_10_method_110_code (3 : Nat) (Option.some Jvm.ClassFile.FieldType.long)) ∈ tb := inT8 (List.mem_of_getElem? (i := 148) rfl) rfl
theorem kw8_149 : (Jvm.Cond.methodLink "FrontChairsModel" (442 : Nat) ({ cls := "FrontChairsModel", name := "dryFromHere", desc := "(II)J" } : Jvm.MethodName)) ∈ tb := inT8 (List.mem_of_getElem? (i := 149) rfl) rfl
theorem kw8_151 : (Jvm.Cond.instanceMethod ({ cls := "FrontChairsModel", name := "dryFromHere", desc := "(II)J" } : Jvm.MethodName)) ∈ tb := inT8 (List.mem_of_getElem? (i := 151) rfl) rfl
theorem kw8_152 : (Jvm.Cond.code ({ cls := "FrontChairsModel", name := "dryFromHere", desc := "(II)J" } : Jvm.MethodName) prog_10_method_109_code (7 : Nat) (Option.some Jvm.ClassFile.FieldType.long)) ∈ tb := inT8 (List.mem_of_getElem? (i := 152) rfl) rfl
theorem kw8_153 : (Jvm.Cond.methodLink "FrontChairsModel" (452 : Nat) ({ cls := "FrontChairsModel", name := "common", desc := "(JJ)J" } : Jvm.MethodName)) ∈ tb := inT8 (List.mem_of_getElem? (i := 153) rfl) rfl
theorem kw8_154 : (Jvm.Cond.static ({ cls := "FrontChairsModel", name := "common", desc := "(JJ)J" } : Jvm.MethodName)) ∈ tb := inT8 (List.mem_of_getElem? (i := 154) rfl) rfl
theorem kw8_155 : (Jvm.Cond.code ({ cls := "FrontChairsModel", name := "common", desc := "(JJ)J" } : Jvm.MethodName) prog_10_method_111_code (10 : Nat) (Option.some Jvm.ClassFile.FieldType.long)) ∈ tb := inT8 (List.mem_of_getElem? (i := 155) rfl) rfl
theorem kw8_156 : (Jvm.Cond.methodLink "FrontChairsLaw" (246 : Nat) ({ cls := "FrontChairsModel", name := "driest", desc := "(I)I" } : Jvm.MethodName)) ∈ tb := inT8 (List.mem_of_getElem? (i := 156) rfl) rfl
theorem kw8_157 : (Jvm.Cond.instanceMethod ({ cls := "FrontChairsModel", name := "driest", desc := "(I)I" } : Jvm.MethodName)) ∈ tb := inT8 (List.mem_of_getElem? (i := 157) rfl) rfl
theorem kw8_158 : (Jvm.Cond.selects "FrontChairsModel" ({ cls := "FrontChairsModel", name := "driest", desc := "(I)I" } : Jvm.MethodName) ({ cls := "FrontChairsModel", name := "driest", desc := "(I)I" } : Jvm.MethodName)) ∈ tb := inT8 (List.mem_of_getElem? (i := 158) rfl) rfl
theorem kw8_159 : (Jvm.Cond.code ({ cls := "FrontChairsModel", name := "driest", desc := "(I)I" } : Jvm.MethodName) prog_10_method_113_code (8 : Nat) (Option.some Jvm.ClassFile.FieldType.int)) ∈ tb := inT8 (List.mem_of_getElem? (i := 159) rfl) rfl
theorem kw8_160 : (Jvm.Cond.methodLink "FrontChairsLaw" (249 : Nat) ({ cls := "FrontChairsModel", name := "where", desc := "(II)I" } : Jvm.MethodName)) ∈ tb := inT8 (List.mem_of_getElem? (i := 160) rfl) rfl
theorem kw8_161 : (Jvm.Cond.instanceMethod ({ cls := "FrontChairsModel", name := "where", desc := "(II)I" } : Jvm.MethodName)) ∈ tb := inT8 (List.mem_of_getElem? (i := 161) rfl) rfl
theorem kw8_162 : (Jvm.Cond.selects "FrontChairsModel" ({ cls := "FrontChairsModel", name := "where", desc := "(II)I" } : Jvm.MethodName) ({ cls := "FrontChairsModel", name := "where", desc := "(II)I" } : Jvm.MethodName)) ∈ tb := inT8 (List.mem_of_getElem? (i := 162) rfl) rfl
theorem kw8_163 : (Jvm.Cond.code ({ cls := "FrontChairsModel", name := "where", desc := "(II)I" } : Jvm.MethodName) prog_10_method_114_code (9 : Nat) (Option.some Jvm.ClassFile.FieldType.int)) ∈ tb := inT8 (List.mem_of_getElem? (i := 163) rfl) rfl
theorem kw8_164 : (Jvm.Cond.methodLink "FrontChairsLaw" (252 : Nat) ({ cls := "FrontChairsModel", name := "changed", desc := "(II)I" } : Jvm.MethodName)) ∈ tb := inT8 (List.mem_of_getElem? (i := 164) rfl) rfl
theorem kw8_165 : (Jvm.Cond.instanceMethod ({ cls := "FrontChairsModel", name := "changed", desc := "(II)I" } : Jvm.MethodName)) ∈ tb := inT8 (List.mem_of_getElem? (i := 165) rfl) rfl
theorem kw8_166 : (Jvm.Cond.selects "FrontChairsModel" ({ cls := "FrontChairsModel", name := "changed", desc := "(II)I" } : Jvm.MethodName) ({ cls := "FrontChairsModel", name := "changed", desc := "(II)I" } : Jvm.MethodName)) ∈ tb := inT8 (List.mem_of_getElem? (i := 166) rfl) rfl
theorem kw8_167 : (Jvm.Cond.code ({ cls := "FrontChairsModel", name := "changed", desc := "(II)I" } : Jvm.MethodName) prog_10_method_118_code (3 : Nat) (Option.some Jvm.ClassFile.FieldType.int)) ∈ tb := inT8 (List.mem_of_getElem? (i := 167) rfl) rfl
theorem kw8_168 : (Jvm.Cond.methodLink "FrontChairsModel" (461 : Nat) ({ cls := "FrontChairsModel", name := "isChangedOut", desc := "(II)Z" } : Jvm.MethodName)) ∈ tb := inT8 (List.mem_of_getElem? (i := 168) rfl) rfl
theorem kw8_170 : (Jvm.Cond.instanceMethod ({ cls := "FrontChairsModel", name := "isChangedOut", desc := "(II)Z" } : Jvm.MethodName)) ∈ tb := inT8 (List.mem_of_getElem? (i := 170) rfl) rfl
theorem kw8_171 : (Jvm.Cond.code ({ cls := "FrontChairsModel", name := "isChangedOut", desc := "(II)Z" } : Jvm.MethodName) prog_10_method_115_code (3 : Nat) (Option.some Jvm.ClassFile.FieldType.boolean)) ∈ tb := inT8 (List.mem_of_getElem? (i := 171) rfl) rfl
theorem kw8_172 : (Jvm.Cond.methodLink "FrontChairsModel" (464 : Nat) ({ cls := "FrontChairsModel", name := "laysTwos", desc := "(II)V" } : Jvm.MethodName)) ∈ tb := inT8 (List.mem_of_getElem? (i := 172) rfl) rfl
theorem kw8_174 : (Jvm.Cond.instanceMethod ({ cls := "FrontChairsModel", name := "laysTwos", desc := "(II)V" } : Jvm.MethodName)) ∈ tb := inT8 (List.mem_of_getElem? (i := 174) rfl) rfl
theorem kw8_175 : (Jvm.Cond.code ({ cls := "FrontChairsModel", name := "laysTwos", desc := "(II)V" } : Jvm.MethodName) prog_10_method_116_code (5 : Nat) (Option.none : Option Jvm.ClassFile.FieldType)) ∈ tb := inT8 (List.mem_of_getElem? (i := 175) rfl) rfl
theorem kw8_176 : (Jvm.Cond.methodLink "FrontChairsModel" (458 : Nat) ({ cls := "FrontChairsModel", name := "addsTwo", desc := "(I)V" } : Jvm.MethodName)) ∈ tb := inT8 (List.mem_of_getElem? (i := 176) rfl) rfl
theorem kw8_178 : (Jvm.Cond.instanceMethod ({ cls := "FrontChairsModel", name := "addsTwo", desc := "(I)V" } : Jvm.MethodName)) ∈ tb := inT8 (List.mem_of_getElem? (i := 178) rfl) rfl
theorem kw8_179 : (Jvm.Cond.code ({ cls := "FrontChairsModel", name := "addsTwo", desc := "(I)V" } : Jvm.MethodName) prog_10_method_117_code (3 : Nat) (Option.none : Option Jvm.ClassFile.FieldType)) ∈ tb := inT8 (List.mem_of_getElem? (i := 179) rfl) rfl
theorem kw8_180 : (Jvm.Cond.methodLink "FrontChairsLaw" (255 : Nat) ({ cls := "FrontChairsModel", name := "changedAt", desc := "(III)I" } : Jvm.MethodName)) ∈ tb := inT8 (List.mem_of_getElem? (i := 180) rfl) rfl
theorem kw8_181 : (Jvm.Cond.instanceMethod ({ cls := "FrontChairsModel", name := "changedAt", desc := "(III)I" } : Jvm.MethodName)) ∈ tb := inT8 (List.mem_of_getElem? (i := 181) rfl) rfl
theorem kw8_182 : (Jvm.Cond.selects "FrontChairsModel" ({ cls := "FrontChairsModel", name := "changedAt", desc := "(III)I" } : Jvm.MethodName) ({ cls := "FrontChairsModel", name := "changedAt", desc := "(III)I" } : Jvm.MethodName)) ∈ tb := inT8 (List.mem_of_getElem? (i := 182) rfl) rfl
theorem kw8_183 : (Jvm.Cond.code ({ cls := "FrontChairsModel", name := "changedAt", desc := "(III)I" } : Jvm.MethodName) prog_10_method_119_code (4 : Nat) (Option.some Jvm.ClassFile.FieldType.int)) ∈ tb := inT8 (List.mem_of_getElem? (i := 183) rfl) rfl
theorem kw8_184 : (Jvm.Cond.methodLink "FrontChairsLaw" (258 : Nat) ({ cls := "FrontChairsModel", name := "sure", desc := "(II)I" } : Jvm.MethodName)) ∈ tb := inT8 (List.mem_of_getElem? (i := 184) rfl) rfl
theorem kw8_185 : (Jvm.Cond.instanceMethod ({ cls := "FrontChairsModel", name := "sure", desc := "(II)I" } : Jvm.MethodName)) ∈ tb := inT8 (List.mem_of_getElem? (i := 185) rfl) rfl
theorem kw8_186 : (Jvm.Cond.selects "FrontChairsModel" ({ cls := "FrontChairsModel", name := "sure", desc := "(II)I" } : Jvm.MethodName) ({ cls := "FrontChairsModel", name := "sure", desc := "(II)I" } : Jvm.MethodName)) ∈ tb := inT8 (List.mem_of_getElem? (i := 186) rfl) rfl
theorem kw8_187 : (Jvm.Cond.code ({ cls := "FrontChairsModel", name := "sure", desc := "(II)I" } : Jvm.MethodName) prog_10_method_120_code (5 : Nat) (Option.some Jvm.ClassFile.FieldType.int)) ∈ tb := inT8 (List.mem_of_getElem? (i := 187) rfl) rfl
theorem kw8_188 : (Jvm.Cond.methodLink "FrontChairsLaw" (261 : Nat) ({ cls := "FrontChairsModel", name := "look", desc := "(II)I" } : Jvm.MethodName)) ∈ tb := inT8 (List.mem_of_getElem? (i := 188) rfl) rfl
theorem kw8_189 : (Jvm.Cond.instanceMethod ({ cls := "FrontChairsModel", name := "look", desc := "(II)I" } : Jvm.MethodName)) ∈ tb := inT8 (List.mem_of_getElem? (i := 189) rfl) rfl
theorem kw8_190 : (Jvm.Cond.selects "FrontChairsModel" ({ cls := "FrontChairsModel", name := "look", desc := "(II)I" } : Jvm.MethodName) ({ cls := "FrontChairsModel", name := "look", desc := "(II)I" } : Jvm.MethodName)) ∈ tb := inT8 (List.mem_of_getElem? (i := 190) rfl) rfl
theorem kw8_191 : (Jvm.Cond.code ({ cls := "FrontChairsModel", name := "look", desc := "(II)I" } : Jvm.MethodName) prog_10_method_122_code (6 : Nat) (Option.some Jvm.ClassFile.FieldType.int)) ∈ tb := inT8 (List.mem_of_getElem? (i := 191) rfl) rfl
theorem kw8_192 : (Jvm.Cond.constant "FrontChairsModel" (467 : Nat) (536870912 : Int32)) ∈ tb := inT8 (List.mem_of_getElem? (i := 192) rfl) rfl
theorem kw8_193 : (Jvm.Cond.methodLink "FrontChairsModel" (468 : Nat) ({ cls := "FrontChairsModel", name := "mostAlike", desc := "(I)I" } : Jvm.MethodName)) ∈ tb := inT8 (List.mem_of_getElem? (i := 193) rfl) rfl
theorem kw8_195 : (Jvm.Cond.instanceMethod ({ cls := "FrontChairsModel", name := "mostAlike", desc := "(I)I" } : Jvm.MethodName)) ∈ tb := inT8 (List.mem_of_getElem? (i := 195) rfl) rfl
theorem kw8_196 : (Jvm.Cond.code ({ cls := "FrontChairsModel", name := "mostAlike", desc := "(I)I" } : Jvm.MethodName) prog_10_method_121_code (6 : Nat) (Option.some Jvm.ClassFile.FieldType.int)) ∈ tb := inT8 (List.mem_of_getElem? (i := 196) rfl) rfl
theorem kw8_197 : (Jvm.Cond.methodLink "FrontChairsLaw" (265 : Nat) ({ cls := "FrontChairsModel", name := "tray", desc := "(III)V" } : Jvm.MethodName)) ∈ tb := inT8 (List.mem_of_getElem? (i := 197) rfl) rfl
theorem kw8_198 : (Jvm.Cond.instanceMethod ({ cls := "FrontChairsModel", name := "tray", desc := "(III)V" } : Jvm.MethodName)) ∈ tb := inT8 (List.mem_of_getElem? (i := 198) rfl) rfl
theorem kw8_199 : (Jvm.Cond.selects "FrontChairsModel" ({ cls := "FrontChairsModel", name := "tray", desc := "(III)V" } : Jvm.MethodName) ({ cls := "FrontChairsModel", name := "tray", desc := "(III)V" } : Jvm.MethodName)) ∈ tb := inT8 (List.mem_of_getElem? (i := 199) rfl) rfl
theorem kw8_200 : (Jvm.Cond.code ({ cls := "FrontChairsModel", name := "tray", desc := "(III)V" } : Jvm.MethodName) prog_10_method_124_code (5 : Nat) (Option.none : Option Jvm.ClassFile.FieldType)) ∈ tb := inT8 (List.mem_of_getElem? (i := 200) rfl) rfl
theorem kw8_201 : (Jvm.Cond.methodLink "FrontChairsLaw" (271 : Nat) ({ cls := "FrontChairsModel", name := "write", desc := "(IIJ)J" } : Jvm.MethodName)) ∈ tb := inT8 (List.mem_of_getElem? (i := 201) rfl) rfl
theorem kw8_202 : (Jvm.Cond.instanceMethod ({ cls := "FrontChairsModel", name := "write", desc := "(IIJ)J" } : Jvm.MethodName)) ∈ tb := inT8 (List.mem_of_getElem? (i := 202) rfl) rfl
theorem kw8_203 : (Jvm.Cond.selects "FrontChairsModel" ({ cls := "FrontChairsModel", name := "write", desc := "(IIJ)J" } : Jvm.MethodName) ({ cls := "FrontChairsModel", name := "write", desc := "(IIJ)J" } : Jvm.MethodName)) ∈ tb := inT8 (List.mem_of_getElem? (i := 203) rfl) rfl
theorem kw8_204 : (Jvm.Cond.code ({ cls := "FrontChairsModel", name := "write", desc := "(IIJ)J" } : Jvm.MethodName) prog_10_method_126_code (5 : Nat) (Option.some Jvm.ClassFile.FieldType.long)) ∈ tb := inT8 (List.mem_of_getElem? (i := 204) rfl) rfl
theorem kw8_205 : (Jvm.Cond.methodLink "FrontChairsModel" (471 : Nat) ({ cls := "FrontChairsModel", name := "cutTo", desc := "(IIJ)J" } : Jvm.MethodName)) ∈ tb := inT8 (List.mem_of_getElem? (i := 205) rfl) rfl
theorem kw8_207 : (Jvm.Cond.instanceMethod ({ cls := "FrontChairsModel", name := "cutTo", desc := "(IIJ)J" } : Jvm.MethodName)) ∈ tb := inT8 (List.mem_of_getElem? (i := 207) rfl) rfl
theorem kw8_208 : (Jvm.Cond.code ({ cls := "FrontChairsModel", name := "cutTo", desc := "(IIJ)J" } : Jvm.MethodName) prog_10_method_125_code (6 : Nat) (Option.some Jvm.ClassFile.FieldType.long)) ∈ tb := inT8 (List.mem_of_getElem? (i := 208) rfl) rfl
theorem kw8_209 : (Jvm.Cond.methodLink "FrontChairsLaw" (274 : Nat) ({ cls := "FrontChairsModel", name := "copy", desc := "(II)I" } : Jvm.MethodName)) ∈ tb := inT8 (List.mem_of_getElem? (i := 209) rfl) rfl
theorem kw8_210 : (Jvm.Cond.instanceMethod ({ cls := "FrontChairsModel", name := "copy", desc := "(II)I" } : Jvm.MethodName)) ∈ tb := inT8 (List.mem_of_getElem? (i := 210) rfl) rfl
theorem kw8_211 : (Jvm.Cond.selects "FrontChairsModel" ({ cls := "FrontChairsModel", name := "copy", desc := "(II)I" } : Jvm.MethodName) ({ cls := "FrontChairsModel", name := "copy", desc := "(II)I" } : Jvm.MethodName)) ∈ tb := inT8 (List.mem_of_getElem? (i := 211) rfl) rfl
theorem kw8_212 : (Jvm.Cond.code ({ cls := "FrontChairsModel", name := "copy", desc := "(II)I" } : Jvm.MethodName) prog_10_method_127_code (4 : Nat) (Option.some Jvm.ClassFile.FieldType.int)) ∈ tb := inT8 (List.mem_of_getElem? (i := 212) rfl) rfl
theorem kw8_213 : (Jvm.Cond.methodLink "FrontChairsLaw" (278 : Nat) ({ cls := "FrontChairsModel", name := "image", desc := "(I)V" } : Jvm.MethodName)) ∈ tb := inT8 (List.mem_of_getElem? (i := 213) rfl) rfl
theorem kw8_214 : (Jvm.Cond.instanceMethod ({ cls := "FrontChairsModel", name := "image", desc := "(I)V" } : Jvm.MethodName)) ∈ tb := inT8 (List.mem_of_getElem? (i := 214) rfl) rfl
theorem kw8_215 : (Jvm.Cond.selects "FrontChairsModel" ({ cls := "FrontChairsModel", name := "image", desc := "(I)V" } : Jvm.MethodName) ({ cls := "FrontChairsModel", name := "image", desc := "(I)V" } : Jvm.MethodName)) ∈ tb := inT8 (List.mem_of_getElem? (i := 215) rfl) rfl
theorem kw8_216 : (Jvm.Cond.code ({ cls := "FrontChairsModel", name := "image", desc := "(I)V" } : Jvm.MethodName) prog_10_method_128_code (3 : Nat) (Option.none : Option Jvm.ClassFile.FieldType)) ∈ tb := inT8 (List.mem_of_getElem? (i := 216) rfl) rfl
theorem kw8_217 : (Jvm.Cond.constantLong "FrontChairsModel" (475 : Nat) (2 : Int64)) ∈ tb := inT8 (List.mem_of_getElem? (i := 217) rfl) rfl
theorem kw8_218 : (Jvm.Cond.methodLink "FrontChairsLaw" (281 : Nat) ({ cls := "FrontChairsModel", name := "restore", desc := "(I)V" } : Jvm.MethodName)) ∈ tb := inT8 (List.mem_of_getElem? (i := 218) rfl) rfl
theorem kw8_219 : (Jvm.Cond.instanceMethod ({ cls := "FrontChairsModel", name := "restore", desc := "(I)V" } : Jvm.MethodName)) ∈ tb := inT8 (List.mem_of_getElem? (i := 219) rfl) rfl
theorem kw8_220 : (Jvm.Cond.selects "FrontChairsModel" ({ cls := "FrontChairsModel", name := "restore", desc := "(I)V" } : Jvm.MethodName) ({ cls := "FrontChairsModel", name := "restore", desc := "(I)V" } : Jvm.MethodName)) ∈ tb := inT8 (List.mem_of_getElem? (i := 220) rfl) rfl
theorem kw8_221 : (Jvm.Cond.code ({ cls := "FrontChairsModel", name := "restore", desc := "(I)V" } : Jvm.MethodName) prog_10_method_129_code (3 : Nat) (Option.none : Option Jvm.ClassFile.FieldType)) ∈ tb := inT8 (List.mem_of_getElem? (i := 221) rfl) rfl
theorem kw8_222 : (Jvm.Cond.methodLink "FrontChairsLaw" (285 : Nat) ({ cls := "FrontChairsModel", name := "count", desc := "(I)I" } : Jvm.MethodName)) ∈ tb := inT8 (List.mem_of_getElem? (i := 222) rfl) rfl
theorem kw8_223 : (Jvm.Cond.instanceMethod ({ cls := "FrontChairsModel", name := "count", desc := "(I)I" } : Jvm.MethodName)) ∈ tb := inT8 (List.mem_of_getElem? (i := 223) rfl) rfl
theorem kw8_224 : (Jvm.Cond.selects "FrontChairsModel" ({ cls := "FrontChairsModel", name := "count", desc := "(I)I" } : Jvm.MethodName) ({ cls := "FrontChairsModel", name := "count", desc := "(I)I" } : Jvm.MethodName)) ∈ tb := inT8 (List.mem_of_getElem? (i := 224) rfl) rfl
theorem kw8_225 : (Jvm.Cond.code ({ cls := "FrontChairsModel", name := "count", desc := "(I)I" } : Jvm.MethodName) prog_10_method_131_code (2 : Nat) (Option.some Jvm.ClassFile.FieldType.int)) ∈ tb := inT8 (List.mem_of_getElem? (i := 225) rfl) rfl
theorem kw8_226 : (Jvm.Cond.methodLink "FrontChairsModel" (477 : Nat) ({ cls := "FrontChairsModel", name := "ups", desc := "()I" } : Jvm.MethodName)) ∈ tb := inT8 (List.mem_of_getElem? (i := 226) rfl) rfl
theorem kw8_228 : (Jvm.Cond.instanceMethod ({ cls := "FrontChairsModel", name := "ups", desc := "()I" } : Jvm.MethodName)) ∈ tb := inT8 (List.mem_of_getElem? (i := 228) rfl) rfl
theorem kw8_229 : (Jvm.Cond.code ({ cls := "FrontChairsModel", name := "ups", desc := "()I" } : Jvm.MethodName) prog_10_method_130_code (3 : Nat) (Option.some Jvm.ClassFile.FieldType.int)) ∈ tb := inT8 (List.mem_of_getElem? (i := 229) rfl) rfl
theorem kw8_230 : (Jvm.Cond.constantLong "FrontChairsLaw" (266 : Nat) (4294967295 : Int64)) ∈ tb := inT8 (List.mem_of_getElem? (i := 230) rfl) rfl
theorem kw9_7 : (Jvm.Cond.fieldLink "java/lang/String" (9 : Nat) "java/lang/String" "value" "[B") ∈ tb := inT9 (List.mem_of_getElem? (i := 7) rfl) rfl
theorem kw9_8 : (Jvm.Cond.fieldLink "java/lang/String" (15 : Nat) "java/lang/String" "coder" "B") ∈ tb := inT9 (List.mem_of_getElem? (i := 8) rfl) rfl
theorem inPr {w : Cond} (h : w ∈ k2_sels lw_privs) (g : goodWord w = true) : w ∈ tb := tb_in (List.mem_append_left _ h) g
theorem kp_0 : Cond.selects "FrontChairs" ⟨"FrontChairs", "append", "(I)V"⟩ ⟨"FrontChairs", "append", "(I)V"⟩ ∈ tb := inPr (List.mem_of_getElem? (i := 0) rfl) rfl
theorem kp_1 : Cond.selects "FrontChairs$Seats" ⟨"FrontChairs$Seats", "hindmostFree", "(I)I"⟩ ⟨"FrontChairs$Seats", "hindmostFree", "(I)I"⟩ ∈ tb := inPr (List.mem_of_getElem? (i := 1) rfl) rfl
theorem kp_2 : Cond.selects "FrontChairs" ⟨"FrontChairs", "trial", "()LFrontChairs$Seats;"⟩ ⟨"FrontChairs", "trial", "()LFrontChairs$Seats;"⟩ ∈ tb := inPr (List.mem_of_getElem? (i := 2) rfl) rfl
theorem kp_3 : Cond.selects "FrontChairs$Seats" ⟨"FrontChairs$Seats", "widened", "(I)I"⟩ ⟨"FrontChairs$Seats", "widened", "(I)I"⟩ ∈ tb := inPr (List.mem_of_getElem? (i := 3) rfl) rfl
theorem kp_4 : Cond.selects "FrontChairs$Seats" ⟨"FrontChairs$Seats", "bitOn", "(II)I"⟩ ⟨"FrontChairs$Seats", "bitOn", "(II)I"⟩ ∈ tb := inPr (List.mem_of_getElem? (i := 4) rfl) rfl
theorem kp_5 : Cond.selects "FrontChairs" ⟨"FrontChairs", "needWithin", "(III)V"⟩ ⟨"FrontChairs", "needWithin", "(III)V"⟩ ∈ tb := inPr (List.mem_of_getElem? (i := 5) rfl) rfl
theorem kp_6 : Cond.selects "java/lang/Throwable" ⟨"java/lang/Throwable", "fillInStackTrace", "(I)Ljava/lang/Throwable;"⟩ ⟨"java/lang/Throwable", "fillInStackTrace", "(I)Ljava/lang/Throwable;"⟩ ∈ tb := inPr (List.mem_of_getElem? (i := 6) rfl) rfl
theorem kp_7 : Cond.selects "FrontChairs$Reader" ⟨"FrontChairs$Reader", "scan", "([II)V"⟩ ⟨"FrontChairs$Reader", "scan", "([II)V"⟩ ∈ tb := inPr (List.mem_of_getElem? (i := 7) rfl) rfl
theorem kp_8 : Cond.selects "FrontChairs$Reader" ⟨"FrontChairs$Reader", "keep", "(III)V"⟩ ⟨"FrontChairs$Reader", "keep", "(III)V"⟩ ∈ tb := inPr (List.mem_of_getElem? (i := 8) rfl) rfl
theorem kp_9 : Cond.selects "FrontChairs$Reader" ⟨"FrontChairs$Reader", "need", "(I)V"⟩ ⟨"FrontChairs$Reader", "need", "(I)V"⟩ ∈ tb := inPr (List.mem_of_getElem? (i := 9) rfl) rfl
theorem kp_10 : Cond.selects "FrontChairs$Reader" ⟨"FrontChairs$Reader", "kind", "()I"⟩ ⟨"FrontChairs$Reader", "kind", "()I"⟩ ∈ tb := inPr (List.mem_of_getElem? (i := 10) rfl) rfl
theorem kp_11 : Cond.selects "FrontChairs$Reader" ⟨"FrontChairs$Reader", "fail", "(I)V"⟩ ⟨"FrontChairs$Reader", "fail", "(I)V"⟩ ∈ tb := inPr (List.mem_of_getElem? (i := 11) rfl) rfl
theorem kp_12 : Cond.selects "FrontChairs$Reader" ⟨"FrontChairs$Reader", "number", "(II)I"⟩ ⟨"FrontChairs$Reader", "number", "(II)I"⟩ ∈ tb := inPr (List.mem_of_getElem? (i := 12) rfl) rfl
theorem kp_13 : Cond.selects "FrontChairs$Reader" ⟨"FrontChairs$Reader", "personLine", "()V"⟩ ⟨"FrontChairs$Reader", "personLine", "()V"⟩ ∈ tb := inPr (List.mem_of_getElem? (i := 13) rfl) rfl
theorem kp_14 : Cond.selects "FrontChairs$Reader" ⟨"FrontChairs$Reader", "freeRow", "(I)I"⟩ ⟨"FrontChairs$Reader", "freeRow", "(I)I"⟩ ∈ tb := inPr (List.mem_of_getElem? (i := 14) rfl) rfl
theorem kp_15 : Cond.selects "FrontChairs$Reader" ⟨"FrontChairs$Reader", "flag", "(I)V"⟩ ⟨"FrontChairs$Reader", "flag", "(I)V"⟩ ∈ tb := inPr (List.mem_of_getElem? (i := 15) rfl) rfl
theorem kp_16 : Cond.selects "FrontChairs$Reader" ⟨"FrontChairs$Reader", "truth", "(I)V"⟩ ⟨"FrontChairs$Reader", "truth", "(I)V"⟩ ∈ tb := inPr (List.mem_of_getElem? (i := 16) rfl) rfl
theorem kp_17 : Cond.selects "FrontChairs$Reader" ⟨"FrontChairs$Reader", "unit", "(I)V"⟩ ⟨"FrontChairs$Reader", "unit", "(I)V"⟩ ∈ tb := inPr (List.mem_of_getElem? (i := 17) rfl) rfl
theorem kp_18 : Cond.selects "FrontChairs$Reader" ⟨"FrontChairs$Reader", "emit", "(I)V"⟩ ⟨"FrontChairs$Reader", "emit", "(I)V"⟩ ∈ tb := inPr (List.mem_of_getElem? (i := 18) rfl) rfl
theorem kp_19 : Cond.selects "FrontChairs$Reader" ⟨"FrontChairs$Reader", "sum", "(I)V"⟩ ⟨"FrontChairs$Reader", "sum", "(I)V"⟩ ∈ tb := inPr (List.mem_of_getElem? (i := 19) rfl) rfl
theorem kp_20 : Cond.selects "FrontChairs$Reader" ⟨"FrontChairs$Reader", "atom", "(I)V"⟩ ⟨"FrontChairs$Reader", "atom", "(I)V"⟩ ∈ tb := inPr (List.mem_of_getElem? (i := 20) rfl) rfl
theorem kp_21 : Cond.selects "FrontChairs$Reader" ⟨"FrontChairs$Reader", "named", "(I)I"⟩ ⟨"FrontChairs$Reader", "named", "(I)I"⟩ ∈ tb := inPr (List.mem_of_getElem? (i := 21) rfl) rfl
theorem kp_22 : Cond.selects "FrontChairs$Reader" ⟨"FrontChairs$Reader", "keepLaw", "()V"⟩ ⟨"FrontChairs$Reader", "keepLaw", "()V"⟩ ∈ tb := inPr (List.mem_of_getElem? (i := 22) rfl) rfl
theorem kp_23 : Cond.selects "FrontChairs" ⟨"FrontChairs", "needChair", "(II)V"⟩ ⟨"FrontChairs", "needChair", "(II)V"⟩ ∈ tb := inPr (List.mem_of_getElem? (i := 23) rfl) rfl
theorem kp_24 : Cond.selects "FrontChairs" ⟨"FrontChairs", "needPerson", "(I)V"⟩ ⟨"FrontChairs", "needPerson", "(I)V"⟩ ∈ tb := inPr (List.mem_of_getElem? (i := 24) rfl) rfl
theorem kp_25 : Cond.selects "FrontChairs" ⟨"FrontChairs", "needTray", "(I)V"⟩ ⟨"FrontChairs", "needTray", "(I)V"⟩ ∈ tb := inPr (List.mem_of_getElem? (i := 25) rfl) rfl
theorem kp_26 : Cond.selects "FrontChairs" ⟨"FrontChairs", "needLaid", "(I)V"⟩ ⟨"FrontChairs", "needLaid", "(I)V"⟩ ∈ tb := inPr (List.mem_of_getElem? (i := 26) rfl) rfl
theorem kp_27 : Cond.selects "FrontChairs" ⟨"FrontChairs", "performed", "(J)Z"⟩ ⟨"FrontChairs", "performed", "(J)Z"⟩ ∈ tb := inPr (List.mem_of_getElem? (i := 27) rfl) rfl
theorem kp_28 : Cond.selects "FrontChairs" ⟨"FrontChairs", "drawnDeed", "()I"⟩ ⟨"FrontChairs", "drawnDeed", "()I"⟩ ∈ tb := inPr (List.mem_of_getElem? (i := 28) rfl) rfl
theorem kp_29 : Cond.selects "FrontChairs" ⟨"FrontChairs", "draw", "()I"⟩ ⟨"FrontChairs", "draw", "()I"⟩ ∈ tb := inPr (List.mem_of_getElem? (i := 29) rfl) rfl
theorem kp_30 : Cond.selects "FrontChairs" ⟨"FrontChairs", "ahead", "(I)LFrontChairs$Seats;"⟩ ⟨"FrontChairs", "ahead", "(I)LFrontChairs$Seats;"⟩ ∈ tb := inPr (List.mem_of_getElem? (i := 30) rfl) rfl
theorem kp_31 : Cond.selects "FrontChairs" ⟨"FrontChairs", "fewestRisers", "(II)I"⟩ ⟨"FrontChairs", "fewestRisers", "(II)I"⟩ ∈ tb := inPr (List.mem_of_getElem? (i := 31) rfl) rfl
theorem kp_32 : Cond.selects "FrontChairs" ⟨"FrontChairs", "risersBring", "(IIII)Z"⟩ ⟨"FrontChairs", "risersBring", "(IIII)Z"⟩ ∈ tb := inPr (List.mem_of_getElem? (i := 32) rfl) rfl
theorem kp_33 : Cond.selects "FrontChairs" ⟨"FrontChairs", "neighboursWhoCanRise", "(I)I"⟩ ⟨"FrontChairs", "neighboursWhoCanRise", "(I)I"⟩ ∈ tb := inPr (List.mem_of_getElem? (i := 33) rfl) rfl
theorem kp_34 : Cond.selects "FrontChairs" ⟨"FrontChairs", "bringsToFront", "(III)Z"⟩ ⟨"FrontChairs", "bringsToFront", "(III)Z"⟩ ∈ tb := inPr (List.mem_of_getElem? (i := 34) rfl) rfl
theorem kp_35 : Cond.selects "FrontChairs" ⟨"FrontChairs", "needTwoWhoSit", "(II)V"⟩ ⟨"FrontChairs", "needTwoWhoSit", "(II)V"⟩ ∈ tb := inPr (List.mem_of_getElem? (i := 35) rfl) rfl
theorem kp_36 : Cond.selects "FrontChairs" ⟨"FrontChairs", "needTwosAsked", "(II)V"⟩ ⟨"FrontChairs", "needTwosAsked", "(II)V"⟩ ∈ tb := inPr (List.mem_of_getElem? (i := 36) rfl) rfl
theorem kp_37 : Cond.selects "FrontChairs" ⟨"FrontChairs", "collectTwos", "(II)I"⟩ ⟨"FrontChairs", "collectTwos", "(II)I"⟩ ∈ tb := inPr (List.mem_of_getElem? (i := 37) rfl) rfl
theorem kp_38 : Cond.selects "FrontChairs" ⟨"FrontChairs", "exchangedAhead", "(III)LFrontChairs$Seats;"⟩ ⟨"FrontChairs", "exchangedAhead", "(III)LFrontChairs$Seats;"⟩ ∈ tb := inPr (List.mem_of_getElem? (i := 38) rfl) rfl
theorem kp_39 : Cond.selects "FrontChairs" ⟨"FrontChairs", "keepEnds", "(LFrontChairs$Seats;I)V"⟩ ⟨"FrontChairs", "keepEnds", "(LFrontChairs$Seats;I)V"⟩ ∈ tb := inPr (List.mem_of_getElem? (i := 39) rfl) rfl
theorem kp_40 : Cond.selects "FrontChairs" ⟨"FrontChairs", "mostAlike", "(II)I"⟩ ⟨"FrontChairs", "mostAlike", "(II)I"⟩ ∈ tb := inPr (List.mem_of_getElem? (i := 40) rfl) rfl
theorem kp_41 : Cond.selects "FrontChairs" ⟨"FrontChairs", "needImage", "(I)V"⟩ ⟨"FrontChairs", "needImage", "(I)V"⟩ ∈ tb := inPr (List.mem_of_getElem? (i := 41) rfl) rfl
theorem kp_42 : Cond.selects "FrontChairsModel" ⟨"FrontChairsModel", "fails", "(I)I"⟩ ⟨"FrontChairsModel", "fails", "(I)I"⟩ ∈ tb := inPr (List.mem_of_getElem? (i := 42) rfl) rfl
theorem kp_43 : Cond.selects "FrontChairsModel" ⟨"FrontChairsModel", "readsOn", "()V"⟩ ⟨"FrontChairsModel", "readsOn", "()V"⟩ ∈ tb := inPr (List.mem_of_getElem? (i := 43) rfl) rfl
theorem kp_44 : Cond.selects "FrontChairsModel" ⟨"FrontChairsModel", "see", "(I)I"⟩ ⟨"FrontChairsModel", "see", "(I)I"⟩ ∈ tb := inPr (List.mem_of_getElem? (i := 44) rfl) rfl
theorem kp_45 : Cond.selects "FrontChairsModel" ⟨"FrontChairsModel", "mustWord", "(Ljava/lang/String;)V"⟩ ⟨"FrontChairsModel", "mustWord", "(Ljava/lang/String;)V"⟩ ∈ tb := inPr (List.mem_of_getElem? (i := 45) rfl) rfl
theorem kp_46 : Cond.selects "FrontChairsModel" ⟨"FrontChairsModel", "took", "(Ljava/lang/String;)Z"⟩ ⟨"FrontChairsModel", "took", "(Ljava/lang/String;)Z"⟩ ∈ tb := inPr (List.mem_of_getElem? (i := 46) rfl) rfl
theorem kp_47 : Cond.selects "FrontChairsModel" ⟨"FrontChairsModel", "isWord", "(Ljava/lang/String;)Z"⟩ ⟨"FrontChairsModel", "isWord", "(Ljava/lang/String;)Z"⟩ ∈ tb := inPr (List.mem_of_getElem? (i := 47) rfl) rfl
theorem kp_48 : Cond.selects "FrontChairsModel" ⟨"FrontChairsModel", "blames", "(I)V"⟩ ⟨"FrontChairsModel", "blames", "(I)V"⟩ ∈ tb := inPr (List.mem_of_getElem? (i := 48) rfl) rfl
theorem kp_49 : Cond.selects "FrontChairsModel" ⟨"FrontChairsModel", "number", "(II)I"⟩ ⟨"FrontChairsModel", "number", "(II)I"⟩ ∈ tb := inPr (List.mem_of_getElem? (i := 49) rfl) rfl
theorem kp_50 : Cond.selects "FrontChairsModel" ⟨"FrontChairsModel", "readStop", "()V"⟩ ⟨"FrontChairsModel", "readStop", "()V"⟩ ∈ tb := inPr (List.mem_of_getElem? (i := 50) rfl) rfl
theorem kp_51 : Cond.selects "FrontChairsModel" ⟨"FrontChairsModel", "mustSign", "(I)V"⟩ ⟨"FrontChairsModel", "mustSign", "(I)V"⟩ ∈ tb := inPr (List.mem_of_getElem? (i := 51) rfl) rfl
theorem kp_52 : Cond.selects "FrontChairsModel" ⟨"FrontChairsModel", "readLine", "()V"⟩ ⟨"FrontChairsModel", "readLine", "()V"⟩ ∈ tb := inPr (List.mem_of_getElem? (i := 52) rfl) rfl
theorem kp_53 : Cond.selects "FrontChairsModel" ⟨"FrontChairsModel", "readPerson", "()V"⟩ ⟨"FrontChairsModel", "readPerson", "()V"⟩ ∈ tb := inPr (List.mem_of_getElem? (i := 53) rfl) rfl
theorem kp_54 : Cond.selects "FrontChairsModel" ⟨"FrontChairsModel", "isSeatTold", "(II)Z"⟩ ⟨"FrontChairsModel", "isSeatTold", "(II)Z"⟩ ∈ tb := inPr (List.mem_of_getElem? (i := 54) rfl) rfl
theorem kp_55 : Cond.selects "FrontChairsModel" ⟨"FrontChairsModel", "readPlan", "(I)V"⟩ ⟨"FrontChairsModel", "readPlan", "(I)V"⟩ ∈ tb := inPr (List.mem_of_getElem? (i := 55) rfl) rfl
theorem kp_56 : Cond.selects "FrontChairsModel" ⟨"FrontChairsModel", "beginsLaw", "(II)V"⟩ ⟨"FrontChairsModel", "beginsLaw", "(II)V"⟩ ∈ tb := inPr (List.mem_of_getElem? (i := 56) rfl) rfl
theorem kp_57 : Cond.selects "FrontChairsModel" ⟨"FrontChairsModel", "readTruth", "()V"⟩ ⟨"FrontChairsModel", "readTruth", "()V"⟩ ∈ tb := inPr (List.mem_of_getElem? (i := 57) rfl) rfl
theorem kp_58 : Cond.selects "FrontChairsModel" ⟨"FrontChairsModel", "readBoth", "()V"⟩ ⟨"FrontChairsModel", "readBoth", "()V"⟩ ∈ tb := inPr (List.mem_of_getElem? (i := 58) rfl) rfl
theorem kp_59 : Cond.selects "FrontChairsModel" ⟨"FrontChairsModel", "readUnit", "()V"⟩ ⟨"FrontChairsModel", "readUnit", "()V"⟩ ∈ tb := inPr (List.mem_of_getElem? (i := 59) rfl) rfl
theorem kp_60 : Cond.selects "FrontChairsModel" ⟨"FrontChairsModel", "goesIn", "()V"⟩ ⟨"FrontChairsModel", "goesIn", "()V"⟩ ∈ tb := inPr (List.mem_of_getElem? (i := 60) rfl) rfl
theorem kp_61 : Cond.selects "FrontChairsModel" ⟨"FrontChairsModel", "laysStep", "(I)V"⟩ ⟨"FrontChairsModel", "laysStep", "(I)V"⟩ ∈ tb := inPr (List.mem_of_getElem? (i := 61) rfl) rfl
theorem kp_62 : Cond.selects "FrontChairsModel" ⟨"FrontChairsModel", "isSign", "(I)Z"⟩ ⟨"FrontChairsModel", "isSign", "(I)Z"⟩ ∈ tb := inPr (List.mem_of_getElem? (i := 62) rfl) rfl
theorem kp_63 : Cond.selects "FrontChairsModel" ⟨"FrontChairsModel", "readSum", "()V"⟩ ⟨"FrontChairsModel", "readSum", "()V"⟩ ∈ tb := inPr (List.mem_of_getElem? (i := 63) rfl) rfl
theorem kp_64 : Cond.selects "FrontChairsModel" ⟨"FrontChairsModel", "readTerm", "()V"⟩ ⟨"FrontChairsModel", "readTerm", "()V"⟩ ∈ tb := inPr (List.mem_of_getElem? (i := 64) rfl) rfl
theorem kp_65 : Cond.selects "FrontChairsModel" ⟨"FrontChairsModel", "readAtom", "()V"⟩ ⟨"FrontChairsModel", "readAtom", "()V"⟩ ∈ tb := inPr (List.mem_of_getElem? (i := 65) rfl) rfl
theorem kp_66 : Cond.selects "FrontChairsModel" ⟨"FrontChairsModel", "lawWord", "()I"⟩ ⟨"FrontChairsModel", "lawWord", "()I"⟩ ∈ tb := inPr (List.mem_of_getElem? (i := 66) rfl) rfl
theorem kp_67 : Cond.selects "FrontChairsModel" ⟨"FrontChairsModel", "isChair", "(II)Z"⟩ ⟨"FrontChairsModel", "isChair", "(II)Z"⟩ ∈ tb := inPr (List.mem_of_getElem? (i := 67) rfl) rfl
theorem kp_68 : Cond.selects "FrontChairsModel" ⟨"FrontChairsModel", "isColumn", "(J)Z"⟩ ⟨"FrontChairsModel", "isColumn", "(J)Z"⟩ ∈ tb := inPr (List.mem_of_getElem? (i := 68) rfl) rfl
theorem kp_69 : Cond.selects "FrontChairsModel" ⟨"FrontChairsModel", "sitter", "(II)I"⟩ ⟨"FrontChairsModel", "sitter", "(II)I"⟩ ∈ tb := inPr (List.mem_of_getElem? (i := 69) rfl) rfl
theorem kp_70 : Cond.selects "FrontChairsModel" ⟨"FrontChairsModel", "people", "()I"⟩ ⟨"FrontChairsModel", "people", "()I"⟩ ∈ tb := inPr (List.mem_of_getElem? (i := 70) rfl) rfl
theorem kp_71 : Cond.selects "FrontChairsModel" ⟨"FrontChairsModel", "isPerson", "(J)Z"⟩ ⟨"FrontChairsModel", "isPerson", "(J)Z"⟩ ∈ tb := inPr (List.mem_of_getElem? (i := 71) rfl) rfl
theorem kp_72 : Cond.selects "FrontChairsModel" ⟨"FrontChairsModel", "isAsleep", "(I)Z"⟩ ⟨"FrontChairsModel", "isAsleep", "(I)Z"⟩ ∈ tb := inPr (List.mem_of_getElem? (i := 72) rfl) rfl
theorem kp_73 : Cond.selects "FrontChairsModel" ⟨"FrontChairsModel", "tideIn", "(I)I"⟩ ⟨"FrontChairsModel", "tideIn", "(I)I"⟩ ∈ tb := inPr (List.mem_of_getElem? (i := 73) rfl) rfl
theorem kp_74 : Cond.selects "FrontChairsModel" ⟨"FrontChairsModel", "lawOf", "(II)I"⟩ ⟨"FrontChairsModel", "lawOf", "(II)I"⟩ ∈ tb := inPr (List.mem_of_getElem? (i := 74) rfl) rfl
theorem kp_75 : Cond.selects "FrontChairsModel" ⟨"FrontChairsModel", "comesTo", "(III)Z"⟩ ⟨"FrontChairsModel", "comesTo", "(III)Z"⟩ ∈ tb := inPr (List.mem_of_getElem? (i := 75) rfl) rfl
theorem kp_76 : Cond.selects "FrontChairsModel" ⟨"FrontChairsModel", "wetsHow", "(III)I"⟩ ⟨"FrontChairsModel", "wetsHow", "(III)I"⟩ ∈ tb := inPr (List.mem_of_getElem? (i := 76) rfl) rfl
theorem kp_77 : Cond.selects "FrontChairsModel" ⟨"FrontChairsModel", "whyRise", "(J)I"⟩ ⟨"FrontChairsModel", "whyRise", "(J)I"⟩ ∈ tb := inPr (List.mem_of_getElem? (i := 77) rfl) rfl
theorem kp_78 : Cond.selects "FrontChairsModel" ⟨"FrontChairsModel", "isUp", "(I)Z"⟩ ⟨"FrontChairsModel", "isUp", "(I)Z"⟩ ∈ tb := inPr (List.mem_of_getElem? (i := 78) rfl) rfl
theorem kp_79 : Cond.selects "FrontChairsModel" ⟨"FrontChairsModel", "refuses", "(I)I"⟩ ⟨"FrontChairsModel", "refuses", "(I)I"⟩ ∈ tb := inPr (List.mem_of_getElem? (i := 79) rfl) rfl
theorem kp_80 : Cond.selects "FrontChairsModel" ⟨"FrontChairsModel", "keeps", "()V"⟩ ⟨"FrontChairsModel", "keeps", "()V"⟩ ∈ tb := inPr (List.mem_of_getElem? (i := 80) rfl) rfl
theorem kp_81 : Cond.selects "FrontChairsModel" ⟨"FrontChairsModel", "rises", "(II)I"⟩ ⟨"FrontChairsModel", "rises", "(II)I"⟩ ∈ tb := inPr (List.mem_of_getElem? (i := 81) rfl) rfl
theorem kp_82 : Cond.selects "FrontChairsModel" ⟨"FrontChairsModel", "comer", "(II)I"⟩ ⟨"FrontChairsModel", "comer", "(II)I"⟩ ∈ tb := inPr (List.mem_of_getElem? (i := 82) rfl) rfl
theorem kp_83 : Cond.selects "FrontChairsModel" ⟨"FrontChairsModel", "whySit", "(JJ)I"⟩ ⟨"FrontChairsModel", "whySit", "(JJ)I"⟩ ∈ tb := inPr (List.mem_of_getElem? (i := 83) rfl) rfl
theorem kp_84 : Cond.selects "FrontChairsModel" ⟨"FrontChairsModel", "lastFree", "(I)I"⟩ ⟨"FrontChairsModel", "lastFree", "(I)I"⟩ ∈ tb := inPr (List.mem_of_getElem? (i := 84) rfl) rfl
theorem kp_85 : Cond.selects "FrontChairsModel" ⟨"FrontChairsModel", "sitsDown", "(II)I"⟩ ⟨"FrontChairsModel", "sitsDown", "(II)I"⟩ ∈ tb := inPr (List.mem_of_getElem? (i := 85) rfl) rfl
theorem kp_86 : Cond.selects "FrontChairsModel" ⟨"FrontChairsModel", "whySwap", "(JJ)I"⟩ ⟨"FrontChairsModel", "whySwap", "(JJ)I"⟩ ∈ tb := inPr (List.mem_of_getElem? (i := 86) rfl) rfl
theorem kp_87 : Cond.selects "FrontChairsModel" ⟨"FrontChairsModel", "swaps", "(II)V"⟩ ⟨"FrontChairsModel", "swaps", "(II)V"⟩ ∈ tb := inPr (List.mem_of_getElem? (i := 87) rfl) rfl
theorem kp_88 : Cond.selects "FrontChairsModel" ⟨"FrontChairsModel", "minute", "()V"⟩ ⟨"FrontChairsModel", "minute", "()V"⟩ ∈ tb := inPr (List.mem_of_getElem? (i := 88) rfl) rfl
theorem kp_89 : Cond.selects "FrontChairsModel" ⟨"FrontChairsModel", "trayFault", "(I)I"⟩ ⟨"FrontChairsModel", "trayFault", "(I)I"⟩ ∈ tb := inPr (List.mem_of_getElem? (i := 89) rfl) rfl
theorem kp_90 : Cond.selects "FrontChairsModel" ⟨"FrontChairsModel", "putsAside", "()V"⟩ ⟨"FrontChairsModel", "putsAside", "()V"⟩ ∈ tb := inPr (List.mem_of_getElem? (i := 90) rfl) rfl
theorem kp_91 : Cond.selects "FrontChairsModel" ⟨"FrontChairsModel", "whyTold", "(J)I"⟩ ⟨"FrontChairsModel", "whyTold", "(J)I"⟩ ∈ tb := inPr (List.mem_of_getElem? (i := 91) rfl) rfl
theorem kp_92 : Cond.selects "FrontChairsModel" ⟨"FrontChairsModel", "does", "(I)V"⟩ ⟨"FrontChairsModel", "does", "(I)V"⟩ ∈ tb := inPr (List.mem_of_getElem? (i := 92) rfl) rfl
theorem kp_93 : Cond.selects "FrontChairsModel" ⟨"FrontChairsModel", "inFront", "()I"⟩ ⟨"FrontChairsModel", "inFront", "()I"⟩ ∈ tb := inPr (List.mem_of_getElem? (i := 93) rfl) rfl
theorem kp_94 : Cond.selects "FrontChairsModel" ⟨"FrontChairsModel", "putsBack", "()V"⟩ ⟨"FrontChairsModel", "putsBack", "()V"⟩ ∈ tb := inPr (List.mem_of_getElem? (i := 94) rfl) rfl
theorem kp_95 : Cond.selects "FrontChairsModel" ⟨"FrontChairsModel", "draw", "(I)I"⟩ ⟨"FrontChairsModel", "draw", "(I)I"⟩ ∈ tb := inPr (List.mem_of_getElem? (i := 95) rfl) rfl
theorem kp_96 : Cond.selects "FrontChairsModel" ⟨"FrontChairsModel", "drawn", "(II)I"⟩ ⟨"FrontChairsModel", "drawn", "(II)I"⟩ ∈ tb := inPr (List.mem_of_getElem? (i := 96) rfl) rfl
theorem kp_97 : Cond.selects "FrontChairsModel" ⟨"FrontChairsModel", "isAheadOut", "(II)Z"⟩ ⟨"FrontChairsModel", "isAheadOut", "(II)Z"⟩ ∈ tb := inPr (List.mem_of_getElem? (i := 97) rfl) rfl
theorem kp_98 : Cond.selects "FrontChairsModel" ⟨"FrontChairsModel", "goesOn", "(I)V"⟩ ⟨"FrontChairsModel", "goesOn", "(I)V"⟩ ∈ tb := inPr (List.mem_of_getElem? (i := 98) rfl) rfl
theorem kp_99 : Cond.selects "FrontChairsModel" ⟨"FrontChairsModel", "placeOf", "(I)I"⟩ ⟨"FrontChairsModel", "placeOf", "(I)I"⟩ ∈ tb := inPr (List.mem_of_getElem? (i := 99) rfl) rfl
theorem kp_100 : Cond.selects "FrontChairsModel" ⟨"FrontChairsModel", "brings", "(IIII)Z"⟩ ⟨"FrontChairsModel", "brings", "(IIII)Z"⟩ ∈ tb := inPr (List.mem_of_getElem? (i := 100) rfl) rfl
theorem kp_101 : Cond.selects "FrontChairsModel" ⟨"FrontChairsModel", "keepsLevel", "(I)V"⟩ ⟨"FrontChairsModel", "keepsLevel", "(I)V"⟩ ∈ tb := inPr (List.mem_of_getElem? (i := 101) rfl) rfl
theorem kp_102 : Cond.selects "FrontChairsModel" ⟨"FrontChairsModel", "backToLevel", "(I)V"⟩ ⟨"FrontChairsModel", "backToLevel", "(I)V"⟩ ∈ tb := inPr (List.mem_of_getElem? (i := 102) rfl) rfl
theorem kp_103 : Cond.selects "FrontChairsModel" ⟨"FrontChairsModel", "headOf", "(I)I"⟩ ⟨"FrontChairsModel", "headOf", "(I)I"⟩ ∈ tb := inPr (List.mem_of_getElem? (i := 103) rfl) rfl
theorem kp_104 : Cond.selects "FrontChairsModel" ⟨"FrontChairsModel", "foremost", "(I)I"⟩ ⟨"FrontChairsModel", "foremost", "(I)I"⟩ ∈ tb := inPr (List.mem_of_getElem? (i := 104) rfl) rfl
theorem kp_105 : Cond.selects "FrontChairsModel" ⟨"FrontChairsModel", "areHandsOut", "(II)Z"⟩ ⟨"FrontChairsModel", "areHandsOut", "(II)Z"⟩ ∈ tb := inPr (List.mem_of_getElem? (i := 105) rfl) rfl
theorem kp_106 : Cond.selects "FrontChairsModel" ⟨"FrontChairsModel", "handsFrom", "(III)I"⟩ ⟨"FrontChairsModel", "handsFrom", "(III)I"⟩ ∈ tb := inPr (List.mem_of_getElem? (i := 106) rfl) rfl
theorem kp_107 : Cond.selects "FrontChairsModel" ⟨"FrontChairsModel", "besides", "(I)I"⟩ ⟨"FrontChairsModel", "besides", "(I)I"⟩ ∈ tb := inPr (List.mem_of_getElem? (i := 107) rfl) rfl
theorem kp_108 : Cond.selects "FrontChairsModel" ⟨"FrontChairsModel", "areSide", "(II)Z"⟩ ⟨"FrontChairsModel", "areSide", "(II)Z"⟩ ∈ tb := inPr (List.mem_of_getElem? (i := 108) rfl) rfl
theorem kp_109 : Cond.selects "FrontChairsModel" ⟨"FrontChairsModel", "dryNow", "(II)J"⟩ ⟨"FrontChairsModel", "dryNow", "(II)J"⟩ ∈ tb := inPr (List.mem_of_getElem? (i := 109) rfl) rfl
theorem kp_110 : Cond.selects "FrontChairsModel" ⟨"FrontChairsModel", "dryFromHere", "(II)J"⟩ ⟨"FrontChairsModel", "dryFromHere", "(II)J"⟩ ∈ tb := inPr (List.mem_of_getElem? (i := 110) rfl) rfl
theorem kp_111 : Cond.selects "FrontChairsModel" ⟨"FrontChairsModel", "isChangedOut", "(II)Z"⟩ ⟨"FrontChairsModel", "isChangedOut", "(II)Z"⟩ ∈ tb := inPr (List.mem_of_getElem? (i := 111) rfl) rfl
theorem kp_112 : Cond.selects "FrontChairsModel" ⟨"FrontChairsModel", "laysTwos", "(II)V"⟩ ⟨"FrontChairsModel", "laysTwos", "(II)V"⟩ ∈ tb := inPr (List.mem_of_getElem? (i := 112) rfl) rfl
theorem kp_113 : Cond.selects "FrontChairsModel" ⟨"FrontChairsModel", "addsTwo", "(I)V"⟩ ⟨"FrontChairsModel", "addsTwo", "(I)V"⟩ ∈ tb := inPr (List.mem_of_getElem? (i := 113) rfl) rfl
theorem kp_114 : Cond.selects "FrontChairsModel" ⟨"FrontChairsModel", "mostAlike", "(I)I"⟩ ⟨"FrontChairsModel", "mostAlike", "(I)I"⟩ ∈ tb := inPr (List.mem_of_getElem? (i := 114) rfl) rfl
theorem kp_115 : Cond.selects "FrontChairsModel" ⟨"FrontChairsModel", "cutTo", "(IIJ)J"⟩ ⟨"FrontChairsModel", "cutTo", "(IIJ)J"⟩ ∈ tb := inPr (List.mem_of_getElem? (i := 115) rfl) rfl
theorem kp_116 : Cond.selects "FrontChairsModel" ⟨"FrontChairsModel", "ups", "()I"⟩ ⟨"FrontChairsModel", "ups", "()I"⟩ ∈ tb := inPr (List.mem_of_getElem? (i := 116) rfl) rfl
abbrev uX7_init : mth := (yX7_init, cX7_init, 3, (Option.none : Option Jvm.ClassFile.FieldType), [])
abbrev uX0_init : mth := (yX0_init, cX0_init, 1, (Option.none : Option Jvm.ClassFile.FieldType), [])
abbrev uJ7_fill_53178 : mth := (yJ7_fill_53178, cJ7_fill_53178, 4, (Option.none : Option Jvm.ClassFile.FieldType), [])
abbrev uX5_init : mth := (yX5_init, cX5_init, 2, (Option.none : Option Jvm.ClassFile.FieldType), [])
abbrev uX1_init : mth := (yX1_init, cX1_init, 3, (Option.none : Option Jvm.ClassFile.FieldType), [])
abbrev uX4_init : mth := (yX4_init, cX4_init, 2, (Option.none : Option Jvm.ClassFile.FieldType), [])
abbrev uX6_init : mth := (yX6_init, cX6_init, 1, (Option.none : Option Jvm.ClassFile.FieldType), [])
abbrev uX7_feed : mth := (yX7_feed, cX7_feed, 6, (Option.some Jvm.ClassFile.FieldType.int), [])
abbrev uX7_append : mth := (yX7_append, cX7_append, 3, (Option.none : Option Jvm.ClassFile.FieldType), [])
abbrev uX7_fault : mth := (yX7_fault, cX7_fault, 2, (Option.some Jvm.ClassFile.FieldType.int), [])
abbrev uX7_rise : mth := (yX7_rise, cX7_rise, 3, (Option.some Jvm.ClassFile.FieldType.int), [])
abbrev uX5_whyNotLeave : mth := (yX5_whyNotLeave, cX5_whyNotLeave, 2, (Option.some Jvm.ClassFile.FieldType.int), [])
abbrev uX0_isPerson : mth := (yX0_isPerson, cX0_isPerson, 2, (Option.some Jvm.ClassFile.FieldType.boolean), [])
abbrev uX0_isAsleep : mth := (yX0_isAsleep, cX0_isAsleep, 2, (Option.some Jvm.ClassFile.FieldType.boolean), [])
abbrev uX1_keep : mth := (yX1_keep, cX1_keep, 2, (Option.none : Option Jvm.ClassFile.FieldType), [])
abbrev uX5_copyFrom : mth := (yX5_copyFrom, cX5_copyFrom, 2, (Option.none : Option Jvm.ClassFile.FieldType), [])
abbrev uX5_leave : mth := (yX5_leave, cX5_leave, 8, (Option.some Jvm.ClassFile.FieldType.int), [])
abbrev uX0_isChair : mth := (yX0_isChair, cX0_isChair, 3, (Option.some Jvm.ClassFile.FieldType.boolean), [])
abbrev uX0_isColumn : mth := (yX0_isColumn, cX0_isColumn, 2, (Option.some Jvm.ClassFile.FieldType.boolean), [])
abbrev uX0_lawful : mth := (yX0_lawful, cX0_lawful, 5, (Option.some Jvm.ClassFile.FieldType.boolean), [])
abbrev uX3_value : mth := (yX3_value, cX3_value, 10, (Option.some Jvm.ClassFile.FieldType.int), [])
abbrev uX3_joined : mth := (yX3_joined, cX3_joined, 5, (Option.some Jvm.ClassFile.FieldType.int), [])
abbrev uX7_sit : mth := (yX7_sit, cX7_sit, 4, (Option.some Jvm.ClassFile.FieldType.int), [])
abbrev uX5_whyNotTake : mth := (yX5_whyNotTake, cX5_whyNotTake, 3, (Option.some Jvm.ClassFile.FieldType.int), [])
abbrev uX5_hindmostFree : mth := (yX5_hindmostFree, cX5_hindmostFree, 3, (Option.some Jvm.ClassFile.FieldType.int), [])
abbrev uX5_take : mth := (yX5_take, cX5_take, 4, (Option.some Jvm.ClassFile.FieldType.int), [])
abbrev uX5_put : mth := (yX5_put, cX5_put, 4, (Option.none : Option Jvm.ClassFile.FieldType), [])
abbrev uX7_swap : mth := (yX7_swap, cX7_swap, 4, (Option.some Jvm.ClassFile.FieldType.int), [])
abbrev uX5_whyNotExchange : mth := (yX5_whyNotExchange, cX5_whyNotExchange, 3, (Option.some Jvm.ClassFile.FieldType.int), [])
abbrev uX5_exchange : mth := (yX5_exchange, cX5_exchange, 5, (Option.none : Option Jvm.ClassFile.FieldType), [])
abbrev uX7_stir : mth := (yX7_stir, cX7_stir, 5, (Option.some Jvm.ClassFile.FieldType.int), [])
abbrev uX7_trial : mth := (yX7_trial, cX7_trial, 2, (Option.some (Jvm.ClassFile.FieldType.object "FrontChairs$Seats")), [])
abbrev uX7_heaps : mth := (yX7_heaps, cX7_heaps, 4, (Option.some Jvm.ClassFile.FieldType.int), [])
abbrev uX5_whoIsUp : mth := (yX5_whoIsUp, cX5_whoIsUp, 1, (Option.some Jvm.ClassFile.FieldType.int), [])
abbrev uX5_sittersOf : mth := (yX5_sittersOf, cX5_sittersOf, 4, (Option.some Jvm.ClassFile.FieldType.int), [])
abbrev uX0_everybody : mth := (yX0_everybody, cX0_everybody, 1, (Option.some Jvm.ClassFile.FieldType.int), [])
abbrev uX5_heapOf : mth := (yX5_heapOf, cX5_heapOf, 4, (Option.some Jvm.ClassFile.FieldType.int), [])
abbrev uX5_widened : mth := (yX5_widened, cX5_widened, 4, (Option.some Jvm.ClassFile.FieldType.int), [])
abbrev uX5_bitOn : mth := (yX5_bitOn, cX5_bitOn, 4, (Option.some Jvm.ClassFile.FieldType.int), [])
abbrev uX5_whoOn : mth := (yX5_whoOn, cX5_whoOn, 3, (Option.some Jvm.ClassFile.FieldType.int), [])
abbrev uX7_count : mth := (yX7_count, cX7_count, 3, (Option.some Jvm.ClassFile.FieldType.int), [])
abbrev uJ6_bitCount_0f7a4 : mth := (yJ6_bitCount_0f7a4, cJ6_bitCount_0f7a4, 1, (Option.some Jvm.ClassFile.FieldType.int), [])
abbrev uX7_beach : mth := (yX7_beach, cX7_beach, 3, (Option.some Jvm.ClassFile.FieldType.int), [])
abbrev uX7_needWithin : mth := (yX7_needWithin, cX7_needWithin, 4, (Option.none : Option Jvm.ClassFile.FieldType), [])
abbrev uX4_open : mth := (yX4_open, cX4_open, 3, (Option.none : Option Jvm.ClassFile.FieldType), [])
abbrev uX4_scan : mth := (yX4_scan, cX4_scan, 7, (Option.none : Option Jvm.ClassFile.FieldType), [])
abbrev uX4_isLetter : mth := (yX4_isLetter, cX4_isLetter, 1, (Option.some Jvm.ClassFile.FieldType.boolean), [])
abbrev uX4_word : mth := (yX4_word, cX4_word, 3, (Option.some Jvm.ClassFile.FieldType.int), [])
abbrev uX4_spells : mth := (yX4_spells, cX4_spells, 5, (Option.some Jvm.ClassFile.FieldType.boolean), [])
abbrev uJ0_length_8abf5 : mth := (yJ0_length_8abf5, cJ0_length_8abf5, 1, (Option.some Jvm.ClassFile.FieldType.int), [])
abbrev uJ0_coder_7d493 : mth := (yJ0_coder_7d493, cJ0_coder_7d493, 1, (Option.some Jvm.ClassFile.FieldType.byte), [])
abbrev uJ0_charAt_5068e : mth := (yJ0_charAt_5068e, cJ0_charAt_5068e, 2, (Option.some Jvm.ClassFile.FieldType.char), [])
abbrev uJ0_isLatin1_aae02 : mth := (yJ0_isLatin1_aae02, cJ0_isLatin1_aae02, 1, (Option.some Jvm.ClassFile.FieldType.boolean), [])
abbrev uJ1_charAt_3b067 : mth := (yJ1_charAt_3b067, cJ1_charAt_3b067, 2, (Option.some Jvm.ClassFile.FieldType.char), [])
abbrev uJ0_checkIndex_df160 : mth := (yJ0_checkIndex_df160, cJ0_checkIndex_df160, 2, (Option.none : Option Jvm.ClassFile.FieldType), [])
abbrev uJ3_checkIndex_8e157 : mth := (yJ3_checkIndex_8e157, cJ3_checkIndex_8e157, 3, (Option.some Jvm.ClassFile.FieldType.int), [])
abbrev uJ2_charAt_3b067 : mth := (yJ2_charAt_3b067, cJ2_charAt_3b067, 2, (Option.some Jvm.ClassFile.FieldType.char), [])
abbrev uJ2_checkIndex_2214a : mth := (yJ2_checkIndex_2214a, cJ2_checkIndex_2214a, 2, (Option.none : Option Jvm.ClassFile.FieldType), [])
abbrev uJ2_length_9d52b : mth := (yJ2_length_9d52b, cJ2_length_9d52b, 1, (Option.some Jvm.ClassFile.FieldType.int), [])
abbrev uJ2_getChar_3b067 : mth := (yJ2_getChar_3b067, cJ2_getChar_3b067, 2, (Option.some Jvm.ClassFile.FieldType.char), [])
abbrev uX4_keep : mth := (yX4_keep, cX4_keep, 4, (Option.none : Option Jvm.ClassFile.FieldType), [])
abbrev uX4_isDigit : mth := (yX4_isDigit, cX4_isDigit, 1, (Option.some Jvm.ClassFile.FieldType.boolean), [])
abbrev uJ0_indexOf_0f7a4 : mth := (yJ0_indexOf_0f7a4, cJ0_indexOf_0f7a4, 2, (Option.some Jvm.ClassFile.FieldType.int), [])
abbrev uJ0_indexOf_7cf53 : mth := (yJ0_indexOf_7cf53, cJ0_indexOf_7cf53, 3, (Option.some Jvm.ClassFile.FieldType.int), [])
abbrev uJ1_indexOf_4cfef : mth := (yJ1_indexOf_4cfef, cJ1_indexOf_4cfef, 4, (Option.some Jvm.ClassFile.FieldType.int), [])
abbrev uJ1_canEncode_9a6ad : mth := (yJ1_canEncode_9a6ad, cJ1_canEncode_9a6ad, 1, (Option.some Jvm.ClassFile.FieldType.boolean), [])
abbrev uJ9_max_7cf53 : mth := (yJ9_max_7cf53, cJ9_max_7cf53, 2, (Option.some Jvm.ClassFile.FieldType.int), [])
abbrev uJ9_min_7cf53 : mth := (yJ9_min_7cf53, cJ9_min_7cf53, 2, (Option.some Jvm.ClassFile.FieldType.int), [])
abbrev uJ1_indexOfChar_4cfef : mth := (yJ1_indexOfChar_4cfef, cJ1_indexOfChar_4cfef, 6, (Option.some Jvm.ClassFile.FieldType.int), [])
abbrev uJ2_indexOf_4cfef : mth := (yJ2_indexOf_4cfef, cJ2_indexOf_4cfef, 4, (Option.some Jvm.ClassFile.FieldType.int), [])
abbrev uJ2_indexOfChar_4cfef : mth := (yJ2_indexOfChar_4cfef, cJ2_indexOfChar_4cfef, 4, (Option.some Jvm.ClassFile.FieldType.int), [])
abbrev uJ2_checkBoundsBeginEnd_d044e : mth := (yJ2_checkBoundsBeginEnd_d044e, cJ2_checkBoundsBeginEnd_d044e, 3, (Option.none : Option Jvm.ClassFile.FieldType), [])
abbrev uJ0_checkBoundsBeginEnd_23922 : mth := (yJ0_checkBoundsBeginEnd_23922, cJ0_checkBoundsBeginEnd_23922, 3, (Option.none : Option Jvm.ClassFile.FieldType), [])
abbrev uJ3_checkFromToIndex_8c36e : mth := (yJ3_checkFromToIndex_8c36e, cJ3_checkFromToIndex_8c36e, 4, (Option.some Jvm.ClassFile.FieldType.int), [])
abbrev uJ2_indexOfCharUnsafe_4cfef : mth := (yJ2_indexOfCharUnsafe_4cfef, cJ2_indexOfCharUnsafe_4cfef, 5, (Option.some Jvm.ClassFile.FieldType.int), [])
abbrev uJ2_indexOfSupplementary_4cfef : mth := (yJ2_indexOfSupplementary_4cfef, cJ2_indexOfSupplementary_4cfef, 7, (Option.some Jvm.ClassFile.FieldType.int), [])
abbrev uJ11_isValidCodePoint_9a6ad : mth := (yJ11_isValidCodePoint_9a6ad, cJ11_isValidCodePoint_9a6ad, 2, (Option.some Jvm.ClassFile.FieldType.boolean), [])
abbrev uJ11_highSurrogate_5068e : mth := (yJ11_highSurrogate_5068e, cJ11_highSurrogate_5068e, 1, (Option.some Jvm.ClassFile.FieldType.char), [])
abbrev uJ11_lowSurrogate_5068e : mth := (yJ11_lowSurrogate_5068e, cJ11_lowSurrogate_5068e, 1, (Option.some Jvm.ClassFile.FieldType.char), [])
abbrev uX5_clearFor : mth := (yX5_clearFor, cX5_clearFor, 2, (Option.none : Option Jvm.ClassFile.FieldType), [])
abbrev uX4_need : mth := (yX4_need, cX4_need, 2, (Option.none : Option Jvm.ClassFile.FieldType), [])
abbrev uX4_kind : mth := (yX4_kind, cX4_kind, 1, (Option.some Jvm.ClassFile.FieldType.int), [])
abbrev uX4_fail : mth := (yX4_fail, cX4_fail, 2, (Option.none : Option Jvm.ClassFile.FieldType), [])
abbrev uX4_number : mth := (yX4_number, cX4_number, 4, (Option.some Jvm.ClassFile.FieldType.int), [])
abbrev uX4_hasMore : mth := (yX4_hasMore, cX4_hasMore, 1, (Option.some Jvm.ClassFile.FieldType.boolean), [])
abbrev uX4_line : mth := (yX4_line, cX4_line, 2, (Option.none : Option Jvm.ClassFile.FieldType), [])
abbrev uX4_personLine : mth := (yX4_personLine, cX4_personLine, 5, (Option.none : Option Jvm.ClassFile.FieldType), [])
abbrev uX4_freeRow : mth := (yX4_freeRow, cX4_freeRow, 2, (Option.some Jvm.ClassFile.FieldType.int), [])
abbrev uX4_flag : mth := (yX4_flag, cX4_flag, 3, (Option.none : Option Jvm.ClassFile.FieldType), [])
abbrev uX4_truth : mth := (yX4_truth, cX4_truth, 4, (Option.none : Option Jvm.ClassFile.FieldType), [])
abbrev uX4_unit : mth := (yX4_unit, cX4_unit, 4, (Option.none : Option Jvm.ClassFile.FieldType), [])
abbrev uX4_emit : mth := (yX4_emit, cX4_emit, 2, (Option.none : Option Jvm.ClassFile.FieldType), [])
abbrev uX4_sum : mth := (yX4_sum, cX4_sum, 5, (Option.none : Option Jvm.ClassFile.FieldType), [])
abbrev uX4_atom : mth := (yX4_atom, cX4_atom, 4, (Option.none : Option Jvm.ClassFile.FieldType), [])
abbrev uX4_named : mth := (yX4_named, cX4_named, 2, (Option.some Jvm.ClassFile.FieldType.int), [])
abbrev uX4_keepLaw : mth := (yX4_keepLaw, cX4_keepLaw, 2, (Option.none : Option Jvm.ClassFile.FieldType), [])
abbrev uJ7_copyOf_59c91 : mth := (yJ7_copyOf_59c91, cJ7_copyOf_59c91, 3, (Option.some (Jvm.ClassFile.FieldType.array Jvm.ClassFile.FieldType.int)), [])
abbrev uX3_init : mth := (yX3_init, cX3_init, 2, (Option.none : Option Jvm.ClassFile.FieldType), [])
abbrev uX1_forget : mth := (yX1_forget, cX1_forget, 1, (Option.none : Option Jvm.ClassFile.FieldType), [])
abbrev uX7_chair : mth := (yX7_chair, cX7_chair, 3, (Option.some Jvm.ClassFile.FieldType.int), [])
abbrev uX7_needChair : mth := (yX7_needChair, cX7_needChair, 3, (Option.none : Option Jvm.ClassFile.FieldType), [])
abbrev uX7_person : mth := (yX7_person, cX7_person, 4, (Option.some Jvm.ClassFile.FieldType.int), [])
abbrev uX7_needPerson : mth := (yX7_needPerson, cX7_needPerson, 2, (Option.none : Option Jvm.ClassFile.FieldType), [])
abbrev uX7_tide : mth := (yX7_tide, cX7_tide, 2, (Option.some Jvm.ClassFile.FieldType.int), [])
abbrev uX0_tideIn : mth := (yX0_tideIn, cX0_tideIn, 2, (Option.some Jvm.ClassFile.FieldType.int), [])
abbrev uX7_moves : mth := (yX7_moves, cX7_moves, 4, (Option.some Jvm.ClassFile.FieldType.boolean), [])
abbrev uX7_wets : mth := (yX7_wets, cX7_wets, 4, (Option.some Jvm.ClassFile.FieldType.int), [])
abbrev uX0_waveOn : mth := (yX0_waveOn, cX0_waveOn, 4, (Option.some Jvm.ClassFile.FieldType.int), [])
abbrev uX7_minutes : mth := (yX7_minutes, cX7_minutes, 4, (Option.some Jvm.ClassFile.FieldType.int), [])
abbrev uX5_level : mth := (yX5_level, cX5_level, 1, (Option.some Jvm.ClassFile.FieldType.int), [])
abbrev uX5_pass : mth := (yX5_pass, cX5_pass, 4, (Option.none : Option Jvm.ClassFile.FieldType), [])
abbrev uX7_undo : mth := (yX7_undo, cX7_undo, 2, (Option.some Jvm.ClassFile.FieldType.int), [])
abbrev uX1_goBack : mth := (yX1_goBack, cX1_goBack, 3, (Option.none : Option Jvm.ClassFile.FieldType), [])
abbrev uX7_judge : mth := (yX7_judge, cX7_judge, 9, (Option.some Jvm.ClassFile.FieldType.int), [])
abbrev uX7_needTray : mth := (yX7_needTray, cX7_needTray, 2, (Option.none : Option Jvm.ClassFile.FieldType), [])
abbrev uX7_needLaid : mth := (yX7_needLaid, cX7_needLaid, 2, (Option.none : Option Jvm.ClassFile.FieldType), [])
abbrev uX6_isMissing : mth := (yX6_isMissing, cX6_isMissing, 1, (Option.some Jvm.ClassFile.FieldType.boolean), [])
abbrev uX5_whyNotTold : mth := (yX5_whyNotTold, cX5_whyNotTold, 5, (Option.some Jvm.ClassFile.FieldType.int), [])
abbrev uX5_carryOut : mth := (yX5_carryOut, cX5_carryOut, 5, (Option.none : Option Jvm.ClassFile.FieldType), [])
abbrev uX5_inFront : mth := (yX5_inFront, cX5_inFront, 1, (Option.some Jvm.ClassFile.FieldType.int), [])
abbrev uX7_perform : mth := (yX7_perform, cX7_perform, 4, (Option.some Jvm.ClassFile.FieldType.int), [])
abbrev uX7_performed : mth := (yX7_performed, cX7_performed, 3, (Option.some Jvm.ClassFile.FieldType.boolean), [])
abbrev uX7_afternoon : mth := (yX7_afternoon, cX7_afternoon, 5, (Option.some Jvm.ClassFile.FieldType.int), [])
abbrev uX7_drawnDeed : mth := (yX7_drawnDeed, cX7_drawnDeed, 3, (Option.some Jvm.ClassFile.FieldType.int), [])
abbrev uX7_draw : mth := (yX7_draw, cX7_draw, 1, (Option.some Jvm.ClassFile.FieldType.int), [])
abbrev uX7_sits : mth := (yX7_sits, cX7_sits, 3, (Option.some Jvm.ClassFile.FieldType.int), [])
abbrev uX7_ahead : mth := (yX7_ahead, cX7_ahead, 4, (Option.some (Jvm.ClassFile.FieldType.object "FrontChairs$Seats")), [])
abbrev uX5_place : mth := (yX5_place, cX5_place, 2, (Option.some Jvm.ClassFile.FieldType.int), [])
abbrev uX7_wetIn : mth := (yX7_wetIn, cX7_wetIn, 4, (Option.some Jvm.ClassFile.FieldType.int), [])
abbrev uX7_wetBy : mth := (yX7_wetBy, cX7_wetBy, 4, (Option.some Jvm.ClassFile.FieldType.int), [])
abbrev uX7_frontIn : mth := (yX7_frontIn, cX7_frontIn, 4, (Option.some Jvm.ClassFile.FieldType.int), [])
abbrev uX7_front : mth := (yX7_front, cX7_front, 2, (Option.some Jvm.ClassFile.FieldType.int), [])
abbrev uX7_king : mth := (yX7_king, cX7_king, 7, (Option.some Jvm.ClassFile.FieldType.int), [])
abbrev uX7_bring : mth := (yX7_bring, cX7_bring, 6, (Option.some Jvm.ClassFile.FieldType.int), [])
abbrev uX7_fewestRisers : mth := (yX7_fewestRisers, cX7_fewestRisers, 4, (Option.some Jvm.ClassFile.FieldType.int), [])
abbrev uX7_risersBring : mth := (yX7_risersBring, cX7_risersBring, 8, (Option.some Jvm.ClassFile.FieldType.boolean), [])
abbrev uX7_faints : mth := (yX7_faints, cX7_faints, 9, (Option.some Jvm.ClassFile.FieldType.int), [])
abbrev uX7_neighboursWhoCanRise : mth := (yX7_neighboursWhoCanRise, cX7_neighboursWhoCanRise, 4, (Option.some Jvm.ClassFile.FieldType.int), [])
abbrev uX7_bringsToFront : mth := (yX7_bringsToFront, cX7_bringsToFront, 6, (Option.some Jvm.ClassFile.FieldType.boolean), [])
abbrev uX7_round : mth := (yX7_round, cX7_round, 6, (Option.some Jvm.ClassFile.FieldType.int), [])
abbrev uX5_sittersIn : mth := (yX5_sittersIn, cX5_sittersIn, 4, (Option.some Jvm.ClassFile.FieldType.int), [])
abbrev uX5_foremostAwake : mth := (yX5_foremostAwake, cX5_foremostAwake, 4, (Option.some Jvm.ClassFile.FieldType.int), [])
abbrev uX7_hands : mth := (yX7_hands, cX7_hands, 3, (Option.some Jvm.ClassFile.FieldType.int), [])
abbrev uX7_needTwoWhoSit : mth := (yX7_needTwoWhoSit, cX7_needTwoWhoSit, 3, (Option.none : Option Jvm.ClassFile.FieldType), [])
abbrev uX5_between : mth := (yX5_between, cX5_between, 6, (Option.some Jvm.ClassFile.FieldType.int), [])
abbrev uX7_relay : mth := (yX7_relay, cX7_relay, 3, (Option.some Jvm.ClassFile.FieldType.int), [])
abbrev uX7_cut : mth := (yX7_cut, cX7_cut, 5, (Option.some Jvm.ClassFile.FieldType.int), [])
abbrev uX7_dry : mth := (yX7_dry, cX7_dry, 10, (Option.some Jvm.ClassFile.FieldType.long), [])
abbrev uX5_dryChances : mth := (yX5_dryChances, cX5_dryChances, 7, (Option.some Jvm.ClassFile.FieldType.long), [])
abbrev uX7_commonDivisor : mth := (yX7_commonDivisor, cX7_commonDivisor, 7, (Option.some Jvm.ClassFile.FieldType.long), [])
abbrev uX7_driest : mth := (yX7_driest, cX7_driest, 8, (Option.some Jvm.ClassFile.FieldType.int), [])
abbrev uX7_where : mth := (yX7_where, cX7_where, 10, (Option.some Jvm.ClassFile.FieldType.int), [])
abbrev uX7_changed : mth := (yX7_changed, cX7_changed, 3, (Option.some Jvm.ClassFile.FieldType.int), [])
abbrev uX7_needTwosAsked : mth := (yX7_needTwosAsked, cX7_needTwosAsked, 3, (Option.none : Option Jvm.ClassFile.FieldType), [])
abbrev uX7_collectTwos : mth := (yX7_collectTwos, cX7_collectTwos, 7, (Option.some Jvm.ClassFile.FieldType.int), [])
abbrev uX7_exchangedAhead : mth := (yX7_exchangedAhead, cX7_exchangedAhead, 6, (Option.some (Jvm.ClassFile.FieldType.object "FrontChairs$Seats")), [])
abbrev uX7_keepEnds : mth := (yX7_keepEnds, cX7_keepEnds, 4, (Option.none : Option Jvm.ClassFile.FieldType), [])
abbrev uX7_changedAt : mth := (yX7_changedAt, cX7_changedAt, 4, (Option.some Jvm.ClassFile.FieldType.int), [])
abbrev uX7_sure : mth := (yX7_sure, cX7_sure, 6, (Option.some Jvm.ClassFile.FieldType.int), [])
abbrev uX7_look : mth := (yX7_look, cX7_look, 8, (Option.some Jvm.ClassFile.FieldType.int), [])
abbrev uX7_mostAlike : mth := (yX7_mostAlike, cX7_mostAlike, 7, (Option.some Jvm.ClassFile.FieldType.int), [])
abbrev uX7_tray : mth := (yX7_tray, cX7_tray, 4, (Option.none : Option Jvm.ClassFile.FieldType), [])
abbrev uX6_lay : mth := (yX6_lay, cX6_lay, 3, (Option.none : Option Jvm.ClassFile.FieldType), [])
abbrev uJ7_fill_d0a16 : mth := (yJ7_fill_d0a16, cJ7_fill_d0a16, 5, (Option.none : Option Jvm.ClassFile.FieldType), [])
abbrev uX7_write : mth := (yX7_write, cX7_write, 5, (Option.some Jvm.ClassFile.FieldType.long), [])
abbrev uX6_put : mth := (yX6_put, cX6_put, 6, (Option.some Jvm.ClassFile.FieldType.long), [])
abbrev uX7_copy : mth := (yX7_copy, cX7_copy, 6, (Option.some Jvm.ClassFile.FieldType.int), [])
abbrev uX7_image : mth := (yX7_image, cX7_image, 2, (Option.none : Option Jvm.ClassFile.FieldType), [])
abbrev uX7_needImage : mth := (yX7_needImage, cX7_needImage, 2, (Option.none : Option Jvm.ClassFile.FieldType), [])
abbrev uX2_init : mth := (yX2_init, cX2_init, 2, (Option.none : Option Jvm.ClassFile.FieldType), [])
abbrev uX1_copyFrom : mth := (yX1_copyFrom, cX1_copyFrom, 3, (Option.none : Option Jvm.ClassFile.FieldType), [])
abbrev uX7_restore : mth := (yX7_restore, cX7_restore, 2, (Option.none : Option Jvm.ClassFile.FieldType), [])
abbrev uX8_init : mth := (yX8_init, cX8_init, 1, (Option.none : Option Jvm.ClassFile.FieldType), [])
abbrev uX8_thrown : mth := (yX8_thrown, cX8_thrown, 1, (Option.some Jvm.ClassFile.FieldType.int), [])
abbrev uX8_feed : mth := (yX8_feed, cX8_feed, 8, (Option.some Jvm.ClassFile.FieldType.int), [])
abbrev uX8_beach : mth := (yX8_beach, cX8_beach, 3, (Option.some Jvm.ClassFile.FieldType.int), [])
abbrev uX8_within : mth := (yX8_within, cX8_within, 6, (Option.some Jvm.ClassFile.FieldType.boolean), [])
abbrev uX8_fails : mth := (yX8_fails, cX8_fails, 2, (Option.some Jvm.ClassFile.FieldType.int), [])
abbrev uX8_readsOn : mth := (yX8_readsOn, cX8_readsOn, 2, (Option.none : Option Jvm.ClassFile.FieldType), [])
abbrev uX8_isLetter : mth := (yX8_isLetter, cX8_isLetter, 1, (Option.some Jvm.ClassFile.FieldType.boolean), [])
abbrev uX8_see : mth := (yX8_see, cX8_see, 2, (Option.some Jvm.ClassFile.FieldType.int), [])
abbrev uX8_isDigit : mth := (yX8_isDigit, cX8_isDigit, 1, (Option.some Jvm.ClassFile.FieldType.boolean), [])
abbrev uX8_isSignByte : mth := (yX8_isSignByte, cX8_isSignByte, 2, (Option.some Jvm.ClassFile.FieldType.boolean), [])
abbrev uX8_mustWord : mth := (yX8_mustWord, cX8_mustWord, 2, (Option.none : Option Jvm.ClassFile.FieldType), [])
abbrev uX8_took : mth := (yX8_took, cX8_took, 3, (Option.some Jvm.ClassFile.FieldType.boolean), [])
abbrev uX8_isWord : mth := (yX8_isWord, cX8_isWord, 4, (Option.some Jvm.ClassFile.FieldType.boolean), [])
abbrev uX8_blames : mth := (yX8_blames, cX8_blames, 2, (Option.none : Option Jvm.ClassFile.FieldType), [])
abbrev uX8_number : mth := (yX8_number, cX8_number, 4, (Option.some Jvm.ClassFile.FieldType.int), [])
abbrev uX8_readStop : mth := (yX8_readStop, cX8_readStop, 1, (Option.none : Option Jvm.ClassFile.FieldType), [])
abbrev uX8_mustSign : mth := (yX8_mustSign, cX8_mustSign, 2, (Option.none : Option Jvm.ClassFile.FieldType), [])
abbrev uX8_readLine : mth := (yX8_readLine, cX8_readLine, 1, (Option.none : Option Jvm.ClassFile.FieldType), [])
abbrev uX8_readPerson : mth := (yX8_readPerson, cX8_readPerson, 5, (Option.none : Option Jvm.ClassFile.FieldType), [])
abbrev uX8_isSeatTold : mth := (yX8_isSeatTold, cX8_isSeatTold, 4, (Option.some Jvm.ClassFile.FieldType.boolean), [])
abbrev uX8_readPlan : mth := (yX8_readPlan, cX8_readPlan, 2, (Option.none : Option Jvm.ClassFile.FieldType), [])
abbrev uX8_beginsLaw : mth := (yX8_beginsLaw, cX8_beginsLaw, 3, (Option.none : Option Jvm.ClassFile.FieldType), [])
abbrev uX8_readTruth : mth := (yX8_readTruth, cX8_readTruth, 1, (Option.none : Option Jvm.ClassFile.FieldType), [])
abbrev uX8_readBoth : mth := (yX8_readBoth, cX8_readBoth, 1, (Option.none : Option Jvm.ClassFile.FieldType), [])
abbrev uX8_readUnit : mth := (yX8_readUnit, cX8_readUnit, 2, (Option.none : Option Jvm.ClassFile.FieldType), [])
abbrev uX8_goesIn : mth := (yX8_goesIn, cX8_goesIn, 1, (Option.none : Option Jvm.ClassFile.FieldType), [])
abbrev uX8_laysStep : mth := (yX8_laysStep, cX8_laysStep, 2, (Option.none : Option Jvm.ClassFile.FieldType), [])
abbrev uX8_isSign : mth := (yX8_isSign, cX8_isSign, 2, (Option.some Jvm.ClassFile.FieldType.boolean), [])
abbrev uX8_readSum : mth := (yX8_readSum, cX8_readSum, 2, (Option.none : Option Jvm.ClassFile.FieldType), [])
abbrev uX8_readTerm : mth := (yX8_readTerm, cX8_readTerm, 1, (Option.none : Option Jvm.ClassFile.FieldType), [])
abbrev uX8_readAtom : mth := (yX8_readAtom, cX8_readAtom, 3, (Option.none : Option Jvm.ClassFile.FieldType), [])
abbrev uX8_lawWord : mth := (yX8_lawWord, cX8_lawWord, 1, (Option.some Jvm.ClassFile.FieldType.int), [])
abbrev uX8_fault : mth := (yX8_fault, cX8_fault, 2, (Option.some Jvm.ClassFile.FieldType.int), [])
abbrev uX8_chair : mth := (yX8_chair, cX8_chair, 3, (Option.some Jvm.ClassFile.FieldType.int), [])
abbrev uX8_isChair : mth := (yX8_isChair, cX8_isChair, 3, (Option.some Jvm.ClassFile.FieldType.boolean), [])
abbrev uX8_isColumn : mth := (yX8_isColumn, cX8_isColumn, 3, (Option.some Jvm.ClassFile.FieldType.boolean), [])
abbrev uX8_sitter : mth := (yX8_sitter, cX8_sitter, 4, (Option.some Jvm.ClassFile.FieldType.int), [])
abbrev uX8_people : mth := (yX8_people, cX8_people, 1, (Option.some Jvm.ClassFile.FieldType.int), [])
abbrev uX8_person : mth := (yX8_person, cX8_person, 3, (Option.some Jvm.ClassFile.FieldType.int), [])
abbrev uX8_isPerson : mth := (yX8_isPerson, cX8_isPerson, 3, (Option.some Jvm.ClassFile.FieldType.boolean), [])
abbrev uX8_isAsleep : mth := (yX8_isAsleep, cX8_isAsleep, 2, (Option.some Jvm.ClassFile.FieldType.boolean), [])
abbrev uX8_has : mth := (yX8_has, cX8_has, 2, (Option.some Jvm.ClassFile.FieldType.boolean), [])
abbrev uX8_tide : mth := (yX8_tide, cX8_tide, 2, (Option.some Jvm.ClassFile.FieldType.int), [])
abbrev uX8_tideIn : mth := (yX8_tideIn, cX8_tideIn, 2, (Option.some Jvm.ClassFile.FieldType.int), [])
abbrev uX8_lawOf : mth := (yX8_lawOf, cX8_lawOf, 6, (Option.some Jvm.ClassFile.FieldType.int), [])
abbrev uX8_done : mth := (yX8_done, cX8_done, 5, (Option.some Jvm.ClassFile.FieldType.int), [])
abbrev uX8_bound : mth := (yX8_bound, cX8_bound, 2, (Option.some Jvm.ClassFile.FieldType.int), [])
abbrev uJ9_min_f86c9 : mth := (yJ9_min_f86c9, cJ9_min_f86c9, 4, (Option.some Jvm.ClassFile.FieldType.long), [])
abbrev uJ9_max_f86c9 : mth := (yJ9_max_f86c9, cJ9_max_f86c9, 4, (Option.some Jvm.ClassFile.FieldType.long), [])
abbrev uX8_moves : mth := (yX8_moves, cX8_moves, 4, (Option.some Jvm.ClassFile.FieldType.boolean), [])
abbrev uX8_comesTo : mth := (yX8_comesTo, cX8_comesTo, 4, (Option.some Jvm.ClassFile.FieldType.boolean), [])
abbrev uX8_wets : mth := (yX8_wets, cX8_wets, 4, (Option.some Jvm.ClassFile.FieldType.int), [])
abbrev uX8_wetsHow : mth := (yX8_wetsHow, cX8_wetsHow, 4, (Option.some Jvm.ClassFile.FieldType.int), [])
abbrev uX8_rise : mth := (yX8_rise, cX8_rise, 3, (Option.some Jvm.ClassFile.FieldType.int), [])
abbrev uX8_whyRise : mth := (yX8_whyRise, cX8_whyRise, 3, (Option.some Jvm.ClassFile.FieldType.int), [])
abbrev uX8_isUp : mth := (yX8_isUp, cX8_isUp, 2, (Option.some Jvm.ClassFile.FieldType.boolean), [])
abbrev uX8_refuses : mth := (yX8_refuses, cX8_refuses, 2, (Option.some Jvm.ClassFile.FieldType.int), [])
abbrev uX8_keeps : mth := (yX8_keeps, cX8_keeps, 2, (Option.none : Option Jvm.ClassFile.FieldType), [])
abbrev uX8_rises : mth := (yX8_rises, cX8_rises, 8, (Option.some Jvm.ClassFile.FieldType.int), [])
abbrev uX8_comer : mth := (yX8_comer, cX8_comer, 5, (Option.some Jvm.ClassFile.FieldType.int), [])
abbrev uX8_sit : mth := (yX8_sit, cX8_sit, 4, (Option.some Jvm.ClassFile.FieldType.int), [])
abbrev uX8_whySit : mth := (yX8_whySit, cX8_whySit, 5, (Option.some Jvm.ClassFile.FieldType.int), [])
abbrev uX8_lastFree : mth := (yX8_lastFree, cX8_lastFree, 3, (Option.some Jvm.ClassFile.FieldType.int), [])
abbrev uX8_sitsDown : mth := (yX8_sitsDown, cX8_sitsDown, 3, (Option.some Jvm.ClassFile.FieldType.int), [])
abbrev uX8_swap : mth := (yX8_swap, cX8_swap, 4, (Option.some Jvm.ClassFile.FieldType.int), [])
abbrev uX8_whySwap : mth := (yX8_whySwap, cX8_whySwap, 5, (Option.some Jvm.ClassFile.FieldType.int), [])
abbrev uX8_swaps : mth := (yX8_swaps, cX8_swaps, 5, (Option.none : Option Jvm.ClassFile.FieldType), [])
abbrev uX8_minutes : mth := (yX8_minutes, cX8_minutes, 4, (Option.some Jvm.ClassFile.FieldType.int), [])
abbrev uX8_size : mth := (yX8_size, cX8_size, 3, (Option.some Jvm.ClassFile.FieldType.int), [])
abbrev uX8_minute : mth := (yX8_minute, cX8_minute, 4, (Option.none : Option Jvm.ClassFile.FieldType), [])
abbrev uX8_undo : mth := (yX8_undo, cX8_undo, 3, (Option.some Jvm.ClassFile.FieldType.int), [])
abbrev uX8_judge : mth := (yX8_judge, cX8_judge, 7, (Option.some Jvm.ClassFile.FieldType.int), [])
abbrev uX8_trayFault : mth := (yX8_trayFault, cX8_trayFault, 2, (Option.some Jvm.ClassFile.FieldType.int), [])
abbrev uX8_isTray : mth := (yX8_isTray, cX8_isTray, 1, (Option.some Jvm.ClassFile.FieldType.boolean), [])
abbrev uX8_putsAside : mth := (yX8_putsAside, cX8_putsAside, 2, (Option.none : Option Jvm.ClassFile.FieldType), [])
abbrev uX8_whyTold : mth := (yX8_whyTold, cX8_whyTold, 3, (Option.some Jvm.ClassFile.FieldType.int), [])
abbrev uX8_does : mth := (yX8_does, cX8_does, 2, (Option.none : Option Jvm.ClassFile.FieldType), [])
abbrev uX8_inFront : mth := (yX8_inFront, cX8_inFront, 3, (Option.some Jvm.ClassFile.FieldType.int), [])
abbrev uX8_putsBack : mth := (yX8_putsBack, cX8_putsBack, 2, (Option.none : Option Jvm.ClassFile.FieldType), [])
abbrev uX8_perform : mth := (yX8_perform, cX8_perform, 3, (Option.some Jvm.ClassFile.FieldType.int), [])
abbrev uX8_afternoon : mth := (yX8_afternoon, cX8_afternoon, 7, (Option.some Jvm.ClassFile.FieldType.int), [])
abbrev uX8_draw : mth := (yX8_draw, cX8_draw, 2, (Option.some Jvm.ClassFile.FieldType.int), [])
abbrev uX8_drawn : mth := (yX8_drawn, cX8_drawn, 3, (Option.some Jvm.ClassFile.FieldType.int), [])
abbrev uX8_sits : mth := (yX8_sits, cX8_sits, 4, (Option.some Jvm.ClassFile.FieldType.int), [])
abbrev uX8_isAheadOut : mth := (yX8_isAheadOut, cX8_isAheadOut, 3, (Option.some Jvm.ClassFile.FieldType.boolean), [])
abbrev uX8_goesOn : mth := (yX8_goesOn, cX8_goesOn, 3, (Option.none : Option Jvm.ClassFile.FieldType), [])
abbrev uX8_placeOf : mth := (yX8_placeOf, cX8_placeOf, 2, (Option.some Jvm.ClassFile.FieldType.int), [])
abbrev uX8_wetIn : mth := (yX8_wetIn, cX8_wetIn, 3, (Option.some Jvm.ClassFile.FieldType.int), [])
abbrev uX8_wetBy : mth := (yX8_wetBy, cX8_wetBy, 3, (Option.some Jvm.ClassFile.FieldType.int), [])
abbrev uX8_frontIn : mth := (yX8_frontIn, cX8_frontIn, 3, (Option.some Jvm.ClassFile.FieldType.int), [])
abbrev uX8_front : mth := (yX8_front, cX8_front, 3, (Option.some Jvm.ClassFile.FieldType.int), [])
abbrev uX8_king : mth := (yX8_king, cX8_king, 4, (Option.some Jvm.ClassFile.FieldType.int), [])
abbrev uX8_bring : mth := (yX8_bring, cX8_bring, 6, (Option.some Jvm.ClassFile.FieldType.int), [])
abbrev uX8_brings : mth := (yX8_brings, cX8_brings, 6, (Option.some Jvm.ClassFile.FieldType.boolean), [])
abbrev uX8_keepsLevel : mth := (yX8_keepsLevel, cX8_keepsLevel, 3, (Option.none : Option Jvm.ClassFile.FieldType), [])
abbrev uX8_backToLevel : mth := (yX8_backToLevel, cX8_backToLevel, 3, (Option.none : Option Jvm.ClassFile.FieldType), [])
abbrev uX8_faints : mth := (yX8_faints, cX8_faints, 8, (Option.some Jvm.ClassFile.FieldType.int), [])
abbrev uX8_round : mth := (yX8_round, cX8_round, 6, (Option.some Jvm.ClassFile.FieldType.int), [])
abbrev uX8_headOf : mth := (yX8_headOf, cX8_headOf, 3, (Option.some Jvm.ClassFile.FieldType.int), [])
abbrev uX8_foremost : mth := (yX8_foremost, cX8_foremost, 4, (Option.some Jvm.ClassFile.FieldType.int), [])
abbrev uX8_stir : mth := (yX8_stir, cX8_stir, 5, (Option.some Jvm.ClassFile.FieldType.int), [])
abbrev uX8_hands : mth := (yX8_hands, cX8_hands, 3, (Option.some Jvm.ClassFile.FieldType.int), [])
abbrev uX8_areHandsOut : mth := (yX8_areHandsOut, cX8_areHandsOut, 3, (Option.some Jvm.ClassFile.FieldType.boolean), [])
abbrev uX8_handsFrom : mth := (yX8_handsFrom, cX8_handsFrom, 6, (Option.some Jvm.ClassFile.FieldType.int), [])
abbrev uX8_besides : mth := (yX8_besides, cX8_besides, 5, (Option.some Jvm.ClassFile.FieldType.int), [])
abbrev uX8_areSide : mth := (yX8_areSide, cX8_areSide, 3, (Option.some Jvm.ClassFile.FieldType.boolean), [])
abbrev uJ9_abs_0f7a4 : mth := (yJ9_abs_0f7a4, cJ9_abs_0f7a4, 1, (Option.some Jvm.ClassFile.FieldType.int), [])
abbrev uX8_relay : mth := (yX8_relay, cX8_relay, 4, (Option.some Jvm.ClassFile.FieldType.int), [])
abbrev uX8_cut : mth := (yX8_cut, cX8_cut, 5, (Option.some Jvm.ClassFile.FieldType.int), [])
abbrev uX8_heaps : mth := (yX8_heaps, cX8_heaps, 5, (Option.some Jvm.ClassFile.FieldType.int), [])
abbrev uX8_dry : mth := (yX8_dry, cX8_dry, 10, (Option.some Jvm.ClassFile.FieldType.long), [])
abbrev uX8_isDryLong : mth := (yX8_isDryLong, cX8_isDryLong, 1, (Option.some Jvm.ClassFile.FieldType.boolean), [])
abbrev uX8_dryNow : mth := (yX8_dryNow, cX8_dryNow, 3, (Option.some Jvm.ClassFile.FieldType.long), [])
abbrev uX8_dryFromHere : mth := (yX8_dryFromHere, cX8_dryFromHere, 7, (Option.some Jvm.ClassFile.FieldType.long), [])
abbrev uX8_common : mth := (yX8_common, cX8_common, 10, (Option.some Jvm.ClassFile.FieldType.long), [])
abbrev uX8_driest : mth := (yX8_driest, cX8_driest, 8, (Option.some Jvm.ClassFile.FieldType.int), [])
abbrev uX8_where : mth := (yX8_where, cX8_where, 9, (Option.some Jvm.ClassFile.FieldType.int), [])
abbrev uX8_changed : mth := (yX8_changed, cX8_changed, 3, (Option.some Jvm.ClassFile.FieldType.int), [])
abbrev uX8_isChangedOut : mth := (yX8_isChangedOut, cX8_isChangedOut, 3, (Option.some Jvm.ClassFile.FieldType.boolean), [])
abbrev uX8_laysTwos : mth := (yX8_laysTwos, cX8_laysTwos, 5, (Option.none : Option Jvm.ClassFile.FieldType), [])
abbrev uX8_addsTwo : mth := (yX8_addsTwo, cX8_addsTwo, 3, (Option.none : Option Jvm.ClassFile.FieldType), [])
abbrev uX8_changedAt : mth := (yX8_changedAt, cX8_changedAt, 4, (Option.some Jvm.ClassFile.FieldType.int), [])
abbrev uX8_sure : mth := (yX8_sure, cX8_sure, 5, (Option.some Jvm.ClassFile.FieldType.int), [])
abbrev uX8_look : mth := (yX8_look, cX8_look, 6, (Option.some Jvm.ClassFile.FieldType.int), [])
abbrev uX8_mostAlike : mth := (yX8_mostAlike, cX8_mostAlike, 6, (Option.some Jvm.ClassFile.FieldType.int), [])
abbrev uX8_tray : mth := (yX8_tray, cX8_tray, 5, (Option.none : Option Jvm.ClassFile.FieldType), [])
abbrev uX8_write : mth := (yX8_write, cX8_write, 5, (Option.some Jvm.ClassFile.FieldType.long), [])
abbrev uX8_cutTo : mth := (yX8_cutTo, cX8_cutTo, 6, (Option.some Jvm.ClassFile.FieldType.long), [])
abbrev uX8_copy : mth := (yX8_copy, cX8_copy, 4, (Option.some Jvm.ClassFile.FieldType.int), [])
abbrev uX8_image : mth := (yX8_image, cX8_image, 3, (Option.none : Option Jvm.ClassFile.FieldType), [])
abbrev uX8_restore : mth := (yX8_restore, cX8_restore, 3, (Option.none : Option Jvm.ClassFile.FieldType), [])
abbrev uX8_count : mth := (yX8_count, cX8_count, 2, (Option.some Jvm.ClassFile.FieldType.int), [])
abbrev uX8_ups : mth := (yX8_ups, cX8_ups, 3, (Option.some Jvm.ClassFile.FieldType.int), [])
abbrev uL_beach : mth := (yL_beach, cL_beach, 4, (Option.some Jvm.ClassFile.FieldType.int), [((0 : Nat), (9 : Nat), (12 : Nat), (13 : Nat))])
abbrev uL_chair : mth := (yL_chair, cL_chair, 5, (Option.some Jvm.ClassFile.FieldType.int), [((0 : Nat), (10 : Nat), (13 : Nat), (19 : Nat))])
abbrev uL_person : mth := (yL_person, cL_person, 5, (Option.some Jvm.ClassFile.FieldType.int), [((0 : Nat), (10 : Nat), (13 : Nat), (19 : Nat)), ((0 : Nat), (10 : Nat), (17 : Nat), (13 : Nat))])
abbrev uL_tide : mth := (yL_tide, cL_tide, 4, (Option.some Jvm.ClassFile.FieldType.int), [((0 : Nat), (9 : Nat), (12 : Nat), (13 : Nat))])
abbrev uL_moves : mth := (yL_moves, cL_moves, 6, (Option.some Jvm.ClassFile.FieldType.int), [((0 : Nat), (19 : Nat), (22 : Nat), (19 : Nat))])
abbrev uL_wets : mth := (yL_wets, cL_wets, 6, (Option.some Jvm.ClassFile.FieldType.int), [((0 : Nat), (12 : Nat), (15 : Nat), (19 : Nat)), ((0 : Nat), (12 : Nat), (19 : Nat), (13 : Nat))])
abbrev uL_minutes : mth := (yL_minutes, cL_minutes, 4, (Option.some Jvm.ClassFile.FieldType.int), [((0 : Nat), (9 : Nat), (12 : Nat), (13 : Nat))])
abbrev uL_undo : mth := (yL_undo, cL_undo, 4, (Option.some Jvm.ClassFile.FieldType.int), [((0 : Nat), (9 : Nat), (12 : Nat), (13 : Nat))])
abbrev uL_judge : mth := (yL_judge, cL_judge, 5, (Option.some Jvm.ClassFile.FieldType.int), [((0 : Nat), (10 : Nat), (13 : Nat), (19 : Nat)), ((0 : Nat), (10 : Nat), (17 : Nat), (44 : Nat)), ((0 : Nat), (10 : Nat), (21 : Nat), (13 : Nat))])
abbrev uL_perform : mth := (yL_perform, cL_perform, 4, (Option.some Jvm.ClassFile.FieldType.int), [((0 : Nat), (9 : Nat), (12 : Nat), (19 : Nat)), ((0 : Nat), (9 : Nat), (15 : Nat), (44 : Nat))])
abbrev uL_afternoon : mth := (yL_afternoon, cL_afternoon, 5, (Option.some Jvm.ClassFile.FieldType.int), [((0 : Nat), (10 : Nat), (13 : Nat), (13 : Nat))])
abbrev uL_sits : mth := (yL_sits, cL_sits, 5, (Option.some Jvm.ClassFile.FieldType.int), [((0 : Nat), (10 : Nat), (13 : Nat), (19 : Nat)), ((0 : Nat), (10 : Nat), (17 : Nat), (13 : Nat))])
abbrev uL_wetIn : mth := (yL_wetIn, cL_wetIn, 4, (Option.some Jvm.ClassFile.FieldType.int), [((0 : Nat), (9 : Nat), (12 : Nat), (19 : Nat))])
abbrev uL_wetBy : mth := (yL_wetBy, cL_wetBy, 4, (Option.some Jvm.ClassFile.FieldType.int), [((0 : Nat), (9 : Nat), (12 : Nat), (13 : Nat))])
abbrev uL_frontIn : mth := (yL_frontIn, cL_frontIn, 4, (Option.some Jvm.ClassFile.FieldType.int), [((0 : Nat), (9 : Nat), (12 : Nat), (19 : Nat))])
abbrev uL_front : mth := (yL_front, cL_front, 4, (Option.some Jvm.ClassFile.FieldType.int), [((0 : Nat), (9 : Nat), (12 : Nat), (13 : Nat))])
abbrev uL_king : mth := (yL_king, cL_king, 4, (Option.some Jvm.ClassFile.FieldType.int), [((0 : Nat), (9 : Nat), (12 : Nat), (13 : Nat))])
abbrev uL_bring : mth := (yL_bring, cL_bring, 6, (Option.some Jvm.ClassFile.FieldType.int), [((0 : Nat), (12 : Nat), (15 : Nat), (19 : Nat)), ((0 : Nat), (12 : Nat), (19 : Nat), (13 : Nat))])
abbrev uL_faints : mth := (yL_faints, cL_faints, 6, (Option.some Jvm.ClassFile.FieldType.int), [((0 : Nat), (12 : Nat), (15 : Nat), (19 : Nat)), ((0 : Nat), (12 : Nat), (19 : Nat), (13 : Nat))])
abbrev uL_round : mth := (yL_round, cL_round, 4, (Option.some Jvm.ClassFile.FieldType.int), [((0 : Nat), (9 : Nat), (12 : Nat), (19 : Nat))])
abbrev uL_hands : mth := (yL_hands, cL_hands, 5, (Option.some Jvm.ClassFile.FieldType.int), [((0 : Nat), (10 : Nat), (13 : Nat), (19 : Nat)), ((0 : Nat), (10 : Nat), (17 : Nat), (13 : Nat)), ((0 : Nat), (10 : Nat), (21 : Nat), (44 : Nat))])
abbrev uL_relay : mth := (yL_relay, cL_relay, 4, (Option.some Jvm.ClassFile.FieldType.int), [((0 : Nat), (9 : Nat), (12 : Nat), (19 : Nat)), ((0 : Nat), (9 : Nat), (15 : Nat), (44 : Nat))])
abbrev uL_cut : mth := (yL_cut, cL_cut, 5, (Option.some Jvm.ClassFile.FieldType.int), [((0 : Nat), (10 : Nat), (13 : Nat), (19 : Nat)), ((0 : Nat), (10 : Nat), (17 : Nat), (13 : Nat)), ((0 : Nat), (10 : Nat), (21 : Nat), (44 : Nat))])
abbrev uL_dry : mth := (yL_dry, cL_dry, 6, (Option.some Jvm.ClassFile.FieldType.int), [((0 : Nat), (11 : Nat), (14 : Nat), (19 : Nat)), ((0 : Nat), (11 : Nat), (18 : Nat), (13 : Nat))])
abbrev uL_driest : mth := (yL_driest, cL_driest, 4, (Option.some Jvm.ClassFile.FieldType.int), [((0 : Nat), (9 : Nat), (12 : Nat), (13 : Nat))])
abbrev uL_where : mth := (yL_where, cL_where, 5, (Option.some Jvm.ClassFile.FieldType.int), [((0 : Nat), (10 : Nat), (13 : Nat), (19 : Nat)), ((0 : Nat), (10 : Nat), (17 : Nat), (13 : Nat)), ((0 : Nat), (10 : Nat), (21 : Nat), (44 : Nat))])
abbrev uL_changed : mth := (yL_changed, cL_changed, 5, (Option.some Jvm.ClassFile.FieldType.int), [((0 : Nat), (10 : Nat), (13 : Nat), (13 : Nat))])
abbrev uL_changedAt : mth := (yL_changedAt, cL_changedAt, 6, (Option.some Jvm.ClassFile.FieldType.int), [((0 : Nat), (12 : Nat), (15 : Nat), (13 : Nat))])
abbrev uL_sure : mth := (yL_sure, cL_sure, 5, (Option.some Jvm.ClassFile.FieldType.int), [((0 : Nat), (10 : Nat), (13 : Nat), (13 : Nat))])
abbrev uL_look : mth := (yL_look, cL_look, 5, (Option.some Jvm.ClassFile.FieldType.int), [((0 : Nat), (10 : Nat), (13 : Nat), (13 : Nat))])
abbrev uL_tray : mth := (yL_tray, cL_tray, 5, (Option.some Jvm.ClassFile.FieldType.int), [((0 : Nat), (7 : Nat), (10 : Nat), (19 : Nat)), ((0 : Nat), (7 : Nat), (14 : Nat), (13 : Nat))])
abbrev uL_write : mth := (yL_write, cL_write, 7, (Option.some Jvm.ClassFile.FieldType.int), [((0 : Nat), (11 : Nat), (14 : Nat), (19 : Nat)), ((0 : Nat), (11 : Nat), (18 : Nat), (44 : Nat)), ((0 : Nat), (11 : Nat), (22 : Nat), (118 : Nat))])
abbrev uL_copy : mth := (yL_copy, cL_copy, 5, (Option.some Jvm.ClassFile.FieldType.int), [((0 : Nat), (10 : Nat), (13 : Nat), (19 : Nat)), ((0 : Nat), (10 : Nat), (17 : Nat), (44 : Nat))])
abbrev uL_image : mth := (yL_image, cL_image, 3, (Option.some Jvm.ClassFile.FieldType.int), [((0 : Nat), (5 : Nat), (8 : Nat), (19 : Nat))])
abbrev uL_restore : mth := (yL_restore, cL_restore, 3, (Option.some Jvm.ClassFile.FieldType.int), [((0 : Nat), (5 : Nat), (8 : Nat), (19 : Nat)), ((0 : Nat), (5 : Nat), (11 : Nat), (44 : Nat))])
theorem f_X0_9 : fLk RX0 9 0 0 .int false := ⟨RX0, TX0, _, rfl, by decide, rfl, by decide +kernel, rfl, kw1_49⟩
theorem f_X4_73 : fLk RX4 73 0 0 .int false := ⟨RX0, TX0, _, rfl, by decide, rfl, by decide +kernel, rfl, kw1_50⟩
theorem f_X7_324 : fLk RX7 324 0 0 .int false := ⟨RX0, TX0, _, rfl, by decide, rfl, by decide +kernel, rfl, kw1_51⟩
theorem f_X0_15 : fLk RX0 15 0 1 .int false := ⟨RX0, TX0, _, rfl, by decide, rfl, by decide +kernel, rfl, kw1_52⟩
theorem f_X4_76 : fLk RX4 76 0 1 .int false := ⟨RX0, TX0, _, rfl, by decide, rfl, by decide +kernel, rfl, kw1_53⟩
theorem f_X5_103 : fLk RX5 103 0 1 .int false := ⟨RX0, TX0, _, rfl, by decide, rfl, by decide +kernel, rfl, kw1_54⟩
theorem f_X7_266 : fLk RX7 266 0 1 .int false := ⟨RX0, TX0, _, rfl, by decide, rfl, by decide +kernel, rfl, kw1_55⟩
theorem f_X0_18 : fLk RX0 18 0 2 .int false := ⟨RX0, TX0, _, rfl, by decide, rfl, by decide +kernel, rfl, kw1_56⟩
theorem f_X4_190 : fLk RX4 190 0 2 .int false := ⟨RX0, TX0, _, rfl, by decide, rfl, by decide +kernel, rfl, kw1_57⟩
theorem f_X5_117 : fLk RX5 117 0 2 .int false := ⟨RX0, TX0, _, rfl, by decide, rfl, by decide +kernel, rfl, kw1_58⟩
theorem f_X7_263 : fLk RX7 263 0 2 .int false := ⟨RX0, TX0, _, rfl, by decide, rfl, by decide +kernel, rfl, kw1_59⟩
theorem f_X0_21 : fLk RX0 21 0 3 .int false := ⟨RX0, TX0, _, rfl, by decide, rfl, by decide +kernel, rfl, kw1_60⟩
theorem f_X4_79 : fLk RX4 79 0 3 .int false := ⟨RX0, TX0, _, rfl, by decide, rfl, by decide +kernel, rfl, kw1_61⟩
theorem f_X7_124 : fLk RX7 124 0 3 .int false := ⟨RX0, TX0, _, rfl, by decide, rfl, by decide +kernel, rfl, kw1_62⟩
theorem f_X0_24 : fLk RX0 24 0 4 .int false := ⟨RX0, TX0, _, rfl, by decide, rfl, by decide +kernel, rfl, kw1_63⟩
theorem f_X7_147 : fLk RX7 147 0 4 .int false := ⟨RX0, TX0, _, rfl, by decide, rfl, by decide +kernel, rfl, kw1_64⟩
theorem f_X4_207 : fLk RX4 207 0 4 .int false := ⟨RX0, TX0, _, rfl, by decide, rfl, by decide +kernel, rfl, kw1_65⟩
theorem f_X0_27 : fLk RX0 27 0 5 (.array .int) true := ⟨RX0, TX0, _, rfl, by decide, rfl, by decide +kernel, rfl, kw1_66⟩
theorem f_X7_144 : fLk RX7 144 0 5 (.array .int) true := ⟨RX0, TX0, _, rfl, by decide, rfl, by decide +kernel, rfl, kw1_67⟩
theorem f_X4_205 : fLk RX4 205 0 5 (.array .int) true := ⟨RX0, TX0, _, rfl, by decide, rfl, by decide +kernel, rfl, kw1_68⟩
theorem f_X0_31 : fLk RX0 31 0 6 (.array .int) true := ⟨RX0, TX0, _, rfl, by decide, rfl, by decide +kernel, rfl, kw1_69⟩
theorem f_X7_153 : fLk RX7 153 0 6 (.array .int) true := ⟨RX0, TX0, _, rfl, by decide, rfl, by decide +kernel, rfl, kw1_70⟩
theorem f_X5_120 : fLk RX5 120 0 6 (.array .int) true := ⟨RX0, TX0, _, rfl, by decide, rfl, by decide +kernel, rfl, kw1_71⟩
theorem f_X4_209 : fLk RX4 209 0 6 (.array .int) true := ⟨RX0, TX0, _, rfl, by decide, rfl, by decide +kernel, rfl, kw1_72⟩
theorem f_X0_34 : fLk RX0 34 0 7 (.array .int) true := ⟨RX0, TX0, _, rfl, by decide, rfl, by decide +kernel, rfl, kw1_73⟩
theorem f_X7_156 : fLk RX7 156 0 7 (.array .int) true := ⟨RX0, TX0, _, rfl, by decide, rfl, by decide +kernel, rfl, kw1_74⟩
theorem f_X5_123 : fLk RX5 123 0 7 (.array .int) true := ⟨RX0, TX0, _, rfl, by decide, rfl, by decide +kernel, rfl, kw1_75⟩
theorem f_X4_212 : fLk RX4 212 0 7 (.array .int) true := ⟨RX0, TX0, _, rfl, by decide, rfl, by decide +kernel, rfl, kw1_76⟩
theorem f_X0_37 : fLk RX0 37 0 8 (.object "FrontChairs$Law") false := ⟨RX0, TX0, _, rfl, by decide, rfl, by decide +kernel, rfl, kw1_77⟩
theorem f_X4_180 : fLk RX4 180 0 8 (.object "FrontChairs$Law") false := ⟨RX0, TX0, _, rfl, by decide, rfl, by decide +kernel, rfl, kw1_78⟩
theorem f_X0_41 : fLk RX0 41 0 9 (.object "FrontChairs$Law") false := ⟨RX0, TX0, _, rfl, by decide, rfl, by decide +kernel, rfl, kw1_79⟩
theorem f_X4_184 : fLk RX4 184 0 9 (.object "FrontChairs$Law") false := ⟨RX0, TX0, _, rfl, by decide, rfl, by decide +kernel, rfl, kw1_80⟩
theorem f_X0_44 : fLk RX0 44 0 10 (.object "FrontChairs$Law") false := ⟨RX0, TX0, _, rfl, by decide, rfl, by decide +kernel, rfl, kw1_81⟩
theorem f_X4_187 : fLk RX4 187 0 10 (.object "FrontChairs$Law") false := ⟨RX0, TX0, _, rfl, by decide, rfl, by decide +kernel, rfl, kw1_82⟩
theorem f_X5_9 : fLk RX5 9 5 0 (.array .int) true := ⟨RX5, TX5, _, rfl, by decide, rfl, by decide +kernel, rfl, kw1_113⟩
theorem f_X5_15 : fLk RX5 15 5 1 (.array .int) true := ⟨RX5, TX5, _, rfl, by decide, rfl, by decide +kernel, rfl, kw1_114⟩
theorem f_X7_138 : fLk RX7 138 5 1 (.array .int) true := ⟨RX5, TX5, _, rfl, by decide, rfl, by decide +kernel, rfl, kw1_115⟩
theorem f_X5_18 : fLk RX5 18 5 2 (.array .int) true := ⟨RX5, TX5, _, rfl, by decide, rfl, by decide +kernel, rfl, kw1_116⟩
theorem f_X7_141 : fLk RX7 141 5 2 (.array .int) true := ⟨RX5, TX5, _, rfl, by decide, rfl, by decide +kernel, rfl, kw1_117⟩
theorem f_X5_21 : fLk RX5 21 5 3 (.array .int) true := ⟨RX5, TX5, _, rfl, by decide, rfl, by decide +kernel, rfl, kw1_118⟩
theorem f_X7_159 : fLk RX7 159 5 3 (.array .int) true := ⟨RX5, TX5, _, rfl, by decide, rfl, by decide +kernel, rfl, kw1_119⟩
theorem f_X5_31 : fLk RX5 31 5 4 (.object "FrontChairs$Beach") false := ⟨RX5, TX5, _, rfl, by decide, rfl, by decide +kernel, rfl, kw1_120⟩
theorem f_X4_47 : fLk RX4 47 5 4 (.object "FrontChairs$Beach") false := ⟨RX5, TX5, _, rfl, by decide, rfl, by decide +kernel, rfl, kw1_121⟩
theorem f_X7_120 : fLk RX7 120 5 4 (.object "FrontChairs$Beach") false := ⟨RX5, TX5, _, rfl, by decide, rfl, by decide +kernel, rfl, kw1_122⟩
theorem f_X5_24 : fLk RX5 24 5 5 .int false := ⟨RX5, TX5, _, rfl, by decide, rfl, by decide +kernel, rfl, kw1_123⟩
theorem f_X7_150 : fLk RX7 150 5 5 .int false := ⟨RX5, TX5, _, rfl, by decide, rfl, by decide +kernel, rfl, kw1_124⟩
theorem f_X5_28 : fLk RX5 28 5 6 .int false := ⟨RX5, TX5, _, rfl, by decide, rfl, by decide +kernel, rfl, kw1_125⟩
theorem f_X7_162 : fLk RX7 162 5 6 .int false := ⟨RX5, TX5, _, rfl, by decide, rfl, by decide +kernel, rfl, kw1_126⟩
theorem f_X4_158 : fLk RX4 158 5 6 .int false := ⟨RX5, TX5, _, rfl, by decide, rfl, by decide +kernel, rfl, kw1_127⟩
theorem f_X1_11 : fLk RX1 11 1 0 (.array (.object "FrontChairs$Seats")) true := ⟨RX1, TX1, _, rfl, by decide, rfl, by decide +kernel, rfl, kw1_151⟩
theorem f_X1_17 : fLk RX1 17 1 1 .int false := ⟨RX1, TX1, _, rfl, by decide, rfl, by decide +kernel, rfl, kw1_152⟩
theorem f_X1_21 : fLk RX1 21 1 2 .int false := ⟨RX1, TX1, _, rfl, by decide, rfl, by decide +kernel, rfl, kw1_153⟩
theorem f_X7_210 : fLk RX7 210 1 2 .int false := ⟨RX1, TX1, _, rfl, by decide, rfl, by decide +kernel, rfl, kw1_154⟩
theorem f_X4_9 : fLk RX4 9 4 0 (.array .int) true := ⟨RX4, TX4, _, rfl, by decide, rfl, by decide +kernel, rfl, kw1_168⟩
theorem f_X4_15 : fLk RX4 15 4 1 (.array .int) true := ⟨RX4, TX4, _, rfl, by decide, rfl, by decide +kernel, rfl, kw1_169⟩
theorem f_X4_18 : fLk RX4 18 4 2 (.array .int) true := ⟨RX4, TX4, _, rfl, by decide, rfl, by decide +kernel, rfl, kw1_170⟩
theorem f_X4_21 : fLk RX4 21 4 3 (.array .int) true := ⟨RX4, TX4, _, rfl, by decide, rfl, by decide +kernel, rfl, kw1_171⟩
theorem f_X4_24 : fLk RX4 24 4 4 .int false := ⟨RX4, TX4, _, rfl, by decide, rfl, by decide +kernel, rfl, kw1_172⟩
theorem f_X4_28 : fLk RX4 28 4 5 .int false := ⟨RX4, TX4, _, rfl, by decide, rfl, by decide +kernel, rfl, kw1_173⟩
theorem f_X4_31 : fLk RX4 31 4 6 .int false := ⟨RX4, TX4, _, rfl, by decide, rfl, by decide +kernel, rfl, kw1_174⟩
theorem f_X4_34 : fLk RX4 34 4 7 .int false := ⟨RX4, TX4, _, rfl, by decide, rfl, by decide +kernel, rfl, kw1_175⟩
theorem f_X4_53 : fLk RX4 53 4 8 (.object "FrontChairs$Beach") false := ⟨RX4, TX4, _, rfl, by decide, rfl, by decide +kernel, rfl, kw1_176⟩
theorem f_X4_43 : fLk RX4 43 4 9 (.object "FrontChairs$Seats") true := ⟨RX4, TX4, _, rfl, by decide, rfl, by decide +kernel, rfl, kw1_177⟩
theorem f_X7_111 : fLk RX7 111 4 9 (.object "FrontChairs$Seats") true := ⟨RX4, TX4, _, rfl, by decide, rfl, by decide +kernel, rfl, kw1_178⟩
theorem f_X4_37 : fLk RX4 37 4 10 .int false := ⟨RX4, TX4, _, rfl, by decide, rfl, by decide +kernel, rfl, kw1_179⟩
theorem f_X7_105 : fLk RX7 105 4 10 .int false := ⟨RX4, TX4, _, rfl, by decide, rfl, by decide +kernel, rfl, kw1_180⟩
theorem f_X4_40 : fLk RX4 40 4 11 .int false := ⟨RX4, TX4, _, rfl, by decide, rfl, by decide +kernel, rfl, kw1_181⟩
theorem f_X7_108 : fLk RX7 108 4 11 .int false := ⟨RX4, TX4, _, rfl, by decide, rfl, by decide +kernel, rfl, kw1_182⟩
theorem f_X6_9 : fLk RX6 9 6 0 .int false := ⟨RX6, TX6, _, rfl, by decide, rfl, by decide +kernel, rfl, kw1_213⟩
theorem f_X6_15 : fLk RX6 15 6 1 .int false := ⟨RX6, TX6, _, rfl, by decide, rfl, by decide +kernel, rfl, kw1_214⟩
theorem f_X7_227 : fLk RX7 227 6 1 .int false := ⟨RX6, TX6, _, rfl, by decide, rfl, by decide +kernel, rfl, kw1_215⟩
theorem f_X6_18 : fLk RX6 18 6 2 (.array .long) true := ⟨RX6, TX6, _, rfl, by decide, rfl, by decide +kernel, rfl, kw1_216⟩
theorem f_X7_230 : fLk RX7 230 6 2 (.array .long) true := ⟨RX6, TX6, _, rfl, by decide, rfl, by decide +kernel, rfl, kw1_217⟩
theorem f_X7_9 : fLk RX7 9 7 0 (.array .int) true := ⟨RX7, TX7, _, rfl, by decide, rfl, by decide +kernel, rfl, kw1_226⟩
theorem f_X7_13 : fLk RX7 13 7 1 .int false := ⟨RX7, TX7, _, rfl, by decide, rfl, by decide +kernel, rfl, kw1_227⟩
theorem f_X7_17 : fLk RX7 17 7 2 .int false := ⟨RX7, TX7, _, rfl, by decide, rfl, by decide +kernel, rfl, kw1_228⟩
theorem f_X7_20 : fLk RX7 20 7 3 .int false := ⟨RX7, TX7, _, rfl, by decide, rfl, by decide +kernel, rfl, kw1_229⟩
theorem f_X7_65 : fLk RX7 65 7 4 (.object "FrontChairs$Seats") true := ⟨RX7, TX7, _, rfl, by decide, rfl, by decide +kernel, rfl, kw1_230⟩
theorem f_X7_72 : fLk RX7 72 7 5 (.object "FrontChairs$History") true := ⟨RX7, TX7, _, rfl, by decide, rfl, by decide +kernel, rfl, kw1_231⟩
theorem f_X7_81 : fLk RX7 81 7 6 (.object "FrontChairs$Reader") true := ⟨RX7, TX7, _, rfl, by decide, rfl, by decide +kernel, rfl, kw1_232⟩
theorem f_X7_25 : fLk RX7 25 7 7 (.array (.object "FrontChairs$Tray")) true := ⟨RX7, TX7, _, rfl, by decide, rfl, by decide +kernel, rfl, kw1_233⟩
theorem f_X7_31 : fLk RX7 31 7 8 (.array (.object "FrontChairs$Image")) true := ⟨RX7, TX7, _, rfl, by decide, rfl, by decide +kernel, rfl, kw1_234⟩
theorem f_X7_37 : fLk RX7 37 7 9 (.array (.object "FrontChairs$Seats")) true := ⟨RX7, TX7, _, rfl, by decide, rfl, by decide +kernel, rfl, kw1_235⟩
theorem f_X7_41 : fLk RX7 41 7 10 (.array .int) true := ⟨RX7, TX7, _, rfl, by decide, rfl, by decide +kernel, rfl, kw1_236⟩
theorem f_X7_44 : fLk RX7 44 7 11 (.array .int) true := ⟨RX7, TX7, _, rfl, by decide, rfl, by decide +kernel, rfl, kw1_237⟩
theorem f_X7_47 : fLk RX7 47 7 12 (.array .int) true := ⟨RX7, TX7, _, rfl, by decide, rfl, by decide +kernel, rfl, kw1_238⟩
theorem f_X7_50 : fLk RX7 50 7 13 (.array .int) true := ⟨RX7, TX7, _, rfl, by decide, rfl, by decide +kernel, rfl, kw1_239⟩
theorem f_X7_53 : fLk RX7 53 7 14 (.array .int) true := ⟨RX7, TX7, _, rfl, by decide, rfl, by decide +kernel, rfl, kw2_0⟩
theorem f_X7_56 : fLk RX7 56 7 15 .int false := ⟨RX7, TX7, _, rfl, by decide, rfl, by decide +kernel, rfl, kw2_1⟩
theorem f_X3_13 : fLk RX3 13 3 0 (.array .int) true := ⟨RX3, TX3, _, rfl, by decide, rfl, by decide +kernel, rfl, kw4_23⟩
theorem f_X3_9 : fLk RX3 9 3 1 (.array .int) true := ⟨RX3, TX3, _, rfl, by decide, rfl, by decide +kernel, rfl, kw4_24⟩
theorem f_X2_12 : fLk RX2 12 2 0 (.object "FrontChairs$Seats") true := ⟨RX2, TX2, _, rfl, by decide, rfl, by decide +kernel, rfl, kw6_26⟩
theorem f_X7_357 : fLk RX7 357 2 0 (.object "FrontChairs$Seats") true := ⟨RX2, TX2, _, rfl, by decide, rfl, by decide +kernel, rfl, kw6_27⟩
theorem f_X2_21 : fLk RX2 21 2 1 (.object "FrontChairs$History") true := ⟨RX2, TX2, _, rfl, by decide, rfl, by decide +kernel, rfl, kw6_28⟩
theorem f_X7_358 : fLk RX7 358 2 1 (.object "FrontChairs$History") true := ⟨RX2, TX2, _, rfl, by decide, rfl, by decide +kernel, rfl, kw6_29⟩
theorem f_X8_9 : fLk RX8 9 8 0 (.array .int) true := ⟨RX8, TX8, _, rfl, by decide, rfl, by decide +kernel, rfl, kw6_53⟩
theorem f_X8_13 : fLk RX8 13 8 1 (.array .int) true := ⟨RX8, TX8, _, rfl, by decide, rfl, by decide +kernel, rfl, kw6_54⟩
theorem f_X8_16 : fLk RX8 16 8 2 (.array .int) true := ⟨RX8, TX8, _, rfl, by decide, rfl, by decide +kernel, rfl, kw6_55⟩
theorem f_X8_19 : fLk RX8 19 8 3 (.array .boolean) true := ⟨RX8, TX8, _, rfl, by decide, rfl, by decide +kernel, rfl, kw6_56⟩
theorem f_X8_64 : fLk RX8 64 8 4 .int false := ⟨RX8, TX8, _, rfl, by decide, rfl, by decide +kernel, rfl, kw6_57⟩
theorem f_X8_23 : fLk RX8 23 8 5 (.array .int) true := ⟨RX8, TX8, _, rfl, by decide, rfl, by decide +kernel, rfl, kw6_58⟩
theorem f_X8_67 : fLk RX8 67 8 6 .int false := ⟨RX8, TX8, _, rfl, by decide, rfl, by decide +kernel, rfl, kw6_59⟩
theorem f_X8_70 : fLk RX8 70 8 7 .int false := ⟨RX8, TX8, _, rfl, by decide, rfl, by decide +kernel, rfl, kw6_60⟩
theorem f_X8_73 : fLk RX8 73 8 8 .int false := ⟨RX8, TX8, _, rfl, by decide, rfl, by decide +kernel, rfl, kw6_61⟩
theorem f_X8_76 : fLk RX8 76 8 9 .int false := ⟨RX8, TX8, _, rfl, by decide, rfl, by decide +kernel, rfl, kw6_62⟩
theorem f_X8_79 : fLk RX8 79 8 10 .int false := ⟨RX8, TX8, _, rfl, by decide, rfl, by decide +kernel, rfl, kw6_63⟩
theorem f_X8_93 : fLk RX8 93 8 11 .int false := ⟨RX8, TX8, _, rfl, by decide, rfl, by decide +kernel, rfl, kw6_64⟩
theorem f_X8_99 : fLk RX8 99 8 12 .int false := ⟨RX8, TX8, _, rfl, by decide, rfl, by decide +kernel, rfl, kw6_65⟩
theorem f_X8_102 : fLk RX8 102 8 13 .int false := ⟨RX8, TX8, _, rfl, by decide, rfl, by decide +kernel, rfl, kw6_66⟩
theorem f_X8_239 : fLk RX8 239 8 14 .int false := ⟨RX8, TX8, _, rfl, by decide, rfl, by decide +kernel, rfl, kw6_67⟩
theorem f_X8_26 : fLk RX8 26 8 15 .int false := ⟨RX8, TX8, _, rfl, by decide, rfl, by decide +kernel, rfl, kw6_68⟩
theorem f_X8_141 : fLk RX8 141 8 16 .int false := ⟨RX8, TX8, _, rfl, by decide, rfl, by decide +kernel, rfl, kw6_69⟩
theorem f_X8_135 : fLk RX8 135 8 17 .int false := ⟨RX8, TX8, _, rfl, by decide, rfl, by decide +kernel, rfl, kw6_70⟩
theorem f_X8_132 : fLk RX8 132 8 18 .int false := ⟨RX8, TX8, _, rfl, by decide, rfl, by decide +kernel, rfl, kw6_71⟩
theorem f_X8_30 : fLk RX8 30 8 19 (.array .int) true := ⟨RX8, TX8, _, rfl, by decide, rfl, by decide +kernel, rfl, kw6_72⟩
theorem f_X8_33 : fLk RX8 33 8 20 (.array .int) true := ⟨RX8, TX8, _, rfl, by decide, rfl, by decide +kernel, rfl, kw6_73⟩
theorem f_X8_36 : fLk RX8 36 8 21 (.array .int) true := ⟨RX8, TX8, _, rfl, by decide, rfl, by decide +kernel, rfl, kw6_74⟩
theorem f_X8_385 : fLk RX8 385 8 22 .int false := ⟨RX8, TX8, _, rfl, by decide, rfl, by decide +kernel, rfl, kw6_75⟩
theorem f_X8_39 : fLk RX8 39 8 23 (.array .int) true := ⟨RX8, TX8, _, rfl, by decide, rfl, by decide +kernel, rfl, kw6_76⟩
theorem f_X8_42 : fLk RX8 42 8 24 (.array .int) true := ⟨RX8, TX8, _, rfl, by decide, rfl, by decide +kernel, rfl, kw6_77⟩
theorem f_X8_45 : fLk RX8 45 8 25 (.array .int) true := ⟨RX8, TX8, _, rfl, by decide, rfl, by decide +kernel, rfl, kw6_78⟩
theorem f_X8_455 : fLk RX8 455 8 26 .int false := ⟨RX8, TX8, _, rfl, by decide, rfl, by decide +kernel, rfl, kw6_79⟩
theorem f_X8_48 : fLk RX8 48 8 27 (.array .int) true := ⟨RX8, TX8, _, rfl, by decide, rfl, by decide +kernel, rfl, kw6_80⟩
theorem f_X8_51 : fLk RX8 51 8 28 (.array .int) true := ⟨RX8, TX8, _, rfl, by decide, rfl, by decide +kernel, rfl, kw6_81⟩
theorem f_X8_54 : fLk RX8 54 8 29 (.array .int) true := ⟨RX8, TX8, _, rfl, by decide, rfl, by decide +kernel, rfl, kw6_82⟩
theorem f_X8_57 : fLk RX8 57 8 30 (.array .int) true := ⟨RX8, TX8, _, rfl, by decide, rfl, by decide +kernel, rfl, kw6_83⟩
theorem f_X8_60 : fLk RX8 60 8 31 (.array .long) true := ⟨RX8, TX8, _, rfl, by decide, rfl, by decide +kernel, rfl, kw6_84⟩
theorem i_L_130 : iLk RL 130 uX7_init 0 := ⟨kw1_28, kw1_29, kw1_1, kw1_30, ⟨⟨by decide +kernel, by decide +kernel⟩, by decide +kernel⟩, rfl⟩
theorem i_X7_61 : iLk RX7 61 uX0_init 0 := ⟨kw1_42, kw1_43, kw1_2, kw1_44, ⟨⟨by decide +kernel, by decide +kernel⟩, by decide +kernel⟩, rfl⟩
theorem s_X0_47 : sLk RX0 47 uJ7_fill_53178 2 := ⟨kw1_46, kw1_47, kw1_3, kw1_48, ⟨⟨by decide +kernel, by decide +kernel⟩, by decide +kernel⟩⟩
theorem i_X7_62 : iLk RX7 62 uX5_init 1 := ⟨kw1_108, kw1_109, kw1_4, kw1_110, ⟨⟨by decide +kernel, by decide +kernel⟩, by decide +kernel⟩, rfl⟩
theorem s_X5_35 : sLk RX5 35 uJ7_fill_53178 2 := ⟨kw1_112, kw1_47, kw1_3, kw1_48, ⟨⟨by decide +kernel, by decide +kernel⟩, by decide +kernel⟩⟩
theorem i_X7_71 : iLk RX7 71 uX1_init 1 := ⟨kw1_145, kw1_146, kw1_5, kw1_147, ⟨⟨by decide +kernel, by decide +kernel⟩, by decide +kernel⟩, rfl⟩
theorem i_X1_24 : iLk RX1 24 uX5_init 1 := ⟨kw1_150, kw1_109, kw1_4, kw1_110, ⟨⟨by decide +kernel, by decide +kernel⟩, by decide +kernel⟩, rfl⟩
theorem i_X7_78 : iLk RX7 78 uX4_init 1 := ⟨kw1_164, kw1_165, kw1_6, kw1_166, ⟨⟨by decide +kernel, by decide +kernel⟩, by decide +kernel⟩, rfl⟩
theorem v_L_134 : vLk RL 134 uX7_feed 5 := ⟨kw2_35, kw2_36, kw2_37, kw1_1, kw2_38, ⟨⟨by decide +kernel, by decide +kernel⟩, by decide +kernel⟩⟩
theorem v_X7_86 : vLk RX7 86 uX7_append 1 := ⟨kw2_39, kw2_41, kp_0, kw1_1, kw2_42, ⟨⟨by decide +kernel, by decide +kernel⟩, by decide +kernel⟩⟩
theorem v_L_149 : vLk RL 149 uX7_fault 1 := ⟨kw2_43, kw2_44, kw2_45, kw1_1, kw2_46, ⟨⟨by decide +kernel, by decide +kernel⟩, by decide +kernel⟩⟩
theorem v_L_170 : vLk RL 170 uX7_rise 1 := ⟨kw2_47, kw2_48, kw2_49, kw1_1, kw2_50, ⟨⟨by decide +kernel, by decide +kernel⟩, by decide +kernel⟩⟩
theorem v_X7_177 : vLk RX7 177 uX5_whyNotLeave 1 := ⟨kw2_51, kw2_52, kw2_53, kw1_4, kw2_54, ⟨⟨by decide +kernel, by decide +kernel⟩, by decide +kernel⟩⟩
theorem v_X5_53 : vLk RX5 53 uX0_isPerson 1 := ⟨kw2_55, kw2_56, kw2_57, kw1_2, kw2_58, ⟨⟨by decide +kernel, by decide +kernel⟩, by decide +kernel⟩⟩
theorem v_X5_57 : vLk RX5 57 uX0_isAsleep 1 := ⟨kw2_59, kw2_60, kw2_61, kw1_2, kw2_62, ⟨⟨by decide +kernel, by decide +kernel⟩, by decide +kernel⟩⟩
theorem v_X7_180 : vLk RX7 180 uX1_keep 1 := ⟨kw2_63, kw2_64, kw2_65, kw1_5, kw2_66, ⟨⟨by decide +kernel, by decide +kernel⟩, by decide +kernel⟩⟩
theorem v_X1_27 : vLk RX1 27 uX5_copyFrom 1 := ⟨kw2_67, kw2_68, kw2_69, kw1_4, kw2_70, ⟨⟨by decide +kernel, by decide +kernel⟩, by decide +kernel⟩⟩
theorem v_X7_183 : vLk RX7 183 uX5_leave 1 := ⟨kw2_74, kw2_75, kw2_76, kw1_4, kw2_77, ⟨⟨by decide +kernel, by decide +kernel⟩, by decide +kernel⟩⟩
theorem v_X5_47 : vLk RX5 47 uX0_isChair 2 := ⟨kw2_78, kw2_79, kw2_80, kw1_2, kw2_81, ⟨⟨by decide +kernel, by decide +kernel⟩, by decide +kernel⟩⟩
theorem v_X0_53 : vLk RX0 53 uX0_isColumn 1 := ⟨kw2_82, kw2_83, kw2_84, kw1_2, kw2_85, ⟨⟨by decide +kernel, by decide +kernel⟩, by decide +kernel⟩⟩
theorem v_X5_106 : vLk RX5 106 uX0_lawful 4 := ⟨kw2_86, kw2_87, kw2_88, kw1_2, kw2_89, ⟨⟨by decide +kernel, by decide +kernel⟩, by decide +kernel⟩⟩
theorem v_X0_57 : vLk RX0 57 uX3_value 5 := ⟨kw2_90, kw2_91, kw2_92, kw1_19, kw2_93, ⟨⟨by decide +kernel, by decide +kernel⟩, by decide +kernel⟩⟩
theorem s_X3_16 : sLk RX3 16 uX3_joined 3 := ⟨kw2_94, kw2_95, kw1_19, kw2_96, ⟨⟨by decide +kernel, by decide +kernel⟩, by decide +kernel⟩⟩
theorem v_L_174 : vLk RL 174 uX7_sit 2 := ⟨kw2_99, kw2_100, kw2_101, kw1_1, kw2_102, ⟨⟨by decide +kernel, by decide +kernel⟩, by decide +kernel⟩⟩
theorem v_X7_186 : vLk RX7 186 uX5_whyNotTake 2 := ⟨kw2_103, kw2_104, kw2_105, kw1_4, kw2_106, ⟨⟨by decide +kernel, by decide +kernel⟩, by decide +kernel⟩⟩
theorem v_X5_60 : vLk RX5 60 uX0_isColumn 1 := ⟨kw2_107, kw2_83, kw2_84, kw1_2, kw2_85, ⟨⟨by decide +kernel, by decide +kernel⟩, by decide +kernel⟩⟩
theorem v_X5_63 : vLk RX5 63 uX5_hindmostFree 1 := ⟨kw2_108, kw2_110, kp_1, kw1_4, kw2_111, ⟨⟨by decide +kernel, by decide +kernel⟩, by decide +kernel⟩⟩
theorem v_X7_189 : vLk RX7 189 uX5_take 2 := ⟨kw2_112, kw2_113, kw2_114, kw1_4, kw2_115, ⟨⟨by decide +kernel, by decide +kernel⟩, by decide +kernel⟩⟩
theorem v_X5_110 : vLk RX5 110 uX5_put 3 := ⟨kw2_116, kw2_117, kw2_118, kw1_4, kw2_119, ⟨⟨by decide +kernel, by decide +kernel⟩, by decide +kernel⟩⟩
theorem v_L_178 : vLk RL 178 uX7_swap 2 := ⟨kw2_120, kw2_121, kw2_122, kw1_1, kw2_123, ⟨⟨by decide +kernel, by decide +kernel⟩, by decide +kernel⟩⟩
theorem v_X7_192 : vLk RX7 192 uX5_whyNotExchange 2 := ⟨kw2_124, kw2_125, kw2_126, kw1_4, kw2_127, ⟨⟨by decide +kernel, by decide +kernel⟩, by decide +kernel⟩⟩
theorem v_X7_195 : vLk RX7 195 uX5_exchange 2 := ⟨kw2_128, kw2_129, kw2_130, kw1_4, kw2_131, ⟨⟨by decide +kernel, by decide +kernel⟩, by decide +kernel⟩⟩
theorem v_L_224 : vLk RL 224 uX7_stir 0 := ⟨kw2_132, kw2_133, kw2_134, kw1_1, kw2_135, ⟨⟨by decide +kernel, by decide +kernel⟩, by decide +kernel⟩⟩
theorem v_X7_223 : vLk RX7 223 uX7_trial 0 := ⟨kw2_136, kw2_138, kp_2, kw1_1, kw2_139, ⟨⟨by decide +kernel, by decide +kernel⟩, by decide +kernel⟩⟩
theorem v_X7_114 : vLk RX7 114 uX5_copyFrom 1 := ⟨kw2_140, kw2_68, kw2_69, kw1_4, kw2_70, ⟨⟨by decide +kernel, by decide +kernel⟩, by decide +kernel⟩⟩
theorem v_L_237 : vLk RL 237 uX7_heaps 0 := ⟨kw2_141, kw2_142, kw2_143, kw1_1, kw2_144, ⟨⟨by decide +kernel, by decide +kernel⟩, by decide +kernel⟩⟩
theorem v_X7_301 : vLk RX7 301 uX5_whoIsUp 0 := ⟨kw2_145, kw2_146, kw2_147, kw1_4, kw2_148, ⟨⟨by decide +kernel, by decide +kernel⟩, by decide +kernel⟩⟩
theorem v_X5_133 : vLk RX5 133 uX5_sittersOf 1 := ⟨kw2_149, kw2_150, kw2_151, kw1_4, kw2_152, ⟨⟨by decide +kernel, by decide +kernel⟩, by decide +kernel⟩⟩
theorem v_X7_304 : vLk RX7 304 uX0_everybody 0 := ⟨kw2_153, kw2_154, kw2_155, kw1_2, kw2_156, ⟨⟨by decide +kernel, by decide +kernel⟩, by decide +kernel⟩⟩
theorem v_X7_307 : vLk RX7 307 uX5_heapOf 1 := ⟨kw2_157, kw2_158, kw2_159, kw1_4, kw2_160, ⟨⟨by decide +kernel, by decide +kernel⟩, by decide +kernel⟩⟩
theorem v_X5_139 : vLk RX5 139 uX5_widened 1 := ⟨kw2_161, kw2_163, kp_3, kw1_4, kw2_164, ⟨⟨by decide +kernel, by decide +kernel⟩, by decide +kernel⟩⟩
theorem v_X5_136 : vLk RX5 136 uX5_bitOn 2 := ⟨kw2_165, kw2_167, kp_4, kw1_4, kw2_168, ⟨⟨by decide +kernel, by decide +kernel⟩, by decide +kernel⟩⟩
theorem v_X5_130 : vLk RX5 130 uX5_whoOn 2 := ⟨kw2_169, kw2_170, kw2_171, kw1_4, kw2_172, ⟨⟨by decide +kernel, by decide +kernel⟩, by decide +kernel⟩⟩
theorem v_L_282 : vLk RL 282 uX7_count 1 := ⟨kw2_173, kw2_174, kw2_175, kw1_1, kw2_176, ⟨⟨by decide +kernel, by decide +kernel⟩, by decide +kernel⟩⟩
theorem s_X7_198 : sLk RX7 198 uJ6_bitCount_0f7a4 1 := ⟨kw2_177, kw2_178, kw1_22, kw2_179, ⟨⟨by decide +kernel, by decide +kernel⟩, by decide +kernel⟩⟩
theorem s_L_139 : sLk RL 139 uL_beach 3 := ⟨kw2_183, kw2_184, kw1_0, kw2_185, ⟨⟨by decide +kernel, by decide +kernel⟩, by decide +kernel⟩⟩
theorem v_L_7 : vLk RL 7 uX7_beach 1 := ⟨kw2_187, kw2_188, kw2_189, kw1_1, kw2_190, ⟨⟨by decide +kernel, by decide +kernel⟩, by decide +kernel⟩⟩
theorem v_X7_90 : vLk RX7 90 uX7_needWithin 3 := ⟨kw2_191, kw2_193, kp_5, kw1_1, kw2_194, ⟨⟨by decide +kernel, by decide +kernel⟩, by decide +kernel⟩⟩
theorem v_X7_94 : vLk RX7 94 uX4_open 2 := ⟨kw3_24, kw3_25, kw3_26, kw1_6, kw3_27, ⟨⟨by decide +kernel, by decide +kernel⟩, by decide +kernel⟩⟩
theorem v_X4_54 : vLk RX4 54 uX4_scan 2 := ⟨kw3_28, kw3_30, kp_7, kw1_6, kw3_31, ⟨⟨by decide +kernel, by decide +kernel⟩, by decide +kernel⟩⟩
theorem s_X4_86 : sLk RX4 86 uX4_isLetter 1 := ⟨kw3_32, kw3_33, kw1_6, kw3_34, ⟨⟨by decide +kernel, by decide +kernel⟩, by decide +kernel⟩⟩
theorem s_X4_90 : sLk RX4 90 uX4_word 3 := ⟨kw3_35, kw3_36, kw1_6, kw3_37, ⟨⟨by decide +kernel, by decide +kernel⟩, by decide +kernel⟩⟩
theorem s_X4_110 : sLk RX4 110 uX4_spells 4 := ⟨kw3_39, kw3_40, kw1_6, kw3_41, ⟨⟨by decide +kernel, by decide +kernel⟩, by decide +kernel⟩⟩
theorem v_X4_145 : vLk RX4 145 uJ0_length_8abf5 0 := ⟨kw3_42, kw3_43, kw3_44, kw1_13, kw3_45, ⟨⟨by decide +kernel, by decide +kernel⟩, by decide +kernel⟩⟩
theorem v_J0_335 : vLk RJ0 335 uJ0_coder_7d493 0 := ⟨kw3_46, kw3_47, kw3_48, kw1_13, kw3_49, ⟨⟨by decide +kernel, by decide +kernel⟩, by decide +kernel⟩⟩
theorem v_X4_148 : vLk RX4 148 uJ0_charAt_5068e 1 := ⟨kw3_52, kw3_53, kw3_54, kw1_13, kw3_55, ⟨⟨by decide +kernel, by decide +kernel⟩, by decide +kernel⟩⟩
theorem v_J0_492 : vLk RJ0 492 uJ0_isLatin1_aae02 0 := ⟨kw3_56, kw3_57, kw3_58, kw1_13, kw3_59, ⟨⟨by decide +kernel, by decide +kernel⟩, by decide +kernel⟩⟩
theorem s_J0_495 : sLk RJ0 495 uJ1_charAt_3b067 2 := ⟨kw3_60, kw3_61, kw1_14, kw3_62, ⟨⟨by decide +kernel, by decide +kernel⟩, by decide +kernel⟩⟩
theorem s_J1_9 : sLk RJ1 9 uJ0_checkIndex_df160 2 := ⟨kw3_63, kw3_64, kw1_13, kw3_65, ⟨⟨by decide +kernel, by decide +kernel⟩, by decide +kernel⟩⟩
theorem s_J0_1059 : sLk RJ0 1059 uJ3_checkIndex_8e157 3 := ⟨kw3_68, kw3_69, kw1_15, kw3_70, ⟨⟨by decide +kernel, by decide +kernel⟩, by decide +kernel⟩⟩
theorem s_J0_498 : sLk RJ0 498 uJ2_charAt_3b067 2 := ⟨kw3_71, kw3_72, kw1_16, kw3_73, ⟨⟨by decide +kernel, by decide +kernel⟩, by decide +kernel⟩⟩
theorem s_J2_67 : sLk RJ2 67 uJ2_checkIndex_2214a 2 := ⟨kw3_74, kw3_75, kw1_16, kw3_76, ⟨⟨by decide +kernel, by decide +kernel⟩, by decide +kernel⟩⟩
theorem s_J2_48 : sLk RJ2 48 uJ2_length_9d52b 1 := ⟨kw3_77, kw3_78, kw1_16, kw3_79, ⟨⟨by decide +kernel, by decide +kernel⟩, by decide +kernel⟩⟩
theorem s_J2_414 : sLk RJ2 414 uJ0_checkIndex_df160 2 := ⟨kw3_80, kw3_64, kw1_13, kw3_65, ⟨⟨by decide +kernel, by decide +kernel⟩, by decide +kernel⟩⟩
theorem s_J2_71 : sLk RJ2 71 uJ2_getChar_3b067 2 := ⟨kw3_81, kw3_82, kw1_16, kw3_83, ⟨⟨by decide +kernel, by decide +kernel⟩, by decide +kernel⟩⟩
theorem v_X4_94 : vLk RX4 94 uX4_keep 3 := ⟨kw3_106, kw3_108, kp_8, kw1_6, kw3_109, ⟨⟨by decide +kernel, by decide +kernel⟩, by decide +kernel⟩⟩
theorem s_X4_98 : sLk RX4 98 uX4_isDigit 1 := ⟨kw3_110, kw3_111, kw1_6, kw3_112, ⟨⟨by decide +kernel, by decide +kernel⟩, by decide +kernel⟩⟩
theorem v_X4_103 : vLk RX4 103 uJ0_indexOf_0f7a4 1 := ⟨kw3_114, kw3_115, kw3_116, kw1_13, kw3_117, ⟨⟨by decide +kernel, by decide +kernel⟩, by decide +kernel⟩⟩
theorem v_J0_633 : vLk RJ0 633 uJ0_indexOf_7cf53 2 := ⟨kw3_118, kw3_119, kw3_120, kw1_13, kw3_121, ⟨⟨by decide +kernel, by decide +kernel⟩, by decide +kernel⟩⟩
theorem v_J0_505 : vLk RJ0 505 uJ0_length_8abf5 0 := ⟨kw3_122, kw3_43, kw3_44, kw1_13, kw3_45, ⟨⟨by decide +kernel, by decide +kernel⟩, by decide +kernel⟩⟩
theorem s_J0_637 : sLk RJ0 637 uJ1_indexOf_4cfef 4 := ⟨kw3_123, kw3_124, kw1_14, kw3_125, ⟨⟨by decide +kernel, by decide +kernel⟩, by decide +kernel⟩⟩
theorem s_J1_88 : sLk RJ1 88 uJ1_canEncode_9a6ad 1 := ⟨kw3_126, kw3_127, kw1_14, kw3_128, ⟨⟨by decide +kernel, by decide +kernel⟩, by decide +kernel⟩⟩
theorem s_J1_92 : sLk RJ1 92 uJ9_max_7cf53 2 := ⟨kw3_129, kw3_130, kw1_17, kw3_131, ⟨⟨by decide +kernel, by decide +kernel⟩, by decide +kernel⟩⟩
theorem s_J1_38 : sLk RJ1 38 uJ9_min_7cf53 2 := ⟨kw3_132, kw3_133, kw1_17, kw3_134, ⟨⟨by decide +kernel, by decide +kernel⟩, by decide +kernel⟩⟩
theorem s_J1_95 : sLk RJ1 95 uJ1_indexOfChar_4cfef 4 := ⟨kw3_135, kw3_136, kw1_14, kw3_137, ⟨⟨by decide +kernel, by decide +kernel⟩, by decide +kernel⟩⟩
theorem s_J0_640 : sLk RJ0 640 uJ2_indexOf_4cfef 4 := ⟨kw3_138, kw3_139, kw1_16, kw3_140, ⟨⟨by decide +kernel, by decide +kernel⟩, by decide +kernel⟩⟩
theorem s_J2_224 : sLk RJ2 224 uJ9_max_7cf53 2 := ⟨kw3_141, kw3_130, kw1_17, kw3_131, ⟨⟨by decide +kernel, by decide +kernel⟩, by decide +kernel⟩⟩
theorem s_J2_183 : sLk RJ2 183 uJ9_min_7cf53 2 := ⟨kw3_142, kw3_133, kw1_17, kw3_134, ⟨⟨by decide +kernel, by decide +kernel⟩, by decide +kernel⟩⟩
theorem s_J2_228 : sLk RJ2 228 uJ2_indexOfChar_4cfef 4 := ⟨kw3_144, kw3_145, kw1_16, kw3_146, ⟨⟨by decide +kernel, by decide +kernel⟩, by decide +kernel⟩⟩
theorem s_J2_96 : sLk RJ2 96 uJ2_checkBoundsBeginEnd_d044e 3 := ⟨kw3_147, kw3_148, kw1_16, kw3_149, ⟨⟨by decide +kernel, by decide +kernel⟩, by decide +kernel⟩⟩
theorem s_J2_241 : sLk RJ2 241 uJ0_checkBoundsBeginEnd_23922 3 := ⟨kw3_150, kw3_151, kw1_13, kw3_152, ⟨⟨by decide +kernel, by decide +kernel⟩, by decide +kernel⟩⟩
theorem s_J0_1062 : sLk RJ0 1062 uJ3_checkFromToIndex_8c36e 4 := ⟨kw3_153, kw3_154, kw1_15, kw3_155, ⟨⟨by decide +kernel, by decide +kernel⟩, by decide +kernel⟩⟩
theorem s_J2_244 : sLk RJ2 244 uJ2_indexOfCharUnsafe_4cfef 4 := ⟨kw3_156, kw3_157, kw1_16, kw3_158, ⟨⟨by decide +kernel, by decide +kernel⟩, by decide +kernel⟩⟩
theorem s_J2_232 : sLk RJ2 232 uJ2_indexOfSupplementary_4cfef 4 := ⟨kw3_159, kw3_160, kw1_16, kw3_161, ⟨⟨by decide +kernel, by decide +kernel⟩, by decide +kernel⟩⟩
theorem s_J2_164 : sLk RJ2 164 uJ11_isValidCodePoint_9a6ad 1 := ⟨kw3_162, kw3_163, kw1_18, kw3_164, ⟨⟨by decide +kernel, by decide +kernel⟩, by decide +kernel⟩⟩
theorem s_J2_157 : sLk RJ2 157 uJ11_highSurrogate_5068e 1 := ⟨kw3_165, kw3_166, kw1_18, kw3_167, ⟨⟨by decide +kernel, by decide +kernel⟩, by decide +kernel⟩⟩
theorem s_J2_161 : sLk RJ2 161 uJ11_lowSurrogate_5068e 1 := ⟨kw3_169, kw3_170, kw1_18, kw3_171, ⟨⟨by decide +kernel, by decide +kernel⟩, by decide +kernel⟩⟩
theorem i_X4_60 : iLk RX4 60 uX0_init 0 := ⟨kw3_174, kw1_43, kw1_2, kw1_44, ⟨⟨by decide +kernel, by decide +kernel⟩, by decide +kernel⟩, rfl⟩
theorem v_X4_61 : vLk RX4 61 uX5_clearFor 1 := ⟨kw3_175, kw3_176, kw3_177, kw1_4, kw3_178, ⟨⟨by decide +kernel, by decide +kernel⟩, by decide +kernel⟩⟩
theorem v_X4_65 : vLk RX4 65 uX4_need 1 := ⟨kw3_179, kw3_181, kp_9, kw1_6, kw3_182, ⟨⟨by decide +kernel, by decide +kernel⟩, by decide +kernel⟩⟩
theorem v_X4_82 : vLk RX4 82 uX4_kind 0 := ⟨kw3_183, kw3_185, kp_10, kw1_6, kw3_186, ⟨⟨by decide +kernel, by decide +kernel⟩, by decide +kernel⟩⟩
theorem v_X4_152 : vLk RX4 152 uX4_fail 1 := ⟨kw3_187, kw3_189, kp_11, kw1_6, kw3_190, ⟨⟨by decide +kernel, by decide +kernel⟩, by decide +kernel⟩⟩
theorem v_X4_69 : vLk RX4 69 uX4_number 2 := ⟨kw3_191, kw3_193, kp_12, kw1_6, kw3_194, ⟨⟨by decide +kernel, by decide +kernel⟩, by decide +kernel⟩⟩
theorem v_X7_98 : vLk RX7 98 uX4_hasMore 0 := ⟨kw3_195, kw3_196, kw3_197, kw1_6, kw3_198, ⟨⟨by decide +kernel, by decide +kernel⟩, by decide +kernel⟩⟩
theorem v_X7_102 : vLk RX7 102 uX4_line 0 := ⟨kw3_199, kw3_200, kw3_201, kw1_6, kw3_202, ⟨⟨by decide +kernel, by decide +kernel⟩, by decide +kernel⟩⟩
theorem v_X4_155 : vLk RX4 155 uX4_personLine 0 := ⟨kw3_203, kw3_205, kp_13, kw1_6, kw3_206, ⟨⟨by decide +kernel, by decide +kernel⟩, by decide +kernel⟩⟩
theorem v_X4_193 : vLk RX4 193 uX4_freeRow 1 := ⟨kw3_207, kw3_209, kp_14, kw1_6, kw3_210, ⟨⟨by decide +kernel, by decide +kernel⟩, by decide +kernel⟩⟩
theorem v_X4_202 : vLk RX4 202 uX5_whoOn 2 := ⟨kw3_211, kw2_170, kw2_171, kw1_4, kw2_172, ⟨⟨by decide +kernel, by decide +kernel⟩, by decide +kernel⟩⟩
theorem v_X4_196 : vLk RX4 196 uX5_put 3 := ⟨kw3_212, kw2_117, kw2_118, kw1_4, kw2_119, ⟨⟨by decide +kernel, by decide +kernel⟩, by decide +kernel⟩⟩
theorem v_X4_199 : vLk RX4 199 uX4_flag 1 := ⟨kw3_213, kw3_215, kp_15, kw1_6, kw3_216, ⟨⟨by decide +kernel, by decide +kernel⟩, by decide +kernel⟩⟩
theorem v_X4_160 : vLk RX4 160 uX4_truth 1 := ⟨kw3_217, kw3_219, kp_16, kw1_6, kw3_220, ⟨⟨by decide +kernel, by decide +kernel⟩, by decide +kernel⟩⟩
theorem v_X4_215 : vLk RX4 215 uX4_unit 1 := ⟨kw3_221, kw3_223, kp_17, kw1_6, kw3_224, ⟨⟨by decide +kernel, by decide +kernel⟩, by decide +kernel⟩⟩
theorem v_X4_218 : vLk RX4 218 uX4_emit 1 := ⟨kw3_225, kw3_227, kp_18, kw1_6, kw3_228, ⟨⟨by decide +kernel, by decide +kernel⟩, by decide +kernel⟩⟩
theorem v_X4_163 : vLk RX4 163 uX4_sum 1 := ⟨kw3_229, kw3_231, kp_19, kw1_6, kw3_232, ⟨⟨by decide +kernel, by decide +kernel⟩, by decide +kernel⟩⟩
theorem v_X4_221 : vLk RX4 221 uX4_atom 1 := ⟨kw3_233, kw3_235, kp_20, kw1_6, kw3_236, ⟨⟨by decide +kernel, by decide +kernel⟩, by decide +kernel⟩⟩
theorem v_X4_224 : vLk RX4 224 uX4_named 1 := ⟨kw3_237, kw3_239, kp_21, kw1_6, kw4_0, ⟨⟨by decide +kernel, by decide +kernel⟩, by decide +kernel⟩⟩
theorem v_X4_166 : vLk RX4 166 uX4_keepLaw 0 := ⟨kw4_1, kw4_3, kp_22, kw1_6, kw4_4, ⟨⟨by decide +kernel, by decide +kernel⟩, by decide +kernel⟩⟩
theorem s_X4_171 : sLk RX4 171 uJ7_copyOf_59c91 2 := ⟨kw4_7, kw4_8, kw1_3, kw4_9, ⟨⟨by decide +kernel, by decide +kernel⟩, by decide +kernel⟩⟩
theorem s_J7_304 : sLk RJ7 304 uJ9_min_7cf53 2 := ⟨kw4_17, kw3_133, kw1_17, kw3_134, ⟨⟨by decide +kernel, by decide +kernel⟩, by decide +kernel⟩⟩
theorem i_X4_177 : iLk RX4 177 uX3_init 1 := ⟨kw4_19, kw4_20, kw1_19, kw4_21, ⟨⟨by decide +kernel, by decide +kernel⟩, by decide +kernel⟩, rfl⟩
theorem v_X7_117 : vLk RX7 117 uX1_forget 0 := ⟨kw4_30, kw4_31, kw4_32, kw1_5, kw4_33, ⟨⟨by decide +kernel, by decide +kernel⟩, by decide +kernel⟩⟩
theorem s_L_153 : sLk RL 153 uL_chair 4 := ⟨kw4_34, kw4_35, kw1_0, kw4_36, ⟨⟨by decide +kernel, by decide +kernel⟩, by decide +kernel⟩⟩
theorem v_L_15 : vLk RL 15 uX7_chair 2 := ⟨kw4_38, kw4_39, kw4_40, kw1_1, kw4_41, ⟨⟨by decide +kernel, by decide +kernel⟩, by decide +kernel⟩⟩
theorem v_X7_127 : vLk RX7 127 uX7_needChair 2 := ⟨kw4_42, kw4_44, kp_23, kw1_1, kw4_45, ⟨⟨by decide +kernel, by decide +kernel⟩, by decide +kernel⟩⟩
theorem v_X7_375 : vLk RX7 375 uX0_isChair 2 := ⟨kw4_46, kw2_79, kw2_80, kw1_2, kw2_81, ⟨⟨by decide +kernel, by decide +kernel⟩, by decide +kernel⟩⟩
theorem v_X7_131 : vLk RX7 131 uX5_whoOn 2 := ⟨kw4_63, kw2_170, kw2_171, kw1_4, kw2_172, ⟨⟨by decide +kernel, by decide +kernel⟩, by decide +kernel⟩⟩
theorem s_L_157 : sLk RL 157 uL_person 4 := ⟨kw4_64, kw4_65, kw1_0, kw4_66, ⟨⟨by decide +kernel, by decide +kernel⟩, by decide +kernel⟩⟩
theorem v_L_21 : vLk RL 21 uX7_person 2 := ⟨kw4_67, kw4_68, kw4_69, kw1_1, kw4_70, ⟨⟨by decide +kernel, by decide +kernel⟩, by decide +kernel⟩⟩
theorem v_X7_135 : vLk RX7 135 uX7_needPerson 1 := ⟨kw4_71, kw4_73, kp_24, kw1_1, kw4_74, ⟨⟨by decide +kernel, by decide +kernel⟩, by decide +kernel⟩⟩
theorem v_X7_366 : vLk RX7 366 uX0_isPerson 1 := ⟨kw4_75, kw2_56, kw2_57, kw1_2, kw2_58, ⟨⟨by decide +kernel, by decide +kernel⟩, by decide +kernel⟩⟩
theorem s_L_160 : sLk RL 160 uL_tide 3 := ⟨kw4_77, kw4_78, kw1_0, kw4_79, ⟨⟨by decide +kernel, by decide +kernel⟩, by decide +kernel⟩⟩
theorem v_L_24 : vLk RL 24 uX7_tide 1 := ⟨kw4_80, kw4_81, kw4_82, kw1_1, kw4_83, ⟨⟨by decide +kernel, by decide +kernel⟩, by decide +kernel⟩⟩
theorem v_X7_165 : vLk RX7 165 uX0_tideIn 1 := ⟨kw4_84, kw4_85, kw4_86, kw1_2, kw4_87, ⟨⟨by decide +kernel, by decide +kernel⟩, by decide +kernel⟩⟩
theorem s_X0_63 : sLk RX0 63 uJ9_min_7cf53 2 := ⟨kw4_88, kw3_133, kw1_17, kw3_134, ⟨⟨by decide +kernel, by decide +kernel⟩, by decide +kernel⟩⟩
theorem s_X0_69 : sLk RX0 69 uJ9_max_7cf53 2 := ⟨kw4_89, kw3_130, kw1_17, kw3_131, ⟨⟨by decide +kernel, by decide +kernel⟩, by decide +kernel⟩⟩
theorem s_L_163 : sLk RL 163 uL_moves 5 := ⟨kw4_90, kw4_91, kw1_0, kw4_92, ⟨⟨by decide +kernel, by decide +kernel⟩, by decide +kernel⟩⟩
theorem v_L_27 : vLk RL 27 uX7_moves 3 := ⟨kw4_93, kw4_94, kw4_95, kw1_1, kw4_96, ⟨⟨by decide +kernel, by decide +kernel⟩, by decide +kernel⟩⟩
theorem v_X7_169 : vLk RX7 169 uX0_lawful 4 := ⟨kw4_97, kw2_87, kw2_88, kw1_2, kw2_89, ⟨⟨by decide +kernel, by decide +kernel⟩, by decide +kernel⟩⟩
theorem s_L_167 : sLk RL 167 uL_wets 5 := ⟨kw4_98, kw4_99, kw1_0, kw4_100, ⟨⟨by decide +kernel, by decide +kernel⟩, by decide +kernel⟩⟩
theorem v_L_31 : vLk RL 31 uX7_wets 3 := ⟨kw4_101, kw4_102, kw4_103, kw1_1, kw4_104, ⟨⟨by decide +kernel, by decide +kernel⟩, by decide +kernel⟩⟩
theorem v_X7_173 : vLk RX7 173 uX0_waveOn 3 := ⟨kw4_105, kw4_106, kw4_107, kw1_2, kw4_108, ⟨⟨by decide +kernel, by decide +kernel⟩, by decide +kernel⟩⟩
theorem s_L_182 : sLk RL 182 uL_minutes 3 := ⟨kw4_109, kw4_110, kw1_0, kw4_111, ⟨⟨by decide +kernel, by decide +kernel⟩, by decide +kernel⟩⟩
theorem v_L_35 : vLk RL 35 uX7_minutes 1 := ⟨kw4_112, kw4_113, kw4_114, kw1_1, kw4_115, ⟨⟨by decide +kernel, by decide +kernel⟩, by decide +kernel⟩⟩
theorem v_X7_203 : vLk RX7 203 uX5_level 0 := ⟨kw4_116, kw4_117, kw4_118, kw1_4, kw4_119, ⟨⟨by decide +kernel, by decide +kernel⟩, by decide +kernel⟩⟩
theorem v_X5_114 : vLk RX5 114 uX0_tideIn 1 := ⟨kw4_120, kw4_85, kw4_86, kw1_2, kw4_87, ⟨⟨by decide +kernel, by decide +kernel⟩, by decide +kernel⟩⟩
theorem v_X7_207 : vLk RX7 207 uX5_pass 1 := ⟨kw4_121, kw4_122, kw4_123, kw1_4, kw4_124, ⟨⟨by decide +kernel, by decide +kernel⟩, by decide +kernel⟩⟩
theorem v_X5_96 : vLk RX5 96 uX5_take 2 := ⟨kw4_125, kw2_113, kw2_114, kw1_4, kw2_115, ⟨⟨by decide +kernel, by decide +kernel⟩, by decide +kernel⟩⟩
theorem v_X5_93 : vLk RX5 93 uX5_leave 1 := ⟨kw4_126, kw2_75, kw2_76, kw1_4, kw2_77, ⟨⟨by decide +kernel, by decide +kernel⟩, by decide +kernel⟩⟩
theorem s_L_185 : sLk RL 185 uL_undo 3 := ⟨kw4_127, kw4_128, kw1_0, kw4_129, ⟨⟨by decide +kernel, by decide +kernel⟩, by decide +kernel⟩⟩
theorem v_L_38 : vLk RL 38 uX7_undo 1 := ⟨kw4_130, kw4_131, kw4_132, kw1_1, kw4_133, ⟨⟨by decide +kernel, by decide +kernel⟩, by decide +kernel⟩⟩
theorem v_X7_213 : vLk RX7 213 uX1_goBack 2 := ⟨kw4_134, kw4_135, kw4_136, kw1_5, kw4_137, ⟨⟨by decide +kernel, by decide +kernel⟩, by decide +kernel⟩⟩
theorem s_L_188 : sLk RL 188 uL_judge 4 := ⟨kw4_138, kw4_139, kw1_0, kw4_140, ⟨⟨by decide +kernel, by decide +kernel⟩, by decide +kernel⟩⟩
theorem v_L_41 : vLk RL 41 uX7_judge 2 := ⟨kw4_142, kw4_143, kw4_144, kw1_1, kw4_145, ⟨⟨by decide +kernel, by decide +kernel⟩, by decide +kernel⟩⟩
theorem v_X7_217 : vLk RX7 217 uX7_needTray 1 := ⟨kw4_146, kw4_148, kp_25, kw1_1, kw4_149, ⟨⟨by decide +kernel, by decide +kernel⟩, by decide +kernel⟩⟩
theorem v_X7_220 : vLk RX7 220 uX7_needLaid 1 := ⟨kw4_151, kw4_153, kp_26, kw1_1, kw4_154, ⟨⟨by decide +kernel, by decide +kernel⟩, by decide +kernel⟩⟩
theorem v_X7_389 : vLk RX7 389 uX6_isMissing 0 := ⟨kw4_155, kw4_156, kw4_157, kw1_7, kw4_158, ⟨⟨by decide +kernel, by decide +kernel⟩, by decide +kernel⟩⟩
theorem v_X7_234 : vLk RX7 234 uX5_whyNotTold 1 := ⟨kw4_175, kw4_176, kw4_177, kw1_4, kw4_178, ⟨⟨by decide +kernel, by decide +kernel⟩, by decide +kernel⟩⟩
theorem v_X5_75 : vLk RX5 75 uX5_whyNotLeave 1 := ⟨kw4_183, kw2_52, kw2_53, kw1_4, kw2_54, ⟨⟨by decide +kernel, by decide +kernel⟩, by decide +kernel⟩⟩
theorem v_X5_78 : vLk RX5 78 uX5_whyNotTake 2 := ⟨kw4_184, kw2_104, kw2_105, kw1_4, kw2_106, ⟨⟨by decide +kernel, by decide +kernel⟩, by decide +kernel⟩⟩
theorem v_X5_82 : vLk RX5 82 uX5_whyNotExchange 2 := ⟨kw4_185, kw2_125, kw2_126, kw1_4, kw2_127, ⟨⟨by decide +kernel, by decide +kernel⟩, by decide +kernel⟩⟩
theorem v_X7_238 : vLk RX7 238 uX5_carryOut 1 := ⟨kw4_186, kw4_187, kw4_188, kw1_4, kw4_189, ⟨⟨by decide +kernel, by decide +kernel⟩, by decide +kernel⟩⟩
theorem v_X5_85 : vLk RX5 85 uX5_level 0 := ⟨kw4_190, kw4_117, kw4_118, kw1_4, kw4_119, ⟨⟨by decide +kernel, by decide +kernel⟩, by decide +kernel⟩⟩
theorem v_X5_89 : vLk RX5 89 uX5_pass 1 := ⟨kw4_191, kw4_122, kw4_123, kw1_4, kw4_124, ⟨⟨by decide +kernel, by decide +kernel⟩, by decide +kernel⟩⟩
theorem v_X5_99 : vLk RX5 99 uX5_exchange 2 := ⟨kw4_192, kw2_129, kw2_130, kw1_4, kw2_131, ⟨⟨by decide +kernel, by decide +kernel⟩, by decide +kernel⟩⟩
theorem v_X7_242 : vLk RX7 242 uX5_inFront 0 := ⟨kw4_193, kw4_194, kw4_195, kw1_4, kw4_196, ⟨⟨by decide +kernel, by decide +kernel⟩, by decide +kernel⟩⟩
theorem s_L_191 : sLk RL 191 uL_perform 3 := ⟨kw4_197, kw4_198, kw1_0, kw4_199, ⟨⟨by decide +kernel, by decide +kernel⟩, by decide +kernel⟩⟩
theorem v_L_46 : vLk RL 46 uX7_perform 1 := ⟨kw4_200, kw4_201, kw4_202, kw1_1, kw4_203, ⟨⟨by decide +kernel, by decide +kernel⟩, by decide +kernel⟩⟩
theorem v_X7_245 : vLk RX7 245 uX7_performed 1 := ⟨kw4_204, kw4_206, kp_27, kw1_1, kw4_207, ⟨⟨by decide +kernel, by decide +kernel⟩, by decide +kernel⟩⟩
theorem s_L_194 : sLk RL 194 uL_afternoon 4 := ⟨kw4_208, kw4_209, kw1_0, kw4_210, ⟨⟨by decide +kernel, by decide +kernel⟩, by decide +kernel⟩⟩
theorem v_L_49 : vLk RL 49 uX7_afternoon 2 := ⟨kw4_211, kw4_212, kw4_213, kw1_1, kw4_214, ⟨⟨by decide +kernel, by decide +kernel⟩, by decide +kernel⟩⟩
theorem v_X7_249 : vLk RX7 249 uX7_drawnDeed 0 := ⟨kw4_215, kw4_217, kp_28, kw1_1, kw4_218, ⟨⟨by decide +kernel, by decide +kernel⟩, by decide +kernel⟩⟩
theorem v_X7_397 : vLk RX7 397 uX7_draw 0 := ⟨kw4_219, kw4_221, kp_29, kw1_1, kw4_222, ⟨⟨by decide +kernel, by decide +kernel⟩, by decide +kernel⟩⟩
theorem s_L_197 : sLk RL 197 uL_sits 4 := ⟨kw4_224, kw4_225, kw1_0, kw4_226, ⟨⟨by decide +kernel, by decide +kernel⟩, by decide +kernel⟩⟩
theorem v_L_52 : vLk RL 52 uX7_sits 2 := ⟨kw4_227, kw4_228, kw4_229, kw1_1, kw4_230, ⟨⟨by decide +kernel, by decide +kernel⟩, by decide +kernel⟩⟩
theorem v_X7_252 : vLk RX7 252 uX7_ahead 1 := ⟨kw4_231, kw4_233, kp_30, kw1_1, kw4_234, ⟨⟨by decide +kernel, by decide +kernel⟩, by decide +kernel⟩⟩
theorem v_X7_256 : vLk RX7 256 uX5_place 1 := ⟨kw4_235, kw4_236, kw4_237, kw1_4, kw4_238, ⟨⟨by decide +kernel, by decide +kernel⟩, by decide +kernel⟩⟩
theorem s_L_200 : sLk RL 200 uL_wetIn 3 := ⟨kw4_239, kw5_0, kw1_0, kw5_1, ⟨⟨by decide +kernel, by decide +kernel⟩, by decide +kernel⟩⟩
theorem v_L_55 : vLk RL 55 uX7_wetIn 1 := ⟨kw5_2, kw5_3, kw5_4, kw1_1, kw5_5, ⟨⟨by decide +kernel, by decide +kernel⟩, by decide +kernel⟩⟩
theorem s_L_203 : sLk RL 203 uL_wetBy 3 := ⟨kw5_6, kw5_7, kw1_0, kw5_8, ⟨⟨by decide +kernel, by decide +kernel⟩, by decide +kernel⟩⟩
theorem v_L_58 : vLk RL 58 uX7_wetBy 1 := ⟨kw5_9, kw5_10, kw5_11, kw1_1, kw5_12, ⟨⟨by decide +kernel, by decide +kernel⟩, by decide +kernel⟩⟩
theorem s_L_206 : sLk RL 206 uL_frontIn 3 := ⟨kw5_13, kw5_14, kw1_0, kw5_15, ⟨⟨by decide +kernel, by decide +kernel⟩, by decide +kernel⟩⟩
theorem v_L_61 : vLk RL 61 uX7_frontIn 1 := ⟨kw5_16, kw5_17, kw5_18, kw1_1, kw5_19, ⟨⟨by decide +kernel, by decide +kernel⟩, by decide +kernel⟩⟩
theorem s_L_209 : sLk RL 209 uL_front 3 := ⟨kw5_20, kw5_21, kw1_0, kw5_22, ⟨⟨by decide +kernel, by decide +kernel⟩, by decide +kernel⟩⟩
theorem v_L_64 : vLk RL 64 uX7_front 1 := ⟨kw5_23, kw5_24, kw5_25, kw1_1, kw5_26, ⟨⟨by decide +kernel, by decide +kernel⟩, by decide +kernel⟩⟩
theorem s_L_212 : sLk RL 212 uL_king 3 := ⟨kw5_27, kw5_28, kw1_0, kw5_29, ⟨⟨by decide +kernel, by decide +kernel⟩, by decide +kernel⟩⟩
theorem v_L_67 : vLk RL 67 uX7_king 1 := ⟨kw5_30, kw5_31, kw5_32, kw1_1, kw5_33, ⟨⟨by decide +kernel, by decide +kernel⟩, by decide +kernel⟩⟩
theorem s_X7_258 : sLk RX7 258 uJ7_fill_53178 2 := ⟨kw5_34, kw1_47, kw1_3, kw1_48, ⟨⟨by decide +kernel, by decide +kernel⟩, by decide +kernel⟩⟩
theorem s_L_215 : sLk RL 215 uL_bring 5 := ⟨kw5_35, kw5_36, kw1_0, kw5_37, ⟨⟨by decide +kernel, by decide +kernel⟩, by decide +kernel⟩⟩
theorem v_L_70 : vLk RL 70 uX7_bring 3 := ⟨kw5_38, kw5_39, kw5_40, kw1_1, kw5_41, ⟨⟨by decide +kernel, by decide +kernel⟩, by decide +kernel⟩⟩
theorem v_X7_269 : vLk RX7 269 uX7_fewestRisers 2 := ⟨kw5_42, kw5_44, kp_31, kw1_1, kw5_45, ⟨⟨by decide +kernel, by decide +kernel⟩, by decide +kernel⟩⟩
theorem v_X7_400 : vLk RX7 400 uX7_risersBring 4 := ⟨kw5_46, kw5_48, kp_32, kw1_1, kw5_49, ⟨⟨by decide +kernel, by decide +kernel⟩, by decide +kernel⟩⟩
theorem s_L_218 : sLk RL 218 uL_faints 5 := ⟨kw5_50, kw5_51, kw1_0, kw5_52, ⟨⟨by decide +kernel, by decide +kernel⟩, by decide +kernel⟩⟩
theorem v_L_73 : vLk RL 73 uX7_faints 3 := ⟨kw5_53, kw5_54, kw5_55, kw1_1, kw5_56, ⟨⟨by decide +kernel, by decide +kernel⟩, by decide +kernel⟩⟩
theorem v_X7_272 : vLk RX7 272 uX7_neighboursWhoCanRise 1 := ⟨kw5_57, kw5_59, kp_33, kw1_1, kw5_60, ⟨⟨by decide +kernel, by decide +kernel⟩, by decide +kernel⟩⟩
theorem v_X7_275 : vLk RX7 275 uX7_bringsToFront 3 := ⟨kw5_61, kw5_63, kp_34, kw1_1, kw5_64, ⟨⟨by decide +kernel, by decide +kernel⟩, by decide +kernel⟩⟩
theorem s_L_221 : sLk RL 221 uL_round 3 := ⟨kw5_65, kw5_66, kw1_0, kw5_67, ⟨⟨by decide +kernel, by decide +kernel⟩, by decide +kernel⟩⟩
theorem v_L_76 : vLk RL 76 uX7_round 1 := ⟨kw5_68, kw5_69, kw5_70, kw1_1, kw5_71, ⟨⟨by decide +kernel, by decide +kernel⟩, by decide +kernel⟩⟩
theorem v_X7_279 : vLk RX7 279 uX5_sittersIn 1 := ⟨kw5_72, kw5_73, kw5_74, kw1_4, kw5_75, ⟨⟨by decide +kernel, by decide +kernel⟩, by decide +kernel⟩⟩
theorem v_X7_282 : vLk RX7 282 uX5_foremostAwake 1 := ⟨kw5_76, kw5_77, kw5_78, kw1_4, kw5_79, ⟨⟨by decide +kernel, by decide +kernel⟩, by decide +kernel⟩⟩
theorem s_L_228 : sLk RL 228 uL_hands 4 := ⟨kw5_80, kw5_81, kw1_0, kw5_82, ⟨⟨by decide +kernel, by decide +kernel⟩, by decide +kernel⟩⟩
theorem v_L_79 : vLk RL 79 uX7_hands 2 := ⟨kw5_83, kw5_84, kw5_85, kw1_1, kw5_86, ⟨⟨by decide +kernel, by decide +kernel⟩, by decide +kernel⟩⟩
theorem v_X7_285 : vLk RX7 285 uX7_needTwoWhoSit 2 := ⟨kw5_87, kw5_89, kp_35, kw1_1, kw5_90, ⟨⟨by decide +kernel, by decide +kernel⟩, by decide +kernel⟩⟩
theorem v_X7_288 : vLk RX7 288 uX5_between 3 := ⟨kw5_93, kw5_94, kw5_95, kw1_4, kw5_96, ⟨⟨by decide +kernel, by decide +kernel⟩, by decide +kernel⟩⟩
theorem s_L_231 : sLk RL 231 uL_relay 3 := ⟨kw5_97, kw5_98, kw1_0, kw5_99, ⟨⟨by decide +kernel, by decide +kernel⟩, by decide +kernel⟩⟩
theorem v_L_82 : vLk RL 82 uX7_relay 1 := ⟨kw5_100, kw5_101, kw5_102, kw1_1, kw5_103, ⟨⟨by decide +kernel, by decide +kernel⟩, by decide +kernel⟩⟩
theorem v_X7_298 : vLk RX7 298 uX5_sittersOf 1 := ⟨kw5_105, kw2_150, kw2_151, kw1_4, kw2_152, ⟨⟨by decide +kernel, by decide +kernel⟩, by decide +kernel⟩⟩
theorem s_L_234 : sLk RL 234 uL_cut 4 := ⟨kw5_106, kw5_107, kw1_0, kw5_108, ⟨⟨by decide +kernel, by decide +kernel⟩, by decide +kernel⟩⟩
theorem v_L_85 : vLk RL 85 uX7_cut 2 := ⟨kw5_109, kw5_110, kw5_111, kw1_1, kw5_112, ⟨⟨by decide +kernel, by decide +kernel⟩, by decide +kernel⟩⟩
theorem s_L_241 : sLk RL 241 uL_dry 5 := ⟨kw5_113, kw5_114, kw1_0, kw5_115, ⟨⟨by decide +kernel, by decide +kernel⟩, by decide +kernel⟩⟩
theorem v_L_88 : vLk RL 88 uX7_dry 3 := ⟨kw5_116, kw5_117, kw5_118, kw1_1, kw5_119, ⟨⟨by decide +kernel, by decide +kernel⟩, by decide +kernel⟩⟩
theorem v_X7_310 : vLk RX7 310 uX5_dryChances 2 := ⟨kw5_120, kw5_121, kw5_122, kw1_4, kw5_123, ⟨⟨by decide +kernel, by decide +kernel⟩, by decide +kernel⟩⟩
theorem v_X5_126 : vLk RX5 126 uX0_waveOn 3 := ⟨kw5_124, kw4_106, kw4_107, kw1_2, kw4_108, ⟨⟨by decide +kernel, by decide +kernel⟩, by decide +kernel⟩⟩
theorem s_X7_316 : sLk RX7 316 uX7_commonDivisor 2 := ⟨kw5_126, kw5_127, kw1_1, kw5_128, ⟨⟨by decide +kernel, by decide +kernel⟩, by decide +kernel⟩⟩
theorem s_L_244 : sLk RL 244 uL_driest 3 := ⟨kw5_130, kw5_131, kw1_0, kw5_132, ⟨⟨by decide +kernel, by decide +kernel⟩, by decide +kernel⟩⟩
theorem v_L_92 : vLk RL 92 uX7_driest 1 := ⟨kw5_133, kw5_134, kw5_135, kw1_1, kw5_136, ⟨⟨by decide +kernel, by decide +kernel⟩, by decide +kernel⟩⟩
theorem s_L_247 : sLk RL 247 uL_where 4 := ⟨kw5_137, kw5_138, kw1_0, kw5_139, ⟨⟨by decide +kernel, by decide +kernel⟩, by decide +kernel⟩⟩
theorem v_L_95 : vLk RL 95 uX7_where 2 := ⟨kw5_140, kw5_141, kw5_142, kw1_1, kw5_143, ⟨⟨by decide +kernel, by decide +kernel⟩, by decide +kernel⟩⟩
theorem s_L_250 : sLk RL 250 uL_changed 4 := ⟨kw5_145, kw5_146, kw1_0, kw5_147, ⟨⟨by decide +kernel, by decide +kernel⟩, by decide +kernel⟩⟩
theorem v_L_98 : vLk RL 98 uX7_changed 2 := ⟨kw5_148, kw5_149, kw5_150, kw1_1, kw5_151, ⟨⟨by decide +kernel, by decide +kernel⟩, by decide +kernel⟩⟩
theorem v_X7_327 : vLk RX7 327 uX7_needTwosAsked 2 := ⟨kw5_152, kw5_154, kp_36, kw1_1, kw5_155, ⟨⟨by decide +kernel, by decide +kernel⟩, by decide +kernel⟩⟩
theorem v_X7_330 : vLk RX7 330 uX7_collectTwos 2 := ⟨kw5_157, kw5_159, kp_37, kw1_1, kw5_160, ⟨⟨by decide +kernel, by decide +kernel⟩, by decide +kernel⟩⟩
theorem v_X7_403 : vLk RX7 403 uX7_exchangedAhead 3 := ⟨kw5_161, kw5_163, kp_38, kw1_1, kw5_164, ⟨⟨by decide +kernel, by decide +kernel⟩, by decide +kernel⟩⟩
theorem v_X7_407 : vLk RX7 407 uX7_keepEnds 2 := ⟨kw5_165, kw5_167, kp_39, kw1_1, kw5_168, ⟨⟨by decide +kernel, by decide +kernel⟩, by decide +kernel⟩⟩
theorem s_L_253 : sLk RL 253 uL_changedAt 5 := ⟨kw5_169, kw5_170, kw1_0, kw5_171, ⟨⟨by decide +kernel, by decide +kernel⟩, by decide +kernel⟩⟩
theorem v_L_101 : vLk RL 101 uX7_changedAt 3 := ⟨kw5_172, kw5_173, kw5_174, kw1_1, kw5_175, ⟨⟨by decide +kernel, by decide +kernel⟩, by decide +kernel⟩⟩
theorem s_L_256 : sLk RL 256 uL_sure 4 := ⟨kw5_177, kw5_178, kw1_0, kw5_179, ⟨⟨by decide +kernel, by decide +kernel⟩, by decide +kernel⟩⟩
theorem v_L_104 : vLk RL 104 uX7_sure 2 := ⟨kw5_180, kw5_181, kw5_182, kw1_1, kw5_183, ⟨⟨by decide +kernel, by decide +kernel⟩, by decide +kernel⟩⟩
theorem s_L_259 : sLk RL 259 uL_look 4 := ⟨kw5_184, kw5_185, kw1_0, kw5_186, ⟨⟨by decide +kernel, by decide +kernel⟩, by decide +kernel⟩⟩
theorem v_L_107 : vLk RL 107 uX7_look 2 := ⟨kw5_187, kw5_188, kw5_189, kw1_1, kw5_190, ⟨⟨by decide +kernel, by decide +kernel⟩, by decide +kernel⟩⟩
theorem v_X7_338 : vLk RX7 338 uX7_mostAlike 2 := ⟨kw5_191, kw5_193, kp_40, kw1_1, kw5_194, ⟨⟨by decide +kernel, by decide +kernel⟩, by decide +kernel⟩⟩
theorem s_X7_411 : sLk RX7 411 uJ9_max_7cf53 2 := ⟨kw5_195, kw3_130, kw1_17, kw3_131, ⟨⟨by decide +kernel, by decide +kernel⟩, by decide +kernel⟩⟩
theorem s_L_262 : sLk RL 262 uL_tray 4 := ⟨kw5_196, kw5_197, kw1_0, kw5_198, ⟨⟨by decide +kernel, by decide +kernel⟩, by decide +kernel⟩⟩
theorem v_L_110 : vLk RL 110 uX7_tray 3 := ⟨kw5_199, kw5_200, kw5_201, kw1_1, kw5_202, ⟨⟨by decide +kernel, by decide +kernel⟩, by decide +kernel⟩⟩
theorem v_X7_341 : vLk RX7 341 uX6_lay 2 := ⟨kw5_203, kw5_204, kw5_205, kw1_7, kw5_206, ⟨⟨by decide +kernel, by decide +kernel⟩, by decide +kernel⟩⟩
theorem s_X6_22 : sLk RX6 22 uJ7_fill_d0a16 2 := ⟨kw5_207, kw5_208, kw1_3, kw5_209, ⟨⟨by decide +kernel, by decide +kernel⟩, by decide +kernel⟩⟩
theorem s_L_268 : sLk RL 268 uL_write 5 := ⟨kw5_210, kw5_211, kw1_0, kw5_212, ⟨⟨by decide +kernel, by decide +kernel⟩, by decide +kernel⟩⟩
theorem v_L_114 : vLk RL 114 uX7_write 3 := ⟨kw5_214, kw5_215, kw5_216, kw1_1, kw5_217, ⟨⟨by decide +kernel, by decide +kernel⟩, by decide +kernel⟩⟩
theorem v_X7_349 : vLk RX7 349 uX6_put 2 := ⟨kw5_234, kw5_235, kw5_236, kw1_7, kw5_237, ⟨⟨by decide +kernel, by decide +kernel⟩, by decide +kernel⟩⟩
theorem s_L_272 : sLk RL 272 uL_copy 4 := ⟨kw5_238, kw5_239, kw1_0, kw6_0, ⟨⟨by decide +kernel, by decide +kernel⟩, by decide +kernel⟩⟩
theorem v_L_120 : vLk RL 120 uX7_copy 2 := ⟨kw6_1, kw6_2, kw6_3, kw1_1, kw6_4, ⟨⟨by decide +kernel, by decide +kernel⟩, by decide +kernel⟩⟩
theorem s_L_275 : sLk RL 275 uL_image 2 := ⟨kw6_5, kw6_6, kw1_0, kw6_7, ⟨⟨by decide +kernel, by decide +kernel⟩, by decide +kernel⟩⟩
theorem v_L_123 : vLk RL 123 uX7_image 1 := ⟨kw6_8, kw6_9, kw6_10, kw1_1, kw6_11, ⟨⟨by decide +kernel, by decide +kernel⟩, by decide +kernel⟩⟩
theorem v_X7_353 : vLk RX7 353 uX7_needImage 1 := ⟨kw6_12, kw6_14, kp_41, kw1_1, kw6_15, ⟨⟨by decide +kernel, by decide +kernel⟩, by decide +kernel⟩⟩
theorem i_X7_356 : iLk RX7 356 uX2_init 1 := ⟨kw6_18, kw6_19, kw1_25, kw6_20, ⟨⟨by decide +kernel, by decide +kernel⟩, by decide +kernel⟩, rfl⟩
theorem i_X2_9 : iLk RX2 9 uX5_init 1 := ⟨kw6_23, kw1_109, kw1_4, kw1_110, ⟨⟨by decide +kernel, by decide +kernel⟩, by decide +kernel⟩, rfl⟩
theorem i_X2_20 : iLk RX2 20 uX1_init 1 := ⟨kw6_25, kw1_146, kw1_5, kw1_147, ⟨⟨by decide +kernel, by decide +kernel⟩, by decide +kernel⟩, rfl⟩
theorem v_X7_359 : vLk RX7 359 uX1_copyFrom 1 := ⟨kw6_35, kw6_36, kw6_37, kw1_5, kw6_38, ⟨⟨by decide +kernel, by decide +kernel⟩, by decide +kernel⟩⟩
theorem s_L_279 : sLk RL 279 uL_restore 2 := ⟨kw6_39, kw6_40, kw1_0, kw6_41, ⟨⟨by decide +kernel, by decide +kernel⟩, by decide +kernel⟩⟩
theorem v_L_127 : vLk RL 127 uX7_restore 1 := ⟨kw6_42, kw6_43, kw6_44, kw1_1, kw6_45, ⟨⟨by decide +kernel, by decide +kernel⟩, by decide +kernel⟩⟩
theorem i_L_133 : iLk RL 133 uX8_init 0 := ⟨kw6_49, kw6_50, kw1_8, kw6_51, ⟨⟨by decide +kernel, by decide +kernel⟩, by decide +kernel⟩, rfl⟩
theorem v_L_145 : vLk RL 145 uX8_thrown 0 := ⟨kw6_151, kw6_152, kw6_153, kw1_8, kw6_154, ⟨⟨by decide +kernel, by decide +kernel⟩, by decide +kernel⟩⟩
theorem v_L_138 : vLk RL 138 uX8_feed 5 := ⟨kw6_155, kw6_156, kw6_157, kw1_8, kw6_158, ⟨⟨by decide +kernel, by decide +kernel⟩, by decide +kernel⟩⟩
theorem v_L_144 : vLk RL 144 uX8_beach 1 := ⟨kw6_159, kw6_160, kw6_161, kw1_8, kw6_162, ⟨⟨by decide +kernel, by decide +kernel⟩, by decide +kernel⟩⟩
theorem s_X8_125 : sLk RX8 125 uX8_within 3 := ⟨kw6_163, kw6_164, kw1_8, kw6_165, ⟨⟨by decide +kernel, by decide +kernel⟩, by decide +kernel⟩⟩
theorem v_X8_231 : vLk RX8 231 uX8_fails 1 := ⟨kw6_166, kw6_168, kp_42, kw1_8, kw6_169, ⟨⟨by decide +kernel, by decide +kernel⟩, by decide +kernel⟩⟩
theorem v_X8_118 : vLk RX8 118 uX8_readsOn 0 := ⟨kw6_170, kw6_172, kp_43, kw1_8, kw6_173, ⟨⟨by decide +kernel, by decide +kernel⟩, by decide +kernel⟩⟩
theorem s_X8_82 : sLk RX8 82 uX8_isLetter 1 := ⟨kw6_174, kw6_175, kw1_8, kw6_176, ⟨⟨by decide +kernel, by decide +kernel⟩, by decide +kernel⟩⟩
theorem v_X8_86 : vLk RX8 86 uX8_see 1 := ⟨kw6_177, kw6_179, kp_44, kw1_8, kw6_180, ⟨⟨by decide +kernel, by decide +kernel⟩, by decide +kernel⟩⟩
theorem s_X8_90 : sLk RX8 90 uX8_isDigit 1 := ⟨kw6_181, kw6_182, kw1_8, kw6_183, ⟨⟨by decide +kernel, by decide +kernel⟩, by decide +kernel⟩⟩
theorem s_X8_96 : sLk RX8 96 uX8_isSignByte 1 := ⟨kw6_184, kw6_185, kw1_8, kw6_186, ⟨⟨by decide +kernel, by decide +kernel⟩, by decide +kernel⟩⟩
theorem v_X8_196 : vLk RX8 196 uX8_mustWord 1 := ⟨kw6_188, kw6_190, kp_45, kw1_8, kw6_191, ⟨⟨by decide +kernel, by decide +kernel⟩, by decide +kernel⟩⟩
theorem v_X8_129 : vLk RX8 129 uX8_took 1 := ⟨kw6_192, kw6_194, kp_46, kw1_8, kw6_195, ⟨⟨by decide +kernel, by decide +kernel⟩, by decide +kernel⟩⟩
theorem v_X8_114 : vLk RX8 114 uX8_isWord 1 := ⟨kw6_196, kw6_198, kp_47, kw1_8, kw6_199, ⟨⟨by decide +kernel, by decide +kernel⟩, by decide +kernel⟩⟩
theorem v_X8_105 : vLk RX8 105 uJ0_length_8abf5 0 := ⟨kw6_200, kw3_43, kw3_44, kw1_13, kw3_45, ⟨⟨by decide +kernel, by decide +kernel⟩, by decide +kernel⟩⟩
theorem v_X8_110 : vLk RX8 110 uJ0_charAt_5068e 1 := ⟨kw6_201, kw3_53, kw3_54, kw1_13, kw3_55, ⟨⟨by decide +kernel, by decide +kernel⟩, by decide +kernel⟩⟩
theorem v_X8_121 : vLk RX8 121 uX8_blames 1 := ⟨kw6_202, kw6_204, kp_48, kw1_8, kw6_205, ⟨⟨by decide +kernel, by decide +kernel⟩, by decide +kernel⟩⟩
theorem v_X8_190 : vLk RX8 190 uX8_number 2 := ⟨kw6_206, kw6_208, kp_49, kw1_8, kw6_209, ⟨⟨by decide +kernel, by decide +kernel⟩, by decide +kernel⟩⟩
theorem v_X8_228 : vLk RX8 228 uX8_readStop 0 := ⟨kw6_210, kw6_212, kp_50, kw1_8, kw6_213, ⟨⟨by decide +kernel, by decide +kernel⟩, by decide +kernel⟩⟩
theorem v_X8_138 : vLk RX8 138 uX8_mustSign 1 := ⟨kw6_214, kw6_216, kp_51, kw1_8, kw6_217, ⟨⟨by decide +kernel, by decide +kernel⟩, by decide +kernel⟩⟩
theorem v_X8_236 : vLk RX8 236 uX8_readLine 0 := ⟨kw6_218, kw6_220, kp_52, kw1_8, kw6_221, ⟨⟨by decide +kernel, by decide +kernel⟩, by decide +kernel⟩⟩
theorem v_X8_215 : vLk RX8 215 uX8_readPerson 0 := ⟨kw6_223, kw6_225, kp_53, kw1_8, kw6_226, ⟨⟨by decide +kernel, by decide +kernel⟩, by decide +kernel⟩⟩
theorem v_X8_200 : vLk RX8 200 uX8_isSeatTold 2 := ⟨kw6_228, kw6_230, kp_54, kw1_8, kw6_231, ⟨⟨by decide +kernel, by decide +kernel⟩, by decide +kernel⟩⟩
theorem v_X8_208 : vLk RX8 208 uX8_readPlan 1 := ⟨kw6_235, kw6_237, kp_55, kw1_8, kw6_238, ⟨⟨by decide +kernel, by decide +kernel⟩, by decide +kernel⟩⟩
theorem v_X8_220 : vLk RX8 220 uX8_beginsLaw 2 := ⟨kw7_2, kw7_4, kp_56, kw1_8, kw7_5, ⟨⟨by decide +kernel, by decide +kernel⟩, by decide +kernel⟩⟩
theorem v_X8_165 : vLk RX8 165 uX8_readTruth 0 := ⟨kw7_6, kw7_8, kp_57, kw1_8, kw7_9, ⟨⟨by decide +kernel, by decide +kernel⟩, by decide +kernel⟩⟩
theorem v_X8_144 : vLk RX8 144 uX8_readBoth 0 := ⟨kw7_10, kw7_12, kp_58, kw1_8, kw7_13, ⟨⟨by decide +kernel, by decide +kernel⟩, by decide +kernel⟩⟩
theorem v_X8_152 : vLk RX8 152 uX8_readUnit 0 := ⟨kw7_14, kw7_16, kp_59, kw1_8, kw7_17, ⟨⟨by decide +kernel, by decide +kernel⟩, by decide +kernel⟩⟩
theorem v_X8_159 : vLk RX8 159 uX8_goesIn 0 := ⟨kw7_19, kw7_21, kp_60, kw1_8, kw7_22, ⟨⟨by decide +kernel, by decide +kernel⟩, by decide +kernel⟩⟩
theorem v_X8_149 : vLk RX8 149 uX8_laysStep 1 := ⟨kw7_23, kw7_25, kp_61, kw1_8, kw7_26, ⟨⟨by decide +kernel, by decide +kernel⟩, by decide +kernel⟩⟩
theorem v_X8_162 : vLk RX8 162 uX8_isSign 1 := ⟨kw7_27, kw7_29, kp_62, kw1_8, kw7_30, ⟨⟨by decide +kernel, by decide +kernel⟩, by decide +kernel⟩⟩
theorem v_X8_168 : vLk RX8 168 uX8_readSum 0 := ⟨kw7_31, kw7_33, kp_63, kw1_8, kw7_34, ⟨⟨by decide +kernel, by decide +kernel⟩, by decide +kernel⟩⟩
theorem v_X8_171 : vLk RX8 171 uX8_readTerm 0 := ⟨kw7_35, kw7_37, kp_64, kw1_8, kw7_38, ⟨⟨by decide +kernel, by decide +kernel⟩, by decide +kernel⟩⟩
theorem v_X8_174 : vLk RX8 174 uX8_readAtom 0 := ⟨kw7_39, kw7_41, kp_65, kw1_8, kw7_42, ⟨⟨by decide +kernel, by decide +kernel⟩, by decide +kernel⟩⟩
theorem v_X8_187 : vLk RX8 187 uX8_lawWord 0 := ⟨kw7_43, kw7_45, kp_66, kw1_8, kw7_46, ⟨⟨by decide +kernel, by decide +kernel⟩, by decide +kernel⟩⟩
theorem v_L_152 : vLk RL 152 uX8_fault 1 := ⟨kw7_54, kw7_55, kw7_56, kw1_8, kw7_57, ⟨⟨by decide +kernel, by decide +kernel⟩, by decide +kernel⟩⟩
theorem v_L_156 : vLk RL 156 uX8_chair 2 := ⟨kw7_58, kw7_59, kw7_60, kw1_8, kw7_61, ⟨⟨by decide +kernel, by decide +kernel⟩, by decide +kernel⟩⟩
theorem v_X8_307 : vLk RX8 307 uX8_isChair 2 := ⟨kw7_62, kw7_64, kp_67, kw1_8, kw7_65, ⟨⟨by decide +kernel, by decide +kernel⟩, by decide +kernel⟩⟩
theorem v_X8_245 : vLk RX8 245 uX8_isColumn 1 := ⟨kw7_66, kw7_68, kp_68, kw1_8, kw7_69, ⟨⟨by decide +kernel, by decide +kernel⟩, by decide +kernel⟩⟩
theorem v_X8_280 : vLk RX8 280 uX8_sitter 2 := ⟨kw7_70, kw7_72, kp_69, kw1_8, kw7_73, ⟨⟨by decide +kernel, by decide +kernel⟩, by decide +kernel⟩⟩
theorem v_X8_242 : vLk RX8 242 uX8_people 0 := ⟨kw7_74, kw7_76, kp_70, kw1_8, kw7_77, ⟨⟨by decide +kernel, by decide +kernel⟩, by decide +kernel⟩⟩
theorem v_L_159 : vLk RL 159 uX8_person 2 := ⟨kw7_78, kw7_79, kw7_80, kw1_8, kw7_81, ⟨⟨by decide +kernel, by decide +kernel⟩, by decide +kernel⟩⟩
theorem v_X8_310 : vLk RX8 310 uX8_isPerson 1 := ⟨kw7_82, kw7_84, kp_71, kw1_8, kw7_85, ⟨⟨by decide +kernel, by decide +kernel⟩, by decide +kernel⟩⟩
theorem v_X8_283 : vLk RX8 283 uX8_isAsleep 1 := ⟨kw7_87, kw7_89, kp_72, kw1_8, kw7_90, ⟨⟨by decide +kernel, by decide +kernel⟩, by decide +kernel⟩⟩
theorem s_X8_249 : sLk RX8 249 uX8_has 2 := ⟨kw7_91, kw7_92, kw1_8, kw7_93, ⟨⟨by decide +kernel, by decide +kernel⟩, by decide +kernel⟩⟩
theorem v_L_162 : vLk RL 162 uX8_tide 1 := ⟨kw7_94, kw7_95, kw7_96, kw1_8, kw7_97, ⟨⟨by decide +kernel, by decide +kernel⟩, by decide +kernel⟩⟩
theorem v_X8_304 : vLk RX8 304 uX8_tideIn 1 := ⟨kw7_99, kw7_101, kp_73, kw1_8, kw7_102, ⟨⟨by decide +kernel, by decide +kernel⟩, by decide +kernel⟩⟩
theorem v_X8_273 : vLk RX8 273 uX8_lawOf 2 := ⟨kw7_103, kw7_105, kp_74, kw1_8, kw7_106, ⟨⟨by decide +kernel, by decide +kernel⟩, by decide +kernel⟩⟩
theorem s_X8_269 : sLk RX8 269 uX8_done 3 := ⟨kw7_107, kw7_108, kw1_8, kw7_109, ⟨⟨by decide +kernel, by decide +kernel⟩, by decide +kernel⟩⟩
theorem s_X8_265 : sLk RX8 265 uX8_bound 1 := ⟨kw7_110, kw7_111, kw1_8, kw7_112, ⟨⟨by decide +kernel, by decide +kernel⟩, by decide +kernel⟩⟩
theorem s_X8_256 : sLk RX8 256 uJ9_min_f86c9 2 := ⟨kw7_115, kw7_116, kw1_17, kw7_117, ⟨⟨by decide +kernel, by decide +kernel⟩, by decide +kernel⟩⟩
theorem s_X8_262 : sLk RX8 262 uJ9_max_f86c9 2 := ⟨kw7_118, kw7_119, kw1_17, kw7_120, ⟨⟨by decide +kernel, by decide +kernel⟩, by decide +kernel⟩⟩
theorem s_X8_276 : sLk RX8 276 uJ9_min_7cf53 2 := ⟨kw7_121, kw3_133, kw1_17, kw3_134, ⟨⟨by decide +kernel, by decide +kernel⟩, by decide +kernel⟩⟩
theorem s_X8_278 : sLk RX8 278 uJ9_max_7cf53 2 := ⟨kw7_122, kw3_130, kw1_17, kw3_131, ⟨⟨by decide +kernel, by decide +kernel⟩, by decide +kernel⟩⟩
theorem v_L_166 : vLk RL 166 uX8_moves 3 := ⟨kw7_123, kw7_124, kw7_125, kw1_8, kw7_126, ⟨⟨by decide +kernel, by decide +kernel⟩, by decide +kernel⟩⟩
theorem v_X8_286 : vLk RX8 286 uX8_comesTo 3 := ⟨kw7_127, kw7_129, kp_75, kw1_8, kw7_130, ⟨⟨by decide +kernel, by decide +kernel⟩, by decide +kernel⟩⟩
theorem v_L_169 : vLk RL 169 uX8_wets 3 := ⟨kw7_131, kw7_132, kw7_133, kw1_8, kw7_134, ⟨⟨by decide +kernel, by decide +kernel⟩, by decide +kernel⟩⟩
theorem v_X8_317 : vLk RX8 317 uX8_wetsHow 3 := ⟨kw7_135, kw7_137, kp_76, kw1_8, kw7_138, ⟨⟨by decide +kernel, by decide +kernel⟩, by decide +kernel⟩⟩
theorem v_L_173 : vLk RL 173 uX8_rise 1 := ⟨kw7_139, kw7_140, kw7_141, kw1_8, kw7_142, ⟨⟨by decide +kernel, by decide +kernel⟩, by decide +kernel⟩⟩
theorem v_X8_324 : vLk RX8 324 uX8_whyRise 1 := ⟨kw7_143, kw7_145, kp_77, kw1_8, kw7_146, ⟨⟨by decide +kernel, by decide +kernel⟩, by decide +kernel⟩⟩
theorem v_X8_296 : vLk RX8 296 uX8_isUp 1 := ⟨kw7_147, kw7_149, kp_78, kw1_8, kw7_150, ⟨⟨by decide +kernel, by decide +kernel⟩, by decide +kernel⟩⟩
theorem v_X8_327 : vLk RX8 327 uX8_refuses 1 := ⟨kw7_151, kw7_153, kp_79, kw1_8, kw7_154, ⟨⟨by decide +kernel, by decide +kernel⟩, by decide +kernel⟩⟩
theorem v_X8_321 : vLk RX8 321 uX8_keeps 0 := ⟨kw7_155, kw7_157, kp_80, kw1_8, kw7_158, ⟨⟨by decide +kernel, by decide +kernel⟩, by decide +kernel⟩⟩
theorem v_X8_302 : vLk RX8 302 uX8_rises 2 := ⟨kw7_159, kw7_161, kp_81, kw1_8, kw7_162, ⟨⟨by decide +kernel, by decide +kernel⟩, by decide +kernel⟩⟩
theorem v_X8_290 : vLk RX8 290 uX8_comer 2 := ⟨kw7_163, kw7_165, kp_82, kw1_8, kw7_166, ⟨⟨by decide +kernel, by decide +kernel⟩, by decide +kernel⟩⟩
theorem v_L_177 : vLk RL 177 uX8_sit 2 := ⟨kw7_167, kw7_168, kw7_169, kw1_8, kw7_170, ⟨⟨by decide +kernel, by decide +kernel⟩, by decide +kernel⟩⟩
theorem v_X8_330 : vLk RX8 330 uX8_whySit 2 := ⟨kw7_171, kw7_173, kp_83, kw1_8, kw7_174, ⟨⟨by decide +kernel, by decide +kernel⟩, by decide +kernel⟩⟩
theorem v_X8_293 : vLk RX8 293 uX8_lastFree 1 := ⟨kw7_175, kw7_177, kp_84, kw1_8, kw7_178, ⟨⟨by decide +kernel, by decide +kernel⟩, by decide +kernel⟩⟩
theorem v_X8_299 : vLk RX8 299 uX8_sitsDown 2 := ⟨kw7_179, kw7_181, kp_85, kw1_8, kw7_182, ⟨⟨by decide +kernel, by decide +kernel⟩, by decide +kernel⟩⟩
theorem v_L_181 : vLk RL 181 uX8_swap 2 := ⟨kw7_183, kw7_184, kw7_185, kw1_8, kw7_186, ⟨⟨by decide +kernel, by decide +kernel⟩, by decide +kernel⟩⟩
theorem v_X8_334 : vLk RX8 334 uX8_whySwap 2 := ⟨kw7_187, kw7_189, kp_86, kw1_8, kw7_190, ⟨⟨by decide +kernel, by decide +kernel⟩, by decide +kernel⟩⟩
theorem v_X8_337 : vLk RX8 337 uX8_swaps 2 := ⟨kw7_191, kw7_193, kp_87, kw1_8, kw7_194, ⟨⟨by decide +kernel, by decide +kernel⟩, by decide +kernel⟩⟩
theorem v_L_184 : vLk RL 184 uX8_minutes 1 := ⟨kw7_195, kw7_196, kw7_197, kw1_8, kw7_198, ⟨⟨by decide +kernel, by decide +kernel⟩, by decide +kernel⟩⟩
theorem s_X8_342 : sLk RX8 342 uX8_size 1 := ⟨kw7_200, kw7_201, kw1_8, kw7_202, ⟨⟨by decide +kernel, by decide +kernel⟩, by decide +kernel⟩⟩
theorem v_X8_345 : vLk RX8 345 uX8_minute 0 := ⟨kw7_203, kw7_205, kp_88, kw1_8, kw7_206, ⟨⟨by decide +kernel, by decide +kernel⟩, by decide +kernel⟩⟩
theorem v_L_187 : vLk RL 187 uX8_undo 1 := ⟨kw7_207, kw7_208, kw7_209, kw1_8, kw7_210, ⟨⟨by decide +kernel, by decide +kernel⟩, by decide +kernel⟩⟩
theorem v_L_190 : vLk RL 190 uX8_judge 2 := ⟨kw7_212, kw7_213, kw7_214, kw1_8, kw7_215, ⟨⟨by decide +kernel, by decide +kernel⟩, by decide +kernel⟩⟩
theorem v_X8_364 : vLk RX8 364 uX8_trayFault 1 := ⟨kw7_216, kw7_218, kp_89, kw1_8, kw7_219, ⟨⟨by decide +kernel, by decide +kernel⟩, by decide +kernel⟩⟩
theorem s_X8_349 : sLk RX8 349 uX8_isTray 1 := ⟨kw7_220, kw7_221, kw1_8, kw7_222, ⟨⟨by decide +kernel, by decide +kernel⟩, by decide +kernel⟩⟩
theorem v_X8_369 : vLk RX8 369 uX8_putsAside 0 := ⟨kw7_224, kw7_226, kp_90, kw1_8, kw7_227, ⟨⟨by decide +kernel, by decide +kernel⟩, by decide +kernel⟩⟩
theorem v_X8_372 : vLk RX8 372 uX8_whyTold 1 := ⟨kw7_228, kw7_230, kp_91, kw1_8, kw7_231, ⟨⟨by decide +kernel, by decide +kernel⟩, by decide +kernel⟩⟩
theorem v_X8_375 : vLk RX8 375 uX8_does 1 := ⟨kw7_238, kw8_0, kp_92, kw1_8, kw8_1, ⟨⟨by decide +kernel, by decide +kernel⟩, by decide +kernel⟩⟩
theorem v_X8_378 : vLk RX8 378 uX8_inFront 0 := ⟨kw8_2, kw8_4, kp_93, kw1_8, kw8_5, ⟨⟨by decide +kernel, by decide +kernel⟩, by decide +kernel⟩⟩
theorem v_X8_381 : vLk RX8 381 uX8_putsBack 0 := ⟨kw8_6, kw8_8, kp_94, kw1_8, kw8_9, ⟨⟨by decide +kernel, by decide +kernel⟩, by decide +kernel⟩⟩
theorem v_L_193 : vLk RL 193 uX8_perform 1 := ⟨kw8_10, kw8_11, kw8_12, kw1_8, kw8_13, ⟨⟨by decide +kernel, by decide +kernel⟩, by decide +kernel⟩⟩
theorem v_L_196 : vLk RL 196 uX8_afternoon 2 := ⟨kw8_14, kw8_15, kw8_16, kw1_8, kw8_17, ⟨⟨by decide +kernel, by decide +kernel⟩, by decide +kernel⟩⟩
theorem v_X8_390 : vLk RX8 390 uX8_draw 1 := ⟨kw8_19, kw8_21, kp_95, kw1_8, kw8_22, ⟨⟨by decide +kernel, by decide +kernel⟩, by decide +kernel⟩⟩
theorem v_X8_393 : vLk RX8 393 uX8_drawn 2 := ⟨kw8_24, kw8_26, kp_96, kw1_8, kw8_27, ⟨⟨by decide +kernel, by decide +kernel⟩, by decide +kernel⟩⟩
theorem v_L_199 : vLk RL 199 uX8_sits 2 := ⟨kw8_28, kw8_29, kw8_30, kw1_8, kw8_31, ⟨⟨by decide +kernel, by decide +kernel⟩, by decide +kernel⟩⟩
theorem v_X8_396 : vLk RX8 396 uX8_isAheadOut 2 := ⟨kw8_32, kw8_34, kp_97, kw1_8, kw8_35, ⟨⟨by decide +kernel, by decide +kernel⟩, by decide +kernel⟩⟩
theorem v_X8_399 : vLk RX8 399 uX8_goesOn 1 := ⟨kw8_36, kw8_38, kp_98, kw1_8, kw8_39, ⟨⟨by decide +kernel, by decide +kernel⟩, by decide +kernel⟩⟩
theorem v_X8_402 : vLk RX8 402 uX8_placeOf 1 := ⟨kw8_40, kw8_42, kp_99, kw1_8, kw8_43, ⟨⟨by decide +kernel, by decide +kernel⟩, by decide +kernel⟩⟩
theorem v_L_202 : vLk RL 202 uX8_wetIn 1 := ⟨kw8_44, kw8_45, kw8_46, kw1_8, kw8_47, ⟨⟨by decide +kernel, by decide +kernel⟩, by decide +kernel⟩⟩
theorem v_L_205 : vLk RL 205 uX8_wetBy 1 := ⟨kw8_48, kw8_49, kw8_50, kw1_8, kw8_51, ⟨⟨by decide +kernel, by decide +kernel⟩, by decide +kernel⟩⟩
theorem v_L_208 : vLk RL 208 uX8_frontIn 1 := ⟨kw8_52, kw8_53, kw8_54, kw1_8, kw8_55, ⟨⟨by decide +kernel, by decide +kernel⟩, by decide +kernel⟩⟩
theorem v_L_211 : vLk RL 211 uX8_front 1 := ⟨kw8_56, kw8_57, kw8_58, kw1_8, kw8_59, ⟨⟨by decide +kernel, by decide +kernel⟩, by decide +kernel⟩⟩
theorem v_L_214 : vLk RL 214 uX8_king 1 := ⟨kw8_60, kw8_61, kw8_62, kw1_8, kw8_63, ⟨⟨by decide +kernel, by decide +kernel⟩, by decide +kernel⟩⟩
theorem v_L_217 : vLk RL 217 uX8_bring 3 := ⟨kw8_64, kw8_65, kw8_66, kw1_8, kw8_67, ⟨⟨by decide +kernel, by decide +kernel⟩, by decide +kernel⟩⟩
theorem v_X8_408 : vLk RX8 408 uX8_brings 4 := ⟨kw8_69, kw8_71, kp_100, kw1_8, kw8_72, ⟨⟨by decide +kernel, by decide +kernel⟩, by decide +kernel⟩⟩
theorem v_X8_405 : vLk RX8 405 uX8_keepsLevel 1 := ⟨kw8_73, kw8_75, kp_101, kw1_8, kw8_76, ⟨⟨by decide +kernel, by decide +kernel⟩, by decide +kernel⟩⟩
theorem v_X8_412 : vLk RX8 412 uX8_backToLevel 1 := ⟨kw8_77, kw8_79, kp_102, kw1_8, kw8_80, ⟨⟨by decide +kernel, by decide +kernel⟩, by decide +kernel⟩⟩
theorem v_L_220 : vLk RL 220 uX8_faints 3 := ⟨kw8_81, kw8_82, kw8_83, kw1_8, kw8_84, ⟨⟨by decide +kernel, by decide +kernel⟩, by decide +kernel⟩⟩
theorem v_L_223 : vLk RL 223 uX8_round 1 := ⟨kw8_86, kw8_87, kw8_88, kw1_8, kw8_89, ⟨⟨by decide +kernel, by decide +kernel⟩, by decide +kernel⟩⟩
theorem v_X8_419 : vLk RX8 419 uX8_headOf 1 := ⟨kw8_90, kw8_92, kp_103, kw1_8, kw8_93, ⟨⟨by decide +kernel, by decide +kernel⟩, by decide +kernel⟩⟩
theorem v_X8_422 : vLk RX8 422 uX8_foremost 1 := ⟨kw8_94, kw8_96, kp_104, kw1_8, kw8_97, ⟨⟨by decide +kernel, by decide +kernel⟩, by decide +kernel⟩⟩
theorem v_L_227 : vLk RL 227 uX8_stir 0 := ⟨kw8_98, kw8_99, kw8_100, kw1_8, kw8_101, ⟨⟨by decide +kernel, by decide +kernel⟩, by decide +kernel⟩⟩
theorem v_L_230 : vLk RL 230 uX8_hands 2 := ⟨kw8_102, kw8_103, kw8_104, kw1_8, kw8_105, ⟨⟨by decide +kernel, by decide +kernel⟩, by decide +kernel⟩⟩
theorem v_X8_434 : vLk RX8 434 uX8_areHandsOut 2 := ⟨kw8_106, kw8_108, kp_105, kw1_8, kw8_109, ⟨⟨by decide +kernel, by decide +kernel⟩, by decide +kernel⟩⟩
theorem v_X8_437 : vLk RX8 437 uX8_handsFrom 3 := ⟨kw8_110, kw8_112, kp_106, kw1_8, kw8_113, ⟨⟨by decide +kernel, by decide +kernel⟩, by decide +kernel⟩⟩
theorem v_X8_431 : vLk RX8 431 uX8_besides 1 := ⟨kw8_114, kw8_116, kp_107, kw1_8, kw8_117, ⟨⟨by decide +kernel, by decide +kernel⟩, by decide +kernel⟩⟩
theorem v_X8_428 : vLk RX8 428 uX8_areSide 2 := ⟨kw8_118, kw8_120, kp_108, kw1_8, kw8_121, ⟨⟨by decide +kernel, by decide +kernel⟩, by decide +kernel⟩⟩
theorem s_X8_425 : sLk RX8 425 uJ9_abs_0f7a4 1 := ⟨kw8_122, kw8_123, kw1_17, kw8_124, ⟨⟨by decide +kernel, by decide +kernel⟩, by decide +kernel⟩⟩
theorem v_L_233 : vLk RL 233 uX8_relay 1 := ⟨kw8_125, kw8_126, kw8_127, kw1_8, kw8_128, ⟨⟨by decide +kernel, by decide +kernel⟩, by decide +kernel⟩⟩
theorem v_L_236 : vLk RL 236 uX8_cut 2 := ⟨kw8_129, kw8_130, kw8_131, kw1_8, kw8_132, ⟨⟨by decide +kernel, by decide +kernel⟩, by decide +kernel⟩⟩
theorem v_L_240 : vLk RL 240 uX8_heaps 0 := ⟨kw8_133, kw8_134, kw8_135, kw1_8, kw8_136, ⟨⟨by decide +kernel, by decide +kernel⟩, by decide +kernel⟩⟩
theorem v_L_243 : vLk RL 243 uX8_dry 3 := ⟨kw8_137, kw8_138, kw8_139, kw1_8, kw8_140, ⟨⟨by decide +kernel, by decide +kernel⟩, by decide +kernel⟩⟩
theorem s_X8_446 : sLk RX8 446 uX8_isDryLong 1 := ⟨kw8_141, kw8_142, kw1_8, kw8_143, ⟨⟨by decide +kernel, by decide +kernel⟩, by decide +kernel⟩⟩
theorem v_X8_449 : vLk RX8 449 uX8_dryNow 2 := ⟨kw8_145, kw8_147, kp_109, kw1_8, kw8_148, ⟨⟨by decide +kernel, by decide +kernel⟩, by decide +kernel⟩⟩
theorem v_X8_442 : vLk RX8 442 uX8_dryFromHere 2 := ⟨kw8_149, kw8_151, kp_110, kw1_8, kw8_152, ⟨⟨by decide +kernel, by decide +kernel⟩, by decide +kernel⟩⟩
theorem s_X8_452 : sLk RX8 452 uX8_common 2 := ⟨kw8_153, kw8_154, kw1_8, kw8_155, ⟨⟨by decide +kernel, by decide +kernel⟩, by decide +kernel⟩⟩
theorem v_L_246 : vLk RL 246 uX8_driest 1 := ⟨kw8_156, kw8_157, kw8_158, kw1_8, kw8_159, ⟨⟨by decide +kernel, by decide +kernel⟩, by decide +kernel⟩⟩
theorem v_L_249 : vLk RL 249 uX8_where 2 := ⟨kw8_160, kw8_161, kw8_162, kw1_8, kw8_163, ⟨⟨by decide +kernel, by decide +kernel⟩, by decide +kernel⟩⟩
theorem v_L_252 : vLk RL 252 uX8_changed 2 := ⟨kw8_164, kw8_165, kw8_166, kw1_8, kw8_167, ⟨⟨by decide +kernel, by decide +kernel⟩, by decide +kernel⟩⟩
theorem v_X8_461 : vLk RX8 461 uX8_isChangedOut 2 := ⟨kw8_168, kw8_170, kp_111, kw1_8, kw8_171, ⟨⟨by decide +kernel, by decide +kernel⟩, by decide +kernel⟩⟩
theorem v_X8_464 : vLk RX8 464 uX8_laysTwos 2 := ⟨kw8_172, kw8_174, kp_112, kw1_8, kw8_175, ⟨⟨by decide +kernel, by decide +kernel⟩, by decide +kernel⟩⟩
theorem v_X8_458 : vLk RX8 458 uX8_addsTwo 1 := ⟨kw8_176, kw8_178, kp_113, kw1_8, kw8_179, ⟨⟨by decide +kernel, by decide +kernel⟩, by decide +kernel⟩⟩
theorem v_L_255 : vLk RL 255 uX8_changedAt 3 := ⟨kw8_180, kw8_181, kw8_182, kw1_8, kw8_183, ⟨⟨by decide +kernel, by decide +kernel⟩, by decide +kernel⟩⟩
theorem v_L_258 : vLk RL 258 uX8_sure 2 := ⟨kw8_184, kw8_185, kw8_186, kw1_8, kw8_187, ⟨⟨by decide +kernel, by decide +kernel⟩, by decide +kernel⟩⟩
theorem v_L_261 : vLk RL 261 uX8_look 2 := ⟨kw8_188, kw8_189, kw8_190, kw1_8, kw8_191, ⟨⟨by decide +kernel, by decide +kernel⟩, by decide +kernel⟩⟩
theorem v_X8_468 : vLk RX8 468 uX8_mostAlike 1 := ⟨kw8_193, kw8_195, kp_114, kw1_8, kw8_196, ⟨⟨by decide +kernel, by decide +kernel⟩, by decide +kernel⟩⟩
theorem v_L_265 : vLk RL 265 uX8_tray 3 := ⟨kw8_197, kw8_198, kw8_199, kw1_8, kw8_200, ⟨⟨by decide +kernel, by decide +kernel⟩, by decide +kernel⟩⟩
theorem v_L_271 : vLk RL 271 uX8_write 3 := ⟨kw8_201, kw8_202, kw8_203, kw1_8, kw8_204, ⟨⟨by decide +kernel, by decide +kernel⟩, by decide +kernel⟩⟩
theorem v_X8_471 : vLk RX8 471 uX8_cutTo 3 := ⟨kw8_205, kw8_207, kp_115, kw1_8, kw8_208, ⟨⟨by decide +kernel, by decide +kernel⟩, by decide +kernel⟩⟩
theorem v_L_274 : vLk RL 274 uX8_copy 2 := ⟨kw8_209, kw8_210, kw8_211, kw1_8, kw8_212, ⟨⟨by decide +kernel, by decide +kernel⟩, by decide +kernel⟩⟩
theorem v_L_278 : vLk RL 278 uX8_image 1 := ⟨kw8_213, kw8_214, kw8_215, kw1_8, kw8_216, ⟨⟨by decide +kernel, by decide +kernel⟩, by decide +kernel⟩⟩
theorem v_L_281 : vLk RL 281 uX8_restore 1 := ⟨kw8_218, kw8_219, kw8_220, kw1_8, kw8_221, ⟨⟨by decide +kernel, by decide +kernel⟩, by decide +kernel⟩⟩
theorem v_L_285 : vLk RL 285 uX8_count 1 := ⟨kw8_222, kw8_223, kw8_224, kw1_8, kw8_225, ⟨⟨by decide +kernel, by decide +kernel⟩, by decide +kernel⟩⟩
theorem v_X8_477 : vLk RX8 477 uX8_ups 0 := ⟨kw8_226, kw8_228, kp_116, kw1_8, kw8_229, ⟨⟨by decide +kernel, by decide +kernel⟩, by decide +kernel⟩⟩
theorem n_L_8 : nLk RL 8 RX7 16 := ⟨kw1_26, kw1_27, kw1_1⟩
theorem n_X7_23 : nLk RX7 23 RX6 3 := ⟨kw1_34, kw1_208, kw1_7⟩
theorem n_X7_29 : nLk RX7 29 RX2 2 := ⟨kw1_36, kw6_17, kw1_25⟩
theorem n_X7_35 : nLk RX7 35 RX5 7 := ⟨kw1_38, kw1_107, kw1_4⟩
theorem n_X7_59 : nLk RX7 59 RX0 11 := ⟨kw1_40, kw1_41, kw1_2⟩
theorem n_X7_69 : nLk RX7 69 RX1 3 := ⟨kw1_143, kw1_144, kw1_5⟩
theorem n_X1_9 : nLk RX1 9 RX5 7 := ⟨kw1_149, kw1_107, kw1_4⟩
theorem n_X7_76 : nLk RX7 76 RX4 12 := ⟨kw1_162, kw1_163, kw1_6⟩
theorem n_L_13 : nLk RL 13 "java/lang/IllegalArgumentException" 6 := ⟨kw2_186, kw2_196, kw1_12⟩
theorem n_X7_333 : nLk RX7 333 "java/lang/IllegalArgumentException" 6 := ⟨kw2_195, kw2_196, kw1_12⟩
theorem n_X4_58 : nLk RX4 58 RX0 11 := ⟨kw3_173, kw1_41, kw1_2⟩
theorem n_X4_169 : nLk RX4 169 RX3 2 := ⟨kw4_5, kw4_6, kw1_19⟩
theorem n_L_19 : nLk RL 19 "java/util/NoSuchElementException" 6 := ⟨kw4_37, kw4_48, kw1_21⟩
theorem n_X7_370 : nLk RX7 370 "java/util/NoSuchElementException" 6 := ⟨kw4_47, kw4_48, kw1_21⟩
theorem n_L_44 : nLk RL 44 "java/lang/IllegalStateException" 6 := ⟨kw4_141, kw4_160, kw1_23⟩
theorem n_X7_291 : nLk RX7 291 "java/lang/IllegalStateException" 6 := ⟨kw4_159, kw4_160, kw1_23⟩
theorem n_L_118 : nLk RL 118 "java/lang/IndexOutOfBoundsException" 6 := ⟨kw5_213, kw5_219, kw1_24⟩
theorem n_X7_344 : nLk RX7 344 "java/lang/IndexOutOfBoundsException" 6 := ⟨kw5_218, kw5_219, kw1_24⟩
theorem n_X2_7 : nLk RX2 7 RX5 7 := ⟨kw6_22, kw1_107, kw1_4⟩
theorem n_X2_18 : nLk RX2 18 RX1 3 := ⟨kw6_24, kw1_144, kw1_5⟩
theorem n_L_131 : nLk RL 131 RX8 32 := ⟨kw6_47, kw6_48, kw1_8⟩
theorem inX0 : ∀ w ∈ u_ws RX0 TX0 11, w ∈ tb := List.forall_mem_cons.mpr ⟨kw1_83, List.forall_mem_cons.mpr ⟨kw1_85, List.forall_mem_cons.mpr ⟨kw1_87, List.forall_mem_cons.mpr ⟨kw1_89, List.forall_mem_cons.mpr ⟨kw1_91, List.forall_mem_cons.mpr ⟨kw1_93, List.forall_mem_cons.mpr ⟨kw1_95, List.forall_mem_cons.mpr ⟨kw1_97, List.forall_mem_cons.mpr ⟨kw1_99, List.forall_mem_cons.mpr ⟨kw1_101, List.forall_mem_cons.mpr ⟨kw1_103, fun _ h => nomatch h⟩⟩⟩⟩⟩⟩⟩⟩⟩⟩⟩
theorem inX1 : ∀ w ∈ u_ws RX1 TX1 3, w ∈ tb := List.forall_mem_cons.mpr ⟨kw1_155, List.forall_mem_cons.mpr ⟨kw1_157, List.forall_mem_cons.mpr ⟨kw1_159, fun _ h => nomatch h⟩⟩⟩
theorem inX2 : ∀ w ∈ u_ws RX2 TX2 2, w ∈ tb := List.forall_mem_cons.mpr ⟨kw6_30, List.forall_mem_cons.mpr ⟨kw6_32, fun _ h => nomatch h⟩⟩
theorem inX3 : ∀ w ∈ u_ws RX3 TX3 2, w ∈ tb := List.forall_mem_cons.mpr ⟨kw4_25, List.forall_mem_cons.mpr ⟨kw4_27, fun _ h => nomatch h⟩⟩
theorem inX4 : ∀ w ∈ u_ws RX4 TX4 12, w ∈ tb := List.forall_mem_cons.mpr ⟨kw1_183, List.forall_mem_cons.mpr ⟨kw1_185, List.forall_mem_cons.mpr ⟨kw1_187, List.forall_mem_cons.mpr ⟨kw1_189, List.forall_mem_cons.mpr ⟨kw1_191, List.forall_mem_cons.mpr ⟨kw1_193, List.forall_mem_cons.mpr ⟨kw1_195, List.forall_mem_cons.mpr ⟨kw1_197, List.forall_mem_cons.mpr ⟨kw1_199, List.forall_mem_cons.mpr ⟨kw1_201, List.forall_mem_cons.mpr ⟨kw1_203, List.forall_mem_cons.mpr ⟨kw1_205, fun _ h => nomatch h⟩⟩⟩⟩⟩⟩⟩⟩⟩⟩⟩⟩
theorem inX5 : ∀ w ∈ u_ws RX5 TX5 7, w ∈ tb := List.forall_mem_cons.mpr ⟨kw1_128, List.forall_mem_cons.mpr ⟨kw1_130, List.forall_mem_cons.mpr ⟨kw1_132, List.forall_mem_cons.mpr ⟨kw1_134, List.forall_mem_cons.mpr ⟨kw1_136, List.forall_mem_cons.mpr ⟨kw1_138, List.forall_mem_cons.mpr ⟨kw1_140, fun _ h => nomatch h⟩⟩⟩⟩⟩⟩⟩
theorem inX6 : ∀ w ∈ u_ws RX6 TX6 3, w ∈ tb := List.forall_mem_cons.mpr ⟨kw1_218, List.forall_mem_cons.mpr ⟨kw1_220, List.forall_mem_cons.mpr ⟨kw1_222, fun _ h => nomatch h⟩⟩⟩
theorem inX7 : ∀ w ∈ u_ws RX7 TX7 16, w ∈ tb := List.forall_mem_cons.mpr ⟨kw2_2, List.forall_mem_cons.mpr ⟨kw2_4, List.forall_mem_cons.mpr ⟨kw2_6, List.forall_mem_cons.mpr ⟨kw2_8, List.forall_mem_cons.mpr ⟨kw2_10, List.forall_mem_cons.mpr ⟨kw2_12, List.forall_mem_cons.mpr ⟨kw2_14, List.forall_mem_cons.mpr ⟨kw2_16, List.forall_mem_cons.mpr ⟨kw2_18, List.forall_mem_cons.mpr ⟨kw2_20, List.forall_mem_cons.mpr ⟨kw2_22, List.forall_mem_cons.mpr ⟨kw2_24, List.forall_mem_cons.mpr ⟨kw2_26, List.forall_mem_cons.mpr ⟨kw2_28, List.forall_mem_cons.mpr ⟨kw2_30, List.forall_mem_cons.mpr ⟨kw2_32, fun _ h => nomatch h⟩⟩⟩⟩⟩⟩⟩⟩⟩⟩⟩⟩⟩⟩⟩⟩
theorem inX8 : ∀ w ∈ u_ws RX8 TX8 32, w ∈ tb := List.forall_mem_cons.mpr ⟨kw6_85, List.forall_mem_cons.mpr ⟨kw6_87, List.forall_mem_cons.mpr ⟨kw6_89, List.forall_mem_cons.mpr ⟨kw6_91, List.forall_mem_cons.mpr ⟨kw6_93, List.forall_mem_cons.mpr ⟨kw6_95, List.forall_mem_cons.mpr ⟨kw6_97, List.forall_mem_cons.mpr ⟨kw6_99, List.forall_mem_cons.mpr ⟨kw6_101, List.forall_mem_cons.mpr ⟨kw6_103, List.forall_mem_cons.mpr ⟨kw6_105, List.forall_mem_cons.mpr ⟨kw6_107, List.forall_mem_cons.mpr ⟨kw6_109, List.forall_mem_cons.mpr ⟨kw6_111, List.forall_mem_cons.mpr ⟨kw6_113, List.forall_mem_cons.mpr ⟨kw6_115, List.forall_mem_cons.mpr ⟨kw6_117, List.forall_mem_cons.mpr ⟨kw6_119, List.forall_mem_cons.mpr ⟨kw6_121, List.forall_mem_cons.mpr ⟨kw6_123, List.forall_mem_cons.mpr ⟨kw6_125, List.forall_mem_cons.mpr ⟨kw6_127, List.forall_mem_cons.mpr ⟨kw6_129, List.forall_mem_cons.mpr ⟨kw6_131, List.forall_mem_cons.mpr ⟨kw6_133, List.forall_mem_cons.mpr ⟨kw6_135, List.forall_mem_cons.mpr ⟨kw6_137, List.forall_mem_cons.mpr ⟨kw6_139, List.forall_mem_cons.mpr ⟨kw6_141, List.forall_mem_cons.mpr ⟨kw6_143, List.forall_mem_cons.mpr ⟨kw6_145, List.forall_mem_cons.mpr ⟨kw6_147, fun _ h => nomatch h⟩⟩⟩⟩⟩⟩⟩⟩⟩⟩⟩⟩⟩⟩⟩⟩⟩⟩⟩⟩⟩⟩⟩⟩⟩⟩⟩⟩⟩⟩⟩⟩
theorem cls_ok {ci : Nat} {C : String} {T : u_T} {N : Nat} (h : cls_[ci]? = some (C, T, N)) : (∀ w ∈ u_ws C T N, w ∈ tb) ∧ ∃ ty : Nat → FieldType, (∀ k, k < N → parseFieldDescriptor (T k).2.2.1 = some (ty k)) ∧ ∀ a, a < N → ∀ b, b < N → a ≠ b → (T a).2.1 ≠ (T b).2.1 := by
  match ci, h with
  | 0, h => cases h; exact ⟨inX0, tyX0, tyX0_ok, nmX0⟩
  | 1, h => cases h; exact ⟨inX1, tyX1, tyX1_ok, nmX1⟩
  | 2, h => cases h; exact ⟨inX2, tyX2, tyX2_ok, nmX2⟩
  | 3, h => cases h; exact ⟨inX3, tyX3, tyX3_ok, nmX3⟩
  | 4, h => cases h; exact ⟨inX4, tyX4, tyX4_ok, nmX4⟩
  | 5, h => cases h; exact ⟨inX5, tyX5, tyX5_ok, nmX5⟩
  | 6, h => cases h; exact ⟨inX6, tyX6, tyX6_ok, nmX6⟩
  | 7, h => cases h; exact ⟨inX7, tyX7, tyX7_ok, nmX7⟩
  | 8, h => cases h; exact ⟨inX8, tyX8, tyX8_ok, nmX8⟩
  | k + 9, h => simp [cls_] at h
def sTab : List (String × Nat × String) := [("FrontChairs", 364, "out of its bounds"), ("FrontChairs$Reader", 109, "beach"), ("FrontChairs$Reader", 114, "person"), ("FrontChairs$Reader", 116, "at"), ("FrontChairs$Reader", 117, "moves"), ("FrontChairs$Reader", 119, "tide"), ("FrontChairs$Reader", 121, "wets"), ("FrontChairs$Reader", 123, "minute"), ("FrontChairs$Reader", 125, "age"), ("FrontChairs$Reader", 127, "asleep"), ("FrontChairs$Reader", 129, "rises"), ("FrontChairs$Reader", 131, "for"), ("FrontChairs$Reader", 133, "not"), ("FrontChairs$Reader", 135, "and"), ("FrontChairs$Reader", 137, "or"), ("FrontChairs$Reader", 139, "who"), ("FrontChairs$Reader", 141, "column"), ("FrontChairs$Reader", 143, "row"), ("FrontChairs$Reader", 101, ";:+-*()[]=<>"), ("FrontChairs", 379, "no such chair"), ("FrontChairs", 372, "no such person"), ("FrontChairs", 387, "no such tray"), ("FrontChairs", 392, "the tray is missing"), ("FrontChairs", 381, "both are one"), ("FrontChairs", 383, "one is up"), ("FrontChairs", 293, "it is up"), ("FrontChairs", 322, "it sits"), ("FrontChairs", 385, "the set has others than people"), ("FrontChairs", 335, "k is below 0"), ("FrontChairs", 346, "no such place"), ("FrontChairs", 394, "no such image"), ("FrontChairs", 362, "no image was made"), ("FrontChairsModel", 234, "beach"), ("FrontChairsModel", 213, "person"), ("FrontChairsModel", 194, "at"), ("FrontChairsModel", 185, "age"), ("FrontChairsModel", 204, "asleep"), ("FrontChairsModel", 206, "rises"), ("FrontChairsModel", 211, "for"), ("FrontChairsModel", 177, "minute"), ("FrontChairsModel", 218, "moves"), ("FrontChairsModel", 157, "not"), ("FrontChairsModel", 179, "column"), ("FrontChairsModel", 181, "row"), ("FrontChairsModel", 183, "who"), ("FrontChairsModel", 155, "and"), ("FrontChairsModel", 147, "or"), ("FrontChairsModel", 224, "tide"), ("FrontChairsModel", 226, "wets")]
