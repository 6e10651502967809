/-! ===== the world at the start, out of the words of the statement ===== -/
theorem inU1 {w : Cond} (h : w ∈ tables_1_1) : w ∈ lw_tbl := List.mem_append_right _ ((List.mem_append_left _ h) : w ∈ tables_1)
theorem inU2 {w : Cond} (h : w ∈ tables_1_2) : w ∈ lw_tbl := List.mem_append_right _ ((List.mem_append_right _ (List.mem_append_left _ h)) : w ∈ tables_1)
theorem inU3 {w : Cond} (h : w ∈ tables_1_3) : w ∈ lw_tbl := List.mem_append_right _ ((List.mem_append_right _ (List.mem_append_right _ (List.mem_append_left _ h))) : w ∈ tables_1)
theorem inU4 {w : Cond} (h : w ∈ tables_1_4) : w ∈ lw_tbl := List.mem_append_right _ ((List.mem_append_right _ (List.mem_append_right _ (List.mem_append_right _ (List.mem_append_left _ h)))) : w ∈ tables_1)
theorem inU5 {w : Cond} (h : w ∈ tables_1_5) : w ∈ lw_tbl := List.mem_append_right _ ((List.mem_append_right _ (List.mem_append_right _ (List.mem_append_right _ (List.mem_append_right _ (List.mem_append_left _ h))))) : w ∈ tables_1)
theorem inU6 {w : Cond} (h : w ∈ tables_1_6) : w ∈ lw_tbl := List.mem_append_right _ ((List.mem_append_right _ (List.mem_append_right _ (List.mem_append_right _ (List.mem_append_right _ (List.mem_append_right _ (List.mem_append_left _ h)))))) : w ∈ tables_1)
theorem inU7 {w : Cond} (h : w ∈ tables_1_7) : w ∈ lw_tbl := List.mem_append_right _ ((List.mem_append_right _ (List.mem_append_right _ (List.mem_append_right _ (List.mem_append_right _ (List.mem_append_right _ (List.mem_append_right _ (List.mem_append_left _ h))))))) : w ∈ tables_1)
theorem inU8 {w : Cond} (h : w ∈ tables_1_8) : w ∈ lw_tbl := List.mem_append_right _ ((List.mem_append_right _ (List.mem_append_right _ (List.mem_append_right _ (List.mem_append_right _ (List.mem_append_right _ (List.mem_append_right _ (List.mem_append_right _ (List.mem_append_left _ h)))))))) : w ∈ tables_1)
theorem inU9 {w : Cond} (h : w ∈ tables_1_9) : w ∈ lw_tbl := List.mem_append_right _ ((List.mem_append_right _ (List.mem_append_right _ (List.mem_append_right _ (List.mem_append_right _ (List.mem_append_right _ (List.mem_append_right _ (List.mem_append_right _ (List.mem_append_right _ h)))))))) : w ∈ tables_1)
def nar : List Cond := flatC (Jvm.Cond.and given_1 narrow_1)
theorem nar_in {i : Nat} {w : Cond} (h : nar[i]? = some w) : w ∈ nar := List.mem_of_getElem? h
abbrev sVl (own : String) (k : Nat) : Term := .field (.string own k) "java/lang/String" "value" "[B"
def sWs (own : String) (k : Nat) (tx : String) : List Cond := Cond.exactly (.string own k) "java/lang/String" :: Cond.eq (.field (.string own k) "java/lang/String" "coder" "B") (.int 0) :: Cond.arrayOf (sVl own k) .byte :: Cond.eq (.length (sVl own k)) (.int (Int32.ofNat tx.length)) :: (List.range tx.length).map (fun j => Cond.eq (.elem (sVl own k) (.int (Int32.ofNat j))) (.int (sB tx j)))
theorem cls_inst {ci : Nat} {C : String} {T : u_T} {N : Nat} (h : cls_[ci]? = some (C, T, N)) : ∃ n, Cond.instantiable C n ∈ tb := by
  match ci, h with
  | 0, h => cases h; exact ⟨_, kw1_41⟩
  | 1, h => cases h; exact ⟨_, kw1_144⟩
  | 2, h => cases h; exact ⟨_, kw6_17⟩
  | 3, h => cases h; exact ⟨_, kw4_6⟩
  | 4, h => cases h; exact ⟨_, kw1_163⟩
  | 5, h => cases h; exact ⟨_, kw1_107⟩
  | 6, h => cases h; exact ⟨_, kw1_208⟩
  | 7, h => cases h; exact ⟨_, kw1_27⟩
  | 8, h => cases h; exact ⟨_, kw6_48⟩
  | k + 9, h => simp [cls_] at h
theorem swT_0 : ∀ w ∈ sWs "FrontChairs" 364 "out of its bounds", w ∈ nar := fun w h => List.mem_of_mem_drop (i := 101) (List.mem_of_mem_take (i := 21) ((show sWs "FrontChairs" 364 "out of its bounds" = (nar.drop 101).take 21 by decide +kernel) ▸ h))
theorem srT_0 : Cond.stringRef "FrontChairs" 364 "out of its bounds" ∈ lw_tbl := (inU2 (List.mem_of_getElem? (i := 237) rfl))
theorem swT_1 : ∀ w ∈ sWs "FrontChairs$Reader" 109 "beach", w ∈ nar := fun w h => List.mem_of_mem_drop (i := 122) (List.mem_of_mem_take (i := 9) ((show sWs "FrontChairs$Reader" 109 "beach" = (nar.drop 122).take 9 by decide +kernel) ▸ h))
theorem srT_1 : Cond.stringRef "FrontChairs$Reader" 109 "beach" ∈ lw_tbl := (inU3 (List.mem_of_getElem? (i := 38) rfl))
theorem swT_2 : ∀ w ∈ sWs "FrontChairs$Reader" 114 "person", w ∈ nar := fun w h => List.mem_of_mem_drop (i := 131) (List.mem_of_mem_take (i := 10) ((show sWs "FrontChairs$Reader" 114 "person" = (nar.drop 131).take 10 by decide +kernel) ▸ h))
theorem srT_2 : Cond.stringRef "FrontChairs$Reader" 114 "person" ∈ lw_tbl := (inU3 (List.mem_of_getElem? (i := 90) rfl))
theorem swT_3 : ∀ w ∈ sWs "FrontChairs$Reader" 116 "at", w ∈ nar := fun w h => List.mem_of_mem_drop (i := 141) (List.mem_of_mem_take (i := 6) ((show sWs "FrontChairs$Reader" 116 "at" = (nar.drop 141).take 6 by decide +kernel) ▸ h))
theorem srT_3 : Cond.stringRef "FrontChairs$Reader" 116 "at" ∈ lw_tbl := (inU3 (List.mem_of_getElem? (i := 91) rfl))
theorem swT_4 : ∀ w ∈ sWs "FrontChairs$Reader" 117 "moves", w ∈ nar := fun w h => List.mem_of_mem_drop (i := 147) (List.mem_of_mem_take (i := 9) ((show sWs "FrontChairs$Reader" 117 "moves" = (nar.drop 147).take 9 by decide +kernel) ▸ h))
theorem srT_4 : Cond.stringRef "FrontChairs$Reader" 117 "moves" ∈ lw_tbl := (inU3 (List.mem_of_getElem? (i := 92) rfl))
theorem swT_5 : ∀ w ∈ sWs "FrontChairs$Reader" 119 "tide", w ∈ nar := fun w h => List.mem_of_mem_drop (i := 156) (List.mem_of_mem_take (i := 8) ((show sWs "FrontChairs$Reader" 119 "tide" = (nar.drop 156).take 8 by decide +kernel) ▸ h))
theorem srT_5 : Cond.stringRef "FrontChairs$Reader" 119 "tide" ∈ lw_tbl := (inU3 (List.mem_of_getElem? (i := 93) rfl))
theorem swT_6 : ∀ w ∈ sWs "FrontChairs$Reader" 121 "wets", w ∈ nar := fun w h => List.mem_of_mem_drop (i := 164) (List.mem_of_mem_take (i := 8) ((show sWs "FrontChairs$Reader" 121 "wets" = (nar.drop 164).take 8 by decide +kernel) ▸ h))
theorem srT_6 : Cond.stringRef "FrontChairs$Reader" 121 "wets" ∈ lw_tbl := (inU3 (List.mem_of_getElem? (i := 94) rfl))
theorem swT_7 : ∀ w ∈ sWs "FrontChairs$Reader" 123 "minute", w ∈ nar := fun w h => List.mem_of_mem_drop (i := 172) (List.mem_of_mem_take (i := 10) ((show sWs "FrontChairs$Reader" 123 "minute" = (nar.drop 172).take 10 by decide +kernel) ▸ h))
theorem srT_7 : Cond.stringRef "FrontChairs$Reader" 123 "minute" ∈ lw_tbl := (inU3 (List.mem_of_getElem? (i := 95) rfl))
theorem swT_8 : ∀ w ∈ sWs "FrontChairs$Reader" 125 "age", w ∈ nar := fun w h => List.mem_of_mem_drop (i := 182) (List.mem_of_mem_take (i := 7) ((show sWs "FrontChairs$Reader" 125 "age" = (nar.drop 182).take 7 by decide +kernel) ▸ h))
theorem srT_8 : Cond.stringRef "FrontChairs$Reader" 125 "age" ∈ lw_tbl := (inU3 (List.mem_of_getElem? (i := 96) rfl))
theorem swT_9 : ∀ w ∈ sWs "FrontChairs$Reader" 127 "asleep", w ∈ nar := fun w h => List.mem_of_mem_drop (i := 189) (List.mem_of_mem_take (i := 10) ((show sWs "FrontChairs$Reader" 127 "asleep" = (nar.drop 189).take 10 by decide +kernel) ▸ h))
theorem srT_9 : Cond.stringRef "FrontChairs$Reader" 127 "asleep" ∈ lw_tbl := (inU3 (List.mem_of_getElem? (i := 97) rfl))
theorem swT_10 : ∀ w ∈ sWs "FrontChairs$Reader" 129 "rises", w ∈ nar := fun w h => List.mem_of_mem_drop (i := 199) (List.mem_of_mem_take (i := 9) ((show sWs "FrontChairs$Reader" 129 "rises" = (nar.drop 199).take 9 by decide +kernel) ▸ h))
theorem srT_10 : Cond.stringRef "FrontChairs$Reader" 129 "rises" ∈ lw_tbl := (inU3 (List.mem_of_getElem? (i := 98) rfl))
theorem swT_11 : ∀ w ∈ sWs "FrontChairs$Reader" 131 "for", w ∈ nar := fun w h => List.mem_of_mem_drop (i := 208) (List.mem_of_mem_take (i := 7) ((show sWs "FrontChairs$Reader" 131 "for" = (nar.drop 208).take 7 by decide +kernel) ▸ h))
theorem srT_11 : Cond.stringRef "FrontChairs$Reader" 131 "for" ∈ lw_tbl := (inU3 (List.mem_of_getElem? (i := 99) rfl))
theorem swT_12 : ∀ w ∈ sWs "FrontChairs$Reader" 133 "not", w ∈ nar := fun w h => List.mem_of_mem_drop (i := 215) (List.mem_of_mem_take (i := 7) ((show sWs "FrontChairs$Reader" 133 "not" = (nar.drop 215).take 7 by decide +kernel) ▸ h))
theorem srT_12 : Cond.stringRef "FrontChairs$Reader" 133 "not" ∈ lw_tbl := (inU3 (List.mem_of_getElem? (i := 100) rfl))
theorem swT_13 : ∀ w ∈ sWs "FrontChairs$Reader" 135 "and", w ∈ nar := fun w h => List.mem_of_mem_drop (i := 222) (List.mem_of_mem_take (i := 7) ((show sWs "FrontChairs$Reader" 135 "and" = (nar.drop 222).take 7 by decide +kernel) ▸ h))
theorem srT_13 : Cond.stringRef "FrontChairs$Reader" 135 "and" ∈ lw_tbl := (inU3 (List.mem_of_getElem? (i := 101) rfl))
theorem swT_14 : ∀ w ∈ sWs "FrontChairs$Reader" 137 "or", w ∈ nar := fun w h => List.mem_of_mem_drop (i := 229) (List.mem_of_mem_take (i := 6) ((show sWs "FrontChairs$Reader" 137 "or" = (nar.drop 229).take 6 by decide +kernel) ▸ h))
theorem srT_14 : Cond.stringRef "FrontChairs$Reader" 137 "or" ∈ lw_tbl := (inU3 (List.mem_of_getElem? (i := 102) rfl))
theorem swT_15 : ∀ w ∈ sWs "FrontChairs$Reader" 139 "who", w ∈ nar := fun w h => List.mem_of_mem_drop (i := 235) (List.mem_of_mem_take (i := 7) ((show sWs "FrontChairs$Reader" 139 "who" = (nar.drop 235).take 7 by decide +kernel) ▸ h))
theorem srT_15 : Cond.stringRef "FrontChairs$Reader" 139 "who" ∈ lw_tbl := (inU3 (List.mem_of_getElem? (i := 103) rfl))
theorem swT_16 : ∀ w ∈ sWs "FrontChairs$Reader" 141 "column", w ∈ nar := fun w h => List.mem_of_mem_drop (i := 242) (List.mem_of_mem_take (i := 10) ((show sWs "FrontChairs$Reader" 141 "column" = (nar.drop 242).take 10 by decide +kernel) ▸ h))
theorem srT_16 : Cond.stringRef "FrontChairs$Reader" 141 "column" ∈ lw_tbl := (inU3 (List.mem_of_getElem? (i := 104) rfl))
theorem swT_17 : ∀ w ∈ sWs "FrontChairs$Reader" 143 "row", w ∈ nar := fun w h => List.mem_of_mem_drop (i := 252) (List.mem_of_mem_take (i := 7) ((show sWs "FrontChairs$Reader" 143 "row" = (nar.drop 252).take 7 by decide +kernel) ▸ h))
theorem srT_17 : Cond.stringRef "FrontChairs$Reader" 143 "row" ∈ lw_tbl := (inU3 (List.mem_of_getElem? (i := 105) rfl))
theorem swT_18 : ∀ w ∈ sWs "FrontChairs$Reader" 101 ";:+-*()[]=<>", w ∈ nar := fun w h => List.mem_of_mem_drop (i := 259) (List.mem_of_mem_take (i := 16) ((show sWs "FrontChairs$Reader" 101 ";:+-*()[]=<>" = (nar.drop 259).take 16 by decide +kernel) ▸ h))
theorem srT_18 : Cond.stringRef "FrontChairs$Reader" 101 ";:+-*()[]=<>" ∈ lw_tbl := (inU3 (List.mem_of_getElem? (i := 113) rfl))
theorem swT_19 : ∀ w ∈ sWs "FrontChairs" 379 "no such chair", w ∈ nar := fun w h => List.mem_of_mem_drop (i := 275) (List.mem_of_mem_take (i := 17) ((show sWs "FrontChairs" 379 "no such chair" = (nar.drop 275).take 17 by decide +kernel) ▸ h))
theorem srT_19 : Cond.stringRef "FrontChairs" 379 "no such chair" ∈ lw_tbl := (inU4 (List.mem_of_getElem? (i := 56) rfl))
theorem swT_20 : ∀ w ∈ sWs "FrontChairs" 372 "no such person", w ∈ nar := fun w h => List.mem_of_mem_drop (i := 292) (List.mem_of_mem_take (i := 18) ((show sWs "FrontChairs" 372 "no such person" = (nar.drop 292).take 18 by decide +kernel) ▸ h))
theorem srT_20 : Cond.stringRef "FrontChairs" 372 "no such person" ∈ lw_tbl := (inU4 (List.mem_of_getElem? (i := 76) rfl))
theorem swT_21 : ∀ w ∈ sWs "FrontChairs" 387 "no such tray", w ∈ nar := fun w h => List.mem_of_mem_drop (i := 310) (List.mem_of_mem_take (i := 16) ((show sWs "FrontChairs" 387 "no such tray" = (nar.drop 310).take 16 by decide +kernel) ▸ h))
theorem srT_21 : Cond.stringRef "FrontChairs" 387 "no such tray" ∈ lw_tbl := (inU4 (List.mem_of_getElem? (i := 150) rfl))
theorem swT_22 : ∀ w ∈ sWs "FrontChairs" 392 "the tray is missing", w ∈ nar := fun w h => List.mem_of_mem_drop (i := 326) (List.mem_of_mem_take (i := 23) ((show sWs "FrontChairs" 392 "the tray is missing" = (nar.drop 326).take 23 by decide +kernel) ▸ h))
theorem srT_22 : Cond.stringRef "FrontChairs" 392 "the tray is missing" ∈ lw_tbl := (inU4 (List.mem_of_getElem? (i := 168) rfl))
theorem swT_23 : ∀ w ∈ sWs "FrontChairs" 381 "both are one", w ∈ nar := fun w h => List.mem_of_mem_drop (i := 349) (List.mem_of_mem_take (i := 16) ((show sWs "FrontChairs" 381 "both are one" = (nar.drop 349).take 16 by decide +kernel) ▸ h))
theorem srT_23 : Cond.stringRef "FrontChairs" 381 "both are one" ∈ lw_tbl := (inU5 (List.mem_of_getElem? (i := 91) rfl))
theorem swT_24 : ∀ w ∈ sWs "FrontChairs" 383 "one is up", w ∈ nar := fun w h => List.mem_of_mem_drop (i := 365) (List.mem_of_mem_take (i := 13) ((show sWs "FrontChairs" 383 "one is up" = (nar.drop 365).take 13 by decide +kernel) ▸ h))
theorem srT_24 : Cond.stringRef "FrontChairs" 383 "one is up" ∈ lw_tbl := (inU5 (List.mem_of_getElem? (i := 92) rfl))
theorem swT_25 : ∀ w ∈ sWs "FrontChairs" 293 "it is up", w ∈ nar := fun w h => List.mem_of_mem_drop (i := 378) (List.mem_of_mem_take (i := 12) ((show sWs "FrontChairs" 293 "it is up" = (nar.drop 378).take 12 by decide +kernel) ▸ h))
theorem srT_25 : Cond.stringRef "FrontChairs" 293 "it is up" ∈ lw_tbl := (inU5 (List.mem_of_getElem? (i := 104) rfl))
theorem swT_26 : ∀ w ∈ sWs "FrontChairs" 322 "it sits", w ∈ nar := fun w h => List.mem_of_mem_drop (i := 390) (List.mem_of_mem_take (i := 11) ((show sWs "FrontChairs" 322 "it sits" = (nar.drop 390).take 11 by decide +kernel) ▸ h))
theorem srT_26 : Cond.stringRef "FrontChairs" 322 "it sits" ∈ lw_tbl := (inU5 (List.mem_of_getElem? (i := 144) rfl))
theorem swT_27 : ∀ w ∈ sWs "FrontChairs" 385 "the set has others than people", w ∈ nar := fun w h => List.mem_of_mem_drop (i := 401) (List.mem_of_mem_take (i := 34) ((show sWs "FrontChairs" 385 "the set has others than people" = (nar.drop 401).take 34 by decide +kernel) ▸ h))
theorem srT_27 : Cond.stringRef "FrontChairs" 385 "the set has others than people" ∈ lw_tbl := (inU5 (List.mem_of_getElem? (i := 156) rfl))
theorem swT_28 : ∀ w ∈ sWs "FrontChairs" 335 "k is below 0", w ∈ nar := fun w h => List.mem_of_mem_drop (i := 435) (List.mem_of_mem_take (i := 16) ((show sWs "FrontChairs" 335 "k is below 0" = (nar.drop 435).take 16 by decide +kernel) ▸ h))
theorem srT_28 : Cond.stringRef "FrontChairs" 335 "k is below 0" ∈ lw_tbl := (inU5 (List.mem_of_getElem? (i := 176) rfl))
theorem swT_29 : ∀ w ∈ sWs "FrontChairs" 346 "no such place", w ∈ nar := fun w h => List.mem_of_mem_drop (i := 451) (List.mem_of_mem_take (i := 17) ((show sWs "FrontChairs" 346 "no such place" = (nar.drop 451).take 17 by decide +kernel) ▸ h))
theorem srT_29 : Cond.stringRef "FrontChairs" 346 "no such place" ∈ lw_tbl := (inU5 (List.mem_of_getElem? (i := 227) rfl))
theorem swT_30 : ∀ w ∈ sWs "FrontChairs" 394 "no such image", w ∈ nar := fun w h => List.mem_of_mem_drop (i := 468) (List.mem_of_mem_take (i := 17) ((show sWs "FrontChairs" 394 "no such image" = (nar.drop 468).take 17 by decide +kernel) ▸ h))
theorem srT_30 : Cond.stringRef "FrontChairs" 394 "no such image" ∈ lw_tbl := (inU6 (List.mem_of_getElem? (i := 16) rfl))
theorem swT_31 : ∀ w ∈ sWs "FrontChairs" 362 "no image was made", w ∈ nar := fun w h => List.mem_of_mem_drop (i := 485) (List.mem_of_mem_take (i := 21) ((show sWs "FrontChairs" 362 "no image was made" = (nar.drop 485).take 21 by decide +kernel) ▸ h))
theorem srT_31 : Cond.stringRef "FrontChairs" 362 "no image was made" ∈ lw_tbl := (inU6 (List.mem_of_getElem? (i := 46) rfl))
theorem swT_32 : ∀ w ∈ sWs "FrontChairsModel" 234 "beach", w ∈ nar := fun w h => List.mem_of_mem_drop (i := 506) (List.mem_of_mem_take (i := 9) ((show sWs "FrontChairsModel" 234 "beach" = (nar.drop 506).take 9 by decide +kernel) ▸ h))
theorem srT_32 : Cond.stringRef "FrontChairsModel" 234 "beach" ∈ lw_tbl := (inU6 (List.mem_of_getElem? (i := 187) rfl))
theorem swT_33 : ∀ w ∈ sWs "FrontChairsModel" 213 "person", w ∈ nar := fun w h => List.mem_of_mem_drop (i := 516) (List.mem_of_mem_take (i := 10) ((show sWs "FrontChairsModel" 213 "person" = (nar.drop 516).take 10 by decide +kernel) ▸ h))
theorem srT_33 : Cond.stringRef "FrontChairsModel" 213 "person" ∈ lw_tbl := (inU6 (List.mem_of_getElem? (i := 222) rfl))
theorem swT_34 : ∀ w ∈ sWs "FrontChairsModel" 194 "at", w ∈ nar := fun w h => List.mem_of_mem_drop (i := 527) (List.mem_of_mem_take (i := 6) ((show sWs "FrontChairsModel" 194 "at" = (nar.drop 527).take 6 by decide +kernel) ▸ h))
theorem srT_34 : Cond.stringRef "FrontChairsModel" 194 "at" ∈ lw_tbl := (inU6 (List.mem_of_getElem? (i := 227) rfl))
theorem swT_35 : ∀ w ∈ sWs "FrontChairsModel" 185 "age", w ∈ nar := fun w h => List.mem_of_mem_drop (i := 534) (List.mem_of_mem_take (i := 7) ((show sWs "FrontChairsModel" 185 "age" = (nar.drop 534).take 7 by decide +kernel) ▸ h))
theorem srT_35 : Cond.stringRef "FrontChairsModel" 185 "age" ∈ lw_tbl := (inU6 (List.mem_of_getElem? (i := 232) rfl))
theorem swT_36 : ∀ w ∈ sWs "FrontChairsModel" 204 "asleep", w ∈ nar := fun w h => List.mem_of_mem_drop (i := 542) (List.mem_of_mem_take (i := 10) ((show sWs "FrontChairsModel" 204 "asleep" = (nar.drop 542).take 10 by decide +kernel) ▸ h))
theorem srT_36 : Cond.stringRef "FrontChairsModel" 204 "asleep" ∈ lw_tbl := (inU6 (List.mem_of_getElem? (i := 233) rfl))
theorem swT_37 : ∀ w ∈ sWs "FrontChairsModel" 206 "rises", w ∈ nar := fun w h => List.mem_of_mem_drop (i := 553) (List.mem_of_mem_take (i := 9) ((show sWs "FrontChairsModel" 206 "rises" = (nar.drop 553).take 9 by decide +kernel) ▸ h))
theorem srT_37 : Cond.stringRef "FrontChairsModel" 206 "rises" ∈ lw_tbl := (inU6 (List.mem_of_getElem? (i := 234) rfl))
theorem swT_38 : ∀ w ∈ sWs "FrontChairsModel" 211 "for", w ∈ nar := fun w h => List.mem_of_mem_drop (i := 563) (List.mem_of_mem_take (i := 7) ((show sWs "FrontChairsModel" 211 "for" = (nar.drop 563).take 7 by decide +kernel) ▸ h))
theorem srT_38 : Cond.stringRef "FrontChairsModel" 211 "for" ∈ lw_tbl := (inU6 (List.mem_of_getElem? (i := 239) rfl))
theorem swT_39 : ∀ w ∈ sWs "FrontChairsModel" 177 "minute", w ∈ nar := fun w h => List.mem_of_mem_drop (i := 571) (List.mem_of_mem_take (i := 10) ((show sWs "FrontChairsModel" 177 "minute" = (nar.drop 571).take 10 by decide +kernel) ▸ h))
theorem srT_39 : Cond.stringRef "FrontChairsModel" 177 "minute" ∈ lw_tbl := (inU7 (List.mem_of_getElem? (i := 0) rfl))
theorem swT_40 : ∀ w ∈ sWs "FrontChairsModel" 218 "moves", w ∈ nar := fun w h => List.mem_of_mem_drop (i := 582) (List.mem_of_mem_take (i := 9) ((show sWs "FrontChairsModel" 218 "moves" = (nar.drop 582).take 9 by decide +kernel) ▸ h))
theorem srT_40 : Cond.stringRef "FrontChairsModel" 218 "moves" ∈ lw_tbl := (inU7 (List.mem_of_getElem? (i := 1) rfl))
theorem swT_41 : ∀ w ∈ sWs "FrontChairsModel" 157 "not", w ∈ nar := fun w h => List.mem_of_mem_drop (i := 592) (List.mem_of_mem_take (i := 7) ((show sWs "FrontChairsModel" 157 "not" = (nar.drop 592).take 7 by decide +kernel) ▸ h))
theorem srT_41 : Cond.stringRef "FrontChairsModel" 157 "not" ∈ lw_tbl := (inU7 (List.mem_of_getElem? (i := 18) rfl))
theorem swT_42 : ∀ w ∈ sWs "FrontChairsModel" 179 "column", w ∈ nar := fun w h => List.mem_of_mem_drop (i := 600) (List.mem_of_mem_take (i := 10) ((show sWs "FrontChairsModel" 179 "column" = (nar.drop 600).take 10 by decide +kernel) ▸ h))
theorem srT_42 : Cond.stringRef "FrontChairsModel" 179 "column" ∈ lw_tbl := (inU7 (List.mem_of_getElem? (i := 47) rfl))
theorem swT_43 : ∀ w ∈ sWs "FrontChairsModel" 181 "row", w ∈ nar := fun w h => List.mem_of_mem_drop (i := 611) (List.mem_of_mem_take (i := 7) ((show sWs "FrontChairsModel" 181 "row" = (nar.drop 611).take 7 by decide +kernel) ▸ h))
theorem srT_43 : Cond.stringRef "FrontChairsModel" 181 "row" ∈ lw_tbl := (inU7 (List.mem_of_getElem? (i := 48) rfl))
theorem swT_44 : ∀ w ∈ sWs "FrontChairsModel" 183 "who", w ∈ nar := fun w h => List.mem_of_mem_drop (i := 619) (List.mem_of_mem_take (i := 7) ((show sWs "FrontChairsModel" 183 "who" = (nar.drop 619).take 7 by decide +kernel) ▸ h))
theorem srT_44 : Cond.stringRef "FrontChairsModel" 183 "who" ∈ lw_tbl := (inU7 (List.mem_of_getElem? (i := 49) rfl))
theorem swT_45 : ∀ w ∈ sWs "FrontChairsModel" 155 "and", w ∈ nar := fun w h => List.mem_of_mem_drop (i := 627) (List.mem_of_mem_take (i := 7) ((show sWs "FrontChairsModel" 155 "and" = (nar.drop 627).take 7 by decide +kernel) ▸ h))
theorem srT_45 : Cond.stringRef "FrontChairsModel" 155 "and" ∈ lw_tbl := (inU7 (List.mem_of_getElem? (i := 50) rfl))
theorem swT_46 : ∀ w ∈ sWs "FrontChairsModel" 147 "or", w ∈ nar := fun w h => List.mem_of_mem_drop (i := 635) (List.mem_of_mem_take (i := 6) ((show sWs "FrontChairsModel" 147 "or" = (nar.drop 635).take 6 by decide +kernel) ▸ h))
theorem srT_46 : Cond.stringRef "FrontChairsModel" 147 "or" ∈ lw_tbl := (inU7 (List.mem_of_getElem? (i := 51) rfl))
theorem swT_47 : ∀ w ∈ sWs "FrontChairsModel" 224 "tide", w ∈ nar := fun w h => List.mem_of_mem_drop (i := 642) (List.mem_of_mem_take (i := 8) ((show sWs "FrontChairsModel" 224 "tide" = (nar.drop 642).take 8 by decide +kernel) ▸ h))
theorem srT_47 : Cond.stringRef "FrontChairsModel" 224 "tide" ∈ lw_tbl := (inU7 (List.mem_of_getElem? (i := 52) rfl))
theorem swT_48 : ∀ w ∈ sWs "FrontChairsModel" 226 "wets", w ∈ nar := fun w h => List.mem_of_mem_drop (i := 651) (List.mem_of_mem_take (i := 8) ((show sWs "FrontChairsModel" 226 "wets" = (nar.drop 651).take 8 by decide +kernel) ▸ h))
theorem srT_48 : Cond.stringRef "FrontChairsModel" 226 "wets" ∈ lw_tbl := (inU7 (List.mem_of_getElem? (i := 53) rfl))
theorem sT_ok {i : Nat} {own : String} {k : Nat} {tx : String} (h : sTab[i]? = some (own, k, tx)) : Cond.stringRef own k tx ∈ lw_tbl ∧ (∀ w ∈ sWs own k tx, w ∈ nar) ∧ tx.length < 2 ^ 31 := by
  match i, h with
  | 0, h => cases h; exact ⟨srT_0, swT_0, by decide +kernel⟩
  | 1, h => cases h; exact ⟨srT_1, swT_1, by decide +kernel⟩
  | 2, h => cases h; exact ⟨srT_2, swT_2, by decide +kernel⟩
  | 3, h => cases h; exact ⟨srT_3, swT_3, by decide +kernel⟩
  | 4, h => cases h; exact ⟨srT_4, swT_4, by decide +kernel⟩
  | 5, h => cases h; exact ⟨srT_5, swT_5, by decide +kernel⟩
  | 6, h => cases h; exact ⟨srT_6, swT_6, by decide +kernel⟩
  | 7, h => cases h; exact ⟨srT_7, swT_7, by decide +kernel⟩
  | 8, h => cases h; exact ⟨srT_8, swT_8, by decide +kernel⟩
  | 9, h => cases h; exact ⟨srT_9, swT_9, by decide +kernel⟩
  | 10, h => cases h; exact ⟨srT_10, swT_10, by decide +kernel⟩
  | 11, h => cases h; exact ⟨srT_11, swT_11, by decide +kernel⟩
  | 12, h => cases h; exact ⟨srT_12, swT_12, by decide +kernel⟩
  | 13, h => cases h; exact ⟨srT_13, swT_13, by decide +kernel⟩
  | 14, h => cases h; exact ⟨srT_14, swT_14, by decide +kernel⟩
  | 15, h => cases h; exact ⟨srT_15, swT_15, by decide +kernel⟩
  | 16, h => cases h; exact ⟨srT_16, swT_16, by decide +kernel⟩
  | 17, h => cases h; exact ⟨srT_17, swT_17, by decide +kernel⟩
  | 18, h => cases h; exact ⟨srT_18, swT_18, by decide +kernel⟩
  | 19, h => cases h; exact ⟨srT_19, swT_19, by decide +kernel⟩
  | 20, h => cases h; exact ⟨srT_20, swT_20, by decide +kernel⟩
  | 21, h => cases h; exact ⟨srT_21, swT_21, by decide +kernel⟩
  | 22, h => cases h; exact ⟨srT_22, swT_22, by decide +kernel⟩
  | 23, h => cases h; exact ⟨srT_23, swT_23, by decide +kernel⟩
  | 24, h => cases h; exact ⟨srT_24, swT_24, by decide +kernel⟩
  | 25, h => cases h; exact ⟨srT_25, swT_25, by decide +kernel⟩
  | 26, h => cases h; exact ⟨srT_26, swT_26, by decide +kernel⟩
  | 27, h => cases h; exact ⟨srT_27, swT_27, by decide +kernel⟩
  | 28, h => cases h; exact ⟨srT_28, swT_28, by decide +kernel⟩
  | 29, h => cases h; exact ⟨srT_29, swT_29, by decide +kernel⟩
  | 30, h => cases h; exact ⟨srT_30, swT_30, by decide +kernel⟩
  | 31, h => cases h; exact ⟨srT_31, swT_31, by decide +kernel⟩
  | 32, h => cases h; exact ⟨srT_32, swT_32, by decide +kernel⟩
  | 33, h => cases h; exact ⟨srT_33, swT_33, by decide +kernel⟩
  | 34, h => cases h; exact ⟨srT_34, swT_34, by decide +kernel⟩
  | 35, h => cases h; exact ⟨srT_35, swT_35, by decide +kernel⟩
  | 36, h => cases h; exact ⟨srT_36, swT_36, by decide +kernel⟩
  | 37, h => cases h; exact ⟨srT_37, swT_37, by decide +kernel⟩
  | 38, h => cases h; exact ⟨srT_38, swT_38, by decide +kernel⟩
  | 39, h => cases h; exact ⟨srT_39, swT_39, by decide +kernel⟩
  | 40, h => cases h; exact ⟨srT_40, swT_40, by decide +kernel⟩
  | 41, h => cases h; exact ⟨srT_41, swT_41, by decide +kernel⟩
  | 42, h => cases h; exact ⟨srT_42, swT_42, by decide +kernel⟩
  | 43, h => cases h; exact ⟨srT_43, swT_43, by decide +kernel⟩
  | 44, h => cases h; exact ⟨srT_44, swT_44, by decide +kernel⟩
  | 45, h => cases h; exact ⟨srT_45, swT_45, by decide +kernel⟩
  | 46, h => cases h; exact ⟨srT_46, swT_46, by decide +kernel⟩
  | 47, h => cases h; exact ⟨srT_47, swT_47, by decide +kernel⟩
  | 48, h => cases h; exact ⟨srT_48, swT_48, by decide +kernel⟩
  | k + 49, h => simp [sTab] at h
theorem str_of {args : Array Value} {s : State} {own tx : String} {k : Nat} {A : Nat → Prop} (h1 : (Cond.stringRef own k tx).before args s = true) (hw : ∀ w ∈ sWs own k tx, w.before args s = true) (hN : tx.length < 2 ^ 31) (hA : ∀ a : Nat, a < s.heap.size → ¬ A a) : ∃ p : Nat × Nat, vk_R own k tx p.1 s ∧ va_O "java/lang/String" p.1 A s s.heap ∧ va_OF "java/lang/String" "coder" "B" (.int 0) p.1 A s s.heap ∧ va_OF "java/lang/String" "value" "[B" (.ref p.2) p.1 A s s.heap ∧ va_T .byte p.2 tx.length (fun j => .int (sB tx j)) A s s.heap := by
  have hex := hw _ List.mem_cons_self
  have hco := hw _ (List.mem_cons_of_mem _ List.mem_cons_self)
  have har := hw _ (List.mem_cons_of_mem _ (List.mem_cons_of_mem _ List.mem_cons_self))
  have hle := hw _ (List.mem_cons_of_mem _ (List.mem_cons_of_mem _ (List.mem_cons_of_mem _ List.mem_cons_self)))
  have hel : ∀ j : Nat, j < tx.length → (Cond.eq (.elem (sVl own k) (.int (Int32.ofNat j))) (.int (sB tx j))).before args s = true := fun j hj => hw _ (List.mem_cons_of_mem _ (List.mem_cons_of_mem _ (List.mem_cons_of_mem _ (List.mem_cons_of_mem _ (List.mem_map.mpr ⟨j, List.mem_range.mpr hj, rfl⟩)))))
  obtain ⟨a, c, cA, kA, q1, q2, q3, q4, q5, q6, -⟩ := Cond.exactly_spec (args := args) (first := s) (o := none) (s := s) (idx := []) (t := .string own k) (cls := "java/lang/String") hex
  obtain ⟨t, ht, hT⟩ := va_Tof (f := fun j => .int (sB tx j)) (A := A) hN har (va_eqt hle) (fun j hj => va_eqt (hel j hj)) hA
  exact ⟨(a, t), vk_R.of h1 q1, ⟨cA, q3, q5, by rw [q6]; exact q2, hA a (Array.getElem?_eq_some_iff.mp q3).1⟩, vk_OFof q1 (va_eqt hco) hA, vk_OFof q1 ht hA, hT⟩
theorem ar_of {args : Array Value} {s : State} {ty : FieldType} (h : (Cond.arrayClass ty).before args s = true) : ∃ cA : ClassId, ArrOfT s cA ty ∧ s.vm.findClass ("[" ++ ty.toString) = some cA := by
  obtain ⟨c, k, comp, h1, h2, h3⟩ := Cond.arrayClass_spec (args := args) (first := s) (o := none) (s := s) (idx := []) h
  exact ⟨c, fun N z => ⟨(fun k h => by cases h), k, h2, comp, h3⟩, h1⟩
theorem ar_ob {args : Array Value} {s : State} {C : String} (h : (Cond.arrayOver (.object C)).before args s = true) : ∃ cA : ClassId, ArrOfT s cA (.object C) ∧ va_RA s cA (.object C) := by
  obtain ⟨comp, c, k, h1, -, h2, h3, h4⟩ := Cond.arrayOver_spec (args := args) (first := s) (o := none) (s := s) (idx := []) h
  exact ⟨c, fun N z => ⟨(fun k h => by cases h), k, h2, comp, h3⟩, k, comp, h2, h3, h1, h4⟩
theorem ke_of {args : Array Value} {s : State} (hts : ∀ w ∈ lw_tbl, w.before args s = true) (hna : ∀ w ∈ nar, w.before args s = true) : Ke s := by
  refine ⟨?_, ?_, ?_, va_AO.of (hts _ (inU1 (List.mem_of_getElem? (i := 39) rfl))), va_AO.of (hts _ (inU1 (List.mem_of_getElem? (i := 35) rfl))), va_AO.of (hts _ (inU1 (List.mem_of_getElem? (i := 37) rfl))), va_Nw.of rfl (hts _ (inU1 (List.mem_of_getElem? (i := 209) rfl)))⟩
  · exact List.forall_mem_cons.mpr ⟨va_Nw.of rfl (hts _ (inU2 (List.mem_of_getElem? (i := 199) rfl))), List.forall_mem_cons.mpr ⟨va_Nw.of rfl (hts _ (inU2 (List.mem_of_getElem? (i := 201) rfl))), List.forall_mem_cons.mpr ⟨va_Nw.of rfl (hts _ (inU2 (List.mem_of_getElem? (i := 203) rfl))), fun _ h => absurd h List.not_mem_nil⟩⟩⟩
  · exact List.forall_mem_cons.mpr ⟨va_Nw.of rfl (hts _ (inU4 (List.mem_of_getElem? (i := 49) rfl))), List.forall_mem_cons.mpr ⟨va_Nw.of rfl (hts _ (inU2 (List.mem_of_getElem? (i := 197) rfl))), List.forall_mem_cons.mpr ⟨va_Nw.of rfl (hts _ (inU4 (List.mem_of_getElem? (i := 161) rfl))), List.forall_mem_cons.mpr ⟨va_Nw.of rfl (hts _ (inU5 (List.mem_of_getElem? (i := 220) rfl))), fun _ h => absurd h List.not_mem_nil⟩⟩⟩⟩
  · exact List.forall_mem_cons.mpr ⟨List.forall_mem_cons.mpr ⟨fun z => absurd rfl z, List.forall_mem_cons.mpr ⟨fun _ => va_Nc.of (hna _ (nar_in (i := 19) rfl)), List.forall_mem_cons.mpr ⟨fun _ => va_Nc.of (hna _ (nar_in (i := 44) rfl)), List.forall_mem_cons.mpr ⟨fun _ => va_Nc.of (hna _ (nar_in (i := 56) rfl)), fun _ h => absurd h List.not_mem_nil⟩⟩⟩⟩, List.forall_mem_cons.mpr ⟨List.forall_mem_cons.mpr ⟨fun _ => va_Nc.of (hna _ (nar_in (i := 30) rfl)), List.forall_mem_cons.mpr ⟨fun z => absurd rfl z, List.forall_mem_cons.mpr ⟨fun _ => va_Nc.of (hna _ (nar_in (i := 42) rfl)), List.forall_mem_cons.mpr ⟨fun _ => va_Nc.of (hna _ (nar_in (i := 54) rfl)), fun _ h => absurd h List.not_mem_nil⟩⟩⟩⟩, List.forall_mem_cons.mpr ⟨List.forall_mem_cons.mpr ⟨fun _ => va_Nc.of (hna _ (nar_in (i := 32) rfl)), List.forall_mem_cons.mpr ⟨fun _ => va_Nc.of (hna _ (nar_in (i := 20) rfl)), List.forall_mem_cons.mpr ⟨fun z => absurd rfl z, List.forall_mem_cons.mpr ⟨fun _ => va_Nc.of (hna _ (nar_in (i := 57) rfl)), fun _ h => absurd h List.not_mem_nil⟩⟩⟩⟩, List.forall_mem_cons.mpr ⟨List.forall_mem_cons.mpr ⟨fun _ => va_Nc.of (hna _ (nar_in (i := 33) rfl)), List.forall_mem_cons.mpr ⟨fun _ => va_Nc.of (hna _ (nar_in (i := 21) rfl)), List.forall_mem_cons.mpr ⟨fun _ => va_Nc.of (hna _ (nar_in (i := 45) rfl)), List.forall_mem_cons.mpr ⟨fun z => absurd rfl z, fun _ h => absurd h List.not_mem_nil⟩⟩⟩⟩, fun _ h => absurd h List.not_mem_nil⟩⟩⟩⟩
theorem ks_of {args : Array Value} {s : State} {A : Nat → Prop} (hts : ∀ w ∈ lw_tbl, w.before args s = true) (hna : ∀ w ∈ nar, w.before args s = true) (hA : ∀ a : Nat, a < s.heap.size → ¬ A a) : va_Z "java/lang/String" "COMPACT_STRINGS" "Z" (.int 1) A s s.heap ∧ vx_Zq Bundle.tN "UNASSIGNED_STACK" Bundle.steD A s s.heap ∧ vx_Zq Bundle.tN "SUPPRESSED_SENTINEL" Bundle.listD A s s.heap ∧ va_Zq "jdk/internal/util/Preconditions" "SIOOBE_FORMATTER" "Ljava/util/function/BiFunction;" A s s.heap :=
  ⟨va_Zof (hts _ (inU3 (List.mem_of_getElem? (i := 51) rfl))) (hts _ (inU1 (List.mem_of_getElem? (i := 13) rfl))) (va_eqt (hna _ (nar_in (i := 6) rfl))) hA, vx_Zqof (hts _ (inU2 (List.mem_of_getElem? (i := 222) rfl))) (hts _ (inU1 (List.mem_of_getElem? (i := 9) rfl))) (hna _ (nar_in (i := 4) rfl)) hA, vx_Zqof (hts _ (inU2 (List.mem_of_getElem? (i := 224) rfl))) (hts _ (inU1 (List.mem_of_getElem? (i := 9) rfl))) (hna _ (nar_in (i := 5) rfl)) hA, va_Zqof (hts _ (inU3 (List.mem_of_getElem? (i := 67) rfl))) (hts _ (inU1 (List.mem_of_getElem? (i := 15) rfl))) (hna _ (nar_in (i := 7) rfl)) hA⟩
theorem kn_of {args : Array Value} {s : State} {b L : Nat} {xs : Nat → Int32} (l : Launch) (hts : ∀ w ∈ lw_tbl, w.before args s = true) (hna : ∀ w ∈ nar, w.before args s = true) (hX : va_X b L xs s s.heap) : ∃ Γ : gam, gL Γ = l ∧ gH Γ = s.heap ∧ Kn Γ s ∧ ∃ cell : Cell, s.heap[b]? = some cell ∧ (∀ k, cell.vm ≠ .statics k) ∧ cell.cls = gA Γ 6 ∧ cell.vm ≠ .unknown ∧ cell.slots.size = L ∧ ∀ j : Nat, j < L → cell.slots[j]? = some (.int (xs j)) := by
  obtain ⟨cell, x1, ⟨x2, k6, x3, comp, x4⟩, x5, x6, x7⟩ := hX
  have hA : ∀ a : Nat, a < s.heap.size → ¬ (fun q => s.heap.size ≤ q) a := fun a h z => absurd h (Nat.not_lt.mpr z)
  have hC : ∀ ci : Nat, ∃ p : ClassId × (Nat → Nat), ∀ q, cls_[ci]? = some q → u_Kn s q.1 q.2.1 q.2.2 p.1 p.2 := by
    intro ci
    cases h : cls_[ci]? with
    | none => exact ⟨(0, fun _ => 0), fun q z => by cases z⟩
    | some r =>
      obtain ⟨C, T, N⟩ := r
      obtain ⟨n, hn⟩ := cls_inst h
      obtain ⟨cC, iS, hk⟩ := u_known (ws := tb) (fun w hw => hts w (tb_tbl hw)) (cls_ok h).1 (hts _ (tb_tbl hn))
      exact ⟨(cC, iS), fun q z => by cases z; exact hk⟩
  obtain ⟨fC, hC⟩ := Classical.axiomOfChoice hC
  have hS : ∀ i : Nat, ∃ p : Nat × Nat, ∀ q : String × Nat × String, sTab[i]? = some q → vk_R q.1 q.2.1 q.2.2 p.1 s ∧ va_O "java/lang/String" p.1 (fun q => s.heap.size ≤ q) s s.heap ∧ va_OF "java/lang/String" "coder" "B" (.int 0) p.1 (fun q => s.heap.size ≤ q) s s.heap ∧ va_OF "java/lang/String" "value" "[B" (.ref p.2) p.1 (fun q => s.heap.size ≤ q) s s.heap ∧ va_T .byte p.2 q.2.2.length (fun j => .int (sB q.2.2 j)) (fun q => s.heap.size ≤ q) s s.heap := by
    intro i
    cases h : sTab[i]? with
    | none => exact ⟨(0, 0), fun q z => by cases z⟩
    | some r =>
      obtain ⟨own, k, tx⟩ := r
      obtain ⟨h1, h2, h3⟩ := sT_ok h
      obtain ⟨p, hp⟩ := str_of (A := fun q => s.heap.size ≤ q) (hts _ h1) (fun w hw => hna w (h2 w hw)) h3 hA
      exact ⟨p, fun q z => by cases z; exact hp⟩
  obtain ⟨fS, hS⟩ := Classical.axiomOfChoice hS
  obtain ⟨c0, a0, b0⟩ := ar_of (hts _ (inU1 (List.mem_of_getElem? (i := 106) rfl)))
  obtain ⟨c1, a1, b1⟩ := ar_of (hts _ (inU1 (List.mem_of_getElem? (i := 225) rfl)))
  obtain ⟨c2, a2, b2⟩ := ar_of (hts _ (inU6 (List.mem_of_getElem? (i := 150) rfl)))
  obtain ⟨c3, a3, b3⟩ := ar_ob (hts _ (inU1 (List.mem_of_getElem? (i := 39) rfl)))
  obtain ⟨c4, a4, b4⟩ := ar_ob (hts _ (inU1 (List.mem_of_getElem? (i := 35) rfl)))
  obtain ⟨c5, a5, b5⟩ := ar_ob (hts _ (inU1 (List.mem_of_getElem? (i := 37) rfl)))
  obtain ⟨s0, s1, s2, s3⟩ := ks_of hts hna hA
  refine ⟨(l, (fun c => (fC c).1, fun c => (fC c).2), (fun k => match k with | 0 => c0 | 1 => c1 | 2 => c2 | 3 => c3 | 4 => c4 | 5 => c5 | _ => cell.cls), s.heap, (fun i => (fS i).1), (fun i => (fS i).2)), rfl, rfl, ⟨⟨fun c q hq => hC c q hq, ?_⟩, fun i q hq => ?_, ⟨s0, s1, s2, s3, k6, x3, comp, x4⟩, ke_of hts hna⟩, cell, x1, x2, rfl, x5, x6, x7⟩
  · intro k q hk
    match k, hk with
    | 0, hk => cases hk; exact ⟨a0, b0⟩
    | 1, hk => cases hk; exact ⟨a1, b1⟩
    | 2, hk => cases hk; exact ⟨a2, b2⟩
    | 3, hk => cases hk; exact ⟨a3, b3⟩
    | 4, hk => cases hk; exact ⟨a4, b4⟩
    | 5, hk => cases hk; exact ⟨a5, b5⟩
    | k + 6, hk => simp at hk
  · exact ⟨(hS i q hq).1, (hS i q hq).2⟩
