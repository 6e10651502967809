/-! ===== the pure parser of laws ===== -/
/-- the word's number of a name that stands in the law w (4 moves, 5 tide, 6 wets) -/
def nmP (w : Nat) (k : Int32) : Option Int32 := if k = 10 then some 0 else if w = 5 then none else if k = 19 then some 1 else if k = 20 then some 2 else if w = 6 then none else if k = 18 then some 3 else if k = 11 then some 4 else none
def cmP (k : Int32) : Option Int32 := if k = 61 then some 13 else if k = 60 then some 14 else if k = 62 then some 15 else none
/-- tags: 0 truth, 1 its or's, 2 both, 3 its and's, 4 unit, 5 sum, 6 its plus and minus, 7 term, 8 its times, 9 atom; d: how many are open -/
def prs (N w : Nat) : Nat → Nat → Nat → ps → ps
  | 0, _, _, s => s
  | m + 1, 0, d, s => prs N w m 1 d (prs N w m 2 d s)
  | m + 1, 1, d, s => if s.bad = 0 ∧ kd s.l = 17 then prs N w m 1 d (emitP 17 (prs N w m 2 d (nextP s))) else s
  | m + 1, 2, d, s => prs N w m 3 d (prs N w m 4 d s)
  | m + 1, 3, d, s => if s.bad = 0 ∧ kd s.l = 16 then prs N w m 3 d (emitP 16 (prs N w m 4 d (nextP s))) else s
  | m + 1, 4, d, s => if s.bad ≠ 0 then s
      else if kd s.l = 15 then (if d = 6 then failP N 4 s else emitP 18 (prs N w m 4 (d + 1) (nextP s)))
      else if kd s.l = 91 then (if d = 6 then failP N 4 s else needP N 93 (prs N w m 0 (d + 1) (nextP s)))
      else (match cmP (kd (prs N w m 5 d s).l) with
        | none => failP N 2 (prs N w m 5 d s)
        | some c => if (prs N w m 5 d s).bad = 0 then emitP c (prs N w m 5 d (nextP (prs N w m 5 d s))) else prs N w m 5 d s)
  | m + 1, 5, d, s => prs N w m 6 d (prs N w m 7 d s)
  | m + 1, 6, d, s => if s.bad = 0 ∧ (kd s.l = 43 ∨ kd s.l = 45) then prs N w m 6 d (emitP (if kd s.l = 43 then 10 else 11) (prs N w m 7 d (nextP s))) else s
  | m + 1, 7, d, s => prs N w m 8 d (prs N w m 9 d s)
  | m + 1, 8, d, s => if s.bad = 0 ∧ kd s.l = 42 then prs N w m 8 d (emitP 12 (prs N w m 9 d (nextP s))) else s
  | m + 1, 9, d, s => if s.bad ≠ 0 then s
      else (match nmP w (kd s.l) with
        | some c => emitP (100 + c) (nextP s)
        | none => if kd s.l = 40 then (if d = 6 then failP N 4 s else needP N 41 (prs N w m 5 (d + 1) (nextP s)))
          else emitP (1000 + (numP N 0 999 s).1) (numP N 0 999 s).2)
  | _ + 1, _, _, s => s
def rk (t : Nat) : Nat := if t = 0 then 6 else if t = 2 then 5 else if t = 4 then 4 else if t = 5 then 3 else if t = 7 then 2 else 1
section Len
variable {N w : Nat} {c : Int32} {s : ps}
theorem len_fail : (failP N c s).l = s.l := by
  unfold failP
  split <;> rfl
theorem len_emit : (emitP c s).l = s.l := by
  unfold emitP
  split <;> rfl
theorem len_next : (nextP s).l.length ≤ s.l.length := by
  show s.l.tail.length ≤ s.l.length
  rw [List.length_tail]
  omega
theorem len_nextK (h : kd s.l ≠ 0) : (nextP s).l.length + 1 = s.l.length := by
  have : 0 < s.l.length := List.length_pos_iff.mpr (kd_ne rfl h)
  show s.l.tail.length + 1 = s.l.length
  rw [List.length_tail]
  omega
theorem len_need : (needP N c s).l.length ≤ s.l.length := by
  unfold needP
  split
  · exact len_next
  · rw [len_fail]; exact Nat.le_refl _
theorem len_num {lo hi : Int32} : (numP N lo hi s).2.l.length ≤ s.l.length := by
  unfold numP
  split
  · split
    · exact len_next
    · show (failP N 3 s).l.length ≤ _
      rw [len_fail]; exact Nat.le_refl _
  · show (failP N 2 s).l.length ≤ _
    rw [len_fail]; exact Nat.le_refl _
end Len
