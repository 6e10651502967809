/-! ===== words of a text ===== -/
def chV (tx : String) (j : Nat) : Int32 := ((sB tx j &&& 255).toUInt32 % 65536).toInt32
def wdL (tx : String) : List Int32 := (List.range tx.length).map (chV tx)
def txW (f : row) (h e : Nat) : List Int32 := (List.range (e - h)).map (fun i => f (h + i))
theorem tx_eq {f : row} {h e : Nat} {tx : String} : txW f h e = wdL tx ↔ e - h = tx.length ∧ ∀ i, i < tx.length → f (h + i) = chV tx i := by
  constructor
  · intro hq
    have hl := congrArg List.length hq
    simp only [txW, wdL, List.length_map, List.length_range] at hl
    refine ⟨hl, fun i hi => ?_⟩
    have h2 := congrArg (fun l => l[i]?) hq
    simp only [txW, wdL, List.getElem?_map, List.getElem?_range (hl ▸ hi : i < e - h), List.getElem?_range hi, Option.map_some] at h2
    exact Option.some.inj h2
  · rintro ⟨h1, h2⟩
    unfold txW wdL
    rw [h1]
    exact List.map_congr_left (fun i hi => h2 i (List.mem_range.mp hi))
theorem nar_c {x : UInt32} : narrow .char (.int (x % 65536).toInt32) = .int (x % 65536).toInt32 := by
  simp [narrow]
  congr 1
  apply UInt32.toNat_inj.mp
  simp [UInt32.toNat_mod]
/-- a word's kind -/
def wK (L : List Int32) : Int32 := if L = wdL "beach" then 4 else if L = wdL "person" then 5 else if L = wdL "at" then 6 else if L = wdL "moves" then 7 else if L = wdL "tide" then 8 else if L = wdL "wets" then 9 else if L = wdL "minute" then 10 else if L = wdL "age" then 11 else if L = wdL "asleep" then 12 else if L = wdL "rises" then 13 else if L = wdL "for" then 14 else if L = wdL "not" then 15 else if L = wdL "and" then 16 else if L = wdL "or" then 17 else if L = wdL "who" then 18 else if L = wdL "column" then 19 else if L = wdL "row" then 20 else 3
def ltr (x : Int32) : Bool := decide (97 ≤ x ∧ x ≤ 122)
def dgt (x : Int32) : Bool := decide (48 ≤ x ∧ x ≤ 57)
