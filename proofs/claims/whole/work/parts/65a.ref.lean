/-! ===== the reference's tokens ===== -/
def wsp (x : Int32) : Bool := decide (x = 32 ∨ x = 10)
def rv (f : row) (h : Nat) : Nat → Int32
  | 0 => 0
  | i + 1 => if i < 3 then 10 * rv f h i + f (h + i) - 48 else rv f h i
/-- the reference stands at the head of L -/
def tokF (f : row) (N : Nat) (F : row) (L : List tok) : Prop := match L with
  | [] => F 9 = nI N ∧ F 10 = 0
  | x :: L' => F 9 = nI x.2.2 ∧ ∃ h, h ≤ N ∧ x.2.2 < h ∧ F 8 = nI h ∧ tkn f N h = L' ∧ ((F 10 = 1 ∧ x.1 = wK (txW f x.2.2 h)) ∨ (F 10 = 2 ∧ x.1 = 2 ∧ F 11 = x.2.1) ∨ (F 10 = 3 ∧ x.1 = 1) ∨ (isSg x.1 = true ∧ F 10 = x.1))
theorem dg_nI {x : Int32} (h : dgt x = true) : ∃ d, d < 10 ∧ x = nI (48 + d) := by
  simp only [dgt, decide_eq_true_eq] at h
  have h1 := Int32.le_iff_toInt_le.mp h.1
  have h2 := Int32.le_iff_toInt_le.mp h.2
  rw [show (48 : Int32).toInt = 48 from rfl] at h1
  rw [show (57 : Int32).toInt = 57 from rfl] at h2
  exact ⟨x.toInt.toNat - 48, by omega, I_nat (by omega) (by omega)⟩
theorem dv_1 : ∀ a : Fin 10, (10 : Int32) * 0 + nI (48 + a.val) - 48 = nI (48 + a.val) - 48 := by decide +kernel
theorem dv_2 : ∀ a b : Fin 10, (10 : Int32) * (10 * 0 + nI (48 + a.val) - 48) + nI (48 + b.val) - 48 = ((nI (48 + a.val) - 48) * 10 + nI (48 + b.val) - 48) - ((nI (48 + a.val) - 48) * 10 + nI (48 + b.val) - 48) / 1000 * 1000 := by decide +kernel
theorem dv_3 : ∀ a b c : Fin 10, (10 : Int32) * (10 * (10 * 0 + nI (48 + a.val) - 48) + nI (48 + b.val) - 48) + nI (48 + c.val) - 48 = ((((nI (48 + a.val) - 48) * 10 + nI (48 + b.val) - 48) - ((nI (48 + a.val) - 48) * 10 + nI (48 + b.val) - 48) / 1000 * 1000) * 10 + nI (48 + c.val) - 48) - ((((nI (48 + a.val) - 48) * 10 + nI (48 + b.val) - 48) - ((nI (48 + a.val) - 48) * 10 + nI (48 + b.val) - 48) / 1000 * 1000) * 10 + nI (48 + c.val) - 48) / 1000 * 1000 := by decide +kernel
theorem rv_dv {f : row} {h m : Nat} (hm : 0 < m) (h3 : m ≤ 3) (hd : ∀ j, j < m → dgt (f (h + j)) = true) : rv f h m = dv f h (m - 1) := by
  obtain ⟨a, ha, ea⟩ := dg_nI (hd 0 hm)
  rw [Nat.add_zero] at ea
  rcases (show m = 1 ∨ m = 2 ∨ m = 3 by omega) with rfl | rfl | rfl
  · show rv f h 1 = dv f h 0
    simp only [rv, dv, Nat.add_zero, if_pos (show 0 < 3 by omega), ea]
    exact dv_1 ⟨a, ha⟩
  · obtain ⟨b, hb, eb⟩ := dg_nI (hd 1 (by omega))
    simp only [rv, dv, Nat.add_zero, if_pos (show 0 < 3 by omega), if_pos (show 1 < 3 by omega), if_pos (show 0 + 1 < 3 by omega), Nat.zero_add, ea, eb]
    exact dv_2 ⟨a, ha⟩ ⟨b, hb⟩
  · obtain ⟨b, hb, eb⟩ := dg_nI (hd 1 (by omega))
    obtain ⟨c, hc, ec⟩ := dg_nI (hd 2 (by omega))
    simp only [rv, dv, Nat.add_zero, if_pos (show 0 < 3 by omega), if_pos (show 1 < 3 by omega), if_pos (show 2 < 3 by omega), if_pos (show 0 + 1 < 3 by omega), if_pos (show 0 + 1 + 1 < 3 by omega), Nat.zero_add, ea, eb, ec, show h + 1 + 1 = h + 2 by omega]
    exact dv_3 ⟨a, ha⟩ ⟨b, hb⟩ ⟨c, hc⟩
theorem tkn_ws {f : row} {N : Nat} : ∀ {m h : Nat}, h + m ≤ N → (∀ j, h ≤ j → j < h + m → wsp (f j) = true) → tkn f N h = tkn f N (h + m)
  | 0, h, _, _ => rfl
  | m + 1, h, h1, h2 => by
    have hw : f h = 32 ∨ f h = 10 := by
      have := h2 h (Nat.le_refl _) (by omega)
      simpa [wsp] using this
    have hl : ¬ ltr (f h) = true := by rcases hw with e | e <;> rw [e] <;> decide
    have hd : ¬ dgt (f h) = true := by rcases hw with e | e <;> rw [e] <;> decide
    rw [tkn_w (by omega) hl hd hw, tkn_ws (m := m) (h := h + 1) (by omega) (fun j h3 h4 => h2 j (by omega) (by omega)), show h + 1 + m = h + (m + 1) by omega]
