section PrsLen
variable {N w : Nat}
theorem prs_len : ∀ (m t d : Nat) (s : ps), t < 10 → (prs N w m t d s).l.length ≤ s.l.length := by
  intro m
  induction m with
  | zero => intro t d s _; rw [prs]; exact Nat.le_refl _
  | succ m ih =>
    intro t d s ht
    rcases (show t = 0 ∨ t = 1 ∨ t = 2 ∨ t = 3 ∨ t = 4 ∨ t = 5 ∨ t = 6 ∨ t = 7 ∨ t = 8 ∨ t = 9 by omega) with rfl | rfl | rfl | rfl | rfl | rfl | rfl | rfl | rfl | rfl
    · rw [prs]
      exact Nat.le_trans (ih 1 d _ (by omega)) (ih 2 d s (by omega))
    · rw [prs]
      split
      · refine Nat.le_trans (ih 1 d _ (by omega)) ?_
        rw [len_emit]
        exact Nat.le_trans (ih 2 d _ (by omega)) len_next
      · exact Nat.le_refl _
    · rw [prs]
      exact Nat.le_trans (ih 3 d _ (by omega)) (ih 4 d s (by omega))
    · rw [prs]
      split
      · refine Nat.le_trans (ih 3 d _ (by omega)) ?_
        rw [len_emit]
        exact Nat.le_trans (ih 4 d _ (by omega)) len_next
      · exact Nat.le_refl _
    · rw [prs]
      split
      · exact Nat.le_refl _
      · split
        · split
          · rw [len_fail]; exact Nat.le_refl _
          · rw [len_emit]; exact Nat.le_trans (ih 4 _ _ (by omega)) len_next
        · split
          · split
            · rw [len_fail]; exact Nat.le_refl _
            · exact Nat.le_trans len_need (Nat.le_trans (ih 0 _ _ (by omega)) len_next)
          · split
            · rw [len_fail]; exact ih 5 d s (by omega)
            · split
              · rw [len_emit]; exact Nat.le_trans (ih 5 _ _ (by omega)) (Nat.le_trans len_next (ih 5 d s (by omega)))
              · exact ih 5 d s (by omega)
    · rw [prs]
      exact Nat.le_trans (ih 6 d _ (by omega)) (ih 7 d s (by omega))
    · rw [prs]
      split
      · refine Nat.le_trans (ih 6 d _ (by omega)) ?_
        rw [len_emit]
        exact Nat.le_trans (ih 7 d _ (by omega)) len_next
      · exact Nat.le_refl _
    · rw [prs]
      exact Nat.le_trans (ih 8 d _ (by omega)) (ih 9 d s (by omega))
    · rw [prs]
      split
      · refine Nat.le_trans (ih 8 d _ (by omega)) ?_
        rw [len_emit]
        exact Nat.le_trans (ih 9 d _ (by omega)) len_next
      · exact Nat.le_refl _
    · rw [prs]
      split
      · exact Nat.le_refl _
      · split
        · rw [len_emit]; exact len_next
        · split
          · split
            · rw [len_fail]; exact Nat.le_refl _
            · exact Nat.le_trans len_need (Nat.le_trans (ih 5 _ _ (by omega)) len_next)
          · rw [len_emit]; exact len_num
end PrsLen
