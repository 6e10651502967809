/-! ===== typed answers, typed calls ===== -/
section GoTyped
variable {Γ : gam} {R R' : Room} {M M' : mth} {Q : qp} {cells slots pc : Nat} {lv : List (Option Value)} {rest : List Value} {σ : sto} {n : Nat} {E : String → sto → Nat → Prop}
theorem go_V0I {b : Nat} {ix : Nat} {X : Int32 → sto → Nat → Prop} (hv : vLk M.1.cls ix M' 0) (hm : M'.2.2.2.2 = []) (hh : M.2.2.2.2 = []) (hrv : rcv Γ σ n b M'.1.cls) (hd : decode M.2.1 pc = .ok (.invokevirtual ix, 3)) (sp : Sp Γ R' M' (.ref b :: []) σ n (qI X)) (kk : ∀ v σ' n', X v σ' n' → Go Γ R M Q (cells + R'.cells) (slots + R'.slots) (pc + 3) lv (.int v :: rest) σ' n') (hR : R'.frames + 1 ≤ R.frames ∧ 8 + (M'.2.2.1 + 11) + R'.locals ≤ R.locals := by exact rm_ok (Nat.le_of_ble_eq_true rfl) (by omega)) (hC : cells + R'.cells ≤ R.cells ∧ slots + R'.slots ≤ R.slots := by exact ⟨Nat.le_of_ble_eq_true rfl, Nat.le_of_ble_eq_true rfl⟩) (hst : (rest.map fun v => v.category).sum ≤ 8 := by exact Nat.le_of_ble_eq_true rfl) : Go Γ R M Q cells slots pc lv (.ref b :: rest) σ n := by
  exact go_cv (As := []) hv hm rfl hh hrv hd sp hR hC hst (fun r σ' n' h => by
    obtain ⟨v, e1, h⟩ := h
    cases e1
    exact kk v σ' n' h) (fun x σ' n' h => by
    obtain ⟨v, e1, -⟩ := h
    cases e1)
theorem go_V0Ix {b : Nat} {ix : Nat} {X : Int32 → sto → Nat → Prop} (hv : vLk M.1.cls ix M' 0) (hm : M'.2.2.2.2 = []) (hh : M.2.2.2.2 = []) (hrv : rcv Γ σ n b M'.1.cls) (hd : decode M.2.1 pc = .ok (.invokevirtual ix, 3)) (sp : Sp Γ R' M' (.ref b :: []) σ n (qT (qI X) E)) (kx : ∀ x σ' n', E x σ' n' → Q (.inr x) σ' n') (kk : ∀ v σ' n', X v σ' n' → Go Γ R M Q (cells + R'.cells) (slots + R'.slots) (pc + 3) lv (.int v :: rest) σ' n') (hR : R'.frames + 1 ≤ R.frames ∧ 8 + (M'.2.2.1 + 11) + R'.locals ≤ R.locals := by exact rm_ok (Nat.le_of_ble_eq_true rfl) (by omega)) (hC : cells + R'.cells ≤ R.cells ∧ slots + R'.slots ≤ R.slots := by exact ⟨Nat.le_of_ble_eq_true rfl, Nat.le_of_ble_eq_true rfl⟩) (hst : (rest.map fun v => v.category).sum ≤ 8 := by exact Nat.le_of_ble_eq_true rfl) : Go Γ R M Q cells slots pc lv (.ref b :: rest) σ n := by
  exact go_cv (As := []) hv hm rfl hh hrv hd sp hR hC hst (fun r σ' n' h => by
    rcases h with h | ⟨x, e2, -⟩
    · obtain ⟨v, e1, h⟩ := h
      cases e1
      exact kk v σ' n' h
    · cases e2) (fun x σ' n' h => by
    rcases h with h | ⟨y, e2, h⟩
    · obtain ⟨v, e1, -⟩ := h
      cases e1
    · cases e2
      exact kx x σ' n' h)
theorem go_V0L {b : Nat} {ix : Nat} {X : Int64 → sto → Nat → Prop} (hv : vLk M.1.cls ix M' 0) (hm : M'.2.2.2.2 = []) (hh : M.2.2.2.2 = []) (hrv : rcv Γ σ n b M'.1.cls) (hd : decode M.2.1 pc = .ok (.invokevirtual ix, 3)) (sp : Sp Γ R' M' (.ref b :: []) σ n (qL X)) (kk : ∀ v σ' n', X v σ' n' → Go Γ R M Q (cells + R'.cells) (slots + R'.slots) (pc + 3) lv (.long v :: rest) σ' n') (hR : R'.frames + 1 ≤ R.frames ∧ 8 + (M'.2.2.1 + 11) + R'.locals ≤ R.locals := by exact rm_ok (Nat.le_of_ble_eq_true rfl) (by omega)) (hC : cells + R'.cells ≤ R.cells ∧ slots + R'.slots ≤ R.slots := by exact ⟨Nat.le_of_ble_eq_true rfl, Nat.le_of_ble_eq_true rfl⟩) (hst : (rest.map fun v => v.category).sum ≤ 8 := by exact Nat.le_of_ble_eq_true rfl) : Go Γ R M Q cells slots pc lv (.ref b :: rest) σ n := by
  exact go_cv (As := []) hv hm rfl hh hrv hd sp hR hC hst (fun r σ' n' h => by
    obtain ⟨v, e1, h⟩ := h
    cases e1
    exact kk v σ' n' h) (fun x σ' n' h => by
    obtain ⟨v, e1, -⟩ := h
    cases e1)
theorem go_V0Lx {b : Nat} {ix : Nat} {X : Int64 → sto → Nat → Prop} (hv : vLk M.1.cls ix M' 0) (hm : M'.2.2.2.2 = []) (hh : M.2.2.2.2 = []) (hrv : rcv Γ σ n b M'.1.cls) (hd : decode M.2.1 pc = .ok (.invokevirtual ix, 3)) (sp : Sp Γ R' M' (.ref b :: []) σ n (qT (qL X) E)) (kx : ∀ x σ' n', E x σ' n' → Q (.inr x) σ' n') (kk : ∀ v σ' n', X v σ' n' → Go Γ R M Q (cells + R'.cells) (slots + R'.slots) (pc + 3) lv (.long v :: rest) σ' n') (hR : R'.frames + 1 ≤ R.frames ∧ 8 + (M'.2.2.1 + 11) + R'.locals ≤ R.locals := by exact rm_ok (Nat.le_of_ble_eq_true rfl) (by omega)) (hC : cells + R'.cells ≤ R.cells ∧ slots + R'.slots ≤ R.slots := by exact ⟨Nat.le_of_ble_eq_true rfl, Nat.le_of_ble_eq_true rfl⟩) (hst : (rest.map fun v => v.category).sum ≤ 8 := by exact Nat.le_of_ble_eq_true rfl) : Go Γ R M Q cells slots pc lv (.ref b :: rest) σ n := by
  exact go_cv (As := []) hv hm rfl hh hrv hd sp hR hC hst (fun r σ' n' h => by
    rcases h with h | ⟨x, e2, -⟩
    · obtain ⟨v, e1, h⟩ := h
      cases e1
      exact kk v σ' n' h
    · cases e2) (fun x σ' n' h => by
    rcases h with h | ⟨y, e2, h⟩
    · obtain ⟨v, e1, -⟩ := h
      cases e1
    · cases e2
      exact kx x σ' n' h)
theorem go_V0A {b : Nat} {ix : Nat} {X : Nat → sto → Nat → Prop} (hv : vLk M.1.cls ix M' 0) (hm : M'.2.2.2.2 = []) (hh : M.2.2.2.2 = []) (hrv : rcv Γ σ n b M'.1.cls) (hd : decode M.2.1 pc = .ok (.invokevirtual ix, 3)) (sp : Sp Γ R' M' (.ref b :: []) σ n (qA X)) (kk : ∀ v σ' n', X v σ' n' → Go Γ R M Q (cells + R'.cells) (slots + R'.slots) (pc + 3) lv (.ref v :: rest) σ' n') (hR : R'.frames + 1 ≤ R.frames ∧ 8 + (M'.2.2.1 + 11) + R'.locals ≤ R.locals := by exact rm_ok (Nat.le_of_ble_eq_true rfl) (by omega)) (hC : cells + R'.cells ≤ R.cells ∧ slots + R'.slots ≤ R.slots := by exact ⟨Nat.le_of_ble_eq_true rfl, Nat.le_of_ble_eq_true rfl⟩) (hst : (rest.map fun v => v.category).sum ≤ 8 := by exact Nat.le_of_ble_eq_true rfl) : Go Γ R M Q cells slots pc lv (.ref b :: rest) σ n := by
  exact go_cv (As := []) hv hm rfl hh hrv hd sp hR hC hst (fun r σ' n' h => by
    obtain ⟨v, e1, h⟩ := h
    cases e1
    exact kk v σ' n' h) (fun x σ' n' h => by
    obtain ⟨v, e1, -⟩ := h
    cases e1)
theorem go_V0Ax {b : Nat} {ix : Nat} {X : Nat → sto → Nat → Prop} (hv : vLk M.1.cls ix M' 0) (hm : M'.2.2.2.2 = []) (hh : M.2.2.2.2 = []) (hrv : rcv Γ σ n b M'.1.cls) (hd : decode M.2.1 pc = .ok (.invokevirtual ix, 3)) (sp : Sp Γ R' M' (.ref b :: []) σ n (qT (qA X) E)) (kx : ∀ x σ' n', E x σ' n' → Q (.inr x) σ' n') (kk : ∀ v σ' n', X v σ' n' → Go Γ R M Q (cells + R'.cells) (slots + R'.slots) (pc + 3) lv (.ref v :: rest) σ' n') (hR : R'.frames + 1 ≤ R.frames ∧ 8 + (M'.2.2.1 + 11) + R'.locals ≤ R.locals := by exact rm_ok (Nat.le_of_ble_eq_true rfl) (by omega)) (hC : cells + R'.cells ≤ R.cells ∧ slots + R'.slots ≤ R.slots := by exact ⟨Nat.le_of_ble_eq_true rfl, Nat.le_of_ble_eq_true rfl⟩) (hst : (rest.map fun v => v.category).sum ≤ 8 := by exact Nat.le_of_ble_eq_true rfl) : Go Γ R M Q cells slots pc lv (.ref b :: rest) σ n := by
  exact go_cv (As := []) hv hm rfl hh hrv hd sp hR hC hst (fun r σ' n' h => by
    rcases h with h | ⟨x, e2, -⟩
    · obtain ⟨v, e1, h⟩ := h
      cases e1
      exact kk v σ' n' h
    · cases e2) (fun x σ' n' h => by
    rcases h with h | ⟨y, e2, h⟩
    · obtain ⟨v, e1, -⟩ := h
      cases e1
    · cases e2
      exact kx x σ' n' h)
theorem go_V0V {b : Nat} {ix : Nat} {X : sto → Nat → Prop} (hv : vLk M.1.cls ix M' 0) (hm : M'.2.2.2.2 = []) (hh : M.2.2.2.2 = []) (hrv : rcv Γ σ n b M'.1.cls) (hd : decode M.2.1 pc = .ok (.invokevirtual ix, 3)) (sp : Sp Γ R' M' (.ref b :: []) σ n (qV X)) (kk : ∀ σ' n', X σ' n' → Go Γ R M Q (cells + R'.cells) (slots + R'.slots) (pc + 3) lv (rest) σ' n') (hR : R'.frames + 1 ≤ R.frames ∧ 8 + (M'.2.2.1 + 11) + R'.locals ≤ R.locals := by exact rm_ok (Nat.le_of_ble_eq_true rfl) (by omega)) (hC : cells + R'.cells ≤ R.cells ∧ slots + R'.slots ≤ R.slots := by exact ⟨Nat.le_of_ble_eq_true rfl, Nat.le_of_ble_eq_true rfl⟩) (hst : (rest.map fun v => v.category).sum ≤ 8 := by exact Nat.le_of_ble_eq_true rfl) : Go Γ R M Q cells slots pc lv (.ref b :: rest) σ n := by
  exact go_cv (As := []) hv hm rfl hh hrv hd sp hR hC hst (fun r σ' n' h => by
    obtain ⟨e1, h⟩ := h
    cases e1
    exact kk σ' n' h) (fun x σ' n' h => by
    obtain ⟨e1, -⟩ := h
    cases e1)
theorem go_V0Vx {b : Nat} {ix : Nat} {X : sto → Nat → Prop} (hv : vLk M.1.cls ix M' 0) (hm : M'.2.2.2.2 = []) (hh : M.2.2.2.2 = []) (hrv : rcv Γ σ n b M'.1.cls) (hd : decode M.2.1 pc = .ok (.invokevirtual ix, 3)) (sp : Sp Γ R' M' (.ref b :: []) σ n (qT (qV X) E)) (kx : ∀ x σ' n', E x σ' n' → Q (.inr x) σ' n') (kk : ∀ σ' n', X σ' n' → Go Γ R M Q (cells + R'.cells) (slots + R'.slots) (pc + 3) lv (rest) σ' n') (hR : R'.frames + 1 ≤ R.frames ∧ 8 + (M'.2.2.1 + 11) + R'.locals ≤ R.locals := by exact rm_ok (Nat.le_of_ble_eq_true rfl) (by omega)) (hC : cells + R'.cells ≤ R.cells ∧ slots + R'.slots ≤ R.slots := by exact ⟨Nat.le_of_ble_eq_true rfl, Nat.le_of_ble_eq_true rfl⟩) (hst : (rest.map fun v => v.category).sum ≤ 8 := by exact Nat.le_of_ble_eq_true rfl) : Go Γ R M Q cells slots pc lv (.ref b :: rest) σ n := by
  exact go_cv (As := []) hv hm rfl hh hrv hd sp hR hC hst (fun r σ' n' h => by
    rcases h with h | ⟨x, e2, -⟩
    · obtain ⟨e1, h⟩ := h
      cases e1
      exact kk σ' n' h
    · cases e2) (fun x σ' n' h => by
    rcases h with h | ⟨y, e2, h⟩
    · obtain ⟨e1, -⟩ := h
      cases e1
    · cases e2
      exact kx x σ' n' h)
theorem go_V0P {b : Nat} {ix : Nat} {r : Int32} (hv : vLk M.1.cls ix M' 0) (hm : M'.2.2.2.2 = []) (hh : M.2.2.2.2 = []) (hrv : rcv Γ σ n b M'.1.cls) (hd : decode M.2.1 pc = .ok (.invokevirtual ix, 3)) (sp : Sp Γ R' M' (.ref b :: []) σ n (qP r σ n)) (kk : Go Γ R M Q (cells + R'.cells) (slots + R'.slots) (pc + 3) lv (.int r :: rest) σ n) (hR : R'.frames + 1 ≤ R.frames ∧ 8 + (M'.2.2.1 + 11) + R'.locals ≤ R.locals := by exact rm_ok (Nat.le_of_ble_eq_true rfl) (by omega)) (hC : cells + R'.cells ≤ R.cells ∧ slots + R'.slots ≤ R.slots := by exact ⟨Nat.le_of_ble_eq_true rfl, Nat.le_of_ble_eq_true rfl⟩) (hst : (rest.map fun v => v.category).sum ≤ 8 := by exact Nat.le_of_ble_eq_true rfl) : Go Γ R M Q cells slots pc lv (.ref b :: rest) σ n := go_V0I hv hm hh hrv hd sp (fun v σ' n' h => by obtain ⟨rfl, rfl, rfl⟩ := h; exact kk) hR hC hst
theorem go_V0PL {b : Nat} {ix : Nat} {r : Int64} (hv : vLk M.1.cls ix M' 0) (hm : M'.2.2.2.2 = []) (hh : M.2.2.2.2 = []) (hrv : rcv Γ σ n b M'.1.cls) (hd : decode M.2.1 pc = .ok (.invokevirtual ix, 3)) (sp : Sp Γ R' M' (.ref b :: []) σ n (qPL r σ n)) (kk : Go Γ R M Q (cells + R'.cells) (slots + R'.slots) (pc + 3) lv (.long r :: rest) σ n) (hR : R'.frames + 1 ≤ R.frames ∧ 8 + (M'.2.2.1 + 11) + R'.locals ≤ R.locals := by exact rm_ok (Nat.le_of_ble_eq_true rfl) (by omega)) (hC : cells + R'.cells ≤ R.cells ∧ slots + R'.slots ≤ R.slots := by exact ⟨Nat.le_of_ble_eq_true rfl, Nat.le_of_ble_eq_true rfl⟩) (hst : (rest.map fun v => v.category).sum ≤ 8 := by exact Nat.le_of_ble_eq_true rfl) : Go Γ R M Q cells slots pc lv (.ref b :: rest) σ n := go_V0L hv hm hh hrv hd sp (fun v σ' n' h => by obtain ⟨rfl, rfl, rfl⟩ := h; exact kk) hR hC hst
theorem go_S0I {ix : Nat} {X : Int32 → sto → Nat → Prop} (hv : sLk M.1.cls ix M' 0) (hm : M'.2.2.2.2 = []) (hh : M.2.2.2.2 = []) (hd : decode M.2.1 pc = .ok (.invokestatic ix, 3)) (sp : Sp Γ R' M' [] σ n (qI X)) (kk : ∀ v σ' n', X v σ' n' → Go Γ R M Q (cells + R'.cells) (slots + R'.slots) (pc + 3) lv (.int v :: rest) σ' n') (hR : R'.frames + 1 ≤ R.frames ∧ 8 + (M'.2.2.1 + 11) + R'.locals ≤ R.locals := by exact rm_ok (Nat.le_of_ble_eq_true rfl) (by omega)) (hC : cells + R'.cells ≤ R.cells ∧ slots + R'.slots ≤ R.slots := by exact ⟨Nat.le_of_ble_eq_true rfl, Nat.le_of_ble_eq_true rfl⟩) (hst : (rest.map fun v => v.category).sum ≤ 8 := by exact Nat.le_of_ble_eq_true rfl) : Go Γ R M Q cells slots pc lv (rest) σ n := by
  exact go_cs (As := []) hv hm rfl hh hd sp hR hC hst (fun r σ' n' h => by
    obtain ⟨v, e1, h⟩ := h
    cases e1
    exact kk v σ' n' h) (fun x σ' n' h => by
    obtain ⟨v, e1, -⟩ := h
    cases e1)
theorem go_S0Ix {ix : Nat} {X : Int32 → sto → Nat → Prop} (hv : sLk M.1.cls ix M' 0) (hm : M'.2.2.2.2 = []) (hh : M.2.2.2.2 = []) (hd : decode M.2.1 pc = .ok (.invokestatic ix, 3)) (sp : Sp Γ R' M' [] σ n (qT (qI X) E)) (kx : ∀ x σ' n', E x σ' n' → Q (.inr x) σ' n') (kk : ∀ v σ' n', X v σ' n' → Go Γ R M Q (cells + R'.cells) (slots + R'.slots) (pc + 3) lv (.int v :: rest) σ' n') (hR : R'.frames + 1 ≤ R.frames ∧ 8 + (M'.2.2.1 + 11) + R'.locals ≤ R.locals := by exact rm_ok (Nat.le_of_ble_eq_true rfl) (by omega)) (hC : cells + R'.cells ≤ R.cells ∧ slots + R'.slots ≤ R.slots := by exact ⟨Nat.le_of_ble_eq_true rfl, Nat.le_of_ble_eq_true rfl⟩) (hst : (rest.map fun v => v.category).sum ≤ 8 := by exact Nat.le_of_ble_eq_true rfl) : Go Γ R M Q cells slots pc lv (rest) σ n := by
  exact go_cs (As := []) hv hm rfl hh hd sp hR hC hst (fun r σ' n' h => by
    rcases h with h | ⟨x, e2, -⟩
    · obtain ⟨v, e1, h⟩ := h
      cases e1
      exact kk v σ' n' h
    · cases e2) (fun x σ' n' h => by
    rcases h with h | ⟨y, e2, h⟩
    · obtain ⟨v, e1, -⟩ := h
      cases e1
    · cases e2
      exact kx x σ' n' h)
theorem go_S0L {ix : Nat} {X : Int64 → sto → Nat → Prop} (hv : sLk M.1.cls ix M' 0) (hm : M'.2.2.2.2 = []) (hh : M.2.2.2.2 = []) (hd : decode M.2.1 pc = .ok (.invokestatic ix, 3)) (sp : Sp Γ R' M' [] σ n (qL X)) (kk : ∀ v σ' n', X v σ' n' → Go Γ R M Q (cells + R'.cells) (slots + R'.slots) (pc + 3) lv (.long v :: rest) σ' n') (hR : R'.frames + 1 ≤ R.frames ∧ 8 + (M'.2.2.1 + 11) + R'.locals ≤ R.locals := by exact rm_ok (Nat.le_of_ble_eq_true rfl) (by omega)) (hC : cells + R'.cells ≤ R.cells ∧ slots + R'.slots ≤ R.slots := by exact ⟨Nat.le_of_ble_eq_true rfl, Nat.le_of_ble_eq_true rfl⟩) (hst : (rest.map fun v => v.category).sum ≤ 8 := by exact Nat.le_of_ble_eq_true rfl) : Go Γ R M Q cells slots pc lv (rest) σ n := by
  exact go_cs (As := []) hv hm rfl hh hd sp hR hC hst (fun r σ' n' h => by
    obtain ⟨v, e1, h⟩ := h
    cases e1
    exact kk v σ' n' h) (fun x σ' n' h => by
    obtain ⟨v, e1, -⟩ := h
    cases e1)
theorem go_S0Lx {ix : Nat} {X : Int64 → sto → Nat → Prop} (hv : sLk M.1.cls ix M' 0) (hm : M'.2.2.2.2 = []) (hh : M.2.2.2.2 = []) (hd : decode M.2.1 pc = .ok (.invokestatic ix, 3)) (sp : Sp Γ R' M' [] σ n (qT (qL X) E)) (kx : ∀ x σ' n', E x σ' n' → Q (.inr x) σ' n') (kk : ∀ v σ' n', X v σ' n' → Go Γ R M Q (cells + R'.cells) (slots + R'.slots) (pc + 3) lv (.long v :: rest) σ' n') (hR : R'.frames + 1 ≤ R.frames ∧ 8 + (M'.2.2.1 + 11) + R'.locals ≤ R.locals := by exact rm_ok (Nat.le_of_ble_eq_true rfl) (by omega)) (hC : cells + R'.cells ≤ R.cells ∧ slots + R'.slots ≤ R.slots := by exact ⟨Nat.le_of_ble_eq_true rfl, Nat.le_of_ble_eq_true rfl⟩) (hst : (rest.map fun v => v.category).sum ≤ 8 := by exact Nat.le_of_ble_eq_true rfl) : Go Γ R M Q cells slots pc lv (rest) σ n := by
  exact go_cs (As := []) hv hm rfl hh hd sp hR hC hst (fun r σ' n' h => by
    rcases h with h | ⟨x, e2, -⟩
    · obtain ⟨v, e1, h⟩ := h
      cases e1
      exact kk v σ' n' h
    · cases e2) (fun x σ' n' h => by
    rcases h with h | ⟨y, e2, h⟩
    · obtain ⟨v, e1, -⟩ := h
      cases e1
    · cases e2
      exact kx x σ' n' h)
theorem go_S0A {ix : Nat} {X : Nat → sto → Nat → Prop} (hv : sLk M.1.cls ix M' 0) (hm : M'.2.2.2.2 = []) (hh : M.2.2.2.2 = []) (hd : decode M.2.1 pc = .ok (.invokestatic ix, 3)) (sp : Sp Γ R' M' [] σ n (qA X)) (kk : ∀ v σ' n', X v σ' n' → Go Γ R M Q (cells + R'.cells) (slots + R'.slots) (pc + 3) lv (.ref v :: rest) σ' n') (hR : R'.frames + 1 ≤ R.frames ∧ 8 + (M'.2.2.1 + 11) + R'.locals ≤ R.locals := by exact rm_ok (Nat.le_of_ble_eq_true rfl) (by omega)) (hC : cells + R'.cells ≤ R.cells ∧ slots + R'.slots ≤ R.slots := by exact ⟨Nat.le_of_ble_eq_true rfl, Nat.le_of_ble_eq_true rfl⟩) (hst : (rest.map fun v => v.category).sum ≤ 8 := by exact Nat.le_of_ble_eq_true rfl) : Go Γ R M Q cells slots pc lv (rest) σ n := by
  exact go_cs (As := []) hv hm rfl hh hd sp hR hC hst (fun r σ' n' h => by
    obtain ⟨v, e1, h⟩ := h
    cases e1
    exact kk v σ' n' h) (fun x σ' n' h => by
    obtain ⟨v, e1, -⟩ := h
    cases e1)
theorem go_S0Ax {ix : Nat} {X : Nat → sto → Nat → Prop} (hv : sLk M.1.cls ix M' 0) (hm : M'.2.2.2.2 = []) (hh : M.2.2.2.2 = []) (hd : decode M.2.1 pc = .ok (.invokestatic ix, 3)) (sp : Sp Γ R' M' [] σ n (qT (qA X) E)) (kx : ∀ x σ' n', E x σ' n' → Q (.inr x) σ' n') (kk : ∀ v σ' n', X v σ' n' → Go Γ R M Q (cells + R'.cells) (slots + R'.slots) (pc + 3) lv (.ref v :: rest) σ' n') (hR : R'.frames + 1 ≤ R.frames ∧ 8 + (M'.2.2.1 + 11) + R'.locals ≤ R.locals := by exact rm_ok (Nat.le_of_ble_eq_true rfl) (by omega)) (hC : cells + R'.cells ≤ R.cells ∧ slots + R'.slots ≤ R.slots := by exact ⟨Nat.le_of_ble_eq_true rfl, Nat.le_of_ble_eq_true rfl⟩) (hst : (rest.map fun v => v.category).sum ≤ 8 := by exact Nat.le_of_ble_eq_true rfl) : Go Γ R M Q cells slots pc lv (rest) σ n := by
  exact go_cs (As := []) hv hm rfl hh hd sp hR hC hst (fun r σ' n' h => by
    rcases h with h | ⟨x, e2, -⟩
    · obtain ⟨v, e1, h⟩ := h
      cases e1
      exact kk v σ' n' h
    · cases e2) (fun x σ' n' h => by
    rcases h with h | ⟨y, e2, h⟩
    · obtain ⟨v, e1, -⟩ := h
      cases e1
    · cases e2
      exact kx x σ' n' h)
theorem go_S0V {ix : Nat} {X : sto → Nat → Prop} (hv : sLk M.1.cls ix M' 0) (hm : M'.2.2.2.2 = []) (hh : M.2.2.2.2 = []) (hd : decode M.2.1 pc = .ok (.invokestatic ix, 3)) (sp : Sp Γ R' M' [] σ n (qV X)) (kk : ∀ σ' n', X σ' n' → Go Γ R M Q (cells + R'.cells) (slots + R'.slots) (pc + 3) lv (rest) σ' n') (hR : R'.frames + 1 ≤ R.frames ∧ 8 + (M'.2.2.1 + 11) + R'.locals ≤ R.locals := by exact rm_ok (Nat.le_of_ble_eq_true rfl) (by omega)) (hC : cells + R'.cells ≤ R.cells ∧ slots + R'.slots ≤ R.slots := by exact ⟨Nat.le_of_ble_eq_true rfl, Nat.le_of_ble_eq_true rfl⟩) (hst : (rest.map fun v => v.category).sum ≤ 8 := by exact Nat.le_of_ble_eq_true rfl) : Go Γ R M Q cells slots pc lv (rest) σ n := by
  exact go_cs (As := []) hv hm rfl hh hd sp hR hC hst (fun r σ' n' h => by
    obtain ⟨e1, h⟩ := h
    cases e1
    exact kk σ' n' h) (fun x σ' n' h => by
    obtain ⟨e1, -⟩ := h
    cases e1)
theorem go_S0Vx {ix : Nat} {X : sto → Nat → Prop} (hv : sLk M.1.cls ix M' 0) (hm : M'.2.2.2.2 = []) (hh : M.2.2.2.2 = []) (hd : decode M.2.1 pc = .ok (.invokestatic ix, 3)) (sp : Sp Γ R' M' [] σ n (qT (qV X) E)) (kx : ∀ x σ' n', E x σ' n' → Q (.inr x) σ' n') (kk : ∀ σ' n', X σ' n' → Go Γ R M Q (cells + R'.cells) (slots + R'.slots) (pc + 3) lv (rest) σ' n') (hR : R'.frames + 1 ≤ R.frames ∧ 8 + (M'.2.2.1 + 11) + R'.locals ≤ R.locals := by exact rm_ok (Nat.le_of_ble_eq_true rfl) (by omega)) (hC : cells + R'.cells ≤ R.cells ∧ slots + R'.slots ≤ R.slots := by exact ⟨Nat.le_of_ble_eq_true rfl, Nat.le_of_ble_eq_true rfl⟩) (hst : (rest.map fun v => v.category).sum ≤ 8 := by exact Nat.le_of_ble_eq_true rfl) : Go Γ R M Q cells slots pc lv (rest) σ n := by
  exact go_cs (As := []) hv hm rfl hh hd sp hR hC hst (fun r σ' n' h => by
    rcases h with h | ⟨x, e2, -⟩
    · obtain ⟨e1, h⟩ := h
      cases e1
      exact kk σ' n' h
    · cases e2) (fun x σ' n' h => by
    rcases h with h | ⟨y, e2, h⟩
    · obtain ⟨e1, -⟩ := h
      cases e1
    · cases e2
      exact kx x σ' n' h)
theorem go_S0P {ix : Nat} {r : Int32} (hv : sLk M.1.cls ix M' 0) (hm : M'.2.2.2.2 = []) (hh : M.2.2.2.2 = []) (hd : decode M.2.1 pc = .ok (.invokestatic ix, 3)) (sp : Sp Γ R' M' [] σ n (qP r σ n)) (kk : Go Γ R M Q (cells + R'.cells) (slots + R'.slots) (pc + 3) lv (.int r :: rest) σ n) (hR : R'.frames + 1 ≤ R.frames ∧ 8 + (M'.2.2.1 + 11) + R'.locals ≤ R.locals := by exact rm_ok (Nat.le_of_ble_eq_true rfl) (by omega)) (hC : cells + R'.cells ≤ R.cells ∧ slots + R'.slots ≤ R.slots := by exact ⟨Nat.le_of_ble_eq_true rfl, Nat.le_of_ble_eq_true rfl⟩) (hst : (rest.map fun v => v.category).sum ≤ 8 := by exact Nat.le_of_ble_eq_true rfl) : Go Γ R M Q cells slots pc lv (rest) σ n := go_S0I hv hm hh hd sp (fun v σ' n' h => by obtain ⟨rfl, rfl, rfl⟩ := h; exact kk) hR hC hst
theorem go_S0PL {ix : Nat} {r : Int64} (hv : sLk M.1.cls ix M' 0) (hm : M'.2.2.2.2 = []) (hh : M.2.2.2.2 = []) (hd : decode M.2.1 pc = .ok (.invokestatic ix, 3)) (sp : Sp Γ R' M' [] σ n (qPL r σ n)) (kk : Go Γ R M Q (cells + R'.cells) (slots + R'.slots) (pc + 3) lv (.long r :: rest) σ n) (hR : R'.frames + 1 ≤ R.frames ∧ 8 + (M'.2.2.1 + 11) + R'.locals ≤ R.locals := by exact rm_ok (Nat.le_of_ble_eq_true rfl) (by omega)) (hC : cells + R'.cells ≤ R.cells ∧ slots + R'.slots ≤ R.slots := by exact ⟨Nat.le_of_ble_eq_true rfl, Nat.le_of_ble_eq_true rfl⟩) (hst : (rest.map fun v => v.category).sum ≤ 8 := by exact Nat.le_of_ble_eq_true rfl) : Go Γ R M Q cells slots pc lv (rest) σ n := go_S0L hv hm hh hd sp (fun v σ' n' h => by obtain ⟨rfl, rfl, rfl⟩ := h; exact kk) hR hC hst
theorem go_I0V {b : Nat} {ix : Nat} {X : sto → Nat → Prop} (hv : iLk M.1.cls ix M' 0) (hm : M'.2.2.2.2 = []) (hret : M'.2.2.2.1 = none) (hd : decode M.2.1 pc = .ok (.invokespecial ix, 3)) (sp : Sp Γ R' M' (.ref b :: []) σ n (qV X)) (kk : ∀ σ' n', X σ' n' → Go Γ R M Q (cells + R'.cells) (slots + R'.slots) (pc + 3) lv (rest) σ' n') (hR : R'.frames + 1 ≤ R.frames ∧ 8 + (M'.2.2.1 + 11) + R'.locals ≤ R.locals := by exact rm_ok (Nat.le_of_ble_eq_true rfl) (by omega)) (hC : cells + R'.cells ≤ R.cells ∧ slots + R'.slots ≤ R.slots := by exact ⟨Nat.le_of_ble_eq_true rfl, Nat.le_of_ble_eq_true rfl⟩) (hst : (rest.map fun v => v.category).sum ≤ 8 := by exact Nat.le_of_ble_eq_true rfl) : Go Γ R M Q cells slots pc lv (.ref b :: rest) σ n := by
  exact go_ci (As := []) hv hm hret rfl hd sp (fun x σ' n' h => by
    obtain ⟨e1, -⟩ := h
    cases e1) hR hC hst (fun r σ' n' h => by
    obtain ⟨e1, h⟩ := h
    cases e1
    exact kk σ' n' h)
theorem go_V1I {v1 : Value} {b : Nat} {ix : Nat} {X : Int32 → sto → Nat → Prop} (hv : vLk M.1.cls ix M' 1) (hm : M'.2.2.2.2 = []) (hh : M.2.2.2.2 = []) (hrv : rcv Γ σ n b M'.1.cls) (hd : decode M.2.1 pc = .ok (.invokevirtual ix, 3)) (sp : Sp Γ R' M' (.ref b :: [v1]) σ n (qI X)) (kk : ∀ v σ' n', X v σ' n' → Go Γ R M Q (cells + R'.cells) (slots + R'.slots) (pc + 3) lv (.int v :: rest) σ' n') (hR : R'.frames + 1 ≤ R.frames ∧ 8 + (M'.2.2.1 + 11) + R'.locals ≤ R.locals := by exact rm_ok (Nat.le_of_ble_eq_true rfl) (by omega)) (hC : cells + R'.cells ≤ R.cells ∧ slots + R'.slots ≤ R.slots := by exact ⟨Nat.le_of_ble_eq_true rfl, Nat.le_of_ble_eq_true rfl⟩) (hst : (rest.map fun v => v.category).sum ≤ 8 := by exact Nat.le_of_ble_eq_true rfl) : Go Γ R M Q cells slots pc lv (v1 :: .ref b :: rest) σ n := by
  exact go_cv (As := [v1]) hv hm rfl hh hrv hd sp hR hC hst (fun r σ' n' h => by
    obtain ⟨v, e1, h⟩ := h
    cases e1
    exact kk v σ' n' h) (fun x σ' n' h => by
    obtain ⟨v, e1, -⟩ := h
    cases e1)
theorem go_V1Ix {v1 : Value} {b : Nat} {ix : Nat} {X : Int32 → sto → Nat → Prop} (hv : vLk M.1.cls ix M' 1) (hm : M'.2.2.2.2 = []) (hh : M.2.2.2.2 = []) (hrv : rcv Γ σ n b M'.1.cls) (hd : decode M.2.1 pc = .ok (.invokevirtual ix, 3)) (sp : Sp Γ R' M' (.ref b :: [v1]) σ n (qT (qI X) E)) (kx : ∀ x σ' n', E x σ' n' → Q (.inr x) σ' n') (kk : ∀ v σ' n', X v σ' n' → Go Γ R M Q (cells + R'.cells) (slots + R'.slots) (pc + 3) lv (.int v :: rest) σ' n') (hR : R'.frames + 1 ≤ R.frames ∧ 8 + (M'.2.2.1 + 11) + R'.locals ≤ R.locals := by exact rm_ok (Nat.le_of_ble_eq_true rfl) (by omega)) (hC : cells + R'.cells ≤ R.cells ∧ slots + R'.slots ≤ R.slots := by exact ⟨Nat.le_of_ble_eq_true rfl, Nat.le_of_ble_eq_true rfl⟩) (hst : (rest.map fun v => v.category).sum ≤ 8 := by exact Nat.le_of_ble_eq_true rfl) : Go Γ R M Q cells slots pc lv (v1 :: .ref b :: rest) σ n := by
  exact go_cv (As := [v1]) hv hm rfl hh hrv hd sp hR hC hst (fun r σ' n' h => by
    rcases h with h | ⟨x, e2, -⟩
    · obtain ⟨v, e1, h⟩ := h
      cases e1
      exact kk v σ' n' h
    · cases e2) (fun x σ' n' h => by
    rcases h with h | ⟨y, e2, h⟩
    · obtain ⟨v, e1, -⟩ := h
      cases e1
    · cases e2
      exact kx x σ' n' h)
theorem go_V1L {v1 : Value} {b : Nat} {ix : Nat} {X : Int64 → sto → Nat → Prop} (hv : vLk M.1.cls ix M' 1) (hm : M'.2.2.2.2 = []) (hh : M.2.2.2.2 = []) (hrv : rcv Γ σ n b M'.1.cls) (hd : decode M.2.1 pc = .ok (.invokevirtual ix, 3)) (sp : Sp Γ R' M' (.ref b :: [v1]) σ n (qL X)) (kk : ∀ v σ' n', X v σ' n' → Go Γ R M Q (cells + R'.cells) (slots + R'.slots) (pc + 3) lv (.long v :: rest) σ' n') (hR : R'.frames + 1 ≤ R.frames ∧ 8 + (M'.2.2.1 + 11) + R'.locals ≤ R.locals := by exact rm_ok (Nat.le_of_ble_eq_true rfl) (by omega)) (hC : cells + R'.cells ≤ R.cells ∧ slots + R'.slots ≤ R.slots := by exact ⟨Nat.le_of_ble_eq_true rfl, Nat.le_of_ble_eq_true rfl⟩) (hst : (rest.map fun v => v.category).sum ≤ 8 := by exact Nat.le_of_ble_eq_true rfl) : Go Γ R M Q cells slots pc lv (v1 :: .ref b :: rest) σ n := by
  exact go_cv (As := [v1]) hv hm rfl hh hrv hd sp hR hC hst (fun r σ' n' h => by
    obtain ⟨v, e1, h⟩ := h
    cases e1
    exact kk v σ' n' h) (fun x σ' n' h => by
    obtain ⟨v, e1, -⟩ := h
    cases e1)
theorem go_V1Lx {v1 : Value} {b : Nat} {ix : Nat} {X : Int64 → sto → Nat → Prop} (hv : vLk M.1.cls ix M' 1) (hm : M'.2.2.2.2 = []) (hh : M.2.2.2.2 = []) (hrv : rcv Γ σ n b M'.1.cls) (hd : decode M.2.1 pc = .ok (.invokevirtual ix, 3)) (sp : Sp Γ R' M' (.ref b :: [v1]) σ n (qT (qL X) E)) (kx : ∀ x σ' n', E x σ' n' → Q (.inr x) σ' n') (kk : ∀ v σ' n', X v σ' n' → Go Γ R M Q (cells + R'.cells) (slots + R'.slots) (pc + 3) lv (.long v :: rest) σ' n') (hR : R'.frames + 1 ≤ R.frames ∧ 8 + (M'.2.2.1 + 11) + R'.locals ≤ R.locals := by exact rm_ok (Nat.le_of_ble_eq_true rfl) (by omega)) (hC : cells + R'.cells ≤ R.cells ∧ slots + R'.slots ≤ R.slots := by exact ⟨Nat.le_of_ble_eq_true rfl, Nat.le_of_ble_eq_true rfl⟩) (hst : (rest.map fun v => v.category).sum ≤ 8 := by exact Nat.le_of_ble_eq_true rfl) : Go Γ R M Q cells slots pc lv (v1 :: .ref b :: rest) σ n := by
  exact go_cv (As := [v1]) hv hm rfl hh hrv hd sp hR hC hst (fun r σ' n' h => by
    rcases h with h | ⟨x, e2, -⟩
    · obtain ⟨v, e1, h⟩ := h
      cases e1
      exact kk v σ' n' h
    · cases e2) (fun x σ' n' h => by
    rcases h with h | ⟨y, e2, h⟩
    · obtain ⟨v, e1, -⟩ := h
      cases e1
    · cases e2
      exact kx x σ' n' h)
theorem go_V1A {v1 : Value} {b : Nat} {ix : Nat} {X : Nat → sto → Nat → Prop} (hv : vLk M.1.cls ix M' 1) (hm : M'.2.2.2.2 = []) (hh : M.2.2.2.2 = []) (hrv : rcv Γ σ n b M'.1.cls) (hd : decode M.2.1 pc = .ok (.invokevirtual ix, 3)) (sp : Sp Γ R' M' (.ref b :: [v1]) σ n (qA X)) (kk : ∀ v σ' n', X v σ' n' → Go Γ R M Q (cells + R'.cells) (slots + R'.slots) (pc + 3) lv (.ref v :: rest) σ' n') (hR : R'.frames + 1 ≤ R.frames ∧ 8 + (M'.2.2.1 + 11) + R'.locals ≤ R.locals := by exact rm_ok (Nat.le_of_ble_eq_true rfl) (by omega)) (hC : cells + R'.cells ≤ R.cells ∧ slots + R'.slots ≤ R.slots := by exact ⟨Nat.le_of_ble_eq_true rfl, Nat.le_of_ble_eq_true rfl⟩) (hst : (rest.map fun v => v.category).sum ≤ 8 := by exact Nat.le_of_ble_eq_true rfl) : Go Γ R M Q cells slots pc lv (v1 :: .ref b :: rest) σ n := by
  exact go_cv (As := [v1]) hv hm rfl hh hrv hd sp hR hC hst (fun r σ' n' h => by
    obtain ⟨v, e1, h⟩ := h
    cases e1
    exact kk v σ' n' h) (fun x σ' n' h => by
    obtain ⟨v, e1, -⟩ := h
    cases e1)
theorem go_V1Ax {v1 : Value} {b : Nat} {ix : Nat} {X : Nat → sto → Nat → Prop} (hv : vLk M.1.cls ix M' 1) (hm : M'.2.2.2.2 = []) (hh : M.2.2.2.2 = []) (hrv : rcv Γ σ n b M'.1.cls) (hd : decode M.2.1 pc = .ok (.invokevirtual ix, 3)) (sp : Sp Γ R' M' (.ref b :: [v1]) σ n (qT (qA X) E)) (kx : ∀ x σ' n', E x σ' n' → Q (.inr x) σ' n') (kk : ∀ v σ' n', X v σ' n' → Go Γ R M Q (cells + R'.cells) (slots + R'.slots) (pc + 3) lv (.ref v :: rest) σ' n') (hR : R'.frames + 1 ≤ R.frames ∧ 8 + (M'.2.2.1 + 11) + R'.locals ≤ R.locals := by exact rm_ok (Nat.le_of_ble_eq_true rfl) (by omega)) (hC : cells + R'.cells ≤ R.cells ∧ slots + R'.slots ≤ R.slots := by exact ⟨Nat.le_of_ble_eq_true rfl, Nat.le_of_ble_eq_true rfl⟩) (hst : (rest.map fun v => v.category).sum ≤ 8 := by exact Nat.le_of_ble_eq_true rfl) : Go Γ R M Q cells slots pc lv (v1 :: .ref b :: rest) σ n := by
  exact go_cv (As := [v1]) hv hm rfl hh hrv hd sp hR hC hst (fun r σ' n' h => by
    rcases h with h | ⟨x, e2, -⟩
    · obtain ⟨v, e1, h⟩ := h
      cases e1
      exact kk v σ' n' h
    · cases e2) (fun x σ' n' h => by
    rcases h with h | ⟨y, e2, h⟩
    · obtain ⟨v, e1, -⟩ := h
      cases e1
    · cases e2
      exact kx x σ' n' h)
theorem go_V1V {v1 : Value} {b : Nat} {ix : Nat} {X : sto → Nat → Prop} (hv : vLk M.1.cls ix M' 1) (hm : M'.2.2.2.2 = []) (hh : M.2.2.2.2 = []) (hrv : rcv Γ σ n b M'.1.cls) (hd : decode M.2.1 pc = .ok (.invokevirtual ix, 3)) (sp : Sp Γ R' M' (.ref b :: [v1]) σ n (qV X)) (kk : ∀ σ' n', X σ' n' → Go Γ R M Q (cells + R'.cells) (slots + R'.slots) (pc + 3) lv (rest) σ' n') (hR : R'.frames + 1 ≤ R.frames ∧ 8 + (M'.2.2.1 + 11) + R'.locals ≤ R.locals := by exact rm_ok (Nat.le_of_ble_eq_true rfl) (by omega)) (hC : cells + R'.cells ≤ R.cells ∧ slots + R'.slots ≤ R.slots := by exact ⟨Nat.le_of_ble_eq_true rfl, Nat.le_of_ble_eq_true rfl⟩) (hst : (rest.map fun v => v.category).sum ≤ 8 := by exact Nat.le_of_ble_eq_true rfl) : Go Γ R M Q cells slots pc lv (v1 :: .ref b :: rest) σ n := by
  exact go_cv (As := [v1]) hv hm rfl hh hrv hd sp hR hC hst (fun r σ' n' h => by
    obtain ⟨e1, h⟩ := h
    cases e1
    exact kk σ' n' h) (fun x σ' n' h => by
    obtain ⟨e1, -⟩ := h
    cases e1)
theorem go_V1Vx {v1 : Value} {b : Nat} {ix : Nat} {X : sto → Nat → Prop} (hv : vLk M.1.cls ix M' 1) (hm : M'.2.2.2.2 = []) (hh : M.2.2.2.2 = []) (hrv : rcv Γ σ n b M'.1.cls) (hd : decode M.2.1 pc = .ok (.invokevirtual ix, 3)) (sp : Sp Γ R' M' (.ref b :: [v1]) σ n (qT (qV X) E)) (kx : ∀ x σ' n', E x σ' n' → Q (.inr x) σ' n') (kk : ∀ σ' n', X σ' n' → Go Γ R M Q (cells + R'.cells) (slots + R'.slots) (pc + 3) lv (rest) σ' n') (hR : R'.frames + 1 ≤ R.frames ∧ 8 + (M'.2.2.1 + 11) + R'.locals ≤ R.locals := by exact rm_ok (Nat.le_of_ble_eq_true rfl) (by omega)) (hC : cells + R'.cells ≤ R.cells ∧ slots + R'.slots ≤ R.slots := by exact ⟨Nat.le_of_ble_eq_true rfl, Nat.le_of_ble_eq_true rfl⟩) (hst : (rest.map fun v => v.category).sum ≤ 8 := by exact Nat.le_of_ble_eq_true rfl) : Go Γ R M Q cells slots pc lv (v1 :: .ref b :: rest) σ n := by
  exact go_cv (As := [v1]) hv hm rfl hh hrv hd sp hR hC hst (fun r σ' n' h => by
    rcases h with h | ⟨x, e2, -⟩
    · obtain ⟨e1, h⟩ := h
      cases e1
      exact kk σ' n' h
    · cases e2) (fun x σ' n' h => by
    rcases h with h | ⟨y, e2, h⟩
    · obtain ⟨e1, -⟩ := h
      cases e1
    · cases e2
      exact kx x σ' n' h)
theorem go_V1P {v1 : Value} {b : Nat} {ix : Nat} {r : Int32} (hv : vLk M.1.cls ix M' 1) (hm : M'.2.2.2.2 = []) (hh : M.2.2.2.2 = []) (hrv : rcv Γ σ n b M'.1.cls) (hd : decode M.2.1 pc = .ok (.invokevirtual ix, 3)) (sp : Sp Γ R' M' (.ref b :: [v1]) σ n (qP r σ n)) (kk : Go Γ R M Q (cells + R'.cells) (slots + R'.slots) (pc + 3) lv (.int r :: rest) σ n) (hR : R'.frames + 1 ≤ R.frames ∧ 8 + (M'.2.2.1 + 11) + R'.locals ≤ R.locals := by exact rm_ok (Nat.le_of_ble_eq_true rfl) (by omega)) (hC : cells + R'.cells ≤ R.cells ∧ slots + R'.slots ≤ R.slots := by exact ⟨Nat.le_of_ble_eq_true rfl, Nat.le_of_ble_eq_true rfl⟩) (hst : (rest.map fun v => v.category).sum ≤ 8 := by exact Nat.le_of_ble_eq_true rfl) : Go Γ R M Q cells slots pc lv (v1 :: .ref b :: rest) σ n := go_V1I hv hm hh hrv hd sp (fun v σ' n' h => by obtain ⟨rfl, rfl, rfl⟩ := h; exact kk) hR hC hst
theorem go_V1PL {v1 : Value} {b : Nat} {ix : Nat} {r : Int64} (hv : vLk M.1.cls ix M' 1) (hm : M'.2.2.2.2 = []) (hh : M.2.2.2.2 = []) (hrv : rcv Γ σ n b M'.1.cls) (hd : decode M.2.1 pc = .ok (.invokevirtual ix, 3)) (sp : Sp Γ R' M' (.ref b :: [v1]) σ n (qPL r σ n)) (kk : Go Γ R M Q (cells + R'.cells) (slots + R'.slots) (pc + 3) lv (.long r :: rest) σ n) (hR : R'.frames + 1 ≤ R.frames ∧ 8 + (M'.2.2.1 + 11) + R'.locals ≤ R.locals := by exact rm_ok (Nat.le_of_ble_eq_true rfl) (by omega)) (hC : cells + R'.cells ≤ R.cells ∧ slots + R'.slots ≤ R.slots := by exact ⟨Nat.le_of_ble_eq_true rfl, Nat.le_of_ble_eq_true rfl⟩) (hst : (rest.map fun v => v.category).sum ≤ 8 := by exact Nat.le_of_ble_eq_true rfl) : Go Γ R M Q cells slots pc lv (v1 :: .ref b :: rest) σ n := go_V1L hv hm hh hrv hd sp (fun v σ' n' h => by obtain ⟨rfl, rfl, rfl⟩ := h; exact kk) hR hC hst
theorem go_S1I {v1 : Value} {ix : Nat} {X : Int32 → sto → Nat → Prop} (hv : sLk M.1.cls ix M' 1) (hm : M'.2.2.2.2 = []) (hh : M.2.2.2.2 = []) (hd : decode M.2.1 pc = .ok (.invokestatic ix, 3)) (sp : Sp Γ R' M' [v1] σ n (qI X)) (kk : ∀ v σ' n', X v σ' n' → Go Γ R M Q (cells + R'.cells) (slots + R'.slots) (pc + 3) lv (.int v :: rest) σ' n') (hR : R'.frames + 1 ≤ R.frames ∧ 8 + (M'.2.2.1 + 11) + R'.locals ≤ R.locals := by exact rm_ok (Nat.le_of_ble_eq_true rfl) (by omega)) (hC : cells + R'.cells ≤ R.cells ∧ slots + R'.slots ≤ R.slots := by exact ⟨Nat.le_of_ble_eq_true rfl, Nat.le_of_ble_eq_true rfl⟩) (hst : (rest.map fun v => v.category).sum ≤ 8 := by exact Nat.le_of_ble_eq_true rfl) : Go Γ R M Q cells slots pc lv (v1 :: rest) σ n := by
  exact go_cs (As := [v1]) hv hm rfl hh hd sp hR hC hst (fun r σ' n' h => by
    obtain ⟨v, e1, h⟩ := h
    cases e1
    exact kk v σ' n' h) (fun x σ' n' h => by
    obtain ⟨v, e1, -⟩ := h
    cases e1)
theorem go_S1Ix {v1 : Value} {ix : Nat} {X : Int32 → sto → Nat → Prop} (hv : sLk M.1.cls ix M' 1) (hm : M'.2.2.2.2 = []) (hh : M.2.2.2.2 = []) (hd : decode M.2.1 pc = .ok (.invokestatic ix, 3)) (sp : Sp Γ R' M' [v1] σ n (qT (qI X) E)) (kx : ∀ x σ' n', E x σ' n' → Q (.inr x) σ' n') (kk : ∀ v σ' n', X v σ' n' → Go Γ R M Q (cells + R'.cells) (slots + R'.slots) (pc + 3) lv (.int v :: rest) σ' n') (hR : R'.frames + 1 ≤ R.frames ∧ 8 + (M'.2.2.1 + 11) + R'.locals ≤ R.locals := by exact rm_ok (Nat.le_of_ble_eq_true rfl) (by omega)) (hC : cells + R'.cells ≤ R.cells ∧ slots + R'.slots ≤ R.slots := by exact ⟨Nat.le_of_ble_eq_true rfl, Nat.le_of_ble_eq_true rfl⟩) (hst : (rest.map fun v => v.category).sum ≤ 8 := by exact Nat.le_of_ble_eq_true rfl) : Go Γ R M Q cells slots pc lv (v1 :: rest) σ n := by
  exact go_cs (As := [v1]) hv hm rfl hh hd sp hR hC hst (fun r σ' n' h => by
    rcases h with h | ⟨x, e2, -⟩
    · obtain ⟨v, e1, h⟩ := h
      cases e1
      exact kk v σ' n' h
    · cases e2) (fun x σ' n' h => by
    rcases h with h | ⟨y, e2, h⟩
    · obtain ⟨v, e1, -⟩ := h
      cases e1
    · cases e2
      exact kx x σ' n' h)
theorem go_S1L {v1 : Value} {ix : Nat} {X : Int64 → sto → Nat → Prop} (hv : sLk M.1.cls ix M' 1) (hm : M'.2.2.2.2 = []) (hh : M.2.2.2.2 = []) (hd : decode M.2.1 pc = .ok (.invokestatic ix, 3)) (sp : Sp Γ R' M' [v1] σ n (qL X)) (kk : ∀ v σ' n', X v σ' n' → Go Γ R M Q (cells + R'.cells) (slots + R'.slots) (pc + 3) lv (.long v :: rest) σ' n') (hR : R'.frames + 1 ≤ R.frames ∧ 8 + (M'.2.2.1 + 11) + R'.locals ≤ R.locals := by exact rm_ok (Nat.le_of_ble_eq_true rfl) (by omega)) (hC : cells + R'.cells ≤ R.cells ∧ slots + R'.slots ≤ R.slots := by exact ⟨Nat.le_of_ble_eq_true rfl, Nat.le_of_ble_eq_true rfl⟩) (hst : (rest.map fun v => v.category).sum ≤ 8 := by exact Nat.le_of_ble_eq_true rfl) : Go Γ R M Q cells slots pc lv (v1 :: rest) σ n := by
  exact go_cs (As := [v1]) hv hm rfl hh hd sp hR hC hst (fun r σ' n' h => by
    obtain ⟨v, e1, h⟩ := h
    cases e1
    exact kk v σ' n' h) (fun x σ' n' h => by
    obtain ⟨v, e1, -⟩ := h
    cases e1)
theorem go_S1Lx {v1 : Value} {ix : Nat} {X : Int64 → sto → Nat → Prop} (hv : sLk M.1.cls ix M' 1) (hm : M'.2.2.2.2 = []) (hh : M.2.2.2.2 = []) (hd : decode M.2.1 pc = .ok (.invokestatic ix, 3)) (sp : Sp Γ R' M' [v1] σ n (qT (qL X) E)) (kx : ∀ x σ' n', E x σ' n' → Q (.inr x) σ' n') (kk : ∀ v σ' n', X v σ' n' → Go Γ R M Q (cells + R'.cells) (slots + R'.slots) (pc + 3) lv (.long v :: rest) σ' n') (hR : R'.frames + 1 ≤ R.frames ∧ 8 + (M'.2.2.1 + 11) + R'.locals ≤ R.locals := by exact rm_ok (Nat.le_of_ble_eq_true rfl) (by omega)) (hC : cells + R'.cells ≤ R.cells ∧ slots + R'.slots ≤ R.slots := by exact ⟨Nat.le_of_ble_eq_true rfl, Nat.le_of_ble_eq_true rfl⟩) (hst : (rest.map fun v => v.category).sum ≤ 8 := by exact Nat.le_of_ble_eq_true rfl) : Go Γ R M Q cells slots pc lv (v1 :: rest) σ n := by
  exact go_cs (As := [v1]) hv hm rfl hh hd sp hR hC hst (fun r σ' n' h => by
    rcases h with h | ⟨x, e2, -⟩
    · obtain ⟨v, e1, h⟩ := h
      cases e1
      exact kk v σ' n' h
    · cases e2) (fun x σ' n' h => by
    rcases h with h | ⟨y, e2, h⟩
    · obtain ⟨v, e1, -⟩ := h
      cases e1
    · cases e2
      exact kx x σ' n' h)
theorem go_S1A {v1 : Value} {ix : Nat} {X : Nat → sto → Nat → Prop} (hv : sLk M.1.cls ix M' 1) (hm : M'.2.2.2.2 = []) (hh : M.2.2.2.2 = []) (hd : decode M.2.1 pc = .ok (.invokestatic ix, 3)) (sp : Sp Γ R' M' [v1] σ n (qA X)) (kk : ∀ v σ' n', X v σ' n' → Go Γ R M Q (cells + R'.cells) (slots + R'.slots) (pc + 3) lv (.ref v :: rest) σ' n') (hR : R'.frames + 1 ≤ R.frames ∧ 8 + (M'.2.2.1 + 11) + R'.locals ≤ R.locals := by exact rm_ok (Nat.le_of_ble_eq_true rfl) (by omega)) (hC : cells + R'.cells ≤ R.cells ∧ slots + R'.slots ≤ R.slots := by exact ⟨Nat.le_of_ble_eq_true rfl, Nat.le_of_ble_eq_true rfl⟩) (hst : (rest.map fun v => v.category).sum ≤ 8 := by exact Nat.le_of_ble_eq_true rfl) : Go Γ R M Q cells slots pc lv (v1 :: rest) σ n := by
  exact go_cs (As := [v1]) hv hm rfl hh hd sp hR hC hst (fun r σ' n' h => by
    obtain ⟨v, e1, h⟩ := h
    cases e1
    exact kk v σ' n' h) (fun x σ' n' h => by
    obtain ⟨v, e1, -⟩ := h
    cases e1)
theorem go_S1Ax {v1 : Value} {ix : Nat} {X : Nat → sto → Nat → Prop} (hv : sLk M.1.cls ix M' 1) (hm : M'.2.2.2.2 = []) (hh : M.2.2.2.2 = []) (hd : decode M.2.1 pc = .ok (.invokestatic ix, 3)) (sp : Sp Γ R' M' [v1] σ n (qT (qA X) E)) (kx : ∀ x σ' n', E x σ' n' → Q (.inr x) σ' n') (kk : ∀ v σ' n', X v σ' n' → Go Γ R M Q (cells + R'.cells) (slots + R'.slots) (pc + 3) lv (.ref v :: rest) σ' n') (hR : R'.frames + 1 ≤ R.frames ∧ 8 + (M'.2.2.1 + 11) + R'.locals ≤ R.locals := by exact rm_ok (Nat.le_of_ble_eq_true rfl) (by omega)) (hC : cells + R'.cells ≤ R.cells ∧ slots + R'.slots ≤ R.slots := by exact ⟨Nat.le_of_ble_eq_true rfl, Nat.le_of_ble_eq_true rfl⟩) (hst : (rest.map fun v => v.category).sum ≤ 8 := by exact Nat.le_of_ble_eq_true rfl) : Go Γ R M Q cells slots pc lv (v1 :: rest) σ n := by
  exact go_cs (As := [v1]) hv hm rfl hh hd sp hR hC hst (fun r σ' n' h => by
    rcases h with h | ⟨x, e2, -⟩
    · obtain ⟨v, e1, h⟩ := h
      cases e1
      exact kk v σ' n' h
    · cases e2) (fun x σ' n' h => by
    rcases h with h | ⟨y, e2, h⟩
    · obtain ⟨v, e1, -⟩ := h
      cases e1
    · cases e2
      exact kx x σ' n' h)
theorem go_S1V {v1 : Value} {ix : Nat} {X : sto → Nat → Prop} (hv : sLk M.1.cls ix M' 1) (hm : M'.2.2.2.2 = []) (hh : M.2.2.2.2 = []) (hd : decode M.2.1 pc = .ok (.invokestatic ix, 3)) (sp : Sp Γ R' M' [v1] σ n (qV X)) (kk : ∀ σ' n', X σ' n' → Go Γ R M Q (cells + R'.cells) (slots + R'.slots) (pc + 3) lv (rest) σ' n') (hR : R'.frames + 1 ≤ R.frames ∧ 8 + (M'.2.2.1 + 11) + R'.locals ≤ R.locals := by exact rm_ok (Nat.le_of_ble_eq_true rfl) (by omega)) (hC : cells + R'.cells ≤ R.cells ∧ slots + R'.slots ≤ R.slots := by exact ⟨Nat.le_of_ble_eq_true rfl, Nat.le_of_ble_eq_true rfl⟩) (hst : (rest.map fun v => v.category).sum ≤ 8 := by exact Nat.le_of_ble_eq_true rfl) : Go Γ R M Q cells slots pc lv (v1 :: rest) σ n := by
  exact go_cs (As := [v1]) hv hm rfl hh hd sp hR hC hst (fun r σ' n' h => by
    obtain ⟨e1, h⟩ := h
    cases e1
    exact kk σ' n' h) (fun x σ' n' h => by
    obtain ⟨e1, -⟩ := h
    cases e1)
theorem go_S1Vx {v1 : Value} {ix : Nat} {X : sto → Nat → Prop} (hv : sLk M.1.cls ix M' 1) (hm : M'.2.2.2.2 = []) (hh : M.2.2.2.2 = []) (hd : decode M.2.1 pc = .ok (.invokestatic ix, 3)) (sp : Sp Γ R' M' [v1] σ n (qT (qV X) E)) (kx : ∀ x σ' n', E x σ' n' → Q (.inr x) σ' n') (kk : ∀ σ' n', X σ' n' → Go Γ R M Q (cells + R'.cells) (slots + R'.slots) (pc + 3) lv (rest) σ' n') (hR : R'.frames + 1 ≤ R.frames ∧ 8 + (M'.2.2.1 + 11) + R'.locals ≤ R.locals := by exact rm_ok (Nat.le_of_ble_eq_true rfl) (by omega)) (hC : cells + R'.cells ≤ R.cells ∧ slots + R'.slots ≤ R.slots := by exact ⟨Nat.le_of_ble_eq_true rfl, Nat.le_of_ble_eq_true rfl⟩) (hst : (rest.map fun v => v.category).sum ≤ 8 := by exact Nat.le_of_ble_eq_true rfl) : Go Γ R M Q cells slots pc lv (v1 :: rest) σ n := by
  exact go_cs (As := [v1]) hv hm rfl hh hd sp hR hC hst (fun r σ' n' h => by
    rcases h with h | ⟨x, e2, -⟩
    · obtain ⟨e1, h⟩ := h
      cases e1
      exact kk σ' n' h
    · cases e2) (fun x σ' n' h => by
    rcases h with h | ⟨y, e2, h⟩
    · obtain ⟨e1, -⟩ := h
      cases e1
    · cases e2
      exact kx x σ' n' h)
theorem go_S1P {v1 : Value} {ix : Nat} {r : Int32} (hv : sLk M.1.cls ix M' 1) (hm : M'.2.2.2.2 = []) (hh : M.2.2.2.2 = []) (hd : decode M.2.1 pc = .ok (.invokestatic ix, 3)) (sp : Sp Γ R' M' [v1] σ n (qP r σ n)) (kk : Go Γ R M Q (cells + R'.cells) (slots + R'.slots) (pc + 3) lv (.int r :: rest) σ n) (hR : R'.frames + 1 ≤ R.frames ∧ 8 + (M'.2.2.1 + 11) + R'.locals ≤ R.locals := by exact rm_ok (Nat.le_of_ble_eq_true rfl) (by omega)) (hC : cells + R'.cells ≤ R.cells ∧ slots + R'.slots ≤ R.slots := by exact ⟨Nat.le_of_ble_eq_true rfl, Nat.le_of_ble_eq_true rfl⟩) (hst : (rest.map fun v => v.category).sum ≤ 8 := by exact Nat.le_of_ble_eq_true rfl) : Go Γ R M Q cells slots pc lv (v1 :: rest) σ n := go_S1I hv hm hh hd sp (fun v σ' n' h => by obtain ⟨rfl, rfl, rfl⟩ := h; exact kk) hR hC hst
theorem go_S1PL {v1 : Value} {ix : Nat} {r : Int64} (hv : sLk M.1.cls ix M' 1) (hm : M'.2.2.2.2 = []) (hh : M.2.2.2.2 = []) (hd : decode M.2.1 pc = .ok (.invokestatic ix, 3)) (sp : Sp Γ R' M' [v1] σ n (qPL r σ n)) (kk : Go Γ R M Q (cells + R'.cells) (slots + R'.slots) (pc + 3) lv (.long r :: rest) σ n) (hR : R'.frames + 1 ≤ R.frames ∧ 8 + (M'.2.2.1 + 11) + R'.locals ≤ R.locals := by exact rm_ok (Nat.le_of_ble_eq_true rfl) (by omega)) (hC : cells + R'.cells ≤ R.cells ∧ slots + R'.slots ≤ R.slots := by exact ⟨Nat.le_of_ble_eq_true rfl, Nat.le_of_ble_eq_true rfl⟩) (hst : (rest.map fun v => v.category).sum ≤ 8 := by exact Nat.le_of_ble_eq_true rfl) : Go Γ R M Q cells slots pc lv (v1 :: rest) σ n := go_S1L hv hm hh hd sp (fun v σ' n' h => by obtain ⟨rfl, rfl, rfl⟩ := h; exact kk) hR hC hst
theorem go_I1V {v1 : Value} {b : Nat} {ix : Nat} {X : sto → Nat → Prop} (hv : iLk M.1.cls ix M' 1) (hm : M'.2.2.2.2 = []) (hret : M'.2.2.2.1 = none) (hd : decode M.2.1 pc = .ok (.invokespecial ix, 3)) (sp : Sp Γ R' M' (.ref b :: [v1]) σ n (qV X)) (kk : ∀ σ' n', X σ' n' → Go Γ R M Q (cells + R'.cells) (slots + R'.slots) (pc + 3) lv (rest) σ' n') (hR : R'.frames + 1 ≤ R.frames ∧ 8 + (M'.2.2.1 + 11) + R'.locals ≤ R.locals := by exact rm_ok (Nat.le_of_ble_eq_true rfl) (by omega)) (hC : cells + R'.cells ≤ R.cells ∧ slots + R'.slots ≤ R.slots := by exact ⟨Nat.le_of_ble_eq_true rfl, Nat.le_of_ble_eq_true rfl⟩) (hst : (rest.map fun v => v.category).sum ≤ 8 := by exact Nat.le_of_ble_eq_true rfl) : Go Γ R M Q cells slots pc lv (v1 :: .ref b :: rest) σ n := by
  exact go_ci (As := [v1]) hv hm hret rfl hd sp (fun x σ' n' h => by
    obtain ⟨e1, -⟩ := h
    cases e1) hR hC hst (fun r σ' n' h => by
    obtain ⟨e1, h⟩ := h
    cases e1
    exact kk σ' n' h)
theorem go_V2I {v1 v2 : Value} {b : Nat} {ix : Nat} {X : Int32 → sto → Nat → Prop} (hv : vLk M.1.cls ix M' 2) (hm : M'.2.2.2.2 = []) (hh : M.2.2.2.2 = []) (hrv : rcv Γ σ n b M'.1.cls) (hd : decode M.2.1 pc = .ok (.invokevirtual ix, 3)) (sp : Sp Γ R' M' (.ref b :: [v1, v2]) σ n (qI X)) (kk : ∀ v σ' n', X v σ' n' → Go Γ R M Q (cells + R'.cells) (slots + R'.slots) (pc + 3) lv (.int v :: rest) σ' n') (hR : R'.frames + 1 ≤ R.frames ∧ 8 + (M'.2.2.1 + 11) + R'.locals ≤ R.locals := by exact rm_ok (Nat.le_of_ble_eq_true rfl) (by omega)) (hC : cells + R'.cells ≤ R.cells ∧ slots + R'.slots ≤ R.slots := by exact ⟨Nat.le_of_ble_eq_true rfl, Nat.le_of_ble_eq_true rfl⟩) (hst : (rest.map fun v => v.category).sum ≤ 8 := by exact Nat.le_of_ble_eq_true rfl) : Go Γ R M Q cells slots pc lv (v2 :: v1 :: .ref b :: rest) σ n := by
  exact go_cv (As := [v1, v2]) hv hm rfl hh hrv hd sp hR hC hst (fun r σ' n' h => by
    obtain ⟨v, e1, h⟩ := h
    cases e1
    exact kk v σ' n' h) (fun x σ' n' h => by
    obtain ⟨v, e1, -⟩ := h
    cases e1)
theorem go_V2Ix {v1 v2 : Value} {b : Nat} {ix : Nat} {X : Int32 → sto → Nat → Prop} (hv : vLk M.1.cls ix M' 2) (hm : M'.2.2.2.2 = []) (hh : M.2.2.2.2 = []) (hrv : rcv Γ σ n b M'.1.cls) (hd : decode M.2.1 pc = .ok (.invokevirtual ix, 3)) (sp : Sp Γ R' M' (.ref b :: [v1, v2]) σ n (qT (qI X) E)) (kx : ∀ x σ' n', E x σ' n' → Q (.inr x) σ' n') (kk : ∀ v σ' n', X v σ' n' → Go Γ R M Q (cells + R'.cells) (slots + R'.slots) (pc + 3) lv (.int v :: rest) σ' n') (hR : R'.frames + 1 ≤ R.frames ∧ 8 + (M'.2.2.1 + 11) + R'.locals ≤ R.locals := by exact rm_ok (Nat.le_of_ble_eq_true rfl) (by omega)) (hC : cells + R'.cells ≤ R.cells ∧ slots + R'.slots ≤ R.slots := by exact ⟨Nat.le_of_ble_eq_true rfl, Nat.le_of_ble_eq_true rfl⟩) (hst : (rest.map fun v => v.category).sum ≤ 8 := by exact Nat.le_of_ble_eq_true rfl) : Go Γ R M Q cells slots pc lv (v2 :: v1 :: .ref b :: rest) σ n := by
  exact go_cv (As := [v1, v2]) hv hm rfl hh hrv hd sp hR hC hst (fun r σ' n' h => by
    rcases h with h | ⟨x, e2, -⟩
    · obtain ⟨v, e1, h⟩ := h
      cases e1
      exact kk v σ' n' h
    · cases e2) (fun x σ' n' h => by
    rcases h with h | ⟨y, e2, h⟩
    · obtain ⟨v, e1, -⟩ := h
      cases e1
    · cases e2
      exact kx x σ' n' h)
theorem go_V2L {v1 v2 : Value} {b : Nat} {ix : Nat} {X : Int64 → sto → Nat → Prop} (hv : vLk M.1.cls ix M' 2) (hm : M'.2.2.2.2 = []) (hh : M.2.2.2.2 = []) (hrv : rcv Γ σ n b M'.1.cls) (hd : decode M.2.1 pc = .ok (.invokevirtual ix, 3)) (sp : Sp Γ R' M' (.ref b :: [v1, v2]) σ n (qL X)) (kk : ∀ v σ' n', X v σ' n' → Go Γ R M Q (cells + R'.cells) (slots + R'.slots) (pc + 3) lv (.long v :: rest) σ' n') (hR : R'.frames + 1 ≤ R.frames ∧ 8 + (M'.2.2.1 + 11) + R'.locals ≤ R.locals := by exact rm_ok (Nat.le_of_ble_eq_true rfl) (by omega)) (hC : cells + R'.cells ≤ R.cells ∧ slots + R'.slots ≤ R.slots := by exact ⟨Nat.le_of_ble_eq_true rfl, Nat.le_of_ble_eq_true rfl⟩) (hst : (rest.map fun v => v.category).sum ≤ 8 := by exact Nat.le_of_ble_eq_true rfl) : Go Γ R M Q cells slots pc lv (v2 :: v1 :: .ref b :: rest) σ n := by
  exact go_cv (As := [v1, v2]) hv hm rfl hh hrv hd sp hR hC hst (fun r σ' n' h => by
    obtain ⟨v, e1, h⟩ := h
    cases e1
    exact kk v σ' n' h) (fun x σ' n' h => by
    obtain ⟨v, e1, -⟩ := h
    cases e1)
theorem go_V2Lx {v1 v2 : Value} {b : Nat} {ix : Nat} {X : Int64 → sto → Nat → Prop} (hv : vLk M.1.cls ix M' 2) (hm : M'.2.2.2.2 = []) (hh : M.2.2.2.2 = []) (hrv : rcv Γ σ n b M'.1.cls) (hd : decode M.2.1 pc = .ok (.invokevirtual ix, 3)) (sp : Sp Γ R' M' (.ref b :: [v1, v2]) σ n (qT (qL X) E)) (kx : ∀ x σ' n', E x σ' n' → Q (.inr x) σ' n') (kk : ∀ v σ' n', X v σ' n' → Go Γ R M Q (cells + R'.cells) (slots + R'.slots) (pc + 3) lv (.long v :: rest) σ' n') (hR : R'.frames + 1 ≤ R.frames ∧ 8 + (M'.2.2.1 + 11) + R'.locals ≤ R.locals := by exact rm_ok (Nat.le_of_ble_eq_true rfl) (by omega)) (hC : cells + R'.cells ≤ R.cells ∧ slots + R'.slots ≤ R.slots := by exact ⟨Nat.le_of_ble_eq_true rfl, Nat.le_of_ble_eq_true rfl⟩) (hst : (rest.map fun v => v.category).sum ≤ 8 := by exact Nat.le_of_ble_eq_true rfl) : Go Γ R M Q cells slots pc lv (v2 :: v1 :: .ref b :: rest) σ n := by
  exact go_cv (As := [v1, v2]) hv hm rfl hh hrv hd sp hR hC hst (fun r σ' n' h => by
    rcases h with h | ⟨x, e2, -⟩
    · obtain ⟨v, e1, h⟩ := h
      cases e1
      exact kk v σ' n' h
    · cases e2) (fun x σ' n' h => by
    rcases h with h | ⟨y, e2, h⟩
    · obtain ⟨v, e1, -⟩ := h
      cases e1
    · cases e2
      exact kx x σ' n' h)
theorem go_V2A {v1 v2 : Value} {b : Nat} {ix : Nat} {X : Nat → sto → Nat → Prop} (hv : vLk M.1.cls ix M' 2) (hm : M'.2.2.2.2 = []) (hh : M.2.2.2.2 = []) (hrv : rcv Γ σ n b M'.1.cls) (hd : decode M.2.1 pc = .ok (.invokevirtual ix, 3)) (sp : Sp Γ R' M' (.ref b :: [v1, v2]) σ n (qA X)) (kk : ∀ v σ' n', X v σ' n' → Go Γ R M Q (cells + R'.cells) (slots + R'.slots) (pc + 3) lv (.ref v :: rest) σ' n') (hR : R'.frames + 1 ≤ R.frames ∧ 8 + (M'.2.2.1 + 11) + R'.locals ≤ R.locals := by exact rm_ok (Nat.le_of_ble_eq_true rfl) (by omega)) (hC : cells + R'.cells ≤ R.cells ∧ slots + R'.slots ≤ R.slots := by exact ⟨Nat.le_of_ble_eq_true rfl, Nat.le_of_ble_eq_true rfl⟩) (hst : (rest.map fun v => v.category).sum ≤ 8 := by exact Nat.le_of_ble_eq_true rfl) : Go Γ R M Q cells slots pc lv (v2 :: v1 :: .ref b :: rest) σ n := by
  exact go_cv (As := [v1, v2]) hv hm rfl hh hrv hd sp hR hC hst (fun r σ' n' h => by
    obtain ⟨v, e1, h⟩ := h
    cases e1
    exact kk v σ' n' h) (fun x σ' n' h => by
    obtain ⟨v, e1, -⟩ := h
    cases e1)
theorem go_V2Ax {v1 v2 : Value} {b : Nat} {ix : Nat} {X : Nat → sto → Nat → Prop} (hv : vLk M.1.cls ix M' 2) (hm : M'.2.2.2.2 = []) (hh : M.2.2.2.2 = []) (hrv : rcv Γ σ n b M'.1.cls) (hd : decode M.2.1 pc = .ok (.invokevirtual ix, 3)) (sp : Sp Γ R' M' (.ref b :: [v1, v2]) σ n (qT (qA X) E)) (kx : ∀ x σ' n', E x σ' n' → Q (.inr x) σ' n') (kk : ∀ v σ' n', X v σ' n' → Go Γ R M Q (cells + R'.cells) (slots + R'.slots) (pc + 3) lv (.ref v :: rest) σ' n') (hR : R'.frames + 1 ≤ R.frames ∧ 8 + (M'.2.2.1 + 11) + R'.locals ≤ R.locals := by exact rm_ok (Nat.le_of_ble_eq_true rfl) (by omega)) (hC : cells + R'.cells ≤ R.cells ∧ slots + R'.slots ≤ R.slots := by exact ⟨Nat.le_of_ble_eq_true rfl, Nat.le_of_ble_eq_true rfl⟩) (hst : (rest.map fun v => v.category).sum ≤ 8 := by exact Nat.le_of_ble_eq_true rfl) : Go Γ R M Q cells slots pc lv (v2 :: v1 :: .ref b :: rest) σ n := by
  exact go_cv (As := [v1, v2]) hv hm rfl hh hrv hd sp hR hC hst (fun r σ' n' h => by
    rcases h with h | ⟨x, e2, -⟩
    · obtain ⟨v, e1, h⟩ := h
      cases e1
      exact kk v σ' n' h
    · cases e2) (fun x σ' n' h => by
    rcases h with h | ⟨y, e2, h⟩
    · obtain ⟨v, e1, -⟩ := h
      cases e1
    · cases e2
      exact kx x σ' n' h)
theorem go_V2V {v1 v2 : Value} {b : Nat} {ix : Nat} {X : sto → Nat → Prop} (hv : vLk M.1.cls ix M' 2) (hm : M'.2.2.2.2 = []) (hh : M.2.2.2.2 = []) (hrv : rcv Γ σ n b M'.1.cls) (hd : decode M.2.1 pc = .ok (.invokevirtual ix, 3)) (sp : Sp Γ R' M' (.ref b :: [v1, v2]) σ n (qV X)) (kk : ∀ σ' n', X σ' n' → Go Γ R M Q (cells + R'.cells) (slots + R'.slots) (pc + 3) lv (rest) σ' n') (hR : R'.frames + 1 ≤ R.frames ∧ 8 + (M'.2.2.1 + 11) + R'.locals ≤ R.locals := by exact rm_ok (Nat.le_of_ble_eq_true rfl) (by omega)) (hC : cells + R'.cells ≤ R.cells ∧ slots + R'.slots ≤ R.slots := by exact ⟨Nat.le_of_ble_eq_true rfl, Nat.le_of_ble_eq_true rfl⟩) (hst : (rest.map fun v => v.category).sum ≤ 8 := by exact Nat.le_of_ble_eq_true rfl) : Go Γ R M Q cells slots pc lv (v2 :: v1 :: .ref b :: rest) σ n := by
  exact go_cv (As := [v1, v2]) hv hm rfl hh hrv hd sp hR hC hst (fun r σ' n' h => by
    obtain ⟨e1, h⟩ := h
    cases e1
    exact kk σ' n' h) (fun x σ' n' h => by
    obtain ⟨e1, -⟩ := h
    cases e1)
theorem go_V2Vx {v1 v2 : Value} {b : Nat} {ix : Nat} {X : sto → Nat → Prop} (hv : vLk M.1.cls ix M' 2) (hm : M'.2.2.2.2 = []) (hh : M.2.2.2.2 = []) (hrv : rcv Γ σ n b M'.1.cls) (hd : decode M.2.1 pc = .ok (.invokevirtual ix, 3)) (sp : Sp Γ R' M' (.ref b :: [v1, v2]) σ n (qT (qV X) E)) (kx : ∀ x σ' n', E x σ' n' → Q (.inr x) σ' n') (kk : ∀ σ' n', X σ' n' → Go Γ R M Q (cells + R'.cells) (slots + R'.slots) (pc + 3) lv (rest) σ' n') (hR : R'.frames + 1 ≤ R.frames ∧ 8 + (M'.2.2.1 + 11) + R'.locals ≤ R.locals := by exact rm_ok (Nat.le_of_ble_eq_true rfl) (by omega)) (hC : cells + R'.cells ≤ R.cells ∧ slots + R'.slots ≤ R.slots := by exact ⟨Nat.le_of_ble_eq_true rfl, Nat.le_of_ble_eq_true rfl⟩) (hst : (rest.map fun v => v.category).sum ≤ 8 := by exact Nat.le_of_ble_eq_true rfl) : Go Γ R M Q cells slots pc lv (v2 :: v1 :: .ref b :: rest) σ n := by
  exact go_cv (As := [v1, v2]) hv hm rfl hh hrv hd sp hR hC hst (fun r σ' n' h => by
    rcases h with h | ⟨x, e2, -⟩
    · obtain ⟨e1, h⟩ := h
      cases e1
      exact kk σ' n' h
    · cases e2) (fun x σ' n' h => by
    rcases h with h | ⟨y, e2, h⟩
    · obtain ⟨e1, -⟩ := h
      cases e1
    · cases e2
      exact kx x σ' n' h)
theorem go_V2P {v1 v2 : Value} {b : Nat} {ix : Nat} {r : Int32} (hv : vLk M.1.cls ix M' 2) (hm : M'.2.2.2.2 = []) (hh : M.2.2.2.2 = []) (hrv : rcv Γ σ n b M'.1.cls) (hd : decode M.2.1 pc = .ok (.invokevirtual ix, 3)) (sp : Sp Γ R' M' (.ref b :: [v1, v2]) σ n (qP r σ n)) (kk : Go Γ R M Q (cells + R'.cells) (slots + R'.slots) (pc + 3) lv (.int r :: rest) σ n) (hR : R'.frames + 1 ≤ R.frames ∧ 8 + (M'.2.2.1 + 11) + R'.locals ≤ R.locals := by exact rm_ok (Nat.le_of_ble_eq_true rfl) (by omega)) (hC : cells + R'.cells ≤ R.cells ∧ slots + R'.slots ≤ R.slots := by exact ⟨Nat.le_of_ble_eq_true rfl, Nat.le_of_ble_eq_true rfl⟩) (hst : (rest.map fun v => v.category).sum ≤ 8 := by exact Nat.le_of_ble_eq_true rfl) : Go Γ R M Q cells slots pc lv (v2 :: v1 :: .ref b :: rest) σ n := go_V2I hv hm hh hrv hd sp (fun v σ' n' h => by obtain ⟨rfl, rfl, rfl⟩ := h; exact kk) hR hC hst
theorem go_V2PL {v1 v2 : Value} {b : Nat} {ix : Nat} {r : Int64} (hv : vLk M.1.cls ix M' 2) (hm : M'.2.2.2.2 = []) (hh : M.2.2.2.2 = []) (hrv : rcv Γ σ n b M'.1.cls) (hd : decode M.2.1 pc = .ok (.invokevirtual ix, 3)) (sp : Sp Γ R' M' (.ref b :: [v1, v2]) σ n (qPL r σ n)) (kk : Go Γ R M Q (cells + R'.cells) (slots + R'.slots) (pc + 3) lv (.long r :: rest) σ n) (hR : R'.frames + 1 ≤ R.frames ∧ 8 + (M'.2.2.1 + 11) + R'.locals ≤ R.locals := by exact rm_ok (Nat.le_of_ble_eq_true rfl) (by omega)) (hC : cells + R'.cells ≤ R.cells ∧ slots + R'.slots ≤ R.slots := by exact ⟨Nat.le_of_ble_eq_true rfl, Nat.le_of_ble_eq_true rfl⟩) (hst : (rest.map fun v => v.category).sum ≤ 8 := by exact Nat.le_of_ble_eq_true rfl) : Go Γ R M Q cells slots pc lv (v2 :: v1 :: .ref b :: rest) σ n := go_V2L hv hm hh hrv hd sp (fun v σ' n' h => by obtain ⟨rfl, rfl, rfl⟩ := h; exact kk) hR hC hst
theorem go_S2I {v1 v2 : Value} {ix : Nat} {X : Int32 → sto → Nat → Prop} (hv : sLk M.1.cls ix M' 2) (hm : M'.2.2.2.2 = []) (hh : M.2.2.2.2 = []) (hd : decode M.2.1 pc = .ok (.invokestatic ix, 3)) (sp : Sp Γ R' M' [v1, v2] σ n (qI X)) (kk : ∀ v σ' n', X v σ' n' → Go Γ R M Q (cells + R'.cells) (slots + R'.slots) (pc + 3) lv (.int v :: rest) σ' n') (hR : R'.frames + 1 ≤ R.frames ∧ 8 + (M'.2.2.1 + 11) + R'.locals ≤ R.locals := by exact rm_ok (Nat.le_of_ble_eq_true rfl) (by omega)) (hC : cells + R'.cells ≤ R.cells ∧ slots + R'.slots ≤ R.slots := by exact ⟨Nat.le_of_ble_eq_true rfl, Nat.le_of_ble_eq_true rfl⟩) (hst : (rest.map fun v => v.category).sum ≤ 8 := by exact Nat.le_of_ble_eq_true rfl) : Go Γ R M Q cells slots pc lv (v2 :: v1 :: rest) σ n := by
  exact go_cs (As := [v1, v2]) hv hm rfl hh hd sp hR hC hst (fun r σ' n' h => by
    obtain ⟨v, e1, h⟩ := h
    cases e1
    exact kk v σ' n' h) (fun x σ' n' h => by
    obtain ⟨v, e1, -⟩ := h
    cases e1)
theorem go_S2Ix {v1 v2 : Value} {ix : Nat} {X : Int32 → sto → Nat → Prop} (hv : sLk M.1.cls ix M' 2) (hm : M'.2.2.2.2 = []) (hh : M.2.2.2.2 = []) (hd : decode M.2.1 pc = .ok (.invokestatic ix, 3)) (sp : Sp Γ R' M' [v1, v2] σ n (qT (qI X) E)) (kx : ∀ x σ' n', E x σ' n' → Q (.inr x) σ' n') (kk : ∀ v σ' n', X v σ' n' → Go Γ R M Q (cells + R'.cells) (slots + R'.slots) (pc + 3) lv (.int v :: rest) σ' n') (hR : R'.frames + 1 ≤ R.frames ∧ 8 + (M'.2.2.1 + 11) + R'.locals ≤ R.locals := by exact rm_ok (Nat.le_of_ble_eq_true rfl) (by omega)) (hC : cells + R'.cells ≤ R.cells ∧ slots + R'.slots ≤ R.slots := by exact ⟨Nat.le_of_ble_eq_true rfl, Nat.le_of_ble_eq_true rfl⟩) (hst : (rest.map fun v => v.category).sum ≤ 8 := by exact Nat.le_of_ble_eq_true rfl) : Go Γ R M Q cells slots pc lv (v2 :: v1 :: rest) σ n := by
  exact go_cs (As := [v1, v2]) hv hm rfl hh hd sp hR hC hst (fun r σ' n' h => by
    rcases h with h | ⟨x, e2, -⟩
    · obtain ⟨v, e1, h⟩ := h
      cases e1
      exact kk v σ' n' h
    · cases e2) (fun x σ' n' h => by
    rcases h with h | ⟨y, e2, h⟩
    · obtain ⟨v, e1, -⟩ := h
      cases e1
    · cases e2
      exact kx x σ' n' h)
theorem go_S2L {v1 v2 : Value} {ix : Nat} {X : Int64 → sto → Nat → Prop} (hv : sLk M.1.cls ix M' 2) (hm : M'.2.2.2.2 = []) (hh : M.2.2.2.2 = []) (hd : decode M.2.1 pc = .ok (.invokestatic ix, 3)) (sp : Sp Γ R' M' [v1, v2] σ n (qL X)) (kk : ∀ v σ' n', X v σ' n' → Go Γ R M Q (cells + R'.cells) (slots + R'.slots) (pc + 3) lv (.long v :: rest) σ' n') (hR : R'.frames + 1 ≤ R.frames ∧ 8 + (M'.2.2.1 + 11) + R'.locals ≤ R.locals := by exact rm_ok (Nat.le_of_ble_eq_true rfl) (by omega)) (hC : cells + R'.cells ≤ R.cells ∧ slots + R'.slots ≤ R.slots := by exact ⟨Nat.le_of_ble_eq_true rfl, Nat.le_of_ble_eq_true rfl⟩) (hst : (rest.map fun v => v.category).sum ≤ 8 := by exact Nat.le_of_ble_eq_true rfl) : Go Γ R M Q cells slots pc lv (v2 :: v1 :: rest) σ n := by
  exact go_cs (As := [v1, v2]) hv hm rfl hh hd sp hR hC hst (fun r σ' n' h => by
    obtain ⟨v, e1, h⟩ := h
    cases e1
    exact kk v σ' n' h) (fun x σ' n' h => by
    obtain ⟨v, e1, -⟩ := h
    cases e1)
theorem go_S2Lx {v1 v2 : Value} {ix : Nat} {X : Int64 → sto → Nat → Prop} (hv : sLk M.1.cls ix M' 2) (hm : M'.2.2.2.2 = []) (hh : M.2.2.2.2 = []) (hd : decode M.2.1 pc = .ok (.invokestatic ix, 3)) (sp : Sp Γ R' M' [v1, v2] σ n (qT (qL X) E)) (kx : ∀ x σ' n', E x σ' n' → Q (.inr x) σ' n') (kk : ∀ v σ' n', X v σ' n' → Go Γ R M Q (cells + R'.cells) (slots + R'.slots) (pc + 3) lv (.long v :: rest) σ' n') (hR : R'.frames + 1 ≤ R.frames ∧ 8 + (M'.2.2.1 + 11) + R'.locals ≤ R.locals := by exact rm_ok (Nat.le_of_ble_eq_true rfl) (by omega)) (hC : cells + R'.cells ≤ R.cells ∧ slots + R'.slots ≤ R.slots := by exact ⟨Nat.le_of_ble_eq_true rfl, Nat.le_of_ble_eq_true rfl⟩) (hst : (rest.map fun v => v.category).sum ≤ 8 := by exact Nat.le_of_ble_eq_true rfl) : Go Γ R M Q cells slots pc lv (v2 :: v1 :: rest) σ n := by
  exact go_cs (As := [v1, v2]) hv hm rfl hh hd sp hR hC hst (fun r σ' n' h => by
    rcases h with h | ⟨x, e2, -⟩
    · obtain ⟨v, e1, h⟩ := h
      cases e1
      exact kk v σ' n' h
    · cases e2) (fun x σ' n' h => by
    rcases h with h | ⟨y, e2, h⟩
    · obtain ⟨v, e1, -⟩ := h
      cases e1
    · cases e2
      exact kx x σ' n' h)
theorem go_S2A {v1 v2 : Value} {ix : Nat} {X : Nat → sto → Nat → Prop} (hv : sLk M.1.cls ix M' 2) (hm : M'.2.2.2.2 = []) (hh : M.2.2.2.2 = []) (hd : decode M.2.1 pc = .ok (.invokestatic ix, 3)) (sp : Sp Γ R' M' [v1, v2] σ n (qA X)) (kk : ∀ v σ' n', X v σ' n' → Go Γ R M Q (cells + R'.cells) (slots + R'.slots) (pc + 3) lv (.ref v :: rest) σ' n') (hR : R'.frames + 1 ≤ R.frames ∧ 8 + (M'.2.2.1 + 11) + R'.locals ≤ R.locals := by exact rm_ok (Nat.le_of_ble_eq_true rfl) (by omega)) (hC : cells + R'.cells ≤ R.cells ∧ slots + R'.slots ≤ R.slots := by exact ⟨Nat.le_of_ble_eq_true rfl, Nat.le_of_ble_eq_true rfl⟩) (hst : (rest.map fun v => v.category).sum ≤ 8 := by exact Nat.le_of_ble_eq_true rfl) : Go Γ R M Q cells slots pc lv (v2 :: v1 :: rest) σ n := by
  exact go_cs (As := [v1, v2]) hv hm rfl hh hd sp hR hC hst (fun r σ' n' h => by
    obtain ⟨v, e1, h⟩ := h
    cases e1
    exact kk v σ' n' h) (fun x σ' n' h => by
    obtain ⟨v, e1, -⟩ := h
    cases e1)
theorem go_S2Ax {v1 v2 : Value} {ix : Nat} {X : Nat → sto → Nat → Prop} (hv : sLk M.1.cls ix M' 2) (hm : M'.2.2.2.2 = []) (hh : M.2.2.2.2 = []) (hd : decode M.2.1 pc = .ok (.invokestatic ix, 3)) (sp : Sp Γ R' M' [v1, v2] σ n (qT (qA X) E)) (kx : ∀ x σ' n', E x σ' n' → Q (.inr x) σ' n') (kk : ∀ v σ' n', X v σ' n' → Go Γ R M Q (cells + R'.cells) (slots + R'.slots) (pc + 3) lv (.ref v :: rest) σ' n') (hR : R'.frames + 1 ≤ R.frames ∧ 8 + (M'.2.2.1 + 11) + R'.locals ≤ R.locals := by exact rm_ok (Nat.le_of_ble_eq_true rfl) (by omega)) (hC : cells + R'.cells ≤ R.cells ∧ slots + R'.slots ≤ R.slots := by exact ⟨Nat.le_of_ble_eq_true rfl, Nat.le_of_ble_eq_true rfl⟩) (hst : (rest.map fun v => v.category).sum ≤ 8 := by exact Nat.le_of_ble_eq_true rfl) : Go Γ R M Q cells slots pc lv (v2 :: v1 :: rest) σ n := by
  exact go_cs (As := [v1, v2]) hv hm rfl hh hd sp hR hC hst (fun r σ' n' h => by
    rcases h with h | ⟨x, e2, -⟩
    · obtain ⟨v, e1, h⟩ := h
      cases e1
      exact kk v σ' n' h
    · cases e2) (fun x σ' n' h => by
    rcases h with h | ⟨y, e2, h⟩
    · obtain ⟨v, e1, -⟩ := h
      cases e1
    · cases e2
      exact kx x σ' n' h)
theorem go_S2V {v1 v2 : Value} {ix : Nat} {X : sto → Nat → Prop} (hv : sLk M.1.cls ix M' 2) (hm : M'.2.2.2.2 = []) (hh : M.2.2.2.2 = []) (hd : decode M.2.1 pc = .ok (.invokestatic ix, 3)) (sp : Sp Γ R' M' [v1, v2] σ n (qV X)) (kk : ∀ σ' n', X σ' n' → Go Γ R M Q (cells + R'.cells) (slots + R'.slots) (pc + 3) lv (rest) σ' n') (hR : R'.frames + 1 ≤ R.frames ∧ 8 + (M'.2.2.1 + 11) + R'.locals ≤ R.locals := by exact rm_ok (Nat.le_of_ble_eq_true rfl) (by omega)) (hC : cells + R'.cells ≤ R.cells ∧ slots + R'.slots ≤ R.slots := by exact ⟨Nat.le_of_ble_eq_true rfl, Nat.le_of_ble_eq_true rfl⟩) (hst : (rest.map fun v => v.category).sum ≤ 8 := by exact Nat.le_of_ble_eq_true rfl) : Go Γ R M Q cells slots pc lv (v2 :: v1 :: rest) σ n := by
  exact go_cs (As := [v1, v2]) hv hm rfl hh hd sp hR hC hst (fun r σ' n' h => by
    obtain ⟨e1, h⟩ := h
    cases e1
    exact kk σ' n' h) (fun x σ' n' h => by
    obtain ⟨e1, -⟩ := h
    cases e1)
theorem go_S2Vx {v1 v2 : Value} {ix : Nat} {X : sto → Nat → Prop} (hv : sLk M.1.cls ix M' 2) (hm : M'.2.2.2.2 = []) (hh : M.2.2.2.2 = []) (hd : decode M.2.1 pc = .ok (.invokestatic ix, 3)) (sp : Sp Γ R' M' [v1, v2] σ n (qT (qV X) E)) (kx : ∀ x σ' n', E x σ' n' → Q (.inr x) σ' n') (kk : ∀ σ' n', X σ' n' → Go Γ R M Q (cells + R'.cells) (slots + R'.slots) (pc + 3) lv (rest) σ' n') (hR : R'.frames + 1 ≤ R.frames ∧ 8 + (M'.2.2.1 + 11) + R'.locals ≤ R.locals := by exact rm_ok (Nat.le_of_ble_eq_true rfl) (by omega)) (hC : cells + R'.cells ≤ R.cells ∧ slots + R'.slots ≤ R.slots := by exact ⟨Nat.le_of_ble_eq_true rfl, Nat.le_of_ble_eq_true rfl⟩) (hst : (rest.map fun v => v.category).sum ≤ 8 := by exact Nat.le_of_ble_eq_true rfl) : Go Γ R M Q cells slots pc lv (v2 :: v1 :: rest) σ n := by
  exact go_cs (As := [v1, v2]) hv hm rfl hh hd sp hR hC hst (fun r σ' n' h => by
    rcases h with h | ⟨x, e2, -⟩
    · obtain ⟨e1, h⟩ := h
      cases e1
      exact kk σ' n' h
    · cases e2) (fun x σ' n' h => by
    rcases h with h | ⟨y, e2, h⟩
    · obtain ⟨e1, -⟩ := h
      cases e1
    · cases e2
      exact kx x σ' n' h)
theorem go_S2P {v1 v2 : Value} {ix : Nat} {r : Int32} (hv : sLk M.1.cls ix M' 2) (hm : M'.2.2.2.2 = []) (hh : M.2.2.2.2 = []) (hd : decode M.2.1 pc = .ok (.invokestatic ix, 3)) (sp : Sp Γ R' M' [v1, v2] σ n (qP r σ n)) (kk : Go Γ R M Q (cells + R'.cells) (slots + R'.slots) (pc + 3) lv (.int r :: rest) σ n) (hR : R'.frames + 1 ≤ R.frames ∧ 8 + (M'.2.2.1 + 11) + R'.locals ≤ R.locals := by exact rm_ok (Nat.le_of_ble_eq_true rfl) (by omega)) (hC : cells + R'.cells ≤ R.cells ∧ slots + R'.slots ≤ R.slots := by exact ⟨Nat.le_of_ble_eq_true rfl, Nat.le_of_ble_eq_true rfl⟩) (hst : (rest.map fun v => v.category).sum ≤ 8 := by exact Nat.le_of_ble_eq_true rfl) : Go Γ R M Q cells slots pc lv (v2 :: v1 :: rest) σ n := go_S2I hv hm hh hd sp (fun v σ' n' h => by obtain ⟨rfl, rfl, rfl⟩ := h; exact kk) hR hC hst
theorem go_S2PL {v1 v2 : Value} {ix : Nat} {r : Int64} (hv : sLk M.1.cls ix M' 2) (hm : M'.2.2.2.2 = []) (hh : M.2.2.2.2 = []) (hd : decode M.2.1 pc = .ok (.invokestatic ix, 3)) (sp : Sp Γ R' M' [v1, v2] σ n (qPL r σ n)) (kk : Go Γ R M Q (cells + R'.cells) (slots + R'.slots) (pc + 3) lv (.long r :: rest) σ n) (hR : R'.frames + 1 ≤ R.frames ∧ 8 + (M'.2.2.1 + 11) + R'.locals ≤ R.locals := by exact rm_ok (Nat.le_of_ble_eq_true rfl) (by omega)) (hC : cells + R'.cells ≤ R.cells ∧ slots + R'.slots ≤ R.slots := by exact ⟨Nat.le_of_ble_eq_true rfl, Nat.le_of_ble_eq_true rfl⟩) (hst : (rest.map fun v => v.category).sum ≤ 8 := by exact Nat.le_of_ble_eq_true rfl) : Go Γ R M Q cells slots pc lv (v2 :: v1 :: rest) σ n := go_S2L hv hm hh hd sp (fun v σ' n' h => by obtain ⟨rfl, rfl, rfl⟩ := h; exact kk) hR hC hst
theorem go_I2V {v1 v2 : Value} {b : Nat} {ix : Nat} {X : sto → Nat → Prop} (hv : iLk M.1.cls ix M' 2) (hm : M'.2.2.2.2 = []) (hret : M'.2.2.2.1 = none) (hd : decode M.2.1 pc = .ok (.invokespecial ix, 3)) (sp : Sp Γ R' M' (.ref b :: [v1, v2]) σ n (qV X)) (kk : ∀ σ' n', X σ' n' → Go Γ R M Q (cells + R'.cells) (slots + R'.slots) (pc + 3) lv (rest) σ' n') (hR : R'.frames + 1 ≤ R.frames ∧ 8 + (M'.2.2.1 + 11) + R'.locals ≤ R.locals := by exact rm_ok (Nat.le_of_ble_eq_true rfl) (by omega)) (hC : cells + R'.cells ≤ R.cells ∧ slots + R'.slots ≤ R.slots := by exact ⟨Nat.le_of_ble_eq_true rfl, Nat.le_of_ble_eq_true rfl⟩) (hst : (rest.map fun v => v.category).sum ≤ 8 := by exact Nat.le_of_ble_eq_true rfl) : Go Γ R M Q cells slots pc lv (v2 :: v1 :: .ref b :: rest) σ n := by
  exact go_ci (As := [v1, v2]) hv hm hret rfl hd sp (fun x σ' n' h => by
    obtain ⟨e1, -⟩ := h
    cases e1) hR hC hst (fun r σ' n' h => by
    obtain ⟨e1, h⟩ := h
    cases e1
    exact kk σ' n' h)
theorem go_V3I {v1 v2 v3 : Value} {b : Nat} {ix : Nat} {X : Int32 → sto → Nat → Prop} (hv : vLk M.1.cls ix M' 3) (hm : M'.2.2.2.2 = []) (hh : M.2.2.2.2 = []) (hrv : rcv Γ σ n b M'.1.cls) (hd : decode M.2.1 pc = .ok (.invokevirtual ix, 3)) (sp : Sp Γ R' M' (.ref b :: [v1, v2, v3]) σ n (qI X)) (kk : ∀ v σ' n', X v σ' n' → Go Γ R M Q (cells + R'.cells) (slots + R'.slots) (pc + 3) lv (.int v :: rest) σ' n') (hR : R'.frames + 1 ≤ R.frames ∧ 8 + (M'.2.2.1 + 11) + R'.locals ≤ R.locals := by exact rm_ok (Nat.le_of_ble_eq_true rfl) (by omega)) (hC : cells + R'.cells ≤ R.cells ∧ slots + R'.slots ≤ R.slots := by exact ⟨Nat.le_of_ble_eq_true rfl, Nat.le_of_ble_eq_true rfl⟩) (hst : (rest.map fun v => v.category).sum ≤ 8 := by exact Nat.le_of_ble_eq_true rfl) : Go Γ R M Q cells slots pc lv (v3 :: v2 :: v1 :: .ref b :: rest) σ n := by
  exact go_cv (As := [v1, v2, v3]) hv hm rfl hh hrv hd sp hR hC hst (fun r σ' n' h => by
    obtain ⟨v, e1, h⟩ := h
    cases e1
    exact kk v σ' n' h) (fun x σ' n' h => by
    obtain ⟨v, e1, -⟩ := h
    cases e1)
theorem go_V3Ix {v1 v2 v3 : Value} {b : Nat} {ix : Nat} {X : Int32 → sto → Nat → Prop} (hv : vLk M.1.cls ix M' 3) (hm : M'.2.2.2.2 = []) (hh : M.2.2.2.2 = []) (hrv : rcv Γ σ n b M'.1.cls) (hd : decode M.2.1 pc = .ok (.invokevirtual ix, 3)) (sp : Sp Γ R' M' (.ref b :: [v1, v2, v3]) σ n (qT (qI X) E)) (kx : ∀ x σ' n', E x σ' n' → Q (.inr x) σ' n') (kk : ∀ v σ' n', X v σ' n' → Go Γ R M Q (cells + R'.cells) (slots + R'.slots) (pc + 3) lv (.int v :: rest) σ' n') (hR : R'.frames + 1 ≤ R.frames ∧ 8 + (M'.2.2.1 + 11) + R'.locals ≤ R.locals := by exact rm_ok (Nat.le_of_ble_eq_true rfl) (by omega)) (hC : cells + R'.cells ≤ R.cells ∧ slots + R'.slots ≤ R.slots := by exact ⟨Nat.le_of_ble_eq_true rfl, Nat.le_of_ble_eq_true rfl⟩) (hst : (rest.map fun v => v.category).sum ≤ 8 := by exact Nat.le_of_ble_eq_true rfl) : Go Γ R M Q cells slots pc lv (v3 :: v2 :: v1 :: .ref b :: rest) σ n := by
  exact go_cv (As := [v1, v2, v3]) hv hm rfl hh hrv hd sp hR hC hst (fun r σ' n' h => by
    rcases h with h | ⟨x, e2, -⟩
    · obtain ⟨v, e1, h⟩ := h
      cases e1
      exact kk v σ' n' h
    · cases e2) (fun x σ' n' h => by
    rcases h with h | ⟨y, e2, h⟩
    · obtain ⟨v, e1, -⟩ := h
      cases e1
    · cases e2
      exact kx x σ' n' h)
theorem go_V3L {v1 v2 v3 : Value} {b : Nat} {ix : Nat} {X : Int64 → sto → Nat → Prop} (hv : vLk M.1.cls ix M' 3) (hm : M'.2.2.2.2 = []) (hh : M.2.2.2.2 = []) (hrv : rcv Γ σ n b M'.1.cls) (hd : decode M.2.1 pc = .ok (.invokevirtual ix, 3)) (sp : Sp Γ R' M' (.ref b :: [v1, v2, v3]) σ n (qL X)) (kk : ∀ v σ' n', X v σ' n' → Go Γ R M Q (cells + R'.cells) (slots + R'.slots) (pc + 3) lv (.long v :: rest) σ' n') (hR : R'.frames + 1 ≤ R.frames ∧ 8 + (M'.2.2.1 + 11) + R'.locals ≤ R.locals := by exact rm_ok (Nat.le_of_ble_eq_true rfl) (by omega)) (hC : cells + R'.cells ≤ R.cells ∧ slots + R'.slots ≤ R.slots := by exact ⟨Nat.le_of_ble_eq_true rfl, Nat.le_of_ble_eq_true rfl⟩) (hst : (rest.map fun v => v.category).sum ≤ 8 := by exact Nat.le_of_ble_eq_true rfl) : Go Γ R M Q cells slots pc lv (v3 :: v2 :: v1 :: .ref b :: rest) σ n := by
  exact go_cv (As := [v1, v2, v3]) hv hm rfl hh hrv hd sp hR hC hst (fun r σ' n' h => by
    obtain ⟨v, e1, h⟩ := h
    cases e1
    exact kk v σ' n' h) (fun x σ' n' h => by
    obtain ⟨v, e1, -⟩ := h
    cases e1)
theorem go_V3Lx {v1 v2 v3 : Value} {b : Nat} {ix : Nat} {X : Int64 → sto → Nat → Prop} (hv : vLk M.1.cls ix M' 3) (hm : M'.2.2.2.2 = []) (hh : M.2.2.2.2 = []) (hrv : rcv Γ σ n b M'.1.cls) (hd : decode M.2.1 pc = .ok (.invokevirtual ix, 3)) (sp : Sp Γ R' M' (.ref b :: [v1, v2, v3]) σ n (qT (qL X) E)) (kx : ∀ x σ' n', E x σ' n' → Q (.inr x) σ' n') (kk : ∀ v σ' n', X v σ' n' → Go Γ R M Q (cells + R'.cells) (slots + R'.slots) (pc + 3) lv (.long v :: rest) σ' n') (hR : R'.frames + 1 ≤ R.frames ∧ 8 + (M'.2.2.1 + 11) + R'.locals ≤ R.locals := by exact rm_ok (Nat.le_of_ble_eq_true rfl) (by omega)) (hC : cells + R'.cells ≤ R.cells ∧ slots + R'.slots ≤ R.slots := by exact ⟨Nat.le_of_ble_eq_true rfl, Nat.le_of_ble_eq_true rfl⟩) (hst : (rest.map fun v => v.category).sum ≤ 8 := by exact Nat.le_of_ble_eq_true rfl) : Go Γ R M Q cells slots pc lv (v3 :: v2 :: v1 :: .ref b :: rest) σ n := by
  exact go_cv (As := [v1, v2, v3]) hv hm rfl hh hrv hd sp hR hC hst (fun r σ' n' h => by
    rcases h with h | ⟨x, e2, -⟩
    · obtain ⟨v, e1, h⟩ := h
      cases e1
      exact kk v σ' n' h
    · cases e2) (fun x σ' n' h => by
    rcases h with h | ⟨y, e2, h⟩
    · obtain ⟨v, e1, -⟩ := h
      cases e1
    · cases e2
      exact kx x σ' n' h)
theorem go_V3A {v1 v2 v3 : Value} {b : Nat} {ix : Nat} {X : Nat → sto → Nat → Prop} (hv : vLk M.1.cls ix M' 3) (hm : M'.2.2.2.2 = []) (hh : M.2.2.2.2 = []) (hrv : rcv Γ σ n b M'.1.cls) (hd : decode M.2.1 pc = .ok (.invokevirtual ix, 3)) (sp : Sp Γ R' M' (.ref b :: [v1, v2, v3]) σ n (qA X)) (kk : ∀ v σ' n', X v σ' n' → Go Γ R M Q (cells + R'.cells) (slots + R'.slots) (pc + 3) lv (.ref v :: rest) σ' n') (hR : R'.frames + 1 ≤ R.frames ∧ 8 + (M'.2.2.1 + 11) + R'.locals ≤ R.locals := by exact rm_ok (Nat.le_of_ble_eq_true rfl) (by omega)) (hC : cells + R'.cells ≤ R.cells ∧ slots + R'.slots ≤ R.slots := by exact ⟨Nat.le_of_ble_eq_true rfl, Nat.le_of_ble_eq_true rfl⟩) (hst : (rest.map fun v => v.category).sum ≤ 8 := by exact Nat.le_of_ble_eq_true rfl) : Go Γ R M Q cells slots pc lv (v3 :: v2 :: v1 :: .ref b :: rest) σ n := by
  exact go_cv (As := [v1, v2, v3]) hv hm rfl hh hrv hd sp hR hC hst (fun r σ' n' h => by
    obtain ⟨v, e1, h⟩ := h
    cases e1
    exact kk v σ' n' h) (fun x σ' n' h => by
    obtain ⟨v, e1, -⟩ := h
    cases e1)
theorem go_V3Ax {v1 v2 v3 : Value} {b : Nat} {ix : Nat} {X : Nat → sto → Nat → Prop} (hv : vLk M.1.cls ix M' 3) (hm : M'.2.2.2.2 = []) (hh : M.2.2.2.2 = []) (hrv : rcv Γ σ n b M'.1.cls) (hd : decode M.2.1 pc = .ok (.invokevirtual ix, 3)) (sp : Sp Γ R' M' (.ref b :: [v1, v2, v3]) σ n (qT (qA X) E)) (kx : ∀ x σ' n', E x σ' n' → Q (.inr x) σ' n') (kk : ∀ v σ' n', X v σ' n' → Go Γ R M Q (cells + R'.cells) (slots + R'.slots) (pc + 3) lv (.ref v :: rest) σ' n') (hR : R'.frames + 1 ≤ R.frames ∧ 8 + (M'.2.2.1 + 11) + R'.locals ≤ R.locals := by exact rm_ok (Nat.le_of_ble_eq_true rfl) (by omega)) (hC : cells + R'.cells ≤ R.cells ∧ slots + R'.slots ≤ R.slots := by exact ⟨Nat.le_of_ble_eq_true rfl, Nat.le_of_ble_eq_true rfl⟩) (hst : (rest.map fun v => v.category).sum ≤ 8 := by exact Nat.le_of_ble_eq_true rfl) : Go Γ R M Q cells slots pc lv (v3 :: v2 :: v1 :: .ref b :: rest) σ n := by
  exact go_cv (As := [v1, v2, v3]) hv hm rfl hh hrv hd sp hR hC hst (fun r σ' n' h => by
    rcases h with h | ⟨x, e2, -⟩
    · obtain ⟨v, e1, h⟩ := h
      cases e1
      exact kk v σ' n' h
    · cases e2) (fun x σ' n' h => by
    rcases h with h | ⟨y, e2, h⟩
    · obtain ⟨v, e1, -⟩ := h
      cases e1
    · cases e2
      exact kx x σ' n' h)
theorem go_V3V {v1 v2 v3 : Value} {b : Nat} {ix : Nat} {X : sto → Nat → Prop} (hv : vLk M.1.cls ix M' 3) (hm : M'.2.2.2.2 = []) (hh : M.2.2.2.2 = []) (hrv : rcv Γ σ n b M'.1.cls) (hd : decode M.2.1 pc = .ok (.invokevirtual ix, 3)) (sp : Sp Γ R' M' (.ref b :: [v1, v2, v3]) σ n (qV X)) (kk : ∀ σ' n', X σ' n' → Go Γ R M Q (cells + R'.cells) (slots + R'.slots) (pc + 3) lv (rest) σ' n') (hR : R'.frames + 1 ≤ R.frames ∧ 8 + (M'.2.2.1 + 11) + R'.locals ≤ R.locals := by exact rm_ok (Nat.le_of_ble_eq_true rfl) (by omega)) (hC : cells + R'.cells ≤ R.cells ∧ slots + R'.slots ≤ R.slots := by exact ⟨Nat.le_of_ble_eq_true rfl, Nat.le_of_ble_eq_true rfl⟩) (hst : (rest.map fun v => v.category).sum ≤ 8 := by exact Nat.le_of_ble_eq_true rfl) : Go Γ R M Q cells slots pc lv (v3 :: v2 :: v1 :: .ref b :: rest) σ n := by
  exact go_cv (As := [v1, v2, v3]) hv hm rfl hh hrv hd sp hR hC hst (fun r σ' n' h => by
    obtain ⟨e1, h⟩ := h
    cases e1
    exact kk σ' n' h) (fun x σ' n' h => by
    obtain ⟨e1, -⟩ := h
    cases e1)
theorem go_V3Vx {v1 v2 v3 : Value} {b : Nat} {ix : Nat} {X : sto → Nat → Prop} (hv : vLk M.1.cls ix M' 3) (hm : M'.2.2.2.2 = []) (hh : M.2.2.2.2 = []) (hrv : rcv Γ σ n b M'.1.cls) (hd : decode M.2.1 pc = .ok (.invokevirtual ix, 3)) (sp : Sp Γ R' M' (.ref b :: [v1, v2, v3]) σ n (qT (qV X) E)) (kx : ∀ x σ' n', E x σ' n' → Q (.inr x) σ' n') (kk : ∀ σ' n', X σ' n' → Go Γ R M Q (cells + R'.cells) (slots + R'.slots) (pc + 3) lv (rest) σ' n') (hR : R'.frames + 1 ≤ R.frames ∧ 8 + (M'.2.2.1 + 11) + R'.locals ≤ R.locals := by exact rm_ok (Nat.le_of_ble_eq_true rfl) (by omega)) (hC : cells + R'.cells ≤ R.cells ∧ slots + R'.slots ≤ R.slots := by exact ⟨Nat.le_of_ble_eq_true rfl, Nat.le_of_ble_eq_true rfl⟩) (hst : (rest.map fun v => v.category).sum ≤ 8 := by exact Nat.le_of_ble_eq_true rfl) : Go Γ R M Q cells slots pc lv (v3 :: v2 :: v1 :: .ref b :: rest) σ n := by
  exact go_cv (As := [v1, v2, v3]) hv hm rfl hh hrv hd sp hR hC hst (fun r σ' n' h => by
    rcases h with h | ⟨x, e2, -⟩
    · obtain ⟨e1, h⟩ := h
      cases e1
      exact kk σ' n' h
    · cases e2) (fun x σ' n' h => by
    rcases h with h | ⟨y, e2, h⟩
    · obtain ⟨e1, -⟩ := h
      cases e1
    · cases e2
      exact kx x σ' n' h)
theorem go_V3P {v1 v2 v3 : Value} {b : Nat} {ix : Nat} {r : Int32} (hv : vLk M.1.cls ix M' 3) (hm : M'.2.2.2.2 = []) (hh : M.2.2.2.2 = []) (hrv : rcv Γ σ n b M'.1.cls) (hd : decode M.2.1 pc = .ok (.invokevirtual ix, 3)) (sp : Sp Γ R' M' (.ref b :: [v1, v2, v3]) σ n (qP r σ n)) (kk : Go Γ R M Q (cells + R'.cells) (slots + R'.slots) (pc + 3) lv (.int r :: rest) σ n) (hR : R'.frames + 1 ≤ R.frames ∧ 8 + (M'.2.2.1 + 11) + R'.locals ≤ R.locals := by exact rm_ok (Nat.le_of_ble_eq_true rfl) (by omega)) (hC : cells + R'.cells ≤ R.cells ∧ slots + R'.slots ≤ R.slots := by exact ⟨Nat.le_of_ble_eq_true rfl, Nat.le_of_ble_eq_true rfl⟩) (hst : (rest.map fun v => v.category).sum ≤ 8 := by exact Nat.le_of_ble_eq_true rfl) : Go Γ R M Q cells slots pc lv (v3 :: v2 :: v1 :: .ref b :: rest) σ n := go_V3I hv hm hh hrv hd sp (fun v σ' n' h => by obtain ⟨rfl, rfl, rfl⟩ := h; exact kk) hR hC hst
theorem go_V3PL {v1 v2 v3 : Value} {b : Nat} {ix : Nat} {r : Int64} (hv : vLk M.1.cls ix M' 3) (hm : M'.2.2.2.2 = []) (hh : M.2.2.2.2 = []) (hrv : rcv Γ σ n b M'.1.cls) (hd : decode M.2.1 pc = .ok (.invokevirtual ix, 3)) (sp : Sp Γ R' M' (.ref b :: [v1, v2, v3]) σ n (qPL r σ n)) (kk : Go Γ R M Q (cells + R'.cells) (slots + R'.slots) (pc + 3) lv (.long r :: rest) σ n) (hR : R'.frames + 1 ≤ R.frames ∧ 8 + (M'.2.2.1 + 11) + R'.locals ≤ R.locals := by exact rm_ok (Nat.le_of_ble_eq_true rfl) (by omega)) (hC : cells + R'.cells ≤ R.cells ∧ slots + R'.slots ≤ R.slots := by exact ⟨Nat.le_of_ble_eq_true rfl, Nat.le_of_ble_eq_true rfl⟩) (hst : (rest.map fun v => v.category).sum ≤ 8 := by exact Nat.le_of_ble_eq_true rfl) : Go Γ R M Q cells slots pc lv (v3 :: v2 :: v1 :: .ref b :: rest) σ n := go_V3L hv hm hh hrv hd sp (fun v σ' n' h => by obtain ⟨rfl, rfl, rfl⟩ := h; exact kk) hR hC hst
theorem go_S3I {v1 v2 v3 : Value} {ix : Nat} {X : Int32 → sto → Nat → Prop} (hv : sLk M.1.cls ix M' 3) (hm : M'.2.2.2.2 = []) (hh : M.2.2.2.2 = []) (hd : decode M.2.1 pc = .ok (.invokestatic ix, 3)) (sp : Sp Γ R' M' [v1, v2, v3] σ n (qI X)) (kk : ∀ v σ' n', X v σ' n' → Go Γ R M Q (cells + R'.cells) (slots + R'.slots) (pc + 3) lv (.int v :: rest) σ' n') (hR : R'.frames + 1 ≤ R.frames ∧ 8 + (M'.2.2.1 + 11) + R'.locals ≤ R.locals := by exact rm_ok (Nat.le_of_ble_eq_true rfl) (by omega)) (hC : cells + R'.cells ≤ R.cells ∧ slots + R'.slots ≤ R.slots := by exact ⟨Nat.le_of_ble_eq_true rfl, Nat.le_of_ble_eq_true rfl⟩) (hst : (rest.map fun v => v.category).sum ≤ 8 := by exact Nat.le_of_ble_eq_true rfl) : Go Γ R M Q cells slots pc lv (v3 :: v2 :: v1 :: rest) σ n := by
  exact go_cs (As := [v1, v2, v3]) hv hm rfl hh hd sp hR hC hst (fun r σ' n' h => by
    obtain ⟨v, e1, h⟩ := h
    cases e1
    exact kk v σ' n' h) (fun x σ' n' h => by
    obtain ⟨v, e1, -⟩ := h
    cases e1)
theorem go_S3Ix {v1 v2 v3 : Value} {ix : Nat} {X : Int32 → sto → Nat → Prop} (hv : sLk M.1.cls ix M' 3) (hm : M'.2.2.2.2 = []) (hh : M.2.2.2.2 = []) (hd : decode M.2.1 pc = .ok (.invokestatic ix, 3)) (sp : Sp Γ R' M' [v1, v2, v3] σ n (qT (qI X) E)) (kx : ∀ x σ' n', E x σ' n' → Q (.inr x) σ' n') (kk : ∀ v σ' n', X v σ' n' → Go Γ R M Q (cells + R'.cells) (slots + R'.slots) (pc + 3) lv (.int v :: rest) σ' n') (hR : R'.frames + 1 ≤ R.frames ∧ 8 + (M'.2.2.1 + 11) + R'.locals ≤ R.locals := by exact rm_ok (Nat.le_of_ble_eq_true rfl) (by omega)) (hC : cells + R'.cells ≤ R.cells ∧ slots + R'.slots ≤ R.slots := by exact ⟨Nat.le_of_ble_eq_true rfl, Nat.le_of_ble_eq_true rfl⟩) (hst : (rest.map fun v => v.category).sum ≤ 8 := by exact Nat.le_of_ble_eq_true rfl) : Go Γ R M Q cells slots pc lv (v3 :: v2 :: v1 :: rest) σ n := by
  exact go_cs (As := [v1, v2, v3]) hv hm rfl hh hd sp hR hC hst (fun r σ' n' h => by
    rcases h with h | ⟨x, e2, -⟩
    · obtain ⟨v, e1, h⟩ := h
      cases e1
      exact kk v σ' n' h
    · cases e2) (fun x σ' n' h => by
    rcases h with h | ⟨y, e2, h⟩
    · obtain ⟨v, e1, -⟩ := h
      cases e1
    · cases e2
      exact kx x σ' n' h)
theorem go_S3L {v1 v2 v3 : Value} {ix : Nat} {X : Int64 → sto → Nat → Prop} (hv : sLk M.1.cls ix M' 3) (hm : M'.2.2.2.2 = []) (hh : M.2.2.2.2 = []) (hd : decode M.2.1 pc = .ok (.invokestatic ix, 3)) (sp : Sp Γ R' M' [v1, v2, v3] σ n (qL X)) (kk : ∀ v σ' n', X v σ' n' → Go Γ R M Q (cells + R'.cells) (slots + R'.slots) (pc + 3) lv (.long v :: rest) σ' n') (hR : R'.frames + 1 ≤ R.frames ∧ 8 + (M'.2.2.1 + 11) + R'.locals ≤ R.locals := by exact rm_ok (Nat.le_of_ble_eq_true rfl) (by omega)) (hC : cells + R'.cells ≤ R.cells ∧ slots + R'.slots ≤ R.slots := by exact ⟨Nat.le_of_ble_eq_true rfl, Nat.le_of_ble_eq_true rfl⟩) (hst : (rest.map fun v => v.category).sum ≤ 8 := by exact Nat.le_of_ble_eq_true rfl) : Go Γ R M Q cells slots pc lv (v3 :: v2 :: v1 :: rest) σ n := by
  exact go_cs (As := [v1, v2, v3]) hv hm rfl hh hd sp hR hC hst (fun r σ' n' h => by
    obtain ⟨v, e1, h⟩ := h
    cases e1
    exact kk v σ' n' h) (fun x σ' n' h => by
    obtain ⟨v, e1, -⟩ := h
    cases e1)
theorem go_S3Lx {v1 v2 v3 : Value} {ix : Nat} {X : Int64 → sto → Nat → Prop} (hv : sLk M.1.cls ix M' 3) (hm : M'.2.2.2.2 = []) (hh : M.2.2.2.2 = []) (hd : decode M.2.1 pc = .ok (.invokestatic ix, 3)) (sp : Sp Γ R' M' [v1, v2, v3] σ n (qT (qL X) E)) (kx : ∀ x σ' n', E x σ' n' → Q (.inr x) σ' n') (kk : ∀ v σ' n', X v σ' n' → Go Γ R M Q (cells + R'.cells) (slots + R'.slots) (pc + 3) lv (.long v :: rest) σ' n') (hR : R'.frames + 1 ≤ R.frames ∧ 8 + (M'.2.2.1 + 11) + R'.locals ≤ R.locals := by exact rm_ok (Nat.le_of_ble_eq_true rfl) (by omega)) (hC : cells + R'.cells ≤ R.cells ∧ slots + R'.slots ≤ R.slots := by exact ⟨Nat.le_of_ble_eq_true rfl, Nat.le_of_ble_eq_true rfl⟩) (hst : (rest.map fun v => v.category).sum ≤ 8 := by exact Nat.le_of_ble_eq_true rfl) : Go Γ R M Q cells slots pc lv (v3 :: v2 :: v1 :: rest) σ n := by
  exact go_cs (As := [v1, v2, v3]) hv hm rfl hh hd sp hR hC hst (fun r σ' n' h => by
    rcases h with h | ⟨x, e2, -⟩
    · obtain ⟨v, e1, h⟩ := h
      cases e1
      exact kk v σ' n' h
    · cases e2) (fun x σ' n' h => by
    rcases h with h | ⟨y, e2, h⟩
    · obtain ⟨v, e1, -⟩ := h
      cases e1
    · cases e2
      exact kx x σ' n' h)
theorem go_S3A {v1 v2 v3 : Value} {ix : Nat} {X : Nat → sto → Nat → Prop} (hv : sLk M.1.cls ix M' 3) (hm : M'.2.2.2.2 = []) (hh : M.2.2.2.2 = []) (hd : decode M.2.1 pc = .ok (.invokestatic ix, 3)) (sp : Sp Γ R' M' [v1, v2, v3] σ n (qA X)) (kk : ∀ v σ' n', X v σ' n' → Go Γ R M Q (cells + R'.cells) (slots + R'.slots) (pc + 3) lv (.ref v :: rest) σ' n') (hR : R'.frames + 1 ≤ R.frames ∧ 8 + (M'.2.2.1 + 11) + R'.locals ≤ R.locals := by exact rm_ok (Nat.le_of_ble_eq_true rfl) (by omega)) (hC : cells + R'.cells ≤ R.cells ∧ slots + R'.slots ≤ R.slots := by exact ⟨Nat.le_of_ble_eq_true rfl, Nat.le_of_ble_eq_true rfl⟩) (hst : (rest.map fun v => v.category).sum ≤ 8 := by exact Nat.le_of_ble_eq_true rfl) : Go Γ R M Q cells slots pc lv (v3 :: v2 :: v1 :: rest) σ n := by
  exact go_cs (As := [v1, v2, v3]) hv hm rfl hh hd sp hR hC hst (fun r σ' n' h => by
    obtain ⟨v, e1, h⟩ := h
    cases e1
    exact kk v σ' n' h) (fun x σ' n' h => by
    obtain ⟨v, e1, -⟩ := h
    cases e1)
theorem go_S3Ax {v1 v2 v3 : Value} {ix : Nat} {X : Nat → sto → Nat → Prop} (hv : sLk M.1.cls ix M' 3) (hm : M'.2.2.2.2 = []) (hh : M.2.2.2.2 = []) (hd : decode M.2.1 pc = .ok (.invokestatic ix, 3)) (sp : Sp Γ R' M' [v1, v2, v3] σ n (qT (qA X) E)) (kx : ∀ x σ' n', E x σ' n' → Q (.inr x) σ' n') (kk : ∀ v σ' n', X v σ' n' → Go Γ R M Q (cells + R'.cells) (slots + R'.slots) (pc + 3) lv (.ref v :: rest) σ' n') (hR : R'.frames + 1 ≤ R.frames ∧ 8 + (M'.2.2.1 + 11) + R'.locals ≤ R.locals := by exact rm_ok (Nat.le_of_ble_eq_true rfl) (by omega)) (hC : cells + R'.cells ≤ R.cells ∧ slots + R'.slots ≤ R.slots := by exact ⟨Nat.le_of_ble_eq_true rfl, Nat.le_of_ble_eq_true rfl⟩) (hst : (rest.map fun v => v.category).sum ≤ 8 := by exact Nat.le_of_ble_eq_true rfl) : Go Γ R M Q cells slots pc lv (v3 :: v2 :: v1 :: rest) σ n := by
  exact go_cs (As := [v1, v2, v3]) hv hm rfl hh hd sp hR hC hst (fun r σ' n' h => by
    rcases h with h | ⟨x, e2, -⟩
    · obtain ⟨v, e1, h⟩ := h
      cases e1
      exact kk v σ' n' h
    · cases e2) (fun x σ' n' h => by
    rcases h with h | ⟨y, e2, h⟩
    · obtain ⟨v, e1, -⟩ := h
      cases e1
    · cases e2
      exact kx x σ' n' h)
theorem go_S3V {v1 v2 v3 : Value} {ix : Nat} {X : sto → Nat → Prop} (hv : sLk M.1.cls ix M' 3) (hm : M'.2.2.2.2 = []) (hh : M.2.2.2.2 = []) (hd : decode M.2.1 pc = .ok (.invokestatic ix, 3)) (sp : Sp Γ R' M' [v1, v2, v3] σ n (qV X)) (kk : ∀ σ' n', X σ' n' → Go Γ R M Q (cells + R'.cells) (slots + R'.slots) (pc + 3) lv (rest) σ' n') (hR : R'.frames + 1 ≤ R.frames ∧ 8 + (M'.2.2.1 + 11) + R'.locals ≤ R.locals := by exact rm_ok (Nat.le_of_ble_eq_true rfl) (by omega)) (hC : cells + R'.cells ≤ R.cells ∧ slots + R'.slots ≤ R.slots := by exact ⟨Nat.le_of_ble_eq_true rfl, Nat.le_of_ble_eq_true rfl⟩) (hst : (rest.map fun v => v.category).sum ≤ 8 := by exact Nat.le_of_ble_eq_true rfl) : Go Γ R M Q cells slots pc lv (v3 :: v2 :: v1 :: rest) σ n := by
  exact go_cs (As := [v1, v2, v3]) hv hm rfl hh hd sp hR hC hst (fun r σ' n' h => by
    obtain ⟨e1, h⟩ := h
    cases e1
    exact kk σ' n' h) (fun x σ' n' h => by
    obtain ⟨e1, -⟩ := h
    cases e1)
theorem go_S3Vx {v1 v2 v3 : Value} {ix : Nat} {X : sto → Nat → Prop} (hv : sLk M.1.cls ix M' 3) (hm : M'.2.2.2.2 = []) (hh : M.2.2.2.2 = []) (hd : decode M.2.1 pc = .ok (.invokestatic ix, 3)) (sp : Sp Γ R' M' [v1, v2, v3] σ n (qT (qV X) E)) (kx : ∀ x σ' n', E x σ' n' → Q (.inr x) σ' n') (kk : ∀ σ' n', X σ' n' → Go Γ R M Q (cells + R'.cells) (slots + R'.slots) (pc + 3) lv (rest) σ' n') (hR : R'.frames + 1 ≤ R.frames ∧ 8 + (M'.2.2.1 + 11) + R'.locals ≤ R.locals := by exact rm_ok (Nat.le_of_ble_eq_true rfl) (by omega)) (hC : cells + R'.cells ≤ R.cells ∧ slots + R'.slots ≤ R.slots := by exact ⟨Nat.le_of_ble_eq_true rfl, Nat.le_of_ble_eq_true rfl⟩) (hst : (rest.map fun v => v.category).sum ≤ 8 := by exact Nat.le_of_ble_eq_true rfl) : Go Γ R M Q cells slots pc lv (v3 :: v2 :: v1 :: rest) σ n := by
  exact go_cs (As := [v1, v2, v3]) hv hm rfl hh hd sp hR hC hst (fun r σ' n' h => by
    rcases h with h | ⟨x, e2, -⟩
    · obtain ⟨e1, h⟩ := h
      cases e1
      exact kk σ' n' h
    · cases e2) (fun x σ' n' h => by
    rcases h with h | ⟨y, e2, h⟩
    · obtain ⟨e1, -⟩ := h
      cases e1
    · cases e2
      exact kx x σ' n' h)
theorem go_S3P {v1 v2 v3 : Value} {ix : Nat} {r : Int32} (hv : sLk M.1.cls ix M' 3) (hm : M'.2.2.2.2 = []) (hh : M.2.2.2.2 = []) (hd : decode M.2.1 pc = .ok (.invokestatic ix, 3)) (sp : Sp Γ R' M' [v1, v2, v3] σ n (qP r σ n)) (kk : Go Γ R M Q (cells + R'.cells) (slots + R'.slots) (pc + 3) lv (.int r :: rest) σ n) (hR : R'.frames + 1 ≤ R.frames ∧ 8 + (M'.2.2.1 + 11) + R'.locals ≤ R.locals := by exact rm_ok (Nat.le_of_ble_eq_true rfl) (by omega)) (hC : cells + R'.cells ≤ R.cells ∧ slots + R'.slots ≤ R.slots := by exact ⟨Nat.le_of_ble_eq_true rfl, Nat.le_of_ble_eq_true rfl⟩) (hst : (rest.map fun v => v.category).sum ≤ 8 := by exact Nat.le_of_ble_eq_true rfl) : Go Γ R M Q cells slots pc lv (v3 :: v2 :: v1 :: rest) σ n := go_S3I hv hm hh hd sp (fun v σ' n' h => by obtain ⟨rfl, rfl, rfl⟩ := h; exact kk) hR hC hst
theorem go_S3PL {v1 v2 v3 : Value} {ix : Nat} {r : Int64} (hv : sLk M.1.cls ix M' 3) (hm : M'.2.2.2.2 = []) (hh : M.2.2.2.2 = []) (hd : decode M.2.1 pc = .ok (.invokestatic ix, 3)) (sp : Sp Γ R' M' [v1, v2, v3] σ n (qPL r σ n)) (kk : Go Γ R M Q (cells + R'.cells) (slots + R'.slots) (pc + 3) lv (.long r :: rest) σ n) (hR : R'.frames + 1 ≤ R.frames ∧ 8 + (M'.2.2.1 + 11) + R'.locals ≤ R.locals := by exact rm_ok (Nat.le_of_ble_eq_true rfl) (by omega)) (hC : cells + R'.cells ≤ R.cells ∧ slots + R'.slots ≤ R.slots := by exact ⟨Nat.le_of_ble_eq_true rfl, Nat.le_of_ble_eq_true rfl⟩) (hst : (rest.map fun v => v.category).sum ≤ 8 := by exact Nat.le_of_ble_eq_true rfl) : Go Γ R M Q cells slots pc lv (v3 :: v2 :: v1 :: rest) σ n := go_S3L hv hm hh hd sp (fun v σ' n' h => by obtain ⟨rfl, rfl, rfl⟩ := h; exact kk) hR hC hst
theorem go_I3V {v1 v2 v3 : Value} {b : Nat} {ix : Nat} {X : sto → Nat → Prop} (hv : iLk M.1.cls ix M' 3) (hm : M'.2.2.2.2 = []) (hret : M'.2.2.2.1 = none) (hd : decode M.2.1 pc = .ok (.invokespecial ix, 3)) (sp : Sp Γ R' M' (.ref b :: [v1, v2, v3]) σ n (qV X)) (kk : ∀ σ' n', X σ' n' → Go Γ R M Q (cells + R'.cells) (slots + R'.slots) (pc + 3) lv (rest) σ' n') (hR : R'.frames + 1 ≤ R.frames ∧ 8 + (M'.2.2.1 + 11) + R'.locals ≤ R.locals := by exact rm_ok (Nat.le_of_ble_eq_true rfl) (by omega)) (hC : cells + R'.cells ≤ R.cells ∧ slots + R'.slots ≤ R.slots := by exact ⟨Nat.le_of_ble_eq_true rfl, Nat.le_of_ble_eq_true rfl⟩) (hst : (rest.map fun v => v.category).sum ≤ 8 := by exact Nat.le_of_ble_eq_true rfl) : Go Γ R M Q cells slots pc lv (v3 :: v2 :: v1 :: .ref b :: rest) σ n := by
  exact go_ci (As := [v1, v2, v3]) hv hm hret rfl hd sp (fun x σ' n' h => by
    obtain ⟨e1, -⟩ := h
    cases e1) hR hC hst (fun r σ' n' h => by
    obtain ⟨e1, h⟩ := h
    cases e1
    exact kk σ' n' h)
theorem go_V4I {v1 v2 v3 v4 : Value} {b : Nat} {ix : Nat} {X : Int32 → sto → Nat → Prop} (hv : vLk M.1.cls ix M' 4) (hm : M'.2.2.2.2 = []) (hh : M.2.2.2.2 = []) (hrv : rcv Γ σ n b M'.1.cls) (hd : decode M.2.1 pc = .ok (.invokevirtual ix, 3)) (sp : Sp Γ R' M' (.ref b :: [v1, v2, v3, v4]) σ n (qI X)) (kk : ∀ v σ' n', X v σ' n' → Go Γ R M Q (cells + R'.cells) (slots + R'.slots) (pc + 3) lv (.int v :: rest) σ' n') (hR : R'.frames + 1 ≤ R.frames ∧ 8 + (M'.2.2.1 + 11) + R'.locals ≤ R.locals := by exact rm_ok (Nat.le_of_ble_eq_true rfl) (by omega)) (hC : cells + R'.cells ≤ R.cells ∧ slots + R'.slots ≤ R.slots := by exact ⟨Nat.le_of_ble_eq_true rfl, Nat.le_of_ble_eq_true rfl⟩) (hst : (rest.map fun v => v.category).sum ≤ 8 := by exact Nat.le_of_ble_eq_true rfl) : Go Γ R M Q cells slots pc lv (v4 :: v3 :: v2 :: v1 :: .ref b :: rest) σ n := by
  exact go_cv (As := [v1, v2, v3, v4]) hv hm rfl hh hrv hd sp hR hC hst (fun r σ' n' h => by
    obtain ⟨v, e1, h⟩ := h
    cases e1
    exact kk v σ' n' h) (fun x σ' n' h => by
    obtain ⟨v, e1, -⟩ := h
    cases e1)
theorem go_V4Ix {v1 v2 v3 v4 : Value} {b : Nat} {ix : Nat} {X : Int32 → sto → Nat → Prop} (hv : vLk M.1.cls ix M' 4) (hm : M'.2.2.2.2 = []) (hh : M.2.2.2.2 = []) (hrv : rcv Γ σ n b M'.1.cls) (hd : decode M.2.1 pc = .ok (.invokevirtual ix, 3)) (sp : Sp Γ R' M' (.ref b :: [v1, v2, v3, v4]) σ n (qT (qI X) E)) (kx : ∀ x σ' n', E x σ' n' → Q (.inr x) σ' n') (kk : ∀ v σ' n', X v σ' n' → Go Γ R M Q (cells + R'.cells) (slots + R'.slots) (pc + 3) lv (.int v :: rest) σ' n') (hR : R'.frames + 1 ≤ R.frames ∧ 8 + (M'.2.2.1 + 11) + R'.locals ≤ R.locals := by exact rm_ok (Nat.le_of_ble_eq_true rfl) (by omega)) (hC : cells + R'.cells ≤ R.cells ∧ slots + R'.slots ≤ R.slots := by exact ⟨Nat.le_of_ble_eq_true rfl, Nat.le_of_ble_eq_true rfl⟩) (hst : (rest.map fun v => v.category).sum ≤ 8 := by exact Nat.le_of_ble_eq_true rfl) : Go Γ R M Q cells slots pc lv (v4 :: v3 :: v2 :: v1 :: .ref b :: rest) σ n := by
  exact go_cv (As := [v1, v2, v3, v4]) hv hm rfl hh hrv hd sp hR hC hst (fun r σ' n' h => by
    rcases h with h | ⟨x, e2, -⟩
    · obtain ⟨v, e1, h⟩ := h
      cases e1
      exact kk v σ' n' h
    · cases e2) (fun x σ' n' h => by
    rcases h with h | ⟨y, e2, h⟩
    · obtain ⟨v, e1, -⟩ := h
      cases e1
    · cases e2
      exact kx x σ' n' h)
theorem go_V4L {v1 v2 v3 v4 : Value} {b : Nat} {ix : Nat} {X : Int64 → sto → Nat → Prop} (hv : vLk M.1.cls ix M' 4) (hm : M'.2.2.2.2 = []) (hh : M.2.2.2.2 = []) (hrv : rcv Γ σ n b M'.1.cls) (hd : decode M.2.1 pc = .ok (.invokevirtual ix, 3)) (sp : Sp Γ R' M' (.ref b :: [v1, v2, v3, v4]) σ n (qL X)) (kk : ∀ v σ' n', X v σ' n' → Go Γ R M Q (cells + R'.cells) (slots + R'.slots) (pc + 3) lv (.long v :: rest) σ' n') (hR : R'.frames + 1 ≤ R.frames ∧ 8 + (M'.2.2.1 + 11) + R'.locals ≤ R.locals := by exact rm_ok (Nat.le_of_ble_eq_true rfl) (by omega)) (hC : cells + R'.cells ≤ R.cells ∧ slots + R'.slots ≤ R.slots := by exact ⟨Nat.le_of_ble_eq_true rfl, Nat.le_of_ble_eq_true rfl⟩) (hst : (rest.map fun v => v.category).sum ≤ 8 := by exact Nat.le_of_ble_eq_true rfl) : Go Γ R M Q cells slots pc lv (v4 :: v3 :: v2 :: v1 :: .ref b :: rest) σ n := by
  exact go_cv (As := [v1, v2, v3, v4]) hv hm rfl hh hrv hd sp hR hC hst (fun r σ' n' h => by
    obtain ⟨v, e1, h⟩ := h
    cases e1
    exact kk v σ' n' h) (fun x σ' n' h => by
    obtain ⟨v, e1, -⟩ := h
    cases e1)
theorem go_V4Lx {v1 v2 v3 v4 : Value} {b : Nat} {ix : Nat} {X : Int64 → sto → Nat → Prop} (hv : vLk M.1.cls ix M' 4) (hm : M'.2.2.2.2 = []) (hh : M.2.2.2.2 = []) (hrv : rcv Γ σ n b M'.1.cls) (hd : decode M.2.1 pc = .ok (.invokevirtual ix, 3)) (sp : Sp Γ R' M' (.ref b :: [v1, v2, v3, v4]) σ n (qT (qL X) E)) (kx : ∀ x σ' n', E x σ' n' → Q (.inr x) σ' n') (kk : ∀ v σ' n', X v σ' n' → Go Γ R M Q (cells + R'.cells) (slots + R'.slots) (pc + 3) lv (.long v :: rest) σ' n') (hR : R'.frames + 1 ≤ R.frames ∧ 8 + (M'.2.2.1 + 11) + R'.locals ≤ R.locals := by exact rm_ok (Nat.le_of_ble_eq_true rfl) (by omega)) (hC : cells + R'.cells ≤ R.cells ∧ slots + R'.slots ≤ R.slots := by exact ⟨Nat.le_of_ble_eq_true rfl, Nat.le_of_ble_eq_true rfl⟩) (hst : (rest.map fun v => v.category).sum ≤ 8 := by exact Nat.le_of_ble_eq_true rfl) : Go Γ R M Q cells slots pc lv (v4 :: v3 :: v2 :: v1 :: .ref b :: rest) σ n := by
  exact go_cv (As := [v1, v2, v3, v4]) hv hm rfl hh hrv hd sp hR hC hst (fun r σ' n' h => by
    rcases h with h | ⟨x, e2, -⟩
    · obtain ⟨v, e1, h⟩ := h
      cases e1
      exact kk v σ' n' h
    · cases e2) (fun x σ' n' h => by
    rcases h with h | ⟨y, e2, h⟩
    · obtain ⟨v, e1, -⟩ := h
      cases e1
    · cases e2
      exact kx x σ' n' h)
theorem go_V4A {v1 v2 v3 v4 : Value} {b : Nat} {ix : Nat} {X : Nat → sto → Nat → Prop} (hv : vLk M.1.cls ix M' 4) (hm : M'.2.2.2.2 = []) (hh : M.2.2.2.2 = []) (hrv : rcv Γ σ n b M'.1.cls) (hd : decode M.2.1 pc = .ok (.invokevirtual ix, 3)) (sp : Sp Γ R' M' (.ref b :: [v1, v2, v3, v4]) σ n (qA X)) (kk : ∀ v σ' n', X v σ' n' → Go Γ R M Q (cells + R'.cells) (slots + R'.slots) (pc + 3) lv (.ref v :: rest) σ' n') (hR : R'.frames + 1 ≤ R.frames ∧ 8 + (M'.2.2.1 + 11) + R'.locals ≤ R.locals := by exact rm_ok (Nat.le_of_ble_eq_true rfl) (by omega)) (hC : cells + R'.cells ≤ R.cells ∧ slots + R'.slots ≤ R.slots := by exact ⟨Nat.le_of_ble_eq_true rfl, Nat.le_of_ble_eq_true rfl⟩) (hst : (rest.map fun v => v.category).sum ≤ 8 := by exact Nat.le_of_ble_eq_true rfl) : Go Γ R M Q cells slots pc lv (v4 :: v3 :: v2 :: v1 :: .ref b :: rest) σ n := by
  exact go_cv (As := [v1, v2, v3, v4]) hv hm rfl hh hrv hd sp hR hC hst (fun r σ' n' h => by
    obtain ⟨v, e1, h⟩ := h
    cases e1
    exact kk v σ' n' h) (fun x σ' n' h => by
    obtain ⟨v, e1, -⟩ := h
    cases e1)
theorem go_V4Ax {v1 v2 v3 v4 : Value} {b : Nat} {ix : Nat} {X : Nat → sto → Nat → Prop} (hv : vLk M.1.cls ix M' 4) (hm : M'.2.2.2.2 = []) (hh : M.2.2.2.2 = []) (hrv : rcv Γ σ n b M'.1.cls) (hd : decode M.2.1 pc = .ok (.invokevirtual ix, 3)) (sp : Sp Γ R' M' (.ref b :: [v1, v2, v3, v4]) σ n (qT (qA X) E)) (kx : ∀ x σ' n', E x σ' n' → Q (.inr x) σ' n') (kk : ∀ v σ' n', X v σ' n' → Go Γ R M Q (cells + R'.cells) (slots + R'.slots) (pc + 3) lv (.ref v :: rest) σ' n') (hR : R'.frames + 1 ≤ R.frames ∧ 8 + (M'.2.2.1 + 11) + R'.locals ≤ R.locals := by exact rm_ok (Nat.le_of_ble_eq_true rfl) (by omega)) (hC : cells + R'.cells ≤ R.cells ∧ slots + R'.slots ≤ R.slots := by exact ⟨Nat.le_of_ble_eq_true rfl, Nat.le_of_ble_eq_true rfl⟩) (hst : (rest.map fun v => v.category).sum ≤ 8 := by exact Nat.le_of_ble_eq_true rfl) : Go Γ R M Q cells slots pc lv (v4 :: v3 :: v2 :: v1 :: .ref b :: rest) σ n := by
  exact go_cv (As := [v1, v2, v3, v4]) hv hm rfl hh hrv hd sp hR hC hst (fun r σ' n' h => by
    rcases h with h | ⟨x, e2, -⟩
    · obtain ⟨v, e1, h⟩ := h
      cases e1
      exact kk v σ' n' h
    · cases e2) (fun x σ' n' h => by
    rcases h with h | ⟨y, e2, h⟩
    · obtain ⟨v, e1, -⟩ := h
      cases e1
    · cases e2
      exact kx x σ' n' h)
theorem go_V4V {v1 v2 v3 v4 : Value} {b : Nat} {ix : Nat} {X : sto → Nat → Prop} (hv : vLk M.1.cls ix M' 4) (hm : M'.2.2.2.2 = []) (hh : M.2.2.2.2 = []) (hrv : rcv Γ σ n b M'.1.cls) (hd : decode M.2.1 pc = .ok (.invokevirtual ix, 3)) (sp : Sp Γ R' M' (.ref b :: [v1, v2, v3, v4]) σ n (qV X)) (kk : ∀ σ' n', X σ' n' → Go Γ R M Q (cells + R'.cells) (slots + R'.slots) (pc + 3) lv (rest) σ' n') (hR : R'.frames + 1 ≤ R.frames ∧ 8 + (M'.2.2.1 + 11) + R'.locals ≤ R.locals := by exact rm_ok (Nat.le_of_ble_eq_true rfl) (by omega)) (hC : cells + R'.cells ≤ R.cells ∧ slots + R'.slots ≤ R.slots := by exact ⟨Nat.le_of_ble_eq_true rfl, Nat.le_of_ble_eq_true rfl⟩) (hst : (rest.map fun v => v.category).sum ≤ 8 := by exact Nat.le_of_ble_eq_true rfl) : Go Γ R M Q cells slots pc lv (v4 :: v3 :: v2 :: v1 :: .ref b :: rest) σ n := by
  exact go_cv (As := [v1, v2, v3, v4]) hv hm rfl hh hrv hd sp hR hC hst (fun r σ' n' h => by
    obtain ⟨e1, h⟩ := h
    cases e1
    exact kk σ' n' h) (fun x σ' n' h => by
    obtain ⟨e1, -⟩ := h
    cases e1)
theorem go_V4Vx {v1 v2 v3 v4 : Value} {b : Nat} {ix : Nat} {X : sto → Nat → Prop} (hv : vLk M.1.cls ix M' 4) (hm : M'.2.2.2.2 = []) (hh : M.2.2.2.2 = []) (hrv : rcv Γ σ n b M'.1.cls) (hd : decode M.2.1 pc = .ok (.invokevirtual ix, 3)) (sp : Sp Γ R' M' (.ref b :: [v1, v2, v3, v4]) σ n (qT (qV X) E)) (kx : ∀ x σ' n', E x σ' n' → Q (.inr x) σ' n') (kk : ∀ σ' n', X σ' n' → Go Γ R M Q (cells + R'.cells) (slots + R'.slots) (pc + 3) lv (rest) σ' n') (hR : R'.frames + 1 ≤ R.frames ∧ 8 + (M'.2.2.1 + 11) + R'.locals ≤ R.locals := by exact rm_ok (Nat.le_of_ble_eq_true rfl) (by omega)) (hC : cells + R'.cells ≤ R.cells ∧ slots + R'.slots ≤ R.slots := by exact ⟨Nat.le_of_ble_eq_true rfl, Nat.le_of_ble_eq_true rfl⟩) (hst : (rest.map fun v => v.category).sum ≤ 8 := by exact Nat.le_of_ble_eq_true rfl) : Go Γ R M Q cells slots pc lv (v4 :: v3 :: v2 :: v1 :: .ref b :: rest) σ n := by
  exact go_cv (As := [v1, v2, v3, v4]) hv hm rfl hh hrv hd sp hR hC hst (fun r σ' n' h => by
    rcases h with h | ⟨x, e2, -⟩
    · obtain ⟨e1, h⟩ := h
      cases e1
      exact kk σ' n' h
    · cases e2) (fun x σ' n' h => by
    rcases h with h | ⟨y, e2, h⟩
    · obtain ⟨e1, -⟩ := h
      cases e1
    · cases e2
      exact kx x σ' n' h)
theorem go_V4P {v1 v2 v3 v4 : Value} {b : Nat} {ix : Nat} {r : Int32} (hv : vLk M.1.cls ix M' 4) (hm : M'.2.2.2.2 = []) (hh : M.2.2.2.2 = []) (hrv : rcv Γ σ n b M'.1.cls) (hd : decode M.2.1 pc = .ok (.invokevirtual ix, 3)) (sp : Sp Γ R' M' (.ref b :: [v1, v2, v3, v4]) σ n (qP r σ n)) (kk : Go Γ R M Q (cells + R'.cells) (slots + R'.slots) (pc + 3) lv (.int r :: rest) σ n) (hR : R'.frames + 1 ≤ R.frames ∧ 8 + (M'.2.2.1 + 11) + R'.locals ≤ R.locals := by exact rm_ok (Nat.le_of_ble_eq_true rfl) (by omega)) (hC : cells + R'.cells ≤ R.cells ∧ slots + R'.slots ≤ R.slots := by exact ⟨Nat.le_of_ble_eq_true rfl, Nat.le_of_ble_eq_true rfl⟩) (hst : (rest.map fun v => v.category).sum ≤ 8 := by exact Nat.le_of_ble_eq_true rfl) : Go Γ R M Q cells slots pc lv (v4 :: v3 :: v2 :: v1 :: .ref b :: rest) σ n := go_V4I hv hm hh hrv hd sp (fun v σ' n' h => by obtain ⟨rfl, rfl, rfl⟩ := h; exact kk) hR hC hst
theorem go_V4PL {v1 v2 v3 v4 : Value} {b : Nat} {ix : Nat} {r : Int64} (hv : vLk M.1.cls ix M' 4) (hm : M'.2.2.2.2 = []) (hh : M.2.2.2.2 = []) (hrv : rcv Γ σ n b M'.1.cls) (hd : decode M.2.1 pc = .ok (.invokevirtual ix, 3)) (sp : Sp Γ R' M' (.ref b :: [v1, v2, v3, v4]) σ n (qPL r σ n)) (kk : Go Γ R M Q (cells + R'.cells) (slots + R'.slots) (pc + 3) lv (.long r :: rest) σ n) (hR : R'.frames + 1 ≤ R.frames ∧ 8 + (M'.2.2.1 + 11) + R'.locals ≤ R.locals := by exact rm_ok (Nat.le_of_ble_eq_true rfl) (by omega)) (hC : cells + R'.cells ≤ R.cells ∧ slots + R'.slots ≤ R.slots := by exact ⟨Nat.le_of_ble_eq_true rfl, Nat.le_of_ble_eq_true rfl⟩) (hst : (rest.map fun v => v.category).sum ≤ 8 := by exact Nat.le_of_ble_eq_true rfl) : Go Γ R M Q cells slots pc lv (v4 :: v3 :: v2 :: v1 :: .ref b :: rest) σ n := go_V4L hv hm hh hrv hd sp (fun v σ' n' h => by obtain ⟨rfl, rfl, rfl⟩ := h; exact kk) hR hC hst
theorem go_S4I {v1 v2 v3 v4 : Value} {ix : Nat} {X : Int32 → sto → Nat → Prop} (hv : sLk M.1.cls ix M' 4) (hm : M'.2.2.2.2 = []) (hh : M.2.2.2.2 = []) (hd : decode M.2.1 pc = .ok (.invokestatic ix, 3)) (sp : Sp Γ R' M' [v1, v2, v3, v4] σ n (qI X)) (kk : ∀ v σ' n', X v σ' n' → Go Γ R M Q (cells + R'.cells) (slots + R'.slots) (pc + 3) lv (.int v :: rest) σ' n') (hR : R'.frames + 1 ≤ R.frames ∧ 8 + (M'.2.2.1 + 11) + R'.locals ≤ R.locals := by exact rm_ok (Nat.le_of_ble_eq_true rfl) (by omega)) (hC : cells + R'.cells ≤ R.cells ∧ slots + R'.slots ≤ R.slots := by exact ⟨Nat.le_of_ble_eq_true rfl, Nat.le_of_ble_eq_true rfl⟩) (hst : (rest.map fun v => v.category).sum ≤ 8 := by exact Nat.le_of_ble_eq_true rfl) : Go Γ R M Q cells slots pc lv (v4 :: v3 :: v2 :: v1 :: rest) σ n := by
  exact go_cs (As := [v1, v2, v3, v4]) hv hm rfl hh hd sp hR hC hst (fun r σ' n' h => by
    obtain ⟨v, e1, h⟩ := h
    cases e1
    exact kk v σ' n' h) (fun x σ' n' h => by
    obtain ⟨v, e1, -⟩ := h
    cases e1)
theorem go_S4Ix {v1 v2 v3 v4 : Value} {ix : Nat} {X : Int32 → sto → Nat → Prop} (hv : sLk M.1.cls ix M' 4) (hm : M'.2.2.2.2 = []) (hh : M.2.2.2.2 = []) (hd : decode M.2.1 pc = .ok (.invokestatic ix, 3)) (sp : Sp Γ R' M' [v1, v2, v3, v4] σ n (qT (qI X) E)) (kx : ∀ x σ' n', E x σ' n' → Q (.inr x) σ' n') (kk : ∀ v σ' n', X v σ' n' → Go Γ R M Q (cells + R'.cells) (slots + R'.slots) (pc + 3) lv (.int v :: rest) σ' n') (hR : R'.frames + 1 ≤ R.frames ∧ 8 + (M'.2.2.1 + 11) + R'.locals ≤ R.locals := by exact rm_ok (Nat.le_of_ble_eq_true rfl) (by omega)) (hC : cells + R'.cells ≤ R.cells ∧ slots + R'.slots ≤ R.slots := by exact ⟨Nat.le_of_ble_eq_true rfl, Nat.le_of_ble_eq_true rfl⟩) (hst : (rest.map fun v => v.category).sum ≤ 8 := by exact Nat.le_of_ble_eq_true rfl) : Go Γ R M Q cells slots pc lv (v4 :: v3 :: v2 :: v1 :: rest) σ n := by
  exact go_cs (As := [v1, v2, v3, v4]) hv hm rfl hh hd sp hR hC hst (fun r σ' n' h => by
    rcases h with h | ⟨x, e2, -⟩
    · obtain ⟨v, e1, h⟩ := h
      cases e1
      exact kk v σ' n' h
    · cases e2) (fun x σ' n' h => by
    rcases h with h | ⟨y, e2, h⟩
    · obtain ⟨v, e1, -⟩ := h
      cases e1
    · cases e2
      exact kx x σ' n' h)
theorem go_S4L {v1 v2 v3 v4 : Value} {ix : Nat} {X : Int64 → sto → Nat → Prop} (hv : sLk M.1.cls ix M' 4) (hm : M'.2.2.2.2 = []) (hh : M.2.2.2.2 = []) (hd : decode M.2.1 pc = .ok (.invokestatic ix, 3)) (sp : Sp Γ R' M' [v1, v2, v3, v4] σ n (qL X)) (kk : ∀ v σ' n', X v σ' n' → Go Γ R M Q (cells + R'.cells) (slots + R'.slots) (pc + 3) lv (.long v :: rest) σ' n') (hR : R'.frames + 1 ≤ R.frames ∧ 8 + (M'.2.2.1 + 11) + R'.locals ≤ R.locals := by exact rm_ok (Nat.le_of_ble_eq_true rfl) (by omega)) (hC : cells + R'.cells ≤ R.cells ∧ slots + R'.slots ≤ R.slots := by exact ⟨Nat.le_of_ble_eq_true rfl, Nat.le_of_ble_eq_true rfl⟩) (hst : (rest.map fun v => v.category).sum ≤ 8 := by exact Nat.le_of_ble_eq_true rfl) : Go Γ R M Q cells slots pc lv (v4 :: v3 :: v2 :: v1 :: rest) σ n := by
  exact go_cs (As := [v1, v2, v3, v4]) hv hm rfl hh hd sp hR hC hst (fun r σ' n' h => by
    obtain ⟨v, e1, h⟩ := h
    cases e1
    exact kk v σ' n' h) (fun x σ' n' h => by
    obtain ⟨v, e1, -⟩ := h
    cases e1)
theorem go_S4Lx {v1 v2 v3 v4 : Value} {ix : Nat} {X : Int64 → sto → Nat → Prop} (hv : sLk M.1.cls ix M' 4) (hm : M'.2.2.2.2 = []) (hh : M.2.2.2.2 = []) (hd : decode M.2.1 pc = .ok (.invokestatic ix, 3)) (sp : Sp Γ R' M' [v1, v2, v3, v4] σ n (qT (qL X) E)) (kx : ∀ x σ' n', E x σ' n' → Q (.inr x) σ' n') (kk : ∀ v σ' n', X v σ' n' → Go Γ R M Q (cells + R'.cells) (slots + R'.slots) (pc + 3) lv (.long v :: rest) σ' n') (hR : R'.frames + 1 ≤ R.frames ∧ 8 + (M'.2.2.1 + 11) + R'.locals ≤ R.locals := by exact rm_ok (Nat.le_of_ble_eq_true rfl) (by omega)) (hC : cells + R'.cells ≤ R.cells ∧ slots + R'.slots ≤ R.slots := by exact ⟨Nat.le_of_ble_eq_true rfl, Nat.le_of_ble_eq_true rfl⟩) (hst : (rest.map fun v => v.category).sum ≤ 8 := by exact Nat.le_of_ble_eq_true rfl) : Go Γ R M Q cells slots pc lv (v4 :: v3 :: v2 :: v1 :: rest) σ n := by
  exact go_cs (As := [v1, v2, v3, v4]) hv hm rfl hh hd sp hR hC hst (fun r σ' n' h => by
    rcases h with h | ⟨x, e2, -⟩
    · obtain ⟨v, e1, h⟩ := h
      cases e1
      exact kk v σ' n' h
    · cases e2) (fun x σ' n' h => by
    rcases h with h | ⟨y, e2, h⟩
    · obtain ⟨v, e1, -⟩ := h
      cases e1
    · cases e2
      exact kx x σ' n' h)
theorem go_S4A {v1 v2 v3 v4 : Value} {ix : Nat} {X : Nat → sto → Nat → Prop} (hv : sLk M.1.cls ix M' 4) (hm : M'.2.2.2.2 = []) (hh : M.2.2.2.2 = []) (hd : decode M.2.1 pc = .ok (.invokestatic ix, 3)) (sp : Sp Γ R' M' [v1, v2, v3, v4] σ n (qA X)) (kk : ∀ v σ' n', X v σ' n' → Go Γ R M Q (cells + R'.cells) (slots + R'.slots) (pc + 3) lv (.ref v :: rest) σ' n') (hR : R'.frames + 1 ≤ R.frames ∧ 8 + (M'.2.2.1 + 11) + R'.locals ≤ R.locals := by exact rm_ok (Nat.le_of_ble_eq_true rfl) (by omega)) (hC : cells + R'.cells ≤ R.cells ∧ slots + R'.slots ≤ R.slots := by exact ⟨Nat.le_of_ble_eq_true rfl, Nat.le_of_ble_eq_true rfl⟩) (hst : (rest.map fun v => v.category).sum ≤ 8 := by exact Nat.le_of_ble_eq_true rfl) : Go Γ R M Q cells slots pc lv (v4 :: v3 :: v2 :: v1 :: rest) σ n := by
  exact go_cs (As := [v1, v2, v3, v4]) hv hm rfl hh hd sp hR hC hst (fun r σ' n' h => by
    obtain ⟨v, e1, h⟩ := h
    cases e1
    exact kk v σ' n' h) (fun x σ' n' h => by
    obtain ⟨v, e1, -⟩ := h
    cases e1)
theorem go_S4Ax {v1 v2 v3 v4 : Value} {ix : Nat} {X : Nat → sto → Nat → Prop} (hv : sLk M.1.cls ix M' 4) (hm : M'.2.2.2.2 = []) (hh : M.2.2.2.2 = []) (hd : decode M.2.1 pc = .ok (.invokestatic ix, 3)) (sp : Sp Γ R' M' [v1, v2, v3, v4] σ n (qT (qA X) E)) (kx : ∀ x σ' n', E x σ' n' → Q (.inr x) σ' n') (kk : ∀ v σ' n', X v σ' n' → Go Γ R M Q (cells + R'.cells) (slots + R'.slots) (pc + 3) lv (.ref v :: rest) σ' n') (hR : R'.frames + 1 ≤ R.frames ∧ 8 + (M'.2.2.1 + 11) + R'.locals ≤ R.locals := by exact rm_ok (Nat.le_of_ble_eq_true rfl) (by omega)) (hC : cells + R'.cells ≤ R.cells ∧ slots + R'.slots ≤ R.slots := by exact ⟨Nat.le_of_ble_eq_true rfl, Nat.le_of_ble_eq_true rfl⟩) (hst : (rest.map fun v => v.category).sum ≤ 8 := by exact Nat.le_of_ble_eq_true rfl) : Go Γ R M Q cells slots pc lv (v4 :: v3 :: v2 :: v1 :: rest) σ n := by
  exact go_cs (As := [v1, v2, v3, v4]) hv hm rfl hh hd sp hR hC hst (fun r σ' n' h => by
    rcases h with h | ⟨x, e2, -⟩
    · obtain ⟨v, e1, h⟩ := h
      cases e1
      exact kk v σ' n' h
    · cases e2) (fun x σ' n' h => by
    rcases h with h | ⟨y, e2, h⟩
    · obtain ⟨v, e1, -⟩ := h
      cases e1
    · cases e2
      exact kx x σ' n' h)
theorem go_S4V {v1 v2 v3 v4 : Value} {ix : Nat} {X : sto → Nat → Prop} (hv : sLk M.1.cls ix M' 4) (hm : M'.2.2.2.2 = []) (hh : M.2.2.2.2 = []) (hd : decode M.2.1 pc = .ok (.invokestatic ix, 3)) (sp : Sp Γ R' M' [v1, v2, v3, v4] σ n (qV X)) (kk : ∀ σ' n', X σ' n' → Go Γ R M Q (cells + R'.cells) (slots + R'.slots) (pc + 3) lv (rest) σ' n') (hR : R'.frames + 1 ≤ R.frames ∧ 8 + (M'.2.2.1 + 11) + R'.locals ≤ R.locals := by exact rm_ok (Nat.le_of_ble_eq_true rfl) (by omega)) (hC : cells + R'.cells ≤ R.cells ∧ slots + R'.slots ≤ R.slots := by exact ⟨Nat.le_of_ble_eq_true rfl, Nat.le_of_ble_eq_true rfl⟩) (hst : (rest.map fun v => v.category).sum ≤ 8 := by exact Nat.le_of_ble_eq_true rfl) : Go Γ R M Q cells slots pc lv (v4 :: v3 :: v2 :: v1 :: rest) σ n := by
  exact go_cs (As := [v1, v2, v3, v4]) hv hm rfl hh hd sp hR hC hst (fun r σ' n' h => by
    obtain ⟨e1, h⟩ := h
    cases e1
    exact kk σ' n' h) (fun x σ' n' h => by
    obtain ⟨e1, -⟩ := h
    cases e1)
theorem go_S4Vx {v1 v2 v3 v4 : Value} {ix : Nat} {X : sto → Nat → Prop} (hv : sLk M.1.cls ix M' 4) (hm : M'.2.2.2.2 = []) (hh : M.2.2.2.2 = []) (hd : decode M.2.1 pc = .ok (.invokestatic ix, 3)) (sp : Sp Γ R' M' [v1, v2, v3, v4] σ n (qT (qV X) E)) (kx : ∀ x σ' n', E x σ' n' → Q (.inr x) σ' n') (kk : ∀ σ' n', X σ' n' → Go Γ R M Q (cells + R'.cells) (slots + R'.slots) (pc + 3) lv (rest) σ' n') (hR : R'.frames + 1 ≤ R.frames ∧ 8 + (M'.2.2.1 + 11) + R'.locals ≤ R.locals := by exact rm_ok (Nat.le_of_ble_eq_true rfl) (by omega)) (hC : cells + R'.cells ≤ R.cells ∧ slots + R'.slots ≤ R.slots := by exact ⟨Nat.le_of_ble_eq_true rfl, Nat.le_of_ble_eq_true rfl⟩) (hst : (rest.map fun v => v.category).sum ≤ 8 := by exact Nat.le_of_ble_eq_true rfl) : Go Γ R M Q cells slots pc lv (v4 :: v3 :: v2 :: v1 :: rest) σ n := by
  exact go_cs (As := [v1, v2, v3, v4]) hv hm rfl hh hd sp hR hC hst (fun r σ' n' h => by
    rcases h with h | ⟨x, e2, -⟩
    · obtain ⟨e1, h⟩ := h
      cases e1
      exact kk σ' n' h
    · cases e2) (fun x σ' n' h => by
    rcases h with h | ⟨y, e2, h⟩
    · obtain ⟨e1, -⟩ := h
      cases e1
    · cases e2
      exact kx x σ' n' h)
theorem go_S4P {v1 v2 v3 v4 : Value} {ix : Nat} {r : Int32} (hv : sLk M.1.cls ix M' 4) (hm : M'.2.2.2.2 = []) (hh : M.2.2.2.2 = []) (hd : decode M.2.1 pc = .ok (.invokestatic ix, 3)) (sp : Sp Γ R' M' [v1, v2, v3, v4] σ n (qP r σ n)) (kk : Go Γ R M Q (cells + R'.cells) (slots + R'.slots) (pc + 3) lv (.int r :: rest) σ n) (hR : R'.frames + 1 ≤ R.frames ∧ 8 + (M'.2.2.1 + 11) + R'.locals ≤ R.locals := by exact rm_ok (Nat.le_of_ble_eq_true rfl) (by omega)) (hC : cells + R'.cells ≤ R.cells ∧ slots + R'.slots ≤ R.slots := by exact ⟨Nat.le_of_ble_eq_true rfl, Nat.le_of_ble_eq_true rfl⟩) (hst : (rest.map fun v => v.category).sum ≤ 8 := by exact Nat.le_of_ble_eq_true rfl) : Go Γ R M Q cells slots pc lv (v4 :: v3 :: v2 :: v1 :: rest) σ n := go_S4I hv hm hh hd sp (fun v σ' n' h => by obtain ⟨rfl, rfl, rfl⟩ := h; exact kk) hR hC hst
theorem go_S4PL {v1 v2 v3 v4 : Value} {ix : Nat} {r : Int64} (hv : sLk M.1.cls ix M' 4) (hm : M'.2.2.2.2 = []) (hh : M.2.2.2.2 = []) (hd : decode M.2.1 pc = .ok (.invokestatic ix, 3)) (sp : Sp Γ R' M' [v1, v2, v3, v4] σ n (qPL r σ n)) (kk : Go Γ R M Q (cells + R'.cells) (slots + R'.slots) (pc + 3) lv (.long r :: rest) σ n) (hR : R'.frames + 1 ≤ R.frames ∧ 8 + (M'.2.2.1 + 11) + R'.locals ≤ R.locals := by exact rm_ok (Nat.le_of_ble_eq_true rfl) (by omega)) (hC : cells + R'.cells ≤ R.cells ∧ slots + R'.slots ≤ R.slots := by exact ⟨Nat.le_of_ble_eq_true rfl, Nat.le_of_ble_eq_true rfl⟩) (hst : (rest.map fun v => v.category).sum ≤ 8 := by exact Nat.le_of_ble_eq_true rfl) : Go Γ R M Q cells slots pc lv (v4 :: v3 :: v2 :: v1 :: rest) σ n := go_S4L hv hm hh hd sp (fun v σ' n' h => by obtain ⟨rfl, rfl, rfl⟩ := h; exact kk) hR hC hst
theorem go_I4V {v1 v2 v3 v4 : Value} {b : Nat} {ix : Nat} {X : sto → Nat → Prop} (hv : iLk M.1.cls ix M' 4) (hm : M'.2.2.2.2 = []) (hret : M'.2.2.2.1 = none) (hd : decode M.2.1 pc = .ok (.invokespecial ix, 3)) (sp : Sp Γ R' M' (.ref b :: [v1, v2, v3, v4]) σ n (qV X)) (kk : ∀ σ' n', X σ' n' → Go Γ R M Q (cells + R'.cells) (slots + R'.slots) (pc + 3) lv (rest) σ' n') (hR : R'.frames + 1 ≤ R.frames ∧ 8 + (M'.2.2.1 + 11) + R'.locals ≤ R.locals := by exact rm_ok (Nat.le_of_ble_eq_true rfl) (by omega)) (hC : cells + R'.cells ≤ R.cells ∧ slots + R'.slots ≤ R.slots := by exact ⟨Nat.le_of_ble_eq_true rfl, Nat.le_of_ble_eq_true rfl⟩) (hst : (rest.map fun v => v.category).sum ≤ 8 := by exact Nat.le_of_ble_eq_true rfl) : Go Γ R M Q cells slots pc lv (v4 :: v3 :: v2 :: v1 :: .ref b :: rest) σ n := by
  exact go_ci (As := [v1, v2, v3, v4]) hv hm hret rfl hd sp (fun x σ' n' h => by
    obtain ⟨e1, -⟩ := h
    cases e1) hR hC hst (fun r σ' n' h => by
    obtain ⟨e1, h⟩ := h
    cases e1
    exact kk σ' n' h)
theorem go_V5I {v1 v2 v3 v4 v5 : Value} {b : Nat} {ix : Nat} {X : Int32 → sto → Nat → Prop} (hv : vLk M.1.cls ix M' 5) (hm : M'.2.2.2.2 = []) (hh : M.2.2.2.2 = []) (hrv : rcv Γ σ n b M'.1.cls) (hd : decode M.2.1 pc = .ok (.invokevirtual ix, 3)) (sp : Sp Γ R' M' (.ref b :: [v1, v2, v3, v4, v5]) σ n (qI X)) (kk : ∀ v σ' n', X v σ' n' → Go Γ R M Q (cells + R'.cells) (slots + R'.slots) (pc + 3) lv (.int v :: rest) σ' n') (hR : R'.frames + 1 ≤ R.frames ∧ 8 + (M'.2.2.1 + 11) + R'.locals ≤ R.locals := by exact rm_ok (Nat.le_of_ble_eq_true rfl) (by omega)) (hC : cells + R'.cells ≤ R.cells ∧ slots + R'.slots ≤ R.slots := by exact ⟨Nat.le_of_ble_eq_true rfl, Nat.le_of_ble_eq_true rfl⟩) (hst : (rest.map fun v => v.category).sum ≤ 8 := by exact Nat.le_of_ble_eq_true rfl) : Go Γ R M Q cells slots pc lv (v5 :: v4 :: v3 :: v2 :: v1 :: .ref b :: rest) σ n := by
  exact go_cv (As := [v1, v2, v3, v4, v5]) hv hm rfl hh hrv hd sp hR hC hst (fun r σ' n' h => by
    obtain ⟨v, e1, h⟩ := h
    cases e1
    exact kk v σ' n' h) (fun x σ' n' h => by
    obtain ⟨v, e1, -⟩ := h
    cases e1)
theorem go_V5Ix {v1 v2 v3 v4 v5 : Value} {b : Nat} {ix : Nat} {X : Int32 → sto → Nat → Prop} (hv : vLk M.1.cls ix M' 5) (hm : M'.2.2.2.2 = []) (hh : M.2.2.2.2 = []) (hrv : rcv Γ σ n b M'.1.cls) (hd : decode M.2.1 pc = .ok (.invokevirtual ix, 3)) (sp : Sp Γ R' M' (.ref b :: [v1, v2, v3, v4, v5]) σ n (qT (qI X) E)) (kx : ∀ x σ' n', E x σ' n' → Q (.inr x) σ' n') (kk : ∀ v σ' n', X v σ' n' → Go Γ R M Q (cells + R'.cells) (slots + R'.slots) (pc + 3) lv (.int v :: rest) σ' n') (hR : R'.frames + 1 ≤ R.frames ∧ 8 + (M'.2.2.1 + 11) + R'.locals ≤ R.locals := by exact rm_ok (Nat.le_of_ble_eq_true rfl) (by omega)) (hC : cells + R'.cells ≤ R.cells ∧ slots + R'.slots ≤ R.slots := by exact ⟨Nat.le_of_ble_eq_true rfl, Nat.le_of_ble_eq_true rfl⟩) (hst : (rest.map fun v => v.category).sum ≤ 8 := by exact Nat.le_of_ble_eq_true rfl) : Go Γ R M Q cells slots pc lv (v5 :: v4 :: v3 :: v2 :: v1 :: .ref b :: rest) σ n := by
  exact go_cv (As := [v1, v2, v3, v4, v5]) hv hm rfl hh hrv hd sp hR hC hst (fun r σ' n' h => by
    rcases h with h | ⟨x, e2, -⟩
    · obtain ⟨v, e1, h⟩ := h
      cases e1
      exact kk v σ' n' h
    · cases e2) (fun x σ' n' h => by
    rcases h with h | ⟨y, e2, h⟩
    · obtain ⟨v, e1, -⟩ := h
      cases e1
    · cases e2
      exact kx x σ' n' h)
theorem go_V5L {v1 v2 v3 v4 v5 : Value} {b : Nat} {ix : Nat} {X : Int64 → sto → Nat → Prop} (hv : vLk M.1.cls ix M' 5) (hm : M'.2.2.2.2 = []) (hh : M.2.2.2.2 = []) (hrv : rcv Γ σ n b M'.1.cls) (hd : decode M.2.1 pc = .ok (.invokevirtual ix, 3)) (sp : Sp Γ R' M' (.ref b :: [v1, v2, v3, v4, v5]) σ n (qL X)) (kk : ∀ v σ' n', X v σ' n' → Go Γ R M Q (cells + R'.cells) (slots + R'.slots) (pc + 3) lv (.long v :: rest) σ' n') (hR : R'.frames + 1 ≤ R.frames ∧ 8 + (M'.2.2.1 + 11) + R'.locals ≤ R.locals := by exact rm_ok (Nat.le_of_ble_eq_true rfl) (by omega)) (hC : cells + R'.cells ≤ R.cells ∧ slots + R'.slots ≤ R.slots := by exact ⟨Nat.le_of_ble_eq_true rfl, Nat.le_of_ble_eq_true rfl⟩) (hst : (rest.map fun v => v.category).sum ≤ 8 := by exact Nat.le_of_ble_eq_true rfl) : Go Γ R M Q cells slots pc lv (v5 :: v4 :: v3 :: v2 :: v1 :: .ref b :: rest) σ n := by
  exact go_cv (As := [v1, v2, v3, v4, v5]) hv hm rfl hh hrv hd sp hR hC hst (fun r σ' n' h => by
    obtain ⟨v, e1, h⟩ := h
    cases e1
    exact kk v σ' n' h) (fun x σ' n' h => by
    obtain ⟨v, e1, -⟩ := h
    cases e1)
theorem go_V5Lx {v1 v2 v3 v4 v5 : Value} {b : Nat} {ix : Nat} {X : Int64 → sto → Nat → Prop} (hv : vLk M.1.cls ix M' 5) (hm : M'.2.2.2.2 = []) (hh : M.2.2.2.2 = []) (hrv : rcv Γ σ n b M'.1.cls) (hd : decode M.2.1 pc = .ok (.invokevirtual ix, 3)) (sp : Sp Γ R' M' (.ref b :: [v1, v2, v3, v4, v5]) σ n (qT (qL X) E)) (kx : ∀ x σ' n', E x σ' n' → Q (.inr x) σ' n') (kk : ∀ v σ' n', X v σ' n' → Go Γ R M Q (cells + R'.cells) (slots + R'.slots) (pc + 3) lv (.long v :: rest) σ' n') (hR : R'.frames + 1 ≤ R.frames ∧ 8 + (M'.2.2.1 + 11) + R'.locals ≤ R.locals := by exact rm_ok (Nat.le_of_ble_eq_true rfl) (by omega)) (hC : cells + R'.cells ≤ R.cells ∧ slots + R'.slots ≤ R.slots := by exact ⟨Nat.le_of_ble_eq_true rfl, Nat.le_of_ble_eq_true rfl⟩) (hst : (rest.map fun v => v.category).sum ≤ 8 := by exact Nat.le_of_ble_eq_true rfl) : Go Γ R M Q cells slots pc lv (v5 :: v4 :: v3 :: v2 :: v1 :: .ref b :: rest) σ n := by
  exact go_cv (As := [v1, v2, v3, v4, v5]) hv hm rfl hh hrv hd sp hR hC hst (fun r σ' n' h => by
    rcases h with h | ⟨x, e2, -⟩
    · obtain ⟨v, e1, h⟩ := h
      cases e1
      exact kk v σ' n' h
    · cases e2) (fun x σ' n' h => by
    rcases h with h | ⟨y, e2, h⟩
    · obtain ⟨v, e1, -⟩ := h
      cases e1
    · cases e2
      exact kx x σ' n' h)
theorem go_V5A {v1 v2 v3 v4 v5 : Value} {b : Nat} {ix : Nat} {X : Nat → sto → Nat → Prop} (hv : vLk M.1.cls ix M' 5) (hm : M'.2.2.2.2 = []) (hh : M.2.2.2.2 = []) (hrv : rcv Γ σ n b M'.1.cls) (hd : decode M.2.1 pc = .ok (.invokevirtual ix, 3)) (sp : Sp Γ R' M' (.ref b :: [v1, v2, v3, v4, v5]) σ n (qA X)) (kk : ∀ v σ' n', X v σ' n' → Go Γ R M Q (cells + R'.cells) (slots + R'.slots) (pc + 3) lv (.ref v :: rest) σ' n') (hR : R'.frames + 1 ≤ R.frames ∧ 8 + (M'.2.2.1 + 11) + R'.locals ≤ R.locals := by exact rm_ok (Nat.le_of_ble_eq_true rfl) (by omega)) (hC : cells + R'.cells ≤ R.cells ∧ slots + R'.slots ≤ R.slots := by exact ⟨Nat.le_of_ble_eq_true rfl, Nat.le_of_ble_eq_true rfl⟩) (hst : (rest.map fun v => v.category).sum ≤ 8 := by exact Nat.le_of_ble_eq_true rfl) : Go Γ R M Q cells slots pc lv (v5 :: v4 :: v3 :: v2 :: v1 :: .ref b :: rest) σ n := by
  exact go_cv (As := [v1, v2, v3, v4, v5]) hv hm rfl hh hrv hd sp hR hC hst (fun r σ' n' h => by
    obtain ⟨v, e1, h⟩ := h
    cases e1
    exact kk v σ' n' h) (fun x σ' n' h => by
    obtain ⟨v, e1, -⟩ := h
    cases e1)
theorem go_V5Ax {v1 v2 v3 v4 v5 : Value} {b : Nat} {ix : Nat} {X : Nat → sto → Nat → Prop} (hv : vLk M.1.cls ix M' 5) (hm : M'.2.2.2.2 = []) (hh : M.2.2.2.2 = []) (hrv : rcv Γ σ n b M'.1.cls) (hd : decode M.2.1 pc = .ok (.invokevirtual ix, 3)) (sp : Sp Γ R' M' (.ref b :: [v1, v2, v3, v4, v5]) σ n (qT (qA X) E)) (kx : ∀ x σ' n', E x σ' n' → Q (.inr x) σ' n') (kk : ∀ v σ' n', X v σ' n' → Go Γ R M Q (cells + R'.cells) (slots + R'.slots) (pc + 3) lv (.ref v :: rest) σ' n') (hR : R'.frames + 1 ≤ R.frames ∧ 8 + (M'.2.2.1 + 11) + R'.locals ≤ R.locals := by exact rm_ok (Nat.le_of_ble_eq_true rfl) (by omega)) (hC : cells + R'.cells ≤ R.cells ∧ slots + R'.slots ≤ R.slots := by exact ⟨Nat.le_of_ble_eq_true rfl, Nat.le_of_ble_eq_true rfl⟩) (hst : (rest.map fun v => v.category).sum ≤ 8 := by exact Nat.le_of_ble_eq_true rfl) : Go Γ R M Q cells slots pc lv (v5 :: v4 :: v3 :: v2 :: v1 :: .ref b :: rest) σ n := by
  exact go_cv (As := [v1, v2, v3, v4, v5]) hv hm rfl hh hrv hd sp hR hC hst (fun r σ' n' h => by
    rcases h with h | ⟨x, e2, -⟩
    · obtain ⟨v, e1, h⟩ := h
      cases e1
      exact kk v σ' n' h
    · cases e2) (fun x σ' n' h => by
    rcases h with h | ⟨y, e2, h⟩
    · obtain ⟨v, e1, -⟩ := h
      cases e1
    · cases e2
      exact kx x σ' n' h)
theorem go_V5V {v1 v2 v3 v4 v5 : Value} {b : Nat} {ix : Nat} {X : sto → Nat → Prop} (hv : vLk M.1.cls ix M' 5) (hm : M'.2.2.2.2 = []) (hh : M.2.2.2.2 = []) (hrv : rcv Γ σ n b M'.1.cls) (hd : decode M.2.1 pc = .ok (.invokevirtual ix, 3)) (sp : Sp Γ R' M' (.ref b :: [v1, v2, v3, v4, v5]) σ n (qV X)) (kk : ∀ σ' n', X σ' n' → Go Γ R M Q (cells + R'.cells) (slots + R'.slots) (pc + 3) lv (rest) σ' n') (hR : R'.frames + 1 ≤ R.frames ∧ 8 + (M'.2.2.1 + 11) + R'.locals ≤ R.locals := by exact rm_ok (Nat.le_of_ble_eq_true rfl) (by omega)) (hC : cells + R'.cells ≤ R.cells ∧ slots + R'.slots ≤ R.slots := by exact ⟨Nat.le_of_ble_eq_true rfl, Nat.le_of_ble_eq_true rfl⟩) (hst : (rest.map fun v => v.category).sum ≤ 8 := by exact Nat.le_of_ble_eq_true rfl) : Go Γ R M Q cells slots pc lv (v5 :: v4 :: v3 :: v2 :: v1 :: .ref b :: rest) σ n := by
  exact go_cv (As := [v1, v2, v3, v4, v5]) hv hm rfl hh hrv hd sp hR hC hst (fun r σ' n' h => by
    obtain ⟨e1, h⟩ := h
    cases e1
    exact kk σ' n' h) (fun x σ' n' h => by
    obtain ⟨e1, -⟩ := h
    cases e1)
theorem go_V5Vx {v1 v2 v3 v4 v5 : Value} {b : Nat} {ix : Nat} {X : sto → Nat → Prop} (hv : vLk M.1.cls ix M' 5) (hm : M'.2.2.2.2 = []) (hh : M.2.2.2.2 = []) (hrv : rcv Γ σ n b M'.1.cls) (hd : decode M.2.1 pc = .ok (.invokevirtual ix, 3)) (sp : Sp Γ R' M' (.ref b :: [v1, v2, v3, v4, v5]) σ n (qT (qV X) E)) (kx : ∀ x σ' n', E x σ' n' → Q (.inr x) σ' n') (kk : ∀ σ' n', X σ' n' → Go Γ R M Q (cells + R'.cells) (slots + R'.slots) (pc + 3) lv (rest) σ' n') (hR : R'.frames + 1 ≤ R.frames ∧ 8 + (M'.2.2.1 + 11) + R'.locals ≤ R.locals := by exact rm_ok (Nat.le_of_ble_eq_true rfl) (by omega)) (hC : cells + R'.cells ≤ R.cells ∧ slots + R'.slots ≤ R.slots := by exact ⟨Nat.le_of_ble_eq_true rfl, Nat.le_of_ble_eq_true rfl⟩) (hst : (rest.map fun v => v.category).sum ≤ 8 := by exact Nat.le_of_ble_eq_true rfl) : Go Γ R M Q cells slots pc lv (v5 :: v4 :: v3 :: v2 :: v1 :: .ref b :: rest) σ n := by
  exact go_cv (As := [v1, v2, v3, v4, v5]) hv hm rfl hh hrv hd sp hR hC hst (fun r σ' n' h => by
    rcases h with h | ⟨x, e2, -⟩
    · obtain ⟨e1, h⟩ := h
      cases e1
      exact kk σ' n' h
    · cases e2) (fun x σ' n' h => by
    rcases h with h | ⟨y, e2, h⟩
    · obtain ⟨e1, -⟩ := h
      cases e1
    · cases e2
      exact kx x σ' n' h)
theorem go_V5P {v1 v2 v3 v4 v5 : Value} {b : Nat} {ix : Nat} {r : Int32} (hv : vLk M.1.cls ix M' 5) (hm : M'.2.2.2.2 = []) (hh : M.2.2.2.2 = []) (hrv : rcv Γ σ n b M'.1.cls) (hd : decode M.2.1 pc = .ok (.invokevirtual ix, 3)) (sp : Sp Γ R' M' (.ref b :: [v1, v2, v3, v4, v5]) σ n (qP r σ n)) (kk : Go Γ R M Q (cells + R'.cells) (slots + R'.slots) (pc + 3) lv (.int r :: rest) σ n) (hR : R'.frames + 1 ≤ R.frames ∧ 8 + (M'.2.2.1 + 11) + R'.locals ≤ R.locals := by exact rm_ok (Nat.le_of_ble_eq_true rfl) (by omega)) (hC : cells + R'.cells ≤ R.cells ∧ slots + R'.slots ≤ R.slots := by exact ⟨Nat.le_of_ble_eq_true rfl, Nat.le_of_ble_eq_true rfl⟩) (hst : (rest.map fun v => v.category).sum ≤ 8 := by exact Nat.le_of_ble_eq_true rfl) : Go Γ R M Q cells slots pc lv (v5 :: v4 :: v3 :: v2 :: v1 :: .ref b :: rest) σ n := go_V5I hv hm hh hrv hd sp (fun v σ' n' h => by obtain ⟨rfl, rfl, rfl⟩ := h; exact kk) hR hC hst
theorem go_V5PL {v1 v2 v3 v4 v5 : Value} {b : Nat} {ix : Nat} {r : Int64} (hv : vLk M.1.cls ix M' 5) (hm : M'.2.2.2.2 = []) (hh : M.2.2.2.2 = []) (hrv : rcv Γ σ n b M'.1.cls) (hd : decode M.2.1 pc = .ok (.invokevirtual ix, 3)) (sp : Sp Γ R' M' (.ref b :: [v1, v2, v3, v4, v5]) σ n (qPL r σ n)) (kk : Go Γ R M Q (cells + R'.cells) (slots + R'.slots) (pc + 3) lv (.long r :: rest) σ n) (hR : R'.frames + 1 ≤ R.frames ∧ 8 + (M'.2.2.1 + 11) + R'.locals ≤ R.locals := by exact rm_ok (Nat.le_of_ble_eq_true rfl) (by omega)) (hC : cells + R'.cells ≤ R.cells ∧ slots + R'.slots ≤ R.slots := by exact ⟨Nat.le_of_ble_eq_true rfl, Nat.le_of_ble_eq_true rfl⟩) (hst : (rest.map fun v => v.category).sum ≤ 8 := by exact Nat.le_of_ble_eq_true rfl) : Go Γ R M Q cells slots pc lv (v5 :: v4 :: v3 :: v2 :: v1 :: .ref b :: rest) σ n := go_V5L hv hm hh hrv hd sp (fun v σ' n' h => by obtain ⟨rfl, rfl, rfl⟩ := h; exact kk) hR hC hst
theorem go_S5I {v1 v2 v3 v4 v5 : Value} {ix : Nat} {X : Int32 → sto → Nat → Prop} (hv : sLk M.1.cls ix M' 5) (hm : M'.2.2.2.2 = []) (hh : M.2.2.2.2 = []) (hd : decode M.2.1 pc = .ok (.invokestatic ix, 3)) (sp : Sp Γ R' M' [v1, v2, v3, v4, v5] σ n (qI X)) (kk : ∀ v σ' n', X v σ' n' → Go Γ R M Q (cells + R'.cells) (slots + R'.slots) (pc + 3) lv (.int v :: rest) σ' n') (hR : R'.frames + 1 ≤ R.frames ∧ 8 + (M'.2.2.1 + 11) + R'.locals ≤ R.locals := by exact rm_ok (Nat.le_of_ble_eq_true rfl) (by omega)) (hC : cells + R'.cells ≤ R.cells ∧ slots + R'.slots ≤ R.slots := by exact ⟨Nat.le_of_ble_eq_true rfl, Nat.le_of_ble_eq_true rfl⟩) (hst : (rest.map fun v => v.category).sum ≤ 8 := by exact Nat.le_of_ble_eq_true rfl) : Go Γ R M Q cells slots pc lv (v5 :: v4 :: v3 :: v2 :: v1 :: rest) σ n := by
  exact go_cs (As := [v1, v2, v3, v4, v5]) hv hm rfl hh hd sp hR hC hst (fun r σ' n' h => by
    obtain ⟨v, e1, h⟩ := h
    cases e1
    exact kk v σ' n' h) (fun x σ' n' h => by
    obtain ⟨v, e1, -⟩ := h
    cases e1)
theorem go_S5Ix {v1 v2 v3 v4 v5 : Value} {ix : Nat} {X : Int32 → sto → Nat → Prop} (hv : sLk M.1.cls ix M' 5) (hm : M'.2.2.2.2 = []) (hh : M.2.2.2.2 = []) (hd : decode M.2.1 pc = .ok (.invokestatic ix, 3)) (sp : Sp Γ R' M' [v1, v2, v3, v4, v5] σ n (qT (qI X) E)) (kx : ∀ x σ' n', E x σ' n' → Q (.inr x) σ' n') (kk : ∀ v σ' n', X v σ' n' → Go Γ R M Q (cells + R'.cells) (slots + R'.slots) (pc + 3) lv (.int v :: rest) σ' n') (hR : R'.frames + 1 ≤ R.frames ∧ 8 + (M'.2.2.1 + 11) + R'.locals ≤ R.locals := by exact rm_ok (Nat.le_of_ble_eq_true rfl) (by omega)) (hC : cells + R'.cells ≤ R.cells ∧ slots + R'.slots ≤ R.slots := by exact ⟨Nat.le_of_ble_eq_true rfl, Nat.le_of_ble_eq_true rfl⟩) (hst : (rest.map fun v => v.category).sum ≤ 8 := by exact Nat.le_of_ble_eq_true rfl) : Go Γ R M Q cells slots pc lv (v5 :: v4 :: v3 :: v2 :: v1 :: rest) σ n := by
  exact go_cs (As := [v1, v2, v3, v4, v5]) hv hm rfl hh hd sp hR hC hst (fun r σ' n' h => by
    rcases h with h | ⟨x, e2, -⟩
    · obtain ⟨v, e1, h⟩ := h
      cases e1
      exact kk v σ' n' h
    · cases e2) (fun x σ' n' h => by
    rcases h with h | ⟨y, e2, h⟩
    · obtain ⟨v, e1, -⟩ := h
      cases e1
    · cases e2
      exact kx x σ' n' h)
theorem go_S5L {v1 v2 v3 v4 v5 : Value} {ix : Nat} {X : Int64 → sto → Nat → Prop} (hv : sLk M.1.cls ix M' 5) (hm : M'.2.2.2.2 = []) (hh : M.2.2.2.2 = []) (hd : decode M.2.1 pc = .ok (.invokestatic ix, 3)) (sp : Sp Γ R' M' [v1, v2, v3, v4, v5] σ n (qL X)) (kk : ∀ v σ' n', X v σ' n' → Go Γ R M Q (cells + R'.cells) (slots + R'.slots) (pc + 3) lv (.long v :: rest) σ' n') (hR : R'.frames + 1 ≤ R.frames ∧ 8 + (M'.2.2.1 + 11) + R'.locals ≤ R.locals := by exact rm_ok (Nat.le_of_ble_eq_true rfl) (by omega)) (hC : cells + R'.cells ≤ R.cells ∧ slots + R'.slots ≤ R.slots := by exact ⟨Nat.le_of_ble_eq_true rfl, Nat.le_of_ble_eq_true rfl⟩) (hst : (rest.map fun v => v.category).sum ≤ 8 := by exact Nat.le_of_ble_eq_true rfl) : Go Γ R M Q cells slots pc lv (v5 :: v4 :: v3 :: v2 :: v1 :: rest) σ n := by
  exact go_cs (As := [v1, v2, v3, v4, v5]) hv hm rfl hh hd sp hR hC hst (fun r σ' n' h => by
    obtain ⟨v, e1, h⟩ := h
    cases e1
    exact kk v σ' n' h) (fun x σ' n' h => by
    obtain ⟨v, e1, -⟩ := h
    cases e1)
theorem go_S5Lx {v1 v2 v3 v4 v5 : Value} {ix : Nat} {X : Int64 → sto → Nat → Prop} (hv : sLk M.1.cls ix M' 5) (hm : M'.2.2.2.2 = []) (hh : M.2.2.2.2 = []) (hd : decode M.2.1 pc = .ok (.invokestatic ix, 3)) (sp : Sp Γ R' M' [v1, v2, v3, v4, v5] σ n (qT (qL X) E)) (kx : ∀ x σ' n', E x σ' n' → Q (.inr x) σ' n') (kk : ∀ v σ' n', X v σ' n' → Go Γ R M Q (cells + R'.cells) (slots + R'.slots) (pc + 3) lv (.long v :: rest) σ' n') (hR : R'.frames + 1 ≤ R.frames ∧ 8 + (M'.2.2.1 + 11) + R'.locals ≤ R.locals := by exact rm_ok (Nat.le_of_ble_eq_true rfl) (by omega)) (hC : cells + R'.cells ≤ R.cells ∧ slots + R'.slots ≤ R.slots := by exact ⟨Nat.le_of_ble_eq_true rfl, Nat.le_of_ble_eq_true rfl⟩) (hst : (rest.map fun v => v.category).sum ≤ 8 := by exact Nat.le_of_ble_eq_true rfl) : Go Γ R M Q cells slots pc lv (v5 :: v4 :: v3 :: v2 :: v1 :: rest) σ n := by
  exact go_cs (As := [v1, v2, v3, v4, v5]) hv hm rfl hh hd sp hR hC hst (fun r σ' n' h => by
    rcases h with h | ⟨x, e2, -⟩
    · obtain ⟨v, e1, h⟩ := h
      cases e1
      exact kk v σ' n' h
    · cases e2) (fun x σ' n' h => by
    rcases h with h | ⟨y, e2, h⟩
    · obtain ⟨v, e1, -⟩ := h
      cases e1
    · cases e2
      exact kx x σ' n' h)
theorem go_S5A {v1 v2 v3 v4 v5 : Value} {ix : Nat} {X : Nat → sto → Nat → Prop} (hv : sLk M.1.cls ix M' 5) (hm : M'.2.2.2.2 = []) (hh : M.2.2.2.2 = []) (hd : decode M.2.1 pc = .ok (.invokestatic ix, 3)) (sp : Sp Γ R' M' [v1, v2, v3, v4, v5] σ n (qA X)) (kk : ∀ v σ' n', X v σ' n' → Go Γ R M Q (cells + R'.cells) (slots + R'.slots) (pc + 3) lv (.ref v :: rest) σ' n') (hR : R'.frames + 1 ≤ R.frames ∧ 8 + (M'.2.2.1 + 11) + R'.locals ≤ R.locals := by exact rm_ok (Nat.le_of_ble_eq_true rfl) (by omega)) (hC : cells + R'.cells ≤ R.cells ∧ slots + R'.slots ≤ R.slots := by exact ⟨Nat.le_of_ble_eq_true rfl, Nat.le_of_ble_eq_true rfl⟩) (hst : (rest.map fun v => v.category).sum ≤ 8 := by exact Nat.le_of_ble_eq_true rfl) : Go Γ R M Q cells slots pc lv (v5 :: v4 :: v3 :: v2 :: v1 :: rest) σ n := by
  exact go_cs (As := [v1, v2, v3, v4, v5]) hv hm rfl hh hd sp hR hC hst (fun r σ' n' h => by
    obtain ⟨v, e1, h⟩ := h
    cases e1
    exact kk v σ' n' h) (fun x σ' n' h => by
    obtain ⟨v, e1, -⟩ := h
    cases e1)
theorem go_S5Ax {v1 v2 v3 v4 v5 : Value} {ix : Nat} {X : Nat → sto → Nat → Prop} (hv : sLk M.1.cls ix M' 5) (hm : M'.2.2.2.2 = []) (hh : M.2.2.2.2 = []) (hd : decode M.2.1 pc = .ok (.invokestatic ix, 3)) (sp : Sp Γ R' M' [v1, v2, v3, v4, v5] σ n (qT (qA X) E)) (kx : ∀ x σ' n', E x σ' n' → Q (.inr x) σ' n') (kk : ∀ v σ' n', X v σ' n' → Go Γ R M Q (cells + R'.cells) (slots + R'.slots) (pc + 3) lv (.ref v :: rest) σ' n') (hR : R'.frames + 1 ≤ R.frames ∧ 8 + (M'.2.2.1 + 11) + R'.locals ≤ R.locals := by exact rm_ok (Nat.le_of_ble_eq_true rfl) (by omega)) (hC : cells + R'.cells ≤ R.cells ∧ slots + R'.slots ≤ R.slots := by exact ⟨Nat.le_of_ble_eq_true rfl, Nat.le_of_ble_eq_true rfl⟩) (hst : (rest.map fun v => v.category).sum ≤ 8 := by exact Nat.le_of_ble_eq_true rfl) : Go Γ R M Q cells slots pc lv (v5 :: v4 :: v3 :: v2 :: v1 :: rest) σ n := by
  exact go_cs (As := [v1, v2, v3, v4, v5]) hv hm rfl hh hd sp hR hC hst (fun r σ' n' h => by
    rcases h with h | ⟨x, e2, -⟩
    · obtain ⟨v, e1, h⟩ := h
      cases e1
      exact kk v σ' n' h
    · cases e2) (fun x σ' n' h => by
    rcases h with h | ⟨y, e2, h⟩
    · obtain ⟨v, e1, -⟩ := h
      cases e1
    · cases e2
      exact kx x σ' n' h)
theorem go_S5V {v1 v2 v3 v4 v5 : Value} {ix : Nat} {X : sto → Nat → Prop} (hv : sLk M.1.cls ix M' 5) (hm : M'.2.2.2.2 = []) (hh : M.2.2.2.2 = []) (hd : decode M.2.1 pc = .ok (.invokestatic ix, 3)) (sp : Sp Γ R' M' [v1, v2, v3, v4, v5] σ n (qV X)) (kk : ∀ σ' n', X σ' n' → Go Γ R M Q (cells + R'.cells) (slots + R'.slots) (pc + 3) lv (rest) σ' n') (hR : R'.frames + 1 ≤ R.frames ∧ 8 + (M'.2.2.1 + 11) + R'.locals ≤ R.locals := by exact rm_ok (Nat.le_of_ble_eq_true rfl) (by omega)) (hC : cells + R'.cells ≤ R.cells ∧ slots + R'.slots ≤ R.slots := by exact ⟨Nat.le_of_ble_eq_true rfl, Nat.le_of_ble_eq_true rfl⟩) (hst : (rest.map fun v => v.category).sum ≤ 8 := by exact Nat.le_of_ble_eq_true rfl) : Go Γ R M Q cells slots pc lv (v5 :: v4 :: v3 :: v2 :: v1 :: rest) σ n := by
  exact go_cs (As := [v1, v2, v3, v4, v5]) hv hm rfl hh hd sp hR hC hst (fun r σ' n' h => by
    obtain ⟨e1, h⟩ := h
    cases e1
    exact kk σ' n' h) (fun x σ' n' h => by
    obtain ⟨e1, -⟩ := h
    cases e1)
theorem go_S5Vx {v1 v2 v3 v4 v5 : Value} {ix : Nat} {X : sto → Nat → Prop} (hv : sLk M.1.cls ix M' 5) (hm : M'.2.2.2.2 = []) (hh : M.2.2.2.2 = []) (hd : decode M.2.1 pc = .ok (.invokestatic ix, 3)) (sp : Sp Γ R' M' [v1, v2, v3, v4, v5] σ n (qT (qV X) E)) (kx : ∀ x σ' n', E x σ' n' → Q (.inr x) σ' n') (kk : ∀ σ' n', X σ' n' → Go Γ R M Q (cells + R'.cells) (slots + R'.slots) (pc + 3) lv (rest) σ' n') (hR : R'.frames + 1 ≤ R.frames ∧ 8 + (M'.2.2.1 + 11) + R'.locals ≤ R.locals := by exact rm_ok (Nat.le_of_ble_eq_true rfl) (by omega)) (hC : cells + R'.cells ≤ R.cells ∧ slots + R'.slots ≤ R.slots := by exact ⟨Nat.le_of_ble_eq_true rfl, Nat.le_of_ble_eq_true rfl⟩) (hst : (rest.map fun v => v.category).sum ≤ 8 := by exact Nat.le_of_ble_eq_true rfl) : Go Γ R M Q cells slots pc lv (v5 :: v4 :: v3 :: v2 :: v1 :: rest) σ n := by
  exact go_cs (As := [v1, v2, v3, v4, v5]) hv hm rfl hh hd sp hR hC hst (fun r σ' n' h => by
    rcases h with h | ⟨x, e2, -⟩
    · obtain ⟨e1, h⟩ := h
      cases e1
      exact kk σ' n' h
    · cases e2) (fun x σ' n' h => by
    rcases h with h | ⟨y, e2, h⟩
    · obtain ⟨e1, -⟩ := h
      cases e1
    · cases e2
      exact kx x σ' n' h)
theorem go_S5P {v1 v2 v3 v4 v5 : Value} {ix : Nat} {r : Int32} (hv : sLk M.1.cls ix M' 5) (hm : M'.2.2.2.2 = []) (hh : M.2.2.2.2 = []) (hd : decode M.2.1 pc = .ok (.invokestatic ix, 3)) (sp : Sp Γ R' M' [v1, v2, v3, v4, v5] σ n (qP r σ n)) (kk : Go Γ R M Q (cells + R'.cells) (slots + R'.slots) (pc + 3) lv (.int r :: rest) σ n) (hR : R'.frames + 1 ≤ R.frames ∧ 8 + (M'.2.2.1 + 11) + R'.locals ≤ R.locals := by exact rm_ok (Nat.le_of_ble_eq_true rfl) (by omega)) (hC : cells + R'.cells ≤ R.cells ∧ slots + R'.slots ≤ R.slots := by exact ⟨Nat.le_of_ble_eq_true rfl, Nat.le_of_ble_eq_true rfl⟩) (hst : (rest.map fun v => v.category).sum ≤ 8 := by exact Nat.le_of_ble_eq_true rfl) : Go Γ R M Q cells slots pc lv (v5 :: v4 :: v3 :: v2 :: v1 :: rest) σ n := go_S5I hv hm hh hd sp (fun v σ' n' h => by obtain ⟨rfl, rfl, rfl⟩ := h; exact kk) hR hC hst
theorem go_S5PL {v1 v2 v3 v4 v5 : Value} {ix : Nat} {r : Int64} (hv : sLk M.1.cls ix M' 5) (hm : M'.2.2.2.2 = []) (hh : M.2.2.2.2 = []) (hd : decode M.2.1 pc = .ok (.invokestatic ix, 3)) (sp : Sp Γ R' M' [v1, v2, v3, v4, v5] σ n (qPL r σ n)) (kk : Go Γ R M Q (cells + R'.cells) (slots + R'.slots) (pc + 3) lv (.long r :: rest) σ n) (hR : R'.frames + 1 ≤ R.frames ∧ 8 + (M'.2.2.1 + 11) + R'.locals ≤ R.locals := by exact rm_ok (Nat.le_of_ble_eq_true rfl) (by omega)) (hC : cells + R'.cells ≤ R.cells ∧ slots + R'.slots ≤ R.slots := by exact ⟨Nat.le_of_ble_eq_true rfl, Nat.le_of_ble_eq_true rfl⟩) (hst : (rest.map fun v => v.category).sum ≤ 8 := by exact Nat.le_of_ble_eq_true rfl) : Go Γ R M Q cells slots pc lv (v5 :: v4 :: v3 :: v2 :: v1 :: rest) σ n := go_S5L hv hm hh hd sp (fun v σ' n' h => by obtain ⟨rfl, rfl, rfl⟩ := h; exact kk) hR hC hst
theorem go_I5V {v1 v2 v3 v4 v5 : Value} {b : Nat} {ix : Nat} {X : sto → Nat → Prop} (hv : iLk M.1.cls ix M' 5) (hm : M'.2.2.2.2 = []) (hret : M'.2.2.2.1 = none) (hd : decode M.2.1 pc = .ok (.invokespecial ix, 3)) (sp : Sp Γ R' M' (.ref b :: [v1, v2, v3, v4, v5]) σ n (qV X)) (kk : ∀ σ' n', X σ' n' → Go Γ R M Q (cells + R'.cells) (slots + R'.slots) (pc + 3) lv (rest) σ' n') (hR : R'.frames + 1 ≤ R.frames ∧ 8 + (M'.2.2.1 + 11) + R'.locals ≤ R.locals := by exact rm_ok (Nat.le_of_ble_eq_true rfl) (by omega)) (hC : cells + R'.cells ≤ R.cells ∧ slots + R'.slots ≤ R.slots := by exact ⟨Nat.le_of_ble_eq_true rfl, Nat.le_of_ble_eq_true rfl⟩) (hst : (rest.map fun v => v.category).sum ≤ 8 := by exact Nat.le_of_ble_eq_true rfl) : Go Γ R M Q cells slots pc lv (v5 :: v4 :: v3 :: v2 :: v1 :: .ref b :: rest) σ n := by
  exact go_ci (As := [v1, v2, v3, v4, v5]) hv hm hret rfl hd sp (fun x σ' n' h => by
    obtain ⟨e1, -⟩ := h
    cases e1) hR hC hst (fun r σ' n' h => by
    obtain ⟨e1, h⟩ := h
    cases e1
    exact kk σ' n' h)
theorem go_V6I {v1 v2 v3 v4 v5 v6 : Value} {b : Nat} {ix : Nat} {X : Int32 → sto → Nat → Prop} (hv : vLk M.1.cls ix M' 6) (hm : M'.2.2.2.2 = []) (hh : M.2.2.2.2 = []) (hrv : rcv Γ σ n b M'.1.cls) (hd : decode M.2.1 pc = .ok (.invokevirtual ix, 3)) (sp : Sp Γ R' M' (.ref b :: [v1, v2, v3, v4, v5, v6]) σ n (qI X)) (kk : ∀ v σ' n', X v σ' n' → Go Γ R M Q (cells + R'.cells) (slots + R'.slots) (pc + 3) lv (.int v :: rest) σ' n') (hR : R'.frames + 1 ≤ R.frames ∧ 8 + (M'.2.2.1 + 11) + R'.locals ≤ R.locals := by exact rm_ok (Nat.le_of_ble_eq_true rfl) (by omega)) (hC : cells + R'.cells ≤ R.cells ∧ slots + R'.slots ≤ R.slots := by exact ⟨Nat.le_of_ble_eq_true rfl, Nat.le_of_ble_eq_true rfl⟩) (hst : (rest.map fun v => v.category).sum ≤ 8 := by exact Nat.le_of_ble_eq_true rfl) : Go Γ R M Q cells slots pc lv (v6 :: v5 :: v4 :: v3 :: v2 :: v1 :: .ref b :: rest) σ n := by
  exact go_cv (As := [v1, v2, v3, v4, v5, v6]) hv hm rfl hh hrv hd sp hR hC hst (fun r σ' n' h => by
    obtain ⟨v, e1, h⟩ := h
    cases e1
    exact kk v σ' n' h) (fun x σ' n' h => by
    obtain ⟨v, e1, -⟩ := h
    cases e1)
theorem go_V6Ix {v1 v2 v3 v4 v5 v6 : Value} {b : Nat} {ix : Nat} {X : Int32 → sto → Nat → Prop} (hv : vLk M.1.cls ix M' 6) (hm : M'.2.2.2.2 = []) (hh : M.2.2.2.2 = []) (hrv : rcv Γ σ n b M'.1.cls) (hd : decode M.2.1 pc = .ok (.invokevirtual ix, 3)) (sp : Sp Γ R' M' (.ref b :: [v1, v2, v3, v4, v5, v6]) σ n (qT (qI X) E)) (kx : ∀ x σ' n', E x σ' n' → Q (.inr x) σ' n') (kk : ∀ v σ' n', X v σ' n' → Go Γ R M Q (cells + R'.cells) (slots + R'.slots) (pc + 3) lv (.int v :: rest) σ' n') (hR : R'.frames + 1 ≤ R.frames ∧ 8 + (M'.2.2.1 + 11) + R'.locals ≤ R.locals := by exact rm_ok (Nat.le_of_ble_eq_true rfl) (by omega)) (hC : cells + R'.cells ≤ R.cells ∧ slots + R'.slots ≤ R.slots := by exact ⟨Nat.le_of_ble_eq_true rfl, Nat.le_of_ble_eq_true rfl⟩) (hst : (rest.map fun v => v.category).sum ≤ 8 := by exact Nat.le_of_ble_eq_true rfl) : Go Γ R M Q cells slots pc lv (v6 :: v5 :: v4 :: v3 :: v2 :: v1 :: .ref b :: rest) σ n := by
  exact go_cv (As := [v1, v2, v3, v4, v5, v6]) hv hm rfl hh hrv hd sp hR hC hst (fun r σ' n' h => by
    rcases h with h | ⟨x, e2, -⟩
    · obtain ⟨v, e1, h⟩ := h
      cases e1
      exact kk v σ' n' h
    · cases e2) (fun x σ' n' h => by
    rcases h with h | ⟨y, e2, h⟩
    · obtain ⟨v, e1, -⟩ := h
      cases e1
    · cases e2
      exact kx x σ' n' h)
theorem go_V6L {v1 v2 v3 v4 v5 v6 : Value} {b : Nat} {ix : Nat} {X : Int64 → sto → Nat → Prop} (hv : vLk M.1.cls ix M' 6) (hm : M'.2.2.2.2 = []) (hh : M.2.2.2.2 = []) (hrv : rcv Γ σ n b M'.1.cls) (hd : decode M.2.1 pc = .ok (.invokevirtual ix, 3)) (sp : Sp Γ R' M' (.ref b :: [v1, v2, v3, v4, v5, v6]) σ n (qL X)) (kk : ∀ v σ' n', X v σ' n' → Go Γ R M Q (cells + R'.cells) (slots + R'.slots) (pc + 3) lv (.long v :: rest) σ' n') (hR : R'.frames + 1 ≤ R.frames ∧ 8 + (M'.2.2.1 + 11) + R'.locals ≤ R.locals := by exact rm_ok (Nat.le_of_ble_eq_true rfl) (by omega)) (hC : cells + R'.cells ≤ R.cells ∧ slots + R'.slots ≤ R.slots := by exact ⟨Nat.le_of_ble_eq_true rfl, Nat.le_of_ble_eq_true rfl⟩) (hst : (rest.map fun v => v.category).sum ≤ 8 := by exact Nat.le_of_ble_eq_true rfl) : Go Γ R M Q cells slots pc lv (v6 :: v5 :: v4 :: v3 :: v2 :: v1 :: .ref b :: rest) σ n := by
  exact go_cv (As := [v1, v2, v3, v4, v5, v6]) hv hm rfl hh hrv hd sp hR hC hst (fun r σ' n' h => by
    obtain ⟨v, e1, h⟩ := h
    cases e1
    exact kk v σ' n' h) (fun x σ' n' h => by
    obtain ⟨v, e1, -⟩ := h
    cases e1)
theorem go_V6Lx {v1 v2 v3 v4 v5 v6 : Value} {b : Nat} {ix : Nat} {X : Int64 → sto → Nat → Prop} (hv : vLk M.1.cls ix M' 6) (hm : M'.2.2.2.2 = []) (hh : M.2.2.2.2 = []) (hrv : rcv Γ σ n b M'.1.cls) (hd : decode M.2.1 pc = .ok (.invokevirtual ix, 3)) (sp : Sp Γ R' M' (.ref b :: [v1, v2, v3, v4, v5, v6]) σ n (qT (qL X) E)) (kx : ∀ x σ' n', E x σ' n' → Q (.inr x) σ' n') (kk : ∀ v σ' n', X v σ' n' → Go Γ R M Q (cells + R'.cells) (slots + R'.slots) (pc + 3) lv (.long v :: rest) σ' n') (hR : R'.frames + 1 ≤ R.frames ∧ 8 + (M'.2.2.1 + 11) + R'.locals ≤ R.locals := by exact rm_ok (Nat.le_of_ble_eq_true rfl) (by omega)) (hC : cells + R'.cells ≤ R.cells ∧ slots + R'.slots ≤ R.slots := by exact ⟨Nat.le_of_ble_eq_true rfl, Nat.le_of_ble_eq_true rfl⟩) (hst : (rest.map fun v => v.category).sum ≤ 8 := by exact Nat.le_of_ble_eq_true rfl) : Go Γ R M Q cells slots pc lv (v6 :: v5 :: v4 :: v3 :: v2 :: v1 :: .ref b :: rest) σ n := by
  exact go_cv (As := [v1, v2, v3, v4, v5, v6]) hv hm rfl hh hrv hd sp hR hC hst (fun r σ' n' h => by
    rcases h with h | ⟨x, e2, -⟩
    · obtain ⟨v, e1, h⟩ := h
      cases e1
      exact kk v σ' n' h
    · cases e2) (fun x σ' n' h => by
    rcases h with h | ⟨y, e2, h⟩
    · obtain ⟨v, e1, -⟩ := h
      cases e1
    · cases e2
      exact kx x σ' n' h)
theorem go_V6A {v1 v2 v3 v4 v5 v6 : Value} {b : Nat} {ix : Nat} {X : Nat → sto → Nat → Prop} (hv : vLk M.1.cls ix M' 6) (hm : M'.2.2.2.2 = []) (hh : M.2.2.2.2 = []) (hrv : rcv Γ σ n b M'.1.cls) (hd : decode M.2.1 pc = .ok (.invokevirtual ix, 3)) (sp : Sp Γ R' M' (.ref b :: [v1, v2, v3, v4, v5, v6]) σ n (qA X)) (kk : ∀ v σ' n', X v σ' n' → Go Γ R M Q (cells + R'.cells) (slots + R'.slots) (pc + 3) lv (.ref v :: rest) σ' n') (hR : R'.frames + 1 ≤ R.frames ∧ 8 + (M'.2.2.1 + 11) + R'.locals ≤ R.locals := by exact rm_ok (Nat.le_of_ble_eq_true rfl) (by omega)) (hC : cells + R'.cells ≤ R.cells ∧ slots + R'.slots ≤ R.slots := by exact ⟨Nat.le_of_ble_eq_true rfl, Nat.le_of_ble_eq_true rfl⟩) (hst : (rest.map fun v => v.category).sum ≤ 8 := by exact Nat.le_of_ble_eq_true rfl) : Go Γ R M Q cells slots pc lv (v6 :: v5 :: v4 :: v3 :: v2 :: v1 :: .ref b :: rest) σ n := by
  exact go_cv (As := [v1, v2, v3, v4, v5, v6]) hv hm rfl hh hrv hd sp hR hC hst (fun r σ' n' h => by
    obtain ⟨v, e1, h⟩ := h
    cases e1
    exact kk v σ' n' h) (fun x σ' n' h => by
    obtain ⟨v, e1, -⟩ := h
    cases e1)
theorem go_V6Ax {v1 v2 v3 v4 v5 v6 : Value} {b : Nat} {ix : Nat} {X : Nat → sto → Nat → Prop} (hv : vLk M.1.cls ix M' 6) (hm : M'.2.2.2.2 = []) (hh : M.2.2.2.2 = []) (hrv : rcv Γ σ n b M'.1.cls) (hd : decode M.2.1 pc = .ok (.invokevirtual ix, 3)) (sp : Sp Γ R' M' (.ref b :: [v1, v2, v3, v4, v5, v6]) σ n (qT (qA X) E)) (kx : ∀ x σ' n', E x σ' n' → Q (.inr x) σ' n') (kk : ∀ v σ' n', X v σ' n' → Go Γ R M Q (cells + R'.cells) (slots + R'.slots) (pc + 3) lv (.ref v :: rest) σ' n') (hR : R'.frames + 1 ≤ R.frames ∧ 8 + (M'.2.2.1 + 11) + R'.locals ≤ R.locals := by exact rm_ok (Nat.le_of_ble_eq_true rfl) (by omega)) (hC : cells + R'.cells ≤ R.cells ∧ slots + R'.slots ≤ R.slots := by exact ⟨Nat.le_of_ble_eq_true rfl, Nat.le_of_ble_eq_true rfl⟩) (hst : (rest.map fun v => v.category).sum ≤ 8 := by exact Nat.le_of_ble_eq_true rfl) : Go Γ R M Q cells slots pc lv (v6 :: v5 :: v4 :: v3 :: v2 :: v1 :: .ref b :: rest) σ n := by
  exact go_cv (As := [v1, v2, v3, v4, v5, v6]) hv hm rfl hh hrv hd sp hR hC hst (fun r σ' n' h => by
    rcases h with h | ⟨x, e2, -⟩
    · obtain ⟨v, e1, h⟩ := h
      cases e1
      exact kk v σ' n' h
    · cases e2) (fun x σ' n' h => by
    rcases h with h | ⟨y, e2, h⟩
    · obtain ⟨v, e1, -⟩ := h
      cases e1
    · cases e2
      exact kx x σ' n' h)
theorem go_V6V {v1 v2 v3 v4 v5 v6 : Value} {b : Nat} {ix : Nat} {X : sto → Nat → Prop} (hv : vLk M.1.cls ix M' 6) (hm : M'.2.2.2.2 = []) (hh : M.2.2.2.2 = []) (hrv : rcv Γ σ n b M'.1.cls) (hd : decode M.2.1 pc = .ok (.invokevirtual ix, 3)) (sp : Sp Γ R' M' (.ref b :: [v1, v2, v3, v4, v5, v6]) σ n (qV X)) (kk : ∀ σ' n', X σ' n' → Go Γ R M Q (cells + R'.cells) (slots + R'.slots) (pc + 3) lv (rest) σ' n') (hR : R'.frames + 1 ≤ R.frames ∧ 8 + (M'.2.2.1 + 11) + R'.locals ≤ R.locals := by exact rm_ok (Nat.le_of_ble_eq_true rfl) (by omega)) (hC : cells + R'.cells ≤ R.cells ∧ slots + R'.slots ≤ R.slots := by exact ⟨Nat.le_of_ble_eq_true rfl, Nat.le_of_ble_eq_true rfl⟩) (hst : (rest.map fun v => v.category).sum ≤ 8 := by exact Nat.le_of_ble_eq_true rfl) : Go Γ R M Q cells slots pc lv (v6 :: v5 :: v4 :: v3 :: v2 :: v1 :: .ref b :: rest) σ n := by
  exact go_cv (As := [v1, v2, v3, v4, v5, v6]) hv hm rfl hh hrv hd sp hR hC hst (fun r σ' n' h => by
    obtain ⟨e1, h⟩ := h
    cases e1
    exact kk σ' n' h) (fun x σ' n' h => by
    obtain ⟨e1, -⟩ := h
    cases e1)
theorem go_V6Vx {v1 v2 v3 v4 v5 v6 : Value} {b : Nat} {ix : Nat} {X : sto → Nat → Prop} (hv : vLk M.1.cls ix M' 6) (hm : M'.2.2.2.2 = []) (hh : M.2.2.2.2 = []) (hrv : rcv Γ σ n b M'.1.cls) (hd : decode M.2.1 pc = .ok (.invokevirtual ix, 3)) (sp : Sp Γ R' M' (.ref b :: [v1, v2, v3, v4, v5, v6]) σ n (qT (qV X) E)) (kx : ∀ x σ' n', E x σ' n' → Q (.inr x) σ' n') (kk : ∀ σ' n', X σ' n' → Go Γ R M Q (cells + R'.cells) (slots + R'.slots) (pc + 3) lv (rest) σ' n') (hR : R'.frames + 1 ≤ R.frames ∧ 8 + (M'.2.2.1 + 11) + R'.locals ≤ R.locals := by exact rm_ok (Nat.le_of_ble_eq_true rfl) (by omega)) (hC : cells + R'.cells ≤ R.cells ∧ slots + R'.slots ≤ R.slots := by exact ⟨Nat.le_of_ble_eq_true rfl, Nat.le_of_ble_eq_true rfl⟩) (hst : (rest.map fun v => v.category).sum ≤ 8 := by exact Nat.le_of_ble_eq_true rfl) : Go Γ R M Q cells slots pc lv (v6 :: v5 :: v4 :: v3 :: v2 :: v1 :: .ref b :: rest) σ n := by
  exact go_cv (As := [v1, v2, v3, v4, v5, v6]) hv hm rfl hh hrv hd sp hR hC hst (fun r σ' n' h => by
    rcases h with h | ⟨x, e2, -⟩
    · obtain ⟨e1, h⟩ := h
      cases e1
      exact kk σ' n' h
    · cases e2) (fun x σ' n' h => by
    rcases h with h | ⟨y, e2, h⟩
    · obtain ⟨e1, -⟩ := h
      cases e1
    · cases e2
      exact kx x σ' n' h)
theorem go_V6P {v1 v2 v3 v4 v5 v6 : Value} {b : Nat} {ix : Nat} {r : Int32} (hv : vLk M.1.cls ix M' 6) (hm : M'.2.2.2.2 = []) (hh : M.2.2.2.2 = []) (hrv : rcv Γ σ n b M'.1.cls) (hd : decode M.2.1 pc = .ok (.invokevirtual ix, 3)) (sp : Sp Γ R' M' (.ref b :: [v1, v2, v3, v4, v5, v6]) σ n (qP r σ n)) (kk : Go Γ R M Q (cells + R'.cells) (slots + R'.slots) (pc + 3) lv (.int r :: rest) σ n) (hR : R'.frames + 1 ≤ R.frames ∧ 8 + (M'.2.2.1 + 11) + R'.locals ≤ R.locals := by exact rm_ok (Nat.le_of_ble_eq_true rfl) (by omega)) (hC : cells + R'.cells ≤ R.cells ∧ slots + R'.slots ≤ R.slots := by exact ⟨Nat.le_of_ble_eq_true rfl, Nat.le_of_ble_eq_true rfl⟩) (hst : (rest.map fun v => v.category).sum ≤ 8 := by exact Nat.le_of_ble_eq_true rfl) : Go Γ R M Q cells slots pc lv (v6 :: v5 :: v4 :: v3 :: v2 :: v1 :: .ref b :: rest) σ n := go_V6I hv hm hh hrv hd sp (fun v σ' n' h => by obtain ⟨rfl, rfl, rfl⟩ := h; exact kk) hR hC hst
theorem go_V6PL {v1 v2 v3 v4 v5 v6 : Value} {b : Nat} {ix : Nat} {r : Int64} (hv : vLk M.1.cls ix M' 6) (hm : M'.2.2.2.2 = []) (hh : M.2.2.2.2 = []) (hrv : rcv Γ σ n b M'.1.cls) (hd : decode M.2.1 pc = .ok (.invokevirtual ix, 3)) (sp : Sp Γ R' M' (.ref b :: [v1, v2, v3, v4, v5, v6]) σ n (qPL r σ n)) (kk : Go Γ R M Q (cells + R'.cells) (slots + R'.slots) (pc + 3) lv (.long r :: rest) σ n) (hR : R'.frames + 1 ≤ R.frames ∧ 8 + (M'.2.2.1 + 11) + R'.locals ≤ R.locals := by exact rm_ok (Nat.le_of_ble_eq_true rfl) (by omega)) (hC : cells + R'.cells ≤ R.cells ∧ slots + R'.slots ≤ R.slots := by exact ⟨Nat.le_of_ble_eq_true rfl, Nat.le_of_ble_eq_true rfl⟩) (hst : (rest.map fun v => v.category).sum ≤ 8 := by exact Nat.le_of_ble_eq_true rfl) : Go Γ R M Q cells slots pc lv (v6 :: v5 :: v4 :: v3 :: v2 :: v1 :: .ref b :: rest) σ n := go_V6L hv hm hh hrv hd sp (fun v σ' n' h => by obtain ⟨rfl, rfl, rfl⟩ := h; exact kk) hR hC hst
theorem go_S6I {v1 v2 v3 v4 v5 v6 : Value} {ix : Nat} {X : Int32 → sto → Nat → Prop} (hv : sLk M.1.cls ix M' 6) (hm : M'.2.2.2.2 = []) (hh : M.2.2.2.2 = []) (hd : decode M.2.1 pc = .ok (.invokestatic ix, 3)) (sp : Sp Γ R' M' [v1, v2, v3, v4, v5, v6] σ n (qI X)) (kk : ∀ v σ' n', X v σ' n' → Go Γ R M Q (cells + R'.cells) (slots + R'.slots) (pc + 3) lv (.int v :: rest) σ' n') (hR : R'.frames + 1 ≤ R.frames ∧ 8 + (M'.2.2.1 + 11) + R'.locals ≤ R.locals := by exact rm_ok (Nat.le_of_ble_eq_true rfl) (by omega)) (hC : cells + R'.cells ≤ R.cells ∧ slots + R'.slots ≤ R.slots := by exact ⟨Nat.le_of_ble_eq_true rfl, Nat.le_of_ble_eq_true rfl⟩) (hst : (rest.map fun v => v.category).sum ≤ 8 := by exact Nat.le_of_ble_eq_true rfl) : Go Γ R M Q cells slots pc lv (v6 :: v5 :: v4 :: v3 :: v2 :: v1 :: rest) σ n := by
  exact go_cs (As := [v1, v2, v3, v4, v5, v6]) hv hm rfl hh hd sp hR hC hst (fun r σ' n' h => by
    obtain ⟨v, e1, h⟩ := h
    cases e1
    exact kk v σ' n' h) (fun x σ' n' h => by
    obtain ⟨v, e1, -⟩ := h
    cases e1)
theorem go_S6Ix {v1 v2 v3 v4 v5 v6 : Value} {ix : Nat} {X : Int32 → sto → Nat → Prop} (hv : sLk M.1.cls ix M' 6) (hm : M'.2.2.2.2 = []) (hh : M.2.2.2.2 = []) (hd : decode M.2.1 pc = .ok (.invokestatic ix, 3)) (sp : Sp Γ R' M' [v1, v2, v3, v4, v5, v6] σ n (qT (qI X) E)) (kx : ∀ x σ' n', E x σ' n' → Q (.inr x) σ' n') (kk : ∀ v σ' n', X v σ' n' → Go Γ R M Q (cells + R'.cells) (slots + R'.slots) (pc + 3) lv (.int v :: rest) σ' n') (hR : R'.frames + 1 ≤ R.frames ∧ 8 + (M'.2.2.1 + 11) + R'.locals ≤ R.locals := by exact rm_ok (Nat.le_of_ble_eq_true rfl) (by omega)) (hC : cells + R'.cells ≤ R.cells ∧ slots + R'.slots ≤ R.slots := by exact ⟨Nat.le_of_ble_eq_true rfl, Nat.le_of_ble_eq_true rfl⟩) (hst : (rest.map fun v => v.category).sum ≤ 8 := by exact Nat.le_of_ble_eq_true rfl) : Go Γ R M Q cells slots pc lv (v6 :: v5 :: v4 :: v3 :: v2 :: v1 :: rest) σ n := by
  exact go_cs (As := [v1, v2, v3, v4, v5, v6]) hv hm rfl hh hd sp hR hC hst (fun r σ' n' h => by
    rcases h with h | ⟨x, e2, -⟩
    · obtain ⟨v, e1, h⟩ := h
      cases e1
      exact kk v σ' n' h
    · cases e2) (fun x σ' n' h => by
    rcases h with h | ⟨y, e2, h⟩
    · obtain ⟨v, e1, -⟩ := h
      cases e1
    · cases e2
      exact kx x σ' n' h)
theorem go_S6L {v1 v2 v3 v4 v5 v6 : Value} {ix : Nat} {X : Int64 → sto → Nat → Prop} (hv : sLk M.1.cls ix M' 6) (hm : M'.2.2.2.2 = []) (hh : M.2.2.2.2 = []) (hd : decode M.2.1 pc = .ok (.invokestatic ix, 3)) (sp : Sp Γ R' M' [v1, v2, v3, v4, v5, v6] σ n (qL X)) (kk : ∀ v σ' n', X v σ' n' → Go Γ R M Q (cells + R'.cells) (slots + R'.slots) (pc + 3) lv (.long v :: rest) σ' n') (hR : R'.frames + 1 ≤ R.frames ∧ 8 + (M'.2.2.1 + 11) + R'.locals ≤ R.locals := by exact rm_ok (Nat.le_of_ble_eq_true rfl) (by omega)) (hC : cells + R'.cells ≤ R.cells ∧ slots + R'.slots ≤ R.slots := by exact ⟨Nat.le_of_ble_eq_true rfl, Nat.le_of_ble_eq_true rfl⟩) (hst : (rest.map fun v => v.category).sum ≤ 8 := by exact Nat.le_of_ble_eq_true rfl) : Go Γ R M Q cells slots pc lv (v6 :: v5 :: v4 :: v3 :: v2 :: v1 :: rest) σ n := by
  exact go_cs (As := [v1, v2, v3, v4, v5, v6]) hv hm rfl hh hd sp hR hC hst (fun r σ' n' h => by
    obtain ⟨v, e1, h⟩ := h
    cases e1
    exact kk v σ' n' h) (fun x σ' n' h => by
    obtain ⟨v, e1, -⟩ := h
    cases e1)
theorem go_S6Lx {v1 v2 v3 v4 v5 v6 : Value} {ix : Nat} {X : Int64 → sto → Nat → Prop} (hv : sLk M.1.cls ix M' 6) (hm : M'.2.2.2.2 = []) (hh : M.2.2.2.2 = []) (hd : decode M.2.1 pc = .ok (.invokestatic ix, 3)) (sp : Sp Γ R' M' [v1, v2, v3, v4, v5, v6] σ n (qT (qL X) E)) (kx : ∀ x σ' n', E x σ' n' → Q (.inr x) σ' n') (kk : ∀ v σ' n', X v σ' n' → Go Γ R M Q (cells + R'.cells) (slots + R'.slots) (pc + 3) lv (.long v :: rest) σ' n') (hR : R'.frames + 1 ≤ R.frames ∧ 8 + (M'.2.2.1 + 11) + R'.locals ≤ R.locals := by exact rm_ok (Nat.le_of_ble_eq_true rfl) (by omega)) (hC : cells + R'.cells ≤ R.cells ∧ slots + R'.slots ≤ R.slots := by exact ⟨Nat.le_of_ble_eq_true rfl, Nat.le_of_ble_eq_true rfl⟩) (hst : (rest.map fun v => v.category).sum ≤ 8 := by exact Nat.le_of_ble_eq_true rfl) : Go Γ R M Q cells slots pc lv (v6 :: v5 :: v4 :: v3 :: v2 :: v1 :: rest) σ n := by
  exact go_cs (As := [v1, v2, v3, v4, v5, v6]) hv hm rfl hh hd sp hR hC hst (fun r σ' n' h => by
    rcases h with h | ⟨x, e2, -⟩
    · obtain ⟨v, e1, h⟩ := h
      cases e1
      exact kk v σ' n' h
    · cases e2) (fun x σ' n' h => by
    rcases h with h | ⟨y, e2, h⟩
    · obtain ⟨v, e1, -⟩ := h
      cases e1
    · cases e2
      exact kx x σ' n' h)
theorem go_S6A {v1 v2 v3 v4 v5 v6 : Value} {ix : Nat} {X : Nat → sto → Nat → Prop} (hv : sLk M.1.cls ix M' 6) (hm : M'.2.2.2.2 = []) (hh : M.2.2.2.2 = []) (hd : decode M.2.1 pc = .ok (.invokestatic ix, 3)) (sp : Sp Γ R' M' [v1, v2, v3, v4, v5, v6] σ n (qA X)) (kk : ∀ v σ' n', X v σ' n' → Go Γ R M Q (cells + R'.cells) (slots + R'.slots) (pc + 3) lv (.ref v :: rest) σ' n') (hR : R'.frames + 1 ≤ R.frames ∧ 8 + (M'.2.2.1 + 11) + R'.locals ≤ R.locals := by exact rm_ok (Nat.le_of_ble_eq_true rfl) (by omega)) (hC : cells + R'.cells ≤ R.cells ∧ slots + R'.slots ≤ R.slots := by exact ⟨Nat.le_of_ble_eq_true rfl, Nat.le_of_ble_eq_true rfl⟩) (hst : (rest.map fun v => v.category).sum ≤ 8 := by exact Nat.le_of_ble_eq_true rfl) : Go Γ R M Q cells slots pc lv (v6 :: v5 :: v4 :: v3 :: v2 :: v1 :: rest) σ n := by
  exact go_cs (As := [v1, v2, v3, v4, v5, v6]) hv hm rfl hh hd sp hR hC hst (fun r σ' n' h => by
    obtain ⟨v, e1, h⟩ := h
    cases e1
    exact kk v σ' n' h) (fun x σ' n' h => by
    obtain ⟨v, e1, -⟩ := h
    cases e1)
theorem go_S6Ax {v1 v2 v3 v4 v5 v6 : Value} {ix : Nat} {X : Nat → sto → Nat → Prop} (hv : sLk M.1.cls ix M' 6) (hm : M'.2.2.2.2 = []) (hh : M.2.2.2.2 = []) (hd : decode M.2.1 pc = .ok (.invokestatic ix, 3)) (sp : Sp Γ R' M' [v1, v2, v3, v4, v5, v6] σ n (qT (qA X) E)) (kx : ∀ x σ' n', E x σ' n' → Q (.inr x) σ' n') (kk : ∀ v σ' n', X v σ' n' → Go Γ R M Q (cells + R'.cells) (slots + R'.slots) (pc + 3) lv (.ref v :: rest) σ' n') (hR : R'.frames + 1 ≤ R.frames ∧ 8 + (M'.2.2.1 + 11) + R'.locals ≤ R.locals := by exact rm_ok (Nat.le_of_ble_eq_true rfl) (by omega)) (hC : cells + R'.cells ≤ R.cells ∧ slots + R'.slots ≤ R.slots := by exact ⟨Nat.le_of_ble_eq_true rfl, Nat.le_of_ble_eq_true rfl⟩) (hst : (rest.map fun v => v.category).sum ≤ 8 := by exact Nat.le_of_ble_eq_true rfl) : Go Γ R M Q cells slots pc lv (v6 :: v5 :: v4 :: v3 :: v2 :: v1 :: rest) σ n := by
  exact go_cs (As := [v1, v2, v3, v4, v5, v6]) hv hm rfl hh hd sp hR hC hst (fun r σ' n' h => by
    rcases h with h | ⟨x, e2, -⟩
    · obtain ⟨v, e1, h⟩ := h
      cases e1
      exact kk v σ' n' h
    · cases e2) (fun x σ' n' h => by
    rcases h with h | ⟨y, e2, h⟩
    · obtain ⟨v, e1, -⟩ := h
      cases e1
    · cases e2
      exact kx x σ' n' h)
theorem go_S6V {v1 v2 v3 v4 v5 v6 : Value} {ix : Nat} {X : sto → Nat → Prop} (hv : sLk M.1.cls ix M' 6) (hm : M'.2.2.2.2 = []) (hh : M.2.2.2.2 = []) (hd : decode M.2.1 pc = .ok (.invokestatic ix, 3)) (sp : Sp Γ R' M' [v1, v2, v3, v4, v5, v6] σ n (qV X)) (kk : ∀ σ' n', X σ' n' → Go Γ R M Q (cells + R'.cells) (slots + R'.slots) (pc + 3) lv (rest) σ' n') (hR : R'.frames + 1 ≤ R.frames ∧ 8 + (M'.2.2.1 + 11) + R'.locals ≤ R.locals := by exact rm_ok (Nat.le_of_ble_eq_true rfl) (by omega)) (hC : cells + R'.cells ≤ R.cells ∧ slots + R'.slots ≤ R.slots := by exact ⟨Nat.le_of_ble_eq_true rfl, Nat.le_of_ble_eq_true rfl⟩) (hst : (rest.map fun v => v.category).sum ≤ 8 := by exact Nat.le_of_ble_eq_true rfl) : Go Γ R M Q cells slots pc lv (v6 :: v5 :: v4 :: v3 :: v2 :: v1 :: rest) σ n := by
  exact go_cs (As := [v1, v2, v3, v4, v5, v6]) hv hm rfl hh hd sp hR hC hst (fun r σ' n' h => by
    obtain ⟨e1, h⟩ := h
    cases e1
    exact kk σ' n' h) (fun x σ' n' h => by
    obtain ⟨e1, -⟩ := h
    cases e1)
theorem go_S6Vx {v1 v2 v3 v4 v5 v6 : Value} {ix : Nat} {X : sto → Nat → Prop} (hv : sLk M.1.cls ix M' 6) (hm : M'.2.2.2.2 = []) (hh : M.2.2.2.2 = []) (hd : decode M.2.1 pc = .ok (.invokestatic ix, 3)) (sp : Sp Γ R' M' [v1, v2, v3, v4, v5, v6] σ n (qT (qV X) E)) (kx : ∀ x σ' n', E x σ' n' → Q (.inr x) σ' n') (kk : ∀ σ' n', X σ' n' → Go Γ R M Q (cells + R'.cells) (slots + R'.slots) (pc + 3) lv (rest) σ' n') (hR : R'.frames + 1 ≤ R.frames ∧ 8 + (M'.2.2.1 + 11) + R'.locals ≤ R.locals := by exact rm_ok (Nat.le_of_ble_eq_true rfl) (by omega)) (hC : cells + R'.cells ≤ R.cells ∧ slots + R'.slots ≤ R.slots := by exact ⟨Nat.le_of_ble_eq_true rfl, Nat.le_of_ble_eq_true rfl⟩) (hst : (rest.map fun v => v.category).sum ≤ 8 := by exact Nat.le_of_ble_eq_true rfl) : Go Γ R M Q cells slots pc lv (v6 :: v5 :: v4 :: v3 :: v2 :: v1 :: rest) σ n := by
  exact go_cs (As := [v1, v2, v3, v4, v5, v6]) hv hm rfl hh hd sp hR hC hst (fun r σ' n' h => by
    rcases h with h | ⟨x, e2, -⟩
    · obtain ⟨e1, h⟩ := h
      cases e1
      exact kk σ' n' h
    · cases e2) (fun x σ' n' h => by
    rcases h with h | ⟨y, e2, h⟩
    · obtain ⟨e1, -⟩ := h
      cases e1
    · cases e2
      exact kx x σ' n' h)
theorem go_S6P {v1 v2 v3 v4 v5 v6 : Value} {ix : Nat} {r : Int32} (hv : sLk M.1.cls ix M' 6) (hm : M'.2.2.2.2 = []) (hh : M.2.2.2.2 = []) (hd : decode M.2.1 pc = .ok (.invokestatic ix, 3)) (sp : Sp Γ R' M' [v1, v2, v3, v4, v5, v6] σ n (qP r σ n)) (kk : Go Γ R M Q (cells + R'.cells) (slots + R'.slots) (pc + 3) lv (.int r :: rest) σ n) (hR : R'.frames + 1 ≤ R.frames ∧ 8 + (M'.2.2.1 + 11) + R'.locals ≤ R.locals := by exact rm_ok (Nat.le_of_ble_eq_true rfl) (by omega)) (hC : cells + R'.cells ≤ R.cells ∧ slots + R'.slots ≤ R.slots := by exact ⟨Nat.le_of_ble_eq_true rfl, Nat.le_of_ble_eq_true rfl⟩) (hst : (rest.map fun v => v.category).sum ≤ 8 := by exact Nat.le_of_ble_eq_true rfl) : Go Γ R M Q cells slots pc lv (v6 :: v5 :: v4 :: v3 :: v2 :: v1 :: rest) σ n := go_S6I hv hm hh hd sp (fun v σ' n' h => by obtain ⟨rfl, rfl, rfl⟩ := h; exact kk) hR hC hst
theorem go_S6PL {v1 v2 v3 v4 v5 v6 : Value} {ix : Nat} {r : Int64} (hv : sLk M.1.cls ix M' 6) (hm : M'.2.2.2.2 = []) (hh : M.2.2.2.2 = []) (hd : decode M.2.1 pc = .ok (.invokestatic ix, 3)) (sp : Sp Γ R' M' [v1, v2, v3, v4, v5, v6] σ n (qPL r σ n)) (kk : Go Γ R M Q (cells + R'.cells) (slots + R'.slots) (pc + 3) lv (.long r :: rest) σ n) (hR : R'.frames + 1 ≤ R.frames ∧ 8 + (M'.2.2.1 + 11) + R'.locals ≤ R.locals := by exact rm_ok (Nat.le_of_ble_eq_true rfl) (by omega)) (hC : cells + R'.cells ≤ R.cells ∧ slots + R'.slots ≤ R.slots := by exact ⟨Nat.le_of_ble_eq_true rfl, Nat.le_of_ble_eq_true rfl⟩) (hst : (rest.map fun v => v.category).sum ≤ 8 := by exact Nat.le_of_ble_eq_true rfl) : Go Γ R M Q cells slots pc lv (v6 :: v5 :: v4 :: v3 :: v2 :: v1 :: rest) σ n := go_S6L hv hm hh hd sp (fun v σ' n' h => by obtain ⟨rfl, rfl, rfl⟩ := h; exact kk) hR hC hst
theorem go_I6V {v1 v2 v3 v4 v5 v6 : Value} {b : Nat} {ix : Nat} {X : sto → Nat → Prop} (hv : iLk M.1.cls ix M' 6) (hm : M'.2.2.2.2 = []) (hret : M'.2.2.2.1 = none) (hd : decode M.2.1 pc = .ok (.invokespecial ix, 3)) (sp : Sp Γ R' M' (.ref b :: [v1, v2, v3, v4, v5, v6]) σ n (qV X)) (kk : ∀ σ' n', X σ' n' → Go Γ R M Q (cells + R'.cells) (slots + R'.slots) (pc + 3) lv (rest) σ' n') (hR : R'.frames + 1 ≤ R.frames ∧ 8 + (M'.2.2.1 + 11) + R'.locals ≤ R.locals := by exact rm_ok (Nat.le_of_ble_eq_true rfl) (by omega)) (hC : cells + R'.cells ≤ R.cells ∧ slots + R'.slots ≤ R.slots := by exact ⟨Nat.le_of_ble_eq_true rfl, Nat.le_of_ble_eq_true rfl⟩) (hst : (rest.map fun v => v.category).sum ≤ 8 := by exact Nat.le_of_ble_eq_true rfl) : Go Γ R M Q cells slots pc lv (v6 :: v5 :: v4 :: v3 :: v2 :: v1 :: .ref b :: rest) σ n := by
  exact go_ci (As := [v1, v2, v3, v4, v5, v6]) hv hm hret rfl hd sp (fun x σ' n' h => by
    obtain ⟨e1, -⟩ := h
    cases e1) hR hC hst (fun r σ' n' h => by
    obtain ⟨e1, h⟩ := h
    cases e1
    exact kk σ' n' h)
end GoTyped
