/-! ===== the law's loop ===== -/
theorem and_63 (x : Int32) : ∃ c, c < 64 ∧ x &&& 63 = nI c := by
  refine ⟨(x.toBitVec &&& 63#32).toNat, ?_, ?_⟩
  · have h := Nat.and_le_right (n := x.toBitVec.toNat) (m := 63)
    rw [BitVec.toNat_and]
    show x.toBitVec.toNat &&& 63 < 64
    omega
  · apply Int32.toBitVec_inj.1
    show x.toBitVec &&& 63#32 = BitVec.ofNat 32 _
    rw [BitVec.ofNat_toNat, BitVec.setWidth_eq]
theorem lw_cmp {L m : Nat} (hL : L ≤ 3072) (hm : m ≤ 512) : (nI L - 6 < nI (6 * m)) ↔ L < 6 * m + 6 := by
  have e : (nI L - 6).toInt = (L : Int) - 6 := by
    rw [Int32.toInt_sub, nI_toInt (by omega), show (6 : Int32).toInt = 6 from rfl]
    exact Int.bmod_eq_of_le (by omega) (by omega)
  rw [Int32.lt_iff_toInt_lt, e, nI_toInt (by omega)]
  omega
theorem lw_sw {Γ : gam} {Q : qp} {σ : sto} {n b a L m cells slots c : Nat} {xs : row} {x5 x6 x7 : Option Value} (hI : LI Γ σ n b a L xs) (hL : 6 * m + 6 ≤ L) (hL2 : L ≤ 3072) (hc : cells + 910 ≤ 601024) (hs : slots + 12700 ≤ 7293034) (h64 : c < 64) (kk : ∀ σ' n' y5 y6 y7, LI Γ σ' n' b a L xs → Go Γ RL1 uL_law Q (cells + 910) (slots + 12700) 2749 [some (.ref b), some (.ref a), some (.ref (a + 114)), some (.ref (a + 131)), some (.int (nI (6 * m))), y5, y6, y7] [] σ' n') : Go Γ RL1 uL_law Q cells slots 40 [some (.ref b), some (.ref a), some (.ref (a + 114)), some (.ref (a + 131)), some (.int (nI (6 * m))), x5, x6, x7] [.int (nI c)] σ n := by
  match c, h64 with
  | 0, _ => exact go_tableIn (off := 188) (tgt := 228) (pc := 40) dL_law_40 (by decide) (by decide) rfl (by decide) (la_feed hI hL hL2 hc hs kk)
  | 1, _ => exact go_tableIn (off := 261) (tgt := 301) (pc := 40) dL_law_40 (by decide) (by decide) rfl (by decide) (la_beach hI hL hL2 hc hs kk)
  | 2, _ => exact go_tableIn (off := 317) (tgt := 357) (pc := 40) dL_law_40 (by decide) (by decide) rfl (by decide) (la_fault hI hL hL2 hc hs kk)
  | 3, _ => exact go_tableIn (off := 342) (tgt := 382) (pc := 40) dL_law_40 (by decide) (by decide) rfl (by decide) (la_chair hI hL hL2 hc hs kk)
  | 4, _ => exact go_tableIn (off := 410) (tgt := 450) (pc := 40) dL_law_40 (by decide) (by decide) rfl (by decide) (la_person hI hL hL2 hc hs kk)
  | 5, _ => exact go_tableIn (off := 478) (tgt := 518) (pc := 40) dL_law_40 (by decide) (by decide) rfl (by decide) (la_tide hI hL hL2 hc hs kk)
  | 6, _ => exact go_tableIn (off := 534) (tgt := 574) (pc := 40) dL_law_40 (by decide) (by decide) rfl (by decide) (la_moves hI hL hL2 hc hs kk)
  | 7, _ => exact go_tableIn (off := 621) (tgt := 661) (pc := 40) dL_law_40 (by decide) (by decide) rfl (by decide) (la_wets hI hL hL2 hc hs kk)
  | 8, _ => exact go_tableIn (off := 701) (tgt := 741) (pc := 40) dL_law_40 (by decide) (by decide) rfl (by decide) (la_rise hI hL hL2 hc hs kk)
  | 9, _ => exact go_tableIn (off := 726) (tgt := 766) (pc := 40) dL_law_40 (by decide) (by decide) rfl (by decide) (la_sit hI hL hL2 hc hs kk)
  | 10, _ => exact go_tableIn (off := 763) (tgt := 803) (pc := 40) dL_law_40 (by decide) (by decide) rfl (by decide) (la_swap hI hL hL2 hc hs kk)
  | 11, _ => exact go_tableIn (off := 800) (tgt := 840) (pc := 40) dL_law_40 (by decide) (by decide) rfl (by decide) (la_minutes hI hL hL2 hc hs kk)
  | 12, _ => exact go_tableIn (off := 856) (tgt := 896) (pc := 40) dL_law_40 (by decide) (by decide) rfl (by decide) (la_undo hI hL hL2 hc hs kk)
  | 13, _ => exact go_tableIn (off := 912) (tgt := 952) (pc := 40) dL_law_40 (by decide) (by decide) rfl (by decide) (la_judge hI hL hL2 hc hs kk)
  | 14, _ => exact go_tableIn (off := 980) (tgt := 1020) (pc := 40) dL_law_40 (by decide) (by decide) rfl (by decide) (la_perform hI hL hL2 hc hs kk)
  | 15, _ => exact go_tableIn (off := 1036) (tgt := 1076) (pc := 40) dL_law_40 (by decide) (by decide) rfl (by decide) (la_afternoon hI hL hL2 hc hs kk)
  | 16, _ => exact go_tableIn (off := 1104) (tgt := 1144) (pc := 40) dL_law_40 (by decide) (by decide) rfl (by decide) (la_sits hI hL hL2 hc hs kk)
  | 17, _ => exact go_tableIn (off := 1172) (tgt := 1212) (pc := 40) dL_law_40 (by decide) (by decide) rfl (by decide) (la_wetIn hI hL hL2 hc hs kk)
  | 18, _ => exact go_tableIn (off := 1228) (tgt := 1268) (pc := 40) dL_law_40 (by decide) (by decide) rfl (by decide) (la_wetBy hI hL hL2 hc hs kk)
  | 19, _ => exact go_tableIn (off := 1284) (tgt := 1324) (pc := 40) dL_law_40 (by decide) (by decide) rfl (by decide) (la_frontIn hI hL hL2 hc hs kk)
  | 20, _ => exact go_tableIn (off := 1340) (tgt := 1380) (pc := 40) dL_law_40 (by decide) (by decide) rfl (by decide) (la_front hI hL hL2 hc hs kk)
  | 21, _ => exact go_tableIn (off := 1396) (tgt := 1436) (pc := 40) dL_law_40 (by decide) (by decide) rfl (by decide) (la_king hI hL hL2 hc hs kk)
  | 22, _ => exact go_tableIn (off := 1452) (tgt := 1492) (pc := 40) dL_law_40 (by decide) (by decide) rfl (by decide) (la_bring hI hL hL2 hc hs kk)
  | 23, _ => exact go_tableIn (off := 1532) (tgt := 1572) (pc := 40) dL_law_40 (by decide) (by decide) rfl (by decide) (la_faints hI hL hL2 hc hs kk)
  | 24, _ => exact go_tableIn (off := 1612) (tgt := 1652) (pc := 40) dL_law_40 (by decide) (by decide) rfl (by decide) (la_round hI hL hL2 hc hs kk)
  | 25, _ => exact go_tableIn (off := 1668) (tgt := 1708) (pc := 40) dL_law_40 (by decide) (by decide) rfl (by decide) (la_stir hI hL hL2 hc hs kk)
  | 26, _ => exact go_tableIn (off := 1681) (tgt := 1721) (pc := 40) dL_law_40 (by decide) (by decide) rfl (by decide) (la_hands hI hL hL2 hc hs kk)
  | 27, _ => exact go_tableIn (off := 1749) (tgt := 1789) (pc := 40) dL_law_40 (by decide) (by decide) rfl (by decide) (la_relay hI hL hL2 hc hs kk)
  | 28, _ => exact go_tableIn (off := 1805) (tgt := 1845) (pc := 40) dL_law_40 (by decide) (by decide) rfl (by decide) (la_cut hI hL hL2 hc hs kk)
  | 29, _ => exact go_tableIn (off := 1873) (tgt := 1913) (pc := 40) dL_law_40 (by decide) (by decide) rfl (by decide) (la_heaps hI hL hL2 hc hs kk)
  | 30, _ => exact go_tableIn (off := 1886) (tgt := 1926) (pc := 40) dL_law_40 (by decide) (by decide) rfl (by decide) (la_dry hI hL hL2 hc hs kk)
  | 31, _ => exact go_tableIn (off := 1965) (tgt := 2005) (pc := 40) dL_law_40 (by decide) (by decide) rfl (by decide) (la_driest hI hL hL2 hc hs kk)
  | 32, _ => exact go_tableIn (off := 2021) (tgt := 2061) (pc := 40) dL_law_40 (by decide) (by decide) rfl (by decide) (la_where hI hL hL2 hc hs kk)
  | 33, _ => exact go_tableIn (off := 2089) (tgt := 2129) (pc := 40) dL_law_40 (by decide) (by decide) rfl (by decide) (la_changed hI hL hL2 hc hs kk)
  | 34, _ => exact go_tableIn (off := 2157) (tgt := 2197) (pc := 40) dL_law_40 (by decide) (by decide) rfl (by decide) (la_changedAt hI hL hL2 hc hs kk)
  | 35, _ => exact go_tableIn (off := 2237) (tgt := 2277) (pc := 40) dL_law_40 (by decide) (by decide) rfl (by decide) (la_sure hI hL hL2 hc hs kk)
  | 36, _ => exact go_tableIn (off := 2305) (tgt := 2345) (pc := 40) dL_law_40 (by decide) (by decide) rfl (by decide) (la_look hI hL hL2 hc hs kk)
  | 37, _ => exact go_tableIn (off := 2373) (tgt := 2413) (pc := 40) dL_law_40 (by decide) (by decide) rfl (by decide) (la_tray hI hL hL2 hc hs kk)
  | 38, _ => exact go_tableIn (off := 2433) (tgt := 2473) (pc := 40) dL_law_40 (by decide) (by decide) rfl (by decide) (la_write hI hL hL2 hc hs kk)
  | 39, _ => exact go_tableIn (off := 2544) (tgt := 2584) (pc := 40) dL_law_40 (by decide) (by decide) rfl (by decide) (la_copy hI hL hL2 hc hs kk)
  | 40, _ => exact go_tableIn (off := 2612) (tgt := 2652) (pc := 40) dL_law_40 (by decide) (by decide) rfl (by decide) (la_image hI hL hL2 hc hs kk)
  | 41, _ => exact go_tableIn (off := 2648) (tgt := 2688) (pc := 40) dL_law_40 (by decide) (by decide) rfl (by decide) (la_restore hI hL hL2 hc hs kk)
  | 42, _ => exact go_tableIn (off := 2684) (tgt := 2724) (pc := 40) dL_law_40 (by decide) (by decide) rfl (by decide) (la_count hI hL hL2 hc hs kk)
  | c + 43, h64 => exact go_tableOut (tgt := 2749) (pc := 40) dL_law_40 (Or.inr (by rw [nI_toInt (by omega)]; omega)) (by decide) (go_wide (c2 := cells + 910) (s2 := slots + 12700) (by omega) (by omega) (kk σ n _ _ _ hI))
theorem LI.sc {Γ : gam} {σ : sto} {n b a L : Nat} {xs : row} (h : LI Γ σ n b a L xs) : scA Γ b L xs := by
  obtain ⟨ro, F, K, G, im, A, Nm, KI, hN, -⟩ := h
  exact hN.2.1
theorem law_loop {Γ : gam} {Q : qp} {σ : sto} {n b a L c0 s0 : Nat} {xs : row} (hL2 : L ≤ 3072) (hI : LI Γ σ n b a L xs) (hc : c0 + 910 * 512 ≤ 601024) (hs : s0 + 12700 * 512 ≤ 7293034) (hQ : ∀ σ n, Q (.inl (some (.int 1))) σ n) : Go Γ RL1 uL_law Q c0 s0 23 [some (.ref b), some (.ref a), some (.ref (a + 114)), some (.ref (a + 131)), some (.int 0), none, none, none] [] σ n := by
  refine go_iterC (L / 6) c0 910 s0 12700 (fun i lv9 s9 n9 => (∃ y5 y6 y7 : Option Value, lv9 = [some (.ref b), some (.ref a), some (.ref (a + 114)), some (.ref (a + 131)), some (.int (nI (6 * i))), y5, y6, y7]) ∧ LI Γ s9 n9 b a L xs) ⟨⟨none, none, none, rfl⟩, hI⟩ ?_ ?_
  · rintro i lv9 σ n hi ⟨⟨y5, y6, y7, rfl⟩, hI⟩ ih
    have hi2 : 6 * i + 6 ≤ L := by omega
    refine go_iload (pc := 23) dL_law_23 rfl ?_
    refine go_aload_n (pc := 25) dL_law_25 rfl ?_
    refine go_alB (pc := 26) dL_law_26 hI.sc ?_
    refine go_bipush (v := 6) (pc := 27) dL_law_27 (by decide) ?_
    refine go_isub (pc := 29) dL_law_29 ?_
    refine go_icmp_gt (tgt := 2755) (pc := 30) dL_law_30 (by decide) (fun h => by exfalso; have := (lw_cmp hL2 (by omega)).mp h; omega) (fun _ => ?_)
    refine go_aload_n (pc := 33) dL_law_33 rfl ?_
    refine go_iload (pc := 34) dL_law_34 rfl ?_
    refine go_iaB (hN := (by omega)) (pc := 36) dL_law_36 hI.sc ⟨rfl, by omega⟩ ?_
    refine go_bipush (v := 63) (pc := 37) dL_law_37 (by decide) ?_
    refine go_iand (pc := 39) dL_law_39 ?_
    obtain ⟨c, hc9, e9⟩ := and_63 (xs (6 * i))
    rw [e9]
    refine lw_sw hI hi2 hL2 (by omega) (by omega) hc9 (fun σ' n' z5 z6 z7 h => ?_)
    refine go_iinc (v := 6) (lw := [some (.ref b), some (.ref a), some (.ref (a + 114)), some (.ref (a + 131)), some (.int (nI (6 * (i + 1)))), z5, z6, z7]) (pc := 2749) dL_law_2749 rfl (by decide) (by decide) (by rw [show nI (6 * (i + 1)) = nI (6 * i) + 6 from (nI_add (6 * i) 6).symm]; rfl) ?_
    refine go_goto (tgt := 23) (pc := 2752) dL_law_2752 (by decide) ?_
    exact go_wide (c2 := c0 + 910 * (i + 1)) (s2 := s0 + 12700 * (i + 1)) (by omega) (by omega) (ih _ σ' n' ⟨⟨z5, z6, z7, rfl⟩, h⟩)
  · rintro lv9 σ n ⟨⟨y5, y6, y7, rfl⟩, hI⟩
    refine go_iload (pc := 23) dL_law_23 rfl ?_
    refine go_aload_n (pc := 25) dL_law_25 rfl ?_
    refine go_alB (pc := 26) dL_law_26 hI.sc ?_
    refine go_bipush (v := 6) (pc := 27) dL_law_27 (by decide) ?_
    refine go_isub (pc := 29) dL_law_29 ?_
    refine go_icmp_gt (tgt := 2755) (pc := 30) dL_law_30 (by decide) (fun _ => ?_) (fun h => by exfalso; exact h ((lw_cmp hL2 (by omega)).mpr (by omega)))
    refine go_iconst (v := 1) (pc := 2755) dL_law_2755 (by decide) ?_
    exact go_zret (pc := 2756) rfl rfl dL_law_2756 (by show c0 + 910 * (L / 6) ≤ 601024; omega) (by show s0 + 12700 * (L / 6) ≤ 7293034; omega) (hQ _ _)
