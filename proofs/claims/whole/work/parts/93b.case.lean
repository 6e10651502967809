/-! ===== the law's cases: feed, beach ===== -/
theorem la_feed {Γ : gam} {Q : qp} {σ : sto} {n b a L m cells slots : Nat} {xs : row} {x5 x6 x7 : Option Value} (hI : LI Γ σ n b a L xs) (hL : 6 * m + 6 ≤ L) (hL2 : L ≤ 3072) (hc : cells + 910 ≤ 601024) (hs : slots + 12700 ≤ 7293034) (kk : ∀ σ' n' y5 y6 y7, LI Γ σ' n' b a L xs → Go Γ RL1 uL_law Q (cells + 910) (slots + 12700) 2749 [some (.ref b), some (.ref a), some (.ref (a + 114)), some (.ref (a + 131)), some (.int (nI (6 * m))), y5, y6, y7] [] σ' n') : Go Γ RL1 uL_law Q cells slots 228 [some (.ref b), some (.ref a), some (.ref (a + 114)), some (.ref (a + 131)), some (.int (nI (6 * m))), x5, x6, x7] [] σ n := by
  obtain ⟨ro, F, K, G, im, A, Nm, KI, hN, hR⟩ := hI
  have hb := hN.2.1
  obtain ⟨T, hT9, hG9⟩ := hN.2.2.2.2.2.2.2.2.2.2.2.2.1
  refine go_aload_n (pc := 228) dL_law_228 rfl ?_
  refine go_aload_n (pc := 229) dL_law_229 rfl ?_
  refine go_iload (pc := 230) dL_law_230 rfl ?_
  refine go_iconst (v := 1) (pc := 232) dL_law_232 (by decide) ?_
  refine go_iadd (pc := 233) dL_law_233 ?_
  refine go_iaB (hN := (by omega)) (pc := 234) dL_law_234 hb (by exact ⟨nI_add _ 1, by omega⟩) ?_
  refine go_aload_n (pc := 235) dL_law_235 rfl ?_
  refine go_iload (pc := 236) dL_law_236 rfl ?_
  refine go_iconst (v := 2) (pc := 238) dL_law_238 (by decide) ?_
  refine go_iadd (pc := 239) dL_law_239 ?_
  refine go_iaB (hN := (by omega)) (pc := 240) dL_law_240 hb (by exact ⟨nI_add _ 2, by omega⟩) ?_
  refine go_aload_n (pc := 241) dL_law_241 rfl ?_
  refine go_iload (pc := 242) dL_law_242 rfl ?_
  refine go_iconst (v := 3) (pc := 244) dL_law_244 (by decide) ?_
  refine go_iadd (pc := 245) dL_law_245 ?_
  refine go_iaB (hN := (by omega)) (pc := 246) dL_law_246 hb (by exact ⟨nI_add _ 3, by omega⟩) ?_
  refine go_aload_n (pc := 247) dL_law_247 rfl ?_
  refine go_iload (pc := 248) dL_law_248 rfl ?_
  refine go_iconst (v := 4) (pc := 250) dL_law_250 (by decide) ?_
  refine go_iadd (pc := 251) dL_law_251 ?_
  refine go_iaB (hN := (by omega)) (pc := 252) dL_law_252 hb (by exact ⟨nI_add _ 4, by omega⟩) ?_
  refine go_aload_n (pc := 253) dL_law_253 rfl ?_
  refine go_iload (pc := 254) dL_law_254 rfl ?_
  refine go_iconst (v := 5) (pc := 256) dL_law_256 (by decide) ?_
  refine go_iadd (pc := 257) dL_law_257 ?_
  refine go_iaB (hN := (by omega)) (pc := 258) dL_law_258 hb (by exact ⟨nI_add _ 5, by omega⟩) ?_
  refine go_V5I (pc := 259) v_L_134 rfl rfl (rcv_of (ci := 7) (co0 hN.2.2.2.1) rfl) dL_law_259 (cp_feed (k := 2000) hN.2.2.2.1 hN.2.2.2.2.2.2.2.2.2.2.1 hG9 hT9 (by decide) _ _ _ _ _) (fun v_259 σ n h => ?_) (hR := ⟨Nat.le_of_ble_eq_true rfl, Nat.le_of_ble_eq_true rfl⟩) (hC := ⟨by show cells + 0 ≤ 601024; omega, by show slots + 0 ≤ 7293034; omega⟩)
  have hP : fdP Γ ro _ _ a T G (A 5) im _ _ _ _ _ _ _ _ := h
  obtain ⟨hb, hM⟩ := fd_1 hN hR.1 hP
  refine go_aload_n (pc := 262) dL_law_262 rfl ?_
  refine go_aload_n (pc := 263) dL_law_263 rfl ?_
  refine go_iload (pc := 264) dL_law_264 rfl ?_
  refine go_iconst (v := 1) (pc := 266) dL_law_266 (by decide) ?_
  refine go_iadd (pc := 267) dL_law_267 ?_
  refine go_iaB (hN := (by omega)) (pc := 268) dL_law_268 hb (by exact ⟨nI_add _ 1, by omega⟩) ?_
  refine go_aload_n (pc := 269) dL_law_269 rfl ?_
  refine go_iload (pc := 270) dL_law_270 rfl ?_
  refine go_iconst (v := 2) (pc := 272) dL_law_272 (by decide) ?_
  refine go_iadd (pc := 273) dL_law_273 ?_
  refine go_iaB (hN := (by omega)) (pc := 274) dL_law_274 hb (by exact ⟨nI_add _ 2, by omega⟩) ?_
  refine go_aload_n (pc := 275) dL_law_275 rfl ?_
  refine go_iload (pc := 276) dL_law_276 rfl ?_
  refine go_iconst (v := 3) (pc := 278) dL_law_278 (by decide) ?_
  refine go_iadd (pc := 279) dL_law_279 ?_
  refine go_iaB (hN := (by omega)) (pc := 280) dL_law_280 hb (by exact ⟨nI_add _ 3, by omega⟩) ?_
  refine go_aload_n (pc := 281) dL_law_281 rfl ?_
  refine go_iload (pc := 282) dL_law_282 rfl ?_
  refine go_iconst (v := 4) (pc := 284) dL_law_284 (by decide) ?_
  refine go_iadd (pc := 285) dL_law_285 ?_
  refine go_iaB (hN := (by omega)) (pc := 286) dL_law_286 hb (by exact ⟨nI_add _ 4, by omega⟩) ?_
  refine go_aload_n (pc := 287) dL_law_287 rfl ?_
  refine go_iload (pc := 288) dL_law_288 rfl ?_
  refine go_iconst (v := 5) (pc := 290) dL_law_290 (by decide) ?_
  refine go_iadd (pc := 291) dL_law_291 ?_
  refine go_iaB (hN := (by omega)) (pc := 292) dL_law_292 hb (by exact ⟨nI_add _ 5, by omega⟩) ?_
  refine go_V5I (pc := 293) v_L_138 rfl rfl (rcv_of (ci := 8) hM.1 rfl) dL_law_293 (sp_feed (k := 2000) hM (by decide) (hR.2.1.trans hG9) hT9 _ _ _ _ _) (fun v_293 σ n h => ?_) (hR := ⟨Nat.le_of_ble_eq_true rfl, Nat.le_of_ble_eq_true rfl⟩) (hC := ⟨by show cells + 0 + 0 ≤ 601024; omega, by show slots + 0 + 0 ≤ 7293034; omega⟩)
  obtain ⟨he, rfl, hI2⟩ := fd_2 hN hR hP h
  refine go_icmp_eq (tgt := 2749) (pc := 296) dL_law_296 (by decide) (fun h_296 => ?_) (fun h_296 => by exfalso; first | exact h_296 he | exact h_296 he.symm)
  exact go_wide (c2 := cells + 910) (s2 := slots + 12700) (by show cells + 0 + 0 ≤ cells + 910; omega) (by show slots + 0 + 0 ≤ slots + 12700; omega) (kk _ _ _ _ _ hI2)
theorem la_beach {Γ : gam} {Q : qp} {σ : sto} {n b a L m cells slots : Nat} {xs : row} {x5 x6 x7 : Option Value} (hI : LI Γ σ n b a L xs) (hL : 6 * m + 6 ≤ L) (hL2 : L ≤ 3072) (hc : cells + 910 ≤ 601024) (hs : slots + 12700 ≤ 7293034) (kk : ∀ σ' n' y5 y6 y7, LI Γ σ' n' b a L xs → Go Γ RL1 uL_law Q (cells + 910) (slots + 12700) 2749 [some (.ref b), some (.ref a), some (.ref (a + 114)), some (.ref (a + 131)), some (.int (nI (6 * m))), y5, y6, y7] [] σ' n') : Go Γ RL1 uL_law Q cells slots 301 [some (.ref b), some (.ref a), some (.ref (a + 114)), some (.ref (a + 131)), some (.int (nI (6 * m))), x5, x6, x7] [] σ n := by
  obtain ⟨ro, F, K, G, im, A, Nm, KI, hN, hR⟩ := hI
  have hb := hN.2.1
  obtain ⟨T, hT9, hG9⟩ := hN.2.2.2.2.2.2.2.2.2.2.2.2.1
  refine go_low (fun hl => ?_)
  refine go_aload_n (pc := 301) dL_law_301 rfl ?_
  refine go_aload_n (pc := 302) dL_law_302 rfl ?_
  refine go_iload (pc := 303) dL_law_303 rfl ?_
  refine go_iconst (v := 1) (pc := 305) dL_law_305 (by decide) ?_
  refine go_iadd (pc := 306) dL_law_306 ?_
  refine go_iaB (hN := (by omega)) (pc := 307) dL_law_307 hb (by exact ⟨nI_add _ 1, by omega⟩) ?_
  refine go_aload_n (pc := 308) dL_law_308 rfl ?_
  refine go_WI (As := [.ref a, .int _, .ref (a + 131)]) (rest := []) (pc := 309) s_L_139 rfl rfl rfl dL_law_309 (wq_beach (k := 2000) hN hG9 hT9 (by decide) _) ⟨Nat.le_of_ble_eq_true rfl, Nat.le_of_ble_eq_true rfl⟩ ⟨by show cells + 910 ≤ 601024; omega, by show slots + 12700 ≤ 7293034; omega⟩ (Nat.le_of_ble_eq_true rfl) (fun r9 σ1 n1 hQ => ?_)
  have hP : beP Γ ro _ _ a T G (A 5) im _ _ _ _ := hQ
  obtain ⟨hb, hM⟩ := be_1 hN hR.1 hP
  refine go_istore (lw := [_, _, _, _, _, _, _, _]) (pc := 312) dL_law_312 (by decide) rfl ?_
  refine go_aload_n (pc := 314) dL_law_314 rfl ?_
  refine go_aload_n (pc := 315) dL_law_315 rfl ?_
  refine go_iload (pc := 316) dL_law_316 rfl ?_
  refine go_iconst (v := 1) (pc := 318) dL_law_318 (by decide) ?_
  refine go_iadd (pc := 319) dL_law_319 ?_
  refine go_iaB (hN := (by omega)) (pc := 320) dL_law_320 hb (by exact ⟨nI_add _ 1, by omega⟩) ?_
  refine go_V1I (pc := 321) v_L_144 rfl rfl (rcv_of (ci := 8) hM.1 rfl) dL_law_321 (sp_beach (k := 2000) hM (hR.2.1.trans hG9) hT9 _ (by decide)) (fun v_321 σ n h => ?_) (hR := ⟨Nat.le_of_ble_eq_true rfl, Nat.le_of_ble_eq_true rfl⟩) (hC := ⟨by show cells + 910 + 0 ≤ 601024; omega, by show slots + 12700 + 0 ≤ 7293034; omega⟩)
  obtain ⟨rfl, hI2, ⟨F2, A2, K2, hM2, hF4⟩, fo, ho2, hv2⟩ := be_2 hN hR hl hP h
  refine go_istore (lw := [_, _, _, _, _, _, _, _]) (pc := 324) dL_law_324 (by decide) rfl ?_
  refine go_aload_n (pc := 326) dL_law_326 rfl ?_
  refine go_V0P (pc := 327) v_L_145 rfl rfl (rcv_of (ci := 8) hM2.1 rfl) dL_law_327 (sp_thrown (k := 2000) hM2) ?_ (hR := ⟨Nat.le_of_ble_eq_true rfl, Nat.le_of_ble_eq_true rfl⟩) (hC := ⟨by show cells + 910 + 0 + 0 ≤ 601024; omega, by show slots + 12700 + 0 + 0 ≤ 7293034; omega⟩)
  refine go_iload (pc := 330) dL_law_330 rfl ?_
  refine go_icmp_eq (tgt := 337) (pc := 332) dL_law_332 (by decide) (fun h_332 => ?_) (fun h_332 => by exfalso; first | exact h_332 hF4 | exact h_332 hF4.symm)
  refine go_iload (pc := 337) dL_law_337 rfl ?_
  refine go_if_ne (tgt := 354) (pc := 339) dL_law_339 (by decide) (fun h_339 => ?_) (fun h_339 => ?_)
  · refine go_goto (tgt := 2749) (pc := 354) dL_law_354 (by decide) ?_
    exact go_wide (c2 := cells + 910) (s2 := slots + 12700) (by show cells + 910 + 0 + 0 ≤ cells + 910; omega) (by show slots + 12700 + 0 + 0 ≤ slots + 12700; omega) (kk _ _ _ _ _ hI2)
  · refine go_aload_n (pc := 342) dL_law_342 rfl ?_
    refine go_iconst (v := 0) (pc := 343) dL_law_343 (by decide) ?_
    refine go_lald (j := 0) (pc := 344) dL_law_344 ho2 (by exact ⟨rfl, by decide⟩) ?_
    refine go_iload (pc := 345) dL_law_345 rfl ?_
    refine go_i2l (pc := 347) dL_law_347 ?_
    refine go_lcmp (pc := 348) dL_law_348 ?_
    refine go_if_eq (tgt := 354) (pc := 349) dL_law_349 (by decide) (fun h_349 => ?_) (fun h_349 => by exfalso; (have e0 : r9 = 0 := by first | exact h_339 | exact Decidable.byContradiction h_339); (simp only [lg_cmp_eq] at h_349); exact h_349 (hv2 e0))
    refine go_goto (tgt := 2749) (pc := 354) dL_law_354 (by decide) ?_
    exact go_wide (c2 := cells + 910) (s2 := slots + 12700) (by show cells + 910 + 0 + 0 ≤ cells + 910; omega) (by show slots + 12700 + 0 + 0 ≤ slots + 12700; omega) (kk _ _ _ _ _ hI2)
