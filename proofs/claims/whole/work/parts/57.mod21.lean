theorem gj_wk5 {a : Nat} {h : Int64} {i : Int32} {x : Option Value} : gj_wk [some (.ref a), some (.long h), none, some (.int i), none] [some (.ref a), some (.long h), none, some (.int i), x] := by
  simp [gj_wk]

set_option maxRecDepth 100000 in
set_option maxHeartbeats 4000000 in
theorem p_X11_digest {X : gj_X} {lim : Nat} {σ : gj_H} {v : gj_V} {m : Nat} {A : aS} {t : Int32} {l : List (aS × Int32)} {tx : List Int32} {c : Nat → Int32} {n sn : Nat} (hs : msh σ m) (hG : MG v m A t l tx c) (hI : IV A n sn) : gj_E X 6 m_X11_digest [.ref m] lim σ v (q_l lim σ (fun z v' => z = z_dig A t l tx c ∧ v' = v)) := by
  obtain ⟨so, s1, s2, s3, s4, s5, s6, s7, s8, s9, s10, s11, s12⟩ := id hs
  have hn6 := hI.2.1.2.2.2.1
  have hn1 := hI.2.1.2.2.1
  have hsn6 := hI.2.1.2.2.2.2.1
  have esn : sno A = sn := sn_eq hI
  have hM0 := hG.1
  have en := nn_eq hI
  have hQ := hI.2.2.2
  have m6 := hM0.1.2.2.2.2.2.2
  have l6 : ∀ (k i : Nat) (h : Int64), i + k = (A.2 20).length → gj_G X 6 m_X11_digest (q_l lim σ (fun z v' => z = dgm (dgl (fun i => (A.2 20).getD i 0) k i h) (a_bits (nn A) A 6 0 0) ∧ v' = v)) lim σ v 0 0 358 [some (.ref m), some (.long h), none, some (.int (nI i)), none] [] := by
    intro k
    induction k with
    | zero =>
      intro i h hk
      have ei : i = (A.2 20).length := by omega
      subst i
      refine g_iload_n (q := 359) dX11_digest_358 rfl rfl ?_
      refine g_aload_n (q := 360) dX11_digest_359 rfl rfl ?_
      refine g_getR (q := 363) f_X11_13 (by assumption) rfl dX11_digest_360 rfl ?_
      refine g_iconst (q := 364) (x := 4) dX11_digest_363 (by decide) rfl ?_
      refine g_iald (q := 365) (by assumption) (show (4 : Int32) = nI 4 from rfl) (by omega) (by decide) dX11_digest_364 rfl ?_
      refine g_icmpge (t := 392) (q := 368) dX11_digest_365 (by decide) rfl (fun hq365 => ?_) (fun hq365 => ?_)
      · refine g_ldc2 (q := 395) dX11_digest_392 l_X11_226 rfl ?_
        refine g_lload_n (q := 396) dX11_digest_395 rfl rfl ?_
        refine g_lmul (q := 397) dX11_digest_396 rfl ?_
        refine g_aload_n (q := 398) dX11_digest_397 rfl rfl ?_
        refine c_Vi (q := 401) (p_X11_stuck0 hs hM0 hQ hn6) k_X11_228 (by assumption) rfl (by decide) rfl rfl (Nat.le_of_ble_eq_true rfl) rfl rfl dX11_digest_398 rfl ?_
        rintro y0 w1 ⟨hy0, hw1⟩
        subst w1
        rw [← en] at hy0
        subst y0
        refine g_i2l (q := 402) dX11_digest_401 rfl ?_
        refine g_ladd (q := 403) dX11_digest_402 rfl ?_
        refine r_l dX11_digest_403 rfl rfl rfl ?_
        exact ⟨rfl, rfl⟩
      · rw [hM0.1.2.2.2.2.1] at hq365
        exact absurd (Int32.le_refl _) hq365
    | succ k ih =>
      intro i h hk
      refine g_iload_n (q := 359) dX11_digest_358 rfl rfl ?_
      refine g_aload_n (q := 360) dX11_digest_359 rfl rfl ?_
      refine g_getR (q := 363) f_X11_13 (by assumption) rfl dX11_digest_360 rfl ?_
      refine g_iconst (q := 364) (x := 4) dX11_digest_363 (by decide) rfl ?_
      refine g_iald (q := 365) (by assumption) (show (4 : Int32) = nI 4 from rfl) (by omega) (by decide) dX11_digest_364 rfl ?_
      refine g_icmpge (t := 392) (q := 368) dX11_digest_365 (by decide) rfl (fun hq365 => ?_) (fun hq365 => ?_)
      · rw [hM0.1.2.2.2.2.1] at hq365
        exact absurd (gn_le hq365 (by omega)) (by omega)
      · refine g_ldc2 (q := 371) dX11_digest_368 l_X11_226 rfl ?_
        refine g_lload_n (q := 372) dX11_digest_371 rfl rfl ?_
        refine g_lmul (q := 373) dX11_digest_372 rfl ?_
        refine g_aload_n (q := 374) dX11_digest_373 rfl rfl ?_
        refine g_getR (q := 377) f_X11_13 (by assumption) rfl dX11_digest_374 rfl ?_
        refine g_sipush (q := 380) (x := 300) dX11_digest_377 (by decide) rfl ?_
        refine g_iload_n (q := 381) dX11_digest_380 rfl rfl ?_
        refine g_iadd (q := 382) dX11_digest_381 rfl ?_
        refine g_iald (q := 383) (by assumption) (show 300 + nI i = nI (300 + i) by simp only [gn_lit, nI_add, pk_mul]) (by omega) (by decide) dX11_digest_382 rfl ?_
        rw [hM0.1.2.2.2.2.2.1 i (by omega)]
        refine g_i2l (q := 384) dX11_digest_383 rfl ?_
        refine g_ladd (q := 385) dX11_digest_384 rfl ?_
        refine g_lstore_n (q := 386) dX11_digest_385 rfl rfl rfl rfl ?_
        dsimp only [List.set]
        refine g_iinc (q := 389) (y := nI (i + 1)) dX11_digest_386 rfl (gn_inc i) rfl rfl rfl rfl ?_
        dsimp only [List.set]
        refine g_goto (q := 358) dX11_digest_389 (by decide) ?_
        exact ih (i + 1) _ (by omega)
  have l5 : ∀ (kb b : Nat) (h : Int64), b + kb = 6 → gj_G X 6 m_X11_digest (q_l lim σ (fun z v' => z = dgm (dgr (A.2 20) (dgW A kb b h)) (a_bits (nn A) A 6 0 0) ∧ v' = v)) lim σ v 0 0 309 [some (.ref m), some (.long h), none, some (.int (nI b)), none] [] := by
    intro kb
    induction kb with
    | zero =>
      intro b h hk
      have eb : b = 6 := by omega
      subst b
      refine g_iload_n (q := 310) dX11_digest_309 rfl rfl ?_
      refine g_bipush (q := 312) (x := 6) dX11_digest_310 (by decide) rfl ?_
      refine g_icmpge (t := 356) (q := 315) dX11_digest_312 (by decide) rfl (fun hq312 => ?_) (fun hq312 => ?_)
      · refine g_iconst (q := 357) (x := 0) dX11_digest_356 (by decide) rfl ?_
        refine g_istore_n (q := 358) dX11_digest_357 rfl rfl rfl rfl ?_
        dsimp only [List.set]
        exact g_wk (gj_wk5 (i := nI 0)) (l6 (A.2 20).length 0 _ (by omega))
      · exact absurd (Int32.le_refl _) hq312
    | succ kb ihb =>
      intro b h hk
      have hwt : ∀ j, j < 5 → v (m + 2) (270 + 5 * b + j) = aw_told (A.1 (30 + b)) j := by
        intro j hj
        obtain ⟨b0, b1, b2, b3, b4⟩ := hM0.2.2.2.2.2.1 b (by omega)
        rcases (show j = 0 ∨ j = 1 ∨ j = 2 ∨ j = 3 ∨ j = 4 by omega) with rfl | rfl | rfl | rfl | rfl
        · exact b0
        · exact b1
        · exact b2
        · exact b3
        · exact b4
      have li : ∀ (k j : Nat) (h : Int64), j + k = 5 → gj_G X 6 m_X11_digest (q_l lim σ (fun z v' => z = dgm (dgr (A.2 20) (dgW A kb (b + 1) (dgl (aw_told (A.1 (30 + b))) k j h))) (a_bits (nn A) A 6 0 0) ∧ v' = v)) lim σ v 0 0 318 [some (.ref m), some (.long h), none, some (.int (nI b)), some (.int (nI j))] [] := by
        intro k
        induction k with
        | zero =>
          intro j h hk
          have ei : j = 5 := by omega
          subst j
          refine g_iload (q := 320) dX11_digest_318 rfl rfl ?_
          refine g_iconst (q := 321) (x := 5) dX11_digest_320 (by decide) rfl ?_
          refine g_icmpge (t := 350) (q := 324) dX11_digest_321 (by decide) rfl (fun hq321 => ?_) (fun hq321 => ?_)
          · refine g_iinc (q := 353) (y := nI (b + 1)) dX11_digest_350 rfl (gn_inc b) rfl rfl rfl rfl ?_
            dsimp only [List.set]
            refine g_goto (q := 309) dX11_digest_353 (by decide) ?_
            exact g_wk (gj_wk5 (i := nI (b + 1))) (ihb (b + 1) _ (by omega))
          · exact absurd (Int32.le_refl _) hq321
        | succ k ih =>
          intro j h hk
          refine g_iload (q := 320) dX11_digest_318 rfl rfl ?_
          refine g_iconst (q := 321) (x := 5) dX11_digest_320 (by decide) rfl ?_
          refine g_icmpge (t := 350) (q := 324) dX11_digest_321 (by decide) rfl (fun hq321 => ?_) (fun hq321 => ?_)
          · exact absurd (gn_le (n := 5) hq321 (by omega)) (by omega)
          · refine g_ldc2 (q := 327) dX11_digest_324 l_X11_226 rfl ?_
            refine g_lload_n (q := 328) dX11_digest_327 rfl rfl ?_
            refine g_lmul (q := 329) dX11_digest_328 rfl ?_
            refine g_aload_n (q := 330) dX11_digest_329 rfl rfl ?_
            refine g_getR (q := 333) f_X11_13 (by assumption) rfl dX11_digest_330 rfl ?_
            refine g_iload_n (q := 334) dX11_digest_333 rfl rfl ?_
            refine c_Si (q := 337) (p_X11_workerAt (b := b)) k_X11_58 (by decide) rfl rfl (Nat.le_of_ble_eq_true rfl) rfl rfl dX11_digest_334 rfl ?_
            rintro z0 w1 ⟨hz0, hw1⟩
            subst w1
            subst z0
            refine g_iload (q := 339) dX11_digest_337 rfl rfl ?_
            refine g_iadd (q := 340) dX11_digest_339 rfl ?_
            refine g_iald (q := 341) (by assumption) (show nI (270 + 5 * b) + nI j = nI (270 + 5 * b + j) by simp only [nI_add]) (by omega) (by decide) dX11_digest_340 rfl ?_
            rw [hwt j (by omega)]
            refine g_i2l (q := 342) dX11_digest_341 rfl ?_
            refine g_ladd (q := 343) dX11_digest_342 rfl ?_
            refine g_lstore_n (q := 344) dX11_digest_343 rfl rfl rfl rfl ?_
            dsimp only [List.set]
            refine g_iinc (q := 347) (y := nI (j + 1)) dX11_digest_344 rfl (gn_inc j) rfl rfl rfl rfl ?_
            dsimp only [List.set]
            refine g_goto (q := 318) dX11_digest_347 (by decide) ?_
            exact ih (j + 1) _ (by omega)
      refine g_iload_n (q := 310) dX11_digest_309 rfl rfl ?_
      refine g_bipush (q := 312) (x := 6) dX11_digest_310 (by decide) rfl ?_
      refine g_icmpge (t := 356) (q := 315) dX11_digest_312 (by decide) rfl (fun hq312 => ?_) (fun hq312 => ?_)
      · exact absurd (gn_le (n := 6) hq312 (by omega)) (by omega)
      · refine g_iconst (q := 316) (x := 0) dX11_digest_315 (by decide) rfl ?_
        refine g_istore (q := 318) dX11_digest_316 rfl rfl rfl rfl ?_
        dsimp only [List.set]
        exact li 5 0 h (by omega)
  have l4 : ∀ (kb b : Nat) (h : Int64), b + kb = sn → gj_G X 6 m_X11_digest (q_l lim σ (fun z v' => z = dgm (dgr (A.2 20) (dgW A 6 0 (dgS A kb b h))) (a_bits (nn A) A 6 0 0) ∧ v' = v)) lim σ v 0 0 260 [some (.ref m), some (.long h), none, some (.int (nI b)), none] [] := by
    intro kb
    induction kb with
    | zero =>
      intro b h hk
      have eb : b = sn := by omega
      subst b
      refine g_iload_n (q := 261) dX11_digest_260 rfl rfl ?_
      refine g_aload_n (q := 262) dX11_digest_261 rfl rfl ?_
      refine g_getR (q := 265) f_X11_13 (by assumption) rfl dX11_digest_262 rfl ?_
      refine g_iconst (q := 266) (x := 1) dX11_digest_265 (by decide) rfl ?_
      refine g_iald (q := 267) (by assumption) (show (1 : Int32) = nI 1 from rfl) (by omega) (by decide) dX11_digest_266 rfl ?_
      refine g_icmpge (t := 307) (q := 270) dX11_digest_267 (by decide) rfl (fun hq267 => ?_) (fun hq267 => ?_)
      · refine g_iconst (q := 308) (x := 0) dX11_digest_307 (by decide) rfl ?_
        refine g_istore_n (q := 309) dX11_digest_308 rfl rfl rfl rfl ?_
        dsimp only [List.set]
        exact g_wk (gj_wk5 (i := nI 0)) (l5 6 0 _ (by omega))
      · rw [hM0.1.2.1, hI.2.1.2.1] at hq267
        exact absurd (Int32.le_refl _) hq267
    | succ kb ihb =>
      intro b h hk
      have li : ∀ (k j : Nat) (h : Int64), j + k = 7 → gj_G X 6 m_X11_digest (q_l lim σ (fun z v' => z = dgm (dgr (A.2 20) (dgW A 6 0 (dgS A kb (b + 1) (dgl (as_told (A.1 (20 + b))) k j h)))) (a_bits (nn A) A 6 0 0) ∧ v' = v)) lim σ v 0 0 273 [some (.ref m), some (.long h), none, some (.int (nI b)), some (.int (nI j))] [] := by
        intro k
        induction k with
        | zero =>
          intro j h hk
          have ei : j = 7 := by omega
          subst j
          refine g_iload (q := 275) dX11_digest_273 rfl rfl ?_
          refine g_bipush (q := 277) (x := 7) dX11_digest_275 (by decide) rfl ?_
          refine g_icmpge (t := 301) (q := 280) dX11_digest_277 (by decide) rfl (fun hq277 => ?_) (fun hq277 => ?_)
          · refine g_iinc (q := 304) (y := nI (b + 1)) dX11_digest_301 rfl (gn_inc b) rfl rfl rfl rfl ?_
            dsimp only [List.set]
            refine g_goto (q := 260) dX11_digest_304 (by decide) ?_
            exact g_wk (gj_wk5 (i := nI (b + 1))) (ihb (b + 1) _ (by omega))
          · exact absurd (Int32.le_refl _) hq277
        | succ k ih =>
          intro j h hk
          refine g_iload (q := 275) dX11_digest_273 rfl rfl ?_
          refine g_bipush (q := 277) (x := 7) dX11_digest_275 (by decide) rfl ?_
          refine g_icmpge (t := 301) (q := 280) dX11_digest_277 (by decide) rfl (fun hq277 => ?_) (fun hq277 => ?_)
          · exact absurd (gn_le (n := 7) hq277 (by omega)) (by omega)
          · refine g_ldc2 (q := 283) dX11_digest_280 l_X11_226 rfl ?_
            refine g_lload_n (q := 284) dX11_digest_283 rfl rfl ?_
            refine g_lmul (q := 285) dX11_digest_284 rfl ?_
            refine g_aload_n (q := 286) dX11_digest_285 rfl rfl ?_
            refine g_iload_n (q := 287) dX11_digest_286 rfl rfl ?_
            refine g_iload (q := 289) dX11_digest_287 rfl rfl ?_
            refine c_Vi (q := 292) (p_X11_ofStation hs hM0 (j := b) (k := j) (n := n) (by rw [esn]; omega) (hI.2.1.2.2.2.2.2 b (by omega)) (by omega)) k_X11_177 (by assumption) rfl (by decide) rfl rfl (Nat.le_of_ble_eq_true rfl) rfl rfl dX11_digest_289 rfl ?_
            rintro y0 w1 ⟨hy0, hw1⟩
            subst w1
            subst y0
            refine g_i2l (q := 293) dX11_digest_292 rfl ?_
            refine g_ladd (q := 294) dX11_digest_293 rfl ?_
            refine g_lstore_n (q := 295) dX11_digest_294 rfl rfl rfl rfl ?_
            dsimp only [List.set]
            refine g_iinc (q := 298) (y := nI (j + 1)) dX11_digest_295 rfl (gn_inc j) rfl rfl rfl rfl ?_
            dsimp only [List.set]
            refine g_goto (q := 273) dX11_digest_298 (by decide) ?_
            exact ih (j + 1) _ (by omega)
      refine g_iload_n (q := 261) dX11_digest_260 rfl rfl ?_
      refine g_aload_n (q := 262) dX11_digest_261 rfl rfl ?_
      refine g_getR (q := 265) f_X11_13 (by assumption) rfl dX11_digest_262 rfl ?_
      refine g_iconst (q := 266) (x := 1) dX11_digest_265 (by decide) rfl ?_
      refine g_iald (q := 267) (by assumption) (show (1 : Int32) = nI 1 from rfl) (by omega) (by decide) dX11_digest_266 rfl ?_
      refine g_icmpge (t := 307) (q := 270) dX11_digest_267 (by decide) rfl (fun hq267 => ?_) (fun hq267 => ?_)
      · rw [hM0.1.2.1, hI.2.1.2.1] at hq267
        exact absurd (gn_le hq267 (by omega)) (by omega)
      · refine g_iconst (q := 271) (x := 0) dX11_digest_270 (by decide) rfl ?_
        refine g_istore (q := 273) dX11_digest_271 rfl rfl rfl rfl ?_
        dsimp only [List.set]
        exact li 7 0 h (by omega)
  have l3 : ∀ (kb b : Nat) (h : Int64), b + kb = n → gj_G X 6 m_X11_digest (q_l lim σ (fun z v' => z = dgm (dgr (A.2 20) (dgW A 6 0 (dgS A sn 0 (dgB A kb b h)))) (a_bits (nn A) A 6 0 0) ∧ v' = v)) lim σ v 0 0 59 [some (.ref m), some (.long h), none, some (.int (nI b)), none] [] := by
    intro kb
    induction kb with
    | zero =>
      intro b h hk
      have eb : b = n := by omega
      subst b
      refine g_iload_n (q := 60) dX11_digest_59 rfl rfl ?_
      refine g_aload_n (q := 61) dX11_digest_60 rfl rfl ?_
      refine g_getR (q := 64) f_X11_13 (by assumption) rfl dX11_digest_61 rfl ?_
      refine g_iconst (q := 65) (x := 0) dX11_digest_64 (by decide) rfl ?_
      refine g_iald (q := 66) (by assumption) (show (0 : Int32) = nI 0 from rfl) (by omega) (by decide) dX11_digest_65 rfl ?_
      refine g_icmpge (t := 258) (q := 69) dX11_digest_66 (by decide) rfl (fun hq66 => ?_) (fun hq66 => ?_)
      · refine g_iconst (q := 259) (x := 0) dX11_digest_258 (by decide) rfl ?_
        refine g_istore_n (q := 260) dX11_digest_259 rfl rfl rfl rfl ?_
        dsimp only [List.set]
        exact g_wk (gj_wk5 (i := nI 0)) (l4 sn 0 _ (by omega))
      · rw [hM0.1.1, hI.2.1.1] at hq66
        exact absurd (Int32.le_refl _) hq66
    | succ kb ihb =>
      intro b h hk
      obtain ⟨a0, a1, a2, a3, a4, a5, a6, a7, a8, a9, a10, a11⟩ := hM0.2.1 b (by omega)
      have lq : ∀ (k j : Nat) (h : Int64), j + k = (A.2 (10 + b)).length → gj_G X 6 m_X11_digest (q_l lim σ (fun z v' => z = dgm (dgr (A.2 20) (dgW A 6 0 (dgS A sn 0 (dgB A kb (b + 1) (dgl (fun i => (A.2 (10 + b)).getD i 0) k j h))))) (a_bits (nn A) A 6 0 0) ∧ v' = v)) lim σ v 0 0 206 [some (.ref m), some (.long h), none, some (.int (nI b)), some (.int (nI j))] [] := by
        intro k
        induction k with
        | zero =>
          intro j h hk
          have ei : j = (A.2 (10 + b)).length := by omega
          subst j
          refine g_iload (q := 208) dX11_digest_206 rfl rfl ?_
          refine g_aload_n (q := 209) dX11_digest_208 rfl rfl ?_
          refine g_getR (q := 212) f_X11_13 (by assumption) rfl dX11_digest_209 rfl ?_
          refine g_iload_n (q := 213) dX11_digest_212 rfl rfl ?_
          refine c_Si (q := 216) (p_X11_atBuffer (b := b)) k_X11_54 (by decide) rfl rfl (Nat.le_of_ble_eq_true rfl) rfl rfl dX11_digest_213 rfl ?_
          rintro z0 w1 ⟨hz0, hw1⟩
          subst w1
          subst z0
          refine g_bipush (q := 218) (x := 7) dX11_digest_216 (by decide) rfl ?_
          refine g_iadd (q := 219) dX11_digest_218 rfl ?_
          refine g_iald (q := 220) (by assumption) (by first | (simp only [gn_lit, nI_add, pk_mul]; exact rfl) | exact rfl) (by omega) (by decide) dX11_digest_219 rfl ?_
          refine g_icmpge (t := 252) (q := 223) dX11_digest_220 (by decide) rfl (fun hq220 => ?_) (fun hq220 => ?_)
          · refine g_iinc (q := 255) (y := nI (b + 1)) dX11_digest_252 rfl (gn_inc b) rfl rfl rfl rfl ?_
            dsimp only [List.set]
            refine g_goto (q := 59) dX11_digest_255 (by decide) ?_
            exact g_wk (gj_wk5 (i := nI (b + 1))) (ihb (b + 1) _ (by omega))
          · rw [a7] at hq220
            exact absurd (Int32.le_refl _) hq220
        | succ k ih =>
          intro j h hk
          refine g_iload (q := 208) dX11_digest_206 rfl rfl ?_
          refine g_aload_n (q := 209) dX11_digest_208 rfl rfl ?_
          refine g_getR (q := 212) f_X11_13 (by assumption) rfl dX11_digest_209 rfl ?_
          refine g_iload_n (q := 213) dX11_digest_212 rfl rfl ?_
          refine c_Si (q := 216) (p_X11_atBuffer (b := b)) k_X11_54 (by decide) rfl rfl (Nat.le_of_ble_eq_true rfl) rfl rfl dX11_digest_213 rfl ?_
          rintro z0 w1 ⟨hz0, hw1⟩
          subst w1
          subst z0
          refine g_bipush (q := 218) (x := 7) dX11_digest_216 (by decide) rfl ?_
          refine g_iadd (q := 219) dX11_digest_218 rfl ?_
          refine g_iald (q := 220) (by assumption) (by first | (simp only [gn_lit, nI_add, pk_mul]; exact rfl) | exact rfl) (by omega) (by decide) dX11_digest_219 rfl ?_
          refine g_icmpge (t := 252) (q := 223) dX11_digest_220 (by decide) rfl (fun hq220 => ?_) (fun hq220 => ?_)
          · rw [a7] at hq220
            exact absurd (gn_le hq220 (by omega)) (by omega)
          · refine g_ldc2 (q := 226) dX11_digest_223 l_X11_226 rfl ?_
            refine g_lload_n (q := 227) dX11_digest_226 rfl rfl ?_
            refine g_lmul (q := 228) dX11_digest_227 rfl ?_
            refine g_aload_n (q := 229) dX11_digest_228 rfl rfl ?_
            refine g_getR (q := 232) f_X11_13 (by assumption) rfl dX11_digest_229 rfl ?_
            refine g_iload_n (q := 233) dX11_digest_232 rfl rfl ?_
            refine c_Si (q := 236) (p_X11_atBuffer (b := b)) k_X11_54 (by decide) rfl rfl (Nat.le_of_ble_eq_true rfl) rfl rfl dX11_digest_233 rfl ?_
            rintro z0 w1 ⟨hz0, hw1⟩
            subst w1
            subst z0
            refine g_bipush (q := 238) (x := 8) dX11_digest_236 (by decide) rfl ?_
            refine g_iadd (q := 239) dX11_digest_238 rfl ?_
            refine g_iload (q := 241) dX11_digest_239 rfl rfl ?_
            refine g_iadd (q := 242) dX11_digest_241 rfl ?_
            refine g_iald (q := 243) (by assumption) (by first | (simp only [gn_lit, nI_add, pk_mul]; exact rfl) | exact rfl) (by omega) (by decide) dX11_digest_242 rfl ?_
            rw [a8 j (by omega)]
            refine g_i2l (q := 244) dX11_digest_243 rfl ?_
            refine g_ladd (q := 245) dX11_digest_244 rfl ?_
            refine g_lstore_n (q := 246) dX11_digest_245 rfl rfl rfl rfl ?_
            dsimp only [List.set]
            refine g_iinc (q := 249) (y := nI (j + 1)) dX11_digest_246 rfl (gn_inc j) rfl rfl rfl rfl ?_
            dsimp only [List.set]
            refine g_goto (q := 206) dX11_digest_249 (by decide) ?_
            exact ih (j + 1) _ (by omega)
      have li : ∀ (k j : Nat) (h : Int64), j + k = (A.2 b).length → gj_G X 6 m_X11_digest (q_l lim σ (fun z v' => z = dgm (dgr (A.2 20) (dgW A 6 0 (dgS A sn 0 (dgB A kb (b + 1) (dgr (A.2 (10 + b)) (dgl (b_ktold (gB A b)) 3 0 (dgl (fun i => (A.2 b).getD i 0) k j h))))))) (a_bits (nn A) A 6 0 0) ∧ v' = v)) lim σ v 0 0 103 [some (.ref m), some (.long h), none, some (.int (nI b)), some (.int (nI j))] [] := by
        intro k
        induction k with
        | zero =>
          intro j h hk
          have ei : j = (A.2 b).length := by omega
          subst j
          refine g_iload (q := 105) dX11_digest_103 rfl rfl ?_
          refine g_aload_n (q := 106) dX11_digest_105 rfl rfl ?_
          refine g_getR (q := 109) f_X11_13 (by assumption) rfl dX11_digest_106 rfl ?_
          refine g_iload_n (q := 110) dX11_digest_109 rfl rfl ?_
          refine c_Si (q := 113) (p_X11_atBuffer (b := b)) k_X11_54 (by decide) rfl rfl (Nat.le_of_ble_eq_true rfl) rfl rfl dX11_digest_110 rfl ?_
          rintro z0 w1 ⟨hz0, hw1⟩
          subst w1
          subst z0
          refine g_iconst (q := 114) (x := 0) dX11_digest_113 (by decide) rfl ?_
          refine g_iadd (q := 115) dX11_digest_114 rfl ?_
          refine g_iald (q := 116) (by assumption) (by first | (simp only [gn_lit, nI_add, pk_mul]; exact rfl) | exact rfl) (by omega) (by decide) dX11_digest_115 rfl ?_
          refine g_icmpge (t := 148) (q := 119) dX11_digest_116 (by decide) rfl (fun hq116 => ?_) (fun hq116 => ?_)
          · refine g_ldc2 (q := 151) dX11_digest_148 l_X11_226 rfl ?_
            refine g_ldc2 (q := 154) dX11_digest_151 l_X11_226 rfl ?_
            refine g_ldc2 (q := 157) dX11_digest_154 l_X11_226 rfl ?_
            refine g_lload_n (q := 158) dX11_digest_157 rfl rfl ?_
            refine g_lmul (q := 159) dX11_digest_158 rfl ?_
            refine g_aload_n (q := 160) dX11_digest_159 rfl rfl ?_
            refine g_getR (q := 163) f_X11_13 (by assumption) rfl dX11_digest_160 rfl ?_
            refine g_iload_n (q := 164) dX11_digest_163 rfl rfl ?_
            refine c_Si (q := 167) (p_X11_atBuffer (b := b)) k_X11_54 (by decide) rfl rfl (Nat.le_of_ble_eq_true rfl) rfl rfl dX11_digest_164 rfl ?_
            rintro z0 w1 ⟨hz0, hw1⟩
            subst w1
            subst z0
            refine g_iconst (q := 168) (x := 5) dX11_digest_167 (by decide) rfl ?_
            refine g_iadd (q := 169) dX11_digest_168 rfl ?_
            refine g_iald (q := 170) (by assumption) (by first | (simp only [gn_lit, nI_add, pk_mul]; exact rfl) | exact rfl) (by omega) (by decide) dX11_digest_169 rfl ?_
            rw [a5]
            refine g_i2l (q := 171) dX11_digest_170 rfl ?_
            refine g_ladd (q := 172) dX11_digest_171 rfl ?_
            refine g_lmul (q := 173) dX11_digest_172 rfl ?_
            refine g_aload_n (q := 174) dX11_digest_173 rfl rfl ?_
            refine g_getR (q := 177) f_X11_13 (by assumption) rfl dX11_digest_174 rfl ?_
            refine g_iload_n (q := 178) dX11_digest_177 rfl rfl ?_
            refine c_Si (q := 181) (p_X11_atBuffer (b := b)) k_X11_54 (by decide) rfl rfl (Nat.le_of_ble_eq_true rfl) rfl rfl dX11_digest_178 rfl ?_
            rintro z0 w1 ⟨hz0, hw1⟩
            subst w1
            subst z0
            refine g_bipush (q := 183) (x := 6) dX11_digest_181 (by decide) rfl ?_
            refine g_iadd (q := 184) dX11_digest_183 rfl ?_
            refine g_iald (q := 185) (by assumption) (by first | (simp only [gn_lit, nI_add, pk_mul]; exact rfl) | exact rfl) (by omega) (by decide) dX11_digest_184 rfl ?_
            rw [a6]
            refine g_i2l (q := 186) dX11_digest_185 rfl ?_
            refine g_ladd (q := 187) dX11_digest_186 rfl ?_
            refine g_lmul (q := 188) dX11_digest_187 rfl ?_
            refine g_aload_n (q := 189) dX11_digest_188 rfl rfl ?_
            refine g_getR (q := 192) f_X11_13 (by assumption) rfl dX11_digest_189 rfl ?_
            refine g_iload_n (q := 193) dX11_digest_192 rfl rfl ?_
            refine c_Si (q := 196) (p_X11_atBuffer (b := b)) k_X11_54 (by decide) rfl rfl (Nat.le_of_ble_eq_true rfl) rfl rfl dX11_digest_193 rfl ?_
            rintro z0 w1 ⟨hz0, hw1⟩
            subst w1
            subst z0
            refine g_bipush (q := 198) (x := 7) dX11_digest_196 (by decide) rfl ?_
            refine g_iadd (q := 199) dX11_digest_198 rfl ?_
            refine g_iald (q := 200) (by assumption) (by first | (simp only [gn_lit, nI_add, pk_mul]; exact rfl) | exact rfl) (by omega) (by decide) dX11_digest_199 rfl ?_
            rw [a7]
            refine g_i2l (q := 201) dX11_digest_200 rfl ?_
            refine g_ladd (q := 202) dX11_digest_201 rfl ?_
            refine g_lstore_n (q := 203) dX11_digest_202 rfl rfl rfl rfl ?_
            dsimp only [List.set]
            refine g_iconst (q := 204) (x := 0) dX11_digest_203 (by decide) rfl ?_
            refine g_istore (q := 206) dX11_digest_204 rfl rfl rfl rfl ?_
            dsimp only [List.set]
            exact lq (A.2 (10 + b)).length 0 _ (by omega)
          · rw [a0] at hq116
            exact absurd (Int32.le_refl _) hq116
        | succ k ih =>
          intro j h hk
          refine g_iload (q := 105) dX11_digest_103 rfl rfl ?_
          refine g_aload_n (q := 106) dX11_digest_105 rfl rfl ?_
          refine g_getR (q := 109) f_X11_13 (by assumption) rfl dX11_digest_106 rfl ?_
          refine g_iload_n (q := 110) dX11_digest_109 rfl rfl ?_
          refine c_Si (q := 113) (p_X11_atBuffer (b := b)) k_X11_54 (by decide) rfl rfl (Nat.le_of_ble_eq_true rfl) rfl rfl dX11_digest_110 rfl ?_
          rintro z0 w1 ⟨hz0, hw1⟩
          subst w1
          subst z0
          refine g_iconst (q := 114) (x := 0) dX11_digest_113 (by decide) rfl ?_
          refine g_iadd (q := 115) dX11_digest_114 rfl ?_
          refine g_iald (q := 116) (by assumption) (by first | (simp only [gn_lit, nI_add, pk_mul]; exact rfl) | exact rfl) (by omega) (by decide) dX11_digest_115 rfl ?_
          refine g_icmpge (t := 148) (q := 119) dX11_digest_116 (by decide) rfl (fun hq116 => ?_) (fun hq116 => ?_)
          · rw [a0] at hq116
            exact absurd (gn_le hq116 (by omega)) (by omega)
          · refine g_ldc2 (q := 122) dX11_digest_119 l_X11_226 rfl ?_
            refine g_lload_n (q := 123) dX11_digest_122 rfl rfl ?_
            refine g_lmul (q := 124) dX11_digest_123 rfl ?_
            refine g_aload_n (q := 125) dX11_digest_124 rfl rfl ?_
            refine g_getR (q := 128) f_X11_13 (by assumption) rfl dX11_digest_125 rfl ?_
            refine g_iload_n (q := 129) dX11_digest_128 rfl rfl ?_
            refine c_Si (q := 132) (p_X11_atBuffer (b := b)) k_X11_54 (by decide) rfl rfl (Nat.le_of_ble_eq_true rfl) rfl rfl dX11_digest_129 rfl ?_
            rintro z0 w1 ⟨hz0, hw1⟩
            subst w1
            subst z0
            refine g_bipush (q := 134) (x := 14) dX11_digest_132 (by decide) rfl ?_
            refine g_iadd (q := 135) dX11_digest_134 rfl ?_
            refine g_iload (q := 137) dX11_digest_135 rfl rfl ?_
            refine g_iadd (q := 138) dX11_digest_137 rfl ?_
            refine g_iald (q := 139) (by assumption) (by first | (simp only [gn_lit, nI_add, pk_mul]; exact rfl) | exact rfl) (by omega) (by decide) dX11_digest_138 rfl ?_
            rw [a9 j (by omega)]
            refine g_i2l (q := 140) dX11_digest_139 rfl ?_
            refine g_ladd (q := 141) dX11_digest_140 rfl ?_
            refine g_lstore_n (q := 142) dX11_digest_141 rfl rfl rfl rfl ?_
            dsimp only [List.set]
            refine g_iinc (q := 145) (y := nI (j + 1)) dX11_digest_142 rfl (gn_inc j) rfl rfl rfl rfl ?_
            dsimp only [List.set]
            refine g_goto (q := 103) dX11_digest_145 (by decide) ?_
            exact ih (j + 1) _ (by omega)
      have lb : ∀ (k j : Nat) (h : Int64), j + k = 8 → gj_G X 6 m_X11_digest (q_l lim σ (fun z v' => z = dgm (dgr (A.2 20) (dgW A 6 0 (dgS A sn 0 (dgB A kb (b + 1) (dgr (A.2 (10 + b)) (dgl (b_ktold (gB A b)) 3 0 (dgr (A.2 b) (dgl (b_told (gB A b)) k j h)))))))) (a_bits (nn A) A 6 0 0) ∧ v' = v)) lim σ v 0 0 72 [some (.ref m), some (.long h), none, some (.int (nI b)), some (.int (nI j))] [] := by
        intro k
        induction k with
        | zero =>
          intro j h hk
          have ei : j = 8 := by omega
          subst j
          refine g_iload (q := 74) dX11_digest_72 rfl rfl ?_
          refine g_bipush (q := 76) (x := 8) dX11_digest_74 (by decide) rfl ?_
          refine g_icmpge (t := 100) (q := 79) dX11_digest_76 (by decide) rfl (fun hq76 => ?_) (fun hq76 => ?_)
          · refine g_iconst (q := 101) (x := 0) dX11_digest_100 (by decide) rfl ?_
            refine g_istore (q := 103) dX11_digest_101 rfl rfl rfl rfl ?_
            dsimp only [List.set]
            exact li (A.2 b).length 0 _ (by omega)
          · exact absurd (Int32.le_refl _) hq76
        | succ k ih =>
          intro j h hk
          refine g_iload (q := 74) dX11_digest_72 rfl rfl ?_
          refine g_bipush (q := 76) (x := 8) dX11_digest_74 (by decide) rfl ?_
          refine g_icmpge (t := 100) (q := 79) dX11_digest_76 (by decide) rfl (fun hq76 => ?_) (fun hq76 => ?_)
          · exact absurd (gn_le (n := 8) hq76 (by omega)) (by omega)
          · refine g_ldc2 (q := 82) dX11_digest_79 l_X11_226 rfl ?_
            refine g_lload_n (q := 83) dX11_digest_82 rfl rfl ?_
            refine g_lmul (q := 84) dX11_digest_83 rfl ?_
            refine g_aload_n (q := 85) dX11_digest_84 rfl rfl ?_
            refine g_iload_n (q := 86) dX11_digest_85 rfl rfl ?_
            refine g_iload (q := 88) dX11_digest_86 rfl rfl ?_
            refine c_Vi (q := 91) (p_X11_ofBuffer hs hM0 (j := b) (k := j) (by omega) (by omega)) k_X11_174 (by assumption) rfl (by decide) rfl rfl (Nat.le_of_ble_eq_true rfl) rfl rfl dX11_digest_88 rfl ?_
            rintro y0 w1 ⟨hy0, hw1⟩
            subst w1
            subst y0
            refine g_i2l (q := 92) dX11_digest_91 rfl ?_
            refine g_ladd (q := 93) dX11_digest_92 rfl ?_
            refine g_lstore_n (q := 94) dX11_digest_93 rfl rfl rfl rfl ?_
            dsimp only [List.set]
            refine g_iinc (q := 97) (y := nI (j + 1)) dX11_digest_94 rfl (gn_inc j) rfl rfl rfl rfl ?_
            dsimp only [List.set]
            refine g_goto (q := 72) dX11_digest_97 (by decide) ?_
            exact ih (j + 1) _ (by omega)
      refine g_iload_n (q := 60) dX11_digest_59 rfl rfl ?_
      refine g_aload_n (q := 61) dX11_digest_60 rfl rfl ?_
      refine g_getR (q := 64) f_X11_13 (by assumption) rfl dX11_digest_61 rfl ?_
      refine g_iconst (q := 65) (x := 0) dX11_digest_64 (by decide) rfl ?_
      refine g_iald (q := 66) (by assumption) (show (0 : Int32) = nI 0 from rfl) (by omega) (by decide) dX11_digest_65 rfl ?_
      refine g_icmpge (t := 258) (q := 69) dX11_digest_66 (by decide) rfl (fun hq66 => ?_) (fun hq66 => ?_)
      · rw [hM0.1.1, hI.2.1.1] at hq66
        exact absurd (gn_le hq66 (by omega)) (by omega)
      · refine g_iconst (q := 70) (x := 0) dX11_digest_69 (by decide) rfl ?_
        refine g_istore (q := 72) dX11_digest_70 rfl rfl rfl rfl ?_
        dsimp only [List.set]
        exact lb 8 0 h (by omega)
  have l2 : ∀ (k i : Nat) (h : Int64), i + k = 10 → gj_G X 6 m_X11_digest (q_l lim σ (fun z v' => z = dgm (dgr (A.2 20) (dgW A 6 0 (dgS A sn 0 (dgB A n 0 (dgl (a_wt A n t) k i h))))) (a_bits (nn A) A 6 0 0) ∧ v' = v)) lim σ v 0 0 32 [some (.ref m), some (.long h), none, some (.int (nI i)), none] [] := by
    intro k
    induction k with
    | zero =>
      intro i h hk
      have ei : i = 10 := by omega
      subst i
      refine g_iload_n (q := 33) dX11_digest_32 rfl rfl ?_
      refine g_bipush (q := 35) (x := 10) dX11_digest_33 (by decide) rfl ?_
      refine g_icmpge (t := 57) (q := 38) dX11_digest_35 (by decide) rfl (fun hq35 => ?_) (fun hq35 => ?_)
      · refine g_iconst (q := 58) (x := 0) dX11_digest_57 (by decide) rfl ?_
        refine g_istore_n (q := 59) dX11_digest_58 rfl rfl rfl rfl ?_
        dsimp only [List.set]
        exact g_wk (gj_wk5 (i := nI 0)) (l3 n 0 _ (by omega))
      · exact absurd (Int32.le_refl _) hq35
    | succ k ih =>
      intro i h hk
      refine g_iload_n (q := 33) dX11_digest_32 rfl rfl ?_
      refine g_bipush (q := 35) (x := 10) dX11_digest_33 (by decide) rfl ?_
      refine g_icmpge (t := 57) (q := 38) dX11_digest_35 (by decide) rfl (fun hq35 => ?_) (fun hq35 => ?_)
      · exact absurd (gn_le (n := 10) hq35 (by omega)) (by omega)
      · refine g_ldc2 (q := 41) dX11_digest_38 l_X11_226 rfl ?_
        refine g_lload_n (q := 42) dX11_digest_41 rfl rfl ?_
        refine g_lmul (q := 43) dX11_digest_42 rfl ?_
        refine g_aload_n (q := 44) dX11_digest_43 rfl rfl ?_
        refine g_iload_n (q := 45) dX11_digest_44 rfl rfl ?_
        refine c_Vi (q := 48) (p_X11_worksBy hs hM0 (k := i) hI.2.1.1 hn6 hQ (by omega)) k_X11_186 (by assumption) rfl (by decide) rfl rfl (Nat.le_of_ble_eq_true rfl) rfl rfl dX11_digest_45 rfl ?_
        rintro y0 w1 ⟨hy0, hw1⟩
        subst w1
        subst y0
        refine g_i2l (q := 49) dX11_digest_48 rfl ?_
        refine g_ladd (q := 50) dX11_digest_49 rfl ?_
        refine g_lstore_n (q := 51) dX11_digest_50 rfl rfl rfl rfl ?_
        dsimp only [List.set]
        refine g_iinc (q := 54) (y := nI (i + 1)) dX11_digest_51 rfl (gn_inc i) rfl rfl rfl rfl ?_
        dsimp only [List.set]
        refine g_goto (q := 32) dX11_digest_54 (by decide) ?_
        exact ih (i + 1) _ (by omega)
  have l1 : ∀ (k i : Nat) (h : Int64), i + k = 5 → gj_G X 6 m_X11_digest (q_l lim σ (fun z v' => z = dgm (dgr (A.2 20) (dgW A 6 0 (dgS A sn 0 (dgB A n 0 (dgl (a_wt A n t) 10 0 (dgl (z_told l tx c) k i h)))))) (a_bits (nn A) A 6 0 0) ∧ v' = v)) lim σ v 0 0 6 [some (.ref m), some (.long h), none, some (.int (nI i)), none] [] := by
    intro k
    induction k with
    | zero =>
      intro i h hk
      have ei : i = 5 := by omega
      subst i
      refine g_iload_n (q := 7) dX11_digest_6 rfl rfl ?_
      refine g_iconst (q := 8) (x := 5) dX11_digest_7 (by decide) rfl ?_
      refine g_icmpge (t := 30) (q := 11) dX11_digest_8 (by decide) rfl (fun hq8 => ?_) (fun hq8 => ?_)
      · refine g_iconst (q := 31) (x := 0) dX11_digest_30 (by decide) rfl ?_
        refine g_istore_n (q := 32) dX11_digest_31 rfl rfl rfl rfl ?_
        dsimp only [List.set]
        exact g_wk (gj_wk5 (i := nI 0)) (l2 10 0 _ (by omega))
      · exact absurd (Int32.le_refl _) hq8
    | succ k ih =>
      intro i h hk
      refine g_iload_n (q := 7) dX11_digest_6 rfl rfl ?_
      refine g_iconst (q := 8) (x := 5) dX11_digest_7 (by decide) rfl ?_
      refine g_icmpge (t := 30) (q := 11) dX11_digest_8 (by decide) rfl (fun hq8 => ?_) (fun hq8 => ?_)
      · exact absurd (gn_le (n := 5) hq8 (by omega)) (by omega)
      · refine g_ldc2 (q := 14) dX11_digest_11 l_X11_226 rfl ?_
        refine g_lload_n (q := 15) dX11_digest_14 rfl rfl ?_
        refine g_lmul (q := 16) dX11_digest_15 rfl ?_
        refine g_aload_n (q := 17) dX11_digest_16 rfl rfl ?_
        refine g_iload_n (q := 18) dX11_digest_17 rfl rfl ?_
        refine c_Vi (q := 21) (p_X11_toldOf hs hG (k := i) (by omega)) k_X11_221 (by assumption) rfl (by decide) rfl rfl (Nat.le_of_ble_eq_true rfl) rfl rfl dX11_digest_18 rfl ?_
        rintro y0 w1 ⟨hy0, hw1⟩
        subst w1
        subst y0
        refine g_i2l (q := 22) dX11_digest_21 rfl ?_
        refine g_ladd (q := 23) dX11_digest_22 rfl ?_
        refine g_lstore_n (q := 24) dX11_digest_23 rfl rfl rfl rfl ?_
        dsimp only [List.set]
        refine g_iinc (q := 27) (y := nI (i + 1)) dX11_digest_24 rfl (gn_inc i) rfl rfl rfl rfl ?_
        dsimp only [List.set]
        refine g_goto (q := 6) dX11_digest_27 (by decide) ?_
        exact ih (i + 1) _ (by omega)
  rw [z_dig, sn_eq hI]
  rw [en] at l1 ⊢
  refine gj_E_at (L := [some (.ref m), none, none, none, none]) (k := 4) rfl (by decide) rfl ?_
  refine g_ldc2 (q := 3) dX11_digest_0 l_X11_224 rfl ?_
  refine g_lstore_n (q := 4) dX11_digest_3 rfl rfl rfl rfl ?_
  dsimp only [List.set]
  refine g_iconst (q := 5) (x := 0) dX11_digest_4 (by decide) rfl ?_
  refine g_istore_n (q := 6) dX11_digest_5 rfl rfl rfl rfl ?_
  dsimp only [List.set]
  exact l1 5 0 _ (by omega)
