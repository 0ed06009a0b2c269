/-! ===== the law's start ===== -/
theorem lw_kn {own : String} {index ci N : Nat} {t : List (Option (Option Nat))} {s : State} {a : Array Value} (h : gj_Nk own index ci N t) (hg : ∀ w ∈ gj_w, w.before a s = true) : ∃ d : ClassId × (Nat → Nat), ∀ q, vwCl[ci]? = some q → u_Kn s q.1 q.2.1 q.2.2 d.1 d.2 := by
  obtain ⟨C, T, ty0, h1, h2, h3, h4, h5, h6, h7⟩ := h
  obtain ⟨cC, iS, hk⟩ := u_known hg h2 (hg _ h5)
  refine ⟨(cC, iS), fun q hq => ?_⟩
  rw [h1] at hq
  cases hq
  exact hk
theorem lw_ao {s : State} {a : Array Value} {C : String} (h : (Cond.arrayOver (.object C)).before a s = true) : ∃ id : ClassId, ArrOfT s id (.object C) ∧ va_RA s id (.object C) := by
  obtain ⟨comp, cA, k, h1, h2, h3, h4, h5⟩ := Cond.arrayOver_spec h
  exact ⟨cA, fun n z => ⟨fun k h => (by cases h), k, h3, comp, h4⟩, k, comp, h3, h4, h1, h5⟩
theorem lw_ai {s : State} {a : Array Value} (h : (Cond.arrayClass .int).before a s = true) : ∃ id : ClassId, ArrOfT s id .int ∧ va_RA s id .int := by
  obtain ⟨cA, k, comp, h1, h2, h3⟩ := Cond.arrayClass_spec h
  exact ⟨cA, fun n z => ⟨fun k h => (by cases h), k, h2, comp, h3⟩, h1⟩

theorem lw_oX0 : Cond.arrayOver (.object RX0) ∈ lw_tbl := List.mem_of_getElem? (i := 91) (by decide +kernel)
theorem lw_oX1 : Cond.arrayOver (.object RX1) ∈ lw_tbl := List.mem_of_getElem? (i := 322) (by decide +kernel)
theorem lw_oX4 : Cond.arrayOver (.object RX4) ∈ lw_tbl := List.mem_of_getElem? (i := 357) (by decide +kernel)
theorem lw_oX5 : Cond.arrayOver (.object RX5) ∈ lw_tbl := List.mem_of_getElem? (i := 364) (by decide +kernel)
theorem lw_oX7 : Cond.arrayOver (.object RX7) ∈ lw_tbl := List.mem_of_getElem? (i := 93) (by decide +kernel)
theorem lw_oX9 : Cond.arrayOver (.object RX9) ∈ lw_tbl := List.mem_of_getElem? (i := 95) (by decide +kernel)
theorem lw_K {s : State} {b : Nat} (hts : ∀ w ∈ lw_tbl, w.before #[Value.ref b] s = true) : ∃ (D : va_G) (ids : Nat → ClassId), ∀ (l : Launch) (z : Nat), gj_K (l, D, ids, z) s := by
  have hg : ∀ w ∈ gj_w, w.before #[Value.ref b] s = true := fun w hw => hts w (List.mem_filter.mp hw).1
  have h1 : ∀ k : Nat, ∃ d : ClassId × (Nat → Nat), ∀ q, vwCl[k]? = some q → u_Kn s q.1 q.2.1 q.2.2 d.1 d.2 := fun k => match k with
    | 0 => lw_kn n_X1_9 hg
    | 1 => lw_kn n_X10_7 hg
    | 2 => lw_kn n_X0_9 hg
    | 3 => lw_kn n_X10_16 hg
    | 4 => lw_kn n_X10_39 hg
    | 5 => lw_kn n_X0_18 hg
    | 6 => lw_kn n_X10_30 hg
    | 7 => lw_kn n_X1_17 hg
    | 8 => lw_kn n_X10_23 hg
    | 9 => lw_kn n_X1_23 hg
    | 10 => lw_kn n_L_7 hg
    | 11 => lw_kn n_L_10 hg
    | k + 12 => ⟨(0, fun _ => 0), fun q hq => by cases hq⟩
  obtain ⟨f, hf⟩ := Classical.axiomOfChoice h1
  obtain ⟨i0, g0⟩ := lw_ai (hg _ gl_arr)
  obtain ⟨i1, g1⟩ := lw_ao (hts _ lw_oX0)
  obtain ⟨i2, g2⟩ := lw_ao (hts _ lw_oX1)
  obtain ⟨i3, g3⟩ := lw_ao (hts _ lw_oX4)
  obtain ⟨i4, g4⟩ := lw_ao (hts _ lw_oX5)
  obtain ⟨i5, g5⟩ := lw_ao (hts _ lw_oX7)
  obtain ⟨i6, g6⟩ := lw_ao (hts _ lw_oX9)
  refine ⟨(fun k => (f k).1, fun k => (f k).2), fun k => match k with | 0 => i0 | 1 => i1 | 2 => i2 | 3 => i3 | 4 => i4 | 5 => i5 | _ => i6, fun l z => ⟨⟨fun k q hq => hf k q hq, fun k q hq => ?_⟩, fun w hw => va_Nw.of (gj_nw_tab hw) (hts w (List.mem_filter.mp hw).1), fun C hC => ?_⟩⟩
  · match k, hq with
    | 0, hq => cases hq; exact g0
    | 1, hq => cases hq; exact g1
    | 2, hq => cases hq; exact g2
    | 3, hq => cases hq; exact g3
    | 4, hq => cases hq; exact g4
    | 5, hq => cases hq; exact g5
    | 6, hq => cases hq; exact g6
    | k + 7, hq => cases hq
  · obtain ⟨k, hk⟩ := List.getElem?_of_mem hC
    match k, hk with
    | 0, hk => cases hk; exact va_AO.of (hts _ lw_oX0)
    | 1, hk => cases hk; exact va_AO.of (hts _ lw_oX1)
    | 2, hk => cases hk; exact va_AO.of (hts _ lw_oX4)
    | 3, hk => cases hk; exact va_AO.of (hts _ lw_oX5)
    | 4, hk => cases hk; exact va_AO.of (hts _ lw_oX7)
    | 5, hk => cases hk; exact va_AO.of (hts _ lw_oX9)
    | k + 6, hk => cases hk

set_option maxRecDepth 100000 in
set_option maxHeartbeats 4000000 in
theorem law_go {X : gj_X} {p : Program} {e : Env} {s : State} {m : MethodId} {below : List Frame} {meth : Method} {c : Code} {b nx z : Nat} {xs : Nat → Int32} {σ : gj_H} {v : gj_V} (C : lw_C X p s m meth c b nx xs) (hn : nx ≤ 3072) : lw_G X p e s m below meth c b z σ v 0 0 0 [some (.ref b), none, none, none] [] := by
  refine gl_new C (q := 3) n_L_7 (by omega) (by omega) dL_law_0 rfl ?_
  refine gl_gs (fun s1 h1 => ?_)
  refine gl_gv (fun v1 k1 => ?_)
  have a1 : s1 z = some (.inl (10, [some none, some none, some none, some none, some none, none, none, none])) := by rw [h1]; exact va_up_self _ _ _
  have b1 : v1 z = fun _ => 0 := by rw [k1, gu_s]
  refine gl_dup C (q := 4) dL_law_3 rfl rfl ?_
  refine gl_I C (q := 7) (p_X10_init (p := z) rfl a1 b1) k_L_9 (by decide) rfl rfl (Nat.le_of_ble_eq_true rfl) (nc := 476) (ns := 2642) rfl rfl (by omega) (by omega) dL_law_4 rfl ?_
  rintro s2 v2 ⟨hs2, hk2, A, hA, hG2⟩
  refine gl_astore_n C (q := 8) dL_law_7 rfl rfl rfl rfl ?_
  dsimp only [List.set]
  refine gl_new C (q := 11) n_L_10 (by omega) (by omega) dL_law_8 rfl ?_
  refine gl_gs (fun s3 h3 => ?_)
  refine gl_gv (fun v3 k3 => ?_)
  have a3 : s3 (z + 477) = some (.inl (11, [some none, some none, none, some none, some none, some none, none, none, none, none, some none, some none, some none, some none, some none, some none, some none])) := by rw [h3]; exact va_up_self _ _ _
  have b3 : v3 (z + 477) = fun _ => 0 := by rw [k3, gu_s]
  refine gl_dup C (q := 12) dL_law_11 rfl rfl ?_
  refine gl_I C (q := 15) (p_X11_init (p := z + 477) rfl a3 b3) k_L_12 (by decide) rfl rfl (Nat.le_of_ble_eq_true rfl) (nc := 12) (ns := 3297) rfl rfl (by omega) (by omega) dL_law_12 rfl ?_
  rintro s4 v4 ⟨hs4, hk4, hM4⟩
  have hs : gsh s4 z := gsh_k hs2 (fun a g1 g2 => by rw [hk4.1 a (by omega), h3]; exact va_up_ne _ _ (by omega))
  have hG4 : GR v4 z A 0 [] [] (fun _ => 0) := hG2.oth (fun a g => by rw [hk4.2 a (by omega), k3, gu_n _ _ (by omega)])
  obtain ⟨n, hI⟩ := IV_nwr hA (by decide)
  have hV : LV (GR v4 z) (MG v4 (z + 477)) := ⟨A, 0, [], [], fun _ => 0, hG4, hM4 A hA, ⟨n, 0, hI⟩, fun q hq => absurd hq (by simp), fun q hq => absurd hq (by simp)⟩
  refine gl_astore_n C (q := 16) dL_law_15 rfl rfl rfl rfl ?_
  dsimp only [List.set]
  refine gl_iconst C (q := 17) (x := 0) dL_law_16 (by decide) rfl ?_
  refine gl_istore_n C (q := 18) dL_law_17 rfl rfl rfl rfl ?_
  dsimp only [List.set]
  exact law_loop C hn (by omega) (by omega) hs hs4 (nx + 1) 0 v4 (by omega) (by omega) hV
