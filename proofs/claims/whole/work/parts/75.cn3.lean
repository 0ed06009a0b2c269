set_option maxRecDepth 100000 in
set_option maxHeartbeats 4000000 in
theorem p_X3_init {X : gj_X}  {σ : gj_H} {v : gj_V} {lim p : Nat} (hl : lim = p + 1) (hS0_p : σ p = some (.inl (3, [some none, none, none]))) (hz : v p = fun _ => 0) : gj_E X 4 m_X3_init [.ref p] lim σ v (q_n (p + 332) (fun σ' v' => hsh σ' p ∧ kp σ σ' v v' p ∧ HR v' p [] 0)) := by
  subst hl
  have hB0 : ∀ a, a < p → σ a = σ a := fun _ _ => rfl
  have hY0 : ∀ a, a < p → v a = v a := fun _ _ => rfl
  have lp : ∀ (k i : Nat) (σ0 : gj_H) (v0 : gj_V), i + k = 6 → (σ0 (p) = some (.inl (3, [some (some (p + 1)), none, none]))) → (σ0 (p + 1) = some (.inr (.inr (2, pra 6 (p + 2) 55 i)))) → (∀ b, b < i → fsh σ0 (p + 2 + 55 * b)) → (∀ a, a < p → σ0 a = σ a) → (∀ a, a < p → v0 a = v a) → (v0 p = fun _ => 0) → (∀ b, b < i → ∃ A t, CR v0 (p + 2 + 55 * b) A t) → gj_G X 4 m_X3_init (q_n (p + 332) (fun σ' v' => hsh σ' p ∧ kp σ σ' v v' p ∧ HR v' p [] 0)) (p + 2 + 55 * i) σ0 v0 (1 + 55 * i) (6 + 309 * i) 15 [some (.ref p), some (.int (nI i))] [] := by
    intro k
    induction k with
    | zero =>
      intro i σ0 v0 hik hS0_p hS0_arr hS0_all hB0 hY0 hP0 hC0
      have hi : i = 6 := by omega
      subst hi
      refine g_iload_n (q := 16) dX3_init_15 rfl rfl ?_
      refine g_bipush (q := 18) (x := 6) dX3_init_16 (by decide) rfl ?_
      refine g_icmpge (t := 40) (q := 21) dX3_init_18 (by decide) rfl (fun h18 => ?_) (fun h18 => ?_)
      · refine r_n dX3_init_40 rfl rfl rfl (by omega) ⟨⟨hS0_p, ?_, hS0_all⟩, ⟨hB0, hY0⟩, ⟨by rw [hP0]; rfl, by omega, by rw [hP0]; rfl, by simp, hC0, fun i p hp => absurd hp (by simp)⟩⟩
        rw [hS0_arr, pra_n]
      · exact absurd ((g6_ge (by omega)).mpr (by omega)) h18
    | succ k ih =>
      intro i σ0 v0 hik hS0_p hS0_arr hS0_all hB0 hY0 hP0 hC0
      refine g_iload_n (q := 16) dX3_init_15 rfl rfl ?_
      refine g_bipush (q := 18) (x := 6) dX3_init_16 (by decide) rfl ?_
      refine g_icmpge (t := 40) (q := 21) dX3_init_18 (by decide) rfl (fun h18 => ?_) (fun h18 => ?_)
      · exact absurd ((g6_ge (by omega)).mp h18) (by omega)
      · refine g_aload_n (q := 22) dX3_init_21 rfl rfl ?_
        refine g_getR (q := 25) f_X3_11 hS0_p rfl dX3_init_22 rfl ?_
        refine g_iload_n (q := 26) dX3_init_25 rfl rfl ?_
        refine g_new (q := 29) n_X3_9 (show 1 + 55 * i + 1 ≤ 331 by omega) (show 6 + 309 * i + 9 ≤ 1860 by omega) dX3_init_26 rfl ?_
        refine g_nm (lim' := p + 2 + 55 * i + 1) (kc' := 1 + 55 * i + 1) (ks' := 6 + 309 * i + 9) (by omega) (by omega) (by omega) ?_
        refine g_gs (fun σ1 hs1 => ?_)
        have ht1 : ∀ a, a ≠ p + 2 + 55 * i → σ1 a = σ0 a := fun a ha => by rw [hs1]; exact va_up_ne _ _ ha
        have hS1_p : σ1 (p) = some (.inl (3, [some (some (p + 1)), none, none])) := (ht1 _ (by omega)).trans hS0_p
        have hS1_arr : σ1 (p + 1) = some (.inr (.inr (2, pra 6 (p + 2) 55 i))) := (ht1 _ (by omega)).trans hS0_arr
        have hS1_all : ∀ b, b < i → fsh σ1 (p + 2 + 55 * b) := fun b hb => fsh_k (hS0_all b hb) (fun a g1 g2 => ht1 a (by omega))
        have hS1_o : σ1 (p + 2 + 55 * i) = some (.inl (1, [some none, some none, some none, some none, some none, none, none, none, none])) := by rw [hs1]; exact va_up_self _ _ _
        have hB1 : ∀ a, a < p → σ1 a = σ a := fun a ha => (ht1 a (by omega)).trans (hB0 a ha)
        refine g_gv (fun v1 hv1 => ?_)
        have hY1 : ∀ a, a < p → v1 a = v a := fun a ha => (show v1 a = v0 a by rw [hv1, gu_n _ _ (by omega)]).trans (hY0 a ha)
        have hw1 : v1 (p + 2 + 55 * i) = fun _ => 0 := by rw [hv1, gu_s]
        have hV1 : ∀ a, a < p + 2 + 55 * i → v1 a = v0 a := fun a ha => by rw [hv1, gu_n _ _ (by omega)]
        refine g_dup (q := 30) dX3_init_29 rfl rfl ?_
        refine c_I (q := 33) (p_X1_init (p := p + 2 + 55 * i) (by omega) hS1_o hw1) k_X3_17 (by decide) rfl rfl (Nat.le_of_ble_eq_true rfl) (nc := 54) (ns := 300) rfl rfl (show 1 + 55 * i + 1 + 54 ≤ 331 by omega) (show 6 + 309 * i + 9 + 300 ≤ 1860 by omega) dX3_init_30 rfl ?_
        rintro σ2 v2 ⟨hq2, ⟨hk2, hj2⟩, hzz2⟩
        refine g_nm (lim' := p + 2 + 55 * i + 55) (kc' := 1 + 55 * i + 55) (ks' := 6 + 309 * i + 309) (by omega) (by omega) (by omega) ?_
        have ht2 : ∀ a, a < p + 2 + 55 * i → σ2 a = σ1 a := hk2
        have hS2_p : σ2 (p) = some (.inl (3, [some (some (p + 1)), none, none])) := (ht2 _ (by omega)).trans hS1_p
        have hS2_arr : σ2 (p + 1) = some (.inr (.inr (2, pra 6 (p + 2) 55 i))) := (ht2 _ (by omega)).trans hS1_arr
        have hS2_all : ∀ b, b < i → fsh σ2 (p + 2 + 55 * b) := fun b hb => fsh_k (hS1_all b hb) (fun a g1 g2 => ht2 a (by omega))
        have hS2_r : fsh σ2 (p + 2 + 55 * i) := hq2
        have hB2 : ∀ a, a < p → σ2 a = σ a := fun a ha => (ht2 a (by omega)).trans (hB1 a ha)
        have hY2 : ∀ a, a < p → v2 a = v a := fun a ha => (hj2 a (by omega)).trans (hY1 a ha)
        refine g_aast (q := 34) (k0 := 2) (z := (RX1, TX1, 9)) hS2_arr rfl rfl (by rw [pra_l]; omega) (by rw [pra_l]; decide) hS2_r.1 rfl dX3_init_33 rfl ?_
        refine g_gs (fun σ3 hs3 => ?_)
        have ht3 : ∀ a, a ≠ p + 1 → σ3 a = σ2 a := fun a ha => by rw [hs3]; exact va_up_ne _ _ ha
        have hS3_p : σ3 (p) = some (.inl (3, [some (some (p + 1)), none, none])) := (ht3 _ (by omega)).trans hS2_p
        have hS3_all : ∀ b, b < i → fsh σ3 (p + 2 + 55 * b) := fun b hb => fsh_k (hS2_all b hb) (fun a g1 g2 => ht3 a (by omega))
        have hS3_r : fsh σ3 (p + 2 + 55 * i) := fsh_k hS2_r (fun a g1 g2 => ht3 a (by omega))
        have hS3_arr : σ3 (p + 1) = some (.inr (.inr (2, pra 6 (p + 2) 55 (i + 1)))) := by rw [hs3, ← pra_s]; exact va_up_self _ _ _
        have hB3 : ∀ a, a < p → σ3 a = σ a := fun a ha => (ht3 a (by omega)).trans (hB2 a ha)
        refine g_iinc (q := 37) (y := nI (i + 1)) dX3_init_34 rfl (gn_inc i) rfl rfl rfl rfl ?_
        dsimp only [List.set]
        refine g_goto (q := 15) dX3_init_37 (by decide) ?_
        refine g_nm (lim' := p + 2 + 55 * (i + 1)) (kc' := 1 + 55 * (i + 1)) (ks' := 6 + 309 * (i + 1)) (by omega) (by omega) (by omega) ?_
        refine ih (i + 1) σ3 v2 (by omega) ?_ ?_ ?_ ?_ ?_ ?_ ?_
        · exact hS3_p
        · exact hS3_arr
        · exact (fun b hb => by
            rcases Nat.lt_or_ge b i with g | g
            · exact hS3_all b g
            · rw [show b = i by omega]; exact hS3_r)
        · exact hB3
        · exact hY2
        · exact ((hj2 _ (by omega)).trans ((hV1 _ (by omega)).trans hP0))
        · exact (fun b hb => by
            rcases Nat.lt_or_ge b i with g | g
            · obtain ⟨A, t, hA⟩ := hC0 b g
              exact ⟨A, t, hA.keep (fun a g1 g2 => (hj2 a (by omega)).trans (hV1 a (by omega)))⟩
            · rw [show b = i by omega]
              obtain ⟨A, hA1, hA2⟩ := hzz2
              exact ⟨A, 0, hA2⟩)
  refine gj_E_at (L := [some (.ref p), none]) (k := 1) rfl (by decide) rfl ?_
  refine g_aload_n (q := 1) dX3_init_0 rfl rfl ?_
  refine g_oinit (q := 4) k_X3_3 (by decide) dX3_init_1 rfl ?_
  refine g_aload_n (q := 5) dX3_init_4 rfl rfl ?_
  refine g_bipush (q := 7) (x := 6) dX3_init_5 (by decide) rfl ?_
  refine g_anew (q := 10) (n := 6) (k0 := 2) na_X3_9 (List.mem_of_getElem? (i := 1) rfl) rfl (by decide) (by decide) (by decide) (by decide) dX3_init_7 rfl ?_
  refine g_nm (lim' := p + 2) (kc' := 1) (ks' := 6) (by omega) (by omega) (by omega) ?_
  refine g_gs (fun σ1 hs1 => ?_)
  have ht1 : ∀ a, a ≠ p + 1 → σ1 a = σ a := fun a ha => by rw [hs1]; exact va_up_ne _ _ ha
  have hS1_p : σ1 (p) = some (.inl (3, [some none, none, none])) := (ht1 _ (by omega)).trans hS0_p
  have hS1_arr : σ1 (p + 1) = some (.inr (.inr (2, List.replicate 6 none))) := by rw [hs1]; exact va_up_self _ _ _
  have hB1 : ∀ a, a < p → σ1 a = σ a := fun a ha => (ht1 a (by omega)).trans (hB0 a ha)
  refine g_gv (fun v1 hv1 => ?_)
  have hY1 : ∀ a, a < p → v1 a = v a := fun a ha => (show v1 a = v a by rw [hv1, gu_n _ _ (by omega)]).trans (hY0 a ha)
  have hw1 : v1 (p + 1) = fun _ => 0 := by rw [hv1, gu_s]
  have hV1 : ∀ a, a < p + 1 → v1 a = v a := fun a ha => by rw [hv1, gu_n _ _ (by omega)]
  have hPP : v1 p = fun _ => 0 := (hV1 _ (by omega)).trans hz
  refine g_putR (q := 13) f_X3_11 rfl rfl hS1_p (Nat.le_of_ble_eq_true rfl) rfl rfl dX3_init_10 rfl ?_
  refine g_gs (fun σ2 hs2 => ?_)
  have ht2 : ∀ a, a ≠ p → σ2 a = σ1 a := fun a ha => by rw [hs2]; exact va_up_ne _ _ ha
  have hS2_arr : σ2 (p + 1) = some (.inr (.inr (2, List.replicate 6 none))) := (ht2 _ (by omega)).trans hS1_arr
  have hS2_p : σ2 (p) = some (.inl (3, [some (some (p + 1)), none, none])) := by rw [hs2]; exact va_up_self _ _ _
  have hB2 : ∀ a, a < p → σ2 a = σ a := fun a ha => (ht2 a (by omega)).trans (hB1 a ha)
  refine g_iconst (q := 14) (x := 0) dX3_init_13 (by decide) rfl ?_
  refine g_istore_n (q := 15) dX3_init_14 rfl rfl rfl rfl ?_
  dsimp only [List.set]
  refine g_nm (lim' := p + 2 + 55 * 0) (kc' := 1 + 55 * 0) (ks' := 6 + 309 * 0) (by omega) (by omega) (by omega) ?_
  refine lp 6 0 σ2 v1 (by omega) ?_ ?_ ?_ ?_ ?_ ?_ ?_
  · exact hS2_p
  · rw [← pra_0]; exact hS2_arr
  · exact fun b hb => absurd hb (by omega)
  · exact hB2
  · exact hY1
  · exact hPP
  · exact fun b hb => absurd hb (by omega)

set_option maxRecDepth 100000 in
set_option maxHeartbeats 4000000 in
theorem p_X10_init {X : gj_X}  {σ : gj_H} {v : gj_V} {lim p : Nat} (hl : lim = p + 1) (hS0_p : σ p = some (.inl (10, [some none, some none, some none, some none, some none, none, none, none]))) (hz : v p = fun _ => 0) : gj_E X 5 m_X10_init [.ref p] lim σ v (q_n (p + 477) (fun σ' v' => gsh σ' p ∧ kp σ σ' v v' p ∧ ∃ A, nwr 3 A ∧ GR v' p A 0 [] [] (fun _ => 0))) := by
  subst hl
  have hB0 : ∀ a, a < p → σ a = σ a := fun _ _ => rfl
  have hY0 : ∀ a, a < p → v a = v a := fun _ _ => rfl
  refine gj_E_at (L := [some (.ref p)]) (k := 0) rfl (by decide) rfl ?_
  refine g_aload_n (q := 1) dX10_init_0 rfl rfl ?_
  refine g_oinit (q := 4) k_X10_1 (by decide) dX10_init_1 rfl ?_
  refine g_aload_n (q := 5) dX10_init_4 rfl rfl ?_
  refine g_new (q := 8) n_X10_7 (by decide) (by decide) dX10_init_5 rfl ?_
  refine g_nm (lim' := p + 2) (kc' := 1) (ks' := 9) (by omega) (by omega) (by omega) ?_
  refine g_gs (fun σ1 hs1 => ?_)
  have ht1 : ∀ a, a ≠ p + 1 → σ1 a = σ a := fun a ha => by rw [hs1]; exact va_up_ne _ _ ha
  have hS1_p : σ1 (p) = some (.inl (10, [some none, some none, some none, some none, some none, none, none, none])) := (ht1 _ (by omega)).trans hS0_p
  have hS1_o : σ1 (p + 1) = some (.inl (1, [some none, some none, some none, some none, some none, none, none, none, none])) := by rw [hs1]; exact va_up_self _ _ _
  have hB1 : ∀ a, a < p → σ1 a = σ a := fun a ha => (ht1 a (by omega)).trans (hB0 a ha)
  refine g_gv (fun v1 hv1 => ?_)
  have hY1 : ∀ a, a < p → v1 a = v a := fun a ha => (show v1 a = v a by rw [hv1, gu_n _ _ (by omega)]).trans (hY0 a ha)
  have hw1 : v1 (p + 1) = fun _ => 0 := by rw [hv1, gu_s]
  have hV1 : ∀ a, a < p + 1 → v1 a = v a := fun a ha => by rw [hv1, gu_n _ _ (by omega)]
  have hJ1 : ∀ a, a < p + 1 → v1 a = v a := hV1
  refine g_dup (q := 9) dX10_init_8 rfl rfl ?_
  refine c_I (q := 12) (p_X1_init (p := p + 1) (by omega) hS1_o hw1) k_X10_9 (by decide) rfl rfl (Nat.le_of_ble_eq_true rfl) (nc := 54) (ns := 300) rfl rfl (by decide) (by decide) dX10_init_9 rfl ?_
  rintro σ2 v2 ⟨hq2, ⟨hk2, hj2⟩, hzz2⟩
  refine g_nm (lim' := p + 56) (kc' := 55) (ks' := 309) (by omega) (by omega) (by omega) ?_
  have ht2 : ∀ a, a < p + 1 → σ2 a = σ1 a := hk2
  have hS2_p : σ2 (p) = some (.inl (10, [some none, some none, some none, some none, some none, none, none, none])) := (ht2 _ (by omega)).trans hS1_p
  have hS2_f : fsh σ2 (p + 1) := hq2
  have hB2 : ∀ a, a < p → σ2 a = σ a := fun a ha => (ht2 a (by omega)).trans (hB1 a ha)
  have hY2 : ∀ a, a < p → v2 a = v a := fun a ha => (hj2 a (by omega)).trans (hY1 a ha)
  have hJ2 : ∀ a, a < p + 1 → v2 a = v1 a := hj2
  have hE1 := hzz2
  refine g_putR (q := 15) f_X10_10 rfl rfl hS2_p (Nat.le_of_ble_eq_true rfl) rfl rfl dX10_init_12 rfl ?_
  refine g_gs (fun σ3 hs3 => ?_)
  have ht3 : ∀ a, a ≠ p → σ3 a = σ2 a := fun a ha => by rw [hs3]; exact va_up_ne _ _ ha
  have hS3_f : fsh σ3 (p + 1) := fsh_k hS2_f (fun a g1 g2 => ht3 a (by omega))
  have hS3_p : σ3 (p) = some (.inl (10, [some (some (p + 1)), some none, some none, some none, some none, none, none, none])) := by rw [hs3]; exact va_up_self _ _ _
  have hB3 : ∀ a, a < p → σ3 a = σ a := fun a ha => (ht3 a (by omega)).trans (hB2 a ha)
  refine g_aload_n (q := 16) dX10_init_15 rfl rfl ?_
  refine g_new (q := 19) n_X10_16 (by decide) (by decide) dX10_init_16 rfl ?_
  refine g_nm (lim' := p + 57) (kc' := 56) (ks' := 312) (by omega) (by omega) (by omega) ?_
  refine g_gs (fun σ4 hs4 => ?_)
  have ht4 : ∀ a, a ≠ p + 56 → σ4 a = σ3 a := fun a ha => by rw [hs4]; exact va_up_ne _ _ ha
  have hS4_p : σ4 (p) = some (.inl (10, [some (some (p + 1)), some none, some none, some none, some none, none, none, none])) := (ht4 _ (by omega)).trans hS3_p
  have hS4_f : fsh σ4 (p + 1) := fsh_k hS3_f (fun a g1 g2 => ht4 a (by omega))
  have hS4_o : σ4 (p + 56) = some (.inl (3, [some none, none, none])) := by rw [hs4]; exact va_up_self _ _ _
  have hB4 : ∀ a, a < p → σ4 a = σ a := fun a ha => (ht4 a (by omega)).trans (hB3 a ha)
  refine g_gv (fun v3 hv3 => ?_)
  have hY3 : ∀ a, a < p → v3 a = v a := fun a ha => (show v3 a = v2 a by rw [hv3, gu_n _ _ (by omega)]).trans (hY2 a ha)
  have hw3 : v3 (p + 56) = fun _ => 0 := by rw [hv3, gu_s]
  have hV3 : ∀ a, a < p + 56 → v3 a = v2 a := fun a ha => by rw [hv3, gu_n _ _ (by omega)]
  have hJ3 : ∀ a, a < p + 56 → v3 a = v2 a := hV3
  refine g_dup (q := 20) dX10_init_19 rfl rfl ?_
  refine c_I (q := 23) (p_X3_init (p := p + 56) (by omega) hS4_o hw3) k_X10_18 (by decide) rfl rfl (Nat.le_of_ble_eq_true rfl) (nc := 331) (ns := 1860) rfl rfl (by decide) (by decide) dX10_init_20 rfl ?_
  rintro σ5 v4 ⟨hq5, ⟨hk5, hj5⟩, hzz5⟩
  refine g_nm (lim' := p + 388) (kc' := 387) (ks' := 2172) (by omega) (by omega) (by omega) ?_
  have ht5 : ∀ a, a < p + 56 → σ5 a = σ4 a := hk5
  have hS5_p : σ5 (p) = some (.inl (10, [some (some (p + 1)), some none, some none, some none, some none, none, none, none])) := (ht5 _ (by omega)).trans hS4_p
  have hS5_f : fsh σ5 (p + 1) := fsh_k hS4_f (fun a g1 g2 => ht5 a (by omega))
  have hS5_h : hsh σ5 (p + 56) := hq5
  have hB5 : ∀ a, a < p → σ5 a = σ a := fun a ha => (ht5 a (by omega)).trans (hB4 a ha)
  have hY4 : ∀ a, a < p → v4 a = v a := fun a ha => (hj5 a (by omega)).trans (hY3 a ha)
  have hJ4 : ∀ a, a < p + 56 → v4 a = v3 a := hj5
  have hE2 := hzz5
  refine g_putR (q := 26) f_X10_19 rfl rfl hS5_p (Nat.le_of_ble_eq_true rfl) rfl rfl dX10_init_23 rfl ?_
  refine g_gs (fun σ6 hs6 => ?_)
  have ht6 : ∀ a, a ≠ p → σ6 a = σ5 a := fun a ha => by rw [hs6]; exact va_up_ne _ _ ha
  have hS6_f : fsh σ6 (p + 1) := fsh_k hS5_f (fun a g1 g2 => ht6 a (by omega))
  have hS6_h : hsh σ6 (p + 56) := hsh_k hS5_h (fun a g1 g2 => ht6 a (by omega))
  have hS6_p : σ6 (p) = some (.inl (10, [some (some (p + 1)), some (some (p + 56)), some none, some none, some none, none, none, none])) := by rw [hs6]; exact va_up_self _ _ _
  have hB6 : ∀ a, a < p → σ6 a = σ a := fun a ha => (ht6 a (by omega)).trans (hB5 a ha)
  refine g_aload_n (q := 27) dX10_init_26 rfl rfl ?_
  refine g_new (q := 30) n_X10_23 (by decide) (by decide) dX10_init_27 rfl ?_
  refine g_nm (lim' := p + 389) (kc' := 388) (ks' := 2174) (by omega) (by omega) (by omega) ?_
  refine g_gs (fun σ7 hs7 => ?_)
  have ht7 : ∀ a, a ≠ p + 388 → σ7 a = σ6 a := fun a ha => by rw [hs7]; exact va_up_ne _ _ ha
  have hS7_p : σ7 (p) = some (.inl (10, [some (some (p + 1)), some (some (p + 56)), some none, some none, some none, none, none, none])) := (ht7 _ (by omega)).trans hS6_p
  have hS7_f : fsh σ7 (p + 1) := fsh_k hS6_f (fun a g1 g2 => ht7 a (by omega))
  have hS7_h : hsh σ7 (p + 56) := hsh_k hS6_h (fun a g1 g2 => ht7 a (by omega))
  have hS7_o : σ7 (p + 388) = some (.inl (8, [some none, none])) := by rw [hs7]; exact va_up_self _ _ _
  have hB7 : ∀ a, a < p → σ7 a = σ a := fun a ha => (ht7 a (by omega)).trans (hB6 a ha)
  refine g_gv (fun v5 hv5 => ?_)
  have hY5 : ∀ a, a < p → v5 a = v a := fun a ha => (show v5 a = v4 a by rw [hv5, gu_n _ _ (by omega)]).trans (hY4 a ha)
  have hw5 : v5 (p + 388) = fun _ => 0 := by rw [hv5, gu_s]
  have hV5 : ∀ a, a < p + 388 → v5 a = v4 a := fun a ha => by rw [hv5, gu_n _ _ (by omega)]
  have hJ5 : ∀ a, a < p + 388 → v5 a = v4 a := hV5
  refine g_dup (q := 31) dX10_init_30 rfl rfl ?_
  refine c_I (q := 34) (p_X8_init (p := p + 388) (by omega) hS7_o hw5) k_X10_25 (by decide) rfl rfl (Nat.le_of_ble_eq_true rfl) (nc := 1) (ns := 120) rfl rfl (by decide) (by decide) dX10_init_31 rfl ?_
  rintro σ8 v6 ⟨hq8, ⟨hk8, hj8⟩, hzz8⟩
  refine g_nm (lim' := p + 390) (kc' := 389) (ks' := 2294) (by omega) (by omega) (by omega) ?_
  have ht8 : ∀ a, a < p + 388 → σ8 a = σ7 a := hk8
  have hS8_p : σ8 (p) = some (.inl (10, [some (some (p + 1)), some (some (p + 56)), some none, some none, some none, none, none, none])) := (ht8 _ (by omega)).trans hS7_p
  have hS8_f : fsh σ8 (p + 1) := fsh_k hS7_f (fun a g1 g2 => ht8 a (by omega))
  have hS8_h : hsh σ8 (p + 56) := hsh_k hS7_h (fun a g1 g2 => ht8 a (by omega))
  have hS8_t : tsh σ8 (p + 388) := hq8
  have hB8 : ∀ a, a < p → σ8 a = σ a := fun a ha => (ht8 a (by omega)).trans (hB7 a ha)
  have hY6 : ∀ a, a < p → v6 a = v a := fun a ha => (hj8 a (by omega)).trans (hY5 a ha)
  have hJ6 : ∀ a, a < p + 388 → v6 a = v5 a := hj8
  have hE3 := hzz8
  refine g_putR (q := 37) f_X10_26 rfl rfl hS8_p (Nat.le_of_ble_eq_true rfl) rfl rfl dX10_init_34 rfl ?_
  refine g_gs (fun σ9 hs9 => ?_)
  have ht9 : ∀ a, a ≠ p → σ9 a = σ8 a := fun a ha => by rw [hs9]; exact va_up_ne _ _ ha
  have hS9_f : fsh σ9 (p + 1) := fsh_k hS8_f (fun a g1 g2 => ht9 a (by omega))
  have hS9_h : hsh σ9 (p + 56) := hsh_k hS8_h (fun a g1 g2 => ht9 a (by omega))
  have hS9_t : tsh σ9 (p + 388) := tsh_k hS8_t (fun a g1 g2 => ht9 a (by omega))
  have hS9_p : σ9 (p) = some (.inl (10, [some (some (p + 1)), some (some (p + 56)), some (some (p + 388)), some none, some none, none, none, none])) := by rw [hs9]; exact va_up_self _ _ _
  have hB9 : ∀ a, a < p → σ9 a = σ a := fun a ha => (ht9 a (by omega)).trans (hB8 a ha)
  refine g_aload_n (q := 38) dX10_init_37 rfl rfl ?_
  refine g_new (q := 41) n_X10_30 (by decide) (by decide) dX10_init_38 rfl ?_
  refine g_nm (lim' := p + 391) (kc' := 390) (ks' := 2302) (by omega) (by omega) (by omega) ?_
  refine g_gs (fun σ10 hs10 => ?_)
  have ht10 : ∀ a, a ≠ p + 390 → σ10 a = σ9 a := fun a ha => by rw [hs10]; exact va_up_ne _ _ ha
  have hS10_p : σ10 (p) = some (.inl (10, [some (some (p + 1)), some (some (p + 56)), some (some (p + 388)), some none, some none, none, none, none])) := (ht10 _ (by omega)).trans hS9_p
  have hS10_f : fsh σ10 (p + 1) := fsh_k hS9_f (fun a g1 g2 => ht10 a (by omega))
  have hS10_h : hsh σ10 (p + 56) := hsh_k hS9_h (fun a g1 g2 => ht10 a (by omega))
  have hS10_t : tsh σ10 (p + 388) := tsh_k hS9_t (fun a g1 g2 => ht10 a (by omega))
  have hS10_o : σ10 (p + 390) = some (.inl (6, [some none, some none, some none, some none, none, none, none, none])) := by rw [hs10]; exact va_up_self _ _ _
  have hB10 : ∀ a, a < p → σ10 a = σ a := fun a ha => (ht10 a (by omega)).trans (hB9 a ha)
  refine g_gv (fun v7 hv7 => ?_)
  have hY7 : ∀ a, a < p → v7 a = v a := fun a ha => (show v7 a = v6 a by rw [hv7, gu_n _ _ (by omega)]).trans (hY6 a ha)
  have hw7 : v7 (p + 390) = fun _ => 0 := by rw [hv7, gu_s]
  have hV7 : ∀ a, a < p + 390 → v7 a = v6 a := fun a ha => by rw [hv7, gu_n _ _ (by omega)]
  have hJ7 : ∀ a, a < p + 390 → v7 a = v6 a := hV7
  refine g_dup (q := 42) dX10_init_41 rfl rfl ?_
  refine g_aload_n (q := 43) dX10_init_42 rfl rfl ?_
  refine g_getR (q := 46) f_X10_26 hS10_p rfl dX10_init_43 rfl ?_
  refine g_aload_n (q := 47) dX10_init_46 rfl rfl ?_
  refine g_getR (q := 50) f_X10_10 hS10_p rfl dX10_init_47 rfl ?_
  refine c_I (q := 53) (p_X6_init (x := p + 388) (f := p + 1) (p := p + 390) (by omega) hS10_o hw7) k_X10_32 (by decide) rfl rfl (Nat.le_of_ble_eq_true rfl) (nc := 72) (ns := 285) rfl rfl (by decide) (by decide) dX10_init_50 rfl ?_
  rintro σ11 v8 ⟨hq11, ⟨hk11, hj11⟩, hzz11⟩
  refine g_nm (lim' := p + 463) (kc' := 462) (ks' := 2587) (by omega) (by omega) (by omega) ?_
  have ht11 : ∀ a, a < p + 390 → σ11 a = σ10 a := hk11
  have hS11_p : σ11 (p) = some (.inl (10, [some (some (p + 1)), some (some (p + 56)), some (some (p + 388)), some none, some none, none, none, none])) := (ht11 _ (by omega)).trans hS10_p
  have hS11_f : fsh σ11 (p + 1) := fsh_k hS10_f (fun a g1 g2 => ht11 a (by omega))
  have hS11_h : hsh σ11 (p + 56) := hsh_k hS10_h (fun a g1 g2 => ht11 a (by omega))
  have hS11_t : tsh σ11 (p + 388) := tsh_k hS10_t (fun a g1 g2 => ht11 a (by omega))
  have hS11_n : nsh σ11 (p + 390) (p + 388) (p + 1) := hq11
  have hB11 : ∀ a, a < p → σ11 a = σ a := fun a ha => (ht11 a (by omega)).trans (hB10 a ha)
  have hY8 : ∀ a, a < p → v8 a = v a := fun a ha => (hj11 a (by omega)).trans (hY7 a ha)
  have hJ8 : ∀ a, a < p + 390 → v8 a = v7 a := hj11
  have hE4 := hzz11
  refine g_putR (q := 56) f_X10_35 rfl rfl hS11_p (Nat.le_of_ble_eq_true rfl) rfl rfl dX10_init_53 rfl ?_
  refine g_gs (fun σ12 hs12 => ?_)
  have ht12 : ∀ a, a ≠ p → σ12 a = σ11 a := fun a ha => by rw [hs12]; exact va_up_ne _ _ ha
  have hS12_f : fsh σ12 (p + 1) := fsh_k hS11_f (fun a g1 g2 => ht12 a (by omega))
  have hS12_h : hsh σ12 (p + 56) := hsh_k hS11_h (fun a g1 g2 => ht12 a (by omega))
  have hS12_t : tsh σ12 (p + 388) := tsh_k hS11_t (fun a g1 g2 => ht12 a (by omega))
  have hS12_n : nsh σ12 (p + 390) (p + 388) (p + 1) := nsh_k hS11_n (fun a g1 g2 => ht12 a (by omega))
  have hS12_p : σ12 (p) = some (.inl (10, [some (some (p + 1)), some (some (p + 56)), some (some (p + 388)), some (some (p + 390)), some none, none, none, none])) := by rw [hs12]; exact va_up_self _ _ _
  have hB12 : ∀ a, a < p → σ12 a = σ a := fun a ha => (ht12 a (by omega)).trans (hB11 a ha)
  refine g_aload_n (q := 57) dX10_init_56 rfl rfl ?_
  refine g_new (q := 60) n_X10_39 (by decide) (by decide) dX10_init_57 rfl ?_
  refine g_nm (lim' := p + 464) (kc' := 463) (ks' := 2588) (by omega) (by omega) (by omega) ?_
  refine g_gs (fun σ13 hs13 => ?_)
  have ht13 : ∀ a, a ≠ p + 463 → σ13 a = σ12 a := fun a ha => by rw [hs13]; exact va_up_ne _ _ ha
  have hS13_p : σ13 (p) = some (.inl (10, [some (some (p + 1)), some (some (p + 56)), some (some (p + 388)), some (some (p + 390)), some none, none, none, none])) := (ht13 _ (by omega)).trans hS12_p
  have hS13_f : fsh σ13 (p + 1) := fsh_k hS12_f (fun a g1 g2 => ht13 a (by omega))
  have hS13_h : hsh σ13 (p + 56) := hsh_k hS12_h (fun a g1 g2 => ht13 a (by omega))
  have hS13_t : tsh σ13 (p + 388) := tsh_k hS12_t (fun a g1 g2 => ht13 a (by omega))
  have hS13_n : nsh σ13 (p + 390) (p + 388) (p + 1) := nsh_k hS12_n (fun a g1 g2 => ht13 a (by omega))
  have hS13_o : σ13 (p + 463) = some (.inl (4, [some none])) := by rw [hs13]; exact va_up_self _ _ _
  have hB13 : ∀ a, a < p → σ13 a = σ a := fun a ha => (ht13 a (by omega)).trans (hB12 a ha)
  refine g_gv (fun v9 hv9 => ?_)
  have hY9 : ∀ a, a < p → v9 a = v a := fun a ha => (show v9 a = v8 a by rw [hv9, gu_n _ _ (by omega)]).trans (hY8 a ha)
  have hw9 : v9 (p + 463) = fun _ => 0 := by rw [hv9, gu_s]
  have hV9 : ∀ a, a < p + 463 → v9 a = v8 a := fun a ha => by rw [hv9, gu_n _ _ (by omega)]
  have hJ9 : ∀ a, a < p + 463 → v9 a = v8 a := hV9
  refine g_dup (q := 61) dX10_init_60 rfl rfl ?_
  refine c_I (q := 64) (p_X4_init (p := p + 463) (by omega) hS13_o hw9) k_X10_41 (by decide) rfl rfl (Nat.le_of_ble_eq_true rfl) (nc := 13) (ns := 54) rfl rfl (by decide) (by decide) dX10_init_61 rfl ?_
  rintro σ14 v10 ⟨hq14, ⟨hk14, hj14⟩, hzz14⟩
  refine g_nm (lim' := p + 477) (kc' := 476) (ks' := 2642) (by omega) (by omega) (by omega) ?_
  have ht14 : ∀ a, a < p + 463 → σ14 a = σ13 a := hk14
  have hS14_p : σ14 (p) = some (.inl (10, [some (some (p + 1)), some (some (p + 56)), some (some (p + 388)), some (some (p + 390)), some none, none, none, none])) := (ht14 _ (by omega)).trans hS13_p
  have hS14_f : fsh σ14 (p + 1) := fsh_k hS13_f (fun a g1 g2 => ht14 a (by omega))
  have hS14_h : hsh σ14 (p + 56) := hsh_k hS13_h (fun a g1 g2 => ht14 a (by omega))
  have hS14_t : tsh σ14 (p + 388) := tsh_k hS13_t (fun a g1 g2 => ht14 a (by omega))
  have hS14_n : nsh σ14 (p + 390) (p + 388) (p + 1) := nsh_k hS13_n (fun a g1 g2 => ht14 a (by omega))
  have hS14_i : ish σ14 (p + 463) := hq14
  have hB14 : ∀ a, a < p → σ14 a = σ a := fun a ha => (ht14 a (by omega)).trans (hB13 a ha)
  have hY10 : ∀ a, a < p → v10 a = v a := fun a ha => (hj14 a (by omega)).trans (hY9 a ha)
  have hJ10 : ∀ a, a < p + 463 → v10 a = v9 a := hj14
  have hE5 := hzz14
  refine g_putR (q := 67) f_X10_42 rfl rfl hS14_p (Nat.le_of_ble_eq_true rfl) rfl rfl dX10_init_64 rfl ?_
  refine g_gs (fun σ15 hs15 => ?_)
  have ht15 : ∀ a, a ≠ p → σ15 a = σ14 a := fun a ha => by rw [hs15]; exact va_up_ne _ _ ha
  have hS15_f : fsh σ15 (p + 1) := fsh_k hS14_f (fun a g1 g2 => ht15 a (by omega))
  have hS15_h : hsh σ15 (p + 56) := hsh_k hS14_h (fun a g1 g2 => ht15 a (by omega))
  have hS15_t : tsh σ15 (p + 388) := tsh_k hS14_t (fun a g1 g2 => ht15 a (by omega))
  have hS15_n : nsh σ15 (p + 390) (p + 388) (p + 1) := nsh_k hS14_n (fun a g1 g2 => ht15 a (by omega))
  have hS15_i : ish σ15 (p + 463) := ish_k hS14_i (fun a g1 g2 => ht15 a (by omega))
  have hS15_p : σ15 (p) = some (.inl (10, [some (some (p + 1)), some (some (p + 56)), some (some (p + 388)), some (some (p + 390)), some (some (p + 463)), none, none, none])) := by rw [hs15]; exact va_up_self _ _ _
  have hB15 : ∀ a, a < p → σ15 a = σ a := fun a ha => (ht15 a (by omega)).trans (hB14 a ha)
  obtain ⟨A, hA1, hA2⟩ := hE1
  have zp : v10 p = fun _ => 0 := by rw [hJ10 _ (by omega), hJ9 _ (by omega), hJ8 _ (by omega), hJ7 _ (by omega), hJ6 _ (by omega), hJ5 _ (by omega), hJ4 _ (by omega), hJ3 _ (by omega), hJ2 _ (by omega), hJ1 _ (by omega)]; exact hz
  have hCR : CR v10 (p + 1) A 0 := hA2.keep (fun a g1 g2 => by rw [hJ10 _ (by omega), hJ9 _ (by omega), hJ8 _ (by omega), hJ7 _ (by omega), hJ6 _ (by omega), hJ5 _ (by omega), hJ4 _ (by omega), hJ3 _ (by omega)])
  have hHR : HR v10 (p + 56) [] 0 := hE2.keep (fun a g1 g2 => by rw [hJ10 _ (by omega), hJ9 _ (by omega), hJ8 _ (by omega), hJ7 _ (by omega), hJ6 _ (by omega), hJ5 _ (by omega)])
  have hTR : TR v10 (p + 388) [] := by
    refine TR.keep (v := v6) ⟨?_, by simp, fun i hi => absurd hi (by simp)⟩ (by rw [hJ10 _ (by omega), hJ9 _ (by omega), hJ8 _ (by omega), hJ7 _ (by omega)]) (by rw [hJ10 _ (by omega), hJ9 _ (by omega), hJ8 _ (by omega), hJ7 _ (by omega)])
    rw [hE3 _ (by omega) (by omega)]; rfl
  exact r_n dX10_init_67 rfl rfl rfl rfl ⟨⟨hS15_p, hS15_f, hS15_h, hS15_t, hS15_n, hS15_i⟩, ⟨hB15, hY10⟩, A, hA1, hCR, ⟨0, hHR⟩, hTR, zp⟩

set_option maxRecDepth 100000 in
set_option maxHeartbeats 4000000 in
theorem p_X11_init {X : gj_X}  {σ : gj_H} {v : gj_V} {lim p : Nat} (hl : lim = p + 1) (hS0_p : σ p = some (.inl (11, [some none, some none, none, some none, some none, some none, none, none, none, none, some none, some none, some none, some none, some none, some none, some none]))) (hz : v p = fun _ => 0) : gj_E X 2 m_X11_init [.ref p] lim σ v (q_n (p + 13) (fun σ' v' => msh σ' p ∧ kp σ σ' v v' p ∧ ∀ A, nwr 3 A → MG v' p A 0 [] [] (fun _ => 0))) := by
  subst hl
  have hB0 : ∀ a, a < p → σ a = σ a := fun _ _ => rfl
  have hY0 : ∀ a, a < p → v a = v a := fun _ _ => rfl
  have hZ0 : zr v p (p + 1) := fun a g1 g2 => by
    rw [show a = p by omega]; exact hz
  refine gj_E_at (L := [some (.ref p)]) (k := 0) rfl (by decide) rfl ?_
  refine g_aload_n (q := 1) dX11_init_0 rfl rfl ?_
  refine g_oinit (q := 4) k_X11_1 (by decide) dX11_init_1 rfl ?_
  refine g_aload_n (q := 5) dX11_init_4 rfl rfl ?_
  refine g_iconst (q := 6) (x := 3) dX11_init_5 (by decide) rfl ?_
  refine g_newi (q := 8) (n := 3) gl_arr (by decide) (by decide) (by decide) (by decide) dX11_init_6 rfl ?_
  refine g_nm (lim' := p + 2) (kc' := 1) (ks' := 3) (by omega) (by omega) (by omega) ?_
  refine g_gs (fun σ1 hs1 => ?_)
  have ht1 : ∀ a, a ≠ p + 1 → σ1 a = σ a := fun a ha => by rw [hs1]; exact va_up_ne _ _ ha
  have hS1_p : σ1 (p) = some (.inl (11, [some none, some none, none, some none, some none, some none, none, none, none, none, some none, some none, some none, some none, some none, some none, some none])) := (ht1 _ (by omega)).trans hS0_p
  have hS1_a1 : σ1 (p + 1) = some (.inr (.inl 3)) := by rw [hs1]; exact va_up_self _ _ _
  have hB1 : ∀ a, a < p → σ1 a = σ a := fun a ha => (ht1 a (by omega)).trans (hB0 a ha)
  refine g_gv (fun v1 hv1 => ?_)
  have hY1 : ∀ a, a < p → v1 a = v a := fun a ha => (show v1 a = v a by rw [hv1, gu_n _ _ (by omega)]).trans (hY0 a ha)
  have hZ1 : zr v1 (p) (p + 2) := fun a g1 g2 => by
    by_cases e : a = p + 1
    · rw [hv1, e, gu_s]
    · rw [hv1, gu_n _ _ e]; exact hZ0 a g1 (by omega)
  refine g_putR (q := 11) f_X11_7 rfl rfl hS1_p (Nat.le_of_ble_eq_true rfl) rfl rfl dX11_init_8 rfl ?_
  refine g_gs (fun σ2 hs2 => ?_)
  have ht2 : ∀ a, a ≠ p → σ2 a = σ1 a := fun a ha => by rw [hs2]; exact va_up_ne _ _ ha
  have hS2_a1 : σ2 (p + 1) = some (.inr (.inl 3)) := (ht2 _ (by omega)).trans hS1_a1
  have hS2_p : σ2 (p) = some (.inl (11, [some (some (p + 1)), some none, none, some none, some none, some none, none, none, none, none, some none, some none, some none, some none, some none, some none, some none])) := by rw [hs2]; exact va_up_self _ _ _
  have hB2 : ∀ a, a < p → σ2 a = σ a := fun a ha => (ht2 a (by omega)).trans (hB1 a ha)
  refine g_aload_n (q := 12) dX11_init_11 rfl rfl ?_
  refine g_sipush (q := 15) (x := 320) dX11_init_12 (by decide) rfl ?_
  refine g_newi (q := 17) (n := 320) gl_arr (by decide) (by decide) (by decide) (by decide) dX11_init_15 rfl ?_
  refine g_nm (lim' := p + 3) (kc' := 2) (ks' := 323) (by omega) (by omega) (by omega) ?_
  refine g_gs (fun σ3 hs3 => ?_)
  have ht3 : ∀ a, a ≠ p + 2 → σ3 a = σ2 a := fun a ha => by rw [hs3]; exact va_up_ne _ _ ha
  have hS3_p : σ3 (p) = some (.inl (11, [some (some (p + 1)), some none, none, some none, some none, some none, none, none, none, none, some none, some none, some none, some none, some none, some none, some none])) := (ht3 _ (by omega)).trans hS2_p
  have hS3_a1 : σ3 (p + 1) = some (.inr (.inl 3)) := (ht3 _ (by omega)).trans hS2_a1
  have hS3_a2 : σ3 (p + 2) = some (.inr (.inl 320)) := by rw [hs3]; exact va_up_self _ _ _
  have hB3 : ∀ a, a < p → σ3 a = σ a := fun a ha => (ht3 a (by omega)).trans (hB2 a ha)
  refine g_gv (fun v2 hv2 => ?_)
  have hY2 : ∀ a, a < p → v2 a = v a := fun a ha => (show v2 a = v1 a by rw [hv2, gu_n _ _ (by omega)]).trans (hY1 a ha)
  have hZ2 : zr v2 (p) (p + 3) := fun a g1 g2 => by
    by_cases e : a = p + 2
    · rw [hv2, e, gu_s]
    · rw [hv2, gu_n _ _ e]; exact hZ1 a g1 (by omega)
  refine g_putR (q := 20) f_X11_13 rfl rfl hS3_p (Nat.le_of_ble_eq_true rfl) rfl rfl dX11_init_17 rfl ?_
  refine g_gs (fun σ4 hs4 => ?_)
  have ht4 : ∀ a, a ≠ p → σ4 a = σ3 a := fun a ha => by rw [hs4]; exact va_up_ne _ _ ha
  have hS4_a1 : σ4 (p + 1) = some (.inr (.inl 3)) := (ht4 _ (by omega)).trans hS3_a1
  have hS4_a2 : σ4 (p + 2) = some (.inr (.inl 320)) := (ht4 _ (by omega)).trans hS3_a2
  have hS4_p : σ4 (p) = some (.inl (11, [some (some (p + 1)), some (some (p + 2)), none, some none, some none, some none, none, none, none, none, some none, some none, some none, some none, some none, some none, some none])) := by rw [hs4]; exact va_up_self _ _ _
  have hB4 : ∀ a, a < p → σ4 a = σ a := fun a ha => (ht4 a (by omega)).trans (hB3 a ha)
  refine g_aload_n (q := 21) dX11_init_20 rfl rfl ?_
  refine g_sipush (q := 24) (x := 1920) dX11_init_21 (by decide) rfl ?_
  refine g_newi (q := 26) (n := 1920) gl_arr (by decide) (by decide) (by decide) (by decide) dX11_init_24 rfl ?_
  refine g_nm (lim' := p + 4) (kc' := 3) (ks' := 2243) (by omega) (by omega) (by omega) ?_
  refine g_gs (fun σ5 hs5 => ?_)
  have ht5 : ∀ a, a ≠ p + 3 → σ5 a = σ4 a := fun a ha => by rw [hs5]; exact va_up_ne _ _ ha
  have hS5_p : σ5 (p) = some (.inl (11, [some (some (p + 1)), some (some (p + 2)), none, some none, some none, some none, none, none, none, none, some none, some none, some none, some none, some none, some none, some none])) := (ht5 _ (by omega)).trans hS4_p
  have hS5_a1 : σ5 (p + 1) = some (.inr (.inl 3)) := (ht5 _ (by omega)).trans hS4_a1
  have hS5_a2 : σ5 (p + 2) = some (.inr (.inl 320)) := (ht5 _ (by omega)).trans hS4_a2
  have hS5_a3 : σ5 (p + 3) = some (.inr (.inl 1920)) := by rw [hs5]; exact va_up_self _ _ _
  have hB5 : ∀ a, a < p → σ5 a = σ a := fun a ha => (ht5 a (by omega)).trans (hB4 a ha)
  refine g_gv (fun v3 hv3 => ?_)
  have hY3 : ∀ a, a < p → v3 a = v a := fun a ha => (show v3 a = v2 a by rw [hv3, gu_n _ _ (by omega)]).trans (hY2 a ha)
  have hZ3 : zr v3 (p) (p + 4) := fun a g1 g2 => by
    by_cases e : a = p + 3
    · rw [hv3, e, gu_s]
    · rw [hv3, gu_n _ _ e]; exact hZ2 a g1 (by omega)
  refine g_putR (q := 29) f_X11_16 rfl rfl hS5_p (Nat.le_of_ble_eq_true rfl) rfl rfl dX11_init_26 rfl ?_
  refine g_gs (fun σ6 hs6 => ?_)
  have ht6 : ∀ a, a ≠ p → σ6 a = σ5 a := fun a ha => by rw [hs6]; exact va_up_ne _ _ ha
  have hS6_a1 : σ6 (p + 1) = some (.inr (.inl 3)) := (ht6 _ (by omega)).trans hS5_a1
  have hS6_a2 : σ6 (p + 2) = some (.inr (.inl 320)) := (ht6 _ (by omega)).trans hS5_a2
  have hS6_a3 : σ6 (p + 3) = some (.inr (.inl 1920)) := (ht6 _ (by omega)).trans hS5_a3
  have hS6_p : σ6 (p) = some (.inl (11, [some (some (p + 1)), some (some (p + 2)), none, some (some (p + 3)), some none, some none, none, none, none, none, some none, some none, some none, some none, some none, some none, some none])) := by rw [hs6]; exact va_up_self _ _ _
  have hB6 : ∀ a, a < p → σ6 a = σ a := fun a ha => (ht6 a (by omega)).trans (hB5 a ha)
  refine g_aload_n (q := 30) dX11_init_29 rfl rfl ?_
  refine g_sipush (q := 33) (x := 324) dX11_init_30 (by decide) rfl ?_
  refine g_newi (q := 35) (n := 324) gl_arr (by decide) (by decide) (by decide) (by decide) dX11_init_33 rfl ?_
  refine g_nm (lim' := p + 5) (kc' := 4) (ks' := 2567) (by omega) (by omega) (by omega) ?_
  refine g_gs (fun σ7 hs7 => ?_)
  have ht7 : ∀ a, a ≠ p + 4 → σ7 a = σ6 a := fun a ha => by rw [hs7]; exact va_up_ne _ _ ha
  have hS7_p : σ7 (p) = some (.inl (11, [some (some (p + 1)), some (some (p + 2)), none, some (some (p + 3)), some none, some none, none, none, none, none, some none, some none, some none, some none, some none, some none, some none])) := (ht7 _ (by omega)).trans hS6_p
  have hS7_a1 : σ7 (p + 1) = some (.inr (.inl 3)) := (ht7 _ (by omega)).trans hS6_a1
  have hS7_a2 : σ7 (p + 2) = some (.inr (.inl 320)) := (ht7 _ (by omega)).trans hS6_a2
  have hS7_a3 : σ7 (p + 3) = some (.inr (.inl 1920)) := (ht7 _ (by omega)).trans hS6_a3
  have hS7_a4 : σ7 (p + 4) = some (.inr (.inl 324)) := by rw [hs7]; exact va_up_self _ _ _
  have hB7 : ∀ a, a < p → σ7 a = σ a := fun a ha => (ht7 a (by omega)).trans (hB6 a ha)
  refine g_gv (fun v4 hv4 => ?_)
  have hY4 : ∀ a, a < p → v4 a = v a := fun a ha => (show v4 a = v3 a by rw [hv4, gu_n _ _ (by omega)]).trans (hY3 a ha)
  have hZ4 : zr v4 (p) (p + 5) := fun a g1 g2 => by
    by_cases e : a = p + 4
    · rw [hv4, e, gu_s]
    · rw [hv4, gu_n _ _ e]; exact hZ3 a g1 (by omega)
  refine g_putR (q := 38) f_X11_19 rfl rfl hS7_p (Nat.le_of_ble_eq_true rfl) rfl rfl dX11_init_35 rfl ?_
  refine g_gs (fun σ8 hs8 => ?_)
  have ht8 : ∀ a, a ≠ p → σ8 a = σ7 a := fun a ha => by rw [hs8]; exact va_up_ne _ _ ha
  have hS8_a1 : σ8 (p + 1) = some (.inr (.inl 3)) := (ht8 _ (by omega)).trans hS7_a1
  have hS8_a2 : σ8 (p + 2) = some (.inr (.inl 320)) := (ht8 _ (by omega)).trans hS7_a2
  have hS8_a3 : σ8 (p + 3) = some (.inr (.inl 1920)) := (ht8 _ (by omega)).trans hS7_a3
  have hS8_a4 : σ8 (p + 4) = some (.inr (.inl 324)) := (ht8 _ (by omega)).trans hS7_a4
  have hS8_p : σ8 (p) = some (.inl (11, [some (some (p + 1)), some (some (p + 2)), none, some (some (p + 3)), some (some (p + 4)), some none, none, none, none, none, some none, some none, some none, some none, some none, some none, some none])) := by rw [hs8]; exact va_up_self _ _ _
  have hB8 : ∀ a, a < p → σ8 a = σ a := fun a ha => (ht8 a (by omega)).trans (hB7 a ha)
  refine g_aload_n (q := 39) dX11_init_38 rfl rfl ?_
  refine g_bipush (q := 41) (x := 120) dX11_init_39 (by decide) rfl ?_
  refine g_newi (q := 43) (n := 120) gl_arr (by decide) (by decide) (by decide) (by decide) dX11_init_41 rfl ?_
  refine g_nm (lim' := p + 6) (kc' := 5) (ks' := 2687) (by omega) (by omega) (by omega) ?_
  refine g_gs (fun σ9 hs9 => ?_)
  have ht9 : ∀ a, a ≠ p + 5 → σ9 a = σ8 a := fun a ha => by rw [hs9]; exact va_up_ne _ _ ha
  have hS9_p : σ9 (p) = some (.inl (11, [some (some (p + 1)), some (some (p + 2)), none, some (some (p + 3)), some (some (p + 4)), some none, none, none, none, none, some none, some none, some none, some none, some none, some none, some none])) := (ht9 _ (by omega)).trans hS8_p
  have hS9_a1 : σ9 (p + 1) = some (.inr (.inl 3)) := (ht9 _ (by omega)).trans hS8_a1
  have hS9_a2 : σ9 (p + 2) = some (.inr (.inl 320)) := (ht9 _ (by omega)).trans hS8_a2
  have hS9_a3 : σ9 (p + 3) = some (.inr (.inl 1920)) := (ht9 _ (by omega)).trans hS8_a3
  have hS9_a4 : σ9 (p + 4) = some (.inr (.inl 324)) := (ht9 _ (by omega)).trans hS8_a4
  have hS9_a5 : σ9 (p + 5) = some (.inr (.inl 120)) := by rw [hs9]; exact va_up_self _ _ _
  have hB9 : ∀ a, a < p → σ9 a = σ a := fun a ha => (ht9 a (by omega)).trans (hB8 a ha)
  refine g_gv (fun v5 hv5 => ?_)
  have hY5 : ∀ a, a < p → v5 a = v a := fun a ha => (show v5 a = v4 a by rw [hv5, gu_n _ _ (by omega)]).trans (hY4 a ha)
  have hZ5 : zr v5 (p) (p + 6) := fun a g1 g2 => by
    by_cases e : a = p + 5
    · rw [hv5, e, gu_s]
    · rw [hv5, gu_n _ _ e]; exact hZ4 a g1 (by omega)
  refine g_putR (q := 46) f_X11_22 rfl rfl hS9_p (Nat.le_of_ble_eq_true rfl) rfl rfl dX11_init_43 rfl ?_
  refine g_gs (fun σ10 hs10 => ?_)
  have ht10 : ∀ a, a ≠ p → σ10 a = σ9 a := fun a ha => by rw [hs10]; exact va_up_ne _ _ ha
  have hS10_a1 : σ10 (p + 1) = some (.inr (.inl 3)) := (ht10 _ (by omega)).trans hS9_a1
  have hS10_a2 : σ10 (p + 2) = some (.inr (.inl 320)) := (ht10 _ (by omega)).trans hS9_a2
  have hS10_a3 : σ10 (p + 3) = some (.inr (.inl 1920)) := (ht10 _ (by omega)).trans hS9_a3
  have hS10_a4 : σ10 (p + 4) = some (.inr (.inl 324)) := (ht10 _ (by omega)).trans hS9_a4
  have hS10_a5 : σ10 (p + 5) = some (.inr (.inl 120)) := (ht10 _ (by omega)).trans hS9_a5
  have hS10_p : σ10 (p) = some (.inl (11, [some (some (p + 1)), some (some (p + 2)), none, some (some (p + 3)), some (some (p + 4)), some (some (p + 5)), none, none, none, none, some none, some none, some none, some none, some none, some none, some none])) := by rw [hs10]; exact va_up_self _ _ _
  have hB10 : ∀ a, a < p → σ10 a = σ a := fun a ha => (ht10 a (by omega)).trans (hB9 a ha)
  refine g_aload_n (q := 47) dX11_init_46 rfl rfl ?_
  refine g_bipush (q := 49) (x := 120) dX11_init_47 (by decide) rfl ?_
  refine g_newi (q := 51) (n := 120) gl_arr (by decide) (by decide) (by decide) (by decide) dX11_init_49 rfl ?_
  refine g_nm (lim' := p + 7) (kc' := 6) (ks' := 2807) (by omega) (by omega) (by omega) ?_
  refine g_gs (fun σ11 hs11 => ?_)
  have ht11 : ∀ a, a ≠ p + 6 → σ11 a = σ10 a := fun a ha => by rw [hs11]; exact va_up_ne _ _ ha
  have hS11_p : σ11 (p) = some (.inl (11, [some (some (p + 1)), some (some (p + 2)), none, some (some (p + 3)), some (some (p + 4)), some (some (p + 5)), none, none, none, none, some none, some none, some none, some none, some none, some none, some none])) := (ht11 _ (by omega)).trans hS10_p
  have hS11_a1 : σ11 (p + 1) = some (.inr (.inl 3)) := (ht11 _ (by omega)).trans hS10_a1
  have hS11_a2 : σ11 (p + 2) = some (.inr (.inl 320)) := (ht11 _ (by omega)).trans hS10_a2
  have hS11_a3 : σ11 (p + 3) = some (.inr (.inl 1920)) := (ht11 _ (by omega)).trans hS10_a3
  have hS11_a4 : σ11 (p + 4) = some (.inr (.inl 324)) := (ht11 _ (by omega)).trans hS10_a4
  have hS11_a5 : σ11 (p + 5) = some (.inr (.inl 120)) := (ht11 _ (by omega)).trans hS10_a5
  have hS11_a6 : σ11 (p + 6) = some (.inr (.inl 120)) := by rw [hs11]; exact va_up_self _ _ _
  have hB11 : ∀ a, a < p → σ11 a = σ a := fun a ha => (ht11 a (by omega)).trans (hB10 a ha)
  refine g_gv (fun v6 hv6 => ?_)
  have hY6 : ∀ a, a < p → v6 a = v a := fun a ha => (show v6 a = v5 a by rw [hv6, gu_n _ _ (by omega)]).trans (hY5 a ha)
  have hZ6 : zr v6 (p) (p + 7) := fun a g1 g2 => by
    by_cases e : a = p + 6
    · rw [hv6, e, gu_s]
    · rw [hv6, gu_n _ _ e]; exact hZ5 a g1 (by omega)
  refine g_putR (q := 54) f_X11_25 rfl rfl hS11_p (Nat.le_of_ble_eq_true rfl) rfl rfl dX11_init_51 rfl ?_
  refine g_gs (fun σ12 hs12 => ?_)
  have ht12 : ∀ a, a ≠ p → σ12 a = σ11 a := fun a ha => by rw [hs12]; exact va_up_ne _ _ ha
  have hS12_a1 : σ12 (p + 1) = some (.inr (.inl 3)) := (ht12 _ (by omega)).trans hS11_a1
  have hS12_a2 : σ12 (p + 2) = some (.inr (.inl 320)) := (ht12 _ (by omega)).trans hS11_a2
  have hS12_a3 : σ12 (p + 3) = some (.inr (.inl 1920)) := (ht12 _ (by omega)).trans hS11_a3
  have hS12_a4 : σ12 (p + 4) = some (.inr (.inl 324)) := (ht12 _ (by omega)).trans hS11_a4
  have hS12_a5 : σ12 (p + 5) = some (.inr (.inl 120)) := (ht12 _ (by omega)).trans hS11_a5
  have hS12_a6 : σ12 (p + 6) = some (.inr (.inl 120)) := (ht12 _ (by omega)).trans hS11_a6
  have hS12_p : σ12 (p) = some (.inl (11, [some (some (p + 1)), some (some (p + 2)), none, some (some (p + 3)), some (some (p + 4)), some (some (p + 5)), none, none, none, none, some (some (p + 6)), some none, some none, some none, some none, some none, some none])) := by rw [hs12]; exact va_up_self _ _ _
  have hB12 : ∀ a, a < p → σ12 a = σ a := fun a ha => (ht12 a (by omega)).trans (hB11 a ha)
  refine g_aload_n (q := 55) dX11_init_54 rfl rfl ?_
  refine g_bipush (q := 57) (x := 120) dX11_init_55 (by decide) rfl ?_
  refine g_newi (q := 59) (n := 120) gl_arr (by decide) (by decide) (by decide) (by decide) dX11_init_57 rfl ?_
  refine g_nm (lim' := p + 8) (kc' := 7) (ks' := 2927) (by omega) (by omega) (by omega) ?_
  refine g_gs (fun σ13 hs13 => ?_)
  have ht13 : ∀ a, a ≠ p + 7 → σ13 a = σ12 a := fun a ha => by rw [hs13]; exact va_up_ne _ _ ha
  have hS13_p : σ13 (p) = some (.inl (11, [some (some (p + 1)), some (some (p + 2)), none, some (some (p + 3)), some (some (p + 4)), some (some (p + 5)), none, none, none, none, some (some (p + 6)), some none, some none, some none, some none, some none, some none])) := (ht13 _ (by omega)).trans hS12_p
  have hS13_a1 : σ13 (p + 1) = some (.inr (.inl 3)) := (ht13 _ (by omega)).trans hS12_a1
  have hS13_a2 : σ13 (p + 2) = some (.inr (.inl 320)) := (ht13 _ (by omega)).trans hS12_a2
  have hS13_a3 : σ13 (p + 3) = some (.inr (.inl 1920)) := (ht13 _ (by omega)).trans hS12_a3
  have hS13_a4 : σ13 (p + 4) = some (.inr (.inl 324)) := (ht13 _ (by omega)).trans hS12_a4
  have hS13_a5 : σ13 (p + 5) = some (.inr (.inl 120)) := (ht13 _ (by omega)).trans hS12_a5
  have hS13_a6 : σ13 (p + 6) = some (.inr (.inl 120)) := (ht13 _ (by omega)).trans hS12_a6
  have hS13_a7 : σ13 (p + 7) = some (.inr (.inl 120)) := by rw [hs13]; exact va_up_self _ _ _
  have hB13 : ∀ a, a < p → σ13 a = σ a := fun a ha => (ht13 a (by omega)).trans (hB12 a ha)
  refine g_gv (fun v7 hv7 => ?_)
  have hY7 : ∀ a, a < p → v7 a = v a := fun a ha => (show v7 a = v6 a by rw [hv7, gu_n _ _ (by omega)]).trans (hY6 a ha)
  have hZ7 : zr v7 (p) (p + 8) := fun a g1 g2 => by
    by_cases e : a = p + 7
    · rw [hv7, e, gu_s]
    · rw [hv7, gu_n _ _ e]; exact hZ6 a g1 (by omega)
  refine g_putR (q := 62) f_X11_28 rfl rfl hS13_p (Nat.le_of_ble_eq_true rfl) rfl rfl dX11_init_59 rfl ?_
  refine g_gs (fun σ14 hs14 => ?_)
  have ht14 : ∀ a, a ≠ p → σ14 a = σ13 a := fun a ha => by rw [hs14]; exact va_up_ne _ _ ha
  have hS14_a1 : σ14 (p + 1) = some (.inr (.inl 3)) := (ht14 _ (by omega)).trans hS13_a1
  have hS14_a2 : σ14 (p + 2) = some (.inr (.inl 320)) := (ht14 _ (by omega)).trans hS13_a2
  have hS14_a3 : σ14 (p + 3) = some (.inr (.inl 1920)) := (ht14 _ (by omega)).trans hS13_a3
  have hS14_a4 : σ14 (p + 4) = some (.inr (.inl 324)) := (ht14 _ (by omega)).trans hS13_a4
  have hS14_a5 : σ14 (p + 5) = some (.inr (.inl 120)) := (ht14 _ (by omega)).trans hS13_a5
  have hS14_a6 : σ14 (p + 6) = some (.inr (.inl 120)) := (ht14 _ (by omega)).trans hS13_a6
  have hS14_a7 : σ14 (p + 7) = some (.inr (.inl 120)) := (ht14 _ (by omega)).trans hS13_a7
  have hS14_p : σ14 (p) = some (.inl (11, [some (some (p + 1)), some (some (p + 2)), none, some (some (p + 3)), some (some (p + 4)), some (some (p + 5)), none, none, none, none, some (some (p + 6)), some (some (p + 7)), some none, some none, some none, some none, some none])) := by rw [hs14]; exact va_up_self _ _ _
  have hB14 : ∀ a, a < p → σ14 a = σ a := fun a ha => (ht14 a (by omega)).trans (hB13 a ha)
  refine g_aload_n (q := 63) dX11_init_62 rfl rfl ?_
  refine g_bipush (q := 65) (x := 120) dX11_init_63 (by decide) rfl ?_
  refine g_newi (q := 67) (n := 120) gl_arr (by decide) (by decide) (by decide) (by decide) dX11_init_65 rfl ?_
  refine g_nm (lim' := p + 9) (kc' := 8) (ks' := 3047) (by omega) (by omega) (by omega) ?_
  refine g_gs (fun σ15 hs15 => ?_)
  have ht15 : ∀ a, a ≠ p + 8 → σ15 a = σ14 a := fun a ha => by rw [hs15]; exact va_up_ne _ _ ha
  have hS15_p : σ15 (p) = some (.inl (11, [some (some (p + 1)), some (some (p + 2)), none, some (some (p + 3)), some (some (p + 4)), some (some (p + 5)), none, none, none, none, some (some (p + 6)), some (some (p + 7)), some none, some none, some none, some none, some none])) := (ht15 _ (by omega)).trans hS14_p
  have hS15_a1 : σ15 (p + 1) = some (.inr (.inl 3)) := (ht15 _ (by omega)).trans hS14_a1
  have hS15_a2 : σ15 (p + 2) = some (.inr (.inl 320)) := (ht15 _ (by omega)).trans hS14_a2
  have hS15_a3 : σ15 (p + 3) = some (.inr (.inl 1920)) := (ht15 _ (by omega)).trans hS14_a3
  have hS15_a4 : σ15 (p + 4) = some (.inr (.inl 324)) := (ht15 _ (by omega)).trans hS14_a4
  have hS15_a5 : σ15 (p + 5) = some (.inr (.inl 120)) := (ht15 _ (by omega)).trans hS14_a5
  have hS15_a6 : σ15 (p + 6) = some (.inr (.inl 120)) := (ht15 _ (by omega)).trans hS14_a6
  have hS15_a7 : σ15 (p + 7) = some (.inr (.inl 120)) := (ht15 _ (by omega)).trans hS14_a7
  have hS15_a8 : σ15 (p + 8) = some (.inr (.inl 120)) := by rw [hs15]; exact va_up_self _ _ _
  have hB15 : ∀ a, a < p → σ15 a = σ a := fun a ha => (ht15 a (by omega)).trans (hB14 a ha)
  refine g_gv (fun v8 hv8 => ?_)
  have hY8 : ∀ a, a < p → v8 a = v a := fun a ha => (show v8 a = v7 a by rw [hv8, gu_n _ _ (by omega)]).trans (hY7 a ha)
  have hZ8 : zr v8 (p) (p + 9) := fun a g1 g2 => by
    by_cases e : a = p + 8
    · rw [hv8, e, gu_s]
    · rw [hv8, gu_n _ _ e]; exact hZ7 a g1 (by omega)
  refine g_putR (q := 70) f_X11_31 rfl rfl hS15_p (Nat.le_of_ble_eq_true rfl) rfl rfl dX11_init_67 rfl ?_
  refine g_gs (fun σ16 hs16 => ?_)
  have ht16 : ∀ a, a ≠ p → σ16 a = σ15 a := fun a ha => by rw [hs16]; exact va_up_ne _ _ ha
  have hS16_a1 : σ16 (p + 1) = some (.inr (.inl 3)) := (ht16 _ (by omega)).trans hS15_a1
  have hS16_a2 : σ16 (p + 2) = some (.inr (.inl 320)) := (ht16 _ (by omega)).trans hS15_a2
  have hS16_a3 : σ16 (p + 3) = some (.inr (.inl 1920)) := (ht16 _ (by omega)).trans hS15_a3
  have hS16_a4 : σ16 (p + 4) = some (.inr (.inl 324)) := (ht16 _ (by omega)).trans hS15_a4
  have hS16_a5 : σ16 (p + 5) = some (.inr (.inl 120)) := (ht16 _ (by omega)).trans hS15_a5
  have hS16_a6 : σ16 (p + 6) = some (.inr (.inl 120)) := (ht16 _ (by omega)).trans hS15_a6
  have hS16_a7 : σ16 (p + 7) = some (.inr (.inl 120)) := (ht16 _ (by omega)).trans hS15_a7
  have hS16_a8 : σ16 (p + 8) = some (.inr (.inl 120)) := (ht16 _ (by omega)).trans hS15_a8
  have hS16_p : σ16 (p) = some (.inl (11, [some (some (p + 1)), some (some (p + 2)), none, some (some (p + 3)), some (some (p + 4)), some (some (p + 5)), none, none, none, none, some (some (p + 6)), some (some (p + 7)), some (some (p + 8)), some none, some none, some none, some none])) := by rw [hs16]; exact va_up_self _ _ _
  have hB16 : ∀ a, a < p → σ16 a = σ a := fun a ha => (ht16 a (by omega)).trans (hB15 a ha)
  refine g_aload_n (q := 71) dX11_init_70 rfl rfl ?_
  refine g_bipush (q := 73) (x := 120) dX11_init_71 (by decide) rfl ?_
  refine g_newi (q := 75) (n := 120) gl_arr (by decide) (by decide) (by decide) (by decide) dX11_init_73 rfl ?_
  refine g_nm (lim' := p + 10) (kc' := 9) (ks' := 3167) (by omega) (by omega) (by omega) ?_
  refine g_gs (fun σ17 hs17 => ?_)
  have ht17 : ∀ a, a ≠ p + 9 → σ17 a = σ16 a := fun a ha => by rw [hs17]; exact va_up_ne _ _ ha
  have hS17_p : σ17 (p) = some (.inl (11, [some (some (p + 1)), some (some (p + 2)), none, some (some (p + 3)), some (some (p + 4)), some (some (p + 5)), none, none, none, none, some (some (p + 6)), some (some (p + 7)), some (some (p + 8)), some none, some none, some none, some none])) := (ht17 _ (by omega)).trans hS16_p
  have hS17_a1 : σ17 (p + 1) = some (.inr (.inl 3)) := (ht17 _ (by omega)).trans hS16_a1
  have hS17_a2 : σ17 (p + 2) = some (.inr (.inl 320)) := (ht17 _ (by omega)).trans hS16_a2
  have hS17_a3 : σ17 (p + 3) = some (.inr (.inl 1920)) := (ht17 _ (by omega)).trans hS16_a3
  have hS17_a4 : σ17 (p + 4) = some (.inr (.inl 324)) := (ht17 _ (by omega)).trans hS16_a4
  have hS17_a5 : σ17 (p + 5) = some (.inr (.inl 120)) := (ht17 _ (by omega)).trans hS16_a5
  have hS17_a6 : σ17 (p + 6) = some (.inr (.inl 120)) := (ht17 _ (by omega)).trans hS16_a6
  have hS17_a7 : σ17 (p + 7) = some (.inr (.inl 120)) := (ht17 _ (by omega)).trans hS16_a7
  have hS17_a8 : σ17 (p + 8) = some (.inr (.inl 120)) := (ht17 _ (by omega)).trans hS16_a8
  have hS17_a9 : σ17 (p + 9) = some (.inr (.inl 120)) := by rw [hs17]; exact va_up_self _ _ _
  have hB17 : ∀ a, a < p → σ17 a = σ a := fun a ha => (ht17 a (by omega)).trans (hB16 a ha)
  refine g_gv (fun v9 hv9 => ?_)
  have hY9 : ∀ a, a < p → v9 a = v a := fun a ha => (show v9 a = v8 a by rw [hv9, gu_n _ _ (by omega)]).trans (hY8 a ha)
  have hZ9 : zr v9 (p) (p + 10) := fun a g1 g2 => by
    by_cases e : a = p + 9
    · rw [hv9, e, gu_s]
    · rw [hv9, gu_n _ _ e]; exact hZ8 a g1 (by omega)
  refine g_putR (q := 78) f_X11_34 rfl rfl hS17_p (Nat.le_of_ble_eq_true rfl) rfl rfl dX11_init_75 rfl ?_
  refine g_gs (fun σ18 hs18 => ?_)
  have ht18 : ∀ a, a ≠ p → σ18 a = σ17 a := fun a ha => by rw [hs18]; exact va_up_ne _ _ ha
  have hS18_a1 : σ18 (p + 1) = some (.inr (.inl 3)) := (ht18 _ (by omega)).trans hS17_a1
  have hS18_a2 : σ18 (p + 2) = some (.inr (.inl 320)) := (ht18 _ (by omega)).trans hS17_a2
  have hS18_a3 : σ18 (p + 3) = some (.inr (.inl 1920)) := (ht18 _ (by omega)).trans hS17_a3
  have hS18_a4 : σ18 (p + 4) = some (.inr (.inl 324)) := (ht18 _ (by omega)).trans hS17_a4
  have hS18_a5 : σ18 (p + 5) = some (.inr (.inl 120)) := (ht18 _ (by omega)).trans hS17_a5
  have hS18_a6 : σ18 (p + 6) = some (.inr (.inl 120)) := (ht18 _ (by omega)).trans hS17_a6
  have hS18_a7 : σ18 (p + 7) = some (.inr (.inl 120)) := (ht18 _ (by omega)).trans hS17_a7
  have hS18_a8 : σ18 (p + 8) = some (.inr (.inl 120)) := (ht18 _ (by omega)).trans hS17_a8
  have hS18_a9 : σ18 (p + 9) = some (.inr (.inl 120)) := (ht18 _ (by omega)).trans hS17_a9
  have hS18_p : σ18 (p) = some (.inl (11, [some (some (p + 1)), some (some (p + 2)), none, some (some (p + 3)), some (some (p + 4)), some (some (p + 5)), none, none, none, none, some (some (p + 6)), some (some (p + 7)), some (some (p + 8)), some (some (p + 9)), some none, some none, some none])) := by rw [hs18]; exact va_up_self _ _ _
  have hB18 : ∀ a, a < p → σ18 a = σ a := fun a ha => (ht18 a (by omega)).trans (hB17 a ha)
  refine g_aload_n (q := 79) dX11_init_78 rfl rfl ?_
  refine g_bipush (q := 81) (x := 120) dX11_init_79 (by decide) rfl ?_
  refine g_newi (q := 83) (n := 120) gl_arr (by decide) (by decide) (by decide) (by decide) dX11_init_81 rfl ?_
  refine g_nm (lim' := p + 11) (kc' := 10) (ks' := 3287) (by omega) (by omega) (by omega) ?_
  refine g_gs (fun σ19 hs19 => ?_)
  have ht19 : ∀ a, a ≠ p + 10 → σ19 a = σ18 a := fun a ha => by rw [hs19]; exact va_up_ne _ _ ha
  have hS19_p : σ19 (p) = some (.inl (11, [some (some (p + 1)), some (some (p + 2)), none, some (some (p + 3)), some (some (p + 4)), some (some (p + 5)), none, none, none, none, some (some (p + 6)), some (some (p + 7)), some (some (p + 8)), some (some (p + 9)), some none, some none, some none])) := (ht19 _ (by omega)).trans hS18_p
  have hS19_a1 : σ19 (p + 1) = some (.inr (.inl 3)) := (ht19 _ (by omega)).trans hS18_a1
  have hS19_a2 : σ19 (p + 2) = some (.inr (.inl 320)) := (ht19 _ (by omega)).trans hS18_a2
  have hS19_a3 : σ19 (p + 3) = some (.inr (.inl 1920)) := (ht19 _ (by omega)).trans hS18_a3
  have hS19_a4 : σ19 (p + 4) = some (.inr (.inl 324)) := (ht19 _ (by omega)).trans hS18_a4
  have hS19_a5 : σ19 (p + 5) = some (.inr (.inl 120)) := (ht19 _ (by omega)).trans hS18_a5
  have hS19_a6 : σ19 (p + 6) = some (.inr (.inl 120)) := (ht19 _ (by omega)).trans hS18_a6
  have hS19_a7 : σ19 (p + 7) = some (.inr (.inl 120)) := (ht19 _ (by omega)).trans hS18_a7
  have hS19_a8 : σ19 (p + 8) = some (.inr (.inl 120)) := (ht19 _ (by omega)).trans hS18_a8
  have hS19_a9 : σ19 (p + 9) = some (.inr (.inl 120)) := (ht19 _ (by omega)).trans hS18_a9
  have hS19_a10 : σ19 (p + 10) = some (.inr (.inl 120)) := by rw [hs19]; exact va_up_self _ _ _
  have hB19 : ∀ a, a < p → σ19 a = σ a := fun a ha => (ht19 a (by omega)).trans (hB18 a ha)
  refine g_gv (fun v10 hv10 => ?_)
  have hY10 : ∀ a, a < p → v10 a = v a := fun a ha => (show v10 a = v9 a by rw [hv10, gu_n _ _ (by omega)]).trans (hY9 a ha)
  have hZ10 : zr v10 (p) (p + 11) := fun a g1 g2 => by
    by_cases e : a = p + 10
    · rw [hv10, e, gu_s]
    · rw [hv10, gu_n _ _ e]; exact hZ9 a g1 (by omega)
  refine g_putR (q := 86) f_X11_37 rfl rfl hS19_p (Nat.le_of_ble_eq_true rfl) rfl rfl dX11_init_83 rfl ?_
  refine g_gs (fun σ20 hs20 => ?_)
  have ht20 : ∀ a, a ≠ p → σ20 a = σ19 a := fun a ha => by rw [hs20]; exact va_up_ne _ _ ha
  have hS20_a1 : σ20 (p + 1) = some (.inr (.inl 3)) := (ht20 _ (by omega)).trans hS19_a1
  have hS20_a2 : σ20 (p + 2) = some (.inr (.inl 320)) := (ht20 _ (by omega)).trans hS19_a2
  have hS20_a3 : σ20 (p + 3) = some (.inr (.inl 1920)) := (ht20 _ (by omega)).trans hS19_a3
  have hS20_a4 : σ20 (p + 4) = some (.inr (.inl 324)) := (ht20 _ (by omega)).trans hS19_a4
  have hS20_a5 : σ20 (p + 5) = some (.inr (.inl 120)) := (ht20 _ (by omega)).trans hS19_a5
  have hS20_a6 : σ20 (p + 6) = some (.inr (.inl 120)) := (ht20 _ (by omega)).trans hS19_a6
  have hS20_a7 : σ20 (p + 7) = some (.inr (.inl 120)) := (ht20 _ (by omega)).trans hS19_a7
  have hS20_a8 : σ20 (p + 8) = some (.inr (.inl 120)) := (ht20 _ (by omega)).trans hS19_a8
  have hS20_a9 : σ20 (p + 9) = some (.inr (.inl 120)) := (ht20 _ (by omega)).trans hS19_a9
  have hS20_a10 : σ20 (p + 10) = some (.inr (.inl 120)) := (ht20 _ (by omega)).trans hS19_a10
  have hS20_p : σ20 (p) = some (.inl (11, [some (some (p + 1)), some (some (p + 2)), none, some (some (p + 3)), some (some (p + 4)), some (some (p + 5)), none, none, none, none, some (some (p + 6)), some (some (p + 7)), some (some (p + 8)), some (some (p + 9)), some (some (p + 10)), some none, some none])) := by rw [hs20]; exact va_up_self _ _ _
  have hB20 : ∀ a, a < p → σ20 a = σ a := fun a ha => (ht20 a (by omega)).trans (hB19 a ha)
  refine g_aload_n (q := 87) dX11_init_86 rfl rfl ?_
  refine g_iconst (q := 88) (x := 5) dX11_init_87 (by decide) rfl ?_
  refine g_newi (q := 90) (n := 5) gl_arr (by decide) (by decide) (by decide) (by decide) dX11_init_88 rfl ?_
  refine g_nm (lim' := p + 12) (kc' := 11) (ks' := 3292) (by omega) (by omega) (by omega) ?_
  refine g_gs (fun σ21 hs21 => ?_)
  have ht21 : ∀ a, a ≠ p + 11 → σ21 a = σ20 a := fun a ha => by rw [hs21]; exact va_up_ne _ _ ha
  have hS21_p : σ21 (p) = some (.inl (11, [some (some (p + 1)), some (some (p + 2)), none, some (some (p + 3)), some (some (p + 4)), some (some (p + 5)), none, none, none, none, some (some (p + 6)), some (some (p + 7)), some (some (p + 8)), some (some (p + 9)), some (some (p + 10)), some none, some none])) := (ht21 _ (by omega)).trans hS20_p
  have hS21_a1 : σ21 (p + 1) = some (.inr (.inl 3)) := (ht21 _ (by omega)).trans hS20_a1
  have hS21_a2 : σ21 (p + 2) = some (.inr (.inl 320)) := (ht21 _ (by omega)).trans hS20_a2
  have hS21_a3 : σ21 (p + 3) = some (.inr (.inl 1920)) := (ht21 _ (by omega)).trans hS20_a3
  have hS21_a4 : σ21 (p + 4) = some (.inr (.inl 324)) := (ht21 _ (by omega)).trans hS20_a4
  have hS21_a5 : σ21 (p + 5) = some (.inr (.inl 120)) := (ht21 _ (by omega)).trans hS20_a5
  have hS21_a6 : σ21 (p + 6) = some (.inr (.inl 120)) := (ht21 _ (by omega)).trans hS20_a6
  have hS21_a7 : σ21 (p + 7) = some (.inr (.inl 120)) := (ht21 _ (by omega)).trans hS20_a7
  have hS21_a8 : σ21 (p + 8) = some (.inr (.inl 120)) := (ht21 _ (by omega)).trans hS20_a8
  have hS21_a9 : σ21 (p + 9) = some (.inr (.inl 120)) := (ht21 _ (by omega)).trans hS20_a9
  have hS21_a10 : σ21 (p + 10) = some (.inr (.inl 120)) := (ht21 _ (by omega)).trans hS20_a10
  have hS21_a11 : σ21 (p + 11) = some (.inr (.inl 5)) := by rw [hs21]; exact va_up_self _ _ _
  have hB21 : ∀ a, a < p → σ21 a = σ a := fun a ha => (ht21 a (by omega)).trans (hB20 a ha)
  refine g_gv (fun v11 hv11 => ?_)
  have hY11 : ∀ a, a < p → v11 a = v a := fun a ha => (show v11 a = v10 a by rw [hv11, gu_n _ _ (by omega)]).trans (hY10 a ha)
  have hZ11 : zr v11 (p) (p + 12) := fun a g1 g2 => by
    by_cases e : a = p + 11
    · rw [hv11, e, gu_s]
    · rw [hv11, gu_n _ _ e]; exact hZ10 a g1 (by omega)
  refine g_putR (q := 93) f_X11_40 rfl rfl hS21_p (Nat.le_of_ble_eq_true rfl) rfl rfl dX11_init_90 rfl ?_
  refine g_gs (fun σ22 hs22 => ?_)
  have ht22 : ∀ a, a ≠ p → σ22 a = σ21 a := fun a ha => by rw [hs22]; exact va_up_ne _ _ ha
  have hS22_a1 : σ22 (p + 1) = some (.inr (.inl 3)) := (ht22 _ (by omega)).trans hS21_a1
  have hS22_a2 : σ22 (p + 2) = some (.inr (.inl 320)) := (ht22 _ (by omega)).trans hS21_a2
  have hS22_a3 : σ22 (p + 3) = some (.inr (.inl 1920)) := (ht22 _ (by omega)).trans hS21_a3
  have hS22_a4 : σ22 (p + 4) = some (.inr (.inl 324)) := (ht22 _ (by omega)).trans hS21_a4
  have hS22_a5 : σ22 (p + 5) = some (.inr (.inl 120)) := (ht22 _ (by omega)).trans hS21_a5
  have hS22_a6 : σ22 (p + 6) = some (.inr (.inl 120)) := (ht22 _ (by omega)).trans hS21_a6
  have hS22_a7 : σ22 (p + 7) = some (.inr (.inl 120)) := (ht22 _ (by omega)).trans hS21_a7
  have hS22_a8 : σ22 (p + 8) = some (.inr (.inl 120)) := (ht22 _ (by omega)).trans hS21_a8
  have hS22_a9 : σ22 (p + 9) = some (.inr (.inl 120)) := (ht22 _ (by omega)).trans hS21_a9
  have hS22_a10 : σ22 (p + 10) = some (.inr (.inl 120)) := (ht22 _ (by omega)).trans hS21_a10
  have hS22_a11 : σ22 (p + 11) = some (.inr (.inl 5)) := (ht22 _ (by omega)).trans hS21_a11
  have hS22_p : σ22 (p) = some (.inl (11, [some (some (p + 1)), some (some (p + 2)), none, some (some (p + 3)), some (some (p + 4)), some (some (p + 5)), none, none, none, none, some (some (p + 6)), some (some (p + 7)), some (some (p + 8)), some (some (p + 9)), some (some (p + 10)), some (some (p + 11)), some none])) := by rw [hs22]; exact va_up_self _ _ _
  have hB22 : ∀ a, a < p → σ22 a = σ a := fun a ha => (ht22 a (by omega)).trans (hB21 a ha)
  refine g_aload_n (q := 94) dX11_init_93 rfl rfl ?_
  refine g_iconst (q := 95) (x := 5) dX11_init_94 (by decide) rfl ?_
  refine g_newi (q := 97) (n := 5) gl_arr (by decide) (by decide) (by decide) (by decide) dX11_init_95 rfl ?_
  refine g_nm (lim' := p + 13) (kc' := 12) (ks' := 3297) (by omega) (by omega) (by omega) ?_
  refine g_gs (fun σ23 hs23 => ?_)
  have ht23 : ∀ a, a ≠ p + 12 → σ23 a = σ22 a := fun a ha => by rw [hs23]; exact va_up_ne _ _ ha
  have hS23_p : σ23 (p) = some (.inl (11, [some (some (p + 1)), some (some (p + 2)), none, some (some (p + 3)), some (some (p + 4)), some (some (p + 5)), none, none, none, none, some (some (p + 6)), some (some (p + 7)), some (some (p + 8)), some (some (p + 9)), some (some (p + 10)), some (some (p + 11)), some none])) := (ht23 _ (by omega)).trans hS22_p
  have hS23_a1 : σ23 (p + 1) = some (.inr (.inl 3)) := (ht23 _ (by omega)).trans hS22_a1
  have hS23_a2 : σ23 (p + 2) = some (.inr (.inl 320)) := (ht23 _ (by omega)).trans hS22_a2
  have hS23_a3 : σ23 (p + 3) = some (.inr (.inl 1920)) := (ht23 _ (by omega)).trans hS22_a3
  have hS23_a4 : σ23 (p + 4) = some (.inr (.inl 324)) := (ht23 _ (by omega)).trans hS22_a4
  have hS23_a5 : σ23 (p + 5) = some (.inr (.inl 120)) := (ht23 _ (by omega)).trans hS22_a5
  have hS23_a6 : σ23 (p + 6) = some (.inr (.inl 120)) := (ht23 _ (by omega)).trans hS22_a6
  have hS23_a7 : σ23 (p + 7) = some (.inr (.inl 120)) := (ht23 _ (by omega)).trans hS22_a7
  have hS23_a8 : σ23 (p + 8) = some (.inr (.inl 120)) := (ht23 _ (by omega)).trans hS22_a8
  have hS23_a9 : σ23 (p + 9) = some (.inr (.inl 120)) := (ht23 _ (by omega)).trans hS22_a9
  have hS23_a10 : σ23 (p + 10) = some (.inr (.inl 120)) := (ht23 _ (by omega)).trans hS22_a10
  have hS23_a11 : σ23 (p + 11) = some (.inr (.inl 5)) := (ht23 _ (by omega)).trans hS22_a11
  have hS23_a12 : σ23 (p + 12) = some (.inr (.inl 5)) := by rw [hs23]; exact va_up_self _ _ _
  have hB23 : ∀ a, a < p → σ23 a = σ a := fun a ha => (ht23 a (by omega)).trans (hB22 a ha)
  refine g_gv (fun v12 hv12 => ?_)
  have hY12 : ∀ a, a < p → v12 a = v a := fun a ha => (show v12 a = v11 a by rw [hv12, gu_n _ _ (by omega)]).trans (hY11 a ha)
  have hZ12 : zr v12 (p) (p + 13) := fun a g1 g2 => by
    by_cases e : a = p + 12
    · rw [hv12, e, gu_s]
    · rw [hv12, gu_n _ _ e]; exact hZ11 a g1 (by omega)
  refine g_putR (q := 100) f_X11_43 rfl rfl hS23_p (Nat.le_of_ble_eq_true rfl) rfl rfl dX11_init_97 rfl ?_
  refine g_gs (fun σ24 hs24 => ?_)
  have ht24 : ∀ a, a ≠ p → σ24 a = σ23 a := fun a ha => by rw [hs24]; exact va_up_ne _ _ ha
  have hS24_a1 : σ24 (p + 1) = some (.inr (.inl 3)) := (ht24 _ (by omega)).trans hS23_a1
  have hS24_a2 : σ24 (p + 2) = some (.inr (.inl 320)) := (ht24 _ (by omega)).trans hS23_a2
  have hS24_a3 : σ24 (p + 3) = some (.inr (.inl 1920)) := (ht24 _ (by omega)).trans hS23_a3
  have hS24_a4 : σ24 (p + 4) = some (.inr (.inl 324)) := (ht24 _ (by omega)).trans hS23_a4
  have hS24_a5 : σ24 (p + 5) = some (.inr (.inl 120)) := (ht24 _ (by omega)).trans hS23_a5
  have hS24_a6 : σ24 (p + 6) = some (.inr (.inl 120)) := (ht24 _ (by omega)).trans hS23_a6
  have hS24_a7 : σ24 (p + 7) = some (.inr (.inl 120)) := (ht24 _ (by omega)).trans hS23_a7
  have hS24_a8 : σ24 (p + 8) = some (.inr (.inl 120)) := (ht24 _ (by omega)).trans hS23_a8
  have hS24_a9 : σ24 (p + 9) = some (.inr (.inl 120)) := (ht24 _ (by omega)).trans hS23_a9
  have hS24_a10 : σ24 (p + 10) = some (.inr (.inl 120)) := (ht24 _ (by omega)).trans hS23_a10
  have hS24_a11 : σ24 (p + 11) = some (.inr (.inl 5)) := (ht24 _ (by omega)).trans hS23_a11
  have hS24_a12 : σ24 (p + 12) = some (.inr (.inl 5)) := (ht24 _ (by omega)).trans hS23_a12
  have hS24_p : σ24 (p) = some (.inl (11, [some (some (p + 1)), some (some (p + 2)), none, some (some (p + 3)), some (some (p + 4)), some (some (p + 5)), none, none, none, none, some (some (p + 6)), some (some (p + 7)), some (some (p + 8)), some (some (p + 9)), some (some (p + 10)), some (some (p + 11)), some (some (p + 12))])) := by rw [hs24]; exact va_up_self _ _ _
  have hB24 : ∀ a, a < p → σ24 a = σ a := fun a ha => (ht24 a (by omega)).trans (hB23 a ha)
  have hms : msh σ24 p := ⟨hS24_p, hS24_a1, hS24_a2, hS24_a3, hS24_a4, hS24_a5, hS24_a6, hS24_a7, hS24_a8, hS24_a9, hS24_a10, hS24_a11, hS24_a12⟩
  refine g_aload_n (q := 101) dX11_init_100 rfl rfl ?_
  refine g_iconst (q := 102) (x := 3) dX11_init_101 (by decide) rfl ?_
  refine c_Vn (q := 105) (p_X11_lays (n := 3) hms) k_X11_46 hS24_p rfl (by decide) rfl rfl (Nat.le_of_ble_eq_true rfl) rfl rfl (by decide) (by decide) dX11_init_102 rfl ?_
  rintro w hw
  have hzz : ∀ a k, p ≤ a → a < p + 13 → v12 a k = 0 := fun a k g1 g2 => by rw [hZ12 a g1 g2]
  have o : ∀ a, a ≠ p + 2 → w a = v12 a := fun a ha => by rw [hw, gu_n _ _ ha]
  have hMG : ∀ A, nwr 3 A → MG w p A 0 [] [] (fun _ => 0) := by
    intro A hA
    have es : sno A = 0 := by unfold sno; rw [hA.2.2.2.2.1]; rfl
    refine ⟨by rw [es, hw, gu_s]; exact MR_lay hA, ⟨?_, ?_, ?_⟩, ?_, ⟨by simp, fun i q hq => absurd hq (by simp)⟩, ?_, by simp, fun i hi => absurd hi (by simp)⟩
    · rw [o _ (by omega)]; exact hzz _ _ (by omega) (by omega)
    · rw [o _ (by omega)]; exact hzz _ _ (by omega) (by omega)
    · rw [o _ (by omega)]; exact hzz _ _ (by omega) (by omega)
    · rw [o _ (by omega)]; exact hzz _ _ (by omega) (by omega)
    · rw [o _ (by omega)]; exact hzz _ _ (by omega) (by omega)
  exact r_n dX11_init_105 rfl rfl rfl rfl ⟨hms, ⟨hB24, fun a ha => (o a (by omega)).trans (hY12 a ha)⟩, hMG⟩
