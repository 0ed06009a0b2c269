theorem g6_ge {i : Nat} (hi : i ≤ 6) : 6 ≤ nI i ↔ i = 6 := by
  obtain rfl | rfl | rfl | rfl | rfl | rfl | rfl : i = 0 ∨ i = 1 ∨ i = 2 ∨ i = 3 ∨ i = 4 ∨ i = 5 ∨ i = 6 := by omega
  all_goals decide
theorem g5_gt {i : Nat} (hi : i ≤ 5) : 4 < nI i ↔ i = 5 := by
  obtain rfl | rfl | rfl | rfl | rfl | rfl : i = 0 ∨ i = 1 ∨ i = 2 ∨ i = 3 ∨ i = 4 ∨ i = 5 := by omega
  all_goals decide

set_option maxRecDepth 100000 in
set_option maxHeartbeats 4000000 in
theorem p_X4_init {X : gj_X}  {σ : gj_H} {v : gj_V} {lim p : Nat} (hl : lim = p + 1) (hS0_p : σ p = some (.inl (4, [some none]))) (hz : v p = fun _ => 0) : gj_E X 1 m_X4_init [.ref p] lim σ v (q_n (p + 14) (fun σ' v' => ish σ' p ∧ kp σ σ' v v' p ∧ zr v' p (p + 14))) := by
  subst hl
  have hB0 : ∀ a, a < p → σ a = σ a := fun _ _ => rfl
  have hY0 : ∀ a, a < p → v a = v a := fun _ _ => rfl
  have hZ0 : zr v p (p + 1) := fun a g1 g2 => by
    rw [show a = p by omega]; exact hz
  have lp : ∀ (k i : Nat) (σ0 : gj_H) (v0 : gj_V), i + k = 6 → (σ0 (p) = some (.inl (4, [some (some (p + 1))]))) → (σ0 (p + 1) = some (.inr (.inr (4, pra 6 (p + 2) 2 i)))) → (∀ b, b < i → rsh σ0 (p + 2 + 2 * b)) → (∀ a, a < p → σ0 a = σ a) → (∀ a, a < p → v0 a = v a) → (zr v0 p (p + 2 + 2 * i)) → gj_G X 1 m_X4_init (q_n (p + 14) (fun σ' v' => ish σ' p ∧ kp σ σ' v v' p ∧ zr v' p (p + 14))) (p + 2 + 2 * i) σ0 v0 (1 + 2 * i) (6 + 8 * i) 15 [some (.ref p), some (.int (nI i))] [] := by
    intro k
    induction k with
    | zero =>
      intro i σ0 v0 hik hS0_p hS0_arr hS0_all hB0 hY0 hZ0
      have hi : i = 6 := by omega
      subst hi
      refine g_iload_n (q := 16) dX4_init_15 rfl rfl ?_
      refine g_bipush (q := 18) (x := 6) dX4_init_16 (by decide) rfl ?_
      refine g_icmpge (t := 40) (q := 21) dX4_init_18 (by decide) rfl (fun h18 => ?_) (fun h18 => ?_)
      · refine r_n dX4_init_40 rfl rfl rfl (by omega) ⟨⟨hS0_p, ?_, hS0_all⟩, ⟨hB0, hY0⟩, hZ0⟩
        rw [hS0_arr, pra_n]
      · exact absurd ((g6_ge (by omega)).mpr (by omega)) h18
    | succ k ih =>
      intro i σ0 v0 hik hS0_p hS0_arr hS0_all hB0 hY0 hZ0
      refine g_iload_n (q := 16) dX4_init_15 rfl rfl ?_
      refine g_bipush (q := 18) (x := 6) dX4_init_16 (by decide) rfl ?_
      refine g_icmpge (t := 40) (q := 21) dX4_init_18 (by decide) rfl (fun h18 => ?_) (fun h18 => ?_)
      · exact absurd ((g6_ge (by omega)).mp h18) (by omega)
      · refine g_aload_n (q := 22) dX4_init_21 rfl rfl ?_
        refine g_getR (q := 25) f_X4_11 hS0_p rfl dX4_init_22 rfl ?_
        refine g_iload_n (q := 26) dX4_init_25 rfl rfl ?_
        refine g_new (q := 29) n_X4_9 (show 1 + 2 * i + 1 ≤ 13 by omega) (show 6 + 8 * i + 2 ≤ 54 by omega) dX4_init_26 rfl ?_
        refine g_nm (lim' := p + 2 + 2 * i + 1) (kc' := 1 + 2 * i + 1) (ks' := 6 + 8 * i + 2) (by omega) (by omega) (by omega) ?_
        refine g_gs (fun σ1 hs1 => ?_)
        have ht1 : ∀ a, a ≠ p + 2 + 2 * i → σ1 a = σ0 a := fun a ha => by rw [hs1]; exact va_up_ne _ _ ha
        have hS1_p : σ1 (p) = some (.inl (4, [some (some (p + 1))])) := (ht1 _ (by omega)).trans hS0_p
        have hS1_arr : σ1 (p + 1) = some (.inr (.inr (4, pra 6 (p + 2) 2 i))) := (ht1 _ (by omega)).trans hS0_arr
        have hS1_all : ∀ b, b < i → rsh σ1 (p + 2 + 2 * b) := fun b hb => rsh_k (hS0_all b hb) (fun a g1 g2 => ht1 a (by omega))
        have hS1_o : σ1 (p + 2 + 2 * i) = some (.inl (5, [some none, none])) := by rw [hs1]; exact va_up_self _ _ _
        have hB1 : ∀ a, a < p → σ1 a = σ a := fun a ha => (ht1 a (by omega)).trans (hB0 a ha)
        refine g_gv (fun v1 hv1 => ?_)
        have hY1 : ∀ a, a < p → v1 a = v a := fun a ha => (show v1 a = v0 a by rw [hv1, gu_n _ _ (by omega)]).trans (hY0 a ha)
        have hZ1 : zr v1 (p) (p + 2 + 2 * i + 1) := fun a g1 g2 => by
          by_cases e : a = p + 2 + 2 * i
          · rw [hv1, e, gu_s]
          · rw [hv1, gu_n _ _ e]; exact hZ0 a g1 (by omega)
        refine g_dup (q := 30) dX4_init_29 rfl rfl ?_
        refine c_I (q := 33) (p_X5_init (p := p + 2 + 2 * i) (by omega) hS1_o (hZ1 _ (by omega) (by omega))) k_X4_17 (by decide) rfl rfl (Nat.le_of_ble_eq_true rfl) (nc := 1) (ns := 6) rfl rfl (show 1 + 2 * i + 1 + 1 ≤ 13 by omega) (show 6 + 8 * i + 2 + 6 ≤ 54 by omega) dX4_init_30 rfl ?_
        rintro σ2 v2 ⟨hq2, ⟨hk2, hj2⟩, hzz2⟩
        refine g_nm (lim' := p + 2 + 2 * i + 2) (kc' := 1 + 2 * i + 2) (ks' := 6 + 8 * i + 8) (by omega) (by omega) (by omega) ?_
        have ht2 : ∀ a, a < p + 2 + 2 * i → σ2 a = σ1 a := hk2
        have hS2_p : σ2 (p) = some (.inl (4, [some (some (p + 1))])) := (ht2 _ (by omega)).trans hS1_p
        have hS2_arr : σ2 (p + 1) = some (.inr (.inr (4, pra 6 (p + 2) 2 i))) := (ht2 _ (by omega)).trans hS1_arr
        have hS2_all : ∀ b, b < i → rsh σ2 (p + 2 + 2 * b) := fun b hb => rsh_k (hS1_all b hb) (fun a g1 g2 => ht2 a (by omega))
        have hS2_r : rsh σ2 (p + 2 + 2 * i) := hq2
        have hB2 : ∀ a, a < p → σ2 a = σ a := fun a ha => (ht2 a (by omega)).trans (hB1 a ha)
        have hY2 : ∀ a, a < p → v2 a = v a := fun a ha => (hj2 a (by omega)).trans (hY1 a ha)
        have hZ2 : zr v2 (p) (p + 2 + 2 * i + 2) := fun a g1 g2 => by
          by_cases e : a < p + 2 + 2 * i
          · rw [hj2 a e]; exact hZ1 a g1 (by omega)
          · exact hzz2 a (by omega) (by omega)
        refine g_aast (q := 34) (k0 := 4) (z := (RX5, TX5, 2)) hS2_arr rfl rfl (by rw [pra_l]; omega) (by rw [pra_l]; decide) hS2_r.1 rfl dX4_init_33 rfl ?_
        refine g_gs (fun σ3 hs3 => ?_)
        have ht3 : ∀ a, a ≠ p + 1 → σ3 a = σ2 a := fun a ha => by rw [hs3]; exact va_up_ne _ _ ha
        have hS3_p : σ3 (p) = some (.inl (4, [some (some (p + 1))])) := (ht3 _ (by omega)).trans hS2_p
        have hS3_all : ∀ b, b < i → rsh σ3 (p + 2 + 2 * b) := fun b hb => rsh_k (hS2_all b hb) (fun a g1 g2 => ht3 a (by omega))
        have hS3_r : rsh σ3 (p + 2 + 2 * i) := rsh_k hS2_r (fun a g1 g2 => ht3 a (by omega))
        have hS3_arr : σ3 (p + 1) = some (.inr (.inr (4, pra 6 (p + 2) 2 (i + 1)))) := by rw [hs3, ← pra_s]; exact va_up_self _ _ _
        have hB3 : ∀ a, a < p → σ3 a = σ a := fun a ha => (ht3 a (by omega)).trans (hB2 a ha)
        refine g_iinc (q := 37) (y := nI (i + 1)) dX4_init_34 rfl (gn_inc i) rfl rfl rfl rfl ?_
        dsimp only [List.set]
        refine g_goto (q := 15) dX4_init_37 (by decide) ?_
        refine g_nm (lim' := p + 2 + 2 * (i + 1)) (kc' := 1 + 2 * (i + 1)) (ks' := 6 + 8 * (i + 1)) (by omega) (by omega) (by omega) ?_
        refine ih (i + 1) σ3 v2 (by omega) ?_ ?_ ?_ ?_ ?_ ?_
        · exact hS3_p
        · exact hS3_arr
        · exact (fun b hb => by
            rcases Nat.lt_or_ge b i with g | g
            · exact hS3_all b g
            · rw [show b = i by omega]; exact hS3_r)
        · exact hB3
        · exact hY2
        · exact (by rw [show p + 2 + 2 * (i + 1) = p + 2 + 2 * i + 2 by omega]; exact hZ2)
  refine gj_E_at (L := [some (.ref p), none]) (k := 1) rfl (by decide) rfl ?_
  refine g_aload_n (q := 1) dX4_init_0 rfl rfl ?_
  refine g_oinit (q := 4) k_X4_3 (by decide) dX4_init_1 rfl ?_
  refine g_aload_n (q := 5) dX4_init_4 rfl rfl ?_
  refine g_bipush (q := 7) (x := 6) dX4_init_5 (by decide) rfl ?_
  refine g_anew (q := 10) (n := 6) (k0 := 4) na_X4_9 (List.mem_of_getElem? (i := 3) rfl) rfl (by decide) (by decide) (by decide) (by decide) dX4_init_7 rfl ?_
  refine g_nm (lim' := p + 2) (kc' := 1) (ks' := 6) (by omega) (by omega) (by omega) ?_
  refine g_gs (fun σ1 hs1 => ?_)
  have ht1 : ∀ a, a ≠ p + 1 → σ1 a = σ a := fun a ha => by rw [hs1]; exact va_up_ne _ _ ha
  have hS1_p : σ1 (p) = some (.inl (4, [some none])) := (ht1 _ (by omega)).trans hS0_p
  have hS1_arr : σ1 (p + 1) = some (.inr (.inr (4, List.replicate 6 none))) := by rw [hs1]; exact va_up_self _ _ _
  have hB1 : ∀ a, a < p → σ1 a = σ a := fun a ha => (ht1 a (by omega)).trans (hB0 a ha)
  refine g_gv (fun v1 hv1 => ?_)
  have hY1 : ∀ a, a < p → v1 a = v a := fun a ha => (show v1 a = v a by rw [hv1, gu_n _ _ (by omega)]).trans (hY0 a ha)
  have hZ1 : zr v1 (p) (p + 2) := fun a g1 g2 => by
    by_cases e : a = p + 1
    · rw [hv1, e, gu_s]
    · rw [hv1, gu_n _ _ e]; exact hZ0 a g1 (by omega)
  refine g_putR (q := 13) f_X4_11 rfl rfl hS1_p (Nat.le_of_ble_eq_true rfl) rfl rfl dX4_init_10 rfl ?_
  refine g_gs (fun σ2 hs2 => ?_)
  have ht2 : ∀ a, a ≠ p → σ2 a = σ1 a := fun a ha => by rw [hs2]; exact va_up_ne _ _ ha
  have hS2_arr : σ2 (p + 1) = some (.inr (.inr (4, List.replicate 6 none))) := (ht2 _ (by omega)).trans hS1_arr
  have hS2_p : σ2 (p) = some (.inl (4, [some (some (p + 1))])) := by rw [hs2]; exact va_up_self _ _ _
  have hB2 : ∀ a, a < p → σ2 a = σ a := fun a ha => (ht2 a (by omega)).trans (hB1 a ha)
  refine g_iconst (q := 14) (x := 0) dX4_init_13 (by decide) rfl ?_
  refine g_istore_n (q := 15) dX4_init_14 rfl rfl rfl rfl ?_
  dsimp only [List.set]
  refine g_nm (lim' := p + 2 + 2 * 0) (kc' := 1 + 2 * 0) (ks' := 6 + 8 * 0) (by omega) (by omega) (by omega) ?_
  refine lp 6 0 σ2 v1 (by omega) ?_ ?_ ?_ ?_ ?_ ?_
  · exact hS2_p
  · rw [← pra_0]; exact hS2_arr
  · exact fun b hb => absurd hb (by omega)
  · exact hB2
  · exact hY1
  · rw [show p + 2 + 2 * 0 = p + 2 by omega]; exact hZ1

set_option maxRecDepth 100000 in
set_option maxHeartbeats 4000000 in
theorem p_X6_init {X : gj_X}  {σ : gj_H} {v : gj_V} {x f : Nat} {lim p : Nat} (hl : lim = p + 1) (hS0_p : σ p = some (.inl (6, [some none, some none, some none, some none, none, none, none, none]))) (hz : v p = fun _ => 0) : gj_E X 2 m_X6_init [.ref p, .ref x, .ref f] lim σ v (q_n (p + 73) (fun σ' v' => nsh σ' p x f ∧ kp σ σ' v v' p ∧ zr v' p (p + 73))) := by
  subst hl
  have hB0 : ∀ a, a < p → σ a = σ a := fun _ _ => rfl
  have hY0 : ∀ a, a < p → v a = v a := fun _ _ => rfl
  have hZ0 : zr v p (p + 1) := fun a g1 g2 => by
    rw [show a = p by omega]; exact hz
  have lp : ∀ (k i : Nat) (σ0 : gj_H) (v0 : gj_V), i + k = 5 → (σ0 (p) = some (.inl (6, [some (some (p + 1)), some (some (p + 2)), some (some x), some (some f), none, none, none, none]))) → (σ0 (p + 2) = some (.inr (.inl 5))) → (σ0 (p + 1) = some (.inr (.inr (3, pra 5 (p + 3) 14 i)))) → (∀ b, b < i → ish σ0 (p + 3 + 14 * b)) → (∀ a, a < p → σ0 a = σ a) → (∀ a, a < p → v0 a = v a) → (zr v0 p (p + 3 + 14 * i)) → gj_G X 2 m_X6_init (q_n (p + 73) (fun σ' v' => nsh σ' p x f ∧ kp σ σ' v v' p ∧ zr v' p (p + 73))) (p + 3 + 14 * i) σ0 v0 (2 + 14 * i) (10 + 55 * i) 31 [some (.ref p), some (.ref x), some (.ref f), some (.int (nI i))] [] := by
    intro k
    induction k with
    | zero =>
      intro i σ0 v0 hik hS0_p hS0_ia hS0_arr hS0_all hB0 hY0 hZ0
      have hi : i = 5 := by omega
      subst hi
      refine g_iload_n (q := 32) dX6_init_31 rfl rfl ?_
      refine g_iconst (q := 33) (x := 4) dX6_init_32 (by decide) rfl ?_
      refine g_icmpgt (t := 55) (q := 36) dX6_init_33 (by decide) rfl (fun h33 => ?_) (fun h33 => ?_)
      · refine r_n dX6_init_55 rfl rfl rfl (by omega) ⟨⟨hS0_p, ?_, hS0_ia, hS0_all⟩, ⟨hB0, hY0⟩, hZ0⟩
        rw [hS0_arr, pra_n]
      · exact absurd ((g5_gt (by omega)).mpr (by omega)) h33
    | succ k ih =>
      intro i σ0 v0 hik hS0_p hS0_ia hS0_arr hS0_all hB0 hY0 hZ0
      refine g_iload_n (q := 32) dX6_init_31 rfl rfl ?_
      refine g_iconst (q := 33) (x := 4) dX6_init_32 (by decide) rfl ?_
      refine g_icmpgt (t := 55) (q := 36) dX6_init_33 (by decide) rfl (fun h33 => ?_) (fun h33 => ?_)
      · exact absurd ((g5_gt (by omega)).mp h33) (by omega)
      · refine g_aload_n (q := 37) dX6_init_36 rfl rfl ?_
        refine g_getR (q := 40) f_X6_11 hS0_p rfl dX6_init_37 rfl ?_
        refine g_iload_n (q := 41) dX6_init_40 rfl rfl ?_
        refine g_new (q := 44) n_X6_9 (show 2 + 14 * i + 1 ≤ 72 by omega) (show 10 + 55 * i + 1 ≤ 285 by omega) dX6_init_41 rfl ?_
        refine g_nm (lim' := p + 3 + 14 * i + 1) (kc' := 2 + 14 * i + 1) (ks' := 10 + 55 * i + 1) (by omega) (by omega) (by omega) ?_
        refine g_gs (fun σ1 hs1 => ?_)
        have ht1 : ∀ a, a ≠ p + 3 + 14 * i → σ1 a = σ0 a := fun a ha => by rw [hs1]; exact va_up_ne _ _ ha
        have hS1_p : σ1 (p) = some (.inl (6, [some (some (p + 1)), some (some (p + 2)), some (some x), some (some f), none, none, none, none])) := (ht1 _ (by omega)).trans hS0_p
        have hS1_ia : σ1 (p + 2) = some (.inr (.inl 5)) := (ht1 _ (by omega)).trans hS0_ia
        have hS1_arr : σ1 (p + 1) = some (.inr (.inr (3, pra 5 (p + 3) 14 i))) := (ht1 _ (by omega)).trans hS0_arr
        have hS1_all : ∀ b, b < i → ish σ1 (p + 3 + 14 * b) := fun b hb => ish_k (hS0_all b hb) (fun a g1 g2 => ht1 a (by omega))
        have hS1_o : σ1 (p + 3 + 14 * i) = some (.inl (4, [some none])) := by rw [hs1]; exact va_up_self _ _ _
        have hB1 : ∀ a, a < p → σ1 a = σ a := fun a ha => (ht1 a (by omega)).trans (hB0 a ha)
        refine g_gv (fun v1 hv1 => ?_)
        have hY1 : ∀ a, a < p → v1 a = v a := fun a ha => (show v1 a = v0 a by rw [hv1, gu_n _ _ (by omega)]).trans (hY0 a ha)
        have hZ1 : zr v1 (p) (p + 3 + 14 * i + 1) := fun a g1 g2 => by
          by_cases e : a = p + 3 + 14 * i
          · rw [hv1, e, gu_s]
          · rw [hv1, gu_n _ _ e]; exact hZ0 a g1 (by omega)
        refine g_dup (q := 45) dX6_init_44 rfl rfl ?_
        refine c_I (q := 48) (p_X4_init (p := p + 3 + 14 * i) (by omega) hS1_o (hZ1 _ (by omega) (by omega))) k_X6_29 (by decide) rfl rfl (Nat.le_of_ble_eq_true rfl) (nc := 13) (ns := 54) rfl rfl (show 2 + 14 * i + 1 + 13 ≤ 72 by omega) (show 10 + 55 * i + 1 + 54 ≤ 285 by omega) dX6_init_45 rfl ?_
        rintro σ2 v2 ⟨hq2, ⟨hk2, hj2⟩, hzz2⟩
        refine g_nm (lim' := p + 3 + 14 * i + 14) (kc' := 2 + 14 * i + 14) (ks' := 10 + 55 * i + 55) (by omega) (by omega) (by omega) ?_
        have ht2 : ∀ a, a < p + 3 + 14 * i → σ2 a = σ1 a := hk2
        have hS2_p : σ2 (p) = some (.inl (6, [some (some (p + 1)), some (some (p + 2)), some (some x), some (some f), none, none, none, none])) := (ht2 _ (by omega)).trans hS1_p
        have hS2_ia : σ2 (p + 2) = some (.inr (.inl 5)) := (ht2 _ (by omega)).trans hS1_ia
        have hS2_arr : σ2 (p + 1) = some (.inr (.inr (3, pra 5 (p + 3) 14 i))) := (ht2 _ (by omega)).trans hS1_arr
        have hS2_all : ∀ b, b < i → ish σ2 (p + 3 + 14 * b) := fun b hb => ish_k (hS1_all b hb) (fun a g1 g2 => ht2 a (by omega))
        have hS2_r : ish σ2 (p + 3 + 14 * i) := hq2
        have hB2 : ∀ a, a < p → σ2 a = σ a := fun a ha => (ht2 a (by omega)).trans (hB1 a ha)
        have hY2 : ∀ a, a < p → v2 a = v a := fun a ha => (hj2 a (by omega)).trans (hY1 a ha)
        have hZ2 : zr v2 (p) (p + 3 + 14 * i + 14) := fun a g1 g2 => by
          by_cases e : a < p + 3 + 14 * i
          · rw [hj2 a e]; exact hZ1 a g1 (by omega)
          · exact hzz2 a (by omega) (by omega)
        refine g_aast (q := 49) (k0 := 3) (z := (RX4, TX4, 1)) hS2_arr rfl rfl (by rw [pra_l]; omega) (by rw [pra_l]; decide) hS2_r.1 rfl dX6_init_48 rfl ?_
        refine g_gs (fun σ3 hs3 => ?_)
        have ht3 : ∀ a, a ≠ p + 1 → σ3 a = σ2 a := fun a ha => by rw [hs3]; exact va_up_ne _ _ ha
        have hS3_p : σ3 (p) = some (.inl (6, [some (some (p + 1)), some (some (p + 2)), some (some x), some (some f), none, none, none, none])) := (ht3 _ (by omega)).trans hS2_p
        have hS3_ia : σ3 (p + 2) = some (.inr (.inl 5)) := (ht3 _ (by omega)).trans hS2_ia
        have hS3_all : ∀ b, b < i → ish σ3 (p + 3 + 14 * b) := fun b hb => ish_k (hS2_all b hb) (fun a g1 g2 => ht3 a (by omega))
        have hS3_r : ish σ3 (p + 3 + 14 * i) := ish_k hS2_r (fun a g1 g2 => ht3 a (by omega))
        have hS3_arr : σ3 (p + 1) = some (.inr (.inr (3, pra 5 (p + 3) 14 (i + 1)))) := by rw [hs3, ← pra_s]; exact va_up_self _ _ _
        have hB3 : ∀ a, a < p → σ3 a = σ a := fun a ha => (ht3 a (by omega)).trans (hB2 a ha)
        refine g_iinc (q := 52) (y := nI (i + 1)) dX6_init_49 rfl (gn_inc i) rfl rfl rfl rfl ?_
        dsimp only [List.set]
        refine g_goto (q := 31) dX6_init_52 (by decide) ?_
        refine g_nm (lim' := p + 3 + 14 * (i + 1)) (kc' := 2 + 14 * (i + 1)) (ks' := 10 + 55 * (i + 1)) (by omega) (by omega) (by omega) ?_
        refine ih (i + 1) σ3 v2 (by omega) ?_ ?_ ?_ ?_ ?_ ?_ ?_
        · exact hS3_p
        · exact hS3_ia
        · exact hS3_arr
        · exact (fun b hb => by
            rcases Nat.lt_or_ge b i with g | g
            · exact hS3_all b g
            · rw [show b = i by omega]; exact hS3_r)
        · exact hB3
        · exact hY2
        · exact (by rw [show p + 3 + 14 * (i + 1) = p + 3 + 14 * i + 14 by omega]; exact hZ2)
  refine gj_E_at (L := [some (.ref p), some (.ref x), some (.ref f), none]) (k := 1) rfl (by decide) rfl ?_
  refine g_aload_n (q := 1) dX6_init_0 rfl rfl ?_
  refine g_oinit (q := 4) k_X6_3 (by decide) dX6_init_1 rfl ?_
  refine g_aload_n (q := 5) dX6_init_4 rfl rfl ?_
  refine g_iconst (q := 6) (x := 5) dX6_init_5 (by decide) rfl ?_
  refine g_anew (q := 9) (n := 5) (k0 := 3) na_X6_9 (List.mem_of_getElem? (i := 2) rfl) rfl (by decide) (by decide) (by decide) (by decide) dX6_init_6 rfl ?_
  refine g_nm (lim' := p + 2) (kc' := 1) (ks' := 5) (by omega) (by omega) (by omega) ?_
  refine g_gs (fun σ1 hs1 => ?_)
  have ht1 : ∀ a, a ≠ p + 1 → σ1 a = σ a := fun a ha => by rw [hs1]; exact va_up_ne _ _ ha
  have hS1_p : σ1 (p) = some (.inl (6, [some none, some none, some none, some none, none, none, none, none])) := (ht1 _ (by omega)).trans hS0_p
  have hS1_arr : σ1 (p + 1) = some (.inr (.inr (3, List.replicate 5 none))) := by rw [hs1]; exact va_up_self _ _ _
  have hB1 : ∀ a, a < p → σ1 a = σ a := fun a ha => (ht1 a (by omega)).trans (hB0 a ha)
  refine g_gv (fun v1 hv1 => ?_)
  have hY1 : ∀ a, a < p → v1 a = v a := fun a ha => (show v1 a = v a by rw [hv1, gu_n _ _ (by omega)]).trans (hY0 a ha)
  have hZ1 : zr v1 (p) (p + 2) := fun a g1 g2 => by
    by_cases e : a = p + 1
    · rw [hv1, e, gu_s]
    · rw [hv1, gu_n _ _ e]; exact hZ0 a g1 (by omega)
  refine g_putR (q := 12) f_X6_11 rfl rfl hS1_p (Nat.le_of_ble_eq_true rfl) rfl rfl dX6_init_9 rfl ?_
  refine g_gs (fun σ2 hs2 => ?_)
  have ht2 : ∀ a, a ≠ p → σ2 a = σ1 a := fun a ha => by rw [hs2]; exact va_up_ne _ _ ha
  have hS2_arr : σ2 (p + 1) = some (.inr (.inr (3, List.replicate 5 none))) := (ht2 _ (by omega)).trans hS1_arr
  have hS2_p : σ2 (p) = some (.inl (6, [some (some (p + 1)), some none, some none, some none, none, none, none, none])) := by rw [hs2]; exact va_up_self _ _ _
  have hB2 : ∀ a, a < p → σ2 a = σ a := fun a ha => (ht2 a (by omega)).trans (hB1 a ha)
  refine g_aload_n (q := 13) dX6_init_12 rfl rfl ?_
  refine g_iconst (q := 14) (x := 5) dX6_init_13 (by decide) rfl ?_
  refine g_newi (q := 16) (n := 5) gl_arr (by decide) (by decide) (by decide) (by decide) dX6_init_14 rfl ?_
  refine g_nm (lim' := p + 3) (kc' := 2) (ks' := 10) (by omega) (by omega) (by omega) ?_
  refine g_gs (fun σ3 hs3 => ?_)
  have ht3 : ∀ a, a ≠ p + 2 → σ3 a = σ2 a := fun a ha => by rw [hs3]; exact va_up_ne _ _ ha
  have hS3_p : σ3 (p) = some (.inl (6, [some (some (p + 1)), some none, some none, some none, none, none, none, none])) := (ht3 _ (by omega)).trans hS2_p
  have hS3_arr : σ3 (p + 1) = some (.inr (.inr (3, List.replicate 5 none))) := (ht3 _ (by omega)).trans hS2_arr
  have hS3_ia : σ3 (p + 2) = some (.inr (.inl 5)) := by rw [hs3]; exact va_up_self _ _ _
  have hB3 : ∀ a, a < p → σ3 a = σ a := fun a ha => (ht3 a (by omega)).trans (hB2 a ha)
  refine g_gv (fun v2 hv2 => ?_)
  have hY2 : ∀ a, a < p → v2 a = v a := fun a ha => (show v2 a = v1 a by rw [hv2, gu_n _ _ (by omega)]).trans (hY1 a ha)
  have hZ2 : zr v2 (p) (p + 3) := fun a g1 g2 => by
    by_cases e : a = p + 2
    · rw [hv2, e, gu_s]
    · rw [hv2, gu_n _ _ e]; exact hZ1 a g1 (by omega)
  refine g_putR (q := 19) f_X6_17 rfl rfl hS3_p (Nat.le_of_ble_eq_true rfl) rfl rfl dX6_init_16 rfl ?_
  refine g_gs (fun σ4 hs4 => ?_)
  have ht4 : ∀ a, a ≠ p → σ4 a = σ3 a := fun a ha => by rw [hs4]; exact va_up_ne _ _ ha
  have hS4_arr : σ4 (p + 1) = some (.inr (.inr (3, List.replicate 5 none))) := (ht4 _ (by omega)).trans hS3_arr
  have hS4_ia : σ4 (p + 2) = some (.inr (.inl 5)) := (ht4 _ (by omega)).trans hS3_ia
  have hS4_p : σ4 (p) = some (.inl (6, [some (some (p + 1)), some (some (p + 2)), some none, some none, none, none, none, none])) := by rw [hs4]; exact va_up_self _ _ _
  have hB4 : ∀ a, a < p → σ4 a = σ a := fun a ha => (ht4 a (by omega)).trans (hB3 a ha)
  refine g_aload_n (q := 20) dX6_init_19 rfl rfl ?_
  refine g_aload_n (q := 21) dX6_init_20 rfl rfl ?_
  refine g_putR (q := 24) f_X6_21 rfl rfl hS4_p (Nat.le_of_ble_eq_true rfl) rfl rfl dX6_init_21 rfl ?_
  refine g_gs (fun σ5 hs5 => ?_)
  have ht5 : ∀ a, a ≠ p → σ5 a = σ4 a := fun a ha => by rw [hs5]; exact va_up_ne _ _ ha
  have hS5_arr : σ5 (p + 1) = some (.inr (.inr (3, List.replicate 5 none))) := (ht5 _ (by omega)).trans hS4_arr
  have hS5_ia : σ5 (p + 2) = some (.inr (.inl 5)) := (ht5 _ (by omega)).trans hS4_ia
  have hS5_p : σ5 (p) = some (.inl (6, [some (some (p + 1)), some (some (p + 2)), some (some x), some none, none, none, none, none])) := by rw [hs5]; exact va_up_self _ _ _
  have hB5 : ∀ a, a < p → σ5 a = σ a := fun a ha => (ht5 a (by omega)).trans (hB4 a ha)
  refine g_aload_n (q := 25) dX6_init_24 rfl rfl ?_
  refine g_aload_n (q := 26) dX6_init_25 rfl rfl ?_
  refine g_putR (q := 29) f_X6_25 rfl rfl hS5_p (Nat.le_of_ble_eq_true rfl) rfl rfl dX6_init_26 rfl ?_
  refine g_gs (fun σ6 hs6 => ?_)
  have ht6 : ∀ a, a ≠ p → σ6 a = σ5 a := fun a ha => by rw [hs6]; exact va_up_ne _ _ ha
  have hS6_arr : σ6 (p + 1) = some (.inr (.inr (3, List.replicate 5 none))) := (ht6 _ (by omega)).trans hS5_arr
  have hS6_ia : σ6 (p + 2) = some (.inr (.inl 5)) := (ht6 _ (by omega)).trans hS5_ia
  have hS6_p : σ6 (p) = some (.inl (6, [some (some (p + 1)), some (some (p + 2)), some (some x), some (some f), none, none, none, none])) := by rw [hs6]; exact va_up_self _ _ _
  have hB6 : ∀ a, a < p → σ6 a = σ a := fun a ha => (ht6 a (by omega)).trans (hB5 a ha)
  refine g_iconst (q := 30) (x := 0) dX6_init_29 (by decide) rfl ?_
  refine g_istore_n (q := 31) dX6_init_30 rfl rfl rfl rfl ?_
  dsimp only [List.set]
  refine g_nm (lim' := p + 3 + 14 * 0) (kc' := 2 + 14 * 0) (ks' := 10 + 55 * 0) (by omega) (by omega) (by omega) ?_
  refine lp 5 0 σ6 v2 (by omega) ?_ ?_ ?_ ?_ ?_ ?_ ?_
  · exact hS6_p
  · exact hS6_ia
  · rw [← pra_0]; exact hS6_arr
  · exact fun b hb => absurd hb (by omega)
  · exact hB6
  · exact hY2
  · rw [show p + 3 + 14 * 0 = p + 3 by omega]; exact hZ2

/-- a floor of noughts -/
theorem cr_zero {f : Nat} {v : gj_V} (h : zr v f (f + 55)) : CR v f (fun _ _ => 0, fun _ => []) 0 := by
  have z : ∀ a k, f ≤ a → a < f + 55 → v a k = 0 := fun a k g1 g2 => by rw [h a g1 g2]
  refine ⟨?_, ?_, fun b hb => ?_, fun s hs => ?_, fun w hw => ?_, ?_⟩
  · funext k
    rw [z f k (by omega) (by omega)]
    unfold upd
    split <;> rfl
  · rw [h _ (by omega) (by omega)]
  · refine ⟨?_, ?_, ?_, ?_⟩
    · rw [h _ (by omega) (by omega)]; rfl
    · rw [h _ (by omega) (by omega)]; rfl
    · exact ⟨by rw [z _ _ (by omega) (by omega)]; rfl, by simp [gB], fun i hi => absurd hi (by simp [gB])⟩
    · exact ⟨by rw [z _ _ (by omega) (by omega)]; rfl, by simp [gB], fun i hi => absurd hi (by simp [gB])⟩
  · rw [h _ (by omega) (by omega)]
  · rw [h _ (by omega) (by omega)]
  · exact ⟨by rw [z _ _ (by omega) (by omega)]; rfl, by simp, fun i hi => absurd hi (by simp)⟩

set_option maxRecDepth 100000 in
set_option maxHeartbeats 4000000 in
theorem p_X1_init {X : gj_X}  {σ : gj_H} {v : gj_V} {lim p : Nat} (hl : lim = p + 1) (hS0_p : σ p = some (.inl (1, [some none, some none, some none, some none, some none, none, none, none, none]))) (hz : v p = fun _ => 0) : gj_E X 3 m_X1_init [.ref p] lim σ v (q_n (p + 55) (fun σ' v' => fsh σ' p ∧ kp σ σ' v v' p ∧ ∃ A, nwr 3 A ∧ CR v' p A 0)) := by
  subst hl
  have hB0 : ∀ a, a < p → σ a = σ a := fun _ _ => rfl
  have hY0 : ∀ a, a < p → v a = v a := fun _ _ => rfl
  have hZ0 : zr v p (p + 1) := fun a g1 g2 => by
    rw [show a = p by omega]; exact hz
  have lp3 : ∀ (k i : Nat) (σ0 : gj_H) (v0 : gj_V), i + k = 6 → (σ0 (p) = some (sh_floor p)) → (rsh σ0 (p + 4)) → (σ0 (p + 6) = some (sh_gate)) → (σ0 (p + 1) = some (sh_ra 1 6 (p + 7) 6)) → (∀ b, b < 6 → bsh σ0 (p + 7 + 6 * b)) → (σ0 (p + 2) = some (sh_ra 5 6 (p + 43) 1)) → (∀ b, b < 6 → σ0 (p + 43 + 1 * b) = some sh_stat) → (σ0 (p + 3) = some (.inr (.inr (6, pra 6 (p + 49) 1 i)))) → (∀ b, b < i → σ0 (p + 49 + 1 * b) = some sh_work) → (∀ a, a < p → σ0 a = σ a) → (∀ a, a < p → v0 a = v a) → (zr v0 p (p + 49 + 1 * i)) → gj_G X 3 m_X1_init (q_n (p + 55) (fun σ' v' => fsh σ' p ∧ kp σ σ' v v' p ∧ ∃ A, nwr 3 A ∧ CR v' p A 0)) (p + 49 + 1 * i) σ0 v0 (48 + 1 * i) (276 + 4 * i) 109 [some (.ref p), some (.int (nI i))] [] := by
    intro k
    induction k with
    | zero =>
      intro i σ0 v0 hik hS0_p hS0_w hS0_g hS0_arr1 hS0_all1 hS0_arr2 hS0_all2 hS0_arr hS0_all hB0 hY0 hZ0
      have hi : i = 6 := by omega
      subst hi
      refine g_iload_n (q := 110) dX1_init_109 rfl rfl ?_
      refine g_bipush (q := 112) (x := 6) dX1_init_110 (by decide) rfl ?_
      refine g_icmpge (t := 134) (q := 115) dX1_init_112 (by decide) rfl (fun h112 => ?_) (fun h112 => ?_)
      · have hFS : fsh σ0 p := ⟨hS0_p, hS0_arr1, hS0_arr2, by rw [hS0_arr, pra_n], hS0_w, hS0_g, hS0_all1, hS0_all2, hS0_all⟩
        refine g_aload_n (q := 135) dX1_init_134 rfl rfl ?_
        refine g_iconst (q := 136) (x := 3) dX1_init_135 (by decide) rfl ?_
        refine c_Vn (q := 139) (p_X1_startAnew (n := 3) hFS (cr_zero (f := p) hZ0)) k_X1_46 hS0_p rfl (by decide) rfl rfl (Nat.le_of_ble_eq_true rfl) rfl rfl (by decide) (by decide) dX1_init_136 rfl ?_
        rintro v1 ⟨⟨A, hA1, hA2⟩, hfr⟩
        refine r_n dX1_init_139 rfl rfl rfl (by omega) ⟨hFS, ⟨hB0, fun a ha => (hfr a (by omega)).trans (hY0 a ha)⟩, A, hA1, hA2⟩
      · exact absurd ((g6_ge (by omega)).mpr (by omega)) h112
    | succ k ih =>
      intro i σ0 v0 hik hS0_p hS0_w hS0_g hS0_arr1 hS0_all1 hS0_arr2 hS0_all2 hS0_arr hS0_all hB0 hY0 hZ0
      refine g_iload_n (q := 110) dX1_init_109 rfl rfl ?_
      refine g_bipush (q := 112) (x := 6) dX1_init_110 (by decide) rfl ?_
      refine g_icmpge (t := 134) (q := 115) dX1_init_112 (by decide) rfl (fun h112 => ?_) (fun h112 => ?_)
      · exact absurd ((g6_ge (by omega)).mp h112) (by omega)
      · refine g_aload_n (q := 116) dX1_init_115 rfl rfl ?_
        refine g_getR (q := 119) f_X1_25 hS0_p rfl dX1_init_116 rfl ?_
        refine g_iload_n (q := 120) dX1_init_119 rfl rfl ?_
        refine g_new (q := 123) n_X1_23 (show 48 + 1 * i + 1 ≤ 54 by omega) (show 276 + 4 * i + 4 ≤ 300 by omega) dX1_init_120 rfl ?_
        refine g_nm (lim' := p + 49 + 1 * i + 1) (kc' := 48 + 1 * i + 1) (ks' := 276 + 4 * i + 4) (by omega) (by omega) (by omega) ?_
        refine g_gs (fun σ1 hs1 => ?_)
        have ht1 : ∀ a, a ≠ p + 49 + 1 * i → σ1 a = σ0 a := fun a ha => by rw [hs1]; exact va_up_ne _ _ ha
        have hS1_p : σ1 (p) = some (sh_floor p) := (ht1 _ (by omega)).trans hS0_p
        have hS1_w : rsh σ1 (p + 4) := rsh_k hS0_w (fun a g1 g2 => ht1 a (by omega))
        have hS1_g : σ1 (p + 6) = some (sh_gate) := (ht1 _ (by omega)).trans hS0_g
        have hS1_arr1 : σ1 (p + 1) = some (sh_ra 1 6 (p + 7) 6) := (ht1 _ (by omega)).trans hS0_arr1
        have hS1_all1 : ∀ b, b < 6 → bsh σ1 (p + 7 + 6 * b) := fun b hb => bsh_k (hS0_all1 b hb) (fun a g1 g2 => ht1 a (by omega))
        have hS1_arr2 : σ1 (p + 2) = some (sh_ra 5 6 (p + 43) 1) := (ht1 _ (by omega)).trans hS0_arr2
        have hS1_all2 : ∀ b, b < 6 → σ1 (p + 43 + 1 * b) = some sh_stat := fun b hb => (ht1 _ (by omega)).trans (hS0_all2 b hb)
        have hS1_arr : σ1 (p + 3) = some (.inr (.inr (6, pra 6 (p + 49) 1 i))) := (ht1 _ (by omega)).trans hS0_arr
        have hS1_all : ∀ b, b < i → σ1 (p + 49 + 1 * b) = some sh_work := fun b hb => (ht1 _ (by omega)).trans (hS0_all b hb)
        have hS1_o : σ1 (p + 49 + 1 * i) = some (.inl (9, [none, none, none, none])) := by rw [hs1]; exact va_up_self _ _ _
        have hB1 : ∀ a, a < p → σ1 a = σ a := fun a ha => (ht1 a (by omega)).trans (hB0 a ha)
        refine g_gv (fun v1 hv1 => ?_)
        have hY1 : ∀ a, a < p → v1 a = v a := fun a ha => (show v1 a = v0 a by rw [hv1, gu_n _ _ (by omega)]).trans (hY0 a ha)
        have hZ1 : zr v1 (p) (p + 49 + 1 * i + 1) := fun a g1 g2 => by
          by_cases e : a = p + 49 + 1 * i
          · rw [hv1, e, gu_s]
          · rw [hv1, gu_n _ _ e]; exact hZ0 a g1 (by omega)
        refine g_dup (q := 124) dX1_init_123 rfl rfl ?_
        refine c_I (q := 127) (p_X9_init) k_X1_45 (by decide) rfl rfl (Nat.le_of_ble_eq_true rfl) (nc := 0) (ns := 0) rfl rfl (show 48 + 1 * i + 1 + 0 ≤ 54 by omega) (show 276 + 4 * i + 4 + 0 ≤ 300 by omega) dX1_init_124 rfl ?_
        rintro sx vx ⟨hqa, hqb⟩
        subst sx
        subst vx
        refine g_aast (q := 128) (k0 := 6) (z := (RX9, TX9, 4)) hS1_arr rfl rfl (by rw [pra_l]; omega) (by rw [pra_l]; decide) hS1_o rfl dX1_init_127 rfl ?_
        refine g_gs (fun σ2 hs2 => ?_)
        have ht2 : ∀ a, a ≠ p + 3 → σ2 a = σ1 a := fun a ha => by rw [hs2]; exact va_up_ne _ _ ha
        have hS2_p : σ2 (p) = some (sh_floor p) := (ht2 _ (by omega)).trans hS1_p
        have hS2_w : rsh σ2 (p + 4) := rsh_k hS1_w (fun a g1 g2 => ht2 a (by omega))
        have hS2_g : σ2 (p + 6) = some (sh_gate) := (ht2 _ (by omega)).trans hS1_g
        have hS2_arr1 : σ2 (p + 1) = some (sh_ra 1 6 (p + 7) 6) := (ht2 _ (by omega)).trans hS1_arr1
        have hS2_all1 : ∀ b, b < 6 → bsh σ2 (p + 7 + 6 * b) := fun b hb => bsh_k (hS1_all1 b hb) (fun a g1 g2 => ht2 a (by omega))
        have hS2_arr2 : σ2 (p + 2) = some (sh_ra 5 6 (p + 43) 1) := (ht2 _ (by omega)).trans hS1_arr2
        have hS2_all2 : ∀ b, b < 6 → σ2 (p + 43 + 1 * b) = some sh_stat := fun b hb => (ht2 _ (by omega)).trans (hS1_all2 b hb)
        have hS2_all : ∀ b, b < i → σ2 (p + 49 + 1 * b) = some sh_work := fun b hb => (ht2 _ (by omega)).trans (hS1_all b hb)
        have hS2_o : σ2 (p + 49 + 1 * i) = some (.inl (9, [none, none, none, none])) := (ht2 _ (by omega)).trans hS1_o
        have hS2_arr : σ2 (p + 3) = some (.inr (.inr (6, pra 6 (p + 49) 1 (i + 1)))) := by rw [hs2, ← pra_s]; exact va_up_self _ _ _
        have hB2 : ∀ a, a < p → σ2 a = σ a := fun a ha => (ht2 a (by omega)).trans (hB1 a ha)
        refine g_iinc (q := 131) (y := nI (i + 1)) dX1_init_128 rfl (gn_inc i) rfl rfl rfl rfl ?_
        dsimp only [List.set]
        refine g_goto (q := 109) dX1_init_131 (by decide) ?_
        refine g_nm (lim' := p + 49 + 1 * (i + 1)) (kc' := 48 + 1 * (i + 1)) (ks' := 276 + 4 * (i + 1)) (by omega) (by omega) (by omega) ?_
        refine ih (i + 1) σ2 v1 (by omega) ?_ ?_ ?_ ?_ ?_ ?_ ?_ ?_ ?_ ?_ ?_ ?_
        · exact hS2_p
        · exact hS2_w
        · exact hS2_g
        · exact hS2_arr1
        · exact hS2_all1
        · exact hS2_arr2
        · exact hS2_all2
        · exact hS2_arr
        · exact (fun b hb => by
            rcases Nat.lt_or_ge b i with g | g
            · exact hS2_all b g
            · rw [show b = i by omega]; exact hS2_o)
        · exact hB2
        · exact hY1
        · exact (by rw [show p + 49 + 1 * (i + 1) = p + 49 + 1 * i + 1 by omega]; exact hZ1)
  have lp2 : ∀ (k i : Nat) (σ0 : gj_H) (v0 : gj_V), i + k = 6 → (σ0 (p) = some (sh_floor p)) → (rsh σ0 (p + 4)) → (σ0 (p + 6) = some (sh_gate)) → (σ0 (p + 1) = some (sh_ra 1 6 (p + 7) 6)) → (∀ b, b < 6 → bsh σ0 (p + 7 + 6 * b)) → (σ0 (p + 3) = some (.inr (.inr (6, List.replicate 6 none)))) → (σ0 (p + 2) = some (.inr (.inr (5, pra 6 (p + 43) 1 i)))) → (∀ b, b < i → σ0 (p + 43 + 1 * b) = some sh_stat) → (∀ a, a < p → σ0 a = σ a) → (∀ a, a < p → v0 a = v a) → (zr v0 p (p + 43 + 1 * i)) → gj_G X 3 m_X1_init (q_n (p + 55) (fun σ' v' => fsh σ' p ∧ kp σ σ' v v' p ∧ ∃ A, nwr 3 A ∧ CR v' p A 0)) (p + 43 + 1 * i) σ0 v0 (42 + 1 * i) (204 + 12 * i) 82 [some (.ref p), some (.int (nI i))] [] := by
    intro k
    induction k with
    | zero =>
      intro i σ0 v0 hik hS0_p hS0_w hS0_g hS0_arr1 hS0_all1 hS0_arr3 hS0_arr hS0_all hB0 hY0 hZ0
      have hi : i = 6 := by omega
      subst hi
      refine g_iload_n (q := 83) dX1_init_82 rfl rfl ?_
      refine g_bipush (q := 85) (x := 6) dX1_init_83 (by decide) rfl ?_
      refine g_icmpge (t := 107) (q := 88) dX1_init_85 (by decide) rfl (fun h85 => ?_) (fun h85 => ?_)
      · refine g_iconst (q := 108) (x := 0) dX1_init_107 (by decide) rfl ?_
        refine g_istore_n (q := 109) dX1_init_108 rfl rfl rfl rfl ?_
        dsimp only [List.set]
        refine g_nm (lim' := p + 49 + 1 * 0) (kc' := 48 + 1 * 0) (ks' := 276 + 4 * 0) (by omega) (by omega) (by omega) ?_
        refine lp3 6 0 σ0 v0 (by omega) ?_ ?_ ?_ ?_ ?_ ?_ ?_ ?_ ?_ ?_ ?_ ?_
        · exact hS0_p
        · exact hS0_w
        · exact hS0_g
        · exact hS0_arr1
        · exact hS0_all1
        · rw [hS0_arr, pra_n]
        · exact hS0_all
        · rw [← pra_0]; exact hS0_arr3
        · exact fun b hb => absurd hb (by omega)
        · exact hB0
        · exact hY0
        · exact hZ0
      · exact absurd ((g6_ge (by omega)).mpr (by omega)) h85
    | succ k ih =>
      intro i σ0 v0 hik hS0_p hS0_w hS0_g hS0_arr1 hS0_all1 hS0_arr3 hS0_arr hS0_all hB0 hY0 hZ0
      refine g_iload_n (q := 83) dX1_init_82 rfl rfl ?_
      refine g_bipush (q := 85) (x := 6) dX1_init_83 (by decide) rfl ?_
      refine g_icmpge (t := 107) (q := 88) dX1_init_85 (by decide) rfl (fun h85 => ?_) (fun h85 => ?_)
      · exact absurd ((g6_ge (by omega)).mp h85) (by omega)
      · refine g_aload_n (q := 89) dX1_init_88 rfl rfl ?_
        refine g_getR (q := 92) f_X1_19 hS0_p rfl dX1_init_89 rfl ?_
        refine g_iload_n (q := 93) dX1_init_92 rfl rfl ?_
        refine g_new (q := 96) n_X1_17 (show 42 + 1 * i + 1 ≤ 54 by omega) (show 204 + 12 * i + 12 ≤ 300 by omega) dX1_init_93 rfl ?_
        refine g_nm (lim' := p + 43 + 1 * i + 1) (kc' := 42 + 1 * i + 1) (ks' := 204 + 12 * i + 12) (by omega) (by omega) (by omega) ?_
        refine g_gs (fun σ1 hs1 => ?_)
        have ht1 : ∀ a, a ≠ p + 43 + 1 * i → σ1 a = σ0 a := fun a ha => by rw [hs1]; exact va_up_ne _ _ ha
        have hS1_p : σ1 (p) = some (sh_floor p) := (ht1 _ (by omega)).trans hS0_p
        have hS1_w : rsh σ1 (p + 4) := rsh_k hS0_w (fun a g1 g2 => ht1 a (by omega))
        have hS1_g : σ1 (p + 6) = some (sh_gate) := (ht1 _ (by omega)).trans hS0_g
        have hS1_arr1 : σ1 (p + 1) = some (sh_ra 1 6 (p + 7) 6) := (ht1 _ (by omega)).trans hS0_arr1
        have hS1_all1 : ∀ b, b < 6 → bsh σ1 (p + 7 + 6 * b) := fun b hb => bsh_k (hS0_all1 b hb) (fun a g1 g2 => ht1 a (by omega))
        have hS1_arr3 : σ1 (p + 3) = some (.inr (.inr (6, List.replicate 6 none))) := (ht1 _ (by omega)).trans hS0_arr3
        have hS1_arr : σ1 (p + 2) = some (.inr (.inr (5, pra 6 (p + 43) 1 i))) := (ht1 _ (by omega)).trans hS0_arr
        have hS1_all : ∀ b, b < i → σ1 (p + 43 + 1 * b) = some sh_stat := fun b hb => (ht1 _ (by omega)).trans (hS0_all b hb)
        have hS1_o : σ1 (p + 43 + 1 * i) = some (.inl (7, [none, none, none, none, none, none, none, none, none, none, none, none])) := by rw [hs1]; exact va_up_self _ _ _
        have hB1 : ∀ a, a < p → σ1 a = σ a := fun a ha => (ht1 a (by omega)).trans (hB0 a ha)
        refine g_gv (fun v1 hv1 => ?_)
        have hY1 : ∀ a, a < p → v1 a = v a := fun a ha => (show v1 a = v0 a by rw [hv1, gu_n _ _ (by omega)]).trans (hY0 a ha)
        have hZ1 : zr v1 (p) (p + 43 + 1 * i + 1) := fun a g1 g2 => by
          by_cases e : a = p + 43 + 1 * i
          · rw [hv1, e, gu_s]
          · rw [hv1, gu_n _ _ e]; exact hZ0 a g1 (by omega)
        refine g_dup (q := 97) dX1_init_96 rfl rfl ?_
        refine c_I (q := 100) (p_X7_init) k_X1_44 (by decide) rfl rfl (Nat.le_of_ble_eq_true rfl) (nc := 0) (ns := 0) rfl rfl (show 42 + 1 * i + 1 + 0 ≤ 54 by omega) (show 204 + 12 * i + 12 + 0 ≤ 300 by omega) dX1_init_97 rfl ?_
        rintro sx vx ⟨hqa, hqb⟩
        subst sx
        subst vx
        refine g_aast (q := 101) (k0 := 5) (z := (RX7, TX7, 12)) hS1_arr rfl rfl (by rw [pra_l]; omega) (by rw [pra_l]; decide) hS1_o rfl dX1_init_100 rfl ?_
        refine g_gs (fun σ2 hs2 => ?_)
        have ht2 : ∀ a, a ≠ p + 2 → σ2 a = σ1 a := fun a ha => by rw [hs2]; exact va_up_ne _ _ ha
        have hS2_p : σ2 (p) = some (sh_floor p) := (ht2 _ (by omega)).trans hS1_p
        have hS2_w : rsh σ2 (p + 4) := rsh_k hS1_w (fun a g1 g2 => ht2 a (by omega))
        have hS2_g : σ2 (p + 6) = some (sh_gate) := (ht2 _ (by omega)).trans hS1_g
        have hS2_arr1 : σ2 (p + 1) = some (sh_ra 1 6 (p + 7) 6) := (ht2 _ (by omega)).trans hS1_arr1
        have hS2_all1 : ∀ b, b < 6 → bsh σ2 (p + 7 + 6 * b) := fun b hb => bsh_k (hS1_all1 b hb) (fun a g1 g2 => ht2 a (by omega))
        have hS2_arr3 : σ2 (p + 3) = some (.inr (.inr (6, List.replicate 6 none))) := (ht2 _ (by omega)).trans hS1_arr3
        have hS2_all : ∀ b, b < i → σ2 (p + 43 + 1 * b) = some sh_stat := fun b hb => (ht2 _ (by omega)).trans (hS1_all b hb)
        have hS2_o : σ2 (p + 43 + 1 * i) = some (.inl (7, [none, none, none, none, none, none, none, none, none, none, none, none])) := (ht2 _ (by omega)).trans hS1_o
        have hS2_arr : σ2 (p + 2) = some (.inr (.inr (5, pra 6 (p + 43) 1 (i + 1)))) := by rw [hs2, ← pra_s]; exact va_up_self _ _ _
        have hB2 : ∀ a, a < p → σ2 a = σ a := fun a ha => (ht2 a (by omega)).trans (hB1 a ha)
        refine g_iinc (q := 104) (y := nI (i + 1)) dX1_init_101 rfl (gn_inc i) rfl rfl rfl rfl ?_
        dsimp only [List.set]
        refine g_goto (q := 82) dX1_init_104 (by decide) ?_
        refine g_nm (lim' := p + 43 + 1 * (i + 1)) (kc' := 42 + 1 * (i + 1)) (ks' := 204 + 12 * (i + 1)) (by omega) (by omega) (by omega) ?_
        refine ih (i + 1) σ2 v1 (by omega) ?_ ?_ ?_ ?_ ?_ ?_ ?_ ?_ ?_ ?_ ?_
        · exact hS2_p
        · exact hS2_w
        · exact hS2_g
        · exact hS2_arr1
        · exact hS2_all1
        · exact hS2_arr3
        · exact hS2_arr
        · exact (fun b hb => by
            rcases Nat.lt_or_ge b i with g | g
            · exact hS2_all b g
            · rw [show b = i by omega]; exact hS2_o)
        · exact hB2
        · exact hY1
        · exact (by rw [show p + 43 + 1 * (i + 1) = p + 43 + 1 * i + 1 by omega]; exact hZ1)
  have lp1 : ∀ (k i : Nat) (σ0 : gj_H) (v0 : gj_V), i + k = 6 → (σ0 (p) = some (sh_floor p)) → (rsh σ0 (p + 4)) → (σ0 (p + 6) = some (sh_gate)) → (σ0 (p + 2) = some (.inr (.inr (5, List.replicate 6 none)))) → (σ0 (p + 3) = some (.inr (.inr (6, List.replicate 6 none)))) → (σ0 (p + 1) = some (.inr (.inr (1, pra 6 (p + 7) 6 i)))) → (∀ b, b < i → bsh σ0 (p + 7 + 6 * b)) → (∀ a, a < p → σ0 a = σ a) → (∀ a, a < p → v0 a = v a) → (zr v0 p (p + 7 + 6 * i)) → gj_G X 3 m_X1_init (q_n (p + 55) (fun σ' v' => fsh σ' p ∧ kp σ σ' v v' p ∧ ∃ A, nwr 3 A ∧ CR v' p A 0)) (p + 7 + 6 * i) σ0 v0 (6 + 6 * i) (30 + 29 * i) 55 [some (.ref p), some (.int (nI i))] [] := by
    intro k
    induction k with
    | zero =>
      intro i σ0 v0 hik hS0_p hS0_w hS0_g hS0_arr2 hS0_arr3 hS0_arr hS0_all hB0 hY0 hZ0
      have hi : i = 6 := by omega
      subst hi
      refine g_iload_n (q := 56) dX1_init_55 rfl rfl ?_
      refine g_bipush (q := 58) (x := 6) dX1_init_56 (by decide) rfl ?_
      refine g_icmpge (t := 80) (q := 61) dX1_init_58 (by decide) rfl (fun h58 => ?_) (fun h58 => ?_)
      · refine g_iconst (q := 81) (x := 0) dX1_init_80 (by decide) rfl ?_
        refine g_istore_n (q := 82) dX1_init_81 rfl rfl rfl rfl ?_
        dsimp only [List.set]
        refine g_nm (lim' := p + 43 + 1 * 0) (kc' := 42 + 1 * 0) (ks' := 204 + 12 * 0) (by omega) (by omega) (by omega) ?_
        refine lp2 6 0 σ0 v0 (by omega) ?_ ?_ ?_ ?_ ?_ ?_ ?_ ?_ ?_ ?_ ?_
        · exact hS0_p
        · exact hS0_w
        · exact hS0_g
        · rw [hS0_arr, pra_n]
        · exact hS0_all
        · exact hS0_arr3
        · rw [← pra_0]; exact hS0_arr2
        · exact fun b hb => absurd hb (by omega)
        · exact hB0
        · exact hY0
        · exact hZ0
      · exact absurd ((g6_ge (by omega)).mpr (by omega)) h58
    | succ k ih =>
      intro i σ0 v0 hik hS0_p hS0_w hS0_g hS0_arr2 hS0_arr3 hS0_arr hS0_all hB0 hY0 hZ0
      refine g_iload_n (q := 56) dX1_init_55 rfl rfl ?_
      refine g_bipush (q := 58) (x := 6) dX1_init_56 (by decide) rfl ?_
      refine g_icmpge (t := 80) (q := 61) dX1_init_58 (by decide) rfl (fun h58 => ?_) (fun h58 => ?_)
      · exact absurd ((g6_ge (by omega)).mp h58) (by omega)
      · refine g_aload_n (q := 62) dX1_init_61 rfl rfl ?_
        refine g_getR (q := 65) f_X1_11 hS0_p rfl dX1_init_62 rfl ?_
        refine g_iload_n (q := 66) dX1_init_65 rfl rfl ?_
        refine g_new (q := 69) n_X1_9 (show 6 + 6 * i + 1 ≤ 54 by omega) (show 30 + 29 * i + 9 ≤ 300 by omega) dX1_init_66 rfl ?_
        refine g_nm (lim' := p + 7 + 6 * i + 1) (kc' := 6 + 6 * i + 1) (ks' := 30 + 29 * i + 9) (by omega) (by omega) (by omega) ?_
        refine g_gs (fun σ1 hs1 => ?_)
        have ht1 : ∀ a, a ≠ p + 7 + 6 * i → σ1 a = σ0 a := fun a ha => by rw [hs1]; exact va_up_ne _ _ ha
        have hS1_p : σ1 (p) = some (sh_floor p) := (ht1 _ (by omega)).trans hS0_p
        have hS1_w : rsh σ1 (p + 4) := rsh_k hS0_w (fun a g1 g2 => ht1 a (by omega))
        have hS1_g : σ1 (p + 6) = some (sh_gate) := (ht1 _ (by omega)).trans hS0_g
        have hS1_arr2 : σ1 (p + 2) = some (.inr (.inr (5, List.replicate 6 none))) := (ht1 _ (by omega)).trans hS0_arr2
        have hS1_arr3 : σ1 (p + 3) = some (.inr (.inr (6, List.replicate 6 none))) := (ht1 _ (by omega)).trans hS0_arr3
        have hS1_arr : σ1 (p + 1) = some (.inr (.inr (1, pra 6 (p + 7) 6 i))) := (ht1 _ (by omega)).trans hS0_arr
        have hS1_all : ∀ b, b < i → bsh σ1 (p + 7 + 6 * b) := fun b hb => bsh_k (hS0_all b hb) (fun a g1 g2 => ht1 a (by omega))
        have hS1_o : σ1 (p + 7 + 6 * i) = some (.inl (0, [some none, some none, some none, none, none, none, none, none, none])) := by rw [hs1]; exact va_up_self _ _ _
        have hB1 : ∀ a, a < p → σ1 a = σ a := fun a ha => (ht1 a (by omega)).trans (hB0 a ha)
        refine g_gv (fun v1 hv1 => ?_)
        have hY1 : ∀ a, a < p → v1 a = v a := fun a ha => (show v1 a = v0 a by rw [hv1, gu_n _ _ (by omega)]).trans (hY0 a ha)
        have hZ1 : zr v1 (p) (p + 7 + 6 * i + 1) := fun a g1 g2 => by
          by_cases e : a = p + 7 + 6 * i
          · rw [hv1, e, gu_s]
          · rw [hv1, gu_n _ _ e]; exact hZ0 a g1 (by omega)
        refine g_dup (q := 70) dX1_init_69 rfl rfl ?_
        refine c_I (q := 73) (p_X0_init (p := p + 7 + 6 * i) (by omega) hS1_o (hZ1 _ (by omega) (by omega))) k_X1_43 (by decide) rfl rfl (Nat.le_of_ble_eq_true rfl) (nc := 5) (ns := 20) rfl rfl (show 6 + 6 * i + 1 + 5 ≤ 54 by omega) (show 30 + 29 * i + 9 + 20 ≤ 300 by omega) dX1_init_70 rfl ?_
        rintro σ2 v2 ⟨hq2, ⟨hk2, hj2⟩, hzz2⟩
        refine g_nm (lim' := p + 7 + 6 * i + 6) (kc' := 6 + 6 * i + 6) (ks' := 30 + 29 * i + 29) (by omega) (by omega) (by omega) ?_
        have ht2 : ∀ a, a < p + 7 + 6 * i → σ2 a = σ1 a := hk2
        have hS2_p : σ2 (p) = some (sh_floor p) := (ht2 _ (by omega)).trans hS1_p
        have hS2_w : rsh σ2 (p + 4) := rsh_k hS1_w (fun a g1 g2 => ht2 a (by omega))
        have hS2_g : σ2 (p + 6) = some (sh_gate) := (ht2 _ (by omega)).trans hS1_g
        have hS2_arr2 : σ2 (p + 2) = some (.inr (.inr (5, List.replicate 6 none))) := (ht2 _ (by omega)).trans hS1_arr2
        have hS2_arr3 : σ2 (p + 3) = some (.inr (.inr (6, List.replicate 6 none))) := (ht2 _ (by omega)).trans hS1_arr3
        have hS2_arr : σ2 (p + 1) = some (.inr (.inr (1, pra 6 (p + 7) 6 i))) := (ht2 _ (by omega)).trans hS1_arr
        have hS2_all : ∀ b, b < i → bsh σ2 (p + 7 + 6 * b) := fun b hb => bsh_k (hS1_all b hb) (fun a g1 g2 => ht2 a (by omega))
        have hS2_r : bsh σ2 (p + 7 + 6 * i) := hq2
        have hB2 : ∀ a, a < p → σ2 a = σ a := fun a ha => (ht2 a (by omega)).trans (hB1 a ha)
        have hY2 : ∀ a, a < p → v2 a = v a := fun a ha => (hj2 a (by omega)).trans (hY1 a ha)
        have hZ2 : zr v2 (p) (p + 7 + 6 * i + 6) := fun a g1 g2 => by
          by_cases e : a < p + 7 + 6 * i
          · rw [hj2 a e]; exact hZ1 a g1 (by omega)
          · exact hzz2 a (by omega) (by omega)
        refine g_aast (q := 74) (k0 := 1) (z := (RX0, TX0, 9)) hS2_arr rfl rfl (by rw [pra_l]; omega) (by rw [pra_l]; decide) hS2_r.1 rfl dX1_init_73 rfl ?_
        refine g_gs (fun σ3 hs3 => ?_)
        have ht3 : ∀ a, a ≠ p + 1 → σ3 a = σ2 a := fun a ha => by rw [hs3]; exact va_up_ne _ _ ha
        have hS3_p : σ3 (p) = some (sh_floor p) := (ht3 _ (by omega)).trans hS2_p
        have hS3_w : rsh σ3 (p + 4) := rsh_k hS2_w (fun a g1 g2 => ht3 a (by omega))
        have hS3_g : σ3 (p + 6) = some (sh_gate) := (ht3 _ (by omega)).trans hS2_g
        have hS3_arr2 : σ3 (p + 2) = some (.inr (.inr (5, List.replicate 6 none))) := (ht3 _ (by omega)).trans hS2_arr2
        have hS3_arr3 : σ3 (p + 3) = some (.inr (.inr (6, List.replicate 6 none))) := (ht3 _ (by omega)).trans hS2_arr3
        have hS3_all : ∀ b, b < i → bsh σ3 (p + 7 + 6 * b) := fun b hb => bsh_k (hS2_all b hb) (fun a g1 g2 => ht3 a (by omega))
        have hS3_r : bsh σ3 (p + 7 + 6 * i) := bsh_k hS2_r (fun a g1 g2 => ht3 a (by omega))
        have hS3_arr : σ3 (p + 1) = some (.inr (.inr (1, pra 6 (p + 7) 6 (i + 1)))) := by rw [hs3, ← pra_s]; exact va_up_self _ _ _
        have hB3 : ∀ a, a < p → σ3 a = σ a := fun a ha => (ht3 a (by omega)).trans (hB2 a ha)
        refine g_iinc (q := 77) (y := nI (i + 1)) dX1_init_74 rfl (gn_inc i) rfl rfl rfl rfl ?_
        dsimp only [List.set]
        refine g_goto (q := 55) dX1_init_77 (by decide) ?_
        refine g_nm (lim' := p + 7 + 6 * (i + 1)) (kc' := 6 + 6 * (i + 1)) (ks' := 30 + 29 * (i + 1)) (by omega) (by omega) (by omega) ?_
        refine ih (i + 1) σ3 v2 (by omega) ?_ ?_ ?_ ?_ ?_ ?_ ?_ ?_ ?_ ?_
        · exact hS3_p
        · exact hS3_w
        · exact hS3_g
        · exact hS3_arr2
        · exact hS3_arr3
        · exact hS3_arr
        · exact (fun b hb => by
            rcases Nat.lt_or_ge b i with g | g
            · exact hS3_all b g
            · rw [show b = i by omega]; exact hS3_r)
        · exact hB3
        · exact hY2
        · exact (by rw [show p + 7 + 6 * (i + 1) = p + 7 + 6 * i + 6 by omega]; exact hZ2)
  refine gj_E_at (L := [some (.ref p), none]) (k := 1) rfl (by decide) rfl ?_
  refine g_aload_n (q := 1) dX1_init_0 rfl rfl ?_
  refine g_oinit (q := 4) k_X1_3 (by decide) dX1_init_1 rfl ?_
  refine g_aload_n (q := 5) dX1_init_4 rfl rfl ?_
  refine g_bipush (q := 7) (x := 6) dX1_init_5 (by decide) rfl ?_
  refine g_anew (q := 10) (n := 6) (k0 := 1) na_X1_9 (List.mem_of_getElem? (i := 0) rfl) rfl (by decide) (by decide) (by decide) (by decide) dX1_init_7 rfl ?_
  refine g_nm (lim' := p + 2) (kc' := 1) (ks' := 6) (by omega) (by omega) (by omega) ?_
  refine g_gs (fun σ1 hs1 => ?_)
  have ht1 : ∀ a, a ≠ p + 1 → σ1 a = σ a := fun a ha => by rw [hs1]; exact va_up_ne _ _ ha
  have hS1_p : σ1 (p) = some (.inl (1, [some none, some none, some none, some none, some none, none, none, none, none])) := (ht1 _ (by omega)).trans hS0_p
  have hS1_arr : σ1 (p + 1) = some (.inr (.inr (1, List.replicate 6 none))) := by rw [hs1]; exact va_up_self _ _ _
  have hB1 : ∀ a, a < p → σ1 a = σ a := fun a ha => (ht1 a (by omega)).trans (hB0 a ha)
  refine g_gv (fun v1 hv1 => ?_)
  have hY1 : ∀ a, a < p → v1 a = v a := fun a ha => (show v1 a = v a by rw [hv1, gu_n _ _ (by omega)]).trans (hY0 a ha)
  have hZ1 : zr v1 (p) (p + 2) := fun a g1 g2 => by
    by_cases e : a = p + 1
    · rw [hv1, e, gu_s]
    · rw [hv1, gu_n _ _ e]; exact hZ0 a g1 (by omega)
  refine g_putR (q := 13) f_X1_11 rfl rfl hS1_p (Nat.le_of_ble_eq_true rfl) rfl rfl dX1_init_10 rfl ?_
  refine g_gs (fun σ2 hs2 => ?_)
  have ht2 : ∀ a, a ≠ p → σ2 a = σ1 a := fun a ha => by rw [hs2]; exact va_up_ne _ _ ha
  have hS2_arr : σ2 (p + 1) = some (.inr (.inr (1, List.replicate 6 none))) := (ht2 _ (by omega)).trans hS1_arr
  have hS2_p : σ2 (p) = some (.inl (1, [some (some (p + 1)), some none, some none, some none, some none, none, none, none, none])) := by rw [hs2]; exact va_up_self _ _ _
  have hB2 : ∀ a, a < p → σ2 a = σ a := fun a ha => (ht2 a (by omega)).trans (hB1 a ha)
  refine g_aload_n (q := 14) dX1_init_13 rfl rfl ?_
  refine g_bipush (q := 16) (x := 6) dX1_init_14 (by decide) rfl ?_
  refine g_anew (q := 19) (n := 6) (k0 := 5) na_X1_17 (List.mem_of_getElem? (i := 4) rfl) rfl (by decide) (by decide) (by decide) (by decide) dX1_init_16 rfl ?_
  refine g_nm (lim' := p + 3) (kc' := 2) (ks' := 12) (by omega) (by omega) (by omega) ?_
  refine g_gs (fun σ3 hs3 => ?_)
  have ht3 : ∀ a, a ≠ p + 2 → σ3 a = σ2 a := fun a ha => by rw [hs3]; exact va_up_ne _ _ ha
  have hS3_p : σ3 (p) = some (.inl (1, [some (some (p + 1)), some none, some none, some none, some none, none, none, none, none])) := (ht3 _ (by omega)).trans hS2_p
  have hS3_arr : σ3 (p + 1) = some (.inr (.inr (1, List.replicate 6 none))) := (ht3 _ (by omega)).trans hS2_arr
  have hS3_arr2 : σ3 (p + 2) = some (.inr (.inr (5, List.replicate 6 none))) := by rw [hs3]; exact va_up_self _ _ _
  have hB3 : ∀ a, a < p → σ3 a = σ a := fun a ha => (ht3 a (by omega)).trans (hB2 a ha)
  refine g_gv (fun v2 hv2 => ?_)
  have hY2 : ∀ a, a < p → v2 a = v a := fun a ha => (show v2 a = v1 a by rw [hv2, gu_n _ _ (by omega)]).trans (hY1 a ha)
  have hZ2 : zr v2 (p) (p + 3) := fun a g1 g2 => by
    by_cases e : a = p + 2
    · rw [hv2, e, gu_s]
    · rw [hv2, gu_n _ _ e]; exact hZ1 a g1 (by omega)
  refine g_putR (q := 22) f_X1_19 rfl rfl hS3_p (Nat.le_of_ble_eq_true rfl) rfl rfl dX1_init_19 rfl ?_
  refine g_gs (fun σ4 hs4 => ?_)
  have ht4 : ∀ a, a ≠ p → σ4 a = σ3 a := fun a ha => by rw [hs4]; exact va_up_ne _ _ ha
  have hS4_arr : σ4 (p + 1) = some (.inr (.inr (1, List.replicate 6 none))) := (ht4 _ (by omega)).trans hS3_arr
  have hS4_arr2 : σ4 (p + 2) = some (.inr (.inr (5, List.replicate 6 none))) := (ht4 _ (by omega)).trans hS3_arr2
  have hS4_p : σ4 (p) = some (.inl (1, [some (some (p + 1)), some (some (p + 2)), some none, some none, some none, none, none, none, none])) := by rw [hs4]; exact va_up_self _ _ _
  have hB4 : ∀ a, a < p → σ4 a = σ a := fun a ha => (ht4 a (by omega)).trans (hB3 a ha)
  refine g_aload_n (q := 23) dX1_init_22 rfl rfl ?_
  refine g_bipush (q := 25) (x := 6) dX1_init_23 (by decide) rfl ?_
  refine g_anew (q := 28) (n := 6) (k0 := 6) na_X1_23 (List.mem_of_getElem? (i := 5) rfl) rfl (by decide) (by decide) (by decide) (by decide) dX1_init_25 rfl ?_
  refine g_nm (lim' := p + 4) (kc' := 3) (ks' := 18) (by omega) (by omega) (by omega) ?_
  refine g_gs (fun σ5 hs5 => ?_)
  have ht5 : ∀ a, a ≠ p + 3 → σ5 a = σ4 a := fun a ha => by rw [hs5]; exact va_up_ne _ _ ha
  have hS5_p : σ5 (p) = some (.inl (1, [some (some (p + 1)), some (some (p + 2)), some none, some none, some none, none, none, none, none])) := (ht5 _ (by omega)).trans hS4_p
  have hS5_arr : σ5 (p + 1) = some (.inr (.inr (1, List.replicate 6 none))) := (ht5 _ (by omega)).trans hS4_arr
  have hS5_arr2 : σ5 (p + 2) = some (.inr (.inr (5, List.replicate 6 none))) := (ht5 _ (by omega)).trans hS4_arr2
  have hS5_arr3 : σ5 (p + 3) = some (.inr (.inr (6, List.replicate 6 none))) := by rw [hs5]; exact va_up_self _ _ _
  have hB5 : ∀ a, a < p → σ5 a = σ a := fun a ha => (ht5 a (by omega)).trans (hB4 a ha)
  refine g_gv (fun v3 hv3 => ?_)
  have hY3 : ∀ a, a < p → v3 a = v a := fun a ha => (show v3 a = v2 a by rw [hv3, gu_n _ _ (by omega)]).trans (hY2 a ha)
  have hZ3 : zr v3 (p) (p + 4) := fun a g1 g2 => by
    by_cases e : a = p + 3
    · rw [hv3, e, gu_s]
    · rw [hv3, gu_n _ _ e]; exact hZ2 a g1 (by omega)
  refine g_putR (q := 31) f_X1_25 rfl rfl hS5_p (Nat.le_of_ble_eq_true rfl) rfl rfl dX1_init_28 rfl ?_
  refine g_gs (fun σ6 hs6 => ?_)
  have ht6 : ∀ a, a ≠ p → σ6 a = σ5 a := fun a ha => by rw [hs6]; exact va_up_ne _ _ ha
  have hS6_arr : σ6 (p + 1) = some (.inr (.inr (1, List.replicate 6 none))) := (ht6 _ (by omega)).trans hS5_arr
  have hS6_arr2 : σ6 (p + 2) = some (.inr (.inr (5, List.replicate 6 none))) := (ht6 _ (by omega)).trans hS5_arr2
  have hS6_arr3 : σ6 (p + 3) = some (.inr (.inr (6, List.replicate 6 none))) := (ht6 _ (by omega)).trans hS5_arr3
  have hS6_p : σ6 (p) = some (.inl (1, [some (some (p + 1)), some (some (p + 2)), some (some (p + 3)), some none, some none, none, none, none, none])) := by rw [hs6]; exact va_up_self _ _ _
  have hB6 : ∀ a, a < p → σ6 a = σ a := fun a ha => (ht6 a (by omega)).trans (hB5 a ha)
  refine g_aload_n (q := 32) dX1_init_31 rfl rfl ?_
  refine g_new (q := 35) n_X1_29 (by decide) (by decide) dX1_init_32 rfl ?_
  refine g_nm (lim' := p + 5) (kc' := 4) (ks' := 20) (by omega) (by omega) (by omega) ?_
  refine g_gs (fun σ7 hs7 => ?_)
  have ht7 : ∀ a, a ≠ p + 4 → σ7 a = σ6 a := fun a ha => by rw [hs7]; exact va_up_ne _ _ ha
  have hS7_p : σ7 (p) = some (.inl (1, [some (some (p + 1)), some (some (p + 2)), some (some (p + 3)), some none, some none, none, none, none, none])) := (ht7 _ (by omega)).trans hS6_p
  have hS7_arr : σ7 (p + 1) = some (.inr (.inr (1, List.replicate 6 none))) := (ht7 _ (by omega)).trans hS6_arr
  have hS7_arr2 : σ7 (p + 2) = some (.inr (.inr (5, List.replicate 6 none))) := (ht7 _ (by omega)).trans hS6_arr2
  have hS7_arr3 : σ7 (p + 3) = some (.inr (.inr (6, List.replicate 6 none))) := (ht7 _ (by omega)).trans hS6_arr3
  have hS7_o : σ7 (p + 4) = some (.inl (5, [some none, none])) := by rw [hs7]; exact va_up_self _ _ _
  have hB7 : ∀ a, a < p → σ7 a = σ a := fun a ha => (ht7 a (by omega)).trans (hB6 a ha)
  refine g_gv (fun v4 hv4 => ?_)
  have hY4 : ∀ a, a < p → v4 a = v a := fun a ha => (show v4 a = v3 a by rw [hv4, gu_n _ _ (by omega)]).trans (hY3 a ha)
  have hZ4 : zr v4 (p) (p + 5) := fun a g1 g2 => by
    by_cases e : a = p + 4
    · rw [hv4, e, gu_s]
    · rw [hv4, gu_n _ _ e]; exact hZ3 a g1 (by omega)
  refine g_dup (q := 36) dX1_init_35 rfl rfl ?_
  refine c_I (q := 39) (p_X5_init (p := p + 4) (by omega) hS7_o (hZ4 _ (by omega) (by omega))) k_X1_31 (by decide) rfl rfl (Nat.le_of_ble_eq_true rfl) (nc := 1) (ns := 6) rfl rfl (by decide) (by decide) dX1_init_36 rfl ?_
  rintro σ8 v5 ⟨hq8, ⟨hk8, hj8⟩, hzz8⟩
  refine g_nm (lim' := p + 6) (kc' := 5) (ks' := 26) (by omega) (by omega) (by omega) ?_
  have ht8 : ∀ a, a < p + 4 → σ8 a = σ7 a := hk8
  have hS8_p : σ8 (p) = some (.inl (1, [some (some (p + 1)), some (some (p + 2)), some (some (p + 3)), some none, some none, none, none, none, none])) := (ht8 _ (by omega)).trans hS7_p
  have hS8_arr : σ8 (p + 1) = some (.inr (.inr (1, List.replicate 6 none))) := (ht8 _ (by omega)).trans hS7_arr
  have hS8_arr2 : σ8 (p + 2) = some (.inr (.inr (5, List.replicate 6 none))) := (ht8 _ (by omega)).trans hS7_arr2
  have hS8_arr3 : σ8 (p + 3) = some (.inr (.inr (6, List.replicate 6 none))) := (ht8 _ (by omega)).trans hS7_arr3
  have hS8_w : rsh σ8 (p + 4) := hq8
  have hB8 : ∀ a, a < p → σ8 a = σ a := fun a ha => (ht8 a (by omega)).trans (hB7 a ha)
  have hY5 : ∀ a, a < p → v5 a = v a := fun a ha => (hj8 a (by omega)).trans (hY4 a ha)
  have hZ5 : zr v5 (p) (p + 6) := fun a g1 g2 => by
    by_cases e : a < p + 4
    · rw [hj8 a e]; exact hZ4 a g1 (by omega)
    · exact hzz8 a (by omega) (by omega)
  refine g_putR (q := 42) f_X1_32 rfl rfl hS8_p (Nat.le_of_ble_eq_true rfl) rfl rfl dX1_init_39 rfl ?_
  refine g_gs (fun σ9 hs9 => ?_)
  have ht9 : ∀ a, a ≠ p → σ9 a = σ8 a := fun a ha => by rw [hs9]; exact va_up_ne _ _ ha
  have hS9_arr : σ9 (p + 1) = some (.inr (.inr (1, List.replicate 6 none))) := (ht9 _ (by omega)).trans hS8_arr
  have hS9_arr2 : σ9 (p + 2) = some (.inr (.inr (5, List.replicate 6 none))) := (ht9 _ (by omega)).trans hS8_arr2
  have hS9_arr3 : σ9 (p + 3) = some (.inr (.inr (6, List.replicate 6 none))) := (ht9 _ (by omega)).trans hS8_arr3
  have hS9_w : rsh σ9 (p + 4) := rsh_k hS8_w (fun a g1 g2 => ht9 a (by omega))
  have hS9_p : σ9 (p) = some (.inl (1, [some (some (p + 1)), some (some (p + 2)), some (some (p + 3)), some (some (p + 4)), some none, none, none, none, none])) := by rw [hs9]; exact va_up_self _ _ _
  have hB9 : ∀ a, a < p → σ9 a = σ a := fun a ha => (ht9 a (by omega)).trans (hB8 a ha)
  refine g_aload_n (q := 43) dX1_init_42 rfl rfl ?_
  refine g_new (q := 46) n_X1_36 (by decide) (by decide) dX1_init_43 rfl ?_
  refine g_nm (lim' := p + 7) (kc' := 6) (ks' := 30) (by omega) (by omega) (by omega) ?_
  refine g_gs (fun σ10 hs10 => ?_)
  have ht10 : ∀ a, a ≠ p + 6 → σ10 a = σ9 a := fun a ha => by rw [hs10]; exact va_up_ne _ _ ha
  have hS10_p : σ10 (p) = some (.inl (1, [some (some (p + 1)), some (some (p + 2)), some (some (p + 3)), some (some (p + 4)), some none, none, none, none, none])) := (ht10 _ (by omega)).trans hS9_p
  have hS10_arr : σ10 (p + 1) = some (.inr (.inr (1, List.replicate 6 none))) := (ht10 _ (by omega)).trans hS9_arr
  have hS10_arr2 : σ10 (p + 2) = some (.inr (.inr (5, List.replicate 6 none))) := (ht10 _ (by omega)).trans hS9_arr2
  have hS10_arr3 : σ10 (p + 3) = some (.inr (.inr (6, List.replicate 6 none))) := (ht10 _ (by omega)).trans hS9_arr3
  have hS10_w : rsh σ10 (p + 4) := rsh_k hS9_w (fun a g1 g2 => ht10 a (by omega))
  have hS10_g : σ10 (p + 6) = some (.inl (2, [none, none, none, none])) := by rw [hs10]; exact va_up_self _ _ _
  have hB10 : ∀ a, a < p → σ10 a = σ a := fun a ha => (ht10 a (by omega)).trans (hB9 a ha)
  refine g_gv (fun v6 hv6 => ?_)
  have hY6 : ∀ a, a < p → v6 a = v a := fun a ha => (show v6 a = v5 a by rw [hv6, gu_n _ _ (by omega)]).trans (hY5 a ha)
  have hZ6 : zr v6 (p) (p + 7) := fun a g1 g2 => by
    by_cases e : a = p + 6
    · rw [hv6, e, gu_s]
    · rw [hv6, gu_n _ _ e]; exact hZ5 a g1 (by omega)
  refine g_dup (q := 47) dX1_init_46 rfl rfl ?_
  refine c_I (q := 50) (p_X2_init) k_X1_38 (by decide) rfl rfl (Nat.le_of_ble_eq_true rfl) (nc := 0) (ns := 0) rfl rfl (by decide) (by decide) dX1_init_47 rfl ?_
  rintro sx vx ⟨hqa, hqb⟩
  subst sx
  subst vx
  refine g_putR (q := 53) f_X1_39 rfl rfl hS10_p (Nat.le_of_ble_eq_true rfl) rfl rfl dX1_init_50 rfl ?_
  refine g_gs (fun σ11 hs11 => ?_)
  have ht11 : ∀ a, a ≠ p → σ11 a = σ10 a := fun a ha => by rw [hs11]; exact va_up_ne _ _ ha
  have hS11_arr : σ11 (p + 1) = some (.inr (.inr (1, List.replicate 6 none))) := (ht11 _ (by omega)).trans hS10_arr
  have hS11_arr2 : σ11 (p + 2) = some (.inr (.inr (5, List.replicate 6 none))) := (ht11 _ (by omega)).trans hS10_arr2
  have hS11_arr3 : σ11 (p + 3) = some (.inr (.inr (6, List.replicate 6 none))) := (ht11 _ (by omega)).trans hS10_arr3
  have hS11_w : rsh σ11 (p + 4) := rsh_k hS10_w (fun a g1 g2 => ht11 a (by omega))
  have hS11_g : σ11 (p + 6) = some (.inl (2, [none, none, none, none])) := (ht11 _ (by omega)).trans hS10_g
  have hS11_p : σ11 (p) = some (sh_floor p) := by rw [hs11]; exact va_up_self _ _ _
  have hB11 : ∀ a, a < p → σ11 a = σ a := fun a ha => (ht11 a (by omega)).trans (hB10 a ha)
  refine g_iconst (q := 54) (x := 0) dX1_init_53 (by decide) rfl ?_
  refine g_istore_n (q := 55) dX1_init_54 rfl rfl rfl rfl ?_
  dsimp only [List.set]
  refine g_nm (lim' := p + 7 + 6 * 0) (kc' := 6 + 6 * 0) (ks' := 30 + 29 * 0) (by omega) (by omega) (by omega) ?_
  refine lp1 6 0 σ11 v6 (by omega) ?_ ?_ ?_ ?_ ?_ ?_ ?_ ?_ ?_ ?_
  · exact hS11_p
  · exact hS11_w
  · exact hS11_g
  · exact hS11_arr2
  · exact hS11_arr3
  · rw [← pra_0]; exact hS11_arr
  · exact fun b hb => absurd hb (by omega)
  · exact hB11
  · exact hY6
  · rw [show p + 7 + 6 * 0 = p + 7 by omega]; exact hZ6
