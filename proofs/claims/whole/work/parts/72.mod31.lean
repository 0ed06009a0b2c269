set_option maxRecDepth 100000 in
set_option maxHeartbeats 4000000 in
theorem p_X11_leavesState2 {X : gj_X} {lim : Nat} {σ : gj_H} {v : gj_V} {m : Nat} {A : aS} {t : Int32} {l : List (aS × Int32)} {tx : List Int32} {c : Nat → Int32} (hs : msh σ m) (hG : MG v m A t l tx c) : gj_E X 0 m_X11_leavesState [.ref m] lim σ v (q_v lim σ (fun v' => (MG v' m A t (h_push l (A, t)) tx c ∧ v' (m + 2) = v (m + 2)) ∧ ((∀ a, a ≠ m → a ≠ m + 3 → v' a = v a) ∧ v' m 9 = v m 9))) := by
  obtain ⟨so, s1, s2, s3, s4, s5, s6, s7, s8, s9, s10, s11, s12⟩ := id hs
  have mid : ∀ (w : gj_V) (l1 : List (aS × Int32)), mK (w (m + 3)) l1 → l1.length < 6 → h_push l (A, t) = l1 ++ [(A, t)] → w m 2 = nI l1.length → w m 6 = v m 6 → w m 9 = v m 9 → (∀ a, a ≠ m → a ≠ m + 3 → w a = v a) → gj_G X 0 m_X11_leavesState (q_v lim σ (fun v' => (MG v' m A t (h_push l (A, t)) tx c ∧ v' (m + 2) = v (m + 2)) ∧ ((∀ a, a ≠ m → a ≠ m + 3 → v' a = v a) ∧ v' m 9 = v m 9))) lim σ w 0 0 52 [some (.ref m), some (.int (nI 0))] [] := by
    intro w l1 g1 hl5 hp g2 g6 g9 g3
    have en : w (m + 2) = v (m + 2) := g3 _ (by omega) (by omega)
    have lp : ∀ (k i : Nat) (x : gj_V), x = gj_up w (m + 3) (cpn (w (m + 3)) (w (m + 2)) l1.length i) → i + k = 320 → gj_G X 0 m_X11_leavesState (q_v lim σ (fun v' => (MG v' m A t (h_push l (A, t)) tx c ∧ v' (m + 2) = v (m + 2)) ∧ ((∀ a, a ≠ m → a ≠ m + 3 → v' a = v a) ∧ v' m 9 = v m 9))) lim σ x 0 0 52 [some (.ref m), some (.int (nI i))] [] := by
     intro k
     induction k with
     | zero =>
      intro i x hx hk
      have ei : i = 320 := by omega
      subst i
      have eq3 := congrFun hx (m + 3)
      rw [gu_s] at eq3
      have eq2 := congrFun hx (m + 2)
      rw [gu_n _ _ (by omega)] at eq2
      have em : ∀ k, x m k = w m k := fun k => by rw [hx, gu_n _ _ (by omega)]
      refine g_iload_n (q := 53) dX11_leavesState_52 rfl rfl ?_
      refine g_sipush (q := 56) (x := 320) dX11_leavesState_53 (by decide) rfl ?_
      refine g_icmpge (t := 86) (q := 59) dX11_leavesState_56 (by decide) rfl (fun hq56 => ?_) (fun hq56 => ?_)
      · refine g_aload_n (q := 87) dX11_leavesState_86 rfl rfl ?_
        refine g_dup (q := 88) dX11_leavesState_87 rfl rfl ?_
        refine g_getI (q := 91) f_X11_61 (by assumption) rfl dX11_leavesState_88 rfl ?_
        rw [em 2, g2]
        refine g_iconst (q := 92) (x := 1) dX11_leavesState_91 (by decide) rfl ?_
        refine g_iadd (q := 93) dX11_leavesState_92 rfl ?_
        refine g_putI (q := 96) f_X11_61 (by assumption) rfl rfl rfl dX11_leavesState_93 rfl ?_
        rw [show nI l1.length + 1 = nI (l1.length + 1) from nI_1 _]
        refine g_gen (fun vq9 hvq9 => ?_)
        have x0 : ∀ a, a ≠ m → vq9 a = x a := fun a ha => by rw [hvq9, gu_2]; exact gu_n _ _ ha
        have x2 : vq9 m 2 = nI (l1.length + 1) := by rw [hvq9, gu_2, gu_s, ud_s]
        have x6 : vq9 m 6 = x m 6 := by rw [hvq9, gu_2, gu_s]; exact ud_n _ _ (by decide)
        have x9 : vq9 m 9 = x m 9 := by rw [hvq9, gu_2, gu_s]; exact ud_n _ _ (by decide)
        refine r_v dX11_leavesState_96 rfl rfl rfl ?_
        obtain ⟨hq1, hq2, hq3, hq4, hq5, hq6, hq7⟩ := hG
        have o : ∀ a, a ≠ m → a ≠ m + 3 → vq9 a = v a := fun a q1 q2 => by rw [x0 a q1, hx, gu_n _ _ q2]; exact g3 a q1 q2
        have hk : mK (vq9 (m + 3)) (l1 ++ [(A, t)]) := by
          rw [x0 _ (by omega), hx, gu_s, en]
          exact mK_push g1 hl5 hq1
        refine ⟨⟨⟨?_, ?_, ?_, ?_, ?_, hq6, ?_⟩, o _ (by omega) (by omega)⟩, o, by rw [x9, em 9, g9]⟩
        · rw [o _ (by omega) (by omega)]; exact hq1
        · rw [o _ (by omega) (by omega)]; exact hq2
        · rw [x2, hp]; simp
        · rw [hp]; exact hk
        · rw [x6, em 6, g6]; exact hq5
        · rw [o _ (by omega) (by omega)]; exact hq7
      · exact absurd (Int32.le_refl _) hq56
     | succ k ih =>
      intro i x hx hk
      have eq3 := congrFun hx (m + 3)
      rw [gu_s] at eq3
      have eq2 := congrFun hx (m + 2)
      rw [gu_n _ _ (by omega)] at eq2
      have em : ∀ k, x m k = w m k := fun k => by rw [hx, gu_n _ _ (by omega)]
      refine g_iload_n (q := 53) dX11_leavesState_52 rfl rfl ?_
      refine g_sipush (q := 56) (x := 320) dX11_leavesState_53 (by decide) rfl ?_
      refine g_icmpge (t := 86) (q := 59) dX11_leavesState_56 (by decide) rfl (fun hq56 => ?_) (fun hq56 => ?_)
      · exact absurd (gn_le (n := 320) hq56 (by omega)) (by omega)
      · refine g_aload_n (q := 60) dX11_leavesState_59 rfl rfl ?_
        refine g_getR (q := 63) f_X11_16 (by assumption) rfl dX11_leavesState_60 rfl ?_
        refine g_sipush (q := 66) (x := 320) dX11_leavesState_63 (by decide) rfl ?_
        refine g_aload_n (q := 67) dX11_leavesState_66 rfl rfl ?_
        refine g_getI (q := 70) f_X11_61 (by assumption) rfl dX11_leavesState_67 rfl ?_
        rw [em 2, g2]
        refine g_imul (q := 71) dX11_leavesState_70 rfl ?_
        refine g_iload_n (q := 72) dX11_leavesState_71 rfl rfl ?_
        refine g_iadd (q := 73) dX11_leavesState_72 rfl ?_
        refine g_aload_n (q := 74) dX11_leavesState_73 rfl rfl ?_
        refine g_getR (q := 77) f_X11_13 (by assumption) rfl dX11_leavesState_74 rfl ?_
        refine g_iload_n (q := 78) dX11_leavesState_77 rfl rfl ?_
        refine g_iald (q := 79) (by assumption) rfl (by omega) (by decide) dX11_leavesState_78 rfl ?_
        refine g_iast (q := 80) (by assumption) (show 320 * nI l1.length + nI i = nI (320 * l1.length + i) by simp only [gn_lit, nI_add, pk_mul]) (by omega) (by decide) dX11_leavesState_79 rfl ?_
        refine g_gen (fun x3 hxq3 => ?_)
        rw [gu_2, eq3, eq2, cpn_s, hx, gu_u] at hxq3
        refine g_iinc (q := 83) (y := nI (i + 1)) dX11_leavesState_80 rfl (gn_inc i) rfl rfl rfl rfl ?_
        dsimp only [List.set]
        refine g_goto (q := 52) dX11_leavesState_83 (by decide) ?_
        exact ih (i + 1) x3 hxq3 (by omega)
    exact lp 320 0 w (by rw [cpn_0, gu_id]) (by omega)
  have lp1 : l.length = 6 → ∀ (k i : Nat) (x : gj_V), x = gj_up v (m + 3) (sh5 (v (m + 3)) i) → i + k = 1600 → gj_G X 0 m_X11_leavesState (q_v lim σ (fun v' => (MG v' m A t (h_push l (A, t)) tx c ∧ v' (m + 2) = v (m + 2)) ∧ ((∀ a, a ≠ m → a ≠ m + 3 → v' a = v a) ∧ v' m 9 = v m 9))) lim σ x 0 0 11 [some (.ref m), some (.int (nI i))] [] := by
      intro hl6 k
      induction k with
      | zero =>
        intro i x hx hk
        have ei : i = 1600 := by omega
        subst i
        have eq3 := congrFun hx (m + 3)
        rw [gu_s] at eq3
        have em : ∀ k, x m k = v m k := fun k => by rw [hx, gu_n _ _ (by omega)]
        refine g_iload_n (q := 12) dX11_leavesState_11 rfl rfl ?_
        refine g_sipush (q := 15) (x := 1600) dX11_leavesState_12 (by decide) rfl ?_
        refine g_icmpge (t := 40) (q := 18) dX11_leavesState_15 (by decide) rfl (fun hq15 => ?_) (fun hq15 => ?_)
        · refine g_aload_n (q := 41) dX11_leavesState_40 rfl rfl ?_
          refine g_dup (q := 42) dX11_leavesState_41 rfl rfl ?_
          refine g_getI (q := 45) f_X11_61 (by assumption) rfl dX11_leavesState_42 rfl ?_
          rw [em 2, hG.2.2.1, hl6]
          refine g_iconst (q := 46) (x := 1) dX11_leavesState_45 (by decide) rfl ?_
          refine g_isub (q := 47) dX11_leavesState_46 rfl ?_
          refine g_putI (q := 50) f_X11_61 (by assumption) rfl rfl rfl dX11_leavesState_47 rfl ?_
          refine g_gen (fun vq9 hvq9 => ?_)
          have x0 : ∀ a, a ≠ m → vq9 a = x a := fun a ha => by rw [hvq9, gu_2]; exact gu_n _ _ ha
          have x2 : vq9 m 2 = nI 5 := by rw [hvq9, gu_2, gu_s, ud_s]; decide
          have x6 : vq9 m 6 = v m 6 := by rw [hvq9, gu_2, gu_s, ud_n _ _ (by decide)]; exact em 6
          have x9 : vq9 m 9 = v m 9 := by rw [hvq9, gu_2, gu_s, ud_n _ _ (by decide)]; exact em 9
          refine g_iconst (q := 51) (x := 0) dX11_leavesState_50 (by decide) rfl ?_
          refine g_istore_n (q := 52) dX11_leavesState_51 rfl rfl rfl rfl ?_
          dsimp only [List.set]
          exact mid vq9 (l.drop 1) (by rw [x0 _ (by omega), eq3]; exact mK_drop hG.2.2.2.1) (by simp; omega) (by unfold h_push; rw [if_neg (by omega)]) (by rw [x2]; simp [hl6]) x6 x9 (fun a q1 q2 => by rw [x0 a q1, hx, gu_n _ _ q2])
        · exact absurd (Int32.le_refl _) hq15
      | succ k ih =>
        intro i x hx hk
        have eq3 := congrFun hx (m + 3)
        rw [gu_s] at eq3
        have em : ∀ k, x m k = v m k := fun k => by rw [hx, gu_n _ _ (by omega)]
        refine g_iload_n (q := 12) dX11_leavesState_11 rfl rfl ?_
        refine g_sipush (q := 15) (x := 1600) dX11_leavesState_12 (by decide) rfl ?_
        refine g_icmpge (t := 40) (q := 18) dX11_leavesState_15 (by decide) rfl (fun hq15 => ?_) (fun hq15 => ?_)
        · exact absurd (gn_le (n := 1600) hq15 (by omega)) (by omega)
        · refine g_aload_n (q := 19) dX11_leavesState_18 rfl rfl ?_
          refine g_getR (q := 22) f_X11_16 (by assumption) rfl dX11_leavesState_19 rfl ?_
          refine g_iload_n (q := 23) dX11_leavesState_22 rfl rfl ?_
          refine g_aload_n (q := 24) dX11_leavesState_23 rfl rfl ?_
          refine g_getR (q := 27) f_X11_16 (by assumption) rfl dX11_leavesState_24 rfl ?_
          refine g_iload_n (q := 28) dX11_leavesState_27 rfl rfl ?_
          refine g_sipush (q := 31) (x := 320) dX11_leavesState_28 (by decide) rfl ?_
          refine g_iadd (q := 32) dX11_leavesState_31 rfl ?_
          refine g_iald (q := 33) (by assumption) (show nI i + 320 = nI (i + 320) by simp only [gn_lit, nI_add, pk_mul]) (by omega) (by decide) dX11_leavesState_32 rfl ?_
          refine g_iast (q := 34) (by assumption) rfl (by omega) (by decide) dX11_leavesState_33 rfl ?_
          refine g_gen (fun x3 hxq3 => ?_)
          rw [gu_2, eq3, sh5_s, hx, gu_u] at hxq3
          refine g_iinc (q := 37) (y := nI (i + 1)) dX11_leavesState_34 rfl (gn_inc i) rfl rfl rfl rfl ?_
          dsimp only [List.set]
          refine g_goto (q := 11) dX11_leavesState_37 (by decide) ?_
          exact ih (i + 1) x3 hxq3 (by omega)
  refine gj_E_at (L := [some (.ref m), none]) (k := 1) rfl (by decide) rfl ?_
  refine g_aload_n (q := 1) dX11_leavesState_0 rfl rfl ?_
  refine g_getI (q := 4) f_X11_61 (by assumption) rfl dX11_leavesState_1 rfl ?_
  rw [hG.2.2.1]
  refine g_bipush (q := 6) (x := 6) dX11_leavesState_4 (by decide) rfl ?_
  refine g_icmpne (t := 50) (q := 9) dX11_leavesState_6 (by decide) rfl (fun hq6 => ?_) (fun hq6 => ?_)
  · have hl6 : l.length < 6 := by
      have := hG.2.2.2.1.1
      rcases Nat.lt_or_ge l.length 6 with q | q
      · exact q
      · exact absurd (by rw [show l.length = 6 by omega]; rfl) hq6
    refine g_iconst (q := 51) (x := 0) dX11_leavesState_50 (by decide) rfl ?_
    refine g_istore_n (q := 52) dX11_leavesState_51 rfl rfl rfl rfl ?_
    dsimp only [List.set]
    exact mid v l hG.2.2.2.1 hl6 (by unfold h_push; rw [if_pos hl6]) hG.2.2.1 rfl rfl (fun _ _ _ => rfl)
  · have hl6 : l.length = 6 := nI_inj6 (b := 6) (by have := hG.2.2.2.1.1; omega) (by omega) hq6
    refine g_iconst (q := 10) (x := 0) dX11_leavesState_9 (by decide) rfl ?_
    refine g_istore_n (q := 11) dX11_leavesState_10 rfl rfl rfl rfl ?_
    dsimp only [List.set]
    exact lp1 hl6 1600 0 v (by rw [sh5_0, gu_id]) (by omega)

set_option maxRecDepth 100000 in
set_option maxHeartbeats 4000000 in
theorem p_X11_does {X : gj_X} {lim : Nat} {σ : gj_H} {v : gj_V} {m : Nat} {A : aS} {t : Int32} {l : List (aS × Int32)} {tx : List Int32} {c : Nat → Int32} {n sn : Nat} (hs : msh σ m) (hG : MG v m A t l tx c) (hI : IV A n sn) (hB : ∀ x ∈ tx, in_ x 0 127) : gj_E X 6 m_X11_does [.ref m] lim σ v (q_i lim σ (fun z v' => sp_does A t l tx c z (MG v' m) ∧ fm v v' m)) := by
  obtain ⟨so, s1, s2, s3, s4, s5, s6, s7, s8, s9, s10, s11, s12⟩ := id hs
  have hn6 := hI.2.1.2.2.2.1
  have hn1 := hI.2.1.2.2.1
  have hsn6 := hI.2.1.2.2.2.2.1
  have esn : sno A = sn := sn_eq hI
  have hM0 := hG.1
  refine gj_E_at (L := [some (.ref m), none]) (k := 1) rfl (by decide) rfl ?_
  refine g_aload_n (q := 1) dX11_does_0 rfl rfl ?_
  refine c_Vi (q := 4) (p_X11_reads hs ⟨hG.2.2.2.2.1, hG.2.2.2.2.2.1, hG.2.2.2.2.2.2⟩ hB) k_X11_214 (by assumption) rfl (by decide) rfl rfl (Nat.le_of_ble_eq_true rfl) rfl rfl dX11_does_1 rfl ?_
  rintro z vq1 ⟨hz, hfa, hfk⟩
  have hG1 : MG vq1 m A t l tx c := hG.oth (fun a ha => hfa a (by omega) (by omega)) (hfk 2 (by decide) (by decide) (by decide)) (hfk 6 (by decide) (by decide) (by decide))
  have E1 : fm v vq1 m := fun a ha => hfa a (by omega) (by omega)
  refine g_ifne (t := 15) (q := 7) dX11_does_4 (by decide) rfl (fun hq4 => ?_) (fun hq4 => ?_)
  · obtain ⟨hfl, hO, hA⟩ : flt tx 0 0 0 true = none ∧ ORD vq1 m (tz tx) ∧ MAT vq1 m (tz tx) := by
      rcases hz with q | q
      · exact q.2
      · exact absurd q.1 hq4
    refine g_aload_n (q := 16) dX11_does_15 rfl rfl ?_
    refine c_Vv (q := 19) (p_X11_leavesState2 hs hG1) k_X11_133 (by assumption) rfl (by decide) rfl rfl (Nat.le_of_ble_eq_true rfl) rfl rfl dX11_does_16 rfl ?_
    rintro vq2 ⟨⟨hG2, n2⟩, o2, o29⟩
    have hO2 : ORD vq2 m (tz tx) := ⟨by rw [o29]; exact hO.1, hO.2.1, by rw [o2 _ (by omega) (by omega), o2 _ (by omega) (by omega), o2 _ (by omega) (by omega), o2 _ (by omega) (by omega)]; exact hO.2.2⟩
    have hA2 : MAT vq2 m (tz tx) := by unfold MAT; rw [o2 _ (by omega) (by omega)]; exact hA
    have hM2 : MR (vq2 (m + 2)) A t sn := by rw [← esn]; exact hG2.1
    have E2 : fm v vq2 m := E1.tr (fun a ha => o2 a (by omega) (by omega))
    refine g_aload_n (q := 20) dX11_does_19 rfl rfl ?_
    refine c_Vi (q := 23) (p_X11_doesAll hs hM2 hO2 hA2 (bal_tz _ tx 0 0 true (Nat.le_refl _) hfl) hI) k_X11_218 (by assumption) rfl (by decide) rfl rfl (Nat.le_of_ble_eq_true rfl) rfl rfl dX11_does_20 rfl ?_
    rintro z3 vq3 ⟨hz3, hM3, o3⟩
    have iv2 := iv_does hI hfl
    have hM3 : MR (vq3 (m + 2)) (z_does A tx).2 t sn := hM3
    have E3 : fm v vq3 m := E2.tr (fun a ha => o3 a (by omega) (by omega) (by omega) (by omega))
    have hG3 : MG vq3 m (z_does A tx).2 t (h_push l (A, t)) tx c := by
      obtain ⟨k1, k2, k3, k4, k5, k6, k7⟩ := hG2
      refine ⟨by rw [show sno (z_does A tx).2 = sn from sn_eq iv2]; exact hM3, ?_, ?_, ?_, ?_, k6, ?_⟩
      · rw [o3 _ (by omega) (by omega) (by omega) (by omega)]; exact k2
      · rw [o3 _ (by omega) (by omega) (by omega) (by omega)]; exact k3
      · rw [o3 _ (by omega) (by omega) (by omega) (by omega)]; exact k4
      · rw [o3 _ (by omega) (by omega) (by omega) (by omega)]; exact k5
      · rw [o3 _ (by omega) (by omega) (by omega) (by omega)]; exact k7
    refine g_istore_n (q := 24) dX11_does_23 rfl rfl rfl rfl ?_
    dsimp only [List.set]
    refine g_aload_n (q := 25) dX11_does_24 rfl rfl ?_
    refine c_Vv (q := 28) (p_X11_serves hs hG3.1 iv2.1 hn6 iv2.2.2.1) k_X11_127 (by assumption) rfl (by decide) rfl rfl (Nat.le_of_ble_eq_true rfl) rfl rfl dX11_does_25 rfl ?_
    rintro vq4 hc4
    have hG4 := hG3.now hc4 ((sn_eq (IV_srv iv2)).trans (sn_eq iv2).symm)
    have E4 := E3.tr hc4.fm
    refine g_iload_n (q := 29) dX11_does_28 rfl rfl ?_
    refine r_i dX11_does_29 rfl rfl rfl ?_
    exact ⟨⟨fun i hi => absurd (hfl.symm.trans hi) (by simp), fun _ => ⟨hz3, hG4⟩⟩, E4⟩
  · obtain ⟨i, hi, hi2, hi7⟩ : ∃ i, flt tx 0 0 0 true = some i ∧ i ≤ 120 ∧ vq1 m 7 = nI i := by
      rcases hz with q | q
      · exact absurd (q.1.symm.trans hq4) (by decide)
      · exact q.2
    refine g_bipush (q := 9) (x := (-10)) dX11_does_7 (by decide) rfl ?_
    refine g_aload_n (q := 10) dX11_does_9 rfl rfl ?_
    refine g_getI (q := 13) f_X11_192 (by assumption) rfl dX11_does_10 rfl ?_
    rw [hi7]
    refine g_isub (q := 14) dX11_does_13 rfl ?_
    refine r_i dX11_does_14 rfl rfl rfl ?_
    refine ⟨⟨fun j hj => ?_, fun hj => absurd (hi.symm.trans hj) (by simp)⟩, E1⟩
    have ej : i = j := by have := hi.symm.trans hj; simpa using this
    rw [← ej]
    exact ⟨rfl, hG1⟩
