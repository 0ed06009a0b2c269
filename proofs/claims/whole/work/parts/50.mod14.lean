set_option maxRecDepth 100000 in
set_option maxHeartbeats 4000000 in
theorem p_X11_puts {X : gj_X} {lim : Nat} {σ : gj_H} {v : gj_V} {m : Nat} {A : aS} {t : Int32} {l : List (aS × Int32)} {tx : List Int32} {c : Nat → Int32} {n sn : Nat} (hs : msh σ m) (hG : MG v m A t l tx c) (hI : IV A n sn) {b k : Int32} : gj_E X 6 m_X11_puts [.ref m, .int b, .int k] lim σ v (q_i lim σ (fun z v' => sp_puts A t l tx c b k z (MG v' m) ∧ fm v v' m)) := by
  obtain ⟨so, s1, s2, s3, s4, s5, s6, s7, s8, s9, s10, s11, s12⟩ := id hs
  have hn6 := hI.2.1.2.2.2.1
  have hn1 := hI.2.1.2.2.1
  have hsn6 := hI.2.1.2.2.2.2.1
  have esn : sno A = sn := sn_eq hI
  have hM0 := hG.1
  refine gj_E_at (L := [some (.ref m), some (.int b), some (.int k), none]) (k := 1) rfl (by decide) rfl ?_
  refine g_aload_n (q := 1) dX11_puts_0 rfl rfl ?_
  refine g_iload_n (q := 2) dX11_puts_1 rfl rfl ?_
  refine c_Vi (q := 5) (p_X11_isBuffer hs hG.1 hI.2.1.1 hn6) k_X11_136 (by assumption) rfl (by decide) rfl rfl (Nat.le_of_ble_eq_true rfl) rfl rfl dX11_puts_2 rfl ?_
  rintro z w1 ⟨rfl, hw1⟩
  subst w1
  refine g_ifeq (t := 18) (q := 8) dX11_puts_5 (by decide) rfl (fun hq5 => ?_) (fun hq5 => ?_)
  · have hq5 := gn_b0 hq5
    refine g_aload_n (q := 19) dX11_puts_18 rfl rfl ?_
    refine c_Vi (q := 22) (p_X11_bad hs hG) k_X11_130 (by assumption) rfl (by decide) rfl rfl (Nat.le_of_ble_eq_true rfl) rfl rfl dX11_puts_19 rfl ?_
    rintro z w1 ⟨hz1, hG1, E1⟩
    refine r_i dX11_puts_22 rfl rfl rfl ?_
    rw [sp_puts, if_neg (by intro h; first | exact hq5 h.1 | exact hq15 h.2)]
    exact ⟨⟨hz1, hG1⟩, E1⟩
  · have hq5 := gn_b1 hq5
    refine g_iload_n (q := 9) dX11_puts_8 rfl rfl ?_
    refine g_iconst (q := 10) (x := 0) dX11_puts_9 (by decide) rfl ?_
    refine g_bipush (q := 12) (x := 9) dX11_puts_10 (by decide) rfl ?_
    refine c_Si (q := 15) p_X11_in k_X11_50 (by decide) rfl rfl (Nat.le_of_ble_eq_true rfl) rfl rfl dX11_puts_12 rfl ?_
    rintro z w1 ⟨rfl, hw1⟩
    subst w1
    refine g_ifne (t := 23) (q := 18) dX11_puts_15 (by decide) rfl (fun hq15 => ?_) (fun hq15 => ?_)
    · have hq15 := gn_b1 hq15
      have hcd := And.intro hq5 hq15
      obtain ⟨j, hj, rfl⟩ := a_has_of hI.2.1.1 (by omega) hq5
      have ej : iN (nI j) = j := iN_n (by omega)
      have j6 : j < 6 := by omega
      refine g_aload_n (q := 24) dX11_puts_23 rfl rfl ?_
      refine c_Vv (q := 27) (p_X11_leavesState hs hG) k_X11_133 (by assumption) rfl (by decide) rfl rfl (Nat.le_of_ble_eq_true rfl) rfl rfl dX11_puts_24 rfl ?_
      rintro vq1 ⟨⟨hG1, n1⟩, E1⟩
      have hM1 := hG1.1
      refine g_aload_n (q := 28) dX11_puts_27 rfl rfl ?_
      refine g_iload_n (q := 29) dX11_puts_28 rfl rfl ?_
      refine g_iload_n (q := 30) dX11_puts_29 rfl rfl ?_
      refine g_iconst (q := 31) (x := (-1)) dX11_puts_30 (by decide) rfl ?_
      refine c_Vi (q := 34) (p_X11_put hs hM1 j6 (k := k) (w := -1) (hI.1 j j6).1) k_X11_98 (by assumption) rfl (by decide) rfl rfl (Nat.le_of_ble_eq_true rfl) rfl rfl dX11_puts_31 rfl ?_
      rintro y2 vq2 ⟨hy2, hc2⟩
      have iv2 : IV (a_put A j k (-1)).2 n sn := iv_put hI hj hq15
      have hG2 := hG1.now hc2 ((sn_eq iv2).trans esn.symm)
      have E2 := E1.tr hc2.fm
      have q0 := (hG2.1.2.1 j j6).1
      refine g_ifeq (t := 51) (q := 37) dX11_puts_34 (by decide) rfl (fun hq34 => ?_) (fun hq34 => ?_)
      · rw [hy2] at hq34
        refine g_bipush (q := 53) (x := (-5)) dX11_puts_51 (by decide) rfl ?_
        refine g_istore_n (q := 54) dX11_puts_53 rfl rfl rfl rfl ?_
        dsimp only [List.set]
        refine g_aload_n (q := 55) dX11_puts_54 rfl rfl ?_
        refine c_Vv (q := 58) (p_X11_serves hs hG2.1 iv2.1 hn6 iv2.2.2.1) k_X11_127 (by assumption) rfl (by decide) rfl rfl (Nat.le_of_ble_eq_true rfl) rfl rfl dX11_puts_55 rfl ?_
        rintro vq3 hc3
        have hG3 := hG2.now hc3 ((sn_eq (IV_srv iv2)).trans (sn_eq iv2).symm)
        have E3 := E2.tr hc3.fm
        refine g_iload_n (q := 59) dX11_puts_58 rfl rfl ?_
        refine r_i dX11_puts_59 rfl rfl rfl ?_
        rw [sp_puts, if_pos hcd, ej]
        first | (rw [if_pos hq34]; exact ⟨⟨rfl, hG3⟩, E3⟩) | (rw [if_neg hq34]; exact ⟨⟨rfl, hG3⟩, E3⟩)
      · rw [hy2] at hq34
        refine g_aload_n (q := 38) dX11_puts_37 rfl rfl ?_
        refine g_getR (q := 41) f_X11_13 (by assumption) rfl dX11_puts_38 rfl ?_
        refine g_iload_n (q := 42) dX11_puts_41 rfl rfl ?_
        refine c_Si (q := 45) (p_X11_atBuffer (b := j)) k_X11_54 (by decide) rfl rfl (Nat.le_of_ble_eq_true rfl) rfl rfl dX11_puts_42 rfl ?_
        rintro z0 w1 ⟨hz0, hw1⟩
        subst w1
        subst z0
        refine g_iconst (q := 46) (x := 0) dX11_puts_45 (by decide) rfl ?_
        refine g_iadd (q := 47) dX11_puts_46 rfl ?_
        refine g_iald (q := 48) (by assumption) (by first | (simp only [gn_lit, nI_add, pk_mul]; exact rfl) | exact rfl) (by omega) (by decide) dX11_puts_47 rfl ?_
        rw [q0]
        refine g_goto (q := 53) dX11_puts_48 (by decide) ?_
        refine g_istore_n (q := 54) dX11_puts_53 rfl rfl rfl rfl ?_
        dsimp only [List.set]
        refine g_aload_n (q := 55) dX11_puts_54 rfl rfl ?_
        refine c_Vv (q := 58) (p_X11_serves hs hG2.1 iv2.1 hn6 iv2.2.2.1) k_X11_127 (by assumption) rfl (by decide) rfl rfl (Nat.le_of_ble_eq_true rfl) rfl rfl dX11_puts_55 rfl ?_
        rintro vq3 hc3
        have hG3 := hG2.now hc3 ((sn_eq (IV_srv iv2)).trans (sn_eq iv2).symm)
        have E3 := E2.tr hc3.fm
        refine g_iload_n (q := 59) dX11_puts_58 rfl rfl ?_
        refine r_i dX11_puts_59 rfl rfl rfl ?_
        rw [sp_puts, if_pos hcd, ej]
        first | (rw [if_pos hq34]; exact ⟨⟨rfl, hG3⟩, E3⟩) | (rw [if_neg hq34]; exact ⟨⟨rfl, hG3⟩, E3⟩)
    · have hq15 := gn_b0 hq15
      refine g_aload_n (q := 19) dX11_puts_18 rfl rfl ?_
      refine c_Vi (q := 22) (p_X11_bad hs hG) k_X11_130 (by assumption) rfl (by decide) rfl rfl (Nat.le_of_ble_eq_true rfl) rfl rfl dX11_puts_19 rfl ?_
      rintro z w1 ⟨hz1, hG1, E1⟩
      refine r_i dX11_puts_22 rfl rfl rfl ?_
      rw [sp_puts, if_neg (by intro h; first | exact hq5 h.1 | exact hq15 h.2)]
      exact ⟨⟨hz1, hG1⟩, E1⟩

set_option maxRecDepth 100000 in
set_option maxHeartbeats 4000000 in
theorem p_X11_takes {X : gj_X} {lim : Nat} {σ : gj_H} {v : gj_V} {m : Nat} {A : aS} {t : Int32} {l : List (aS × Int32)} {tx : List Int32} {c : Nat → Int32} {n sn : Nat} (hs : msh σ m) (hG : MG v m A t l tx c) (hI : IV A n sn) {b : Int32} : gj_E X 6 m_X11_takes [.ref m, .int b] lim σ v (q_i lim σ (fun z v' => sp_takes A t l tx c b z (MG v' m) ∧ fm v v' m)) := by
  obtain ⟨so, s1, s2, s3, s4, s5, s6, s7, s8, s9, s10, s11, s12⟩ := id hs
  have hn6 := hI.2.1.2.2.2.1
  have hn1 := hI.2.1.2.2.1
  have hsn6 := hI.2.1.2.2.2.2.1
  have esn : sno A = sn := sn_eq hI
  have hM0 := hG.1
  refine gj_E_at (L := [some (.ref m), some (.int b), none]) (k := 1) rfl (by decide) rfl ?_
  refine g_aload_n (q := 1) dX11_takes_0 rfl rfl ?_
  refine g_iload_n (q := 2) dX11_takes_1 rfl rfl ?_
  refine c_Vi (q := 5) (p_X11_isBuffer hs hG.1 hI.2.1.1 hn6) k_X11_136 (by assumption) rfl (by decide) rfl rfl (Nat.le_of_ble_eq_true rfl) rfl rfl dX11_takes_2 rfl ?_
  rintro z w1 ⟨rfl, hw1⟩
  subst w1
  refine g_ifne (t := 13) (q := 8) dX11_takes_5 (by decide) rfl (fun hq5 => ?_) (fun hq5 => ?_)
  · have hq5 := gn_b1 hq5
    have hcd := hq5
    obtain ⟨j, hj, rfl⟩ := a_has_of hI.2.1.1 (by omega) hq5
    have ej : iN (nI j) = j := iN_n (by omega)
    have j6 : j < 6 := by omega
    refine g_aload_n (q := 14) dX11_takes_13 rfl rfl ?_
    refine c_Vv (q := 17) (p_X11_leavesState hs hG) k_X11_133 (by assumption) rfl (by decide) rfl rfl (Nat.le_of_ble_eq_true rfl) rfl rfl dX11_takes_14 rfl ?_
    rintro vq1 ⟨⟨hG1, n1⟩, E1⟩
    have hM1 := hG1.1
    refine g_aload_n (q := 18) dX11_takes_17 rfl rfl ?_
    refine g_iload_n (q := 19) dX11_takes_18 rfl rfl ?_
    refine g_iconst (q := 20) (x := (-1)) dX11_takes_19 (by decide) rfl ?_
    refine c_Vi (q := 23) (p_X11_take hs hM1 (w := -1) j6 (hI.1 j j6).2.2) k_X11_95 (by assumption) rfl (by decide) rfl rfl (Nat.le_of_ble_eq_true rfl) rfl rfl dX11_takes_20 rfl ?_
    rintro y2 vq2 ⟨hy2, hc2⟩
    have iv2 : IV (a_take A j (-1)).2 n sn := iv_take hI hj
    have hG2 := hG1.now hc2 ((sn_eq iv2).trans esn.symm)
    have E2 := E1.tr hc2.fm
    refine g_istore_n (q := 24) dX11_takes_23 rfl rfl rfl rfl ?_
    dsimp only [List.set]
    refine g_aload_n (q := 25) dX11_takes_24 rfl rfl ?_
    refine c_Vv (q := 28) (p_X11_serves hs hG2.1 iv2.1 hn6 iv2.2.2.1) k_X11_127 (by assumption) rfl (by decide) rfl rfl (Nat.le_of_ble_eq_true rfl) rfl rfl dX11_takes_25 rfl ?_
    rintro vq3 hc3
    have hG3 := hG2.now hc3 ((sn_eq (IV_srv iv2)).trans (sn_eq iv2).symm)
    have E3 := E2.tr hc3.fm
    refine g_iload_n (q := 29) dX11_takes_28 rfl rfl ?_
    refine g_iconst (q := 30) (x := (-1)) dX11_takes_29 (by decide) rfl ?_
    refine g_icmpne (t := 38) (q := 33) dX11_takes_30 (by decide) rfl (fun hq30 => ?_) (fun hq30 => ?_)
    · have ht : ¬ (a_take A j (-1)).1 = -5 := fun z => hq30 (by rw [hy2, if_pos z])
      rw [if_neg ht] at hy2
      refine g_iload_n (q := 39) dX11_takes_38 rfl rfl ?_
      refine r_i dX11_takes_39 rfl rfl rfl ?_
      rw [sp_takes, if_pos hcd, ej]
      first | exact ⟨⟨hy2, hG3⟩, E3⟩ | (rw [ht]; exact ⟨⟨rfl, hG3⟩, E3⟩)
    · have ht : (a_take A j (-1)).1 = -5 := by
        by_cases z : (a_take A j (-1)).1 = -5
        · exact z
        · rw [hy2, if_neg z] at hq30
          exact absurd (b_take_kind (hI.1 j j6) z).2.2.1 (by rw [show (b_take (gB A j) (-1)).1 = -1 from hq30]; decide)
      refine g_bipush (q := 35) (x := (-5)) dX11_takes_33 (by decide) rfl ?_
      refine g_goto (q := 39) dX11_takes_35 (by decide) ?_
      refine r_i dX11_takes_39 rfl rfl rfl ?_
      rw [sp_takes, if_pos hcd, ej]
      first | exact ⟨⟨hy2, hG3⟩, E3⟩ | (rw [ht]; exact ⟨⟨rfl, hG3⟩, E3⟩)
  · have hq5 := gn_b0 hq5
    refine g_aload_n (q := 9) dX11_takes_8 rfl rfl ?_
    refine c_Vi (q := 12) (p_X11_bad hs hG) k_X11_130 (by assumption) rfl (by decide) rfl rfl (Nat.le_of_ble_eq_true rfl) rfl rfl dX11_takes_9 rfl ?_
    rintro z w1 ⟨hz1, hG1, E1⟩
    refine r_i dX11_takes_12 rfl rfl rfl ?_
    rw [sp_takes, if_neg (by intro h; first | exact hq5 h)]
    exact ⟨⟨hz1, hG1⟩, E1⟩

set_option maxRecDepth 100000 in
set_option maxHeartbeats 4000000 in
theorem p_X11_moves {X : gj_X} {lim : Nat} {σ : gj_H} {v : gj_V} {m : Nat} {A : aS} {t : Int32} {l : List (aS × Int32)} {tx : List Int32} {c : Nat → Int32} {n sn : Nat} (hs : msh σ m) (hG : MG v m A t l tx c) (hI : IV A n sn) {a b m0 u : Int32} : gj_E X 6 m_X11_moves [.ref m, .int a, .int b, .int m0, .int u] lim σ v (q_i lim σ (fun z v' => sp_moves A t l tx c a b m0 u z (MG v' m) ∧ fm v v' m)) := by
  obtain ⟨so, s1, s2, s3, s4, s5, s6, s7, s8, s9, s10, s11, s12⟩ := id hs
  have hn6 := hI.2.1.2.2.2.1
  have hn1 := hI.2.1.2.2.1
  have hsn6 := hI.2.1.2.2.2.2.1
  have esn : sno A = sn := sn_eq hI
  have hM0 := hG.1
  refine gj_E_at (L := [some (.ref m), some (.int a), some (.int b), some (.int m0), some (.int u), none, none]) (k := 2) rfl (by decide) rfl ?_
  refine g_aload_n (q := 1) dX11_moves_0 rfl rfl ?_
  refine g_iload_n (q := 2) dX11_moves_1 rfl rfl ?_
  refine c_Vi (q := 5) (p_X11_isBuffer hs hG.1 hI.2.1.1 hn6) k_X11_136 (by assumption) rfl (by decide) rfl rfl (Nat.le_of_ble_eq_true rfl) rfl rfl dX11_moves_2 rfl ?_
  rintro z w1 ⟨rfl, hw1⟩
  subst w1
  refine g_ifeq (t := 41) (q := 8) dX11_moves_5 (by decide) rfl (fun hq5 => ?_) (fun hq5 => ?_)
  · have hq5 := gn_b0 hq5
    refine g_aload_n (q := 42) dX11_moves_41 rfl rfl ?_
    refine c_Vi (q := 45) (p_X11_bad hs hG) k_X11_130 (by assumption) rfl (by decide) rfl rfl (Nat.le_of_ble_eq_true rfl) rfl rfl dX11_moves_42 rfl ?_
    rintro z w1 ⟨hz1, hG1, E1⟩
    refine r_i dX11_moves_45 rfl rfl rfl ?_
    rw [sp_moves, if_neg (by intro h; first | exact hq5 h.1 | exact hq13 h.2.1 | exact h.2.2.1 hq18 | exact hq28 h.2.2.2.1 | exact hq38 h.2.2.2.2)]
    exact ⟨⟨hz1, hG1⟩, E1⟩
  · have hq5 := gn_b1 hq5
    refine g_aload_n (q := 9) dX11_moves_8 rfl rfl ?_
    refine g_iload_n (q := 10) dX11_moves_9 rfl rfl ?_
    refine c_Vi (q := 13) (p_X11_isBuffer hs hG.1 hI.2.1.1 hn6) k_X11_136 (by assumption) rfl (by decide) rfl rfl (Nat.le_of_ble_eq_true rfl) rfl rfl dX11_moves_10 rfl ?_
    rintro z w1 ⟨rfl, hw1⟩
    subst w1
    refine g_ifeq (t := 41) (q := 16) dX11_moves_13 (by decide) rfl (fun hq13 => ?_) (fun hq13 => ?_)
    · have hq13 := gn_b0 hq13
      refine g_aload_n (q := 42) dX11_moves_41 rfl rfl ?_
      refine c_Vi (q := 45) (p_X11_bad hs hG) k_X11_130 (by assumption) rfl (by decide) rfl rfl (Nat.le_of_ble_eq_true rfl) rfl rfl dX11_moves_42 rfl ?_
      rintro z w1 ⟨hz1, hG1, E1⟩
      refine r_i dX11_moves_45 rfl rfl rfl ?_
      rw [sp_moves, if_neg (by intro h; first | exact hq5 h.1 | exact hq13 h.2.1 | exact h.2.2.1 hq18 | exact hq28 h.2.2.2.1 | exact hq38 h.2.2.2.2)]
      exact ⟨⟨hz1, hG1⟩, E1⟩
    · have hq13 := gn_b1 hq13
      refine g_iload_n (q := 17) dX11_moves_16 rfl rfl ?_
      refine g_iload_n (q := 18) dX11_moves_17 rfl rfl ?_
      refine g_icmpeq (t := 41) (q := 21) dX11_moves_18 (by decide) rfl (fun hq18 => ?_) (fun hq18 => ?_)
      · refine g_aload_n (q := 42) dX11_moves_41 rfl rfl ?_
        refine c_Vi (q := 45) (p_X11_bad hs hG) k_X11_130 (by assumption) rfl (by decide) rfl rfl (Nat.le_of_ble_eq_true rfl) rfl rfl dX11_moves_42 rfl ?_
        rintro z w1 ⟨hz1, hG1, E1⟩
        refine r_i dX11_moves_45 rfl rfl rfl ?_
        rw [sp_moves, if_neg (by intro h; first | exact hq5 h.1 | exact hq13 h.2.1 | exact h.2.2.1 hq18 | exact hq28 h.2.2.2.1 | exact hq38 h.2.2.2.2)]
        exact ⟨⟨hz1, hG1⟩, E1⟩
      · refine g_iload_n (q := 22) dX11_moves_21 rfl rfl ?_
        refine g_iconst (q := 23) (x := 1) dX11_moves_22 (by decide) rfl ?_
        refine g_bipush (q := 25) (x := 9) dX11_moves_23 (by decide) rfl ?_
        refine c_Si (q := 28) p_X11_in k_X11_50 (by decide) rfl rfl (Nat.le_of_ble_eq_true rfl) rfl rfl dX11_moves_25 rfl ?_
        rintro z w1 ⟨rfl, hw1⟩
        subst w1
        refine g_ifeq (t := 41) (q := 31) dX11_moves_28 (by decide) rfl (fun hq28 => ?_) (fun hq28 => ?_)
        · have hq28 := gn_b0 hq28
          refine g_aload_n (q := 42) dX11_moves_41 rfl rfl ?_
          refine c_Vi (q := 45) (p_X11_bad hs hG) k_X11_130 (by assumption) rfl (by decide) rfl rfl (Nat.le_of_ble_eq_true rfl) rfl rfl dX11_moves_42 rfl ?_
          rintro z w1 ⟨hz1, hG1, E1⟩
          refine r_i dX11_moves_45 rfl rfl rfl ?_
          rw [sp_moves, if_neg (by intro h; first | exact hq5 h.1 | exact hq13 h.2.1 | exact h.2.2.1 hq18 | exact hq28 h.2.2.2.1 | exact hq38 h.2.2.2.2)]
          exact ⟨⟨hz1, hG1⟩, E1⟩
        · have hq28 := gn_b1 hq28
          refine g_iload (q := 33) dX11_moves_31 rfl rfl ?_
          refine g_iconst (q := 34) (x := 0) dX11_moves_33 (by decide) rfl ?_
          refine g_iconst (q := 35) (x := 1) dX11_moves_34 (by decide) rfl ?_
          refine c_Si (q := 38) p_X11_in k_X11_50 (by decide) rfl rfl (Nat.le_of_ble_eq_true rfl) rfl rfl dX11_moves_35 rfl ?_
          rintro z w1 ⟨rfl, hw1⟩
          subst w1
          refine g_ifne (t := 46) (q := 41) dX11_moves_38 (by decide) rfl (fun hq38 => ?_) (fun hq38 => ?_)
          · have hq38 := gn_b1 hq38
            have hcd : c_moves A a b m0 u := ⟨hq5, hq13, hq18, hq28, hq38⟩
            obtain ⟨i, hi, rfl⟩ := a_has_of hI.2.1.1 (by omega) hq5
            obtain ⟨j, hj, rfl⟩ := a_has_of hI.2.1.1 (by omega) hq13
            have ej : iN (nI j) = j := iN_n (by omega)
            have j6 : j < 6 := by omega
            have ei : iN (nI i) = i := iN_n (by omega)
            have i6 : i < 6 := by omega
            have hij : i ≠ j := fun h => hq18 (by rw [h])
            obtain ⟨q, hq, rfl⟩ := nI_of2 (n := 9) (M := 9) (by decide) (fun h => absurd (Int32.le_trans hq28.1 (Int32.le_of_lt h)) (by decide)) hq28.2
            have em : iN (nI q) = q := iN_n (by omega)
            refine g_aload_n (q := 47) dX11_moves_46 rfl rfl ?_
            refine c_Vv (q := 50) (p_X11_leavesState hs hG) k_X11_133 (by assumption) rfl (by decide) rfl rfl (Nat.le_of_ble_eq_true rfl) rfl rfl dX11_moves_47 rfl ?_
            rintro vq1 ⟨⟨hG1, n1⟩, E1⟩
            have hM1 := hG1.1
            refine g_aload_n (q := 51) dX11_moves_50 rfl rfl ?_
            refine g_iconst (q := 52) (x := 5) dX11_moves_51 (by decide) rfl ?_
            refine c_Vv (q := 55) (p_X11_laysAside hs hM1 (p := 5) (by omega)) k_X11_152 (by assumption) rfl (by decide) rfl rfl (Nat.le_of_ble_eq_true rfl) rfl rfl dX11_moves_52 rfl ?_
            rintro vq2 hvq2
            have hG2 : MG vq2 m A t (h_push l (A, t)) tx c := hG1.oth (fun a ha => by rw [hvq2]; exact gu_n _ _ (by omega)) (by rw [hvq2, gu_n _ _ (by omega)]) (by rw [hvq2, gu_n _ _ (by omega)])
            have E2 : fm v vq2 m := E1.tr (fun a ha => by rw [hvq2]; exact gu_n _ _ (by omega))
            have hS2 : asd (vq2 (m + 4)) 5 A.2 := by rw [hvq2, gu_s]; exact asd_la hM1
            refine g_aload_n (q := 56) dX11_moves_55 rfl rfl ?_
            refine g_iload_n (q := 57) dX11_moves_56 rfl rfl ?_
            refine g_iload_n (q := 58) dX11_moves_57 rfl rfl ?_
            refine g_iload_n (q := 59) dX11_moves_58 rfl rfl ?_
            refine c_Vi (q := 62) (p_X11_move hs hG2.1 (n := q) hI.1 i6 j6 hij (by omega)) k_X11_155 (by assumption) rfl (by decide) rfl rfl (Nat.le_of_ble_eq_true rfl) rfl rfl dX11_moves_59 rfl ?_
            rintro y3 vq3 ⟨hy3, hc3⟩
            have iv3 := iv_move (m := q) hI hi hj hij
            have hG3 := hG2.now hc3 ((sn_eq iv3).trans esn.symm)
            have E3 := E2.tr hc3.fm
            have hS3 : asd (vq3 (m + 4)) 5 A.2 := by rw [hc3.o _ (by omega)]; exact hS2
            have iv4 := iv_res iv3 hI.1
            have hmm : (a_move A i j q).1 ≤ q := a_mvs_le i j q _
            subst y3
            refine g_istore (q := 64) dX11_moves_62 rfl rfl rfl rfl ?_
            dsimp only [List.set]
            refine g_iload (q := 66) dX11_moves_64 rfl rfl ?_
            refine g_iload_n (q := 67) dX11_moves_66 rfl rfl ?_
            refine g_icmpne (t := 74) (q := 70) dX11_moves_67 (by decide) rfl (fun hq67 => ?_) (fun hq67 => ?_)
            · have hlt : (a_move A i j q).1 < q := by
                rcases Nat.lt_or_ge (a_move A i j q).1 q with z | z
                · exact z
                · exact absurd (by rw [show (a_move A i j q).1 = q by omega]) hq67
              refine g_iconst (q := 75) (x := 0) dX11_moves_74 (by decide) rfl ?_
              refine g_istore (q := 77) dX11_moves_75 rfl rfl rfl rfl ?_
              dsimp only [List.set]
              refine g_iload (q := 79) dX11_moves_77 rfl rfl ?_
              refine g_ifne (t := 93) (q := 82) dX11_moves_79 (by decide) rfl (fun hq79 => ?_) (fun hq79 => ?_)
              · exact absurd rfl hq79
              · refine g_iload (q := 84) dX11_moves_82 rfl rfl ?_
                refine g_iconst (q := 85) (x := 1) dX11_moves_84 (by decide) rfl ?_
                refine g_icmpne (t := 93) (q := 88) dX11_moves_85 (by decide) rfl (fun hq85 => ?_) (fun hq85 => ?_)
                · refine g_aload_n (q := 94) dX11_moves_93 rfl rfl ?_
                  refine c_Vv (q := 97) (p_X11_serves hs hG3.1 iv3.1 hn6 iv3.2.2.1) k_X11_127 (by assumption) rfl (by decide) rfl rfl (Nat.le_of_ble_eq_true rfl) rfl rfl dX11_moves_94 rfl ?_
                  rintro vq5 hc5
                  have hG5 := hG3.now hc5 ((sn_eq (IV_srv iv3)).trans (sn_eq iv3).symm)
                  have E5 := E3.tr hc5.fm
                  refine g_iload (q := 99) dX11_moves_97 rfl rfl ?_
                  refine g_ifeq (t := 106) (q := 102) dX11_moves_99 (by decide) rfl (fun hq99 => ?_) (fun hq99 => ?_)
                  · refine g_iload (q := 108) dX11_moves_106 rfl rfl ?_
                    refine g_iconst (q := 109) (x := 1) dX11_moves_108 (by decide) rfl ?_
                    refine g_icmpne (t := 117) (q := 112) dX11_moves_109 (by decide) rfl (fun hq109 => ?_) (fun hq109 => ?_)
                    · refine g_bipush (q := 119) (x := (-100)) dX11_moves_117 (by decide) rfl ?_
                      refine g_iload (q := 121) dX11_moves_119 rfl rfl ?_
                      refine g_isub (q := 122) dX11_moves_121 rfl ?_
                      refine r_i dX11_moves_122 rfl rfl rfl ?_
                      rw [sp_moves, if_pos hcd, ej, ei, em]
                      unfold z_moves
                      rw [if_pos hlt, if_neg hq85]
                      exact ⟨⟨rfl, hG5⟩, E5⟩
                    · exact absurd hq109 hq85
                  · exact absurd rfl hq99
                · refine g_aload_n (q := 89) dX11_moves_88 rfl rfl ?_
                  refine g_iconst (q := 90) (x := 5) dX11_moves_89 (by decide) rfl ?_
                  refine c_Vv (q := 93) (p_X11_undoes hs hG3.1 (p := 5) (by omega) hS3) k_X11_159 (by assumption) rfl (by decide) rfl rfl (Nat.le_of_ble_eq_true rfl) rfl rfl dX11_moves_90 rfl ?_
                  rintro vq4 hc4
                  have hG4 := hG3.now hc4 ((sn_eq iv4).trans (sn_eq iv3).symm)
                  have E4 := E3.tr hc4.fm
                  refine g_aload_n (q := 94) dX11_moves_93 rfl rfl ?_
                  refine c_Vv (q := 97) (p_X11_serves hs hG4.1 iv4.1 hn6 iv4.2.2.1) k_X11_127 (by assumption) rfl (by decide) rfl rfl (Nat.le_of_ble_eq_true rfl) rfl rfl dX11_moves_94 rfl ?_
                  rintro vq5 hc5
                  have hG5 := hG4.now hc5 ((sn_eq (IV_srv iv4)).trans (sn_eq iv4).symm)
                  have E5 := E4.tr hc5.fm
                  refine g_iload (q := 99) dX11_moves_97 rfl rfl ?_
                  refine g_ifeq (t := 106) (q := 102) dX11_moves_99 (by decide) rfl (fun hq99 => ?_) (fun hq99 => ?_)
                  · refine g_iload (q := 108) dX11_moves_106 rfl rfl ?_
                    refine g_iconst (q := 109) (x := 1) dX11_moves_108 (by decide) rfl ?_
                    refine g_icmpne (t := 117) (q := 112) dX11_moves_109 (by decide) rfl (fun hq109 => ?_) (fun hq109 => ?_)
                    · exact absurd hq85 hq109
                    · refine g_bipush (q := 114) (x := (-100)) dX11_moves_112 (by decide) rfl ?_
                      refine g_goto (q := 122) dX11_moves_114 (by decide) ?_
                      refine r_i dX11_moves_122 rfl rfl rfl ?_
                      rw [sp_moves, if_pos hcd, ej, ei, em]
                      unfold z_moves
                      rw [if_pos hlt, if_pos hq85]
                      exact ⟨⟨rfl, hG5⟩, E5⟩
                  · exact absurd rfl hq99
            · have hlt : ¬ (a_move A i j q).1 < q := by
                have := nI_inj6 (by omega) (by omega) hq67
                omega
              refine g_iconst (q := 71) (x := 1) dX11_moves_70 (by decide) rfl ?_
              refine g_goto (q := 75) dX11_moves_71 (by decide) ?_
              refine g_istore (q := 77) dX11_moves_75 rfl rfl rfl rfl ?_
              dsimp only [List.set]
              refine g_iload (q := 79) dX11_moves_77 rfl rfl ?_
              refine g_ifne (t := 93) (q := 82) dX11_moves_79 (by decide) rfl (fun hq79 => ?_) (fun hq79 => ?_)
              · refine g_aload_n (q := 94) dX11_moves_93 rfl rfl ?_
                refine c_Vv (q := 97) (p_X11_serves hs hG3.1 iv3.1 hn6 iv3.2.2.1) k_X11_127 (by assumption) rfl (by decide) rfl rfl (Nat.le_of_ble_eq_true rfl) rfl rfl dX11_moves_94 rfl ?_
                rintro vq5 hc5
                have hG5 := hG3.now hc5 ((sn_eq (IV_srv iv3)).trans (sn_eq iv3).symm)
                have E5 := E3.tr hc5.fm
                refine g_iload (q := 99) dX11_moves_97 rfl rfl ?_
                refine g_ifeq (t := 106) (q := 102) dX11_moves_99 (by decide) rfl (fun hq99 => ?_) (fun hq99 => ?_)
                · exact absurd hq99 (by decide)
                · refine g_iload_n (q := 103) dX11_moves_102 rfl rfl ?_
                  refine g_goto (q := 122) dX11_moves_103 (by decide) ?_
                  refine r_i dX11_moves_122 rfl rfl rfl ?_
                  rw [sp_moves, if_pos hcd, ej, ei, em]
                  unfold z_moves
                  rw [if_neg hlt]
                  exact ⟨⟨rfl, hG5⟩, E5⟩
              · exact absurd hq79 (by decide)
          · have hq38 := gn_b0 hq38
            refine g_aload_n (q := 42) dX11_moves_41 rfl rfl ?_
            refine c_Vi (q := 45) (p_X11_bad hs hG) k_X11_130 (by assumption) rfl (by decide) rfl rfl (Nat.le_of_ble_eq_true rfl) rfl rfl dX11_moves_42 rfl ?_
            rintro z w1 ⟨hz1, hG1, E1⟩
            refine r_i dX11_moves_45 rfl rfl rfl ?_
            rw [sp_moves, if_neg (by intro h; first | exact hq5 h.1 | exact hq13 h.2.1 | exact h.2.2.1 hq18 | exact hq28 h.2.2.2.1 | exact hq38 h.2.2.2.2)]
            exact ⟨⟨hz1, hG1⟩, E1⟩

theorem nI_inj6b {a b : Nat} (ha : a < 1000) (hb : b < 1000) (h : nI a = nI b) : a = b := (nI_eq (by omega) (by omega)).mp h

set_option maxRecDepth 100000 in
set_option maxHeartbeats 4000000 in
theorem p_X11_type {X : gj_X} {lim : Nat} {σ : gj_H} {v : gj_V} {m : Nat} {A : aS} {t : Int32} {l : List (aS × Int32)} {tx : List Int32} {c : Nat → Int32} {n sn : Nat} (hs : msh σ m) (hG : MG v m A t l tx c) (hI : IV A n sn) {k : Int32} : gj_E X 6 m_X11_type [.ref m, .int k] lim σ v (q_i lim σ (fun z v' => sp_type A t l tx c k z (MG v' m) ∧ fm v v' m)) := by
  obtain ⟨so, s1, s2, s3, s4, s5, s6, s7, s8, s9, s10, s11, s12⟩ := id hs
  have hn6 := hI.2.1.2.2.2.1
  have hn1 := hI.2.1.2.2.1
  have hsn6 := hI.2.1.2.2.2.2.1
  have esn : sno A = sn := sn_eq hI
  have hM0 := hG.1
  refine gj_E_at (L := [some (.ref m), some (.int k)]) (k := 0) rfl (by decide) rfl ?_
  refine g_iload_n (q := 1) dX11_type_0 rfl rfl ?_
  refine g_iconst (q := 2) (x := 0) dX11_type_1 (by decide) rfl ?_
  refine g_bipush (q := 4) (x := 127) dX11_type_2 (by decide) rfl ?_
  refine c_Si (q := 7) p_X11_in k_X11_50 (by decide) rfl rfl (Nat.le_of_ble_eq_true rfl) rfl rfl dX11_type_4 rfl ?_
  rintro z w1 ⟨rfl, hw1⟩
  subst w1
  refine g_ifne (t := 15) (q := 10) dX11_type_7 (by decide) rfl (fun hq7 => ?_) (fun hq7 => ?_)
  · have hq7 := gn_b1 hq7
    have hl := hG.2.2.2.2.2.1
    refine g_aload_n (q := 16) dX11_type_15 rfl rfl ?_
    refine g_getI (q := 19) f_X11_189 (by assumption) rfl dX11_type_16 rfl ?_
    rw [hG.2.2.2.2.1]
    refine g_bipush (q := 21) (x := 120) dX11_type_19 (by decide) rfl ?_
    refine g_icmpne (t := 29) (q := 24) dX11_type_21 (by decide) rfl (fun hq21 => ?_) (fun hq21 => ?_)
    · have hlt : ¬ 120 ≤ tx.length := fun z => hq21 (by rw [show tx.length = 120 by omega]; rfl)
      refine g_aload_n (q := 30) dX11_type_29 rfl rfl ?_
      refine g_getR (q := 33) f_X11_22 (by assumption) rfl dX11_type_30 rfl ?_
      refine g_aload_n (q := 34) dX11_type_33 rfl rfl ?_
      refine g_getI (q := 37) f_X11_189 (by assumption) rfl dX11_type_34 rfl ?_
      rw [hG.2.2.2.2.1]
      refine g_iload_n (q := 38) dX11_type_37 rfl rfl ?_
      refine g_iast (q := 39) (by assumption) rfl (by omega) (by decide) dX11_type_38 rfl ?_
      refine g_gen (fun vq2 hvq2 => ?_)
      rw [gu_2] at hvq2
      have o2 : ∀ a, a ≠ m + 5 → vq2 a = v a := fun a ha => by rw [hvq2]; exact gu_n _ _ ha
      have n2 := congrFun hvq2 (m + 5)
      rw [gu_s] at n2
      refine g_aload_n (q := 40) dX11_type_39 rfl rfl ?_
      refine g_dup (q := 41) dX11_type_40 rfl rfl ?_
      refine g_getI (q := 44) f_X11_189 (by assumption) rfl dX11_type_41 rfl ?_
      rw [o2 m (by omega), hG.2.2.2.2.1]
      refine g_iconst (q := 45) (x := 1) dX11_type_44 (by decide) rfl ?_
      refine g_iadd (q := 46) dX11_type_45 rfl ?_
      refine g_putI (q := 49) f_X11_189 (by assumption) rfl rfl rfl dX11_type_46 rfl ?_
      refine g_gen (fun vq3 hvq3 => ?_)
      rw [nI_1] at hvq3
      have o3 : ∀ a, a ≠ m → vq3 a = vq2 a := fun a ha => by rw [hvq3, gu_2]; exact gu_n _ _ ha
      have x6 : vq3 m 6 = nI (tx.length + 1) := by rw [hvq3, gu_2, gu_s, ud_s]
      have x2 : vq3 m 2 = v m 2 := by rw [hvq3, gu_2, gu_s, ud_n _ _ (by decide), o2 m (by omega)]
      have hG3 : MG vq3 m A t l (tx ++ [k]) c := by
        obtain ⟨g1, g2, g3, g4, g5, g6, g7⟩ := hG
        refine ⟨by rw [o3 _ (by omega), o2 _ (by omega)]; exact g1, by rw [o3 _ (by omega), o2 _ (by omega)]; exact g2, by rw [x2]; exact g3, by rw [o3 _ (by omega), o2 _ (by omega)]; exact g4, by rw [x6]; simp, by simp; omega, fun i hi => ?_⟩
        rw [o3 _ (by omega), n2]
        simp only [List.length_append, List.length_singleton] at hi
        by_cases e : i = tx.length
        · subst e; rw [ud_s, ge_la]
        · rw [ud_n _ _ e, ge_ap (by omega)]; exact g7 i (by omega)
      have E3 : fm v vq3 m := fun a ha => by rw [o3 a (by omega), o2 a (by omega)]
      refine g_aload_n (q := 50) dX11_type_49 rfl rfl ?_
      refine g_getI (q := 53) f_X11_189 (by assumption) rfl dX11_type_50 rfl ?_
      refine r_i dX11_type_53 rfl rfl rfl ?_
      rw [sp_type, if_pos hq7, if_neg hlt]
      exact ⟨⟨x6, hG3⟩, E3⟩
    · have hlt : 120 ≤ tx.length := by have := nI_inj6b (b := 120) (by omega) (by omega) hq21; omega
      refine g_aload_n (q := 25) dX11_type_24 rfl rfl ?_
      refine c_Vi (q := 28) (p_X11_full hs hG) k_X11_140 (by assumption) rfl (by decide) rfl rfl (Nat.le_of_ble_eq_true rfl) rfl rfl dX11_type_25 rfl ?_
      rintro z w1 ⟨hz1, hG1, E1⟩
      refine r_i dX11_type_28 rfl rfl rfl ?_
      rw [sp_type, if_pos hq7, if_pos hlt]
      exact ⟨⟨hz1, hG1⟩, E1⟩
  · have hq7 := gn_b0 hq7
    refine g_aload_n (q := 11) dX11_type_10 rfl rfl ?_
    refine c_Vi (q := 14) (p_X11_bad hs hG) k_X11_130 (by assumption) rfl (by decide) rfl rfl (Nat.le_of_ble_eq_true rfl) rfl rfl dX11_type_11 rfl ?_
    rintro z w1 ⟨hz1, hG1, E1⟩
    refine r_i dX11_type_14 rfl rfl rfl ?_
    rw [sp_type, if_neg (by intro h; first | exact hq7 h)]
    exact ⟨⟨hz1, hG1⟩, E1⟩

set_option maxRecDepth 100000 in
set_option maxHeartbeats 4000000 in
theorem p_X11_clear {X : gj_X} {lim : Nat} {σ : gj_H} {v : gj_V} {m : Nat} {A : aS} {t : Int32} {l : List (aS × Int32)} {tx : List Int32} {c : Nat → Int32} {n sn : Nat} (hs : msh σ m) (hG : MG v m A t l tx c) (hI : IV A n sn) : gj_E X 6 m_X11_clear [.ref m] lim σ v (q_i lim σ (fun z v' => (z = nI tx.length ∧ MG v' m A t l [] c) ∧ fm v v' m)) := by
  obtain ⟨so, s1, s2, s3, s4, s5, s6, s7, s8, s9, s10, s11, s12⟩ := id hs
  have hn6 := hI.2.1.2.2.2.1
  have hn1 := hI.2.1.2.2.1
  have hsn6 := hI.2.1.2.2.2.2.1
  have esn : sno A = sn := sn_eq hI
  have hM0 := hG.1
  refine gj_E_at (L := [some (.ref m), none]) (k := 1) rfl (by decide) rfl ?_
  refine g_aload_n (q := 1) dX11_clear_0 rfl rfl ?_
  refine g_getI (q := 4) f_X11_189 (by assumption) rfl dX11_clear_1 rfl ?_
  refine g_istore_n (q := 5) dX11_clear_4 rfl rfl rfl rfl ?_
  dsimp only [List.set]
  refine g_aload_n (q := 6) dX11_clear_5 rfl rfl ?_
  refine g_iconst (q := 7) (x := 0) dX11_clear_6 (by decide) rfl ?_
  refine g_putI (q := 10) f_X11_189 (by assumption) rfl rfl rfl dX11_clear_7 rfl ?_
  refine g_gen (fun vq3 hvq3 => ?_)
  have o3 : ∀ a, a ≠ m → vq3 a = v a := fun a ha => by rw [hvq3, gu_2]; exact gu_n _ _ ha
  have x6 : vq3 m 6 = 0 := by rw [hvq3, gu_2, gu_s, ud_s]
  have x2 : vq3 m 2 = v m 2 := by rw [hvq3, gu_2, gu_s, ud_n _ _ (by decide)]
  refine g_iload_n (q := 11) dX11_clear_10 rfl rfl ?_
  refine r_i dX11_clear_11 rfl rfl rfl ?_
  obtain ⟨g1, g2, g3, g4, g5, g6, g7⟩ := id hG
  exact ⟨⟨g5, by rw [o3 _ (by omega)]; exact g1, by rw [o3 _ (by omega)]; exact g2, by rw [x2]; exact g3, by rw [o3 _ (by omega)]; exact g4, by rw [x6]; rfl, by simp, fun i hi => absurd hi (by simp)⟩, fun a ha => o3 a (by omega)⟩

set_option maxRecDepth 100000 in
set_option maxHeartbeats 4000000 in
theorem p_X11_toldOf {X : gj_X} {lim : Nat} {σ : gj_H} {v : gj_V} {m : Nat} {A : aS} {t : Int32} {l : List (aS × Int32)} {tx : List Int32} {c : Nat → Int32} (hs : msh σ m) (hG : MG v m A t l tx c) {k : Nat} (hk : k < 5) : gj_E X 0 m_X11_toldOf [.ref m, .int (nI k)] lim σ v (q_i lim σ (fun z v' => z = z_told l tx c k ∧ v' = v)) := by
  obtain ⟨so, s1, s2, s3, s4, s5, s6, s7, s8, s9, s10, s11, s12⟩ := id hs
  rcases (show k = 0 ∨ k = 1 ∨ k = 2 ∨ k = 3 ∨ k = 4 by omega) with rfl | rfl | rfl | rfl | rfl
  · refine gj_E_at (L := [some (.ref m), some (.int (nI 0))]) (k := 0) rfl (by decide) rfl ?_
    refine g_iload_n (q := 1) dX11_toldOf_0 rfl rfl ?_
    refine g_iconst (q := 2) (x := 3) dX11_toldOf_1 (by decide) rfl ?_
    refine g_icmpge (t := 14) (q := 5) dX11_toldOf_2 (by decide) rfl (fun hq2 => ?_) (fun hq2 => ?_)
    · exact absurd hq2 (by decide)
    · refine g_aload_n (q := 6) dX11_toldOf_5 rfl rfl ?_
      refine g_getR (q := 9) f_X11_7 (by assumption) rfl dX11_toldOf_6 rfl ?_
      refine g_iload_n (q := 10) dX11_toldOf_9 rfl rfl ?_
      refine g_iald (q := 11) (by assumption) rfl (by decide) (by decide) dX11_toldOf_10 rfl ?_
      refine g_goto (q := 30) dX11_toldOf_11 (by decide) ?_
      refine r_i dX11_toldOf_30 rfl rfl rfl ?_
      exact ⟨hG.2.1.1, rfl⟩
  · refine gj_E_at (L := [some (.ref m), some (.int (nI 1))]) (k := 0) rfl (by decide) rfl ?_
    refine g_iload_n (q := 1) dX11_toldOf_0 rfl rfl ?_
    refine g_iconst (q := 2) (x := 3) dX11_toldOf_1 (by decide) rfl ?_
    refine g_icmpge (t := 14) (q := 5) dX11_toldOf_2 (by decide) rfl (fun hq2 => ?_) (fun hq2 => ?_)
    · exact absurd hq2 (by decide)
    · refine g_aload_n (q := 6) dX11_toldOf_5 rfl rfl ?_
      refine g_getR (q := 9) f_X11_7 (by assumption) rfl dX11_toldOf_6 rfl ?_
      refine g_iload_n (q := 10) dX11_toldOf_9 rfl rfl ?_
      refine g_iald (q := 11) (by assumption) rfl (by decide) (by decide) dX11_toldOf_10 rfl ?_
      refine g_goto (q := 30) dX11_toldOf_11 (by decide) ?_
      refine r_i dX11_toldOf_30 rfl rfl rfl ?_
      exact ⟨hG.2.1.2.1, rfl⟩
  · refine gj_E_at (L := [some (.ref m), some (.int (nI 2))]) (k := 0) rfl (by decide) rfl ?_
    refine g_iload_n (q := 1) dX11_toldOf_0 rfl rfl ?_
    refine g_iconst (q := 2) (x := 3) dX11_toldOf_1 (by decide) rfl ?_
    refine g_icmpge (t := 14) (q := 5) dX11_toldOf_2 (by decide) rfl (fun hq2 => ?_) (fun hq2 => ?_)
    · exact absurd hq2 (by decide)
    · refine g_aload_n (q := 6) dX11_toldOf_5 rfl rfl ?_
      refine g_getR (q := 9) f_X11_7 (by assumption) rfl dX11_toldOf_6 rfl ?_
      refine g_iload_n (q := 10) dX11_toldOf_9 rfl rfl ?_
      refine g_iald (q := 11) (by assumption) rfl (by decide) (by decide) dX11_toldOf_10 rfl ?_
      refine g_goto (q := 30) dX11_toldOf_11 (by decide) ?_
      refine r_i dX11_toldOf_30 rfl rfl rfl ?_
      exact ⟨hG.2.1.2.2, rfl⟩
  · refine gj_E_at (L := [some (.ref m), some (.int (nI 3))]) (k := 0) rfl (by decide) rfl ?_
    refine g_iload_n (q := 1) dX11_toldOf_0 rfl rfl ?_
    refine g_iconst (q := 2) (x := 3) dX11_toldOf_1 (by decide) rfl ?_
    refine g_icmpge (t := 14) (q := 5) dX11_toldOf_2 (by decide) rfl (fun hq2 => ?_) (fun hq2 => ?_)
    · refine g_iload_n (q := 15) dX11_toldOf_14 rfl rfl ?_
      refine g_iconst (q := 16) (x := 3) dX11_toldOf_15 (by decide) rfl ?_
      refine g_icmpne (t := 26) (q := 19) dX11_toldOf_16 (by decide) rfl (fun hq16 => ?_) (fun hq16 => ?_)
      · exact absurd (by decide) hq16
      · refine g_aload_n (q := 20) dX11_toldOf_19 rfl rfl ?_
        refine g_getI (q := 23) f_X11_189 (by assumption) rfl dX11_toldOf_20 rfl ?_
        refine g_goto (q := 30) dX11_toldOf_23 (by decide) ?_
        refine r_i dX11_toldOf_30 rfl rfl rfl ?_
        exact ⟨hG.2.2.2.2.1, rfl⟩
    · exact absurd (by decide) hq2
  · refine gj_E_at (L := [some (.ref m), some (.int (nI 4))]) (k := 0) rfl (by decide) rfl ?_
    refine g_iload_n (q := 1) dX11_toldOf_0 rfl rfl ?_
    refine g_iconst (q := 2) (x := 3) dX11_toldOf_1 (by decide) rfl ?_
    refine g_icmpge (t := 14) (q := 5) dX11_toldOf_2 (by decide) rfl (fun hq2 => ?_) (fun hq2 => ?_)
    · refine g_iload_n (q := 15) dX11_toldOf_14 rfl rfl ?_
      refine g_iconst (q := 16) (x := 3) dX11_toldOf_15 (by decide) rfl ?_
      refine g_icmpne (t := 26) (q := 19) dX11_toldOf_16 (by decide) rfl (fun hq16 => ?_) (fun hq16 => ?_)
      · refine g_aload_n (q := 27) dX11_toldOf_26 rfl rfl ?_
        refine g_getI (q := 30) f_X11_61 (by assumption) rfl dX11_toldOf_27 rfl ?_
        refine r_i dX11_toldOf_30 rfl rfl rfl ?_
        exact ⟨hG.2.2.1, rfl⟩
      · exact absurd hq16 (by decide)
    · exact absurd (by decide) hq2


set_option maxRecDepth 100000 in
set_option maxHeartbeats 4000000 in
theorem p_X11_told {X : gj_X} {lim : Nat} {σ : gj_H} {v : gj_V} {m : Nat} {A : aS} {t : Int32} {l : List (aS × Int32)} {tx : List Int32} {c : Nat → Int32} {n sn : Nat} (hs : msh σ m) (hG : MG v m A t l tx c) (hI : IV A n sn) {k : Int32} : gj_E X 6 m_X11_told [.ref m, .int k] lim σ v (q_i lim σ (fun z v' => sp_rd A t l tx c (in_ k 0 4) (z_told l tx c (iN k)) z (MG v' m) ∧ fm v v' m)) := by
  obtain ⟨so, s1, s2, s3, s4, s5, s6, s7, s8, s9, s10, s11, s12⟩ := id hs
  have hn6 := hI.2.1.2.2.2.1
  have hn1 := hI.2.1.2.2.1
  have hsn6 := hI.2.1.2.2.2.2.1
  have esn : sno A = sn := sn_eq hI
  have hM0 := hG.1
  refine gj_E_at (L := [some (.ref m), some (.int k)]) (k := 0) rfl (by decide) rfl ?_
  refine g_iload_n (q := 1) dX11_told_0 rfl rfl ?_
  refine g_iconst (q := 2) (x := 0) dX11_told_1 (by decide) rfl ?_
  refine g_iconst (q := 3) (x := 4) dX11_told_2 (by decide) rfl ?_
  refine c_Si (q := 6) p_X11_in k_X11_50 (by decide) rfl rfl (Nat.le_of_ble_eq_true rfl) rfl rfl dX11_told_3 rfl ?_
  rintro z w1 ⟨rfl, hw1⟩
  subst w1
  refine g_ifeq (t := 17) (q := 9) dX11_told_6 (by decide) rfl (fun hq6 => ?_) (fun hq6 => ?_)
  · have hq6 := gn_b0 hq6
    refine g_aload_n (q := 18) dX11_told_17 rfl rfl ?_
    refine c_Vi (q := 21) (p_X11_bad hs hG) k_X11_130 (by assumption) rfl (by decide) rfl rfl (Nat.le_of_ble_eq_true rfl) rfl rfl dX11_told_18 rfl ?_
    rintro z w1 ⟨hz1, hG1, E1⟩
    refine r_i dX11_told_21 rfl rfl rfl ?_
    first | exact ⟨⟨fun _ => ⟨hy1, hG⟩, fun h => absurd hcd h⟩, fm.rf _ _⟩ | exact ⟨⟨fun h => absurd h hq6, fun _ => ⟨hz1, hG1⟩⟩, E1⟩
  · have hq6 := gn_b1 hq6
    have hcd := hq6
    obtain ⟨k0, hk0, rfl⟩ := gn_0k (n := 4) (m := 4) (by decide) hq6
    have ek : iN (nI k0) = k0 := iN_n (by omega)
    refine g_aload_n (q := 10) dX11_told_9 rfl rfl ?_
    refine g_iload_n (q := 11) dX11_told_10 rfl rfl ?_
    refine c_Vi (q := 14) (p_X11_toldOf hs hG (k := k0) (by omega)) k_X11_221 (by assumption) rfl (by decide) rfl rfl (Nat.le_of_ble_eq_true rfl) rfl rfl dX11_told_11 rfl ?_
    rintro y w1 ⟨hy1, hw1⟩
    subst w1
    rw [ek]
    refine g_goto (q := 21) dX11_told_14 (by decide) ?_
    refine r_i dX11_told_21 rfl rfl rfl ?_
    first | exact ⟨⟨fun _ => ⟨hy1, hG⟩, fun h => absurd hcd h⟩, fm.rf _ _⟩ | exact ⟨⟨fun h => absurd h hq6, fun _ => ⟨hz1, hG1⟩⟩, E1⟩
