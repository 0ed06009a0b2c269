set_option maxRecDepth 100000 in
set_option maxHeartbeats 4000000 in
theorem p_X11_lesser {X : gj_X} {lim : Nat} {σ : gj_H} {v : gj_V} {i j : Nat} (hi : i < 100) (hj : j < 100) : gj_E X 0 m_X11_lesser [.int (nI i), .int (nI j)] lim σ v (q_i lim σ (fun z v' => z = nI (min i j) ∧ v' = v)) := by
  refine gj_E_at (L := [some (.int (nI i)), some (.int (nI j))]) (k := 0) rfl (by decide) rfl ?_
  refine g_iload_n (q := 1) dX11_lesser_0 rfl rfl ?_
  refine g_iload_n (q := 2) dX11_lesser_1 rfl rfl ?_
  refine g_icmpge (t := 9) (q := 5) dX11_lesser_2 (by decide) rfl (fun hq2 => ?_) (fun hq2 => ?_)
  · refine g_iload_n (q := 10) dX11_lesser_9 rfl rfl ?_
    refine r_i dX11_lesser_10 rfl rfl rfl ?_
    refine ⟨?_, rfl⟩
    first | (rw [Nat.min_eq_right (gn_le hq2 (by omega))]; done) | (rw [Nat.min_eq_left (Nat.le_of_lt (gn_lt hq2 (by omega)))]; done)
  · refine g_iload_n (q := 6) dX11_lesser_5 rfl rfl ?_
    refine g_goto (q := 10) dX11_lesser_6 (by decide) ?_
    refine r_i dX11_lesser_10 rfl rfl rfl ?_
    refine ⟨?_, rfl⟩
    first | (rw [Nat.min_eq_right (gn_le hq2 (by omega))]; done) | (rw [Nat.min_eq_left (Nat.le_of_lt (gn_lt hq2 (by omega)))]; done)

set_option maxRecDepth 100000 in
set_option maxHeartbeats 4000000 in
theorem p_X11_greater {X : gj_X} {lim : Nat} {σ : gj_H} {v : gj_V} {i j : Nat} (hi : i < 100) (hj : j < 100) : gj_E X 0 m_X11_greater [.int (nI i), .int (nI j)] lim σ v (q_i lim σ (fun z v' => z = nI (max i j) ∧ v' = v)) := by
  refine gj_E_at (L := [some (.int (nI i)), some (.int (nI j))]) (k := 0) rfl (by decide) rfl ?_
  refine g_iload_n (q := 1) dX11_greater_0 rfl rfl ?_
  refine g_iload_n (q := 2) dX11_greater_1 rfl rfl ?_
  refine g_icmple (t := 9) (q := 5) dX11_greater_2 (by decide) rfl (fun hq2 => ?_) (fun hq2 => ?_)
  · refine g_iload_n (q := 10) dX11_greater_9 rfl rfl ?_
    refine r_i dX11_greater_10 rfl rfl rfl ?_
    refine ⟨?_, rfl⟩
    first | (rw [Nat.max_eq_right (gn_le hq2 (by omega))]; done) | (rw [Nat.max_eq_left (Nat.le_of_lt (gn_lt hq2 (by omega)))]; done)
  · refine g_iload_n (q := 6) dX11_greater_5 rfl rfl ?_
    refine g_goto (q := 10) dX11_greater_6 (by decide) ?_
    refine r_i dX11_greater_10 rfl rfl rfl ?_
    refine ⟨?_, rfl⟩
    first | (rw [Nat.max_eq_right (gn_le hq2 (by omega))]; done) | (rw [Nat.max_eq_left (Nat.le_of_lt (gn_lt hq2 (by omega)))]; done)

set_option maxRecDepth 100000 in
set_option maxHeartbeats 4000000 in
theorem p_X11_move {X : gj_X} {lim : Nat} {σ : gj_H} {v : gj_V} {m sn : Nat} {A : aS} {t : Int32} (hs : msh σ m) (hM : MR (v (m + 2)) A t sn) {i j n : Nat} (hv : ivB A) (hi : i < 6) (hj : j < 6) (hij : i ≠ j) (hn : n < 100) : gj_E X 3 m_X11_move [.ref m, .int (nI i), .int (nI j), .int (nI n)] lim σ v (q_i lim σ (fun z v' => z = nI (a_move A i j n).1 ∧ mc v v' m (a_move A i j n).2 t sn)) := by
  obtain ⟨so, s1, s2, s3, s4, s5, s6, s7, s8, s9, s10, s11, s12⟩ := id hs
  have lp : ∀ (k q : Nat) (C : aS) (w : gj_V), mc v w m C t sn → ivB C → q + k = n → gj_G X 3 m_X11_move (q_i lim σ (fun z v' => z = nI (q + (a_mvs i j k C).1) ∧ mc v v' m (a_two (a_mvs i j k C).2 (min i j) (max i j) (decide (q + (a_mvs i j k C).1 < n))) t sn)) lim σ w 0 0 32 [some (.ref m), some (.int (nI i)), some (.int (nI j)), some (.int (nI n)), some (.int (nI (min i j))), some (.int (nI (max i j))), some (.int (nI q)), some (.int 0), none] [] := by
    intro k
    induction k with
    | zero =>
      intro q C w hcw hv hk
      have eq : q = n := by omega
      subst q
      have hMw := hcw.M
      refine g_iload (q := 34) dX11_move_32 rfl rfl ?_
      refine g_iload_n (q := 35) dX11_move_34 rfl rfl ?_
      refine g_icmpge (t := 108) (q := 38) dX11_move_35 (by decide) rfl (fun hq35 => ?_) (fun hq35 => ?_)
      · refine g_iload (q := 110) dX11_move_108 rfl rfl ?_
        refine g_ifeq (t := 128) (q := 113) dX11_move_110 (by decide) rfl (fun hq110 => ?_) (fun hq110 => ?_)
        · refine g_aload_n (q := 129) dX11_move_128 rfl rfl ?_
          refine g_iload (q := 131) dX11_move_129 rfl rfl ?_
          refine c_Vv (q := 134) (p_X11_leaves hs hMw (g := max i j) (by omega)) k_X11_82 (by assumption) rfl (by decide) rfl rfl (Nat.le_of_ble_eq_true rfl) rfl rfl dX11_move_131 rfl ?_
          rintro vq11 hc11
          have hM11 := hc11.M
          refine g_aload_n (q := 135) dX11_move_134 rfl rfl ?_
          refine g_iload (q := 137) dX11_move_135 rfl rfl ?_
          refine c_Vv (q := 140) (p_X11_leaves hs hM11 (g := min i j) (by omega)) k_X11_82 (by assumption) rfl (by decide) rfl rfl (Nat.le_of_ble_eq_true rfl) rfl rfl dX11_move_137 rfl ?_
          rintro vq12 hc12
          refine g_iload (q := 142) dX11_move_140 rfl rfl ?_
          refine r_i dX11_move_142 rfl rfl rfl ?_
          refine ⟨rfl, ?_⟩
          rw [show a_mvs i j 0 C = (0, C) from rfl]
          dsimp only
          rw [show decide (n + 0 < n) = false from decide_eq_false (by omega)]
          exact (hcw.tr hc11).tr hc12
        · exact absurd rfl hq110
      · exact absurd (Int32.le_refl _) hq35
    | succ k ih =>
      intro q C w hcw hv hk
      have hMw := hcw.M
      refine g_iload (q := 34) dX11_move_32 rfl rfl ?_
      refine g_iload_n (q := 35) dX11_move_34 rfl rfl ?_
      refine g_icmpge (t := 108) (q := 38) dX11_move_35 (by decide) rfl (fun hq35 => ?_) (fun hq35 => ?_)
      · exact absurd (gn_le hq35 (by omega)) (by omega)
      · refine g_iload (q := 40) dX11_move_38 rfl rfl ?_
        refine g_ifne (t := 108) (q := 43) dX11_move_40 (by decide) rfl (fun hq40 => ?_) (fun hq40 => ?_)
        · exact absurd rfl hq40
        · refine g_aload_n (q := 44) dX11_move_43 rfl rfl ?_
          refine g_iload_n (q := 45) dX11_move_44 rfl rfl ?_
          refine g_iconst (q := 46) (x := (-1)) dX11_move_45 (by decide) rfl ?_
          refine c_Vi (q := 49) (p_X11_take hs hMw (w := -1) hi (hv i hi).2.2) k_X11_95 (by assumption) rfl (by decide) rfl rfl (Nat.le_of_ble_eq_true rfl) rfl rfl dX11_move_46 rfl ?_
          rintro y1 vq1 ⟨hy1, hc1⟩
          have hM1 := hc1.M
          refine g_istore (q := 51) dX11_move_49 rfl rfl rfl rfl ?_
          dsimp only [List.set]
          refine g_iload (q := 53) dX11_move_51 rfl rfl ?_
          refine g_iconst (q := 54) (x := (-1)) dX11_move_53 (by decide) rfl ?_
          refine g_icmpne (t := 61) (q := 57) dX11_move_54 (by decide) rfl (fun hq54 => ?_) (fun hq54 => ?_)
          · have ht : ¬ (a_take C i (-1)).1 = -5 := fun z => hq54 (by rw [hy1, if_pos z])
            rw [if_neg ht] at hy1
            subst y1
            have hk := (b_take_kind (hv i hi) ht).2.2
            refine g_iconst (q := 62) (x := 0) dX11_move_61 (by decide) rfl ?_
            refine g_istore (q := 64) dX11_move_62 rfl rfl rfl rfl ?_
            dsimp only [List.set]
            refine g_iload (q := 66) dX11_move_64 rfl rfl ?_
            refine g_ifne (t := 90) (q := 69) dX11_move_66 (by decide) rfl (fun hq66 => ?_) (fun hq66 => ?_)
            · exact absurd rfl hq66
            · refine g_aload_n (q := 70) dX11_move_69 rfl rfl ?_
              refine g_iload_n (q := 71) dX11_move_70 rfl rfl ?_
              refine g_iload (q := 73) dX11_move_71 rfl rfl ?_
              refine g_iconst (q := 74) (x := (-1)) dX11_move_73 (by decide) rfl ?_
              refine c_Vi (q := 77) (p_X11_put hs hM1 hj (k := (a_take C i (-1)).1) (w := -1) ((ivB_take (w := -1) hv hi) j hj).1) k_X11_98 (by assumption) rfl (by decide) rfl rfl (Nat.le_of_ble_eq_true rfl) rfl rfl dX11_move_74 rfl ?_
              rintro y2 vq2 ⟨hy2, hc2⟩
              have hM2 := hc2.M
              refine g_ifne (t := 90) (q := 80) dX11_move_77 (by decide) rfl (fun hq77 => ?_) (fun hq77 => ?_)
              · rw [hy2] at hq77
                have em : a_mv1 C i j = (1, (a_put (a_take C i (-1)).2 j (a_take C i (-1)).1 (-1)).2) := by unfold a_mv1; rw [if_neg ht, if_neg hq77]
                have iv2 := ivB_put (b := j) (k := (a_take C i (-1)).1) (w := -1) (ivB_take (w := -1) hv hi) hj hk
                refine g_iload (q := 92) dX11_move_90 rfl rfl ?_
                refine g_iload (q := 94) dX11_move_92 rfl rfl ?_
                refine g_ifeq (t := 101) (q := 97) dX11_move_94 (by decide) rfl (fun hq94 => ?_) (fun hq94 => ?_)
                · refine g_iconst (q := 102) (x := 1) dX11_move_101 (by decide) rfl ?_
                  refine g_iadd (q := 103) dX11_move_102 rfl ?_
                  rw [show nI q + 1 = nI (q + 1) from nI_1 q]
                  refine g_istore (q := 105) dX11_move_103 rfl rfl rfl rfl ?_
                  dsimp only [List.set]
                  refine g_goto (q := 32) dX11_move_105 (by decide) ?_
                  refine g_wk (L' := [some (.ref m), some (.int (nI i)), some (.int (nI j)), some (.int (nI n)), some (.int (nI (min i j))), some (.int (nI (max i j))), some (.int (nI (q + 1))), some (.int 0), none]) (by simp [gj_wk]) ?_
                  rw [a_mvs, if_neg (by rw [em]; show ¬ (1 : Int32) = 0; decide)]
                  dsimp only
                  rw [em]
                  have hh := ih (q + 1) _ vq2 ((hcw.tr hc1).tr hc2) iv2 (by omega)
                  rw [Nat.add_assoc, Nat.add_comm 1] at hh
                  exact hh
                · exact absurd rfl hq94
              · rw [hy2] at hq77
                have em : a_mv1 C i j = (0, sL (a_put (a_take C i (-1)).2 j (a_take C i (-1)).1 (-1)).2 i ((a_take C i (-1)).1 :: (a_put (a_take C i (-1)).2 j (a_take C i (-1)).1 (-1)).2.2 i)) := by unfold a_mv1; rw [if_neg ht, if_pos hq77]
                have el : (a_put (a_take C i (-1)).2 j (a_take C i (-1)).1 (-1)).2.2 i = (a_take C i (-1)).2.2 i := sB_l _ _ _ _ hij (by omega)
                refine g_aload_n (q := 81) dX11_move_80 rfl rfl ?_
                refine g_iload_n (q := 82) dX11_move_81 rfl rfl ?_
                refine g_iload (q := 84) dX11_move_82 rfl rfl ?_
                refine c_Vv (q := 87) (p_X11_firstAgain hs hM2 hi (by rw [el]; exact (a_take_len hv hi ht).1)) k_X11_101 (by assumption) rfl (by decide) rfl rfl (Nat.le_of_ble_eq_true rfl) rfl rfl dX11_move_84 rfl ?_
                rintro vq3 hc3
                have hM3 := hc3.M
                refine g_iconst (q := 88) (x := 1) dX11_move_87 (by decide) rfl ?_
                refine g_istore (q := 90) dX11_move_88 rfl rfl rfl rfl ?_
                dsimp only [List.set]
                refine g_iload (q := 92) dX11_move_90 rfl rfl ?_
                refine g_iload (q := 94) dX11_move_92 rfl rfl ?_
                refine g_ifeq (t := 101) (q := 97) dX11_move_94 (by decide) rfl (fun hq94 => ?_) (fun hq94 => ?_)
                · exact absurd hq94 (by decide)
                · refine g_iconst (q := 98) (x := 0) dX11_move_97 (by decide) rfl ?_
                  refine g_goto (q := 102) dX11_move_98 (by decide) ?_
                  refine g_iadd (q := 103) dX11_move_102 rfl ?_
                  rw [Int32.add_zero]
                  refine g_istore (q := 105) dX11_move_103 rfl rfl rfl rfl ?_
                  dsimp only [List.set]
                  refine g_goto (q := 32) dX11_move_105 (by decide) ?_
                  refine g_iload (q := 34) dX11_move_32 rfl rfl ?_
                  refine g_iload_n (q := 35) dX11_move_34 rfl rfl ?_
                  refine g_icmpge (t := 108) (q := 38) dX11_move_35 (by decide) rfl (fun hq35 => ?_) (fun hq35 => ?_)
                  · exact absurd (gn_le hq35 (by omega)) (by omega)
                  · refine g_iload (q := 40) dX11_move_38 rfl rfl ?_
                    refine g_ifne (t := 108) (q := 43) dX11_move_40 (by decide) rfl (fun hq40 => ?_) (fun hq40 => ?_)
                    · refine g_iload (q := 110) dX11_move_108 rfl rfl ?_
                      refine g_ifeq (t := 128) (q := 113) dX11_move_110 (by decide) rfl (fun hq110 => ?_) (fun hq110 => ?_)
                      · exact absurd hq110 (by decide)
                      · refine g_aload_n (q := 114) dX11_move_113 rfl rfl ?_
                        refine g_iload (q := 116) dX11_move_114 rfl rfl ?_
                        refine c_Vv (q := 119) (p_X11_thrownOut hs hM3 (g := max i j) (by omega)) k_X11_79 (by assumption) rfl (by decide) rfl rfl (Nat.le_of_ble_eq_true rfl) rfl rfl dX11_move_116 rfl ?_
                        rintro vq11 hc11
                        have hM11 := hc11.M
                        refine g_aload_n (q := 120) dX11_move_119 rfl rfl ?_
                        refine g_iload (q := 122) dX11_move_120 rfl rfl ?_
                        refine c_Vv (q := 125) (p_X11_thrownOut hs hM11 (g := min i j) (by omega)) k_X11_79 (by assumption) rfl (by decide) rfl rfl (Nat.le_of_ble_eq_true rfl) rfl rfl dX11_move_122 rfl ?_
                        rintro vq12 hc12
                        refine g_goto (q := 140) dX11_move_125 (by decide) ?_
                        refine g_iload (q := 142) dX11_move_140 rfl rfl ?_
                        refine r_i dX11_move_142 rfl rfl rfl ?_
                        rw [a_mvs, if_pos (by rw [em])]
                        refine ⟨rfl, ?_⟩
                        dsimp only
                        rw [show decide (q + 0 < n) = true from decide_eq_true (by omega)]
                        have hcc := ((((hcw.tr hc1).tr hc2).tr hc3).tr hc11).tr hc12
                        rw [em]
                        exact hcc
                    · exact absurd hq40 (by decide)
          · have ht : (a_take C i (-1)).1 = -5 := by
              by_cases z : (a_take C i (-1)).1 = -5
              · exact z
              · rw [hy1, if_neg z] at hq54
                exact absurd (b_take_kind (hv i hi) z).2.2.1 (by rw [show (b_take (gB C i) (-1)).1 = -1 from hq54]; decide)
            have em : a_mv1 C i j = (0, (a_take C i (-1)).2) := by unfold a_mv1; rw [if_pos ht]
            refine g_iconst (q := 58) (x := 1) dX11_move_57 (by decide) rfl ?_
            refine g_goto (q := 62) dX11_move_58 (by decide) ?_
            refine g_istore (q := 64) dX11_move_62 rfl rfl rfl rfl ?_
            dsimp only [List.set]
            refine g_iload (q := 66) dX11_move_64 rfl rfl ?_
            refine g_ifne (t := 90) (q := 69) dX11_move_66 (by decide) rfl (fun hq66 => ?_) (fun hq66 => ?_)
            · refine g_iload (q := 92) dX11_move_90 rfl rfl ?_
              refine g_iload (q := 94) dX11_move_92 rfl rfl ?_
              refine g_ifeq (t := 101) (q := 97) dX11_move_94 (by decide) rfl (fun hq94 => ?_) (fun hq94 => ?_)
              · exact absurd hq94 (by decide)
              · refine g_iconst (q := 98) (x := 0) dX11_move_97 (by decide) rfl ?_
                refine g_goto (q := 102) dX11_move_98 (by decide) ?_
                refine g_iadd (q := 103) dX11_move_102 rfl ?_
                rw [Int32.add_zero]
                refine g_istore (q := 105) dX11_move_103 rfl rfl rfl rfl ?_
                dsimp only [List.set]
                refine g_goto (q := 32) dX11_move_105 (by decide) ?_
                refine g_iload (q := 34) dX11_move_32 rfl rfl ?_
                refine g_iload_n (q := 35) dX11_move_34 rfl rfl ?_
                refine g_icmpge (t := 108) (q := 38) dX11_move_35 (by decide) rfl (fun hq35 => ?_) (fun hq35 => ?_)
                · exact absurd (gn_le hq35 (by omega)) (by omega)
                · refine g_iload (q := 40) dX11_move_38 rfl rfl ?_
                  refine g_ifne (t := 108) (q := 43) dX11_move_40 (by decide) rfl (fun hq40 => ?_) (fun hq40 => ?_)
                  · refine g_iload (q := 110) dX11_move_108 rfl rfl ?_
                    refine g_ifeq (t := 128) (q := 113) dX11_move_110 (by decide) rfl (fun hq110 => ?_) (fun hq110 => ?_)
                    · exact absurd hq110 (by decide)
                    · refine g_aload_n (q := 114) dX11_move_113 rfl rfl ?_
                      refine g_iload (q := 116) dX11_move_114 rfl rfl ?_
                      refine c_Vv (q := 119) (p_X11_thrownOut hs hM1 (g := max i j) (by omega)) k_X11_79 (by assumption) rfl (by decide) rfl rfl (Nat.le_of_ble_eq_true rfl) rfl rfl dX11_move_116 rfl ?_
                      rintro vq11 hc11
                      have hM11 := hc11.M
                      refine g_aload_n (q := 120) dX11_move_119 rfl rfl ?_
                      refine g_iload (q := 122) dX11_move_120 rfl rfl ?_
                      refine c_Vv (q := 125) (p_X11_thrownOut hs hM11 (g := min i j) (by omega)) k_X11_79 (by assumption) rfl (by decide) rfl rfl (Nat.le_of_ble_eq_true rfl) rfl rfl dX11_move_122 rfl ?_
                      rintro vq12 hc12
                      refine g_goto (q := 140) dX11_move_125 (by decide) ?_
                      refine g_iload (q := 142) dX11_move_140 rfl rfl ?_
                      refine r_i dX11_move_142 rfl rfl rfl ?_
                      rw [a_mvs, if_pos (by rw [em])]
                      refine ⟨rfl, ?_⟩
                      dsimp only
                      rw [show decide (q + 0 < n) = true from decide_eq_true (by omega)]
                      have hcc := ((hcw.tr hc1).tr hc11).tr hc12
                      rw [em]
                      exact hcc
                  · exact absurd hq40 (by decide)
            · exact absurd hq66 (by decide)
  refine gj_E_at (L := [some (.ref m), some (.int (nI i)), some (.int (nI j)), some (.int (nI n)), none, none, none, none, none]) (k := 5) rfl (by decide) rfl ?_
  refine g_iload_n (q := 1) dX11_move_0 rfl rfl ?_
  refine g_iload_n (q := 2) dX11_move_1 rfl rfl ?_
  refine c_Si (q := 5) (p_X11_lesser (i := i) (j := j) (by omega) (by omega)) k_X11_88 (by decide) rfl rfl (Nat.le_of_ble_eq_true rfl) rfl rfl dX11_move_2 rfl ?_
  rintro z0 w1 ⟨hz0, hw1⟩
  subst w1
  subst z0
  refine g_istore (q := 7) dX11_move_5 rfl rfl rfl rfl ?_
  dsimp only [List.set]
  refine g_iload_n (q := 8) dX11_move_7 rfl rfl ?_
  refine g_iload_n (q := 9) dX11_move_8 rfl rfl ?_
  refine c_Si (q := 12) (p_X11_greater (i := i) (j := j) (by omega) (by omega)) k_X11_92 (by decide) rfl rfl (Nat.le_of_ble_eq_true rfl) rfl rfl dX11_move_9 rfl ?_
  rintro z0 w1 ⟨hz0, hw1⟩
  subst w1
  subst z0
  refine g_istore (q := 14) dX11_move_12 rfl rfl rfl rfl ?_
  dsimp only [List.set]
  refine g_aload_n (q := 15) dX11_move_14 rfl rfl ?_
  refine g_iload (q := 17) dX11_move_15 rfl rfl ?_
  refine c_Vv (q := 20) (p_X11_enters hs hM (g := min i j) (by omega)) k_X11_72 (by assumption) rfl (by decide) rfl rfl (Nat.le_of_ble_eq_true rfl) rfl rfl dX11_move_17 rfl ?_
  rintro vq1 hc1
  have hM1 := hc1.M
  refine g_aload_n (q := 21) dX11_move_20 rfl rfl ?_
  refine g_iload (q := 23) dX11_move_21 rfl rfl ?_
  refine c_Vv (q := 26) (p_X11_enters hs hM1 (g := max i j) (by omega)) k_X11_72 (by assumption) rfl (by decide) rfl rfl (Nat.le_of_ble_eq_true rfl) rfl rfl dX11_move_23 rfl ?_
  rintro vq2 hc2
  have hM2 := hc2.M
  refine g_iconst (q := 27) (x := 0) dX11_move_26 (by decide) rfl ?_
  refine g_istore (q := 29) dX11_move_27 rfl rfl rfl rfl ?_
  dsimp only [List.set]
  refine g_iconst (q := 30) (x := 0) dX11_move_29 (by decide) rfl ?_
  refine g_istore (q := 32) dX11_move_30 rfl rfl rfl rfl ?_
  dsimp only [List.set]
  unfold a_move
  dsimp only
  have hh := lp n 0 _ vq2 (hc1.tr hc2) (ivB_in (ivB_in hv (by omega)) (by omega)) (by omega)
  rw [Nat.zero_add] at hh
  exact hh
