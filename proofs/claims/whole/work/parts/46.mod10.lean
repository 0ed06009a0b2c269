theorem okp_iff {A : aS} {i j : Nat} {nd : Int32} : a_okp A (min i j) (max i j) nd ↔ ((nd ≤ nI (A.2 i).length ∧ A.1 (10 + i) 7 = -1) ∧ (nd ≤ nI (A.2 j).length ∧ A.1 (10 + j) 7 = -1)) := by
  unfold a_okp a_can
  rcases Nat.le_total i j with h | h
  · rw [Nat.min_eq_left h, Nat.max_eq_right h]
  · rw [Nat.min_eq_right h, Nat.max_eq_left h]; exact And.comm
theorem pair_ij {C : aS} {i j : Nat} (hi : i < 6) (hj : j < 6) : (a_give (a_give C i).2 j).2 = (a_give (a_give C (min i j)).2 (max i j)).2 ∧ (a_give C i).1 + (a_give (a_give C i).2 j).1 = (a_give C (min i j)).1 + (a_give (a_give C (min i j)).2 (max i j)).1 := by
  rcases Nat.lt_trichotomy i j with h | h | h
  · rw [Nat.min_eq_left (by omega), Nat.max_eq_right (by omega)]; exact ⟨rfl, rfl⟩
  · subst h; rw [Nat.min_self, Nat.max_self]; exact ⟨rfl, rfl⟩
  · rw [Nat.min_eq_right (by omega), Nat.max_eq_left (by omega)]
    obtain ⟨e1, e2⟩ := give_comm (C := C) hi hj (by omega)
    obtain ⟨e3, e4⟩ := give_comm (C := C) hj hi (by omega)
    refine ⟨e1, ?_⟩
    rw [e2, e4, Int32.add_comm]
theorem p0_10 (A : aS) (i j b : Nat) (hb : b < 6) (hi : i < 6) (hj : j < 6) : (a_p0 A i j).1 (10 + b) = A.1 (10 + b) := by
  unfold a_p0
  rw [a_in_r (by omega), a_in_r (by omega)]

set_option maxRecDepth 100000 in
set_option maxHeartbeats 4000000 in
theorem p_X11_takesBoth {X : gj_X} {lim : Nat} {σ : gj_H} {v : gj_V} {m sn : Nat} {A : aS} {t : Int32} (hs : msh σ m) (hM : MR (v (m + 2)) A t sn) {s i j : Nat} (hsn : s < sn) (hi : i < 6) (hj : j < 6) (hB : ivB A) (hin0 : A.1 (20 + s) 0 = nI i) (hin1 : A.1 (20 + s) 1 = nI j) : gj_E X 2 m_X11_takesBoth [.ref m, .int (nI (190 + 12 * s))] lim σ v (q_v lim σ (fun v' => mc v v' m (sR (a_pair A i j).2 (20 + s) (as_load (A.1 (20 + s)) (a_pair A i j).1)) t sn)) := by
  obtain ⟨so, s1, s2, s3, s4, s5, s6, s7, s8, s9, s10, s11, s12⟩ := id hs
  have hs6 := hM.2.2.2.2.2.2
  refine gj_E_at (L := [some (.ref m), some (.int (nI (190 + 12 * s))), none, none, none, none, none, none, none, none]) (k := 8) rfl (by decide) rfl ?_
  refine g_aload_n (q := 1) dX11_takesBoth_0 rfl rfl ?_
  refine g_getR (q := 4) f_X11_13 (by assumption) rfl dX11_takesBoth_1 rfl ?_
  refine g_iload_n (q := 5) dX11_takesBoth_4 rfl rfl ?_
  refine g_iconst (q := 6) (x := 0) dX11_takesBoth_5 (by decide) rfl ?_
  refine g_iadd (q := 7) dX11_takesBoth_6 rfl ?_
  refine g_iald (q := 8) (by assumption) (by first | (simp only [gn_lit, nI_add, pk_mul]; exact rfl) | exact rfl) (by omega) (by decide) dX11_takesBoth_7 rfl ?_
  rw [(hM.2.2.2.1 s hsn).1 0 (by omega), hin0]
  refine g_istore_n (q := 9) dX11_takesBoth_8 rfl rfl rfl rfl ?_
  dsimp only [List.set]
  refine g_aload_n (q := 10) dX11_takesBoth_9 rfl rfl ?_
  refine g_getR (q := 13) f_X11_13 (by assumption) rfl dX11_takesBoth_10 rfl ?_
  refine g_iload_n (q := 14) dX11_takesBoth_13 rfl rfl ?_
  refine g_iconst (q := 15) (x := 1) dX11_takesBoth_14 (by decide) rfl ?_
  refine g_iadd (q := 16) dX11_takesBoth_15 rfl ?_
  refine g_iald (q := 17) (by assumption) (by first | (simp only [gn_lit, nI_add, pk_mul]; exact rfl) | exact rfl) (by omega) (by decide) dX11_takesBoth_16 rfl ?_
  rw [(hM.2.2.2.1 s hsn).1 1 (by omega), hin1]
  refine g_istore_n (q := 18) dX11_takesBoth_17 rfl rfl rfl rfl ?_
  dsimp only [List.set]
  refine g_iload_n (q := 19) dX11_takesBoth_18 rfl rfl ?_
  refine g_iload_n (q := 20) dX11_takesBoth_19 rfl rfl ?_
  refine c_Si (q := 23) (p_X11_lesser (i := i) (j := j) (by omega) (by omega)) k_X11_88 (by decide) rfl rfl (Nat.le_of_ble_eq_true rfl) rfl rfl dX11_takesBoth_20 rfl ?_
  rintro z0 w1 ⟨hz0, hw1⟩
  subst w1
  subst z0
  refine g_istore (q := 25) dX11_takesBoth_23 rfl rfl rfl rfl ?_
  dsimp only [List.set]
  refine g_iload_n (q := 26) dX11_takesBoth_25 rfl rfl ?_
  refine g_iload_n (q := 27) dX11_takesBoth_26 rfl rfl ?_
  refine c_Si (q := 30) (p_X11_greater (i := i) (j := j) (by omega) (by omega)) k_X11_92 (by decide) rfl rfl (Nat.le_of_ble_eq_true rfl) rfl rfl dX11_takesBoth_27 rfl ?_
  rintro z0 w1 ⟨hz0, hw1⟩
  subst w1
  subst z0
  refine g_istore (q := 32) dX11_takesBoth_30 rfl rfl rfl rfl ?_
  dsimp only [List.set]
  refine g_aload_n (q := 33) dX11_takesBoth_32 rfl rfl ?_
  refine g_iload (q := 35) dX11_takesBoth_33 rfl rfl ?_
  refine c_Vv (q := 38) (p_X11_enters hs hM (g := min i j) (by omega)) k_X11_72 (by assumption) rfl (by decide) rfl rfl (Nat.le_of_ble_eq_true rfl) rfl rfl dX11_takesBoth_35 rfl ?_
  rintro vq1 hc1
  have hM1 := hc1.M
  refine g_aload_n (q := 39) dX11_takesBoth_38 rfl rfl ?_
  refine g_iload (q := 41) dX11_takesBoth_39 rfl rfl ?_
  refine c_Vv (q := 44) (p_X11_enters hs hM1 (g := max i j) (by omega)) k_X11_72 (by assumption) rfl (by decide) rfl rfl (Nat.le_of_ble_eq_true rfl) rfl rfl dX11_takesBoth_41 rfl ?_
  rintro vq2 hc2
  have hM2 := hc2.M
  have hcc : mc v vq2 m (a_p0 A i j) t sn := hc1.tr hc2
  have hM2 : MR (vq2 (m + 2)) (a_p0 A i j) t sn := hM2
  have bi : mb (vq2 (m + 2)) i (A.1 (10 + i)) (A.2 i) (A.2 (10 + i)) := by
    have q := hM2.2.1 i hi
    rw [p0_10 A i j i hi hi hj] at q
    exact q
  have bj : mb (vq2 (m + 2)) j (A.1 (10 + j)) (A.2 j) (A.2 (10 + j)) := by
    have q := hM2.2.1 j hj
    rw [p0_10 A i j j hj hi hj] at q
    exact q
  have li6 := bi.2.2.2.2.2.2.2.2.2.2.1
  have lj6 := bj.2.2.2.2.2.2.2.2.2.2.1
  obtain ⟨p1, p2, p3⟩ := a_p0_ok hB hi hj
  refine g_aload_n (q := 45) dX11_takesBoth_44 rfl rfl ?_
  refine g_getR (q := 48) f_X11_13 (by assumption) rfl dX11_takesBoth_45 rfl ?_
  refine g_iload_n (q := 49) dX11_takesBoth_48 rfl rfl ?_
  refine c_Si (q := 52) (p_X11_atBuffer (b := i)) k_X11_54 (by decide) rfl rfl (Nat.le_of_ble_eq_true rfl) rfl rfl dX11_takesBoth_49 rfl ?_
  rintro z0 w1 ⟨hz0, hw1⟩
  subst w1
  subst z0
  refine g_iconst (q := 53) (x := 5) dX11_takesBoth_52 (by decide) rfl ?_
  refine g_iadd (q := 54) dX11_takesBoth_53 rfl ?_
  refine g_iald (q := 55) (by assumption) (by first | (simp only [gn_lit, nI_add, pk_mul]; exact rfl) | exact rfl) (by omega) (by decide) dX11_takesBoth_54 rfl ?_
  refine g_iconst (q := 56) (x := (-1)) dX11_takesBoth_55 (by decide) rfl ?_
  refine g_icmpne (t := 74) (q := 59) dX11_takesBoth_56 (by decide) rfl (fun hq56 => ?_) (fun hq56 => ?_)
  · rw [bi.2.2.2.2.2.1] at hq56
    refine g_iconst (q := 75) (x := 1) dX11_takesBoth_74 (by decide) rfl ?_
    refine g_goto (q := 79) dX11_takesBoth_75 (by decide) ?_
    refine g_istore (q := 81) dX11_takesBoth_79 rfl rfl rfl rfl ?_
    dsimp only [List.set]
    refine g_iload_n (q := 82) dX11_takesBoth_81 rfl rfl ?_
    refine g_iload_n (q := 83) dX11_takesBoth_82 rfl rfl ?_
    refine g_icmpne (t := 109) (q := 86) dX11_takesBoth_83 (by decide) rfl (fun hq83 => ?_) (fun hq83 => ?_)
    · have hij : ¬ i = j := fun z => hq83 (by rw [z])
      refine g_aload_n (q := 110) dX11_takesBoth_109 rfl rfl ?_
      refine g_getR (q := 113) f_X11_13 (by assumption) rfl dX11_takesBoth_110 rfl ?_
      refine g_iload_n (q := 114) dX11_takesBoth_113 rfl rfl ?_
      refine c_Si (q := 117) (p_X11_atBuffer (b := i)) k_X11_54 (by decide) rfl rfl (Nat.le_of_ble_eq_true rfl) rfl rfl dX11_takesBoth_114 rfl ?_
      rintro z0 w1 ⟨hz0, hw1⟩
      subst w1
      subst z0
      refine g_iconst (q := 118) (x := 0) dX11_takesBoth_117 (by decide) rfl ?_
      refine g_iadd (q := 119) dX11_takesBoth_118 rfl ?_
      refine g_iald (q := 120) (by assumption) (by first | (simp only [gn_lit, nI_add, pk_mul]; exact rfl) | exact rfl) (by omega) (by decide) dX11_takesBoth_119 rfl ?_
      refine g_ifle (t := 141) (q := 123) dX11_takesBoth_120 (by decide) rfl (fun hq120 => ?_) (fun hq120 => ?_)
      · rw [bi.1] at hq120
        refine g_iconst (q := 142) (x := 0) dX11_takesBoth_141 (by decide) rfl ?_
        refine g_istore (q := 144) dX11_takesBoth_142 rfl rfl rfl rfl ?_
        dsimp only [List.set]
        refine g_iload (q := 146) dX11_takesBoth_144 rfl rfl ?_
        refine g_ifne (t := 154) (q := 149) dX11_takesBoth_146 (by decide) rfl (fun hq146 => ?_) (fun hq146 => ?_)
        · refine g_aload_n (q := 155) dX11_takesBoth_154 rfl rfl ?_
          refine g_iload (q := 157) dX11_takesBoth_155 rfl rfl ?_
          refine c_Vv (q := 160) (p_X11_thrownOut hs hM2 (g := max i j) (by omega)) k_X11_79 (by assumption) rfl (by decide) rfl rfl (Nat.le_of_ble_eq_true rfl) rfl rfl dX11_takesBoth_157 rfl ?_
          rintro vq3 hc3
          have hM3 := hc3.M
          refine g_aload_n (q := 161) dX11_takesBoth_160 rfl rfl ?_
          refine g_iload (q := 163) dX11_takesBoth_161 rfl rfl ?_
          refine c_Vv (q := 166) (p_X11_thrownOut hs hM3 (g := min i j) (by omega)) k_X11_79 (by assumption) rfl (by decide) rfl rfl (Nat.le_of_ble_eq_true rfl) rfl rfl dX11_takesBoth_163 rfl ?_
          rintro vq4 hc4
          have hM4 := hc4.M
          have ew : (a_thr (a_thr (a_p0 A i j) (max i j)) (min i j)).1 (20 + s) = A.1 (20 + s) := by
            unfold a_thr a_p0 a_in
            simp only [sR]
            rw [vu_n _ _ (by omega), vu_n _ _ (by omega), vu_n _ _ (by omega), vu_n _ _ (by omega)]
          have a11 := (hM4.2.2.2.1 s hsn).2.2.2 11 (by omega) (by omega)
          rw [ew] at a11
          refine g_aload_n (q := 167) dX11_takesBoth_166 rfl rfl ?_
          refine g_getR (q := 170) f_X11_13 (by assumption) rfl dX11_takesBoth_167 rfl ?_
          refine g_iload_n (q := 171) dX11_takesBoth_170 rfl rfl ?_
          refine g_bipush (q := 173) (x := 11) dX11_takesBoth_171 (by decide) rfl ?_
          refine g_iadd (q := 174) dX11_takesBoth_173 rfl ?_
          refine g_dup2 (q := 175) dX11_takesBoth_174 rfl rfl rfl ?_
          refine g_iald (q := 176) (by assumption) (by first | (simp only [gn_lit, nI_add, pk_mul]; exact rfl) | exact rfl) (by omega) (by decide) dX11_takesBoth_175 rfl ?_
          refine g_iconst (q := 177) (x := 1) dX11_takesBoth_176 (by decide) rfl ?_
          refine g_iadd (q := 178) dX11_takesBoth_177 rfl ?_
          refine g_iast (q := 179) (by assumption) (by first | (simp only [gn_lit, nI_add, pk_mul]; exact rfl) | exact rfl) (by omega) (by decide) dX11_takesBoth_178 rfl ?_
          refine g_gen (fun vq5 hvq5 => ?_)
          rw [gu_2] at hvq5
          have hc5 : mc vq4 vq5 m (sR (a_thr (a_thr (a_p0 A i j) (max i j)) (min i j)) (20 + s) (upd (A.1 (20 + s)) 11 (A.1 (20 + s) 11 + 1))) t sn := by
            refine ⟨_, hvq5, hM4.stat hsn (fun i hi => ud_n _ _ (by omega)) ?_⟩
            have q := hM4.2.2.2.1 s hsn
            rw [ew] at q
            rw [a11]
            exact ms_hi q (by omega) (by omega)
          refine r_v dX11_takesBoth_179 rfl rfl rfl ?_
          have hno : ¬ a_okp A (min i j) (max i j) (if i = j then 2 else 1) := by
            rw [okp_iff]
            intro q
            first | exact hq56 q.1.2 | exact hq71 q.2.2 | (rw [if_pos hij] at q; exact absurd (Int32.le_trans q.1.1 hq98) (by decide)) | (rw [if_neg hij] at q; exact absurd (Int32.le_trans q.1.1 hq120) (by decide)) | (rw [if_neg hij] at q; exact absurd (Int32.le_trans q.2.1 hq134) (by decide))
          unfold a_pair
          rw [if_neg hno]
          dsimp only
          unfold as_load a_two
          rw [if_pos rfl, if_pos rfl]
          exact ((hcc.tr hc3).tr hc4).tr hc5
        · exact absurd hq146 (by decide)
      · rw [bi.1] at hq120
        have hq120 := gn_0lt hq120
        refine g_aload_n (q := 124) dX11_takesBoth_123 rfl rfl ?_
        refine g_getR (q := 127) f_X11_13 (by assumption) rfl dX11_takesBoth_124 rfl ?_
        refine g_iload_n (q := 128) dX11_takesBoth_127 rfl rfl ?_
        refine c_Si (q := 131) (p_X11_atBuffer (b := j)) k_X11_54 (by decide) rfl rfl (Nat.le_of_ble_eq_true rfl) rfl rfl dX11_takesBoth_128 rfl ?_
        rintro z0 w1 ⟨hz0, hw1⟩
        subst w1
        subst z0
        refine g_iconst (q := 132) (x := 0) dX11_takesBoth_131 (by decide) rfl ?_
        refine g_iadd (q := 133) dX11_takesBoth_132 rfl ?_
        refine g_iald (q := 134) (by assumption) (by first | (simp only [gn_lit, nI_add, pk_mul]; exact rfl) | exact rfl) (by omega) (by decide) dX11_takesBoth_133 rfl ?_
        refine g_ifle (t := 141) (q := 137) dX11_takesBoth_134 (by decide) rfl (fun hq134 => ?_) (fun hq134 => ?_)
        · rw [bj.1] at hq134
          refine g_iconst (q := 142) (x := 0) dX11_takesBoth_141 (by decide) rfl ?_
          refine g_istore (q := 144) dX11_takesBoth_142 rfl rfl rfl rfl ?_
          dsimp only [List.set]
          refine g_iload (q := 146) dX11_takesBoth_144 rfl rfl ?_
          refine g_ifne (t := 154) (q := 149) dX11_takesBoth_146 (by decide) rfl (fun hq146 => ?_) (fun hq146 => ?_)
          · refine g_aload_n (q := 155) dX11_takesBoth_154 rfl rfl ?_
            refine g_iload (q := 157) dX11_takesBoth_155 rfl rfl ?_
            refine c_Vv (q := 160) (p_X11_thrownOut hs hM2 (g := max i j) (by omega)) k_X11_79 (by assumption) rfl (by decide) rfl rfl (Nat.le_of_ble_eq_true rfl) rfl rfl dX11_takesBoth_157 rfl ?_
            rintro vq3 hc3
            have hM3 := hc3.M
            refine g_aload_n (q := 161) dX11_takesBoth_160 rfl rfl ?_
            refine g_iload (q := 163) dX11_takesBoth_161 rfl rfl ?_
            refine c_Vv (q := 166) (p_X11_thrownOut hs hM3 (g := min i j) (by omega)) k_X11_79 (by assumption) rfl (by decide) rfl rfl (Nat.le_of_ble_eq_true rfl) rfl rfl dX11_takesBoth_163 rfl ?_
            rintro vq4 hc4
            have hM4 := hc4.M
            have ew : (a_thr (a_thr (a_p0 A i j) (max i j)) (min i j)).1 (20 + s) = A.1 (20 + s) := by
              unfold a_thr a_p0 a_in
              simp only [sR]
              rw [vu_n _ _ (by omega), vu_n _ _ (by omega), vu_n _ _ (by omega), vu_n _ _ (by omega)]
            have a11 := (hM4.2.2.2.1 s hsn).2.2.2 11 (by omega) (by omega)
            rw [ew] at a11
            refine g_aload_n (q := 167) dX11_takesBoth_166 rfl rfl ?_
            refine g_getR (q := 170) f_X11_13 (by assumption) rfl dX11_takesBoth_167 rfl ?_
            refine g_iload_n (q := 171) dX11_takesBoth_170 rfl rfl ?_
            refine g_bipush (q := 173) (x := 11) dX11_takesBoth_171 (by decide) rfl ?_
            refine g_iadd (q := 174) dX11_takesBoth_173 rfl ?_
            refine g_dup2 (q := 175) dX11_takesBoth_174 rfl rfl rfl ?_
            refine g_iald (q := 176) (by assumption) (by first | (simp only [gn_lit, nI_add, pk_mul]; exact rfl) | exact rfl) (by omega) (by decide) dX11_takesBoth_175 rfl ?_
            refine g_iconst (q := 177) (x := 1) dX11_takesBoth_176 (by decide) rfl ?_
            refine g_iadd (q := 178) dX11_takesBoth_177 rfl ?_
            refine g_iast (q := 179) (by assumption) (by first | (simp only [gn_lit, nI_add, pk_mul]; exact rfl) | exact rfl) (by omega) (by decide) dX11_takesBoth_178 rfl ?_
            refine g_gen (fun vq5 hvq5 => ?_)
            rw [gu_2] at hvq5
            have hc5 : mc vq4 vq5 m (sR (a_thr (a_thr (a_p0 A i j) (max i j)) (min i j)) (20 + s) (upd (A.1 (20 + s)) 11 (A.1 (20 + s) 11 + 1))) t sn := by
              refine ⟨_, hvq5, hM4.stat hsn (fun i hi => ud_n _ _ (by omega)) ?_⟩
              have q := hM4.2.2.2.1 s hsn
              rw [ew] at q
              rw [a11]
              exact ms_hi q (by omega) (by omega)
            refine r_v dX11_takesBoth_179 rfl rfl rfl ?_
            have hno : ¬ a_okp A (min i j) (max i j) (if i = j then 2 else 1) := by
              rw [okp_iff]
              intro q
              first | exact hq56 q.1.2 | exact hq71 q.2.2 | (rw [if_pos hij] at q; exact absurd (Int32.le_trans q.1.1 hq98) (by decide)) | (rw [if_neg hij] at q; exact absurd (Int32.le_trans q.1.1 hq120) (by decide)) | (rw [if_neg hij] at q; exact absurd (Int32.le_trans q.2.1 hq134) (by decide))
            unfold a_pair
            rw [if_neg hno]
            dsimp only
            unfold as_load a_two
            rw [if_pos rfl, if_pos rfl]
            exact ((hcc.tr hc3).tr hc4).tr hc5
          · exact absurd hq146 (by decide)
        · rw [bj.1] at hq134
          have hq134 := gn_0lt hq134
          refine g_iconst (q := 138) (x := 1) dX11_takesBoth_137 (by decide) rfl ?_
          refine g_goto (q := 142) dX11_takesBoth_138 (by decide) ?_
          refine g_istore (q := 144) dX11_takesBoth_142 rfl rfl rfl rfl ?_
          dsimp only [List.set]
          refine g_iload (q := 146) dX11_takesBoth_144 rfl rfl ?_
          refine g_ifne (t := 154) (q := 149) dX11_takesBoth_146 (by decide) rfl (fun hq146 => ?_) (fun hq146 => ?_)
          · refine g_aload_n (q := 155) dX11_takesBoth_154 rfl rfl ?_
            refine g_iload (q := 157) dX11_takesBoth_155 rfl rfl ?_
            refine c_Vv (q := 160) (p_X11_thrownOut hs hM2 (g := max i j) (by omega)) k_X11_79 (by assumption) rfl (by decide) rfl rfl (Nat.le_of_ble_eq_true rfl) rfl rfl dX11_takesBoth_157 rfl ?_
            rintro vq3 hc3
            have hM3 := hc3.M
            refine g_aload_n (q := 161) dX11_takesBoth_160 rfl rfl ?_
            refine g_iload (q := 163) dX11_takesBoth_161 rfl rfl ?_
            refine c_Vv (q := 166) (p_X11_thrownOut hs hM3 (g := min i j) (by omega)) k_X11_79 (by assumption) rfl (by decide) rfl rfl (Nat.le_of_ble_eq_true rfl) rfl rfl dX11_takesBoth_163 rfl ?_
            rintro vq4 hc4
            have hM4 := hc4.M
            have ew : (a_thr (a_thr (a_p0 A i j) (max i j)) (min i j)).1 (20 + s) = A.1 (20 + s) := by
              unfold a_thr a_p0 a_in
              simp only [sR]
              rw [vu_n _ _ (by omega), vu_n _ _ (by omega), vu_n _ _ (by omega), vu_n _ _ (by omega)]
            have a11 := (hM4.2.2.2.1 s hsn).2.2.2 11 (by omega) (by omega)
            rw [ew] at a11
            refine g_aload_n (q := 167) dX11_takesBoth_166 rfl rfl ?_
            refine g_getR (q := 170) f_X11_13 (by assumption) rfl dX11_takesBoth_167 rfl ?_
            refine g_iload_n (q := 171) dX11_takesBoth_170 rfl rfl ?_
            refine g_bipush (q := 173) (x := 11) dX11_takesBoth_171 (by decide) rfl ?_
            refine g_iadd (q := 174) dX11_takesBoth_173 rfl ?_
            refine g_dup2 (q := 175) dX11_takesBoth_174 rfl rfl rfl ?_
            refine g_iald (q := 176) (by assumption) (by first | (simp only [gn_lit, nI_add, pk_mul]; exact rfl) | exact rfl) (by omega) (by decide) dX11_takesBoth_175 rfl ?_
            refine g_iconst (q := 177) (x := 1) dX11_takesBoth_176 (by decide) rfl ?_
            refine g_iadd (q := 178) dX11_takesBoth_177 rfl ?_
            refine g_iast (q := 179) (by assumption) (by first | (simp only [gn_lit, nI_add, pk_mul]; exact rfl) | exact rfl) (by omega) (by decide) dX11_takesBoth_178 rfl ?_
            refine g_gen (fun vq5 hvq5 => ?_)
            rw [gu_2] at hvq5
            have hc5 : mc vq4 vq5 m (sR (a_thr (a_thr (a_p0 A i j) (max i j)) (min i j)) (20 + s) (upd (A.1 (20 + s)) 11 (A.1 (20 + s) 11 + 1))) t sn := by
              refine ⟨_, hvq5, hM4.stat hsn (fun i hi => ud_n _ _ (by omega)) ?_⟩
              have q := hM4.2.2.2.1 s hsn
              rw [ew] at q
              rw [a11]
              exact ms_hi q (by omega) (by omega)
            refine r_v dX11_takesBoth_179 rfl rfl rfl ?_
            have hno : ¬ a_okp A (min i j) (max i j) (if i = j then 2 else 1) := by
              rw [okp_iff]
              intro q
              first | exact hq56 q.1.2 | exact hq71 q.2.2 | (rw [if_pos hij] at q; exact absurd (Int32.le_trans q.1.1 hq98) (by decide)) | (rw [if_neg hij] at q; exact absurd (Int32.le_trans q.1.1 hq120) (by decide)) | (rw [if_neg hij] at q; exact absurd (Int32.le_trans q.2.1 hq134) (by decide))
            unfold a_pair
            rw [if_neg hno]
            dsimp only
            unfold as_load a_two
            rw [if_pos rfl, if_pos rfl]
            exact ((hcc.tr hc3).tr hc4).tr hc5
          · exact absurd hq146 (by decide)
    · have hij : i = j := nI_inj6 (by omega) (by omega) hq83
      refine g_aload_n (q := 87) dX11_takesBoth_86 rfl rfl ?_
      refine g_getR (q := 90) f_X11_13 (by assumption) rfl dX11_takesBoth_87 rfl ?_
      refine g_iload_n (q := 91) dX11_takesBoth_90 rfl rfl ?_
      refine c_Si (q := 94) (p_X11_atBuffer (b := i)) k_X11_54 (by decide) rfl rfl (Nat.le_of_ble_eq_true rfl) rfl rfl dX11_takesBoth_91 rfl ?_
      rintro z0 w1 ⟨hz0, hw1⟩
      subst w1
      subst z0
      refine g_iconst (q := 95) (x := 0) dX11_takesBoth_94 (by decide) rfl ?_
      refine g_iadd (q := 96) dX11_takesBoth_95 rfl ?_
      refine g_iald (q := 97) (by assumption) (by first | (simp only [gn_lit, nI_add, pk_mul]; exact rfl) | exact rfl) (by omega) (by decide) dX11_takesBoth_96 rfl ?_
      refine g_iconst (q := 98) (x := 1) dX11_takesBoth_97 (by decide) rfl ?_
      refine g_icmple (t := 105) (q := 101) dX11_takesBoth_98 (by decide) rfl (fun hq98 => ?_) (fun hq98 => ?_)
      · rw [bi.1] at hq98
        refine g_iconst (q := 106) (x := 0) dX11_takesBoth_105 (by decide) rfl ?_
        refine g_goto (q := 142) dX11_takesBoth_106 (by decide) ?_
        refine g_istore (q := 144) dX11_takesBoth_142 rfl rfl rfl rfl ?_
        dsimp only [List.set]
        refine g_iload (q := 146) dX11_takesBoth_144 rfl rfl ?_
        refine g_ifne (t := 154) (q := 149) dX11_takesBoth_146 (by decide) rfl (fun hq146 => ?_) (fun hq146 => ?_)
        · refine g_aload_n (q := 155) dX11_takesBoth_154 rfl rfl ?_
          refine g_iload (q := 157) dX11_takesBoth_155 rfl rfl ?_
          refine c_Vv (q := 160) (p_X11_thrownOut hs hM2 (g := max i j) (by omega)) k_X11_79 (by assumption) rfl (by decide) rfl rfl (Nat.le_of_ble_eq_true rfl) rfl rfl dX11_takesBoth_157 rfl ?_
          rintro vq3 hc3
          have hM3 := hc3.M
          refine g_aload_n (q := 161) dX11_takesBoth_160 rfl rfl ?_
          refine g_iload (q := 163) dX11_takesBoth_161 rfl rfl ?_
          refine c_Vv (q := 166) (p_X11_thrownOut hs hM3 (g := min i j) (by omega)) k_X11_79 (by assumption) rfl (by decide) rfl rfl (Nat.le_of_ble_eq_true rfl) rfl rfl dX11_takesBoth_163 rfl ?_
          rintro vq4 hc4
          have hM4 := hc4.M
          have ew : (a_thr (a_thr (a_p0 A i j) (max i j)) (min i j)).1 (20 + s) = A.1 (20 + s) := by
            unfold a_thr a_p0 a_in
            simp only [sR]
            rw [vu_n _ _ (by omega), vu_n _ _ (by omega), vu_n _ _ (by omega), vu_n _ _ (by omega)]
          have a11 := (hM4.2.2.2.1 s hsn).2.2.2 11 (by omega) (by omega)
          rw [ew] at a11
          refine g_aload_n (q := 167) dX11_takesBoth_166 rfl rfl ?_
          refine g_getR (q := 170) f_X11_13 (by assumption) rfl dX11_takesBoth_167 rfl ?_
          refine g_iload_n (q := 171) dX11_takesBoth_170 rfl rfl ?_
          refine g_bipush (q := 173) (x := 11) dX11_takesBoth_171 (by decide) rfl ?_
          refine g_iadd (q := 174) dX11_takesBoth_173 rfl ?_
          refine g_dup2 (q := 175) dX11_takesBoth_174 rfl rfl rfl ?_
          refine g_iald (q := 176) (by assumption) (by first | (simp only [gn_lit, nI_add, pk_mul]; exact rfl) | exact rfl) (by omega) (by decide) dX11_takesBoth_175 rfl ?_
          refine g_iconst (q := 177) (x := 1) dX11_takesBoth_176 (by decide) rfl ?_
          refine g_iadd (q := 178) dX11_takesBoth_177 rfl ?_
          refine g_iast (q := 179) (by assumption) (by first | (simp only [gn_lit, nI_add, pk_mul]; exact rfl) | exact rfl) (by omega) (by decide) dX11_takesBoth_178 rfl ?_
          refine g_gen (fun vq5 hvq5 => ?_)
          rw [gu_2] at hvq5
          have hc5 : mc vq4 vq5 m (sR (a_thr (a_thr (a_p0 A i j) (max i j)) (min i j)) (20 + s) (upd (A.1 (20 + s)) 11 (A.1 (20 + s) 11 + 1))) t sn := by
            refine ⟨_, hvq5, hM4.stat hsn (fun i hi => ud_n _ _ (by omega)) ?_⟩
            have q := hM4.2.2.2.1 s hsn
            rw [ew] at q
            rw [a11]
            exact ms_hi q (by omega) (by omega)
          refine r_v dX11_takesBoth_179 rfl rfl rfl ?_
          have hno : ¬ a_okp A (min i j) (max i j) (if i = j then 2 else 1) := by
            rw [okp_iff]
            intro q
            first | exact hq56 q.1.2 | exact hq71 q.2.2 | (rw [if_pos hij] at q; exact absurd (Int32.le_trans q.1.1 hq98) (by decide)) | (rw [if_neg hij] at q; exact absurd (Int32.le_trans q.1.1 hq120) (by decide)) | (rw [if_neg hij] at q; exact absurd (Int32.le_trans q.2.1 hq134) (by decide))
          unfold a_pair
          rw [if_neg hno]
          dsimp only
          unfold as_load a_two
          rw [if_pos rfl, if_pos rfl]
          exact ((hcc.tr hc3).tr hc4).tr hc5
        · exact absurd hq146 (by decide)
      · rw [bi.1] at hq98
        have hq98 : 1 < (A.2 i).length := Nat.lt_of_not_le (fun z => hq98 (nI_le z (by decide)))
        refine g_iconst (q := 102) (x := 1) dX11_takesBoth_101 (by decide) rfl ?_
        refine g_goto (q := 142) dX11_takesBoth_102 (by decide) ?_
        refine g_istore (q := 144) dX11_takesBoth_142 rfl rfl rfl rfl ?_
        dsimp only [List.set]
        refine g_iload (q := 146) dX11_takesBoth_144 rfl rfl ?_
        refine g_ifne (t := 154) (q := 149) dX11_takesBoth_146 (by decide) rfl (fun hq146 => ?_) (fun hq146 => ?_)
        · refine g_aload_n (q := 155) dX11_takesBoth_154 rfl rfl ?_
          refine g_iload (q := 157) dX11_takesBoth_155 rfl rfl ?_
          refine c_Vv (q := 160) (p_X11_thrownOut hs hM2 (g := max i j) (by omega)) k_X11_79 (by assumption) rfl (by decide) rfl rfl (Nat.le_of_ble_eq_true rfl) rfl rfl dX11_takesBoth_157 rfl ?_
          rintro vq3 hc3
          have hM3 := hc3.M
          refine g_aload_n (q := 161) dX11_takesBoth_160 rfl rfl ?_
          refine g_iload (q := 163) dX11_takesBoth_161 rfl rfl ?_
          refine c_Vv (q := 166) (p_X11_thrownOut hs hM3 (g := min i j) (by omega)) k_X11_79 (by assumption) rfl (by decide) rfl rfl (Nat.le_of_ble_eq_true rfl) rfl rfl dX11_takesBoth_163 rfl ?_
          rintro vq4 hc4
          have hM4 := hc4.M
          have ew : (a_thr (a_thr (a_p0 A i j) (max i j)) (min i j)).1 (20 + s) = A.1 (20 + s) := by
            unfold a_thr a_p0 a_in
            simp only [sR]
            rw [vu_n _ _ (by omega), vu_n _ _ (by omega), vu_n _ _ (by omega), vu_n _ _ (by omega)]
          have a11 := (hM4.2.2.2.1 s hsn).2.2.2 11 (by omega) (by omega)
          rw [ew] at a11
          refine g_aload_n (q := 167) dX11_takesBoth_166 rfl rfl ?_
          refine g_getR (q := 170) f_X11_13 (by assumption) rfl dX11_takesBoth_167 rfl ?_
          refine g_iload_n (q := 171) dX11_takesBoth_170 rfl rfl ?_
          refine g_bipush (q := 173) (x := 11) dX11_takesBoth_171 (by decide) rfl ?_
          refine g_iadd (q := 174) dX11_takesBoth_173 rfl ?_
          refine g_dup2 (q := 175) dX11_takesBoth_174 rfl rfl rfl ?_
          refine g_iald (q := 176) (by assumption) (by first | (simp only [gn_lit, nI_add, pk_mul]; exact rfl) | exact rfl) (by omega) (by decide) dX11_takesBoth_175 rfl ?_
          refine g_iconst (q := 177) (x := 1) dX11_takesBoth_176 (by decide) rfl ?_
          refine g_iadd (q := 178) dX11_takesBoth_177 rfl ?_
          refine g_iast (q := 179) (by assumption) (by first | (simp only [gn_lit, nI_add, pk_mul]; exact rfl) | exact rfl) (by omega) (by decide) dX11_takesBoth_178 rfl ?_
          refine g_gen (fun vq5 hvq5 => ?_)
          rw [gu_2] at hvq5
          have hc5 : mc vq4 vq5 m (sR (a_thr (a_thr (a_p0 A i j) (max i j)) (min i j)) (20 + s) (upd (A.1 (20 + s)) 11 (A.1 (20 + s) 11 + 1))) t sn := by
            refine ⟨_, hvq5, hM4.stat hsn (fun i hi => ud_n _ _ (by omega)) ?_⟩
            have q := hM4.2.2.2.1 s hsn
            rw [ew] at q
            rw [a11]
            exact ms_hi q (by omega) (by omega)
          refine r_v dX11_takesBoth_179 rfl rfl rfl ?_
          have hno : ¬ a_okp A (min i j) (max i j) (if i = j then 2 else 1) := by
            rw [okp_iff]
            intro q
            first | exact hq56 q.1.2 | exact hq71 q.2.2 | (rw [if_pos hij] at q; exact absurd (Int32.le_trans q.1.1 hq98) (by decide)) | (rw [if_neg hij] at q; exact absurd (Int32.le_trans q.1.1 hq120) (by decide)) | (rw [if_neg hij] at q; exact absurd (Int32.le_trans q.2.1 hq134) (by decide))
          unfold a_pair
          rw [if_neg hno]
          dsimp only
          unfold as_load a_two
          rw [if_pos rfl, if_pos rfl]
          exact ((hcc.tr hc3).tr hc4).tr hc5
        · exact absurd hq146 (by decide)
  · rw [bi.2.2.2.2.2.1] at hq56
    refine g_aload_n (q := 60) dX11_takesBoth_59 rfl rfl ?_
    refine g_getR (q := 63) f_X11_13 (by assumption) rfl dX11_takesBoth_60 rfl ?_
    refine g_iload_n (q := 64) dX11_takesBoth_63 rfl rfl ?_
    refine c_Si (q := 67) (p_X11_atBuffer (b := j)) k_X11_54 (by decide) rfl rfl (Nat.le_of_ble_eq_true rfl) rfl rfl dX11_takesBoth_64 rfl ?_
    rintro z0 w1 ⟨hz0, hw1⟩
    subst w1
    subst z0
    refine g_iconst (q := 68) (x := 5) dX11_takesBoth_67 (by decide) rfl ?_
    refine g_iadd (q := 69) dX11_takesBoth_68 rfl ?_
    refine g_iald (q := 70) (by assumption) (by first | (simp only [gn_lit, nI_add, pk_mul]; exact rfl) | exact rfl) (by omega) (by decide) dX11_takesBoth_69 rfl ?_
    refine g_iconst (q := 71) (x := (-1)) dX11_takesBoth_70 (by decide) rfl ?_
    refine g_icmpeq (t := 78) (q := 74) dX11_takesBoth_71 (by decide) rfl (fun hq71 => ?_) (fun hq71 => ?_)
    · rw [bj.2.2.2.2.2.1] at hq71
      refine g_iconst (q := 79) (x := 0) dX11_takesBoth_78 (by decide) rfl ?_
      refine g_istore (q := 81) dX11_takesBoth_79 rfl rfl rfl rfl ?_
      dsimp only [List.set]
      refine g_iload_n (q := 82) dX11_takesBoth_81 rfl rfl ?_
      refine g_iload_n (q := 83) dX11_takesBoth_82 rfl rfl ?_
      refine g_icmpne (t := 109) (q := 86) dX11_takesBoth_83 (by decide) rfl (fun hq83 => ?_) (fun hq83 => ?_)
      · have hij : ¬ i = j := fun z => hq83 (by rw [z])
        refine g_aload_n (q := 110) dX11_takesBoth_109 rfl rfl ?_
        refine g_getR (q := 113) f_X11_13 (by assumption) rfl dX11_takesBoth_110 rfl ?_
        refine g_iload_n (q := 114) dX11_takesBoth_113 rfl rfl ?_
        refine c_Si (q := 117) (p_X11_atBuffer (b := i)) k_X11_54 (by decide) rfl rfl (Nat.le_of_ble_eq_true rfl) rfl rfl dX11_takesBoth_114 rfl ?_
        rintro z0 w1 ⟨hz0, hw1⟩
        subst w1
        subst z0
        refine g_iconst (q := 118) (x := 0) dX11_takesBoth_117 (by decide) rfl ?_
        refine g_iadd (q := 119) dX11_takesBoth_118 rfl ?_
        refine g_iald (q := 120) (by assumption) (by first | (simp only [gn_lit, nI_add, pk_mul]; exact rfl) | exact rfl) (by omega) (by decide) dX11_takesBoth_119 rfl ?_
        refine g_ifle (t := 141) (q := 123) dX11_takesBoth_120 (by decide) rfl (fun hq120 => ?_) (fun hq120 => ?_)
        · rw [bi.1] at hq120
          refine g_iconst (q := 142) (x := 0) dX11_takesBoth_141 (by decide) rfl ?_
          refine g_istore (q := 144) dX11_takesBoth_142 rfl rfl rfl rfl ?_
          dsimp only [List.set]
          refine g_iload (q := 146) dX11_takesBoth_144 rfl rfl ?_
          refine g_ifne (t := 154) (q := 149) dX11_takesBoth_146 (by decide) rfl (fun hq146 => ?_) (fun hq146 => ?_)
          · exact absurd rfl hq146
          · refine g_iload (q := 151) dX11_takesBoth_149 rfl rfl ?_
            refine g_ifne (t := 180) (q := 154) dX11_takesBoth_151 (by decide) rfl (fun hq151 => ?_) (fun hq151 => ?_)
            · exact absurd rfl hq151
            · refine g_aload_n (q := 155) dX11_takesBoth_154 rfl rfl ?_
              refine g_iload (q := 157) dX11_takesBoth_155 rfl rfl ?_
              refine c_Vv (q := 160) (p_X11_thrownOut hs hM2 (g := max i j) (by omega)) k_X11_79 (by assumption) rfl (by decide) rfl rfl (Nat.le_of_ble_eq_true rfl) rfl rfl dX11_takesBoth_157 rfl ?_
              rintro vq3 hc3
              have hM3 := hc3.M
              refine g_aload_n (q := 161) dX11_takesBoth_160 rfl rfl ?_
              refine g_iload (q := 163) dX11_takesBoth_161 rfl rfl ?_
              refine c_Vv (q := 166) (p_X11_thrownOut hs hM3 (g := min i j) (by omega)) k_X11_79 (by assumption) rfl (by decide) rfl rfl (Nat.le_of_ble_eq_true rfl) rfl rfl dX11_takesBoth_163 rfl ?_
              rintro vq4 hc4
              have hM4 := hc4.M
              have ew : (a_thr (a_thr (a_p0 A i j) (max i j)) (min i j)).1 (20 + s) = A.1 (20 + s) := by
                unfold a_thr a_p0 a_in
                simp only [sR]
                rw [vu_n _ _ (by omega), vu_n _ _ (by omega), vu_n _ _ (by omega), vu_n _ _ (by omega)]
              have a11 := (hM4.2.2.2.1 s hsn).2.2.2 11 (by omega) (by omega)
              rw [ew] at a11
              refine g_aload_n (q := 167) dX11_takesBoth_166 rfl rfl ?_
              refine g_getR (q := 170) f_X11_13 (by assumption) rfl dX11_takesBoth_167 rfl ?_
              refine g_iload_n (q := 171) dX11_takesBoth_170 rfl rfl ?_
              refine g_bipush (q := 173) (x := 11) dX11_takesBoth_171 (by decide) rfl ?_
              refine g_iadd (q := 174) dX11_takesBoth_173 rfl ?_
              refine g_dup2 (q := 175) dX11_takesBoth_174 rfl rfl rfl ?_
              refine g_iald (q := 176) (by assumption) (by first | (simp only [gn_lit, nI_add, pk_mul]; exact rfl) | exact rfl) (by omega) (by decide) dX11_takesBoth_175 rfl ?_
              refine g_iconst (q := 177) (x := 1) dX11_takesBoth_176 (by decide) rfl ?_
              refine g_iadd (q := 178) dX11_takesBoth_177 rfl ?_
              refine g_iast (q := 179) (by assumption) (by first | (simp only [gn_lit, nI_add, pk_mul]; exact rfl) | exact rfl) (by omega) (by decide) dX11_takesBoth_178 rfl ?_
              refine g_gen (fun vq5 hvq5 => ?_)
              rw [gu_2] at hvq5
              have hc5 : mc vq4 vq5 m (sR (a_thr (a_thr (a_p0 A i j) (max i j)) (min i j)) (20 + s) (upd (A.1 (20 + s)) 11 (A.1 (20 + s) 11 + 1))) t sn := by
                refine ⟨_, hvq5, hM4.stat hsn (fun i hi => ud_n _ _ (by omega)) ?_⟩
                have q := hM4.2.2.2.1 s hsn
                rw [ew] at q
                rw [a11]
                exact ms_hi q (by omega) (by omega)
              refine r_v dX11_takesBoth_179 rfl rfl rfl ?_
              have hno : ¬ a_okp A (min i j) (max i j) (if i = j then 2 else 1) := by
                rw [okp_iff]
                intro q
                first | exact hq56 q.1.2 | exact hq71 q.2.2 | (rw [if_pos hij] at q; exact absurd (Int32.le_trans q.1.1 hq98) (by decide)) | (rw [if_neg hij] at q; exact absurd (Int32.le_trans q.1.1 hq120) (by decide)) | (rw [if_neg hij] at q; exact absurd (Int32.le_trans q.2.1 hq134) (by decide))
              unfold a_pair
              rw [if_neg hno]
              dsimp only
              unfold as_load a_two
              rw [if_pos rfl, if_pos rfl]
              exact ((hcc.tr hc3).tr hc4).tr hc5
        · rw [bi.1] at hq120
          have hq120 := gn_0lt hq120
          refine g_aload_n (q := 124) dX11_takesBoth_123 rfl rfl ?_
          refine g_getR (q := 127) f_X11_13 (by assumption) rfl dX11_takesBoth_124 rfl ?_
          refine g_iload_n (q := 128) dX11_takesBoth_127 rfl rfl ?_
          refine c_Si (q := 131) (p_X11_atBuffer (b := j)) k_X11_54 (by decide) rfl rfl (Nat.le_of_ble_eq_true rfl) rfl rfl dX11_takesBoth_128 rfl ?_
          rintro z0 w1 ⟨hz0, hw1⟩
          subst w1
          subst z0
          refine g_iconst (q := 132) (x := 0) dX11_takesBoth_131 (by decide) rfl ?_
          refine g_iadd (q := 133) dX11_takesBoth_132 rfl ?_
          refine g_iald (q := 134) (by assumption) (by first | (simp only [gn_lit, nI_add, pk_mul]; exact rfl) | exact rfl) (by omega) (by decide) dX11_takesBoth_133 rfl ?_
          refine g_ifle (t := 141) (q := 137) dX11_takesBoth_134 (by decide) rfl (fun hq134 => ?_) (fun hq134 => ?_)
          · rw [bj.1] at hq134
            refine g_iconst (q := 142) (x := 0) dX11_takesBoth_141 (by decide) rfl ?_
            refine g_istore (q := 144) dX11_takesBoth_142 rfl rfl rfl rfl ?_
            dsimp only [List.set]
            refine g_iload (q := 146) dX11_takesBoth_144 rfl rfl ?_
            refine g_ifne (t := 154) (q := 149) dX11_takesBoth_146 (by decide) rfl (fun hq146 => ?_) (fun hq146 => ?_)
            · exact absurd rfl hq146
            · refine g_iload (q := 151) dX11_takesBoth_149 rfl rfl ?_
              refine g_ifne (t := 180) (q := 154) dX11_takesBoth_151 (by decide) rfl (fun hq151 => ?_) (fun hq151 => ?_)
              · exact absurd rfl hq151
              · refine g_aload_n (q := 155) dX11_takesBoth_154 rfl rfl ?_
                refine g_iload (q := 157) dX11_takesBoth_155 rfl rfl ?_
                refine c_Vv (q := 160) (p_X11_thrownOut hs hM2 (g := max i j) (by omega)) k_X11_79 (by assumption) rfl (by decide) rfl rfl (Nat.le_of_ble_eq_true rfl) rfl rfl dX11_takesBoth_157 rfl ?_
                rintro vq3 hc3
                have hM3 := hc3.M
                refine g_aload_n (q := 161) dX11_takesBoth_160 rfl rfl ?_
                refine g_iload (q := 163) dX11_takesBoth_161 rfl rfl ?_
                refine c_Vv (q := 166) (p_X11_thrownOut hs hM3 (g := min i j) (by omega)) k_X11_79 (by assumption) rfl (by decide) rfl rfl (Nat.le_of_ble_eq_true rfl) rfl rfl dX11_takesBoth_163 rfl ?_
                rintro vq4 hc4
                have hM4 := hc4.M
                have ew : (a_thr (a_thr (a_p0 A i j) (max i j)) (min i j)).1 (20 + s) = A.1 (20 + s) := by
                  unfold a_thr a_p0 a_in
                  simp only [sR]
                  rw [vu_n _ _ (by omega), vu_n _ _ (by omega), vu_n _ _ (by omega), vu_n _ _ (by omega)]
                have a11 := (hM4.2.2.2.1 s hsn).2.2.2 11 (by omega) (by omega)
                rw [ew] at a11
                refine g_aload_n (q := 167) dX11_takesBoth_166 rfl rfl ?_
                refine g_getR (q := 170) f_X11_13 (by assumption) rfl dX11_takesBoth_167 rfl ?_
                refine g_iload_n (q := 171) dX11_takesBoth_170 rfl rfl ?_
                refine g_bipush (q := 173) (x := 11) dX11_takesBoth_171 (by decide) rfl ?_
                refine g_iadd (q := 174) dX11_takesBoth_173 rfl ?_
                refine g_dup2 (q := 175) dX11_takesBoth_174 rfl rfl rfl ?_
                refine g_iald (q := 176) (by assumption) (by first | (simp only [gn_lit, nI_add, pk_mul]; exact rfl) | exact rfl) (by omega) (by decide) dX11_takesBoth_175 rfl ?_
                refine g_iconst (q := 177) (x := 1) dX11_takesBoth_176 (by decide) rfl ?_
                refine g_iadd (q := 178) dX11_takesBoth_177 rfl ?_
                refine g_iast (q := 179) (by assumption) (by first | (simp only [gn_lit, nI_add, pk_mul]; exact rfl) | exact rfl) (by omega) (by decide) dX11_takesBoth_178 rfl ?_
                refine g_gen (fun vq5 hvq5 => ?_)
                rw [gu_2] at hvq5
                have hc5 : mc vq4 vq5 m (sR (a_thr (a_thr (a_p0 A i j) (max i j)) (min i j)) (20 + s) (upd (A.1 (20 + s)) 11 (A.1 (20 + s) 11 + 1))) t sn := by
                  refine ⟨_, hvq5, hM4.stat hsn (fun i hi => ud_n _ _ (by omega)) ?_⟩
                  have q := hM4.2.2.2.1 s hsn
                  rw [ew] at q
                  rw [a11]
                  exact ms_hi q (by omega) (by omega)
                refine r_v dX11_takesBoth_179 rfl rfl rfl ?_
                have hno : ¬ a_okp A (min i j) (max i j) (if i = j then 2 else 1) := by
                  rw [okp_iff]
                  intro q
                  first | exact hq56 q.1.2 | exact hq71 q.2.2 | (rw [if_pos hij] at q; exact absurd (Int32.le_trans q.1.1 hq98) (by decide)) | (rw [if_neg hij] at q; exact absurd (Int32.le_trans q.1.1 hq120) (by decide)) | (rw [if_neg hij] at q; exact absurd (Int32.le_trans q.2.1 hq134) (by decide))
                unfold a_pair
                rw [if_neg hno]
                dsimp only
                unfold as_load a_two
                rw [if_pos rfl, if_pos rfl]
                exact ((hcc.tr hc3).tr hc4).tr hc5
          · rw [bj.1] at hq134
            have hq134 := gn_0lt hq134
            refine g_iconst (q := 138) (x := 1) dX11_takesBoth_137 (by decide) rfl ?_
            refine g_goto (q := 142) dX11_takesBoth_138 (by decide) ?_
            refine g_istore (q := 144) dX11_takesBoth_142 rfl rfl rfl rfl ?_
            dsimp only [List.set]
            refine g_iload (q := 146) dX11_takesBoth_144 rfl rfl ?_
            refine g_ifne (t := 154) (q := 149) dX11_takesBoth_146 (by decide) rfl (fun hq146 => ?_) (fun hq146 => ?_)
            · exact absurd rfl hq146
            · refine g_iload (q := 151) dX11_takesBoth_149 rfl rfl ?_
              refine g_ifne (t := 180) (q := 154) dX11_takesBoth_151 (by decide) rfl (fun hq151 => ?_) (fun hq151 => ?_)
              · have hok : a_okp A (min i j) (max i j) (if i = j then 2 else 1) := by
                  rw [okp_iff]
                  rw [if_neg hij]
                  exact ⟨⟨nI_le (a := 1) (by omega) (by omega), hq56⟩, ⟨nI_le (a := 1) (by omega) (by omega), hq71⟩⟩
                have ep : a_pair A i j = a_p1 (a_p0 A i j) (min i j) (max i j) := if_pos hok
                obtain ⟨k1, k2, k3⟩ := a_pair_ok hB hi hj
                rw [ep] at k1 k2 k3
                obtain ⟨g1, g2⟩ := pair_ij (C := a_p0 A i j) hi hj
                have hl1 : 0 < ((a_p0 A i j).2 i).length := by show 0 < (A.2 i).length; omega
                have hl2 : 0 < ((a_give (a_p0 A i j) i).2.2 j).length := by
                  have eq2 : (a_give (a_p0 A i j) i).2.2 j = A.2 j := sB_l _ _ _ _ (by omega) (by omega)
                  rw [eq2]
                  exact hq134
                refine g_aload_n (q := 181) dX11_takesBoth_180 rfl rfl ?_
                refine g_iload_n (q := 182) dX11_takesBoth_181 rfl rfl ?_
                refine c_Vi (q := 185) (p_X11_firstOf hs hM2 hi hl1) k_X11_85 (by assumption) rfl (by decide) rfl rfl (Nat.le_of_ble_eq_true rfl) rfl rfl dX11_takesBoth_182 rfl ?_
                rintro y3 vq3 ⟨hy3, hc3⟩
                have hM3 := hc3.M
                refine g_istore (q := 187) dX11_takesBoth_185 rfl rfl rfl rfl ?_
                dsimp only [List.set]
                refine g_aload_n (q := 188) dX11_takesBoth_187 rfl rfl ?_
                refine g_iload_n (q := 189) dX11_takesBoth_188 rfl rfl ?_
                refine c_Vi (q := 192) (p_X11_firstOf hs hM3 hj hl2) k_X11_85 (by assumption) rfl (by decide) rfl rfl (Nat.le_of_ble_eq_true rfl) rfl rfl dX11_takesBoth_189 rfl ?_
                rintro y4 vq4 ⟨hy4, hc4⟩
                have hM4 := hc4.M
                have hy3 : y3 = (a_give (a_p0 A i j) i).1 := hy3
                have hy4 : y4 = (a_give (a_give (a_p0 A i j) i).2 j).1 := hy4
                have hs34 : y3 + y4 = (a_p1 (a_p0 A i j) (min i j) (max i j)).1 := by rw [hy3, hy4]; exact g2
                refine g_istore (q := 194) dX11_takesBoth_192 rfl rfl rfl rfl ?_
                dsimp only [List.set]
                refine g_aload_n (q := 195) dX11_takesBoth_194 rfl rfl ?_
                refine g_iload (q := 197) dX11_takesBoth_195 rfl rfl ?_
                refine c_Vv (q := 200) (p_X11_leaves hs hM4 (g := max i j) (by omega)) k_X11_82 (by assumption) rfl (by decide) rfl rfl (Nat.le_of_ble_eq_true rfl) rfl rfl dX11_takesBoth_197 rfl ?_
                rintro vq5 hc5
                have hM5 := hc5.M
                refine g_aload_n (q := 201) dX11_takesBoth_200 rfl rfl ?_
                refine g_iload (q := 203) dX11_takesBoth_201 rfl rfl ?_
                refine c_Vv (q := 206) (p_X11_leaves hs hM5 (g := min i j) (by omega)) k_X11_82 (by assumption) rfl (by decide) rfl rfl (Nat.le_of_ble_eq_true rfl) rfl rfl dX11_takesBoth_203 rfl ?_
                rintro vq6 hc6
                have hc7 : mc v vq6 m (a_p1 (a_p0 A i j) (min i j) (max i j)).2 t sn := by
                  have q := (((hcc.tr hc3).tr hc4).tr hc5).tr hc6
                  rw [g1] at q
                  exact q
                have ew : (a_p1 (a_p0 A i j) (min i j) (max i j)).2.1 (20 + s) = A.1 (20 + s) := k2.1 _ (by omega)
                have hk5 : ¬ (a_p1 (a_p0 A i j) (min i j) (max i j)).1 = -5 := by
                  obtain ⟨q1, q2⟩ := a_pair_ne hB hi hj hok
                  rw [← p3] at q1
                  obtain ⟨a, ha, ea⟩ := (a_p1_ok p1 (by omega) (by omega) q1 q2).2.2
                  rw [ea]
                  exact gn_m5 (by omega)
                refine g_aload_n (q := 207) dX11_takesBoth_206 rfl rfl ?_
                refine g_iload_n (q := 208) dX11_takesBoth_207 rfl rfl ?_
                refine g_iload (q := 210) dX11_takesBoth_208 rfl rfl ?_
                refine g_iload (q := 212) dX11_takesBoth_210 rfl rfl ?_
                refine g_iadd (q := 213) dX11_takesBoth_212 rfl ?_
                rw [hs34]
                refine c_Vv (q := 216) (p_X11_starts hs hc7.M hsn (k := (a_p1 (a_p0 A i j) (min i j) (max i j)).1) hk5) k_X11_112 (by assumption) rfl (by decide) rfl rfl (Nat.le_of_ble_eq_true rfl) rfl rfl dX11_takesBoth_213 rfl ?_
                rintro vq8 hc8
                rw [ew] at hc8
                refine r_v dX11_takesBoth_216 rfl rfl rfl ?_
                rw [ep]
                exact hc7.tr hc8
              · exact absurd hq151 (by decide)
      · have hij : i = j := nI_inj6 (by omega) (by omega) hq83
        refine g_aload_n (q := 87) dX11_takesBoth_86 rfl rfl ?_
        refine g_getR (q := 90) f_X11_13 (by assumption) rfl dX11_takesBoth_87 rfl ?_
        refine g_iload_n (q := 91) dX11_takesBoth_90 rfl rfl ?_
        refine c_Si (q := 94) (p_X11_atBuffer (b := i)) k_X11_54 (by decide) rfl rfl (Nat.le_of_ble_eq_true rfl) rfl rfl dX11_takesBoth_91 rfl ?_
        rintro z0 w1 ⟨hz0, hw1⟩
        subst w1
        subst z0
        refine g_iconst (q := 95) (x := 0) dX11_takesBoth_94 (by decide) rfl ?_
        refine g_iadd (q := 96) dX11_takesBoth_95 rfl ?_
        refine g_iald (q := 97) (by assumption) (by first | (simp only [gn_lit, nI_add, pk_mul]; exact rfl) | exact rfl) (by omega) (by decide) dX11_takesBoth_96 rfl ?_
        refine g_iconst (q := 98) (x := 1) dX11_takesBoth_97 (by decide) rfl ?_
        refine g_icmple (t := 105) (q := 101) dX11_takesBoth_98 (by decide) rfl (fun hq98 => ?_) (fun hq98 => ?_)
        · rw [bi.1] at hq98
          refine g_iconst (q := 106) (x := 0) dX11_takesBoth_105 (by decide) rfl ?_
          refine g_goto (q := 142) dX11_takesBoth_106 (by decide) ?_
          refine g_istore (q := 144) dX11_takesBoth_142 rfl rfl rfl rfl ?_
          dsimp only [List.set]
          refine g_iload (q := 146) dX11_takesBoth_144 rfl rfl ?_
          refine g_ifne (t := 154) (q := 149) dX11_takesBoth_146 (by decide) rfl (fun hq146 => ?_) (fun hq146 => ?_)
          · exact absurd rfl hq146
          · refine g_iload (q := 151) dX11_takesBoth_149 rfl rfl ?_
            refine g_ifne (t := 180) (q := 154) dX11_takesBoth_151 (by decide) rfl (fun hq151 => ?_) (fun hq151 => ?_)
            · exact absurd rfl hq151
            · refine g_aload_n (q := 155) dX11_takesBoth_154 rfl rfl ?_
              refine g_iload (q := 157) dX11_takesBoth_155 rfl rfl ?_
              refine c_Vv (q := 160) (p_X11_thrownOut hs hM2 (g := max i j) (by omega)) k_X11_79 (by assumption) rfl (by decide) rfl rfl (Nat.le_of_ble_eq_true rfl) rfl rfl dX11_takesBoth_157 rfl ?_
              rintro vq3 hc3
              have hM3 := hc3.M
              refine g_aload_n (q := 161) dX11_takesBoth_160 rfl rfl ?_
              refine g_iload (q := 163) dX11_takesBoth_161 rfl rfl ?_
              refine c_Vv (q := 166) (p_X11_thrownOut hs hM3 (g := min i j) (by omega)) k_X11_79 (by assumption) rfl (by decide) rfl rfl (Nat.le_of_ble_eq_true rfl) rfl rfl dX11_takesBoth_163 rfl ?_
              rintro vq4 hc4
              have hM4 := hc4.M
              have ew : (a_thr (a_thr (a_p0 A i j) (max i j)) (min i j)).1 (20 + s) = A.1 (20 + s) := by
                unfold a_thr a_p0 a_in
                simp only [sR]
                rw [vu_n _ _ (by omega), vu_n _ _ (by omega), vu_n _ _ (by omega), vu_n _ _ (by omega)]
              have a11 := (hM4.2.2.2.1 s hsn).2.2.2 11 (by omega) (by omega)
              rw [ew] at a11
              refine g_aload_n (q := 167) dX11_takesBoth_166 rfl rfl ?_
              refine g_getR (q := 170) f_X11_13 (by assumption) rfl dX11_takesBoth_167 rfl ?_
              refine g_iload_n (q := 171) dX11_takesBoth_170 rfl rfl ?_
              refine g_bipush (q := 173) (x := 11) dX11_takesBoth_171 (by decide) rfl ?_
              refine g_iadd (q := 174) dX11_takesBoth_173 rfl ?_
              refine g_dup2 (q := 175) dX11_takesBoth_174 rfl rfl rfl ?_
              refine g_iald (q := 176) (by assumption) (by first | (simp only [gn_lit, nI_add, pk_mul]; exact rfl) | exact rfl) (by omega) (by decide) dX11_takesBoth_175 rfl ?_
              refine g_iconst (q := 177) (x := 1) dX11_takesBoth_176 (by decide) rfl ?_
              refine g_iadd (q := 178) dX11_takesBoth_177 rfl ?_
              refine g_iast (q := 179) (by assumption) (by first | (simp only [gn_lit, nI_add, pk_mul]; exact rfl) | exact rfl) (by omega) (by decide) dX11_takesBoth_178 rfl ?_
              refine g_gen (fun vq5 hvq5 => ?_)
              rw [gu_2] at hvq5
              have hc5 : mc vq4 vq5 m (sR (a_thr (a_thr (a_p0 A i j) (max i j)) (min i j)) (20 + s) (upd (A.1 (20 + s)) 11 (A.1 (20 + s) 11 + 1))) t sn := by
                refine ⟨_, hvq5, hM4.stat hsn (fun i hi => ud_n _ _ (by omega)) ?_⟩
                have q := hM4.2.2.2.1 s hsn
                rw [ew] at q
                rw [a11]
                exact ms_hi q (by omega) (by omega)
              refine r_v dX11_takesBoth_179 rfl rfl rfl ?_
              have hno : ¬ a_okp A (min i j) (max i j) (if i = j then 2 else 1) := by
                rw [okp_iff]
                intro q
                first | exact hq56 q.1.2 | exact hq71 q.2.2 | (rw [if_pos hij] at q; exact absurd (Int32.le_trans q.1.1 hq98) (by decide)) | (rw [if_neg hij] at q; exact absurd (Int32.le_trans q.1.1 hq120) (by decide)) | (rw [if_neg hij] at q; exact absurd (Int32.le_trans q.2.1 hq134) (by decide))
              unfold a_pair
              rw [if_neg hno]
              dsimp only
              unfold as_load a_two
              rw [if_pos rfl, if_pos rfl]
              exact ((hcc.tr hc3).tr hc4).tr hc5
        · rw [bi.1] at hq98
          have hq98 : 1 < (A.2 i).length := Nat.lt_of_not_le (fun z => hq98 (nI_le z (by decide)))
          refine g_iconst (q := 102) (x := 1) dX11_takesBoth_101 (by decide) rfl ?_
          refine g_goto (q := 142) dX11_takesBoth_102 (by decide) ?_
          refine g_istore (q := 144) dX11_takesBoth_142 rfl rfl rfl rfl ?_
          dsimp only [List.set]
          refine g_iload (q := 146) dX11_takesBoth_144 rfl rfl ?_
          refine g_ifne (t := 154) (q := 149) dX11_takesBoth_146 (by decide) rfl (fun hq146 => ?_) (fun hq146 => ?_)
          · exact absurd rfl hq146
          · refine g_iload (q := 151) dX11_takesBoth_149 rfl rfl ?_
            refine g_ifne (t := 180) (q := 154) dX11_takesBoth_151 (by decide) rfl (fun hq151 => ?_) (fun hq151 => ?_)
            · have hok : a_okp A (min i j) (max i j) (if i = j then 2 else 1) := by
                rw [okp_iff]
                subst hij
                rw [if_pos rfl]
                exact ⟨⟨nI_le (a := 2) (by omega) (by omega), hq56⟩, ⟨nI_le (a := 2) (by omega) (by omega), hq71⟩⟩
              have ep : a_pair A i j = a_p1 (a_p0 A i j) (min i j) (max i j) := if_pos hok
              obtain ⟨k1, k2, k3⟩ := a_pair_ok hB hi hj
              rw [ep] at k1 k2 k3
              obtain ⟨g1, g2⟩ := pair_ij (C := a_p0 A i j) hi hj
              have hl1 : 0 < ((a_p0 A i j).2 i).length := by show 0 < (A.2 i).length; omega
              have hl2 : 0 < ((a_give (a_p0 A i j) i).2.2 j).length := by
                subst hij
                have eq2 : (a_give (a_p0 A i i) i).2.2 i = (A.2 i).eraseIdx 0 := congrArg (fun z => z.2.2.1) (gB_s (a_p0 A i i) i (b_give (gB (a_p0 A i i) i)).2 hi)
                rw [eq2, ge_len]
                omega
              refine g_aload_n (q := 181) dX11_takesBoth_180 rfl rfl ?_
              refine g_iload_n (q := 182) dX11_takesBoth_181 rfl rfl ?_
              refine c_Vi (q := 185) (p_X11_firstOf hs hM2 hi hl1) k_X11_85 (by assumption) rfl (by decide) rfl rfl (Nat.le_of_ble_eq_true rfl) rfl rfl dX11_takesBoth_182 rfl ?_
              rintro y3 vq3 ⟨hy3, hc3⟩
              have hM3 := hc3.M
              refine g_istore (q := 187) dX11_takesBoth_185 rfl rfl rfl rfl ?_
              dsimp only [List.set]
              refine g_aload_n (q := 188) dX11_takesBoth_187 rfl rfl ?_
              refine g_iload_n (q := 189) dX11_takesBoth_188 rfl rfl ?_
              refine c_Vi (q := 192) (p_X11_firstOf hs hM3 hj hl2) k_X11_85 (by assumption) rfl (by decide) rfl rfl (Nat.le_of_ble_eq_true rfl) rfl rfl dX11_takesBoth_189 rfl ?_
              rintro y4 vq4 ⟨hy4, hc4⟩
              have hM4 := hc4.M
              have hy3 : y3 = (a_give (a_p0 A i j) i).1 := hy3
              have hy4 : y4 = (a_give (a_give (a_p0 A i j) i).2 j).1 := hy4
              have hs34 : y3 + y4 = (a_p1 (a_p0 A i j) (min i j) (max i j)).1 := by rw [hy3, hy4]; exact g2
              refine g_istore (q := 194) dX11_takesBoth_192 rfl rfl rfl rfl ?_
              dsimp only [List.set]
              refine g_aload_n (q := 195) dX11_takesBoth_194 rfl rfl ?_
              refine g_iload (q := 197) dX11_takesBoth_195 rfl rfl ?_
              refine c_Vv (q := 200) (p_X11_leaves hs hM4 (g := max i j) (by omega)) k_X11_82 (by assumption) rfl (by decide) rfl rfl (Nat.le_of_ble_eq_true rfl) rfl rfl dX11_takesBoth_197 rfl ?_
              rintro vq5 hc5
              have hM5 := hc5.M
              refine g_aload_n (q := 201) dX11_takesBoth_200 rfl rfl ?_
              refine g_iload (q := 203) dX11_takesBoth_201 rfl rfl ?_
              refine c_Vv (q := 206) (p_X11_leaves hs hM5 (g := min i j) (by omega)) k_X11_82 (by assumption) rfl (by decide) rfl rfl (Nat.le_of_ble_eq_true rfl) rfl rfl dX11_takesBoth_203 rfl ?_
              rintro vq6 hc6
              have hc7 : mc v vq6 m (a_p1 (a_p0 A i j) (min i j) (max i j)).2 t sn := by
                have q := (((hcc.tr hc3).tr hc4).tr hc5).tr hc6
                rw [g1] at q
                exact q
              have ew : (a_p1 (a_p0 A i j) (min i j) (max i j)).2.1 (20 + s) = A.1 (20 + s) := k2.1 _ (by omega)
              have hk5 : ¬ (a_p1 (a_p0 A i j) (min i j) (max i j)).1 = -5 := by
                obtain ⟨q1, q2⟩ := a_pair_ne hB hi hj hok
                rw [← p3] at q1
                obtain ⟨a, ha, ea⟩ := (a_p1_ok p1 (by omega) (by omega) q1 q2).2.2
                rw [ea]
                exact gn_m5 (by omega)
              refine g_aload_n (q := 207) dX11_takesBoth_206 rfl rfl ?_
              refine g_iload_n (q := 208) dX11_takesBoth_207 rfl rfl ?_
              refine g_iload (q := 210) dX11_takesBoth_208 rfl rfl ?_
              refine g_iload (q := 212) dX11_takesBoth_210 rfl rfl ?_
              refine g_iadd (q := 213) dX11_takesBoth_212 rfl ?_
              rw [hs34]
              refine c_Vv (q := 216) (p_X11_starts hs hc7.M hsn (k := (a_p1 (a_p0 A i j) (min i j) (max i j)).1) hk5) k_X11_112 (by assumption) rfl (by decide) rfl rfl (Nat.le_of_ble_eq_true rfl) rfl rfl dX11_takesBoth_213 rfl ?_
              rintro vq8 hc8
              rw [ew] at hc8
              refine r_v dX11_takesBoth_216 rfl rfl rfl ?_
              rw [ep]
              exact hc7.tr hc8
            · exact absurd hq151 (by decide)
    · rw [bj.2.2.2.2.2.1] at hq71
      refine g_iconst (q := 75) (x := 1) dX11_takesBoth_74 (by decide) rfl ?_
      refine g_goto (q := 79) dX11_takesBoth_75 (by decide) ?_
      refine g_istore (q := 81) dX11_takesBoth_79 rfl rfl rfl rfl ?_
      dsimp only [List.set]
      refine g_iload_n (q := 82) dX11_takesBoth_81 rfl rfl ?_
      refine g_iload_n (q := 83) dX11_takesBoth_82 rfl rfl ?_
      refine g_icmpne (t := 109) (q := 86) dX11_takesBoth_83 (by decide) rfl (fun hq83 => ?_) (fun hq83 => ?_)
      · have hij : ¬ i = j := fun z => hq83 (by rw [z])
        refine g_aload_n (q := 110) dX11_takesBoth_109 rfl rfl ?_
        refine g_getR (q := 113) f_X11_13 (by assumption) rfl dX11_takesBoth_110 rfl ?_
        refine g_iload_n (q := 114) dX11_takesBoth_113 rfl rfl ?_
        refine c_Si (q := 117) (p_X11_atBuffer (b := i)) k_X11_54 (by decide) rfl rfl (Nat.le_of_ble_eq_true rfl) rfl rfl dX11_takesBoth_114 rfl ?_
        rintro z0 w1 ⟨hz0, hw1⟩
        subst w1
        subst z0
        refine g_iconst (q := 118) (x := 0) dX11_takesBoth_117 (by decide) rfl ?_
        refine g_iadd (q := 119) dX11_takesBoth_118 rfl ?_
        refine g_iald (q := 120) (by assumption) (by first | (simp only [gn_lit, nI_add, pk_mul]; exact rfl) | exact rfl) (by omega) (by decide) dX11_takesBoth_119 rfl ?_
        refine g_ifle (t := 141) (q := 123) dX11_takesBoth_120 (by decide) rfl (fun hq120 => ?_) (fun hq120 => ?_)
        · rw [bi.1] at hq120
          refine g_iconst (q := 142) (x := 0) dX11_takesBoth_141 (by decide) rfl ?_
          refine g_istore (q := 144) dX11_takesBoth_142 rfl rfl rfl rfl ?_
          dsimp only [List.set]
          refine g_iload (q := 146) dX11_takesBoth_144 rfl rfl ?_
          refine g_ifne (t := 154) (q := 149) dX11_takesBoth_146 (by decide) rfl (fun hq146 => ?_) (fun hq146 => ?_)
          · refine g_aload_n (q := 155) dX11_takesBoth_154 rfl rfl ?_
            refine g_iload (q := 157) dX11_takesBoth_155 rfl rfl ?_
            refine c_Vv (q := 160) (p_X11_thrownOut hs hM2 (g := max i j) (by omega)) k_X11_79 (by assumption) rfl (by decide) rfl rfl (Nat.le_of_ble_eq_true rfl) rfl rfl dX11_takesBoth_157 rfl ?_
            rintro vq3 hc3
            have hM3 := hc3.M
            refine g_aload_n (q := 161) dX11_takesBoth_160 rfl rfl ?_
            refine g_iload (q := 163) dX11_takesBoth_161 rfl rfl ?_
            refine c_Vv (q := 166) (p_X11_thrownOut hs hM3 (g := min i j) (by omega)) k_X11_79 (by assumption) rfl (by decide) rfl rfl (Nat.le_of_ble_eq_true rfl) rfl rfl dX11_takesBoth_163 rfl ?_
            rintro vq4 hc4
            have hM4 := hc4.M
            have ew : (a_thr (a_thr (a_p0 A i j) (max i j)) (min i j)).1 (20 + s) = A.1 (20 + s) := by
              unfold a_thr a_p0 a_in
              simp only [sR]
              rw [vu_n _ _ (by omega), vu_n _ _ (by omega), vu_n _ _ (by omega), vu_n _ _ (by omega)]
            have a11 := (hM4.2.2.2.1 s hsn).2.2.2 11 (by omega) (by omega)
            rw [ew] at a11
            refine g_aload_n (q := 167) dX11_takesBoth_166 rfl rfl ?_
            refine g_getR (q := 170) f_X11_13 (by assumption) rfl dX11_takesBoth_167 rfl ?_
            refine g_iload_n (q := 171) dX11_takesBoth_170 rfl rfl ?_
            refine g_bipush (q := 173) (x := 11) dX11_takesBoth_171 (by decide) rfl ?_
            refine g_iadd (q := 174) dX11_takesBoth_173 rfl ?_
            refine g_dup2 (q := 175) dX11_takesBoth_174 rfl rfl rfl ?_
            refine g_iald (q := 176) (by assumption) (by first | (simp only [gn_lit, nI_add, pk_mul]; exact rfl) | exact rfl) (by omega) (by decide) dX11_takesBoth_175 rfl ?_
            refine g_iconst (q := 177) (x := 1) dX11_takesBoth_176 (by decide) rfl ?_
            refine g_iadd (q := 178) dX11_takesBoth_177 rfl ?_
            refine g_iast (q := 179) (by assumption) (by first | (simp only [gn_lit, nI_add, pk_mul]; exact rfl) | exact rfl) (by omega) (by decide) dX11_takesBoth_178 rfl ?_
            refine g_gen (fun vq5 hvq5 => ?_)
            rw [gu_2] at hvq5
            have hc5 : mc vq4 vq5 m (sR (a_thr (a_thr (a_p0 A i j) (max i j)) (min i j)) (20 + s) (upd (A.1 (20 + s)) 11 (A.1 (20 + s) 11 + 1))) t sn := by
              refine ⟨_, hvq5, hM4.stat hsn (fun i hi => ud_n _ _ (by omega)) ?_⟩
              have q := hM4.2.2.2.1 s hsn
              rw [ew] at q
              rw [a11]
              exact ms_hi q (by omega) (by omega)
            refine r_v dX11_takesBoth_179 rfl rfl rfl ?_
            have hno : ¬ a_okp A (min i j) (max i j) (if i = j then 2 else 1) := by
              rw [okp_iff]
              intro q
              first | exact hq56 q.1.2 | exact hq71 q.2.2 | (rw [if_pos hij] at q; exact absurd (Int32.le_trans q.1.1 hq98) (by decide)) | (rw [if_neg hij] at q; exact absurd (Int32.le_trans q.1.1 hq120) (by decide)) | (rw [if_neg hij] at q; exact absurd (Int32.le_trans q.2.1 hq134) (by decide))
            unfold a_pair
            rw [if_neg hno]
            dsimp only
            unfold as_load a_two
            rw [if_pos rfl, if_pos rfl]
            exact ((hcc.tr hc3).tr hc4).tr hc5
          · exact absurd hq146 (by decide)
        · rw [bi.1] at hq120
          have hq120 := gn_0lt hq120
          refine g_aload_n (q := 124) dX11_takesBoth_123 rfl rfl ?_
          refine g_getR (q := 127) f_X11_13 (by assumption) rfl dX11_takesBoth_124 rfl ?_
          refine g_iload_n (q := 128) dX11_takesBoth_127 rfl rfl ?_
          refine c_Si (q := 131) (p_X11_atBuffer (b := j)) k_X11_54 (by decide) rfl rfl (Nat.le_of_ble_eq_true rfl) rfl rfl dX11_takesBoth_128 rfl ?_
          rintro z0 w1 ⟨hz0, hw1⟩
          subst w1
          subst z0
          refine g_iconst (q := 132) (x := 0) dX11_takesBoth_131 (by decide) rfl ?_
          refine g_iadd (q := 133) dX11_takesBoth_132 rfl ?_
          refine g_iald (q := 134) (by assumption) (by first | (simp only [gn_lit, nI_add, pk_mul]; exact rfl) | exact rfl) (by omega) (by decide) dX11_takesBoth_133 rfl ?_
          refine g_ifle (t := 141) (q := 137) dX11_takesBoth_134 (by decide) rfl (fun hq134 => ?_) (fun hq134 => ?_)
          · rw [bj.1] at hq134
            refine g_iconst (q := 142) (x := 0) dX11_takesBoth_141 (by decide) rfl ?_
            refine g_istore (q := 144) dX11_takesBoth_142 rfl rfl rfl rfl ?_
            dsimp only [List.set]
            refine g_iload (q := 146) dX11_takesBoth_144 rfl rfl ?_
            refine g_ifne (t := 154) (q := 149) dX11_takesBoth_146 (by decide) rfl (fun hq146 => ?_) (fun hq146 => ?_)
            · refine g_aload_n (q := 155) dX11_takesBoth_154 rfl rfl ?_
              refine g_iload (q := 157) dX11_takesBoth_155 rfl rfl ?_
              refine c_Vv (q := 160) (p_X11_thrownOut hs hM2 (g := max i j) (by omega)) k_X11_79 (by assumption) rfl (by decide) rfl rfl (Nat.le_of_ble_eq_true rfl) rfl rfl dX11_takesBoth_157 rfl ?_
              rintro vq3 hc3
              have hM3 := hc3.M
              refine g_aload_n (q := 161) dX11_takesBoth_160 rfl rfl ?_
              refine g_iload (q := 163) dX11_takesBoth_161 rfl rfl ?_
              refine c_Vv (q := 166) (p_X11_thrownOut hs hM3 (g := min i j) (by omega)) k_X11_79 (by assumption) rfl (by decide) rfl rfl (Nat.le_of_ble_eq_true rfl) rfl rfl dX11_takesBoth_163 rfl ?_
              rintro vq4 hc4
              have hM4 := hc4.M
              have ew : (a_thr (a_thr (a_p0 A i j) (max i j)) (min i j)).1 (20 + s) = A.1 (20 + s) := by
                unfold a_thr a_p0 a_in
                simp only [sR]
                rw [vu_n _ _ (by omega), vu_n _ _ (by omega), vu_n _ _ (by omega), vu_n _ _ (by omega)]
              have a11 := (hM4.2.2.2.1 s hsn).2.2.2 11 (by omega) (by omega)
              rw [ew] at a11
              refine g_aload_n (q := 167) dX11_takesBoth_166 rfl rfl ?_
              refine g_getR (q := 170) f_X11_13 (by assumption) rfl dX11_takesBoth_167 rfl ?_
              refine g_iload_n (q := 171) dX11_takesBoth_170 rfl rfl ?_
              refine g_bipush (q := 173) (x := 11) dX11_takesBoth_171 (by decide) rfl ?_
              refine g_iadd (q := 174) dX11_takesBoth_173 rfl ?_
              refine g_dup2 (q := 175) dX11_takesBoth_174 rfl rfl rfl ?_
              refine g_iald (q := 176) (by assumption) (by first | (simp only [gn_lit, nI_add, pk_mul]; exact rfl) | exact rfl) (by omega) (by decide) dX11_takesBoth_175 rfl ?_
              refine g_iconst (q := 177) (x := 1) dX11_takesBoth_176 (by decide) rfl ?_
              refine g_iadd (q := 178) dX11_takesBoth_177 rfl ?_
              refine g_iast (q := 179) (by assumption) (by first | (simp only [gn_lit, nI_add, pk_mul]; exact rfl) | exact rfl) (by omega) (by decide) dX11_takesBoth_178 rfl ?_
              refine g_gen (fun vq5 hvq5 => ?_)
              rw [gu_2] at hvq5
              have hc5 : mc vq4 vq5 m (sR (a_thr (a_thr (a_p0 A i j) (max i j)) (min i j)) (20 + s) (upd (A.1 (20 + s)) 11 (A.1 (20 + s) 11 + 1))) t sn := by
                refine ⟨_, hvq5, hM4.stat hsn (fun i hi => ud_n _ _ (by omega)) ?_⟩
                have q := hM4.2.2.2.1 s hsn
                rw [ew] at q
                rw [a11]
                exact ms_hi q (by omega) (by omega)
              refine r_v dX11_takesBoth_179 rfl rfl rfl ?_
              have hno : ¬ a_okp A (min i j) (max i j) (if i = j then 2 else 1) := by
                rw [okp_iff]
                intro q
                first | exact hq56 q.1.2 | exact hq71 q.2.2 | (rw [if_pos hij] at q; exact absurd (Int32.le_trans q.1.1 hq98) (by decide)) | (rw [if_neg hij] at q; exact absurd (Int32.le_trans q.1.1 hq120) (by decide)) | (rw [if_neg hij] at q; exact absurd (Int32.le_trans q.2.1 hq134) (by decide))
              unfold a_pair
              rw [if_neg hno]
              dsimp only
              unfold as_load a_two
              rw [if_pos rfl, if_pos rfl]
              exact ((hcc.tr hc3).tr hc4).tr hc5
            · exact absurd hq146 (by decide)
          · rw [bj.1] at hq134
            have hq134 := gn_0lt hq134
            refine g_iconst (q := 138) (x := 1) dX11_takesBoth_137 (by decide) rfl ?_
            refine g_goto (q := 142) dX11_takesBoth_138 (by decide) ?_
            refine g_istore (q := 144) dX11_takesBoth_142 rfl rfl rfl rfl ?_
            dsimp only [List.set]
            refine g_iload (q := 146) dX11_takesBoth_144 rfl rfl ?_
            refine g_ifne (t := 154) (q := 149) dX11_takesBoth_146 (by decide) rfl (fun hq146 => ?_) (fun hq146 => ?_)
            · refine g_aload_n (q := 155) dX11_takesBoth_154 rfl rfl ?_
              refine g_iload (q := 157) dX11_takesBoth_155 rfl rfl ?_
              refine c_Vv (q := 160) (p_X11_thrownOut hs hM2 (g := max i j) (by omega)) k_X11_79 (by assumption) rfl (by decide) rfl rfl (Nat.le_of_ble_eq_true rfl) rfl rfl dX11_takesBoth_157 rfl ?_
              rintro vq3 hc3
              have hM3 := hc3.M
              refine g_aload_n (q := 161) dX11_takesBoth_160 rfl rfl ?_
              refine g_iload (q := 163) dX11_takesBoth_161 rfl rfl ?_
              refine c_Vv (q := 166) (p_X11_thrownOut hs hM3 (g := min i j) (by omega)) k_X11_79 (by assumption) rfl (by decide) rfl rfl (Nat.le_of_ble_eq_true rfl) rfl rfl dX11_takesBoth_163 rfl ?_
              rintro vq4 hc4
              have hM4 := hc4.M
              have ew : (a_thr (a_thr (a_p0 A i j) (max i j)) (min i j)).1 (20 + s) = A.1 (20 + s) := by
                unfold a_thr a_p0 a_in
                simp only [sR]
                rw [vu_n _ _ (by omega), vu_n _ _ (by omega), vu_n _ _ (by omega), vu_n _ _ (by omega)]
              have a11 := (hM4.2.2.2.1 s hsn).2.2.2 11 (by omega) (by omega)
              rw [ew] at a11
              refine g_aload_n (q := 167) dX11_takesBoth_166 rfl rfl ?_
              refine g_getR (q := 170) f_X11_13 (by assumption) rfl dX11_takesBoth_167 rfl ?_
              refine g_iload_n (q := 171) dX11_takesBoth_170 rfl rfl ?_
              refine g_bipush (q := 173) (x := 11) dX11_takesBoth_171 (by decide) rfl ?_
              refine g_iadd (q := 174) dX11_takesBoth_173 rfl ?_
              refine g_dup2 (q := 175) dX11_takesBoth_174 rfl rfl rfl ?_
              refine g_iald (q := 176) (by assumption) (by first | (simp only [gn_lit, nI_add, pk_mul]; exact rfl) | exact rfl) (by omega) (by decide) dX11_takesBoth_175 rfl ?_
              refine g_iconst (q := 177) (x := 1) dX11_takesBoth_176 (by decide) rfl ?_
              refine g_iadd (q := 178) dX11_takesBoth_177 rfl ?_
              refine g_iast (q := 179) (by assumption) (by first | (simp only [gn_lit, nI_add, pk_mul]; exact rfl) | exact rfl) (by omega) (by decide) dX11_takesBoth_178 rfl ?_
              refine g_gen (fun vq5 hvq5 => ?_)
              rw [gu_2] at hvq5
              have hc5 : mc vq4 vq5 m (sR (a_thr (a_thr (a_p0 A i j) (max i j)) (min i j)) (20 + s) (upd (A.1 (20 + s)) 11 (A.1 (20 + s) 11 + 1))) t sn := by
                refine ⟨_, hvq5, hM4.stat hsn (fun i hi => ud_n _ _ (by omega)) ?_⟩
                have q := hM4.2.2.2.1 s hsn
                rw [ew] at q
                rw [a11]
                exact ms_hi q (by omega) (by omega)
              refine r_v dX11_takesBoth_179 rfl rfl rfl ?_
              have hno : ¬ a_okp A (min i j) (max i j) (if i = j then 2 else 1) := by
                rw [okp_iff]
                intro q
                first | exact hq56 q.1.2 | exact hq71 q.2.2 | (rw [if_pos hij] at q; exact absurd (Int32.le_trans q.1.1 hq98) (by decide)) | (rw [if_neg hij] at q; exact absurd (Int32.le_trans q.1.1 hq120) (by decide)) | (rw [if_neg hij] at q; exact absurd (Int32.le_trans q.2.1 hq134) (by decide))
              unfold a_pair
              rw [if_neg hno]
              dsimp only
              unfold as_load a_two
              rw [if_pos rfl, if_pos rfl]
              exact ((hcc.tr hc3).tr hc4).tr hc5
            · exact absurd hq146 (by decide)
      · have hij : i = j := nI_inj6 (by omega) (by omega) hq83
        refine g_aload_n (q := 87) dX11_takesBoth_86 rfl rfl ?_
        refine g_getR (q := 90) f_X11_13 (by assumption) rfl dX11_takesBoth_87 rfl ?_
        refine g_iload_n (q := 91) dX11_takesBoth_90 rfl rfl ?_
        refine c_Si (q := 94) (p_X11_atBuffer (b := i)) k_X11_54 (by decide) rfl rfl (Nat.le_of_ble_eq_true rfl) rfl rfl dX11_takesBoth_91 rfl ?_
        rintro z0 w1 ⟨hz0, hw1⟩
        subst w1
        subst z0
        refine g_iconst (q := 95) (x := 0) dX11_takesBoth_94 (by decide) rfl ?_
        refine g_iadd (q := 96) dX11_takesBoth_95 rfl ?_
        refine g_iald (q := 97) (by assumption) (by first | (simp only [gn_lit, nI_add, pk_mul]; exact rfl) | exact rfl) (by omega) (by decide) dX11_takesBoth_96 rfl ?_
        refine g_iconst (q := 98) (x := 1) dX11_takesBoth_97 (by decide) rfl ?_
        refine g_icmple (t := 105) (q := 101) dX11_takesBoth_98 (by decide) rfl (fun hq98 => ?_) (fun hq98 => ?_)
        · rw [bi.1] at hq98
          refine g_iconst (q := 106) (x := 0) dX11_takesBoth_105 (by decide) rfl ?_
          refine g_goto (q := 142) dX11_takesBoth_106 (by decide) ?_
          refine g_istore (q := 144) dX11_takesBoth_142 rfl rfl rfl rfl ?_
          dsimp only [List.set]
          refine g_iload (q := 146) dX11_takesBoth_144 rfl rfl ?_
          refine g_ifne (t := 154) (q := 149) dX11_takesBoth_146 (by decide) rfl (fun hq146 => ?_) (fun hq146 => ?_)
          · refine g_aload_n (q := 155) dX11_takesBoth_154 rfl rfl ?_
            refine g_iload (q := 157) dX11_takesBoth_155 rfl rfl ?_
            refine c_Vv (q := 160) (p_X11_thrownOut hs hM2 (g := max i j) (by omega)) k_X11_79 (by assumption) rfl (by decide) rfl rfl (Nat.le_of_ble_eq_true rfl) rfl rfl dX11_takesBoth_157 rfl ?_
            rintro vq3 hc3
            have hM3 := hc3.M
            refine g_aload_n (q := 161) dX11_takesBoth_160 rfl rfl ?_
            refine g_iload (q := 163) dX11_takesBoth_161 rfl rfl ?_
            refine c_Vv (q := 166) (p_X11_thrownOut hs hM3 (g := min i j) (by omega)) k_X11_79 (by assumption) rfl (by decide) rfl rfl (Nat.le_of_ble_eq_true rfl) rfl rfl dX11_takesBoth_163 rfl ?_
            rintro vq4 hc4
            have hM4 := hc4.M
            have ew : (a_thr (a_thr (a_p0 A i j) (max i j)) (min i j)).1 (20 + s) = A.1 (20 + s) := by
              unfold a_thr a_p0 a_in
              simp only [sR]
              rw [vu_n _ _ (by omega), vu_n _ _ (by omega), vu_n _ _ (by omega), vu_n _ _ (by omega)]
            have a11 := (hM4.2.2.2.1 s hsn).2.2.2 11 (by omega) (by omega)
            rw [ew] at a11
            refine g_aload_n (q := 167) dX11_takesBoth_166 rfl rfl ?_
            refine g_getR (q := 170) f_X11_13 (by assumption) rfl dX11_takesBoth_167 rfl ?_
            refine g_iload_n (q := 171) dX11_takesBoth_170 rfl rfl ?_
            refine g_bipush (q := 173) (x := 11) dX11_takesBoth_171 (by decide) rfl ?_
            refine g_iadd (q := 174) dX11_takesBoth_173 rfl ?_
            refine g_dup2 (q := 175) dX11_takesBoth_174 rfl rfl rfl ?_
            refine g_iald (q := 176) (by assumption) (by first | (simp only [gn_lit, nI_add, pk_mul]; exact rfl) | exact rfl) (by omega) (by decide) dX11_takesBoth_175 rfl ?_
            refine g_iconst (q := 177) (x := 1) dX11_takesBoth_176 (by decide) rfl ?_
            refine g_iadd (q := 178) dX11_takesBoth_177 rfl ?_
            refine g_iast (q := 179) (by assumption) (by first | (simp only [gn_lit, nI_add, pk_mul]; exact rfl) | exact rfl) (by omega) (by decide) dX11_takesBoth_178 rfl ?_
            refine g_gen (fun vq5 hvq5 => ?_)
            rw [gu_2] at hvq5
            have hc5 : mc vq4 vq5 m (sR (a_thr (a_thr (a_p0 A i j) (max i j)) (min i j)) (20 + s) (upd (A.1 (20 + s)) 11 (A.1 (20 + s) 11 + 1))) t sn := by
              refine ⟨_, hvq5, hM4.stat hsn (fun i hi => ud_n _ _ (by omega)) ?_⟩
              have q := hM4.2.2.2.1 s hsn
              rw [ew] at q
              rw [a11]
              exact ms_hi q (by omega) (by omega)
            refine r_v dX11_takesBoth_179 rfl rfl rfl ?_
            have hno : ¬ a_okp A (min i j) (max i j) (if i = j then 2 else 1) := by
              rw [okp_iff]
              intro q
              first | exact hq56 q.1.2 | exact hq71 q.2.2 | (rw [if_pos hij] at q; exact absurd (Int32.le_trans q.1.1 hq98) (by decide)) | (rw [if_neg hij] at q; exact absurd (Int32.le_trans q.1.1 hq120) (by decide)) | (rw [if_neg hij] at q; exact absurd (Int32.le_trans q.2.1 hq134) (by decide))
            unfold a_pair
            rw [if_neg hno]
            dsimp only
            unfold as_load a_two
            rw [if_pos rfl, if_pos rfl]
            exact ((hcc.tr hc3).tr hc4).tr hc5
          · exact absurd hq146 (by decide)
        · rw [bi.1] at hq98
          have hq98 : 1 < (A.2 i).length := Nat.lt_of_not_le (fun z => hq98 (nI_le z (by decide)))
          refine g_iconst (q := 102) (x := 1) dX11_takesBoth_101 (by decide) rfl ?_
          refine g_goto (q := 142) dX11_takesBoth_102 (by decide) ?_
          refine g_istore (q := 144) dX11_takesBoth_142 rfl rfl rfl rfl ?_
          dsimp only [List.set]
          refine g_iload (q := 146) dX11_takesBoth_144 rfl rfl ?_
          refine g_ifne (t := 154) (q := 149) dX11_takesBoth_146 (by decide) rfl (fun hq146 => ?_) (fun hq146 => ?_)
          · refine g_aload_n (q := 155) dX11_takesBoth_154 rfl rfl ?_
            refine g_iload (q := 157) dX11_takesBoth_155 rfl rfl ?_
            refine c_Vv (q := 160) (p_X11_thrownOut hs hM2 (g := max i j) (by omega)) k_X11_79 (by assumption) rfl (by decide) rfl rfl (Nat.le_of_ble_eq_true rfl) rfl rfl dX11_takesBoth_157 rfl ?_
            rintro vq3 hc3
            have hM3 := hc3.M
            refine g_aload_n (q := 161) dX11_takesBoth_160 rfl rfl ?_
            refine g_iload (q := 163) dX11_takesBoth_161 rfl rfl ?_
            refine c_Vv (q := 166) (p_X11_thrownOut hs hM3 (g := min i j) (by omega)) k_X11_79 (by assumption) rfl (by decide) rfl rfl (Nat.le_of_ble_eq_true rfl) rfl rfl dX11_takesBoth_163 rfl ?_
            rintro vq4 hc4
            have hM4 := hc4.M
            have ew : (a_thr (a_thr (a_p0 A i j) (max i j)) (min i j)).1 (20 + s) = A.1 (20 + s) := by
              unfold a_thr a_p0 a_in
              simp only [sR]
              rw [vu_n _ _ (by omega), vu_n _ _ (by omega), vu_n _ _ (by omega), vu_n _ _ (by omega)]
            have a11 := (hM4.2.2.2.1 s hsn).2.2.2 11 (by omega) (by omega)
            rw [ew] at a11
            refine g_aload_n (q := 167) dX11_takesBoth_166 rfl rfl ?_
            refine g_getR (q := 170) f_X11_13 (by assumption) rfl dX11_takesBoth_167 rfl ?_
            refine g_iload_n (q := 171) dX11_takesBoth_170 rfl rfl ?_
            refine g_bipush (q := 173) (x := 11) dX11_takesBoth_171 (by decide) rfl ?_
            refine g_iadd (q := 174) dX11_takesBoth_173 rfl ?_
            refine g_dup2 (q := 175) dX11_takesBoth_174 rfl rfl rfl ?_
            refine g_iald (q := 176) (by assumption) (by first | (simp only [gn_lit, nI_add, pk_mul]; exact rfl) | exact rfl) (by omega) (by decide) dX11_takesBoth_175 rfl ?_
            refine g_iconst (q := 177) (x := 1) dX11_takesBoth_176 (by decide) rfl ?_
            refine g_iadd (q := 178) dX11_takesBoth_177 rfl ?_
            refine g_iast (q := 179) (by assumption) (by first | (simp only [gn_lit, nI_add, pk_mul]; exact rfl) | exact rfl) (by omega) (by decide) dX11_takesBoth_178 rfl ?_
            refine g_gen (fun vq5 hvq5 => ?_)
            rw [gu_2] at hvq5
            have hc5 : mc vq4 vq5 m (sR (a_thr (a_thr (a_p0 A i j) (max i j)) (min i j)) (20 + s) (upd (A.1 (20 + s)) 11 (A.1 (20 + s) 11 + 1))) t sn := by
              refine ⟨_, hvq5, hM4.stat hsn (fun i hi => ud_n _ _ (by omega)) ?_⟩
              have q := hM4.2.2.2.1 s hsn
              rw [ew] at q
              rw [a11]
              exact ms_hi q (by omega) (by omega)
            refine r_v dX11_takesBoth_179 rfl rfl rfl ?_
            have hno : ¬ a_okp A (min i j) (max i j) (if i = j then 2 else 1) := by
              rw [okp_iff]
              intro q
              first | exact hq56 q.1.2 | exact hq71 q.2.2 | (rw [if_pos hij] at q; exact absurd (Int32.le_trans q.1.1 hq98) (by decide)) | (rw [if_neg hij] at q; exact absurd (Int32.le_trans q.1.1 hq120) (by decide)) | (rw [if_neg hij] at q; exact absurd (Int32.le_trans q.2.1 hq134) (by decide))
            unfold a_pair
            rw [if_neg hno]
            dsimp only
            unfold as_load a_two
            rw [if_pos rfl, if_pos rfl]
            exact ((hcc.tr hc3).tr hc4).tr hc5
          · exact absurd hq146 (by decide)
