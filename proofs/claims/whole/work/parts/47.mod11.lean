set_option maxRecDepth 100000 in
set_option maxHeartbeats 4000000 in
theorem p_X11_worksOn {X : gj_X} {lim : Nat} {σ : gj_H} {v : gj_V} {m sn : Nat} {A : aS} {t : Int32} (hs : msh σ m) (hM : MR (v (m + 2)) A t sn) {s n : Nat} (hB : ivB A) (hS : ivS A n sn) (hsn : s < sn) : gj_E X 4 m_X11_worksOn [.ref m, .int (nI (190 + 12 * s))] lim σ v (q_v lim σ (fun v' => mc v v' m (a_wrk A s).2 t sn)) := by
  obtain ⟨so, s1, s2, s3, s4, s5, s6, s7, s8, s9, s10, s11, s12⟩ := id hs
  have hs6 := hM.2.2.2.2.2.2
  have hn6 := hS.2.2.2.1
  have hS0 := hM.2.2.2.1 s hsn
  have ar6 := hS0.1 6 (by omega)
  have mid2 : ∀ (w : gj_V), mc v w m (a_w1 A s).2 t sn → gj_G X 4 m_X11_worksOn (q_v lim σ (fun v' => mc v v' m (a_wrk A s).2 t sn)) lim σ w 0 0 129 [some (.ref m), some (.int (nI (190 + 12 * s)))] [] := by
    intro w hcw
    have hMw := hcw.M
    obtain ⟨⟨cB, cS, -, -⟩, -, -⟩ := a_w1_ok hB hS hsn
    obtain ⟨⟨i, hi, hi0⟩, hvq1, -⟩ := cS.2.2.2.2.2 s hsn
    have r6 := (hMw.2.2.2.1 s hsn).1 6 (by omega)
    refine g_aload_n (q := 130) dX11_worksOn_129 rfl rfl ?_
    refine g_getR (q := 133) f_X11_13 (by assumption) rfl dX11_worksOn_130 rfl ?_
    refine g_iload_n (q := 134) dX11_worksOn_133 rfl rfl ?_
    refine g_bipush (q := 136) (x := 6) dX11_worksOn_134 (by decide) rfl ?_
    refine g_iadd (q := 137) dX11_worksOn_136 rfl ?_
    refine g_iald (q := 138) (by assumption) (by first | (simp only [gn_lit, nI_add, pk_mul]; exact rfl) | exact rfl) (by omega) (by decide) dX11_worksOn_137 rfl ?_
    rw [r6]
    refine g_ifne (t := 166) (q := 141) dX11_worksOn_138 (by decide) rfl (fun hq138 => ?_) (fun hq138 => ?_)
    · refine r_v dX11_worksOn_166 rfl rfl rfl ?_
      first | (rw [a_wrk, if_pos hq138]; exact hcw.tr hc9) | (rw [a_wrk, if_neg hq138]; exact hcw)
    · refine g_aload_n (q := 142) dX11_worksOn_141 rfl rfl ?_
      refine g_getR (q := 145) f_X11_13 (by assumption) rfl dX11_worksOn_142 rfl ?_
      refine g_iload_n (q := 146) dX11_worksOn_145 rfl rfl ?_
      refine g_iconst (q := 147) (x := 1) dX11_worksOn_146 (by decide) rfl ?_
      refine g_iadd (q := 148) dX11_worksOn_147 rfl ?_
      refine g_iald (q := 149) (by assumption) (by first | (simp only [gn_lit, nI_add, pk_mul]; exact rfl) | exact rfl) (by omega) (by decide) dX11_worksOn_148 rfl ?_
      rw [hMw.2.2.2.1 s hsn |>.1 1 (by omega)]
      refine g_iconst (q := 150) (x := (-1)) dX11_worksOn_149 (by decide) rfl ?_
      refine g_icmpne (t := 161) (q := 153) dX11_worksOn_150 (by decide) rfl (fun hq150 => ?_) (fun hq150 => ?_)
      · obtain ⟨j, hj, ej⟩ := hvq1.resolve_left hq150
        have eg : a_get (a_w1 A s).2 s = a_pair (a_w1 A s).2 i j := by unfold a_get; rw [if_neg hq150, hi0, ej, iN_n (by omega), iN_n (by omega)]
        refine g_aload_n (q := 162) dX11_worksOn_161 rfl rfl ?_
        refine g_iload_n (q := 163) dX11_worksOn_162 rfl rfl ?_
        refine c_Vv (q := 166) (p_X11_takesBoth hs hMw hsn (show i < 6 by omega) (show j < 6 by omega) cB hi0 ej) k_X11_118 (by assumption) rfl (by decide) rfl rfl (Nat.le_of_ble_eq_true rfl) rfl rfl dX11_worksOn_163 rfl ?_
        rintro vq9 hc9
        rw [← eg] at hc9
        refine r_v dX11_worksOn_166 rfl rfl rfl ?_
        first | (rw [a_wrk, if_pos hq138]; exact hcw.tr hc9) | (rw [a_wrk, if_neg hq138]; exact hcw)
      · have eg : a_get (a_w1 A s).2 s = a_take (a_w1 A s).2 i (-1) := by unfold a_get; rw [if_pos hq150, hi0, iN_n (by omega)]
        refine g_aload_n (q := 154) dX11_worksOn_153 rfl rfl ?_
        refine g_iload_n (q := 155) dX11_worksOn_154 rfl rfl ?_
        refine c_Vv (q := 158) (p_X11_takesOne hs hMw hsn (show i < 6 by omega) cB hi0) k_X11_115 (by assumption) rfl (by decide) rfl rfl (Nat.le_of_ble_eq_true rfl) rfl rfl dX11_worksOn_155 rfl ?_
        rintro vq9 hc9
        rw [← eg] at hc9
        refine g_goto (q := 166) dX11_worksOn_158 (by decide) ?_
        refine r_v dX11_worksOn_166 rfl rfl rfl ?_
        first | (rw [a_wrk, if_pos hq138]; exact hcw.tr hc9) | (rw [a_wrk, if_neg hq138]; exact hcw)
  have mid1 : ∀ (w : gj_V), mc v w m (a_on A s) t sn → gj_G X 4 m_X11_worksOn (q_v lim σ (fun v' => mc v v' m (a_wrk A s).2 t sn)) lim σ w 0 0 52 [some (.ref m), some (.int (nI (190 + 12 * s)))] [] := by
    intro w hcw
    have hMw := hcw.M
    obtain ⟨⟨cB, cS, -, -⟩, -⟩ := a_on_ok hB hS hsn
    obtain ⟨-, -, ⟨o, ho6, ho⟩, -⟩ := cS.2.2.2.2.2 s hsn
    have r6 := (hMw.2.2.2.1 s hsn).1 6 (by omega)
    refine g_aload_n (q := 53) dX11_worksOn_52 rfl rfl ?_
    refine g_getR (q := 56) f_X11_13 (by assumption) rfl dX11_worksOn_53 rfl ?_
    refine g_iload_n (q := 57) dX11_worksOn_56 rfl rfl ?_
    refine g_bipush (q := 59) (x := 6) dX11_worksOn_57 (by decide) rfl ?_
    refine g_iadd (q := 60) dX11_worksOn_59 rfl ?_
    refine g_iald (q := 61) (by assumption) (by first | (simp only [gn_lit, nI_add, pk_mul]; exact rfl) | exact rfl) (by omega) (by decide) dX11_worksOn_60 rfl ?_
    rw [r6]
    refine g_iconst (q := 62) (x := 2) dX11_worksOn_61 (by decide) rfl ?_
    refine g_icmpne (t := 129) (q := 65) dX11_worksOn_62 (by decide) rfl (fun hq62 => ?_) (fun hq62 => ?_)
    · have ew : (a_w1 A s).2 = a_on A s := by rw [a_w1, if_neg hq62]
      exact mid2 w (by rw [ew]; exact hcw)
    · have ew : a_w1 A s = a_dlv (a_on A s) s := by rw [a_w1, if_pos hq62]
      have r8 := (hMw.2.2.2.1 s hsn).2.2.1 (by rw [hq62]; decide)
      refine g_aload_n (q := 66) dX11_worksOn_65 rfl rfl ?_
      refine g_aload_n (q := 67) dX11_worksOn_66 rfl rfl ?_
      refine g_getR (q := 70) f_X11_13 (by assumption) rfl dX11_worksOn_67 rfl ?_
      refine g_iload_n (q := 71) dX11_worksOn_70 rfl rfl ?_
      refine g_iconst (q := 72) (x := 2) dX11_worksOn_71 (by decide) rfl ?_
      refine g_iadd (q := 73) dX11_worksOn_72 rfl ?_
      refine g_iald (q := 74) (by assumption) (by first | (simp only [gn_lit, nI_add, pk_mul]; exact rfl) | exact rfl) (by omega) (by decide) dX11_worksOn_73 rfl ?_
      rw [hMw.2.2.2.1 s hsn |>.1 2 (by omega), ho]
      refine g_aload_n (q := 75) dX11_worksOn_74 rfl rfl ?_
      refine g_getR (q := 78) f_X11_13 (by assumption) rfl dX11_worksOn_75 rfl ?_
      refine g_iload_n (q := 79) dX11_worksOn_78 rfl rfl ?_
      refine g_bipush (q := 81) (x := 8) dX11_worksOn_79 (by decide) rfl ?_
      refine g_iadd (q := 82) dX11_worksOn_81 rfl ?_
      refine g_iald (q := 83) (by assumption) (by first | (simp only [gn_lit, nI_add, pk_mul]; exact rfl) | exact rfl) (by omega) (by decide) dX11_worksOn_82 rfl ?_
      rw [r8]
      refine g_iconst (q := 84) (x := (-1)) dX11_worksOn_83 (by decide) rfl ?_
      refine c_Vi (q := 87) (p_X11_put hs hMw (b := o) (k := (a_on A s).1 (20 + s) 8) (w := -1) (by omega) (cB o (by omega)).1) k_X11_98 (by assumption) rfl (by decide) rfl rfl (Nat.le_of_ble_eq_true rfl) rfl rfl dX11_worksOn_84 rfl ?_
      rintro y1 vq1 ⟨hy1, hc1⟩
      have hM1 := hc1.M
      have er : (a_put (a_on A s) o ((a_on A s).1 (20 + s) 8) (-1)).2.1 (20 + s) = (a_on A s).1 (20 + s) := (co_put (by omega)).1 _ (by omega)
      have q0 := hM1.2.2.2.1 s hsn
      rw [er] at q0
      have eo : iN ((a_on A s).1 (20 + s) 2) = o := by rw [ho]; exact iN_n (by omega)
      refine g_ifeq (t := 116) (q := 90) dX11_worksOn_87 (by decide) rfl (fun hq87 => ?_) (fun hq87 => ?_)
      · rw [hy1] at hq87
        have ed : (a_dlv (a_on A s) s).2 = sR (a_put (a_on A s) o ((a_on A s).1 (20 + s) 8) (-1)).2 (20 + s) (upd ((a_on A s).1 (20 + s)) 10 ((a_on A s).1 (20 + s) 10 + 1)) := by unfold a_dlv; rw [eo, if_pos hq87]
        refine g_aload_n (q := 117) dX11_worksOn_116 rfl rfl ?_
        refine g_getR (q := 120) f_X11_13 (by assumption) rfl dX11_worksOn_117 rfl ?_
        refine g_iload_n (q := 121) dX11_worksOn_120 rfl rfl ?_
        refine g_bipush (q := 123) (x := 10) dX11_worksOn_121 (by decide) rfl ?_
        refine g_iadd (q := 124) dX11_worksOn_123 rfl ?_
        refine g_dup2 (q := 125) dX11_worksOn_124 rfl rfl rfl ?_
        refine g_iald (q := 126) (by assumption) (by first | (simp only [gn_lit, nI_add, pk_mul]; exact rfl) | exact rfl) (by omega) (by decide) dX11_worksOn_125 rfl ?_
        refine g_iconst (q := 127) (x := 1) dX11_worksOn_126 (by decide) rfl ?_
        refine g_iadd (q := 128) dX11_worksOn_127 rfl ?_
        refine g_iast (q := 129) (by assumption) (by first | (simp only [gn_lit, nI_add, pk_mul]; exact rfl) | exact rfl) (by omega) (by decide) dX11_worksOn_128 rfl ?_
        refine g_gen (fun vq2 hvq2 => ?_)
        rw [gu_2] at hvq2
        refine mid2 vq2 (hcw.tr (hc1.tr ?_))
        rw [ew, ed]
        refine ⟨_, hvq2, hM1.stat hsn (fun i hi => ud_n _ _ (by omega)) ?_⟩
        rw [q0.2.2.2 10 (by omega) (by omega)]
        exact ms_hi q0 (by omega) (by omega)
      · rw [hy1] at hq87
        have ed : (a_dlv (a_on A s) s).2 = sR (a_put (a_on A s) o ((a_on A s).1 (20 + s) 8) (-1)).2 (20 + s) (upd (as_idle ((a_on A s).1 (20 + s))) 9 ((a_on A s).1 (20 + s) 9 + 1)) := by unfold a_dlv; rw [eo, if_neg hq87]
        refine g_aload_n (q := 91) dX11_worksOn_90 rfl rfl ?_
        refine g_getR (q := 94) f_X11_13 (by assumption) rfl dX11_worksOn_91 rfl ?_
        refine g_iload_n (q := 95) dX11_worksOn_94 rfl rfl ?_
        refine g_bipush (q := 97) (x := 6) dX11_worksOn_95 (by decide) rfl ?_
        refine g_iadd (q := 98) dX11_worksOn_97 rfl ?_
        refine g_iconst (q := 99) (x := 0) dX11_worksOn_98 (by decide) rfl ?_
        refine g_iast (q := 100) (by assumption) (by first | (simp only [gn_lit, nI_add, pk_mul]; exact rfl) | exact rfl) (by omega) (by decide) dX11_worksOn_99 rfl ?_
        refine g_gen (fun vq2 hvq2 => ?_)
        rw [gu_2] at hvq2
        have n2 := congrFun hvq2 (m + 2)
        rw [gu_s] at n2
        refine g_aload_n (q := 101) dX11_worksOn_100 rfl rfl ?_
        refine g_getR (q := 104) f_X11_13 (by assumption) rfl dX11_worksOn_101 rfl ?_
        refine g_iload_n (q := 105) dX11_worksOn_104 rfl rfl ?_
        refine g_bipush (q := 107) (x := 9) dX11_worksOn_105 (by decide) rfl ?_
        refine g_iadd (q := 108) dX11_worksOn_107 rfl ?_
        refine g_dup2 (q := 109) dX11_worksOn_108 rfl rfl rfl ?_
        refine g_iald (q := 110) (by assumption) (by first | (simp only [gn_lit, nI_add, pk_mul]; exact rfl) | exact rfl) (by omega) (by decide) dX11_worksOn_109 rfl ?_
        refine g_iconst (q := 111) (x := 1) dX11_worksOn_110 (by decide) rfl ?_
        refine g_iadd (q := 112) dX11_worksOn_111 rfl ?_
        refine g_iast (q := 113) (by assumption) (by first | (simp only [gn_lit, nI_add, pk_mul]; exact rfl) | exact rfl) (by omega) (by decide) dX11_worksOn_112 rfl ?_
        refine g_gen (fun vq3 hvq3 => ?_)
        rw [gu_2, n2, hvq2, gu_u] at hvq3
        have n3 := congrFun hvq3 (m + 2)
        rw [gu_s] at n3
        refine g_goto (q := 129) dX11_worksOn_113 (by decide) ?_
        refine mid2 vq3 (hcw.tr (hc1.tr ?_))
        rw [ew, ed]
        refine ⟨vq3 (m + 2), by rw [n3]; exact hvq3, hM1.stat hsn (fun i hi => ?_) ?_⟩
        · rw [n3, ud_n _ _ (by omega), ud_n _ _ (by omega)]
        · obtain ⟨a, b, c, d⟩ := q0
          unfold as_idle
          refine ⟨fun j hj => ?_, fun q => ?_, fun q => ?_, fun j j1 j2 => ?_⟩
          · rw [n3, ud_n _ _ (by omega), ud_n (upd (upd (upd ((a_on A s).1 (20 + s)) 6 0) 7 0) 8 (-1)) _ (show j ≠ 9 by omega), ud_n (upd (upd ((a_on A s).1 (20 + s)) 6 0) 7 0) _ (show j ≠ 8 by omega), ud_n (upd ((a_on A s).1 (20 + s)) 6 0) _ (show j ≠ 7 by omega)]
            by_cases e : j = 6
            · subst e; rw [ud_s, ud_s]
            · rw [ud_n _ _ (by omega), ud_n _ _ e]; exact a j hj
          · rw [ud_n _ _ (by decide), ud_n _ _ (by decide), ud_n _ _ (by decide), ud_s] at q; exact absurd q (by decide)
          · rw [ud_n _ _ (by decide), ud_n _ _ (by decide), ud_n _ _ (by decide), ud_s] at q; exact absurd rfl q
          · rw [n3]
            by_cases e : j = 9
            · subst e; rw [ud_s, ud_s, ud_n _ _ (by omega)]; rw [d 9 (by omega) (by omega)]
            · rw [ud_n _ _ (by omega), ud_n _ _ (by omega), ud_n _ _ e, ud_n _ _ (by omega), ud_n _ _ (by omega), ud_n _ _ (by omega)]; exact d j j1 j2
  refine gj_E_at (L := [some (.ref m), some (.int (nI (190 + 12 * s)))]) (k := 0) rfl (by decide) rfl ?_
  refine g_aload_n (q := 1) dX11_worksOn_0 rfl rfl ?_
  refine g_getR (q := 4) f_X11_13 (by assumption) rfl dX11_worksOn_1 rfl ?_
  refine g_iload_n (q := 5) dX11_worksOn_4 rfl rfl ?_
  refine g_bipush (q := 7) (x := 6) dX11_worksOn_5 (by decide) rfl ?_
  refine g_iadd (q := 8) dX11_worksOn_7 rfl ?_
  refine g_iald (q := 9) (by assumption) (by first | (simp only [gn_lit, nI_add, pk_mul]; exact rfl) | exact rfl) (by omega) (by decide) dX11_worksOn_8 rfl ?_
  rw [ar6]
  refine g_iconst (q := 10) (x := 1) dX11_worksOn_9 (by decide) rfl ?_
  refine g_icmpne (t := 52) (q := 13) dX11_worksOn_10 (by decide) rfl (fun hq10 => ?_) (fun hq10 => ?_)
  · have eo : as_on (A.1 (20 + s)) = A.1 (20 + s) := by unfold as_on; rw [if_neg hq10]
    exact mid1 v ⟨v (m + 2), (gu_id _ _).symm, hM.stat hsn (fun i hi => rfl) (by rw [eo]; exact hS0)⟩
  · have l7 := hS0.2.1 hq10
    refine g_aload_n (q := 14) dX11_worksOn_13 rfl rfl ?_
    refine g_getR (q := 17) f_X11_13 (by assumption) rfl dX11_worksOn_14 rfl ?_
    refine g_iload_n (q := 18) dX11_worksOn_17 rfl rfl ?_
    refine g_bipush (q := 20) (x := 7) dX11_worksOn_18 (by decide) rfl ?_
    refine g_iadd (q := 21) dX11_worksOn_20 rfl ?_
    refine g_dup2 (q := 22) dX11_worksOn_21 rfl rfl rfl ?_
    refine g_iald (q := 23) (by assumption) (by first | (simp only [gn_lit, nI_add, pk_mul]; exact rfl) | exact rfl) (by omega) (by decide) dX11_worksOn_22 rfl ?_
    refine g_iconst (q := 24) (x := 1) dX11_worksOn_23 (by decide) rfl ?_
    refine g_isub (q := 25) dX11_worksOn_24 rfl ?_
    refine g_iast (q := 26) (by assumption) (by first | (simp only [gn_lit, nI_add, pk_mul]; exact rfl) | exact rfl) (by omega) (by decide) dX11_worksOn_25 rfl ?_
    refine g_gen (fun vq1 hvq1 => ?_)
    rw [gu_2] at hvq1
    have n1 := congrFun hvq1 (m + 2)
    rw [gu_s] at n1
    refine g_aload_n (q := 27) dX11_worksOn_26 rfl rfl ?_
    refine g_getR (q := 30) f_X11_13 (by assumption) rfl dX11_worksOn_27 rfl ?_
    refine g_iload_n (q := 31) dX11_worksOn_30 rfl rfl ?_
    refine g_bipush (q := 33) (x := 6) dX11_worksOn_31 (by decide) rfl ?_
    refine g_iadd (q := 34) dX11_worksOn_33 rfl ?_
    refine g_aload_n (q := 35) dX11_worksOn_34 rfl rfl ?_
    refine g_getR (q := 38) f_X11_13 (by assumption) rfl dX11_worksOn_35 rfl ?_
    refine g_iload_n (q := 39) dX11_worksOn_38 rfl rfl ?_
    refine g_bipush (q := 41) (x := 7) dX11_worksOn_39 (by decide) rfl ?_
    refine g_iadd (q := 42) dX11_worksOn_41 rfl ?_
    refine g_iald (q := 43) (by assumption) (by first | (simp only [gn_lit, nI_add, pk_mul]; exact rfl) | exact rfl) (by omega) (by decide) dX11_worksOn_42 rfl ?_
    refine g_ifne (t := 50) (q := 46) dX11_worksOn_43 (by decide) rfl (fun hq43 => ?_) (fun hq43 => ?_)
    · rw [n1, ud_s, l7] at hq43
      refine g_iconst (q := 51) (x := 1) dX11_worksOn_50 (by decide) rfl ?_
      refine g_iast (q := 52) (by assumption) (by first | (simp only [gn_lit, nI_add, pk_mul]; exact rfl) | exact rfl) (by omega) (by decide) dX11_worksOn_51 rfl ?_
      refine g_gen (fun vq2 hvq2 => ?_)
      rw [gu_2, n1, hvq1, gu_u] at hvq2
      have n2 := congrFun hvq2 (m + 2)
      rw [gu_s] at n2
      refine mid1 vq2 ⟨vq2 (m + 2), by rw [n2]; exact hvq2, hM.stat hsn (fun i hi => ?_) ?_⟩
      · rw [n2, ud_n _ _ (by omega), ud_n _ _ (by omega)]
      · have eo : as_on (A.1 (20 + s)) = upd (A.1 (20 + s)) 7 (A.1 (20 + s) 7 - 1) := by unfold as_on; rw [if_pos hq10, if_neg hq43]
        rw [eo]
        obtain ⟨a, b, c, d⟩ := hS0
        refine ⟨fun j hj => ?_, fun q => ?_, fun q => ?_, fun j j1 j2 => ?_⟩
        · rw [n2]
          by_cases e : j = 6
          · subst e; rw [ud_s, ud_n _ _ (by decide)]; exact hq10.symm
          · rw [ud_n _ _ (by omega), ud_n _ _ (by omega), ud_n _ _ (by omega)]; exact a j hj
        · rw [n2, ud_n _ _ (by omega), ud_s, ud_s, l7]
        · rw [n2, ud_n _ _ (by omega), ud_n _ _ (by omega), ud_n _ _ (by decide)]; exact c (by rw [hq10]; decide)
        · rw [n2, ud_n _ _ (by omega), ud_n _ _ (by omega), ud_n _ _ (by omega)]; exact d j j1 j2
    · rw [n1, ud_s, l7] at hq43
      refine g_iconst (q := 47) (x := 2) dX11_worksOn_46 (by decide) rfl ?_
      refine g_goto (q := 51) dX11_worksOn_47 (by decide) ?_
      refine g_iast (q := 52) (by assumption) (by first | (simp only [gn_lit, nI_add, pk_mul]; exact rfl) | exact rfl) (by omega) (by decide) dX11_worksOn_51 rfl ?_
      refine g_gen (fun vq2 hvq2 => ?_)
      rw [gu_2, n1, hvq1, gu_u] at hvq2
      have n2 := congrFun hvq2 (m + 2)
      rw [gu_s] at n2
      refine mid1 vq2 ⟨vq2 (m + 2), by rw [n2]; exact hvq2, hM.stat hsn (fun i hi => ?_) ?_⟩
      · rw [n2, ud_n _ _ (by omega), ud_n _ _ (by omega)]
      · have eo : as_on (A.1 (20 + s)) = upd (upd (A.1 (20 + s)) 7 (A.1 (20 + s) 7 - 1)) 6 2 := by unfold as_on; rw [if_pos hq10, if_pos hq43]
        rw [eo]
        obtain ⟨a, b, c, d⟩ := hS0
        refine ⟨fun j hj => ?_, fun q => ?_, fun q => ?_, fun j j1 j2 => ?_⟩
        · rw [n2]
          by_cases e : j = 6
          · subst e; rw [ud_s, ud_s]
          · rw [ud_n _ _ (by omega), ud_n _ _ (by omega), ud_n _ _ e, ud_n _ _ (by omega)]; exact a j hj
        · rw [ud_s] at q; exact absurd q (by decide)
        · rw [n2, ud_n _ _ (by omega), ud_n _ _ (by omega), ud_n _ _ (by decide), ud_n _ _ (by decide)]; exact c (by rw [hq10]; decide)
        · rw [n2, ud_n _ _ (by omega), ud_n _ _ (by omega), ud_n _ _ (by omega), ud_n _ _ (by omega)]; exact d j j1 j2

set_option maxRecDepth 100000 in
set_option maxHeartbeats 4000000 in
theorem p_X11_madeOfAll {X : gj_X} {lim : Nat} {σ : gj_H} {v : gj_V} {m sn : Nat} {A : aS} {t : Int32} (hs : msh σ m) (hM : MR (v (m + 2)) A t sn) (hS : A.1 40 6 = nI sn) : gj_E X 1 m_X11_madeOfAll [.ref m] lim σ v (q_i lim σ (fun z v' => z = mdk sn 0 A ∧ v' = v)) := by
  obtain ⟨so, s1, s2, s3, s4, s5, s6, s7, s8, s9, s10, s11, s12⟩ := id hs
  have hs6 := hM.2.2.2.2.2.2
  have lp : ∀ (k i : Nat) (a : Int32), i + k = sn → gj_G X 1 m_X11_madeOfAll (q_i lim σ (fun z v' => z = a + mdk k i A ∧ v' = v)) lim σ v 0 0 4 [some (.ref m), some (.int a), some (.int (nI i))] [] := by
    intro k
    induction k with
    | zero =>
      intro i a hk
      refine g_iload_n (q := 5) dX11_madeOfAll_4 rfl rfl ?_
      refine g_aload_n (q := 6) dX11_madeOfAll_5 rfl rfl ?_
      refine g_getR (q := 9) f_X11_13 (by assumption) rfl dX11_madeOfAll_6 rfl ?_
      refine g_iconst (q := 10) (x := 1) dX11_madeOfAll_9 (by decide) rfl ?_
      refine g_iald (q := 11) (by assumption) (show (1 : Int32) = nI 1 from rfl) (by omega) (by decide) dX11_madeOfAll_10 rfl ?_
      refine g_icmpge (t := 35) (q := 14) dX11_madeOfAll_11 (by decide) rfl (fun hq11 => ?_) (fun hq11 => ?_)
      · refine g_iload_n (q := 36) dX11_madeOfAll_35 rfl rfl ?_
        refine r_i dX11_madeOfAll_36 rfl rfl rfl ?_
        exact ⟨by rw [mdk, Int32.add_zero], rfl⟩
      · rw [hM.1.2.1, hS] at hq11
        exact absurd (by rw [show i = sn by omega]; exact Int32.le_refl _) hq11
    | succ k ih =>
      intro i a hk
      refine g_iload_n (q := 5) dX11_madeOfAll_4 rfl rfl ?_
      refine g_aload_n (q := 6) dX11_madeOfAll_5 rfl rfl ?_
      refine g_getR (q := 9) f_X11_13 (by assumption) rfl dX11_madeOfAll_6 rfl ?_
      refine g_iconst (q := 10) (x := 1) dX11_madeOfAll_9 (by decide) rfl ?_
      refine g_iald (q := 11) (by assumption) (show (1 : Int32) = nI 1 from rfl) (by omega) (by decide) dX11_madeOfAll_10 rfl ?_
      refine g_icmpge (t := 35) (q := 14) dX11_madeOfAll_11 (by decide) rfl (fun hq11 => ?_) (fun hq11 => ?_)
      · rw [hM.1.2.1, hS] at hq11
        exact absurd (gn_le hq11 (by omega)) (by omega)
      · refine g_iload_n (q := 15) dX11_madeOfAll_14 rfl rfl ?_
        refine g_aload_n (q := 16) dX11_madeOfAll_15 rfl rfl ?_
        refine g_getR (q := 19) f_X11_13 (by assumption) rfl dX11_madeOfAll_16 rfl ?_
        refine g_iload_n (q := 20) dX11_madeOfAll_19 rfl rfl ?_
        refine c_Si (q := 23) (p_X11_stationAt (b := i)) k_X11_121 (by decide) rfl rfl (Nat.le_of_ble_eq_true rfl) rfl rfl dX11_madeOfAll_20 rfl ?_
        rintro z0 w1 ⟨hz0, hw1⟩
        subst w1
        subst z0
        refine g_bipush (q := 25) (x := 9) dX11_madeOfAll_23 (by decide) rfl ?_
        refine g_iadd (q := 26) dX11_madeOfAll_25 rfl ?_
        refine g_iald (q := 27) (by assumption) (by first | (simp only [gn_lit, nI_add, pk_mul]; exact rfl) | exact rfl) (by omega) (by decide) dX11_madeOfAll_26 rfl ?_
        rw [(hM.2.2.2.1 i (by omega)).2.2.2 9 (by omega) (by omega)]
        refine g_iadd (q := 28) dX11_madeOfAll_27 rfl ?_
        refine g_istore_n (q := 29) dX11_madeOfAll_28 rfl rfl rfl rfl ?_
        dsimp only [List.set]
        refine g_iinc (q := 32) (y := nI (i + 1)) dX11_madeOfAll_29 rfl (gn_inc i) rfl rfl rfl rfl ?_
        dsimp only [List.set]
        refine g_goto (q := 4) dX11_madeOfAll_32 (by decide) ?_
        have hh := ih (i + 1) (a + A.1 (20 + i) 9) (by omega)
        rw [Int32.add_assoc] at hh
        exact hh
  refine gj_E_at (L := [some (.ref m), none, none]) (k := 2) rfl (by decide) rfl ?_
  refine g_iconst (q := 1) (x := 0) dX11_madeOfAll_0 (by decide) rfl ?_
  refine g_istore_n (q := 2) dX11_madeOfAll_1 rfl rfl rfl rfl ?_
  dsimp only [List.set]
  refine g_iconst (q := 3) (x := 0) dX11_madeOfAll_2 (by decide) rfl ?_
  refine g_istore_n (q := 4) dX11_madeOfAll_3 rfl rfl rfl rfl ?_
  dsimp only [List.set]
  have hh := lp sn 0 0 (by omega)
  rw [Int32.zero_add] at hh
  exact hh

set_option maxRecDepth 100000 in
set_option maxHeartbeats 4000000 in
theorem p_X11_tick {X : gj_X} {lim : Nat} {σ : gj_H} {v : gj_V} {m sn : Nat} {A : aS} {t : Int32} (hs : msh σ m) (hM : MR (v (m + 2)) A t sn) {n : Nat} (hB : ivB A) (hS : ivS A n sn) (hW : ivW A n) : gj_E X 5 m_X11_tick [.ref m] lim σ v (q_v lim σ (fun v' => mc v v' m (a_srv 7 (a_tks sn 0 A).2) (t + 1) sn)) := by
  obtain ⟨so, s1, s2, s3, s4, s5, s6, s7, s8, s9, s10, s11, s12⟩ := id hs
  have lp : ∀ (k s : Nat) (C : aS) (w : gj_V), mc v w m C t sn → ivB C → ivS C n sn → ivW C n → s + k = sn → gj_G X 5 m_X11_tick (q_v lim σ (fun v' => mc v v' m (a_srv 7 (a_tks k s C).2) (t + 1) sn)) lim σ w 0 0 2 [some (.ref m), some (.int (nI s)), none, none] [] := by
    intro k
    induction k with
    | zero =>
      intro s C w hcw hBc hSc hWc hk
      have hMw := hcw.M
      have hs6 := hMw.2.2.2.2.2.2
      have hn6 := hSc.2.2.2.1
      rw [show a_tks 0 s C = (0, C) from rfl]
      refine g_iload_n (q := 3) dX11_tick_2 rfl rfl ?_
      refine g_aload_n (q := 4) dX11_tick_3 rfl rfl ?_
      refine g_getR (q := 7) f_X11_13 (by assumption) rfl dX11_tick_4 rfl ?_
      refine g_iconst (q := 8) (x := 1) dX11_tick_7 (by decide) rfl ?_
      refine g_iald (q := 9) (by assumption) (show (1 : Int32) = nI 1 from rfl) (by omega) (by decide) dX11_tick_8 rfl ?_
      refine g_icmpge (t := 70) (q := 12) dX11_tick_9 (by decide) rfl (fun hq9 => ?_) (fun hq9 => ?_)
      · refine g_aload_n (q := 71) dX11_tick_70 rfl rfl ?_
        refine g_getR (q := 74) f_X11_13 (by assumption) rfl dX11_tick_71 rfl ?_
        refine g_iconst (q := 75) (x := 2) dX11_tick_74 (by decide) rfl ?_
        refine g_dup2 (q := 76) dX11_tick_75 rfl rfl rfl ?_
        refine g_iald (q := 77) (by assumption) (show (2 : Int32) = nI 2 from rfl) (by omega) (by decide) dX11_tick_76 rfl ?_
        refine g_iconst (q := 78) (x := 1) dX11_tick_77 (by decide) rfl ?_
        refine g_iadd (q := 79) dX11_tick_78 rfl ?_
        refine g_iast (q := 80) (by assumption) (show (2 : Int32) = nI 2 from rfl) (by omega) (by decide) dX11_tick_79 rfl ?_
        refine g_gen (fun vq2 hvq2 => ?_)
        rw [gu_2, hMw.1.2.2.1] at hvq2
        have hc2 : mc w vq2 m C (t + 1) sn := ⟨_, hvq2, hMw.hd2⟩
        refine g_aload_n (q := 81) dX11_tick_80 rfl rfl ?_
        refine c_Vv (q := 84) (p_X11_serves hs hc2.M hBc hn6 hWc) k_X11_127 (by assumption) rfl (by decide) rfl rfl (Nat.le_of_ble_eq_true rfl) rfl rfl dX11_tick_81 rfl ?_
        rintro vq3 hc3
        refine r_v dX11_tick_84 rfl rfl rfl ?_
        exact (hcw.tr hc2).tr hc3
      · rw [hMw.1.2.1, hSc.2.1] at hq9
        exact absurd (by rw [show s = sn by omega]; exact Int32.le_refl _) hq9
    | succ k ih =>
      intro s C w hcw hBc hSc hWc hk
      have hMw := hcw.M
      have hs6 := hMw.2.2.2.2.2.2
      have hn6 := hSc.2.2.2.1
      have hsn : s < sn := by omega
      obtain ⟨-, -, -, -, hgd, -⟩ := hSc.2.2.2.2.2 s hsn
      obtain ⟨o1, -⟩ := a_tst_ok hBc hSc hsn
      have hW1 : ivW (a_tst C s).2 n := ivW_eq hWc (fun q hq => o1.2.2.1.1 _ (by omega) (by omega) (by omega)) (o1.2.2.1.2.2 20 (by omega))
      refine g_iload_n (q := 3) dX11_tick_2 rfl rfl ?_
      refine g_aload_n (q := 4) dX11_tick_3 rfl rfl ?_
      refine g_getR (q := 7) f_X11_13 (by assumption) rfl dX11_tick_4 rfl ?_
      refine g_iconst (q := 8) (x := 1) dX11_tick_7 (by decide) rfl ?_
      refine g_iald (q := 9) (by assumption) (show (1 : Int32) = nI 1 from rfl) (by omega) (by decide) dX11_tick_8 rfl ?_
      refine g_icmpge (t := 70) (q := 12) dX11_tick_9 (by decide) rfl (fun hq9 => ?_) (fun hq9 => ?_)
      · rw [hMw.1.2.1, hSc.2.1] at hq9
        exact absurd (gn_le hq9 (by omega)) (by omega)
      · refine g_iload_n (q := 13) dX11_tick_12 rfl rfl ?_
        refine c_Si (q := 16) (p_X11_stationAt (b := s)) k_X11_121 (by decide) rfl rfl (Nat.le_of_ble_eq_true rfl) rfl rfl dX11_tick_13 rfl ?_
        rintro z0 w1 ⟨hz0, hw1⟩
        subst w1
        subst z0
        refine g_istore_n (q := 17) dX11_tick_16 rfl rfl rfl rfl ?_
        dsimp only [List.set]
        refine g_aload_n (q := 18) dX11_tick_17 rfl rfl ?_
        refine g_getR (q := 21) f_X11_13 (by assumption) rfl dX11_tick_18 rfl ?_
        refine g_iload_n (q := 22) dX11_tick_21 rfl rfl ?_
        refine g_iconst (q := 23) (x := 5) dX11_tick_22 (by decide) rfl ?_
        refine g_iadd (q := 24) dX11_tick_23 rfl ?_
        refine g_iald (q := 25) (by assumption) (by first | (simp only [gn_lit, nI_add, pk_mul]; exact rfl) | exact rfl) (by omega) (by decide) dX11_tick_24 rfl ?_
        rw [(hMw.2.2.2.1 s hsn).1 5 (by omega)]
        refine g_istore_n (q := 26) dX11_tick_25 rfl rfl rfl rfl ?_
        dsimp only [List.set]
        refine g_iload_n (q := 27) dX11_tick_26 rfl rfl ?_
        refine g_iconst (q := 28) (x := (-1)) dX11_tick_27 (by decide) rfl ?_
        refine g_icmpne (t := 44) (q := 31) dX11_tick_28 (by decide) rfl (fun hq28 => ?_) (fun hq28 => ?_)
        · obtain ⟨g, hg, eg⟩ := hgd.resolve_left hq28
          rw [eg]
          have et : a_tst C s = ((a_wrk (a_in C g) s).1, a_out (a_wrk (a_in C g) s).2 g) := by unfold a_tst; rw [if_neg hq28, eg, iN_n (by omega)]
          have k1 : ivB (a_in C g) := ivB_in hBc (by omega)
          have k2 : ivS (a_in C g) n sn := ivS_co hSc (co_R (by omega))
          refine g_aload_n (q := 45) dX11_tick_44 rfl rfl ?_
          refine g_iload_n (q := 46) dX11_tick_45 rfl rfl ?_
          refine c_Vv (q := 49) (p_X11_enters hs hMw (g := g) (by omega)) k_X11_72 (by assumption) rfl (by decide) rfl rfl (Nat.le_of_ble_eq_true rfl) rfl rfl dX11_tick_46 rfl ?_
          rintro vq1 hc1
          have hM1 := hc1.M
          refine g_aload_n (q := 50) dX11_tick_49 rfl rfl ?_
          refine g_iload_n (q := 51) dX11_tick_50 rfl rfl ?_
          refine c_Vv (q := 54) (p_X11_worksOn hs hM1 k1 k2 hsn) k_X11_124 (by assumption) rfl (by decide) rfl rfl (Nat.le_of_ble_eq_true rfl) rfl rfl dX11_tick_51 rfl ?_
          rintro vq2 hc2
          have hM2 := hc2.M
          refine g_iload_n (q := 55) dX11_tick_54 rfl rfl ?_
          refine g_iconst (q := 56) (x := (-1)) dX11_tick_55 (by decide) rfl ?_
          refine g_icmpeq (t := 64) (q := 59) dX11_tick_56 (by decide) rfl (fun hq56 => ?_) (fun hq56 => ?_)
          · exact absurd hq56 (gn_m1 (by omega))
          · refine g_aload_n (q := 60) dX11_tick_59 rfl rfl ?_
            refine g_iload_n (q := 61) dX11_tick_60 rfl rfl ?_
            refine c_Vv (q := 64) (p_X11_leaves hs hM2 (g := g) (by omega)) k_X11_82 (by assumption) rfl (by decide) rfl rfl (Nat.le_of_ble_eq_true rfl) rfl rfl dX11_tick_61 rfl ?_
            rintro vq3 hc3
            refine g_iinc (q := 67) (y := nI (s + 1)) dX11_tick_64 rfl (gn_inc s) rfl rfl rfl rfl ?_
            dsimp only [List.set]
            refine g_goto (q := 2) dX11_tick_67 (by decide) ?_
            refine g_wk (L' := [some (.ref m), some (.int (nI (s + 1))), none, none]) (by first | (simp [gj_wk]; done) | (simp [gj_wk]; rfl)) ?_
            rw [a_tks]
            dsimp only
            exact ih (s + 1) _ vq3 (by rw [et]; exact ((hcw.tr hc1).tr hc2).tr hc3) o1.1 o1.2.1 hW1 (by omega)
        · have et : a_tst C s = a_wrk (a_ung C) s := by unfold a_tst; rw [if_pos hq28]
          have k1 : ivB (a_ung C) := ivB_R hBc (Or.inr (by omega))
          have k2 : ivS (a_ung C) n sn := ivS_40 hSc (by decide) (by decide)
          rw [hq28]
          refine g_aload_n (q := 32) dX11_tick_31 rfl rfl ?_
          refine g_getR (q := 35) f_X11_13 (by assumption) rfl dX11_tick_32 rfl ?_
          refine g_iconst (q := 36) (x := 3) dX11_tick_35 (by decide) rfl ?_
          refine g_dup2 (q := 37) dX11_tick_36 rfl rfl rfl ?_
          refine g_iald (q := 38) (by assumption) (show (3 : Int32) = nI 3 from rfl) (by omega) (by decide) dX11_tick_37 rfl ?_
          refine g_iconst (q := 39) (x := 1) dX11_tick_38 (by decide) rfl ?_
          refine g_iadd (q := 40) dX11_tick_39 rfl ?_
          refine g_iast (q := 41) (by assumption) (show (3 : Int32) = nI 3 from rfl) (by omega) (by decide) dX11_tick_40 rfl ?_
          refine g_gen (fun vq1 hvq1 => ?_)
          rw [gu_2, hMw.1.2.2.2.1] at hvq1
          have hc1 : mc w vq1 m (a_ung C) t sn := ⟨_, hvq1, hMw.hd3⟩
          have hM1 := hc1.M
          refine g_goto (q := 49) dX11_tick_41 (by decide) ?_
          refine g_aload_n (q := 50) dX11_tick_49 rfl rfl ?_
          refine g_iload_n (q := 51) dX11_tick_50 rfl rfl ?_
          refine c_Vv (q := 54) (p_X11_worksOn hs hM1 k1 k2 hsn) k_X11_124 (by assumption) rfl (by decide) rfl rfl (Nat.le_of_ble_eq_true rfl) rfl rfl dX11_tick_51 rfl ?_
          rintro vq2 hc2
          have hM2 := hc2.M
          refine g_iload_n (q := 55) dX11_tick_54 rfl rfl ?_
          refine g_iconst (q := 56) (x := (-1)) dX11_tick_55 (by decide) rfl ?_
          refine g_icmpeq (t := 64) (q := 59) dX11_tick_56 (by decide) rfl (fun hq56 => ?_) (fun hq56 => ?_)
          · refine g_iinc (q := 67) (y := nI (s + 1)) dX11_tick_64 rfl (gn_inc s) rfl rfl rfl rfl ?_
            dsimp only [List.set]
            refine g_goto (q := 2) dX11_tick_67 (by decide) ?_
            refine g_wk (L' := [some (.ref m), some (.int (nI (s + 1))), none, none]) (by first | (simp [gj_wk]; done) | (simp [gj_wk]; rfl)) ?_
            rw [a_tks]
            dsimp only
            exact ih (s + 1) _ vq2 (by rw [et]; exact (hcw.tr hc1).tr hc2) o1.1 o1.2.1 hW1 (by omega)
          · exact absurd rfl hq56
  refine gj_E_at (L := [some (.ref m), none, none, none]) (k := 3) rfl (by decide) rfl ?_
  refine g_iconst (q := 1) (x := 0) dX11_tick_0 (by decide) rfl ?_
  refine g_istore_n (q := 2) dX11_tick_1 rfl rfl rfl rfl ?_
  dsimp only [List.set]
  refine g_wk (L' := [some (.ref m), some (.int (nI 0)), none, none]) (by first | (simp [gj_wk]; done) | (simp [gj_wk]; rfl)) ?_
  exact lp sn 0 A v (mc.rf hM) hB hS hW (by omega)
