theorem mb_kp1 {N N' : Nat → Int32} {b : Nat} {f g : Nat → Int32} {li lq : List Int32} (h : mb N b f li lq) (g3 : ∀ k, 3 ≤ k → k < 7 → g k = f k) (q5 : N' (10 + 24 * b + 5) = g 7) (q6 : N' (10 + 24 * b + 6) = g 8) (qo : ∀ j, j ≠ 10 + 24 * b + 5 → j ≠ 10 + 24 * b + 6 → N' j = N j) : mb N' b g li lq := by
  obtain ⟨a0, a1, a2, a3, a4, a5, a6, a7, a8, a9, a10, a11⟩ := h
  refine ⟨?_, ?_, ?_, ?_, ?_, q5, q6, ?_, fun j hj => ?_, fun j hj => ?_, a10, a11⟩
  · rw [qo _ (by omega) (by omega)]; exact a0
  · rw [qo _ (by omega) (by omega), g3 3 (by omega) (by omega)]; exact a1
  · rw [qo _ (by omega) (by omega), g3 4 (by omega) (by omega)]; exact a2
  · rw [qo _ (by omega) (by omega), g3 5 (by omega) (by omega)]; exact a3
  · rw [qo _ (by omega) (by omega), g3 6 (by omega) (by omega)]; exact a4
  · rw [qo _ (by omega) (by omega)]; exact a7
  · rw [qo _ (by omega) (by omega)]; exact a8 j hj
  · rw [qo _ (by omega) (by omega)]; exact a9 j hj
theorem mb_kp2 {N N' : Nat → Int32} {b : Nat} {f : Nat → Int32} {li lq : List Int32} {w : Int32} (h : mb N b f li lq) (hl : lq.length < 6) (q8 : N' (10 + 24 * b + 8 + lq.length) = w) (q7 : N' (10 + 24 * b + 7) = nI (lq.length + 1)) (qo : ∀ j, j ≠ 10 + 24 * b + 8 + lq.length → j ≠ 10 + 24 * b + 7 → N' j = N j) : mb N' b f li (lq ++ [w]) := by
  obtain ⟨a0, a1, a2, a3, a4, a5, a6, a7, a8, a9, a10, a11⟩ := h
  refine ⟨?_, ?_, ?_, ?_, ?_, ?_, ?_, by rw [q7]; simp, fun j hj => ?_, fun j hj => ?_, a10, by simp; omega⟩
  · rw [qo _ (by omega) (by omega)]; exact a0
  · rw [qo _ (by omega) (by omega)]; exact a1
  · rw [qo _ (by omega) (by omega)]; exact a2
  · rw [qo _ (by omega) (by omega)]; exact a3
  · rw [qo _ (by omega) (by omega)]; exact a4
  · rw [qo _ (by omega) (by omega)]; exact a5
  · rw [qo _ (by omega) (by omega)]; exact a6
  · simp only [List.length_append, List.length_singleton] at hj
    by_cases e : j = lq.length
    · subst e; rw [ge_la]; exact q8
    · rw [ge_ap (by omega), qo _ (by omega) (by omega)]; exact a8 j (by omega)
  · rw [qo _ (by omega) (by omega)]; exact a9 j hj
theorem out_eq {A : aS} {b : Nat} {f : Nat → Int32} {li lq : List Int32} (hb : b < 6) : a_out (sB (a_in A b) b ((a_in A b).1 b, f, li, lq)) b = sB A b (ag_out (ag_in (A.1 b)), f, li, lq) := by
  rw [sB_out _ _ _ _ _ _ hb, show (a_in A b).1 b = ag_in (A.1 b) from sR_s _ _ _]
  unfold a_in
  rw [sB_in _ _ _ _ _ _ _ hb]

set_option maxRecDepth 100000 in
set_option maxHeartbeats 4000000 in
theorem p_X11_keeps {X : gj_X} {lim : Nat} {σ : gj_H} {v : gj_V} {m : Nat} {A : aS} {t : Int32} {l : List (aS × Int32)} {tx : List Int32} {c : Nat → Int32} {n sn : Nat} (hs : msh σ m) (hG : MG v m A t l tx c) (hI : IV A n sn) {w b : Int32} : gj_E X 6 m_X11_keeps [.ref m, .int w, .int b] lim σ v (q_i lim σ (fun z v' => sp_keeps A t l tx c w b z (MG v' m) ∧ fm v v' m)) := by
  obtain ⟨so, s1, s2, s3, s4, s5, s6, s7, s8, s9, s10, s11, s12⟩ := id hs
  have hn6 := hI.2.1.2.2.2.1
  have hn1 := hI.2.1.2.2.1
  have hsn6 := hI.2.1.2.2.2.2.1
  have esn : sno A = sn := sn_eq hI
  have hM0 := hG.1
  refine gj_E_at (L := [some (.ref m), some (.int w), some (.int b), none, none]) (k := 2) rfl (by decide) rfl ?_
  refine g_iload_n (q := 1) dX11_keeps_0 rfl rfl ?_
  refine c_Si (q := 4) p_X11_isWorker k_X11_162 (by decide) rfl rfl (Nat.le_of_ble_eq_true rfl) rfl rfl dX11_keeps_1 rfl ?_
  rintro z w1 ⟨rfl, hw1⟩
  subst w1
  refine g_ifeq (t := 15) (q := 7) dX11_keeps_4 (by decide) rfl (fun hq4 => ?_) (fun hq4 => ?_)
  · have hq4 := gn_b0 hq4
    refine g_aload_n (q := 16) dX11_keeps_15 rfl rfl ?_
    refine c_Vi (q := 19) (p_X11_bad hs hG) k_X11_130 (by assumption) rfl (by decide) rfl rfl (Nat.le_of_ble_eq_true rfl) rfl rfl dX11_keeps_16 rfl ?_
    rintro z w1 ⟨hz1, hG1, E1⟩
    refine r_i dX11_keeps_19 rfl rfl rfl ?_
    rw [sp_keeps, if_neg (by intro h; first | exact hq4 h.1 | exact hq12 h.2)]
    exact ⟨⟨hz1, hG1⟩, E1⟩
  · have hq4 := gn_b1 hq4
    refine g_aload_n (q := 8) dX11_keeps_7 rfl rfl ?_
    refine g_iload_n (q := 9) dX11_keeps_8 rfl rfl ?_
    refine c_Vi (q := 12) (p_X11_isBuffer hs hG.1 hI.2.1.1 hn6) k_X11_136 (by assumption) rfl (by decide) rfl rfl (Nat.le_of_ble_eq_true rfl) rfl rfl dX11_keeps_9 rfl ?_
    rintro z w1 ⟨rfl, hw1⟩
    subst w1
    refine g_ifne (t := 20) (q := 15) dX11_keeps_12 (by decide) rfl (fun hq12 => ?_) (fun hq12 => ?_)
    · have hq12 := gn_b1 hq12
      refine g_aload_n (q := 21) dX11_keeps_20 rfl rfl ?_
      refine g_iload_n (q := 22) dX11_keeps_21 rfl rfl ?_
      refine c_Vi (q := 25) (p_X11_queueOf hs hG.1 hI.2.2.2 hn6) k_X11_165 (by assumption) rfl (by decide) rfl rfl (Nat.le_of_ble_eq_true rfl) rfl rfl dX11_keeps_22 rfl ?_
      rintro y w1 ⟨hy1, hw1⟩
      subst w1
      rw [← nn_eq hI] at hy1
      refine g_iconst (q := 26) (x := (-1)) dX11_keeps_25 (by decide) rfl ?_
      refine g_icmpeq (t := 34) (q := 29) dX11_keeps_26 (by decide) rfl (fun hq26 => ?_) (fun hq26 => ?_)
      · rw [hy1] at hq26
        have hcd := And.intro hq4 hq12
        obtain ⟨w0, w6, rfl⟩ := gn_05 hq4
        obtain ⟨j, hj, rfl⟩ := a_has_of hI.2.1.1 (by omega) hq12
        have ej : iN (nI j) = j := iN_n (by omega)
        have j6 : j < 6 := by omega
        have hno := (a_qa_none (nn A) 0 A (nI w0) hI.2.2.2 (by rw [nn_eq hI]; omega)).mp hq26
        have hlen := queue_add hI.2.2.2 w6 j6 (hno j (by omega) (by rw [nn_eq hI]; omega))
        have ivk : IV (sB A j (b_keep (gB A j) (nI w0)).2) n sn := iv_keep hI w6 hj (by rw [nn_eq hI] at hq26; exact hq26)
        refine g_aload_n (q := 35) dX11_keeps_34 rfl rfl ?_
        refine c_Vv (q := 38) (p_X11_leavesState hs hG) k_X11_133 (by assumption) rfl (by decide) rfl rfl (Nat.le_of_ble_eq_true rfl) rfl rfl dX11_keeps_35 rfl ?_
        rintro vq1 ⟨⟨hG1, n1⟩, E1⟩
        have hM1 := hG1.1
        refine g_iload_n (q := 39) dX11_keeps_38 rfl rfl ?_
        refine c_Si (q := 42) (p_X11_atBuffer (b := j)) k_X11_54 (by decide) rfl rfl (Nat.le_of_ble_eq_true rfl) rfl rfl dX11_keeps_39 rfl ?_
        rintro z0 w1 ⟨hz0, hw1⟩
        subst w1
        subst z0
        refine g_istore_n (q := 43) dX11_keeps_42 rfl rfl rfl rfl ?_
        dsimp only [List.set]
        refine g_aload_n (q := 44) dX11_keeps_43 rfl rfl ?_
        refine g_iload_n (q := 45) dX11_keeps_44 rfl rfl ?_
        refine c_Vv (q := 48) (p_X11_enters hs hM1 (g := j) (by omega)) k_X11_72 (by assumption) rfl (by decide) rfl rfl (Nat.le_of_ble_eq_true rfl) rfl rfl dX11_keeps_45 rfl ?_
        rintro vq2 hc2
        have hB : mb (vq2 (m + 2)) j (A.1 (10 + j)) (A.2 j) (A.2 (10 + j)) := by
          have q := hc2.M.2.1 j j6
          rw [in_10] at q
          exact q
        obtain ⟨a0, a1, a2, a3, a4, a5, a6, a7, a8, a9, a10, a11⟩ := id hB
        have hM2 := hc2.M
        refine g_aload_n (q := 49) dX11_keeps_48 rfl rfl ?_
        refine g_getR (q := 52) f_X11_13 (by assumption) rfl dX11_keeps_49 rfl ?_
        refine g_iload_n (q := 53) dX11_keeps_52 rfl rfl ?_
        refine g_iconst (q := 54) (x := 5) dX11_keeps_53 (by decide) rfl ?_
        refine g_iadd (q := 55) dX11_keeps_54 rfl ?_
        refine g_iald (q := 56) (by assumption) (by first | (simp only [gn_lit, nI_add, pk_mul]; exact rfl) | exact rfl) (by omega) (by decide) dX11_keeps_55 rfl ?_
        refine g_iconst (q := 57) (x := (-1)) dX11_keeps_56 (by decide) rfl ?_
        refine g_icmpeq (t := 72) (q := 60) dX11_keeps_57 (by decide) rfl (fun hq57 => ?_) (fun hq57 => ?_)
        · rw [a5] at hq57
          refine g_iconst (q := 73) (x := 1) dX11_keeps_72 (by decide) rfl ?_
          refine g_goto (q := 77) dX11_keeps_73 (by decide) ?_
          refine g_istore (q := 79) dX11_keeps_77 rfl rfl rfl rfl ?_
          dsimp only [List.set]
          refine g_iload (q := 81) dX11_keeps_79 rfl rfl ?_
          refine g_ifeq (t := 109) (q := 84) dX11_keeps_81 (by decide) rfl (fun hq81 => ?_) (fun hq81 => ?_)
          · exact absurd hq81 (by decide)
          · refine g_aload_n (q := 85) dX11_keeps_84 rfl rfl ?_
            refine g_getR (q := 88) f_X11_13 (by assumption) rfl dX11_keeps_85 rfl ?_
            refine g_iload_n (q := 89) dX11_keeps_88 rfl rfl ?_
            refine g_iconst (q := 90) (x := 5) dX11_keeps_89 (by decide) rfl ?_
            refine g_iadd (q := 91) dX11_keeps_90 rfl ?_
            refine g_iload_n (q := 92) dX11_keeps_91 rfl rfl ?_
            refine g_iast (q := 93) (by assumption) (by first | (simp only [gn_lit, nI_add, pk_mul]; exact rfl) | exact rfl) (by omega) (by decide) dX11_keeps_92 rfl ?_
            refine g_gen (fun vq3 hvq3 => ?_)
            rw [gu_2] at hvq3
            have n3 := congrFun hvq3 (m + 2)
            rw [gu_s] at n3
            refine g_aload_n (q := 94) dX11_keeps_93 rfl rfl ?_
            refine g_getR (q := 97) f_X11_13 (by assumption) rfl dX11_keeps_94 rfl ?_
            refine g_iload_n (q := 98) dX11_keeps_97 rfl rfl ?_
            refine g_bipush (q := 100) (x := 6) dX11_keeps_98 (by decide) rfl ?_
            refine g_iadd (q := 101) dX11_keeps_100 rfl ?_
            refine g_dup2 (q := 102) dX11_keeps_101 rfl rfl rfl ?_
            refine g_iald (q := 103) (by assumption) (by first | (simp only [gn_lit, nI_add, pk_mul]; exact rfl) | exact rfl) (by omega) (by decide) dX11_keeps_102 rfl ?_
            refine g_iconst (q := 104) (x := 1) dX11_keeps_103 (by decide) rfl ?_
            refine g_iadd (q := 105) dX11_keeps_104 rfl ?_
            refine g_iast (q := 106) (by assumption) (by first | (simp only [gn_lit, nI_add, pk_mul]; exact rfl) | exact rfl) (by omega) (by decide) dX11_keeps_105 rfl ?_
            refine g_gen (fun vq4 hvq4 => ?_)
            rw [gu_2, n3, hvq3, gu_u] at hvq4
            have n4 := congrFun hvq4 (m + 2)
            rw [gu_s] at n4
            refine g_goto (q := 142) dX11_keeps_106 (by decide) ?_
            have hnk : ¬ b_kept (gB A j) (nI w0) := fun q => by first | exact q.1 hq57 | exact q.2 hq69
            have q5 : vq4 (m + 2) (10 + 24 * j + 5) = (upd (upd (A.1 (10 + j)) 7 (nI w0)) 8 (A.1 (10 + j) 8 + 1)) 7 := by
              rw [n4, ud_n _ _ (by omega), ud_s, ud_n _ _ (by decide), ud_s]
            have q6 : vq4 (m + 2) (10 + 24 * j + 6) = (upd (upd (A.1 (10 + j)) 7 (nI w0)) 8 (A.1 (10 + j) 8 + 1)) 8 := by
              rw [n4, ud_s, ud_n _ _ (by omega), ud_s, a6]
            have qo : ∀ i, i ≠ 10 + 24 * j + 5 → i ≠ 10 + 24 * j + 6 → vq4 (m + 2) i = vq2 (m + 2) i := fun i g1 g2 => by rw [n4, ud_n _ _ g2, ud_n _ _ g1]
            have hc4 : mc vq2 vq4 m (sB (a_in A j) j ((a_in A j).1 j, upd (upd (A.1 (10 + j)) 7 (nI w0)) 8 (A.1 (10 + j) 8 + 1), A.2 j, A.2 (10 + j))) t (sno A) := ⟨vq4 (m + 2), by rw [n4]; exact hvq4, hM2.buf j6 (fun i hi => qo i (by omega) (by omega)) (mb_kp1 hB (fun k g1 g2 => by rw [ud_n _ _ (by omega), ud_n _ _ (by omega)]) q5 q6 qo)⟩
            refine g_aload_n (q := 143) dX11_keeps_142 rfl rfl ?_
            refine g_iload_n (q := 144) dX11_keeps_143 rfl rfl ?_
            refine c_Vv (q := 147) (p_X11_leaves hs hc4.M (g := j) (by omega)) k_X11_82 (by assumption) rfl (by decide) rfl rfl (Nat.le_of_ble_eq_true rfl) rfl rfl dX11_keeps_144 rfl ?_
            rintro vq5 hc5
            rw [out_eq j6] at hc5
            have hc6 := (hc2.tr hc4).tr hc5
            have ek : (b_keep (gB A j) (nI w0)).2 = (ag_out (ag_in (A.1 j)), upd (upd (A.1 (10 + j)) 7 (nI w0)) 8 (A.1 (10 + j) 8 + 1), A.2 j, A.2 (10 + j)) := by unfold b_keep; rw [if_neg hnk]; rfl
            rw [← ek] at hc6
            have hG6 := hG1.now hc6 ((sn_eq ivk).trans esn.symm)
            have E6 := E1.tr hc6.fm
            have q8 := (hc6.M.2.1 j j6).2.2.2.2.2.2.1
            refine g_iload (q := 149) dX11_keeps_147 rfl rfl ?_
            refine g_ifeq (t := 164) (q := 152) dX11_keeps_149 (by decide) rfl (fun hq149 => ?_) (fun hq149 => ?_)
            · exact absurd hq149 (by decide)
            · refine g_aload_n (q := 153) dX11_keeps_152 rfl rfl ?_
              refine g_getR (q := 156) f_X11_13 (by assumption) rfl dX11_keeps_153 rfl ?_
              refine g_iload_n (q := 157) dX11_keeps_156 rfl rfl ?_
              refine g_bipush (q := 159) (x := 6) dX11_keeps_157 (by decide) rfl ?_
              refine g_iadd (q := 160) dX11_keeps_159 rfl ?_
              refine g_iald (q := 161) (by assumption) (by first | (simp only [gn_lit, nI_add, pk_mul]; exact rfl) | exact rfl) (by omega) (by decide) dX11_keeps_160 rfl ?_
              refine g_goto (q := 166) dX11_keeps_161 (by decide) ?_
              refine r_i dX11_keeps_166 rfl rfl rfl ?_
              rw [sp_keeps, if_pos hcd, ej, if_pos hq26]
              refine ⟨⟨?_, hG6⟩, E6⟩
              rw [q8]
              have eq1 : (sB A j (b_keep (gB A j) (nI w0)).2).1 (10 + j) = (b_keep (gB A j) (nI w0)).2.2.1 := congrArg (fun z => z.2.1) (gB_s A j _ j6)
              rw [eq1]
              unfold b_keep
              rw [if_neg hnk]
              show upd (upd (A.1 (10 + j)) 7 (nI w0)) 8 (A.1 (10 + j) 8 + 1) 8 = A.1 (10 + j) 8 + 1
              exact ud_s _ _ _
        · rw [a5] at hq57
          refine g_aload_n (q := 61) dX11_keeps_60 rfl rfl ?_
          refine g_getR (q := 64) f_X11_13 (by assumption) rfl dX11_keeps_61 rfl ?_
          refine g_iload_n (q := 65) dX11_keeps_64 rfl rfl ?_
          refine g_iconst (q := 66) (x := 5) dX11_keeps_65 (by decide) rfl ?_
          refine g_iadd (q := 67) dX11_keeps_66 rfl ?_
          refine g_iald (q := 68) (by assumption) (by first | (simp only [gn_lit, nI_add, pk_mul]; exact rfl) | exact rfl) (by omega) (by decide) dX11_keeps_67 rfl ?_
          refine g_iload_n (q := 69) dX11_keeps_68 rfl rfl ?_
          refine g_icmpne (t := 76) (q := 72) dX11_keeps_69 (by decide) rfl (fun hq69 => ?_) (fun hq69 => ?_)
          · rw [a5] at hq69
            refine g_iconst (q := 77) (x := 0) dX11_keeps_76 (by decide) rfl ?_
            refine g_istore (q := 79) dX11_keeps_77 rfl rfl rfl rfl ?_
            dsimp only [List.set]
            refine g_iload (q := 81) dX11_keeps_79 rfl rfl ?_
            refine g_ifeq (t := 109) (q := 84) dX11_keeps_81 (by decide) rfl (fun hq81 => ?_) (fun hq81 => ?_)
            · refine g_aload_n (q := 110) dX11_keeps_109 rfl rfl ?_
              refine g_getR (q := 113) f_X11_13 (by assumption) rfl dX11_keeps_110 rfl ?_
              refine g_iload_n (q := 114) dX11_keeps_113 rfl rfl ?_
              refine g_bipush (q := 116) (x := 8) dX11_keeps_114 (by decide) rfl ?_
              refine g_iadd (q := 117) dX11_keeps_116 rfl ?_
              refine g_aload_n (q := 118) dX11_keeps_117 rfl rfl ?_
              refine g_getR (q := 121) f_X11_13 (by assumption) rfl dX11_keeps_118 rfl ?_
              refine g_iload_n (q := 122) dX11_keeps_121 rfl rfl ?_
              refine g_bipush (q := 124) (x := 7) dX11_keeps_122 (by decide) rfl ?_
              refine g_iadd (q := 125) dX11_keeps_124 rfl ?_
              refine g_iald (q := 126) (by assumption) (by first | (simp only [gn_lit, nI_add, pk_mul]; exact rfl) | exact rfl) (by omega) (by decide) dX11_keeps_125 rfl ?_
              refine g_iadd (q := 127) dX11_keeps_126 rfl ?_
              refine g_iload_n (q := 128) dX11_keeps_127 rfl rfl ?_
              refine g_iast (q := 129) (by assumption) (show nI (10 + 24 * j) + 8 + vq2 (m + 2) (10 + 24 * j + 7) = nI (10 + 24 * j + 8 + (A.2 (10 + j)).length) by rw [a7]; simp only [gn_lit, nI_add, pk_mul]) (by omega) (by decide) dX11_keeps_128 rfl ?_
              refine g_gen (fun vq3 hvq3 => ?_)
              rw [gu_2] at hvq3
              have n3 := congrFun hvq3 (m + 2)
              rw [gu_s] at n3
              refine g_aload_n (q := 130) dX11_keeps_129 rfl rfl ?_
              refine g_getR (q := 133) f_X11_13 (by assumption) rfl dX11_keeps_130 rfl ?_
              refine g_iload_n (q := 134) dX11_keeps_133 rfl rfl ?_
              refine g_bipush (q := 136) (x := 7) dX11_keeps_134 (by decide) rfl ?_
              refine g_iadd (q := 137) dX11_keeps_136 rfl ?_
              refine g_dup2 (q := 138) dX11_keeps_137 rfl rfl rfl ?_
              refine g_iald (q := 139) (by assumption) (by first | (simp only [gn_lit, nI_add, pk_mul]; exact rfl) | exact rfl) (by omega) (by decide) dX11_keeps_138 rfl ?_
              refine g_iconst (q := 140) (x := 1) dX11_keeps_139 (by decide) rfl ?_
              refine g_iadd (q := 141) dX11_keeps_140 rfl ?_
              refine g_iast (q := 142) (by assumption) (by first | (simp only [gn_lit, nI_add, pk_mul]; exact rfl) | exact rfl) (by omega) (by decide) dX11_keeps_141 rfl ?_
              refine g_gen (fun vq4 hvq4 => ?_)
              rw [gu_2, n3, hvq3, gu_u] at hvq4
              have n4 := congrFun hvq4 (m + 2)
              rw [gu_s] at n4
              have hnk : b_kept (gB A j) (nI w0) := ⟨hq57, hq69⟩
              have q8 : vq4 (m + 2) (10 + 24 * j + 8 + (A.2 (10 + j)).length) = nI w0 := by
                rw [n4, ud_n _ _ (by omega), ud_s]
              have q7 : vq4 (m + 2) (10 + 24 * j + 7) = nI ((A.2 (10 + j)).length + 1) := by
                rw [n4, ud_s, ud_n _ _ (by omega), a7, nI_1]
              have qo : ∀ i, i ≠ 10 + 24 * j + 8 + (A.2 (10 + j)).length → i ≠ 10 + 24 * j + 7 → vq4 (m + 2) i = vq2 (m + 2) i := fun i g1 g2 => by rw [n4, ud_n _ _ g2, ud_n _ _ g1]
              have hc4 : mc vq2 vq4 m (sB (a_in A j) j ((a_in A j).1 j, A.1 (10 + j), A.2 j, A.2 (10 + j) ++ [nI w0])) t (sno A) := ⟨vq4 (m + 2), by rw [n4]; exact hvq4, hM2.buf j6 (fun i hi => qo i (by omega) (by omega)) (mb_kp2 hB hlen q8 q7 qo)⟩
              refine g_aload_n (q := 143) dX11_keeps_142 rfl rfl ?_
              refine g_iload_n (q := 144) dX11_keeps_143 rfl rfl ?_
              refine c_Vv (q := 147) (p_X11_leaves hs hc4.M (g := j) (by omega)) k_X11_82 (by assumption) rfl (by decide) rfl rfl (Nat.le_of_ble_eq_true rfl) rfl rfl dX11_keeps_144 rfl ?_
              rintro vq5 hc5
              rw [out_eq j6] at hc5
              have hc6 := (hc2.tr hc4).tr hc5
              have ek : (b_keep (gB A j) (nI w0)).2 = (ag_out (ag_in (A.1 j)), A.1 (10 + j), A.2 j, A.2 (10 + j) ++ [nI w0]) := by unfold b_keep; rw [if_pos hnk]; rfl
              rw [← ek] at hc6
              have hG6 := hG1.now hc6 ((sn_eq ivk).trans esn.symm)
              have E6 := E1.tr hc6.fm
              refine g_iload (q := 149) dX11_keeps_147 rfl rfl ?_
              refine g_ifeq (t := 164) (q := 152) dX11_keeps_149 (by decide) rfl (fun hq149 => ?_) (fun hq149 => ?_)
              · refine g_bipush (q := 166) (x := (-5)) dX11_keeps_164 (by decide) rfl ?_
                refine r_i dX11_keeps_166 rfl rfl rfl ?_
                rw [sp_keeps, if_pos hcd, ej, if_pos hq26]
                refine ⟨⟨?_, hG6⟩, E6⟩
                unfold b_keep
                rw [if_pos hnk]
              · exact absurd rfl hq149
            · exact absurd rfl hq81
          · rw [a5] at hq69
            refine g_iconst (q := 73) (x := 1) dX11_keeps_72 (by decide) rfl ?_
            refine g_goto (q := 77) dX11_keeps_73 (by decide) ?_
            refine g_istore (q := 79) dX11_keeps_77 rfl rfl rfl rfl ?_
            dsimp only [List.set]
            refine g_iload (q := 81) dX11_keeps_79 rfl rfl ?_
            refine g_ifeq (t := 109) (q := 84) dX11_keeps_81 (by decide) rfl (fun hq81 => ?_) (fun hq81 => ?_)
            · exact absurd hq81 (by decide)
            · refine g_aload_n (q := 85) dX11_keeps_84 rfl rfl ?_
              refine g_getR (q := 88) f_X11_13 (by assumption) rfl dX11_keeps_85 rfl ?_
              refine g_iload_n (q := 89) dX11_keeps_88 rfl rfl ?_
              refine g_iconst (q := 90) (x := 5) dX11_keeps_89 (by decide) rfl ?_
              refine g_iadd (q := 91) dX11_keeps_90 rfl ?_
              refine g_iload_n (q := 92) dX11_keeps_91 rfl rfl ?_
              refine g_iast (q := 93) (by assumption) (by first | (simp only [gn_lit, nI_add, pk_mul]; exact rfl) | exact rfl) (by omega) (by decide) dX11_keeps_92 rfl ?_
              refine g_gen (fun vq3 hvq3 => ?_)
              rw [gu_2] at hvq3
              have n3 := congrFun hvq3 (m + 2)
              rw [gu_s] at n3
              refine g_aload_n (q := 94) dX11_keeps_93 rfl rfl ?_
              refine g_getR (q := 97) f_X11_13 (by assumption) rfl dX11_keeps_94 rfl ?_
              refine g_iload_n (q := 98) dX11_keeps_97 rfl rfl ?_
              refine g_bipush (q := 100) (x := 6) dX11_keeps_98 (by decide) rfl ?_
              refine g_iadd (q := 101) dX11_keeps_100 rfl ?_
              refine g_dup2 (q := 102) dX11_keeps_101 rfl rfl rfl ?_
              refine g_iald (q := 103) (by assumption) (by first | (simp only [gn_lit, nI_add, pk_mul]; exact rfl) | exact rfl) (by omega) (by decide) dX11_keeps_102 rfl ?_
              refine g_iconst (q := 104) (x := 1) dX11_keeps_103 (by decide) rfl ?_
              refine g_iadd (q := 105) dX11_keeps_104 rfl ?_
              refine g_iast (q := 106) (by assumption) (by first | (simp only [gn_lit, nI_add, pk_mul]; exact rfl) | exact rfl) (by omega) (by decide) dX11_keeps_105 rfl ?_
              refine g_gen (fun vq4 hvq4 => ?_)
              rw [gu_2, n3, hvq3, gu_u] at hvq4
              have n4 := congrFun hvq4 (m + 2)
              rw [gu_s] at n4
              refine g_goto (q := 142) dX11_keeps_106 (by decide) ?_
              have hnk : ¬ b_kept (gB A j) (nI w0) := fun q => by first | exact q.1 hq57 | exact q.2 hq69
              have q5 : vq4 (m + 2) (10 + 24 * j + 5) = (upd (upd (A.1 (10 + j)) 7 (nI w0)) 8 (A.1 (10 + j) 8 + 1)) 7 := by
                rw [n4, ud_n _ _ (by omega), ud_s, ud_n _ _ (by decide), ud_s]
              have q6 : vq4 (m + 2) (10 + 24 * j + 6) = (upd (upd (A.1 (10 + j)) 7 (nI w0)) 8 (A.1 (10 + j) 8 + 1)) 8 := by
                rw [n4, ud_s, ud_n _ _ (by omega), ud_s, a6]
              have qo : ∀ i, i ≠ 10 + 24 * j + 5 → i ≠ 10 + 24 * j + 6 → vq4 (m + 2) i = vq2 (m + 2) i := fun i g1 g2 => by rw [n4, ud_n _ _ g2, ud_n _ _ g1]
              have hc4 : mc vq2 vq4 m (sB (a_in A j) j ((a_in A j).1 j, upd (upd (A.1 (10 + j)) 7 (nI w0)) 8 (A.1 (10 + j) 8 + 1), A.2 j, A.2 (10 + j))) t (sno A) := ⟨vq4 (m + 2), by rw [n4]; exact hvq4, hM2.buf j6 (fun i hi => qo i (by omega) (by omega)) (mb_kp1 hB (fun k g1 g2 => by rw [ud_n _ _ (by omega), ud_n _ _ (by omega)]) q5 q6 qo)⟩
              refine g_aload_n (q := 143) dX11_keeps_142 rfl rfl ?_
              refine g_iload_n (q := 144) dX11_keeps_143 rfl rfl ?_
              refine c_Vv (q := 147) (p_X11_leaves hs hc4.M (g := j) (by omega)) k_X11_82 (by assumption) rfl (by decide) rfl rfl (Nat.le_of_ble_eq_true rfl) rfl rfl dX11_keeps_144 rfl ?_
              rintro vq5 hc5
              rw [out_eq j6] at hc5
              have hc6 := (hc2.tr hc4).tr hc5
              have ek : (b_keep (gB A j) (nI w0)).2 = (ag_out (ag_in (A.1 j)), upd (upd (A.1 (10 + j)) 7 (nI w0)) 8 (A.1 (10 + j) 8 + 1), A.2 j, A.2 (10 + j)) := by unfold b_keep; rw [if_neg hnk]; rfl
              rw [← ek] at hc6
              have hG6 := hG1.now hc6 ((sn_eq ivk).trans esn.symm)
              have E6 := E1.tr hc6.fm
              have q8 := (hc6.M.2.1 j j6).2.2.2.2.2.2.1
              refine g_iload (q := 149) dX11_keeps_147 rfl rfl ?_
              refine g_ifeq (t := 164) (q := 152) dX11_keeps_149 (by decide) rfl (fun hq149 => ?_) (fun hq149 => ?_)
              · exact absurd hq149 (by decide)
              · refine g_aload_n (q := 153) dX11_keeps_152 rfl rfl ?_
                refine g_getR (q := 156) f_X11_13 (by assumption) rfl dX11_keeps_153 rfl ?_
                refine g_iload_n (q := 157) dX11_keeps_156 rfl rfl ?_
                refine g_bipush (q := 159) (x := 6) dX11_keeps_157 (by decide) rfl ?_
                refine g_iadd (q := 160) dX11_keeps_159 rfl ?_
                refine g_iald (q := 161) (by assumption) (by first | (simp only [gn_lit, nI_add, pk_mul]; exact rfl) | exact rfl) (by omega) (by decide) dX11_keeps_160 rfl ?_
                refine g_goto (q := 166) dX11_keeps_161 (by decide) ?_
                refine r_i dX11_keeps_166 rfl rfl rfl ?_
                rw [sp_keeps, if_pos hcd, ej, if_pos hq26]
                refine ⟨⟨?_, hG6⟩, E6⟩
                rw [q8]
                have eq1 : (sB A j (b_keep (gB A j) (nI w0)).2).1 (10 + j) = (b_keep (gB A j) (nI w0)).2.2.1 := congrArg (fun z => z.2.1) (gB_s A j _ j6)
                rw [eq1]
                unfold b_keep
                rw [if_neg hnk]
                show upd (upd (A.1 (10 + j)) 7 (nI w0)) 8 (A.1 (10 + j) 8 + 1) 8 = A.1 (10 + j) 8 + 1
                exact ud_s _ _ _
      · rw [hy1] at hq26
        refine g_aload_n (q := 30) dX11_keeps_29 rfl rfl ?_
        refine c_Vi (q := 33) (p_X11_no hs hG) k_X11_65 (by assumption) rfl (by decide) rfl rfl (Nat.le_of_ble_eq_true rfl) rfl rfl dX11_keeps_30 rfl ?_
        rintro z w1 ⟨hz1, hG1, E1⟩
        refine r_i dX11_keeps_33 rfl rfl rfl ?_
        rw [sp_keeps, if_pos ⟨hq4, hq12⟩, if_neg hq26]
        exact ⟨⟨hz1, hG1⟩, E1⟩
    · have hq12 := gn_b0 hq12
      refine g_aload_n (q := 16) dX11_keeps_15 rfl rfl ?_
      refine c_Vi (q := 19) (p_X11_bad hs hG) k_X11_130 (by assumption) rfl (by decide) rfl rfl (Nat.le_of_ble_eq_true rfl) rfl rfl dX11_keeps_16 rfl ?_
      rintro z w1 ⟨hz1, hG1, E1⟩
      refine r_i dX11_keeps_19 rfl rfl rfl ?_
      rw [sp_keeps, if_neg (by intro h; first | exact hq4 h.1 | exact hq12 h.2)]
      exact ⟨⟨hz1, hG1⟩, E1⟩

theorem ix_0 {l : List Int32} (h : 0 < l.length) : l.idxOf (l.getD 0 0) = 0 := by
  rcases l with _ | ⟨a, l⟩
  · exact absurd h (by simp)
  · simp
theorem sL_sB (A : aS) (b : Nat) (g f : Nat → Int32) (li lq lq' : List Int32) (hb : b < 6) : sL (sB A b (g, f, li, lq)) (10 + b) lq' = sB A b (g, f, li, lq') := by
  refine Prod.ext rfl (funext fun i => ?_)
  simp only [sL, sB]
  by_cases e : i = 10 + b
  · subst e; rw [vu_s, vu_s]
  · rw [vu_n _ _ e, vu_n _ _ e, vu_n _ _ e]

set_option maxRecDepth 100000 in
set_option maxHeartbeats 4000000 in
theorem p_X11_lets {X : gj_X} {lim : Nat} {σ : gj_H} {v : gj_V} {m : Nat} {A : aS} {t : Int32} {l : List (aS × Int32)} {tx : List Int32} {c : Nat → Int32} {n sn : Nat} (hs : msh σ m) (hG : MG v m A t l tx c) (hI : IV A n sn) {w b : Int32} : gj_E X 6 m_X11_lets [.ref m, .int w, .int b] lim σ v (q_i lim σ (fun z v' => sp_lets A t l tx c w b z (MG v' m) ∧ fm v v' m)) := by
  obtain ⟨so, s1, s2, s3, s4, s5, s6, s7, s8, s9, s10, s11, s12⟩ := id hs
  have hn6 := hI.2.1.2.2.2.1
  have hn1 := hI.2.1.2.2.1
  have hsn6 := hI.2.1.2.2.2.2.1
  have esn : sno A = sn := sn_eq hI
  have hM0 := hG.1
  refine gj_E_at (L := [some (.ref m), some (.int w), some (.int b), none, none, none]) (k := 3) rfl (by decide) rfl ?_
  refine g_iload_n (q := 1) dX11_lets_0 rfl rfl ?_
  refine c_Si (q := 4) p_X11_isWorker k_X11_162 (by decide) rfl rfl (Nat.le_of_ble_eq_true rfl) rfl rfl dX11_lets_1 rfl ?_
  rintro z w1 ⟨rfl, hw1⟩
  subst w1
  refine g_ifeq (t := 15) (q := 7) dX11_lets_4 (by decide) rfl (fun hq4 => ?_) (fun hq4 => ?_)
  · have hq4 := gn_b0 hq4
    refine g_aload_n (q := 16) dX11_lets_15 rfl rfl ?_
    refine c_Vi (q := 19) (p_X11_bad hs hG) k_X11_130 (by assumption) rfl (by decide) rfl rfl (Nat.le_of_ble_eq_true rfl) rfl rfl dX11_lets_16 rfl ?_
    rintro z w1 ⟨hz1, hG1, E1⟩
    refine r_i dX11_lets_19 rfl rfl rfl ?_
    rw [sp_lets, if_neg (by intro h; first | exact hq4 h.1 | exact hq12 h.2)]
    exact ⟨⟨hz1, hG1⟩, E1⟩
  · have hq4 := gn_b1 hq4
    refine g_aload_n (q := 8) dX11_lets_7 rfl rfl ?_
    refine g_iload_n (q := 9) dX11_lets_8 rfl rfl ?_
    refine c_Vi (q := 12) (p_X11_isBuffer hs hG.1 hI.2.1.1 hn6) k_X11_136 (by assumption) rfl (by decide) rfl rfl (Nat.le_of_ble_eq_true rfl) rfl rfl dX11_lets_9 rfl ?_
    rintro z w1 ⟨rfl, hw1⟩
    subst w1
    refine g_ifne (t := 20) (q := 15) dX11_lets_12 (by decide) rfl (fun hq12 => ?_) (fun hq12 => ?_)
    · have hq12 := gn_b1 hq12
      have hcd := And.intro hq4 hq12
      obtain ⟨j, hj, rfl⟩ := a_has_of hI.2.1.1 (by omega) hq12
      have ej : iN (nI j) = j := iN_n (by omega)
      have j6 : j < 6 := by omega
      have b5 := (hM0.2.1 j j6).2.2.2.2.2.1
      refine g_iload_n (q := 21) dX11_lets_20 rfl rfl ?_
      refine c_Si (q := 24) (p_X11_atBuffer (b := j)) k_X11_54 (by decide) rfl rfl (Nat.le_of_ble_eq_true rfl) rfl rfl dX11_lets_21 rfl ?_
      rintro z0 w1 ⟨hz0, hw1⟩
      subst w1
      subst z0
      refine g_istore_n (q := 25) dX11_lets_24 rfl rfl rfl rfl ?_
      dsimp only [List.set]
      refine g_aload_n (q := 26) dX11_lets_25 rfl rfl ?_
      refine g_getR (q := 29) f_X11_13 (by assumption) rfl dX11_lets_26 rfl ?_
      refine g_iload_n (q := 30) dX11_lets_29 rfl rfl ?_
      refine g_iconst (q := 31) (x := 5) dX11_lets_30 (by decide) rfl ?_
      refine g_iadd (q := 32) dX11_lets_31 rfl ?_
      refine g_iald (q := 33) (by assumption) (by first | (simp only [gn_lit, nI_add, pk_mul]; exact rfl) | exact rfl) (by omega) (by decide) dX11_lets_32 rfl ?_
      refine g_iload_n (q := 34) dX11_lets_33 rfl rfl ?_
      refine g_icmpeq (t := 42) (q := 37) dX11_lets_34 (by decide) rfl (fun hq34 => ?_) (fun hq34 => ?_)
      · rw [b5] at hq34
        have ivl := iv_let hI hj
        refine g_aload_n (q := 43) dX11_lets_42 rfl rfl ?_
        refine c_Vv (q := 46) (p_X11_leavesState hs hG) k_X11_133 (by assumption) rfl (by decide) rfl rfl (Nat.le_of_ble_eq_true rfl) rfl rfl dX11_lets_43 rfl ?_
        rintro vq1 ⟨⟨hG1, n1⟩, E1⟩
        have hM1 := hG1.1
        refine g_aload_n (q := 47) dX11_lets_46 rfl rfl ?_
        refine g_iload_n (q := 48) dX11_lets_47 rfl rfl ?_
        refine c_Vv (q := 51) (p_X11_enters hs hM1 (g := j) (by omega)) k_X11_72 (by assumption) rfl (by decide) rfl rfl (Nat.le_of_ble_eq_true rfl) rfl rfl dX11_lets_48 rfl ?_
        rintro vq2 hc2
        have hB : mb (vq2 (m + 2)) j (A.1 (10 + j)) (A.2 j) (A.2 (10 + j)) := by
          have q := hc2.M.2.1 j j6
          rw [in_10] at q
          exact q
        obtain ⟨a0, a1, a2, a3, a4, a5, a6, a7, a8, a9, a10, a11⟩ := id hB
        have hM2 := hc2.M
        refine g_aload_n (q := 52) dX11_lets_51 rfl rfl ?_
        refine g_getR (q := 55) f_X11_13 (by assumption) rfl dX11_lets_52 rfl ?_
        refine g_iload_n (q := 56) dX11_lets_55 rfl rfl ?_
        refine g_bipush (q := 58) (x := 6) dX11_lets_56 (by decide) rfl ?_
        refine g_iadd (q := 59) dX11_lets_58 rfl ?_
        refine g_dup2 (q := 60) dX11_lets_59 rfl rfl rfl ?_
        refine g_iald (q := 61) (by assumption) (by first | (simp only [gn_lit, nI_add, pk_mul]; exact rfl) | exact rfl) (by omega) (by decide) dX11_lets_60 rfl ?_
        refine g_iconst (q := 62) (x := 1) dX11_lets_61 (by decide) rfl ?_
        refine g_isub (q := 63) dX11_lets_62 rfl ?_
        refine g_iast (q := 64) (by assumption) (by first | (simp only [gn_lit, nI_add, pk_mul]; exact rfl) | exact rfl) (by omega) (by decide) dX11_lets_63 rfl ?_
        refine g_gen (fun vq3 hvq3 => ?_)
        rw [gu_2, a6] at hvq3
        have n3 := congrFun hvq3 (m + 2)
        rw [gu_s] at n3
        have c7 : vq3 (m + 2) (10 + 24 * j + 7) = nI (A.2 (10 + j)).length := by rw [n3, ud_n _ _ (by omega)]; exact a7
        refine g_aload_n (q := 65) dX11_lets_64 rfl rfl ?_
        refine g_getR (q := 68) f_X11_13 (by assumption) rfl dX11_lets_65 rfl ?_
        refine g_iload_n (q := 69) dX11_lets_68 rfl rfl ?_
        refine g_bipush (q := 71) (x := 6) dX11_lets_69 (by decide) rfl ?_
        refine g_iadd (q := 72) dX11_lets_71 rfl ?_
        refine g_iald (q := 73) (by assumption) (by first | (simp only [gn_lit, nI_add, pk_mul]; exact rfl) | exact rfl) (by omega) (by decide) dX11_lets_72 rfl ?_
        rw [n3, ud_s]
        refine g_istore (q := 75) dX11_lets_73 rfl rfl rfl rfl ?_
        dsimp only [List.set]
        refine g_iload (q := 77) dX11_lets_75 rfl rfl ?_
        refine g_ifne (t := 140) (q := 80) dX11_lets_77 (by decide) rfl (fun hq77 => ?_) (fun hq77 => ?_)
        · have hc4 : mc vq2 vq3 m (sB (a_in A j) j ((a_in A j).1 j, upd (A.1 (10 + j)) 8 (A.1 (10 + j) 8 - 1), A.2 j, A.2 (10 + j))) t (sno A) := ⟨_, hvq3, hM2.buf j6 (fun i hi => ud_n _ _ (by omega)) (mb_kp1 hB (fun k g1 g2 => ud_n _ _ (by omega)) (by rw [ud_n _ _ (by omega), ud_n _ _ (by decide)]; exact a5) (by rw [ud_s, ud_s]) (fun i g1 g2 => ud_n _ _ g2))⟩
          refine g_aload_n (q := 141) dX11_lets_140 rfl rfl ?_
          refine g_iload_n (q := 142) dX11_lets_141 rfl rfl ?_
          refine c_Vv (q := 145) (p_X11_leaves hs hc4.M (g := j) (by omega)) k_X11_82 (by assumption) rfl (by decide) rfl rfl (Nat.le_of_ble_eq_true rfl) rfl rfl dX11_lets_142 rfl ?_
          rintro vq7 hc7
          rw [out_eq j6] at hc7
          have hc8 := (hc2.tr hc4).tr hc7
          have ek : (b_let (gB A j)) = (A.1 (10 + j) 8 - 1, (ag_out (ag_in (A.1 j)), upd (A.1 (10 + j)) 8 (A.1 (10 + j) 8 - 1), A.2 j, A.2 (10 + j))) := by unfold b_let; rw [if_neg (show ¬ (gB A j).2.1 8 - 1 = 0 from hq77)]; rfl
          have ek2 := congrArg Prod.snd ek
          dsimp only at ek2
          rw [← ek2] at hc8
          have hG8 := hG1.now hc8 ((sn_eq ivl).trans esn.symm)
          have E8 := E1.tr hc8.fm
          refine g_aload_n (q := 146) dX11_lets_145 rfl rfl ?_
          refine c_Vv (q := 149) (p_X11_serves hs hG8.1 ivl.1 hn6 ivl.2.2.1) k_X11_127 (by assumption) rfl (by decide) rfl rfl (Nat.le_of_ble_eq_true rfl) rfl rfl dX11_lets_146 rfl ?_
          rintro vq9 hc9
          have hG9 := hG8.now hc9 ((sn_eq (IV_srv ivl)).trans (sn_eq ivl).symm)
          have E9 := E8.tr hc9.fm
          refine g_iload (q := 151) dX11_lets_149 rfl rfl ?_
          refine r_i dX11_lets_151 rfl rfl rfl ?_
          rw [sp_lets, if_pos hcd, ej, if_pos hq34]
          refine ⟨⟨?_, hG9⟩, E9⟩
          rw [ek]
        · refine g_aload_n (q := 81) dX11_lets_80 rfl rfl ?_
          refine g_getR (q := 84) f_X11_13 (by assumption) rfl dX11_lets_81 rfl ?_
          refine g_iload_n (q := 85) dX11_lets_84 rfl rfl ?_
          refine g_bipush (q := 87) (x := 7) dX11_lets_85 (by decide) rfl ?_
          refine g_iadd (q := 88) dX11_lets_87 rfl ?_
          refine g_iald (q := 89) (by assumption) (by first | (simp only [gn_lit, nI_add, pk_mul]; exact rfl) | exact rfl) (by omega) (by decide) dX11_lets_88 rfl ?_
          refine g_ifle (t := 104) (q := 92) dX11_lets_89 (by decide) rfl (fun hq89 => ?_) (fun hq89 => ?_)
          · rw [c7] at hq89
            have hq0 : A.2 (10 + j) = [] := List.length_eq_zero_iff.mp (gn_le0 (by omega) hq89)
            refine g_iconst (q := 105) (x := (-1)) dX11_lets_104 (by decide) rfl ?_
            refine g_istore (q := 107) dX11_lets_105 rfl rfl rfl rfl ?_
            dsimp only [List.set]
            refine g_aload_n (q := 108) dX11_lets_107 rfl rfl ?_
            refine g_getR (q := 111) f_X11_13 (by assumption) rfl dX11_lets_108 rfl ?_
            refine g_iload_n (q := 112) dX11_lets_111 rfl rfl ?_
            refine g_iconst (q := 113) (x := 5) dX11_lets_112 (by decide) rfl ?_
            refine g_iadd (q := 114) dX11_lets_113 rfl ?_
            refine g_iload (q := 116) dX11_lets_114 rfl rfl ?_
            refine g_iast (q := 117) (by assumption) (by first | (simp only [gn_lit, nI_add, pk_mul]; exact rfl) | exact rfl) (by omega) (by decide) dX11_lets_116 rfl ?_
            refine g_gen (fun vq4 hvq4 => ?_)
            rw [gu_2, n3, hvq3, gu_u] at hvq4
            have n4 := congrFun hvq4 (m + 2)
            rw [gu_s] at n4
            refine g_iload (q := 119) dX11_lets_117 rfl rfl ?_
            refine g_iconst (q := 120) (x := (-1)) dX11_lets_119 (by decide) rfl ?_
            refine g_icmpeq (t := 140) (q := 123) dX11_lets_120 (by decide) rfl (fun hq120 => ?_) (fun hq120 => ?_)
            · have hc4 : mc vq2 vq4 m (sB (a_in A j) j ((a_in A j).1 j, upd (upd (upd (A.1 (10 + j)) 8 (A.1 (10 + j) 8 - 1)) 7 (-1)) 8 0, A.2 j, [])) t (sno A) := by
                refine ⟨vq4 (m + 2), by rw [n4]; exact hvq4, hM2.buf j6 (fun i hi => by rw [n4, ud_n _ _ (by omega), ud_n _ _ (by omega)]) ?_⟩
                rw [hq0] at hB
                exact mb_kp1 hB (fun k g1 g2 => by rw [ud_n _ _ (by omega), ud_n _ _ (by omega), ud_n _ _ (by omega)]) (by rw [n4, ud_s, ud_n _ _ (by decide), ud_s]) (by rw [n4, ud_n _ _ (by omega), ud_s, ud_s]; exact hq77) (fun i g1 g2 => by rw [n4, ud_n _ _ g1, ud_n _ _ g2])
              refine g_aload_n (q := 141) dX11_lets_140 rfl rfl ?_
              refine g_iload_n (q := 142) dX11_lets_141 rfl rfl ?_
              refine c_Vv (q := 145) (p_X11_leaves hs hc4.M (g := j) (by omega)) k_X11_82 (by assumption) rfl (by decide) rfl rfl (Nat.le_of_ble_eq_true rfl) rfl rfl dX11_lets_142 rfl ?_
              rintro vq7 hc7
              rw [out_eq j6] at hc7
              have hc8 := (hc2.tr hc4).tr hc7
              have ek : (b_let (gB A j)) = (A.1 (10 + j) 8 - 1, (ag_out (ag_in (A.1 j)), upd (upd (upd (A.1 (10 + j)) 8 (A.1 (10 + j) 8 - 1)) 7 (-1)) 8 0, A.2 j, [])) := by unfold b_let; rw [if_pos (show (gB A j).2.1 8 - 1 = 0 from hq77), if_pos (show (gB A j).2.2.2 = [] from hq0)]; rfl
              have ek2 := congrArg Prod.snd ek
              dsimp only at ek2
              rw [← ek2] at hc8
              have hG8 := hG1.now hc8 ((sn_eq ivl).trans esn.symm)
              have E8 := E1.tr hc8.fm
              refine g_aload_n (q := 146) dX11_lets_145 rfl rfl ?_
              refine c_Vv (q := 149) (p_X11_serves hs hG8.1 ivl.1 hn6 ivl.2.2.1) k_X11_127 (by assumption) rfl (by decide) rfl rfl (Nat.le_of_ble_eq_true rfl) rfl rfl dX11_lets_146 rfl ?_
              rintro vq9 hc9
              have hG9 := hG8.now hc9 ((sn_eq (IV_srv ivl)).trans (sn_eq ivl).symm)
              have E9 := E8.tr hc9.fm
              refine g_iload (q := 151) dX11_lets_149 rfl rfl ?_
              refine r_i dX11_lets_151 rfl rfl rfl ?_
              rw [sp_lets, if_pos hcd, ej, if_pos hq34]
              refine ⟨⟨?_, hG9⟩, E9⟩
              rw [ek]
            · exact absurd rfl hq120
          · rw [c7] at hq89
            have hql := gn_0lt hq89
            have hq1 : ¬ (A.2 (10 + j)).getD 0 0 = -1 := by
              obtain ⟨z, hz, ez⟩ := (hI.2.2.2.1 j j6).1 _ (ge_mem hql)
              rw [ez]
              exact gn_m1 (by omega)
            refine g_aload_n (q := 93) dX11_lets_92 rfl rfl ?_
            refine g_getR (q := 96) f_X11_13 (by assumption) rfl dX11_lets_93 rfl ?_
            refine g_iload_n (q := 97) dX11_lets_96 rfl rfl ?_
            refine g_bipush (q := 99) (x := 8) dX11_lets_97 (by decide) rfl ?_
            refine g_iadd (q := 100) dX11_lets_99 rfl ?_
            refine g_iald (q := 101) (by assumption) (by first | (simp only [gn_lit, nI_add, pk_mul]; exact rfl) | exact rfl) (by omega) (by decide) dX11_lets_100 rfl ?_
            rw [n3, ud_n _ _ (by omega), show vq2 (m + 2) (10 + 24 * j + 8) = (A.2 (10 + j)).getD 0 0 from a8 0 hql]
            refine g_goto (q := 105) dX11_lets_101 (by decide) ?_
            refine g_istore (q := 107) dX11_lets_105 rfl rfl rfl rfl ?_
            dsimp only [List.set]
            refine g_aload_n (q := 108) dX11_lets_107 rfl rfl ?_
            refine g_getR (q := 111) f_X11_13 (by assumption) rfl dX11_lets_108 rfl ?_
            refine g_iload_n (q := 112) dX11_lets_111 rfl rfl ?_
            refine g_iconst (q := 113) (x := 5) dX11_lets_112 (by decide) rfl ?_
            refine g_iadd (q := 114) dX11_lets_113 rfl ?_
            refine g_iload (q := 116) dX11_lets_114 rfl rfl ?_
            refine g_iast (q := 117) (by assumption) (by first | (simp only [gn_lit, nI_add, pk_mul]; exact rfl) | exact rfl) (by omega) (by decide) dX11_lets_116 rfl ?_
            refine g_gen (fun vq4 hvq4 => ?_)
            rw [gu_2, n3, hvq3, gu_u] at hvq4
            have n4 := congrFun hvq4 (m + 2)
            rw [gu_s] at n4
            refine g_iload (q := 119) dX11_lets_117 rfl rfl ?_
            refine g_iconst (q := 120) (x := (-1)) dX11_lets_119 (by decide) rfl ?_
            refine g_icmpeq (t := 140) (q := 123) dX11_lets_120 (by decide) rfl (fun hq120 => ?_) (fun hq120 => ?_)
            · exact absurd hq120 hq1
            · refine g_aload_n (q := 124) dX11_lets_123 rfl rfl ?_
              refine g_getR (q := 127) f_X11_13 (by assumption) rfl dX11_lets_124 rfl ?_
              refine g_iload_n (q := 128) dX11_lets_127 rfl rfl ?_
              refine g_bipush (q := 130) (x := 6) dX11_lets_128 (by decide) rfl ?_
              refine g_iadd (q := 131) dX11_lets_130 rfl ?_
              refine g_iconst (q := 132) (x := 1) dX11_lets_131 (by decide) rfl ?_
              refine g_iast (q := 133) (by assumption) (by first | (simp only [gn_lit, nI_add, pk_mul]; exact rfl) | exact rfl) (by omega) (by decide) dX11_lets_132 rfl ?_
              refine g_gen (fun vq5 hvq5 => ?_)
              rw [gu_2, n4, hvq4, gu_u] at hvq5
              have n5 := congrFun hvq5 (m + 2)
              rw [gu_s] at n5
              have hc4a : mc vq2 vq5 m (sB (a_in A j) j ((a_in A j).1 j, upd (upd (upd (A.1 (10 + j)) 8 (A.1 (10 + j) 8 - 1)) 7 ((A.2 (10 + j)).getD 0 0)) 8 (if (A.2 (10 + j)).getD 0 0 = -1 then 0 else 1), A.2 j, A.2 (10 + j))) t (sno A) := by
                refine ⟨vq5 (m + 2), by rw [n5]; exact hvq5, hM2.buf j6 (fun i hi => by rw [n5, ud_n _ _ (by omega), ud_n _ _ (by omega), ud_n _ _ (by omega)]) ?_⟩
                exact mb_kp1 hB (fun k g1 g2 => by rw [ud_n _ _ (by omega), ud_n _ _ (by omega), ud_n _ _ (by omega)]) (by rw [n5, ud_n _ _ (by omega), ud_s, ud_n _ _ (by decide), ud_s]) (by rw [n5, ud_s, ud_s, if_neg hq1]) (fun i g1 g2 => by rw [n5, ud_n _ _ g2, ud_n _ _ g1, ud_n _ _ g2])
              have eq2 : (sB (a_in A j) j ((a_in A j).1 j, upd (upd (upd (A.1 (10 + j)) 8 (A.1 (10 + j) 8 - 1)) 7 ((A.2 (10 + j)).getD 0 0)) 8 (if (A.2 (10 + j)).getD 0 0 = -1 then 0 else 1), A.2 j, A.2 (10 + j))).2 (10 + j) = A.2 (10 + j) := congrArg (fun z => z.2.2.2) (gB_s (a_in A j) j _ j6)
              refine g_aload_n (q := 134) dX11_lets_133 rfl rfl ?_
              refine g_iload_n (q := 135) dX11_lets_134 rfl rfl ?_
              refine g_iload (q := 137) dX11_lets_135 rfl rfl ?_
              refine c_Vv (q := 140) (p_X11_goesFromQueue hs hc4a.M j6 (w := (A.2 (10 + j)).getD 0 0) (by rw [eq2]; exact ge_mem hql)) k_X11_168 (by assumption) rfl (by decide) rfl rfl (Nat.le_of_ble_eq_true rfl) rfl rfl dX11_lets_137 rfl ?_
              rintro vq6 hc6
              have hc4 := hc4a.tr hc6
              have ez : z_quit (sB (a_in A j) j ((a_in A j).1 j, upd (upd (upd (A.1 (10 + j)) 8 (A.1 (10 + j) 8 - 1)) 7 ((A.2 (10 + j)).getD 0 0)) 8 (if (A.2 (10 + j)).getD 0 0 = -1 then 0 else 1), A.2 j, A.2 (10 + j))) ((A.2 (10 + j)).getD 0 0) j = sB (a_in A j) j ((a_in A j).1 j, upd (upd (upd (A.1 (10 + j)) 8 (A.1 (10 + j) 8 - 1)) 7 ((A.2 (10 + j)).getD 0 0)) 8 (if (A.2 (10 + j)).getD 0 0 = -1 then 0 else 1), A.2 j, (A.2 (10 + j)).eraseIdx 0) := by
                unfold z_quit
                rw [eq2, ix_0 hql]
                exact sL_sB _ _ _ _ _ _ _ j6
              rw [ez] at hc4
              refine g_aload_n (q := 141) dX11_lets_140 rfl rfl ?_
              refine g_iload_n (q := 142) dX11_lets_141 rfl rfl ?_
              refine c_Vv (q := 145) (p_X11_leaves hs hc4.M (g := j) (by omega)) k_X11_82 (by assumption) rfl (by decide) rfl rfl (Nat.le_of_ble_eq_true rfl) rfl rfl dX11_lets_142 rfl ?_
              rintro vq7 hc7
              rw [out_eq j6] at hc7
              have hc8 := (hc2.tr hc4).tr hc7
              have ek : (b_let (gB A j)) = (A.1 (10 + j) 8 - 1, (ag_out (ag_in (A.1 j)), upd (upd (upd (A.1 (10 + j)) 8 (A.1 (10 + j) 8 - 1)) 7 ((A.2 (10 + j)).getD 0 0)) 8 (if (A.2 (10 + j)).getD 0 0 = -1 then 0 else 1), A.2 j, (A.2 (10 + j)).eraseIdx 0)) := by unfold b_let; rw [if_pos (show (gB A j).2.1 8 - 1 = 0 from hq77), if_neg (show ¬ (gB A j).2.2.2 = [] from fun z => by rw [show A.2 (10 + j) = [] from z] at hql; exact absurd hql (by simp))]; rfl
              have ek2 := congrArg Prod.snd ek
              dsimp only at ek2
              rw [← ek2] at hc8
              have hG8 := hG1.now hc8 ((sn_eq ivl).trans esn.symm)
              have E8 := E1.tr hc8.fm
              refine g_aload_n (q := 146) dX11_lets_145 rfl rfl ?_
              refine c_Vv (q := 149) (p_X11_serves hs hG8.1 ivl.1 hn6 ivl.2.2.1) k_X11_127 (by assumption) rfl (by decide) rfl rfl (Nat.le_of_ble_eq_true rfl) rfl rfl dX11_lets_146 rfl ?_
              rintro vq9 hc9
              have hG9 := hG8.now hc9 ((sn_eq (IV_srv ivl)).trans (sn_eq ivl).symm)
              have E9 := E8.tr hc9.fm
              refine g_iload (q := 151) dX11_lets_149 rfl rfl ?_
              refine r_i dX11_lets_151 rfl rfl rfl ?_
              rw [sp_lets, if_pos hcd, ej, if_pos hq34]
              refine ⟨⟨?_, hG9⟩, E9⟩
              rw [ek]
      · rw [b5] at hq34
        refine g_aload_n (q := 38) dX11_lets_37 rfl rfl ?_
        refine c_Vi (q := 41) (p_X11_no hs hG) k_X11_65 (by assumption) rfl (by decide) rfl rfl (Nat.le_of_ble_eq_true rfl) rfl rfl dX11_lets_38 rfl ?_
        rintro z w1 ⟨hz1, hG1, E1⟩
        refine r_i dX11_lets_41 rfl rfl rfl ?_
        rw [sp_lets, if_pos hcd, ej, if_neg hq34]
        exact ⟨⟨hz1, hG1⟩, E1⟩
    · have hq12 := gn_b0 hq12
      refine g_aload_n (q := 16) dX11_lets_15 rfl rfl ?_
      refine c_Vi (q := 19) (p_X11_bad hs hG) k_X11_130 (by assumption) rfl (by decide) rfl rfl (Nat.le_of_ble_eq_true rfl) rfl rfl dX11_lets_16 rfl ?_
      rintro z w1 ⟨hz1, hG1, E1⟩
      refine r_i dX11_lets_19 rfl rfl rfl ?_
      rw [sp_lets, if_neg (by intro h; first | exact hq4 h.1 | exact hq12 h.2)]
      exact ⟨⟨hz1, hG1⟩, E1⟩
