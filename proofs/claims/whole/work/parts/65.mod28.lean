theorem ar_o1 {k : Nat} {o : tok} {ts : List tok} {A : aS} {d c : Int32} {s : stk} (h : o.1 = 40) : a_run (k + 1) (o :: ts) A d c s = a_run k ts (a_in A 6) d c ((A.2, d) :: s) := by rcases s with _ | ⟨p, s⟩ <;> (rw [a_run]; exact if_pos h)
theorem ar_c1 {k : Nat} {o : tok} {ts : List tok} {A : aS} {d c : Int32} {s : stk} (h : o.1 = 41) : a_run (k + 1) (o :: ts) A d c s = a_run k ts (a_out A 6) d c s.tail := by rcases s with _ | ⟨p, s⟩ <;> (rw [a_run, if_neg (by rw [h]; decide)]; exact if_pos h)

set_option maxRecDepth 100000 in
set_option maxHeartbeats 4000000 in
theorem doesAll_loop {X : gj_X} {lim : Nat} {σ : gj_H} {v : gj_V} {vb : gj_V} {m n sn : Nat} {t : Int32} {ts : List tok} (hs : msh σ m) (hO : ORD vb m ts) (hA : MAT vb m ts) : ∀ (K i : Nat) (A : aS) (d c : Int32) (s : stk) (k : Nat) (w : gj_V), (ts.drop i).length ≤ K → DA vb w m sn ts A t s i → i ≤ ts.length → bal (s.length - 1) (ts.drop i) → 1 ≤ s.length → s.length ≤ 5 → IV A n sn → ivL s → (ts.drop i).length < k → gj_G X 5 m_X11_doesAll (q_i lim σ (fun z v' => z = (a_run k (ts.drop i) A d c s).1 ∧ MR (v' (m + 2)) (a_run k (ts.drop i) A d c s).2 t sn ∧ ∀ a, a ≠ m + 2 → a ≠ m + 4 → a ≠ m + 11 → a ≠ m + 12 → v' a = vb a)) lim σ w 0 0 27 [some (.ref m), some (.int (nI (s.length - 1))), some (.int d), some (.int c), some (.int (nI i))] [] := by
  obtain ⟨so, s1, s2, s3, s4, s5, s6, s7, s8, s9, s10, s11, s12⟩ := id hs
  intro K
  induction K with
  | zero =>
    intro i A d c s k w hK hD hi hbal hs1 hs5 hI hL hk
    have eq0 : (ts.drop i).length = 0 := by omega
    have er : ts.drop i = [] := List.length_eq_zero_iff.mp eq0
    simp at eq0
    have w9 : w m 9 = nI ts.length := by rw [hD.2.1 m (by omega) (by omega) (by omega) (by omega)]; exact hO.1
    rw [er] at hk ⊢
    obtain ⟨k, rfl⟩ : ∃ k0, k = k0 + 1 := ⟨k - 1, by omega⟩
    refine g_iload (q := 29) dX11_doesAll_27 rfl rfl ?_
    refine g_aload_n (q := 30) dX11_doesAll_29 rfl rfl ?_
    refine g_getI (q := 33) f_X11_202 (by assumption) rfl dX11_doesAll_30 rfl ?_
    rw [w9]
    refine g_icmpge (t := 183) (q := 36) dX11_doesAll_33 (by decide) rfl (fun hq33 => ?_) (fun hq33 => ?_)
    · refine g_aload_n (q := 184) dX11_doesAll_183 rfl rfl ?_
      refine g_bipush (q := 186) (x := 6) dX11_doesAll_184 (by decide) rfl ?_
      refine c_Vv (q := 189) (p_X11_leaves hs hD.1 (g := 6) (by omega)) k_X11_82 (by assumption) rfl (by decide) rfl rfl (Nat.le_of_ble_eq_true rfl) rfl rfl dX11_doesAll_186 rfl ?_
      rintro vq1 hc1
      refine g_iload_n (q := 190) dX11_doesAll_189 rfl rfl ?_
      refine r_i dX11_doesAll_190 rfl rfl rfl ?_
      exact ⟨rfl, hc1.M, fun a g1 g2 g3 g4 => (hc1.o a g1).trans (hD.2.1 a g1 g2 g3 g4)⟩
    · exact absurd (by rw [show i = ts.length by omega]; exact Int32.le_refl _) hq33
  | succ K ih =>
    intro i A d c s k w hK hD hi hbal hs1 hs5 hI hL hk
    rcases hti : ts[i]? with _ | o
    · have hge : ts.length ≤ i := List.getElem?_eq_none_iff.mp hti
      exact ih i A d c s k w (by simp; omega) hD hi hbal hs1 hs5 hI hL hk
    have ht := hti
    obtain ⟨er, hlt⟩ := bal_at hbal ht
    have hO2 := hO.2.1
    have w9 : w m 9 = nI ts.length := by rw [hD.2.1 m (by omega) (by omega) (by omega) (by omega)]; exact hO.1
    obtain ⟨u6, u7, u8, u9⟩ := hO.2.2 i o ht
    have w6 : w (m + 6) i = o.1 := by rw [hD.2.1 (m + 6) (by omega) (by omega) (by omega) (by omega)]; exact u6
    have w7 : w (m + 7) i = o.2.1 := by rw [hD.2.1 (m + 7) (by omega) (by omega) (by omega) (by omega)]; exact u7
    have w8 : w (m + 8) i = o.2.2.1 := by rw [hD.2.1 (m + 8) (by omega) (by omega) (by omega) (by omega)]; exact u8
    have w9o : w (m + 9) i = o.2.2.2 := by rw [hD.2.1 (m + 9) (by omega) (by omega) (by omega) (by omega)]; exact u9
    obtain ⟨k, rfl⟩ : ∃ k0, k = k0 + 1 := ⟨k - 1, by omega⟩
    rw [er] at hbal ⊢
    unfold bal at hbal
    by_cases n40 : o.1 = 40
    · have ho := n40
      rw [if_pos n40] at hbal
      refine g_iload (q := 29) dX11_doesAll_27 rfl rfl ?_
      refine g_aload_n (q := 30) dX11_doesAll_29 rfl rfl ?_
      refine g_getI (q := 33) f_X11_202 (by assumption) rfl dX11_doesAll_30 rfl ?_
      rw [w9]
      refine g_icmpge (t := 183) (q := 36) dX11_doesAll_33 (by decide) rfl (fun hq33 => ?_) (fun hq33 => ?_)
      · exact absurd (gn_le hq33 (by omega)) (by omega)
      · refine g_aload_n (q := 37) dX11_doesAll_36 rfl rfl ?_
        refine g_getR (q := 40) f_X11_25 (by assumption) rfl dX11_doesAll_37 rfl ?_
        refine g_iload (q := 42) dX11_doesAll_40 rfl rfl ?_
        refine g_iald (q := 43) (by assumption) rfl (by omega) (by decide) dX11_doesAll_42 rfl ?_
        rw [w6]
        refine g_bipush (q := 45) (x := 40) dX11_doesAll_43 (by decide) rfl ?_
        refine g_icmpne (t := 83) (q := 48) dX11_doesAll_45 (by decide) rfl (fun hq45 => ?_) (fun hq45 => ?_)
        · exact absurd ho hq45
        · refine g_aload_n (q := 49) dX11_doesAll_48 rfl rfl ?_
          refine g_bipush (q := 51) (x := 6) dX11_doesAll_49 (by decide) rfl ?_
          refine c_Vv (q := 54) (p_X11_enters hs hD.1 (g := 6) (by omega)) k_X11_72 (by assumption) rfl (by decide) rfl rfl (Nat.le_of_ble_eq_true rfl) rfl rfl dX11_doesAll_51 rfl ?_
          rintro vq1 hc1
          refine g_aload_n (q := 55) dX11_doesAll_54 rfl rfl ?_
          refine g_getR (q := 58) f_X11_40 (by assumption) rfl dX11_doesAll_55 rfl ?_
          refine g_iload_n (q := 59) dX11_doesAll_58 rfl rfl ?_
          refine g_iload (q := 61) dX11_doesAll_59 rfl rfl ?_
          refine g_iast (q := 62) (by assumption) rfl (by omega) (by decide) dX11_doesAll_61 rfl ?_
          refine g_gen (fun vq2 hvq2 => ?_)
          have hM2 : MR (vq2 (m + 2)) (a_in A 6) t sn := by rw [hvq2, gu_2, gu_n _ _ (by omega)]; exact hc1.M
          refine g_iinc (q := 65) (y := nI ((s.length - 1) + 1)) dX11_doesAll_62 rfl (gn_inc (s.length - 1)) rfl rfl rfl rfl ?_
          dsimp only [List.set]
          rw [show s.length - 1 + 1 = s.length by omega]
          refine g_aload_n (q := 66) dX11_doesAll_65 rfl rfl ?_
          refine g_iload_n (q := 67) dX11_doesAll_66 rfl rfl ?_
          refine c_Vv (q := 70) (p_X11_laysAside hs hM2 (p := s.length) (by omega)) k_X11_152 (by assumption) rfl (by decide) rfl rfl (Nat.le_of_ble_eq_true rfl) rfl rfl dX11_doesAll_67 rfl ?_
          rintro vq3 hvq3
          refine g_aload_n (q := 71) dX11_doesAll_70 rfl rfl ?_
          refine g_getR (q := 74) f_X11_43 (by assumption) rfl dX11_doesAll_71 rfl ?_
          refine g_iload_n (q := 75) dX11_doesAll_74 rfl rfl ?_
          refine g_iload_n (q := 76) dX11_doesAll_75 rfl rfl ?_
          refine g_iast (q := 77) (by assumption) rfl (by omega) (by decide) dX11_doesAll_76 rfl ?_
          refine g_gen (fun vq4 hvq4 => ?_)
          refine g_iinc (q := 80) (y := nI (i + 1)) dX11_doesAll_77 rfl (gn_inc i) rfl rfl rfl rfl ?_
          dsimp only [List.set]
          refine g_goto (q := 27) dX11_doesAll_80 (by decide) ?_
          rw [ar_o1 ho]
          exact ih (i + 1) (a_in A 6) d c ((A.2, d) :: s) k vq4 (by rw [er] at hK; simp at hK ⊢; omega) (hD.opn hs1 ht ho hc1 hvq2 hvq3 hvq4) (by omega) (by rw [List.length_cons, show s.length + 1 - 1 = s.length - 1 + 1 by omega]; exact hbal.2) (by simp) (by simp only [List.length_cons]; have := hbal.1; omega) (iv_in6 hI) (ivL_in hI.1 hL) (by rw [er] at hk; simp at hk ⊢; omega)
    rw [if_neg n40] at hbal
    by_cases n41 : o.1 = 41
    · have ho := n41
      rw [if_pos n41] at hbal
      rcases s with _ | ⟨q0, s⟩
      · exact absurd hs1 (by simp)
      simp only [List.length_cons, Nat.add_sub_cancel] at hbal hs5 ⊢
      have hsl := hbal.1
      rw [show s.length = s.length - 1 + 1 by omega]
      refine g_iload (q := 29) dX11_doesAll_27 rfl rfl ?_
      refine g_aload_n (q := 30) dX11_doesAll_29 rfl rfl ?_
      refine g_getI (q := 33) f_X11_202 (by assumption) rfl dX11_doesAll_30 rfl ?_
      rw [w9]
      refine g_icmpge (t := 183) (q := 36) dX11_doesAll_33 (by decide) rfl (fun hq33 => ?_) (fun hq33 => ?_)
      · exact absurd (gn_le hq33 (by omega)) (by omega)
      · refine g_aload_n (q := 37) dX11_doesAll_36 rfl rfl ?_
        refine g_getR (q := 40) f_X11_25 (by assumption) rfl dX11_doesAll_37 rfl ?_
        refine g_iload (q := 42) dX11_doesAll_40 rfl rfl ?_
        refine g_iald (q := 43) (by assumption) rfl (by omega) (by decide) dX11_doesAll_42 rfl ?_
        rw [w6]
        refine g_bipush (q := 45) (x := 40) dX11_doesAll_43 (by decide) rfl ?_
        refine g_icmpne (t := 83) (q := 48) dX11_doesAll_45 (by decide) rfl (fun hq45 => ?_) (fun hq45 => ?_)
        · refine g_aload_n (q := 84) dX11_doesAll_83 rfl rfl ?_
          refine g_getR (q := 87) f_X11_25 (by assumption) rfl dX11_doesAll_84 rfl ?_
          refine g_iload (q := 89) dX11_doesAll_87 rfl rfl ?_
          refine g_iald (q := 90) (by assumption) rfl (by omega) (by decide) dX11_doesAll_89 rfl ?_
          rw [w6]
          refine g_bipush (q := 92) (x := 41) dX11_doesAll_90 (by decide) rfl ?_
          refine g_icmpne (t := 110) (q := 95) dX11_doesAll_92 (by decide) rfl (fun hq92 => ?_) (fun hq92 => ?_)
          · exact absurd ho hq92
          · refine g_aload_n (q := 96) dX11_doesAll_95 rfl rfl ?_
            refine g_bipush (q := 98) (x := 6) dX11_doesAll_96 (by decide) rfl ?_
            refine c_Vv (q := 101) (p_X11_leaves hs hD.1 (g := 6) (by omega)) k_X11_82 (by assumption) rfl (by decide) rfl rfl (Nat.le_of_ble_eq_true rfl) rfl rfl dX11_doesAll_98 rfl ?_
            rintro vq1 hc1
            refine g_iinc (q := 104) (y := nI (s.length - 1)) dX11_doesAll_101 rfl (gn_dec (s.length - 1)) rfl rfl rfl rfl ?_
            dsimp only [List.set]
            refine g_iinc (q := 107) (y := nI (i + 1)) dX11_doesAll_104 rfl (gn_inc i) rfl rfl rfl rfl ?_
            dsimp only [List.set]
            refine g_goto (q := 27) dX11_doesAll_107 (by decide) ?_
            rw [ar_c1 ho]
            exact ih (i + 1) (a_out A 6) d c s k vq1 (by rw [er] at hK; simp at hK ⊢; omega) (hD.cls (by omega) ht ho hc1) (by omega) hbal.2 (by omega) (by omega) (iv_in6 hI) (ivL_t hL) (by rw [er] at hk; simp at hk ⊢; omega)
        · exact absurd hq45 n40
    · rw [if_neg n41] at hbal
      obtain ⟨hb1, hb2, hb3, hb4⟩ := hbal
      refine g_iload (q := 29) dX11_doesAll_27 rfl rfl ?_
      refine g_aload_n (q := 30) dX11_doesAll_29 rfl rfl ?_
      refine g_getI (q := 33) f_X11_202 (by assumption) rfl dX11_doesAll_30 rfl ?_
      rw [w9]
      refine g_icmpge (t := 183) (q := 36) dX11_doesAll_33 (by decide) rfl (fun hq33 => ?_) (fun hq33 => ?_)
      · exact absurd (gn_le hq33 (by omega)) (by omega)
      · refine g_aload_n (q := 37) dX11_doesAll_36 rfl rfl ?_
        refine g_getR (q := 40) f_X11_25 (by assumption) rfl dX11_doesAll_37 rfl ?_
        refine g_iload (q := 42) dX11_doesAll_40 rfl rfl ?_
        refine g_iald (q := 43) (by assumption) rfl (by omega) (by decide) dX11_doesAll_42 rfl ?_
        rw [w6]
        refine g_bipush (q := 45) (x := 40) dX11_doesAll_43 (by decide) rfl ?_
        refine g_icmpne (t := 83) (q := 48) dX11_doesAll_45 (by decide) rfl (fun hq45 => ?_) (fun hq45 => ?_)
        · refine g_aload_n (q := 84) dX11_doesAll_83 rfl rfl ?_
          refine g_getR (q := 87) f_X11_25 (by assumption) rfl dX11_doesAll_84 rfl ?_
          refine g_iload (q := 89) dX11_doesAll_87 rfl rfl ?_
          refine g_iald (q := 90) (by assumption) rfl (by omega) (by decide) dX11_doesAll_89 rfl ?_
          rw [w6]
          refine g_bipush (q := 92) (x := 41) dX11_doesAll_90 (by decide) rfl ?_
          refine g_icmpne (t := 110) (q := 95) dX11_doesAll_92 (by decide) rfl (fun hq92 => ?_) (fun hq92 => ?_)
          · refine g_aload_n (q := 111) dX11_doesAll_110 rfl rfl ?_
            refine g_iload (q := 113) dX11_doesAll_111 rfl rfl ?_
            refine c_Vi (q := 116) (p_X11_doesOne hs hD.1 hI (o := o) (by omega) w6 w7 w8 w9o hb3 hb1) k_X11_211 (by assumption) rfl (by decide) rfl rfl (Nat.le_of_ble_eq_true rfl) rfl rfl dX11_doesAll_113 rfl ?_
            rintro z vq1 ⟨hz, hc1⟩
            have iv1 := iv_one (q := o.1) (a := o.2.1) (m := o.2.2.2) hI hb2
            rcases hz with ⟨rfl, hz2⟩ | ⟨rfl, hz2⟩
            · rcases s with _ | ⟨q0, s⟩
              · exact absurd hs1 (by simp)
              rcases s with _ | ⟨q1, s0⟩
              · have hS1 := hD.2.2.1 0 q0 rfl
                rw [show [q0].length - 1 = 0 from rfl]
                refine g_ifeq (t := 131) (q := 119) dX11_doesAll_116 (by decide) rfl (fun hq116 => ?_) (fun hq116 => ?_)
                · refine g_aload_n (q := 132) dX11_doesAll_131 rfl rfl ?_
                  refine g_bipush (q := 134) (x := 6) dX11_doesAll_132 (by decide) rfl ?_
                  refine c_Vv (q := 137) (p_X11_thrownOut hs hc1.M (g := 6) (by omega)) k_X11_79 (by assumption) rfl (by decide) rfl rfl (Nat.le_of_ble_eq_true rfl) rfl rfl dX11_doesAll_134 rfl ?_
                  rintro vq2 hc2
                  have hS2 : asd (vq2 (m + 4)) (0) q0.1 := by rw [(hc1.tr hc2).o _ (by omega)]; exact hS1.1
                  refine g_aload_n (q := 138) dX11_doesAll_137 rfl rfl ?_
                  refine g_iload_n (q := 139) dX11_doesAll_138 rfl rfl ?_
                  refine c_Vv (q := 142) (p_X11_undoes hs hc2.M (p := 0) (by omega) hS2) k_X11_159 (by assumption) rfl (by decide) rfl rfl (Nat.le_of_ble_eq_true rfl) rfl rfl dX11_doesAll_139 rfl ?_
                  rintro vq3 hc3
                  have hcc := (hc1.tr hc2).tr hc3
                  have eq12 : vq3 (m + 12) = w (m + 12) := hcc.o _ (by omega)
                  have eq11 : vq3 (m + 11) = w (m + 11) := hcc.o _ (by omega)
                  have eq10 : vq3 (m + 10) = vb (m + 10) := (hcc.o _ (by omega)).trans (hD.2.1 _ (by omega) (by omega) (by omega) (by omega))
                  refine g_aload_n (q := 143) dX11_doesAll_142 rfl rfl ?_
                  refine g_getR (q := 146) f_X11_43 (by assumption) rfl dX11_doesAll_143 rfl ?_
                  refine g_iload_n (q := 147) dX11_doesAll_146 rfl rfl ?_
                  refine g_iald (q := 148) (by assumption) rfl (by omega) (by decide) dX11_doesAll_147 rfl ?_
                  rw [eq12, hS1.2]
                  refine g_istore_n (q := 149) dX11_doesAll_148 rfl rfl rfl rfl ?_
                  dsimp only [List.set]
                  refine g_iload_n (q := 150) dX11_doesAll_149 rfl rfl ?_
                  refine g_ifne (t := 159) (q := 153) dX11_doesAll_150 (by decide) rfl (fun hq150 => ?_) (fun hq150 => ?_)
                  · exact absurd rfl hq150
                  · refine g_sipush (q := 156) (x := (-1000)) dX11_doesAll_153 (by decide) rfl ?_
                    refine g_iload_n (q := 157) dX11_doesAll_156 rfl rfl ?_
                    refine g_isub (q := 158) dX11_doesAll_157 rfl ?_
                    refine r_i dX11_doesAll_158 rfl rfl rfl ?_
                    rw [ar_n1 (o := o) n40 n41 hz2]
                    exact ⟨rfl, hc3.M, fun a g1 g2 g3 g4 => (hcc.o a g1).trans (hD.2.1 a g1 g2 g3 g4)⟩
                · exact absurd rfl hq116
              · have hS1 := hD.2.2.1 (s0.length + 1) q0 (rv_t (q1 :: s0) q0)
                obtain ⟨bz, oz, g1, g2, g3, g4⟩ := hD.2.2.2 s0.length (by simp)
                obtain ⟨ez, k1, k2, k3⟩ := hA bz oz g1 g2
                have hbz : bz < ts.length := (List.getElem?_eq_some_iff.mp g1).1
                have k4 : ts.drop (ez + 1) = skT 1 (ts.drop (i + 1)) := by
                  rw [← k3, g4]
                  simp only [List.length_cons]
                  rw [show s0.length + 1 + 1 - 1 - s0.length = 1 by omega, er]
                  simp only [skT]
                  rw [if_neg n40, if_neg n41]
                simp only [List.length_cons] at hs5
                rw [show (q0 :: q1 :: s0).length - 1 = s0.length + 1 from rfl]
                refine g_ifeq (t := 131) (q := 119) dX11_doesAll_116 (by decide) rfl (fun hq116 => ?_) (fun hq116 => ?_)
                · refine g_aload_n (q := 132) dX11_doesAll_131 rfl rfl ?_
                  refine g_bipush (q := 134) (x := 6) dX11_doesAll_132 (by decide) rfl ?_
                  refine c_Vv (q := 137) (p_X11_thrownOut hs hc1.M (g := 6) (by omega)) k_X11_79 (by assumption) rfl (by decide) rfl rfl (Nat.le_of_ble_eq_true rfl) rfl rfl dX11_doesAll_134 rfl ?_
                  rintro vq2 hc2
                  have hS2 : asd (vq2 (m + 4)) (s0.length + 1) q0.1 := by rw [(hc1.tr hc2).o _ (by omega)]; exact hS1.1
                  refine g_aload_n (q := 138) dX11_doesAll_137 rfl rfl ?_
                  refine g_iload_n (q := 139) dX11_doesAll_138 rfl rfl ?_
                  refine c_Vv (q := 142) (p_X11_undoes hs hc2.M (p := s0.length + 1) (by omega) hS2) k_X11_159 (by assumption) rfl (by decide) rfl rfl (Nat.le_of_ble_eq_true rfl) rfl rfl dX11_doesAll_139 rfl ?_
                  rintro vq3 hc3
                  have hcc := (hc1.tr hc2).tr hc3
                  have eq12 : vq3 (m + 12) = w (m + 12) := hcc.o _ (by omega)
                  have eq11 : vq3 (m + 11) = w (m + 11) := hcc.o _ (by omega)
                  have eq10 : vq3 (m + 10) = vb (m + 10) := (hcc.o _ (by omega)).trans (hD.2.1 _ (by omega) (by omega) (by omega) (by omega))
                  refine g_aload_n (q := 143) dX11_doesAll_142 rfl rfl ?_
                  refine g_getR (q := 146) f_X11_43 (by assumption) rfl dX11_doesAll_143 rfl ?_
                  refine g_iload_n (q := 147) dX11_doesAll_146 rfl rfl ?_
                  refine g_iald (q := 148) (by assumption) rfl (by omega) (by decide) dX11_doesAll_147 rfl ?_
                  rw [eq12, hS1.2]
                  refine g_istore_n (q := 149) dX11_doesAll_148 rfl rfl rfl rfl ?_
                  dsimp only [List.set]
                  refine g_iload_n (q := 150) dX11_doesAll_149 rfl rfl ?_
                  refine g_ifne (t := 159) (q := 153) dX11_doesAll_150 (by decide) rfl (fun hq150 => ?_) (fun hq150 => ?_)
                  · refine g_iinc (q := 162) dX11_doesAll_159 rfl rfl rfl rfl rfl rfl ?_
                    dsimp only [List.set]
                    refine g_iinc (q := 165) (y := nI s0.length) dX11_doesAll_162 rfl (gn_dec s0.length) rfl rfl rfl rfl ?_
                    dsimp only [List.set]
                    refine g_aload_n (q := 166) dX11_doesAll_165 rfl rfl ?_
                    refine g_getR (q := 169) f_X11_37 (by assumption) rfl dX11_doesAll_166 rfl ?_
                    refine g_aload_n (q := 170) dX11_doesAll_169 rfl rfl ?_
                    refine g_getR (q := 173) f_X11_40 (by assumption) rfl dX11_doesAll_170 rfl ?_
                    refine g_iload_n (q := 174) dX11_doesAll_173 rfl rfl ?_
                    refine g_iald (q := 175) (by assumption) rfl (by omega) (by decide) dX11_doesAll_174 rfl ?_
                    rw [eq11, g3]
                    refine g_iald (q := 176) (by assumption) rfl (by omega) (by decide) dX11_doesAll_175 rfl ?_
                    rw [eq10, k1]
                    refine g_iconst (q := 177) (x := 1) dX11_doesAll_176 (by decide) rfl ?_
                    refine g_iadd (q := 178) dX11_doesAll_177 rfl ?_
                    rw [show nI ez + 1 = nI (ez + 1) from nI_1 _]
                    refine g_istore (q := 180) dX11_doesAll_178 rfl rfl rfl rfl ?_
                    dsimp only [List.set]
                    refine g_goto (q := 27) dX11_doesAll_180 (by decide) ?_
                    rw [ar_n2 (o := o) n40 n41 hz2, ← k4]
                    exact ih (ez + 1) _ q0.2 (c + 1) (q1 :: s0) k vq3 (by rw [k4]; have := skT_len 1 (ts.drop (i + 1)); rw [er] at hK; simp at hK this ⊢; omega) (hD.und (b := 0) ht n40 n41 hcc k4) (by omega) (by rw [k4]; have := bal_sk _ _ 1 hb4 (by simp); simpa using this) (by simp) (by simp only [List.length_cons] at hs5 ⊢; omega) (iv_res2 (iv_in6 iv1) (hL q0 List.mem_cons_self)) (fun z hz => hL z (List.mem_cons_of_mem _ hz)) (by rw [k4]; have := skT_len 1 (ts.drop (i + 1)); rw [er] at hk; simp at hk this ⊢; omega)
                  · exact absurd (nI_inj6 (b := 0) (by omega) (by omega) hq150) (by omega)
                · exact absurd rfl hq116
            · refine g_ifeq (t := 131) (q := 119) dX11_doesAll_116 (by decide) rfl (fun hq116 => ?_) (fun hq116 => ?_)
              · exact absurd hq116 (by decide)
              · refine g_iinc (q := 122) dX11_doesAll_119 rfl rfl rfl rfl rfl rfl ?_
                dsimp only [List.set]
                refine g_iinc (q := 125) dX11_doesAll_122 rfl rfl rfl rfl rfl rfl ?_
                dsimp only [List.set]
                refine g_iinc (q := 128) (y := nI (i + 1)) dX11_doesAll_125 rfl (gn_inc i) rfl rfl rfl rfl ?_
                dsimp only [List.set]
                refine g_goto (q := 27) dX11_doesAll_128 (by decide) ?_
                rw [ar_y (o := o) n40 n41 hz2]
                exact ih (i + 1) _ (d + 1) (c + 1) s k vq1 (by rw [er] at hK; simp at hK ⊢; omega) ((hD.step ht n40 n41).now hc1) (by omega) hb4 hs1 hs5 iv1 hL (by rw [er] at hk; simp at hk ⊢; omega)
          · exact absurd hq92 n41
        · exact absurd hq45 n40

