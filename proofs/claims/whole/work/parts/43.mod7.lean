/-! ===== the reference: serving ===== -/
theorem er_at (l : List Int32) (i j : Nat) : (l.eraseIdx i).getD j 0 = if j < i then l.getD j 0 else l.getD (j + 1) 0 := by
  simp only [List.getD_eq_getElem?_getD, List.getElem?_eraseIdx]
  split <;> rfl
theorem er_len {l : List Int32} {i : Nat} (h : i < l.length) : (l.eraseIdx i).length = l.length - 1 := by rw [List.length_eraseIdx, if_pos h]
theorem ud_id (N : Nat → Int32) (i : Nat) : upd N i (N i) = N := by
  funext j; unfold upd; split
  · rename_i h; rw [h]
  · rfl

set_option maxRecDepth 100000 in
set_option maxHeartbeats 4000000 in
theorem p_X11_goesFromLine {X : gj_X} {lim : Nat} {σ : gj_H} {v : gj_V} {m sn : Nat} {A : aS} {t : Int32} (hs : msh σ m) (hM : MR (v (m + 2)) A t sn) {i w : Nat} (hi : i < (A.2 20).length) (hw6 : w < 6) (he : (A.2 20).getD i 0 = nI w) : gj_E X 1 m_X11_goesFromLine [.ref m, .int (nI i)] lim σ v (q_v lim σ (fun v' => mc v v' m (sL (sR A (30 + w) (aw_no (A.1 (30 + w)))) 20 ((A.2 20).eraseIdx i)) t sn)) := by
  obtain ⟨so, s1, s2, s3, s4, s5, s6, s7, s8, s9, s10, s11, s12⟩ := id hs
  obtain ⟨m0, m1, m2, m3, m4, m5, m6⟩ := id hM.1
  have lp : ∀ (k c : Nat) (w' : gj_V), w' = gj_up v (m + 2) (shl (upd (v (m + 2)) 4 (nI ((A.2 20).length - 1))) (300 + i) c) → c + k = (A.2 20).length - 1 - i → gj_G X 1 m_X11_goesFromLine (q_v lim σ (fun v' => mc v v' m (sL (sR A (30 + w) (aw_no (A.1 (30 + w)))) 20 ((A.2 20).eraseIdx i)) t sn)) lim σ w' 0 0 23 [some (.ref m), some (.int (nI i)), some (.int (nI w)), some (.int (nI (i + c)))] [] := by
    intro k
    induction k with
    | zero =>
      intro c w' hw hk
      have ec : c = (A.2 20).length - 1 - i := by omega
      subst c
      have nw := congrFun hw (m + 2)
      rw [gu_s] at nw
      refine g_iload_n (q := 24) dX11_goesFromLine_23 rfl rfl ?_
      refine g_aload_n (q := 25) dX11_goesFromLine_24 rfl rfl ?_
      refine g_getR (q := 28) f_X11_13 (by assumption) rfl dX11_goesFromLine_25 rfl ?_
      refine g_iconst (q := 29) (x := 4) dX11_goesFromLine_28 (by decide) rfl ?_
      refine g_iald (q := 30) (by assumption) (by first | (simp only [gn_lit, nI_add, pk_mul]; exact rfl) | exact rfl) (by omega) (by decide) dX11_goesFromLine_29 rfl ?_
      refine g_icmpge (t := 61) (q := 33) dX11_goesFromLine_30 (by decide) rfl (fun hq30 => ?_) (fun hq30 => ?_)
      · refine g_aload_n (q := 62) dX11_goesFromLine_61 rfl rfl ?_
        refine g_getR (q := 65) f_X11_13 (by assumption) rfl dX11_goesFromLine_62 rfl ?_
        refine g_iload_n (q := 66) dX11_goesFromLine_65 rfl rfl ?_
        refine c_Si (q := 69) (p_X11_workerAt (b := w)) k_X11_58 (by decide) rfl rfl (Nat.le_of_ble_eq_true rfl) rfl rfl dX11_goesFromLine_66 rfl ?_
        rintro z0 w1 ⟨hz0, hw1⟩
        subst w1
        subst z0
        refine g_iconst (q := 70) (x := 0) dX11_goesFromLine_69 (by decide) rfl ?_
        refine g_iadd (q := 71) dX11_goesFromLine_70 rfl ?_
        refine g_iconst (q := 72) (x := 0) dX11_goesFromLine_71 (by decide) rfl ?_
        refine g_iast (q := 73) (by assumption) (by first | (simp only [gn_lit, nI_add, pk_mul]; exact rfl) | exact rfl) (by omega) (by decide) dX11_goesFromLine_72 rfl ?_
        refine g_gen (fun vq5 hvq5 => ?_)
        rw [gu_2, nw, hw, gu_u] at hvq5
        have n5 := congrFun hvq5 (m + 2)
        rw [gu_s] at n5
        refine g_aload_n (q := 74) dX11_goesFromLine_73 rfl rfl ?_
        refine g_getR (q := 77) f_X11_13 (by assumption) rfl dX11_goesFromLine_74 rfl ?_
        refine g_iload_n (q := 78) dX11_goesFromLine_77 rfl rfl ?_
        refine c_Si (q := 81) (p_X11_workerAt (b := w)) k_X11_58 (by decide) rfl rfl (Nat.le_of_ble_eq_true rfl) rfl rfl dX11_goesFromLine_78 rfl ?_
        rintro z0 w1 ⟨hz0, hw1⟩
        subst w1
        subst z0
        refine g_iconst (q := 82) (x := 1) dX11_goesFromLine_81 (by decide) rfl ?_
        refine g_iadd (q := 83) dX11_goesFromLine_82 rfl ?_
        refine g_iconst (q := 84) (x := (-1)) dX11_goesFromLine_83 (by decide) rfl ?_
        refine g_iast (q := 85) (by assumption) (by first | (simp only [gn_lit, nI_add, pk_mul]; exact rfl) | exact rfl) (by omega) (by decide) dX11_goesFromLine_84 rfl ?_
        refine g_gen (fun vq6 hvq6 => ?_)
        rw [gu_2, n5, hvq5, gu_u] at hvq6
        have n6 := congrFun hvq6 (m + 2)
        rw [gu_s] at n6
        refine g_aload_n (q := 86) dX11_goesFromLine_85 rfl rfl ?_
        refine g_getR (q := 89) f_X11_13 (by assumption) rfl dX11_goesFromLine_86 rfl ?_
        refine g_iload_n (q := 90) dX11_goesFromLine_89 rfl rfl ?_
        refine c_Si (q := 93) (p_X11_workerAt (b := w)) k_X11_58 (by decide) rfl rfl (Nat.le_of_ble_eq_true rfl) rfl rfl dX11_goesFromLine_90 rfl ?_
        rintro z0 w1 ⟨hz0, hw1⟩
        subst w1
        subst z0
        refine g_iconst (q := 94) (x := 2) dX11_goesFromLine_93 (by decide) rfl ?_
        refine g_iadd (q := 95) dX11_goesFromLine_94 rfl ?_
        refine g_iconst (q := 96) (x := (-1)) dX11_goesFromLine_95 (by decide) rfl ?_
        refine g_iast (q := 97) (by assumption) (by first | (simp only [gn_lit, nI_add, pk_mul]; exact rfl) | exact rfl) (by omega) (by decide) dX11_goesFromLine_96 rfl ?_
        refine g_gen (fun vq7 hvq7 => ?_)
        rw [gu_2, n6, hvq6, gu_u] at hvq7
        have n7 := congrFun hvq7 (m + 2)
        rw [gu_s] at n7
        refine g_aload_n (q := 98) dX11_goesFromLine_97 rfl rfl ?_
        refine g_getR (q := 101) f_X11_13 (by assumption) rfl dX11_goesFromLine_98 rfl ?_
        refine g_iload_n (q := 102) dX11_goesFromLine_101 rfl rfl ?_
        refine c_Si (q := 105) (p_X11_workerAt (b := w)) k_X11_58 (by decide) rfl rfl (Nat.le_of_ble_eq_true rfl) rfl rfl dX11_goesFromLine_102 rfl ?_
        rintro z0 w1 ⟨hz0, hw1⟩
        subst w1
        subst z0
        refine g_iconst (q := 106) (x := 3) dX11_goesFromLine_105 (by decide) rfl ?_
        refine g_iadd (q := 107) dX11_goesFromLine_106 rfl ?_
        refine g_iconst (q := 108) (x := (-1)) dX11_goesFromLine_107 (by decide) rfl ?_
        refine g_iast (q := 109) (by assumption) (by first | (simp only [gn_lit, nI_add, pk_mul]; exact rfl) | exact rfl) (by omega) (by decide) dX11_goesFromLine_108 rfl ?_
        refine g_gen (fun vq8 hvq8 => ?_)
        rw [gu_2, n7, hvq7, gu_u] at hvq8
        have n8 := congrFun hvq8 (m + 2)
        rw [gu_s] at n8
        refine r_v dX11_goesFromLine_109 rfl rfl rfl ?_
        have hML : MR (shl (upd (v (m + 2)) 4 (nI ((A.2 20).length - 1))) (300 + i) ((A.2 20).length - 1 - i)) (sL A 20 ((A.2 20).eraseIdx i)) t sn := by
          refine hM.line (fun j g1 g2 => ?_) ?_ (fun j hj => ?_) ?_
          · rw [shl_o (by omega), ud_n _ _ g1]
          · rw [shl_o (by omega), ud_s, er_len hi]
          · rw [er_len hi] at hj
            rw [er_at]
            by_cases e : j < i
            · rw [if_pos e, shl_o (by omega), ud_n _ _ (by omega)]; exact m5 j (by omega)
            · rw [if_neg e, shl_i (by omega), ud_n _ _ (by omega), Nat.add_assoc]; exact m5 (j + 1) (by omega)
          · rw [er_len hi]; omega
        refine ⟨vq8 (m + 2), by rw [n8]; exact hvq8, hML.work hw6 (fun j hj => ?_) ?_⟩
        · rw [n8]
          repeat (first | rw [ud_s] | rw [ud_n _ _ (by omega)])
        · have W4 := hML.2.2.2.2.2.1 w hw6
          obtain ⟨b0, b1, b2, b3, b4⟩ := W4
          refine ⟨?_, ?_, ?_, ?_, ?_⟩
          · rw [n8]
            repeat (first | rw [ud_s] | rw [ud_n _ _ (by omega)])
            unfold aw_no
            simp [upd]
          · rw [n8]
            repeat (first | rw [ud_s] | rw [ud_n _ _ (by omega)])
            unfold aw_no
            simp [upd]
          · rw [n8]
            repeat (first | rw [ud_s] | rw [ud_n _ _ (by omega)])
            unfold aw_no
            simp [upd]
          · rw [n8]
            repeat (first | rw [ud_s] | rw [ud_n _ _ (by omega)])
            unfold aw_no
            simp [upd]
          · rw [n8]
            repeat rw [ud_n _ _ (by omega)]
            unfold aw_no
            rw [ud_n _ _ (by decide), ud_n _ _ (by decide), ud_n _ _ (by decide)]
            exact b4
      · rw [nw, shl_o (by omega), ud_s, show i + ((A.2 20).length - 1 - i) = (A.2 20).length - 1 by omega] at hq30
        exact absurd (Int32.le_refl _) hq30
    | succ k ih =>
      intro c w' hw hk
      have nw := congrFun hw (m + 2)
      rw [gu_s] at nw
      refine g_iload_n (q := 24) dX11_goesFromLine_23 rfl rfl ?_
      refine g_aload_n (q := 25) dX11_goesFromLine_24 rfl rfl ?_
      refine g_getR (q := 28) f_X11_13 (by assumption) rfl dX11_goesFromLine_25 rfl ?_
      refine g_iconst (q := 29) (x := 4) dX11_goesFromLine_28 (by decide) rfl ?_
      refine g_iald (q := 30) (by assumption) (by first | (simp only [gn_lit, nI_add, pk_mul]; exact rfl) | exact rfl) (by omega) (by decide) dX11_goesFromLine_29 rfl ?_
      refine g_icmpge (t := 61) (q := 33) dX11_goesFromLine_30 (by decide) rfl (fun hq30 => ?_) (fun hq30 => ?_)
      · rw [nw, shl_o (by omega), ud_s] at hq30
        exact absurd (gn_le hq30 (by omega)) (by omega)
      · refine g_aload_n (q := 34) dX11_goesFromLine_33 rfl rfl ?_
        refine g_getR (q := 37) f_X11_13 (by assumption) rfl dX11_goesFromLine_34 rfl ?_
        refine g_sipush (q := 40) (x := 300) dX11_goesFromLine_37 (by decide) rfl ?_
        refine g_iload_n (q := 41) dX11_goesFromLine_40 rfl rfl ?_
        refine g_iadd (q := 42) dX11_goesFromLine_41 rfl ?_
        refine g_aload_n (q := 43) dX11_goesFromLine_42 rfl rfl ?_
        refine g_getR (q := 46) f_X11_13 (by assumption) rfl dX11_goesFromLine_43 rfl ?_
        refine g_sipush (q := 49) (x := 300) dX11_goesFromLine_46 (by decide) rfl ?_
        refine g_iload_n (q := 50) dX11_goesFromLine_49 rfl rfl ?_
        refine g_iadd (q := 51) dX11_goesFromLine_50 rfl ?_
        refine g_iconst (q := 52) (x := 1) dX11_goesFromLine_51 (by decide) rfl ?_
        refine g_iadd (q := 53) dX11_goesFromLine_52 rfl ?_
        refine g_iald (q := 54) (by assumption) (show 300 + nI (i + c) + 1 = nI (300 + i + c + 1) by simp only [gn_lit, nI_add, pk_mul, Nat.add_assoc]) (by omega) (by decide) dX11_goesFromLine_53 rfl ?_
        refine g_iast (q := 55) (by assumption) (show 300 + nI (i + c) = nI (300 + i + c) by simp only [gn_lit, nI_add, pk_mul, Nat.add_assoc]) (by omega) (by decide) dX11_goesFromLine_54 rfl ?_
        refine g_gen (fun vq3 hvq3 => ?_)
        rw [gu_2, nw, shl_s, hw, gu_u] at hvq3
        refine g_iinc (q := 58) (y := nI ((i + c) + 1)) dX11_goesFromLine_55 rfl (gn_inc (i + c)) rfl rfl rfl rfl ?_
        dsimp only [List.set]
        refine g_goto (q := 23) dX11_goesFromLine_58 (by decide) ?_
        rw [show i + c + 1 = i + (c + 1) by omega]
        exact ih (c + 1) vq3 hvq3 (by omega)
  refine gj_E_at (L := [some (.ref m), some (.int (nI i)), none, none]) (k := 2) rfl (by decide) rfl ?_
  refine g_aload_n (q := 1) dX11_goesFromLine_0 rfl rfl ?_
  refine g_getR (q := 4) f_X11_13 (by assumption) rfl dX11_goesFromLine_1 rfl ?_
  refine g_sipush (q := 7) (x := 300) dX11_goesFromLine_4 (by decide) rfl ?_
  refine g_iload_n (q := 8) dX11_goesFromLine_7 rfl rfl ?_
  refine g_iadd (q := 9) dX11_goesFromLine_8 rfl ?_
  refine g_iald (q := 10) (by assumption) (show 300 + nI i = nI (300 + i) by simp only [gn_lit, nI_add, pk_mul]) (by omega) (by decide) dX11_goesFromLine_9 rfl ?_
  rw [m5 i hi, he]
  refine g_istore_n (q := 11) dX11_goesFromLine_10 rfl rfl rfl rfl ?_
  dsimp only [List.set]
  refine g_aload_n (q := 12) dX11_goesFromLine_11 rfl rfl ?_
  refine g_getR (q := 15) f_X11_13 (by assumption) rfl dX11_goesFromLine_12 rfl ?_
  refine g_iconst (q := 16) (x := 4) dX11_goesFromLine_15 (by decide) rfl ?_
  refine g_dup2 (q := 17) dX11_goesFromLine_16 rfl rfl rfl ?_
  refine g_iald (q := 18) (by assumption) (show (4 : Int32) = nI 4 from rfl) (by omega) (by decide) dX11_goesFromLine_17 rfl ?_
  refine g_iconst (q := 19) (x := 1) dX11_goesFromLine_18 (by decide) rfl ?_
  refine g_isub (q := 20) dX11_goesFromLine_19 rfl ?_
  refine g_iast (q := 21) (by assumption) (show (4 : Int32) = nI 4 from rfl) (by omega) (by decide) dX11_goesFromLine_20 rfl ?_
  refine g_gen (fun vq1 hvq1 => ?_)
  rw [gu_2, m4] at hvq1
  have el : nI (A.2 20).length - 1 = nI ((A.2 20).length - 1) := by rw [show (A.2 20).length = (A.2 20).length - 1 + 1 by omega, rl_s]; rfl
  rw [el] at hvq1
  refine g_iload_n (q := 22) dX11_goesFromLine_21 rfl rfl ?_
  refine g_istore_n (q := 23) dX11_goesFromLine_22 rfl rfl rfl rfl ?_
  dsimp only [List.set]
  exact lp ((A.2 20).length - 1 - i) 0 vq1 (by rw [shl_0]; exact hvq1) (by omega)

def a_tri (A : aS) (w b : Nat) (p k : Int32) : Int32 × aS :=
  if p = 0 then a_put A b k (nI w) else if (a_take A b (nI w)).1 = -5 then (0, (a_take A b (nI w)).2) else (1, sR (a_take A b (nI w)).2 (30 + w) (upd (A.1 (30 + w)) 3 (a_take A b (nI w)).1))
theorem try_tri {A : aS} {w b : Nat} (hb : b < 6) (he : iN (A.1 (30 + w) 0) = b) : (a_try A w).1 = (if (a_tri A w b (A.1 (30 + w) 1) (A.1 (30 + w) 2)).1 = 0 then 0 else 1) ∧ (a_try A w).2 = (if (a_tri A w b (A.1 (30 + w) 1) (A.1 (30 + w) 2)).1 = 0 then (a_tri A w b (A.1 (30 + w) 1) (A.1 (30 + w) 2)).2 else sR (a_tri A w b (A.1 (30 + w) 1) (A.1 (30 + w) 2)).2 (30 + w) (aw_no ((a_tri A w b (A.1 (30 + w) 1) (A.1 (30 + w) 2)).2.1 (30 + w)))) := by
  unfold a_try a_tri
  rw [he]
  have ep : (a_put A b (A.1 (30 + w) 2) (nI w)).2.1 (30 + w) = A.1 (30 + w) := (co_put hb).1 _ (by omega)
  by_cases h0 : A.1 (30 + w) 1 = 0
  · rw [if_pos h0, if_pos h0]
    by_cases h1 : (a_put A b (A.1 (30 + w) 2) (nI w)).1 = 0
    · rw [if_pos h1, if_pos h1, if_pos h1]; exact ⟨rfl, rfl⟩
    · rw [if_neg h1, if_neg h1, if_neg h1, ep]; exact ⟨rfl, rfl⟩
  · rw [if_neg h0, if_neg h0]
    by_cases h1 : (a_take A b (nI w)).1 = -5
    · rw [if_pos h1, if_pos h1]; exact ⟨rfl, rfl⟩
    · rw [if_neg h1, if_neg h1]
      dsimp only
      rw [sR_s, sR_sR]; exact ⟨rfl, rfl⟩

theorem a_put_bz {A : aS} {b : Nat} {k w : Int32} : narrow .boolean (.int (a_put A b k w).1) = .int (a_put A b k w).1 := by
  unfold a_put b_put
  split
  · show narrow .boolean (.int 0) = .int 0
    decide
  · show narrow .boolean (.int 1) = .int 1
    decide

set_option maxRecDepth 100000 in
set_option maxHeartbeats 4000000 in
theorem p_X11_tries {X : gj_X} {lim : Nat} {σ : gj_H} {v : gj_V} {m sn : Nat} {A : aS} {t : Int32} (hs : msh σ m) (hM : MR (v (m + 2)) A t sn) {w b : Nat} {p k : Int32} (hb : b < 6) (hw6 : w < 6) (hvb : ivb (gB A b)) : gj_E X 3 m_X11_tries [.ref m, .int (nI w), .int (nI b), .int p, .int k] lim σ v (q_i lim σ (fun z v' => z = (a_tri A w b p k).1 ∧ mc v v' m (a_tri A w b p k).2 t sn)) := by
  obtain ⟨so, s1, s2, s3, s4, s5, s6, s7, s8, s9, s10, s11, s12⟩ := id hs
  have hrm : A.1 (10 + b) 3 ≤ 6 := hvb.1
  have hit : ∀ x ∈ A.2 b, 0 ≤ x ∧ x ≤ 9 := hvb.2.2
  refine gj_E_at (L := [some (.ref m), some (.int (nI w)), some (.int (nI b)), some (.int p), some (.int k), none]) (k := 1) rfl (by decide) rfl ?_
  refine g_iload_n (q := 1) dX11_tries_0 rfl rfl ?_
  refine g_ifne (t := 13) (q := 4) dX11_tries_1 (by decide) rfl (fun hq1 => ?_) (fun hq1 => ?_)
  · have hp := hq1
    refine g_aload_n (q := 14) dX11_tries_13 rfl rfl ?_
    refine g_iload_n (q := 15) dX11_tries_14 rfl rfl ?_
    refine g_iload_n (q := 16) dX11_tries_15 rfl rfl ?_
    refine c_Vi (q := 19) (p_X11_take hs hM (w := nI w) hb hit) k_X11_95 (by assumption) rfl (by decide) rfl rfl (Nat.le_of_ble_eq_true rfl) rfl rfl dX11_tries_16 rfl ?_
    rintro y1 vq1 ⟨hy1, hc1⟩
    have hM1 := hc1.M
    have ew : (a_take A b (nI w)).2.1 (30 + w) = A.1 (30 + w) := (co_take hb).1 _ (by omega)
    refine g_istore (q := 21) dX11_tries_19 rfl rfl rfl rfl ?_
    dsimp only [List.set]
    refine g_aload_n (q := 22) dX11_tries_21 rfl rfl ?_
    refine g_getR (q := 25) f_X11_13 (by assumption) rfl dX11_tries_22 rfl ?_
    refine g_iload_n (q := 26) dX11_tries_25 rfl rfl ?_
    refine c_Si (q := 29) (p_X11_workerAt (b := w)) k_X11_58 (by decide) rfl rfl (Nat.le_of_ble_eq_true rfl) rfl rfl dX11_tries_26 rfl ?_
    rintro z0 w1 ⟨hz0, hw1⟩
    subst w1
    subst z0
    refine g_iconst (q := 30) (x := 4) dX11_tries_29 (by decide) rfl ?_
    refine g_iadd (q := 31) dX11_tries_30 rfl ?_
    refine g_iload (q := 33) dX11_tries_31 rfl rfl ?_
    refine g_iconst (q := 34) (x := (-1)) dX11_tries_33 (by decide) rfl ?_
    refine g_icmpne (t := 51) (q := 37) dX11_tries_34 (by decide) rfl (fun hq34 => ?_) (fun hq34 => ?_)
    · have ht : ¬ (a_take A b (nI w)).1 = -5 := fun z => hq34 (by rw [hy1, if_pos z])
      rw [if_neg ht] at hy1
      refine g_iload (q := 53) dX11_tries_51 rfl rfl ?_
      refine g_iast (q := 54) (by assumption) (by first | (simp only [gn_lit, nI_add, pk_mul]; exact rfl) | exact rfl) (by omega) (by decide) dX11_tries_53 rfl ?_
      refine g_gen (fun vq2 hvq2 => ?_)
      rw [gu_2] at hvq2
      have hc2 : mc v vq2 m (sR (a_take A b (nI w)).2 (30 + w) (upd (A.1 (30 + w)) 3 (a_take A b (nI w)).1)) t sn := by
        refine hc1.tr ⟨_, hvq2, hM1.work hw6 (fun i hi => ud_n _ _ (by omega)) ?_⟩
        obtain ⟨b0, b1, b2, b3, b4⟩ := hM1.2.2.2.2.2.1 w hw6
        rw [ew] at b0 b1 b2 b3 b4
        refine ⟨?_, ?_, ?_, ?_, ?_⟩
        · rw [ud_n _ _ (by omega), ud_n _ _ (by decide)]; exact b0
        · rw [ud_n _ _ (by omega), ud_n _ _ (by decide)]; exact b1
        · rw [ud_n _ _ (by omega), ud_n _ _ (by decide)]; exact b2
        · rw [ud_n _ _ (by omega), ud_n _ _ (by decide)]; exact b3
        · rw [ud_s, ud_s]; exact hy1
      refine g_iload (q := 56) dX11_tries_54 rfl rfl ?_
      refine g_iconst (q := 57) (x := (-1)) dX11_tries_56 (by decide) rfl ?_
      refine g_icmpeq (t := 64) (q := 60) dX11_tries_57 (by decide) rfl (fun hq57 => ?_) (fun hq57 => ?_)
      · exact absurd hq57 hq34
      · refine g_iconst (q := 61) (x := 1) dX11_tries_60 (by decide) rfl ?_
        refine g_goto (q := 65) dX11_tries_61 (by decide) ?_
        refine r_z dX11_tries_65 rfl rfl rfl (by decide) ?_
        unfold a_tri
        rw [if_neg hp, if_neg ht]
        exact ⟨rfl, hc2⟩
    · have ht : (a_take A b (nI w)).1 = -5 := by
        by_cases z : (a_take A b (nI w)).1 = -5
        · exact z
        · rw [hy1, if_neg z] at hq34
          exact absurd (b_take_kind hvb z).2.2.1 (by rw [show (b_take (gB A b) (nI w)).1 = -1 from hq34]; decide)
      refine g_aload_n (q := 38) dX11_tries_37 rfl rfl ?_
      refine g_getR (q := 41) f_X11_13 (by assumption) rfl dX11_tries_38 rfl ?_
      refine g_iload_n (q := 42) dX11_tries_41 rfl rfl ?_
      refine c_Si (q := 45) (p_X11_workerAt (b := w)) k_X11_58 (by decide) rfl rfl (Nat.le_of_ble_eq_true rfl) rfl rfl dX11_tries_42 rfl ?_
      rintro z0 w1 ⟨hz0, hw1⟩
      subst w1
      subst z0
      refine g_iconst (q := 46) (x := 4) dX11_tries_45 (by decide) rfl ?_
      refine g_iadd (q := 47) dX11_tries_46 rfl ?_
      refine g_iald (q := 48) (by assumption) (by first | (simp only [gn_lit, nI_add, pk_mul]; exact rfl) | exact rfl) (by omega) (by decide) dX11_tries_47 rfl ?_
      refine g_goto (q := 53) dX11_tries_48 (by decide) ?_
      refine g_iast (q := 54) (by assumption) (by first | (simp only [gn_lit, nI_add, pk_mul]; exact rfl) | exact rfl) (by omega) (by decide) dX11_tries_53 rfl ?_
      refine g_gen (fun vq2 hvq2 => ?_)
      rw [gu_2] at hvq2
      rw [ud_id, gu_id] at hvq2
      have hc2 : mc v vq2 m (a_take A b (nI w)).2 t sn := by rw [hvq2]; exact hc1
      refine g_iload (q := 56) dX11_tries_54 rfl rfl ?_
      refine g_iconst (q := 57) (x := (-1)) dX11_tries_56 (by decide) rfl ?_
      refine g_icmpeq (t := 64) (q := 60) dX11_tries_57 (by decide) rfl (fun hq57 => ?_) (fun hq57 => ?_)
      · refine g_iconst (q := 65) (x := 0) dX11_tries_64 (by decide) rfl ?_
        refine r_z dX11_tries_65 rfl rfl rfl (by decide) ?_
        unfold a_tri
        rw [if_neg hp, if_pos ht]
        exact ⟨rfl, hc2⟩
      · exact absurd hq34 hq57
  · have hp := hq1
    refine g_aload_n (q := 5) dX11_tries_4 rfl rfl ?_
    refine g_iload_n (q := 6) dX11_tries_5 rfl rfl ?_
    refine g_iload (q := 8) dX11_tries_6 rfl rfl ?_
    refine g_iload_n (q := 9) dX11_tries_8 rfl rfl ?_
    refine c_Vi (q := 12) (p_X11_put hs hM hb (k := k) (w := nI w) hrm) k_X11_98 (by assumption) rfl (by decide) rfl rfl (Nat.le_of_ble_eq_true rfl) rfl rfl dX11_tries_9 rfl ?_
    rintro y1 vq1 ⟨hy1, hc1⟩
    refine r_z dX11_tries_12 rfl rfl rfl (by rw [hy1]; exact a_put_bz) ?_
    unfold a_tri
    rw [if_pos hp]
    exact ⟨hy1, hc1⟩
