theorem mb_give {N N' : Nat → Int32} {b : Nat} {f : Nat → Int32} {li lq : List Int32} (h : mb N b f li lq) (hl : 0 < li.length) (q14 : ∀ i, i < li.length - 1 → N' (10 + 24 * b + 14 + i) = N (10 + 24 * b + 14 + i + 1)) (q0 : N' (10 + 24 * b + 0) = nI (li.length - 1)) (q3 : N' (10 + 24 * b + 3) = f 5 + 1) (qo : ∀ j, (j < 10 + 24 * b + 14 ∨ 24 + 10 + 24 * b ≤ j) → j ≠ 10 + 24 * b + 0 → j ≠ 10 + 24 * b + 3 → N' j = N j) : mb N' b (upd f 5 (f 5 + 1)) (li.eraseIdx 0) lq := by
  obtain ⟨a0, a1, a2, a3, a4, a5, a6, a7, a8, a9, a10, a11⟩ := h
  refine ⟨by rw [q0, ge_len], ?_, ?_, ?_, ?_, ?_, ?_, ?_, fun i hi => ?_, fun i hi => ?_, by rw [ge_len]; omega, a11⟩
  · rw [qo _ (by omega) (by omega) (by omega), ud_n _ _ (by decide)]; exact a1
  · rw [qo _ (by omega) (by omega) (by omega), ud_n _ _ (by decide)]; exact a2
  · rw [q3, ud_s]
  · rw [qo _ (by omega) (by omega) (by omega), ud_n _ _ (by decide)]; exact a4
  · rw [qo _ (by omega) (by omega) (by omega), ud_n _ _ (by decide)]; exact a5
  · rw [qo _ (by omega) (by omega) (by omega), ud_n _ _ (by decide)]; exact a6
  · rw [qo _ (by omega) (by omega) (by omega)]; exact a7
  · rw [qo _ (by omega) (by omega) (by omega)]; exact a8 i hi
  · rw [ge_len] at hi
    rw [q14 i hi, ge_0]
    exact a9 (i + 1) (by omega)
theorem mb_again {N N' : Nat → Int32} {b : Nat} {f : Nat → Int32} {li lq : List Int32} {k : Int32} (h : mb N b f li lq) (hl : li.length < 6) (q14 : N' (10 + 24 * b + 14) = k) (q15 : ∀ i, i < li.length → N' (10 + 24 * b + 14 + i + 1) = N (10 + 24 * b + 14 + i)) (q0 : N' (10 + 24 * b + 0) = nI (li.length + 1)) (qo : ∀ j, (j < 10 + 24 * b + 14 ∨ 24 + 10 + 24 * b ≤ j) → j ≠ 10 + 24 * b + 0 → N' j = N j) : mb N' b f (k :: li) lq := by
  obtain ⟨a0, a1, a2, a3, a4, a5, a6, a7, a8, a9, a10, a11⟩ := h
  refine ⟨by rw [q0]; simp, ?_, ?_, ?_, ?_, ?_, ?_, ?_, fun i hi => ?_, fun i hi => ?_, by simp; omega, a11⟩
  · rw [qo _ (by omega) (by omega)]; exact a1
  · rw [qo _ (by omega) (by omega)]; exact a2
  · rw [qo _ (by omega) (by omega)]; exact a3
  · rw [qo _ (by omega) (by omega)]; exact a4
  · rw [qo _ (by omega) (by omega)]; exact a5
  · rw [qo _ (by omega) (by omega)]; exact a6
  · rw [qo _ (by omega) (by omega)]; exact a7
  · rw [qo _ (by omega) (by omega)]; exact a8 i hi
  · rcases i with _ | i
    · exact q14
    · simp only [List.length_cons] at hi
      rw [← Nat.add_assoc, q15 i (by omega)]
      exact a9 i (by omega)

set_option maxRecDepth 100000 in
set_option maxHeartbeats 4000000 in
theorem p_X11_firstOf {X : gj_X} {lim : Nat} {σ : gj_H} {v : gj_V} {m sn : Nat} {A : aS} {t : Int32} (hs : msh σ m) (hM : MR (v (m + 2)) A t sn) {b : Nat} (hb : b < 6) (hl : 0 < (A.2 b).length) : gj_E X 1 m_X11_firstOf [.ref m, .int (nI b)] lim σ v (q_i lim σ (fun z v' => z = (A.2 b).getD 0 0 ∧ mc v v' m (a_give A b).2 t sn)) := by
  obtain ⟨so, s1, s2, s3, s4, s5, s6, s7, s8, s9, s10, s11, s12⟩ := id hs
  have hB := hM.2.1 b hb
  obtain ⟨a0, a1, a2, a3, a4, a5, a6, a7, a8, a9, a10, a11⟩ := id hB
  have lp : ∀ (k i : Nat) (w : gj_V), w = gj_up v (m + 2) (shl (upd (v (m + 2)) (10 + 24 * b + 0) (nI ((A.2 b).length - 1))) (10 + 24 * b + 14) i) → i + k = (A.2 b).length - 1 → gj_G X 1 m_X11_firstOf (q_i lim σ (fun z v' => z = (A.2 b).getD 0 0 ∧ mc v v' m (a_give A b).2 t sn)) lim σ w 0 0 30 [some (.ref m), some (.int (nI b)), some (.int (nI (10 + 24 * b))), some (.int ((A.2 b).getD 0 0)), some (.int (nI i))] [] := by
    intro k
    induction k with
    | zero =>
      intro i w hw hk
      have ei : i = (A.2 b).length - 1 := by omega
      subst i
      have nw := congrFun hw (m + 2)
      rw [gu_s] at nw
      refine g_iload (q := 32) dX11_firstOf_30 rfl rfl ?_
      refine g_aload_n (q := 33) dX11_firstOf_32 rfl rfl ?_
      refine g_getR (q := 36) f_X11_13 (by assumption) rfl dX11_firstOf_33 rfl ?_
      refine g_iload_n (q := 37) dX11_firstOf_36 rfl rfl ?_
      refine g_iconst (q := 38) (x := 0) dX11_firstOf_37 (by decide) rfl ?_
      refine g_iadd (q := 39) dX11_firstOf_38 rfl ?_
      refine g_iald (q := 40) (by assumption) (by first | (simp only [gn_lit, nI_add, pk_mul]; exact rfl) | exact rfl) (by omega) (by decide) dX11_firstOf_39 rfl ?_
      refine g_icmpge (t := 75) (q := 43) dX11_firstOf_40 (by decide) rfl (fun hq40 => ?_) (fun hq40 => ?_)
      · refine g_aload_n (q := 76) dX11_firstOf_75 rfl rfl ?_
        refine g_getR (q := 79) f_X11_13 (by assumption) rfl dX11_firstOf_76 rfl ?_
        refine g_iload_n (q := 80) dX11_firstOf_79 rfl rfl ?_
        refine g_iconst (q := 81) (x := 3) dX11_firstOf_80 (by decide) rfl ?_
        refine g_iadd (q := 82) dX11_firstOf_81 rfl ?_
        refine g_dup2 (q := 83) dX11_firstOf_82 rfl rfl rfl ?_
        refine g_iald (q := 84) (by assumption) (by first | (simp only [gn_lit, nI_add, pk_mul]; exact rfl) | exact rfl) (by omega) (by decide) dX11_firstOf_83 rfl ?_
        refine g_iconst (q := 85) (x := 1) dX11_firstOf_84 (by decide) rfl ?_
        refine g_iadd (q := 86) dX11_firstOf_85 rfl ?_
        refine g_iast (q := 87) (by assumption) (by first | (simp only [gn_lit, nI_add, pk_mul]; exact rfl) | exact rfl) (by omega) (by decide) dX11_firstOf_86 rfl ?_
        refine g_gen (fun vq2 hvq2 => ?_)
        rw [gu_2, nw, hw, gu_u] at hvq2
        have n2 := congrFun hvq2 (m + 2)
        rw [gu_s] at n2
        refine g_iload_n (q := 88) dX11_firstOf_87 rfl rfl ?_
        refine r_i dX11_firstOf_88 rfl rfl rfl ?_
        refine ⟨rfl, vq2 (m + 2), by rw [n2]; exact hvq2, hM.buf hb (fun j hj => ?_) (show mb _ b (upd (A.1 (10 + b)) 5 (A.1 (10 + b) 5 + 1)) ((A.2 b).eraseIdx 0) (A.2 (10 + b)) from mb_give hB hl (fun i hi => ?_) ?_ ?_ (fun j g1 g2 g3 => ?_))⟩
        · rw [n2, ud_n _ _ (by omega), shl_o (by omega), ud_n _ _ (by omega)]
        · rw [n2, ud_n _ _ (by omega), shl_i (by omega), ud_n _ _ (by omega)]
        · rw [n2, ud_n _ _ (by omega), shl_o (by omega), ud_s]
        · rw [n2, ud_s, shl_o (by omega), ud_n _ _ (by omega), a3]
        · rw [n2, ud_n _ _ g3, shl_o (by omega), ud_n _ _ g2]
      · rw [nw, shl_o (by omega), ud_s] at hq40
        exact absurd (Int32.le_refl _) hq40
    | succ k ih =>
      intro i w hw hk
      have nw := congrFun hw (m + 2)
      rw [gu_s] at nw
      refine g_iload (q := 32) dX11_firstOf_30 rfl rfl ?_
      refine g_aload_n (q := 33) dX11_firstOf_32 rfl rfl ?_
      refine g_getR (q := 36) f_X11_13 (by assumption) rfl dX11_firstOf_33 rfl ?_
      refine g_iload_n (q := 37) dX11_firstOf_36 rfl rfl ?_
      refine g_iconst (q := 38) (x := 0) dX11_firstOf_37 (by decide) rfl ?_
      refine g_iadd (q := 39) dX11_firstOf_38 rfl ?_
      refine g_iald (q := 40) (by assumption) (by first | (simp only [gn_lit, nI_add, pk_mul]; exact rfl) | exact rfl) (by omega) (by decide) dX11_firstOf_39 rfl ?_
      refine g_icmpge (t := 75) (q := 43) dX11_firstOf_40 (by decide) rfl (fun hq40 => ?_) (fun hq40 => ?_)
      · rw [nw, shl_o (by omega), ud_s] at hq40
        exact absurd (gn_le hq40 (by omega)) (by omega)
      · refine g_aload_n (q := 44) dX11_firstOf_43 rfl rfl ?_
        refine g_getR (q := 47) f_X11_13 (by assumption) rfl dX11_firstOf_44 rfl ?_
        refine g_iload_n (q := 48) dX11_firstOf_47 rfl rfl ?_
        refine g_bipush (q := 50) (x := 14) dX11_firstOf_48 (by decide) rfl ?_
        refine g_iadd (q := 51) dX11_firstOf_50 rfl ?_
        refine g_iload (q := 53) dX11_firstOf_51 rfl rfl ?_
        refine g_iadd (q := 54) dX11_firstOf_53 rfl ?_
        refine g_aload_n (q := 55) dX11_firstOf_54 rfl rfl ?_
        refine g_getR (q := 58) f_X11_13 (by assumption) rfl dX11_firstOf_55 rfl ?_
        refine g_iload_n (q := 59) dX11_firstOf_58 rfl rfl ?_
        refine g_bipush (q := 61) (x := 14) dX11_firstOf_59 (by decide) rfl ?_
        refine g_iadd (q := 62) dX11_firstOf_61 rfl ?_
        refine g_iload (q := 64) dX11_firstOf_62 rfl rfl ?_
        refine g_iadd (q := 65) dX11_firstOf_64 rfl ?_
        refine g_iconst (q := 66) (x := 1) dX11_firstOf_65 (by decide) rfl ?_
        refine g_iadd (q := 67) dX11_firstOf_66 rfl ?_
        refine g_iald (q := 68) (by assumption) (by first | (simp only [gn_lit, nI_add, pk_mul]; exact rfl) | exact rfl) (by omega) (by decide) dX11_firstOf_67 rfl ?_
        refine g_iast (q := 69) (by assumption) (by first | (simp only [gn_lit, nI_add, pk_mul]; exact rfl) | exact rfl) (by omega) (by decide) dX11_firstOf_68 rfl ?_
        refine g_gen (fun vq3 hvq3 => ?_)
        rw [gu_2, nw, shl_s, hw, gu_u] at hvq3
        refine g_iinc (q := 72) (y := nI (i + 1)) dX11_firstOf_69 rfl (gn_inc i) rfl rfl rfl rfl ?_
        dsimp only [List.set]
        refine g_goto (q := 30) dX11_firstOf_72 (by decide) ?_
        exact ih (i + 1) vq3 hvq3 (by omega)
  refine gj_E_at (L := [some (.ref m), some (.int (nI b)), none, none, none]) (k := 3) rfl (by decide) rfl ?_
  refine g_iload_n (q := 1) dX11_firstOf_0 rfl rfl ?_
  refine c_Si (q := 4) (p_X11_atBuffer (b := b)) k_X11_54 (by decide) rfl rfl (Nat.le_of_ble_eq_true rfl) rfl rfl dX11_firstOf_1 rfl ?_
  rintro z0 w1 ⟨hz0, hw1⟩
  subst w1
  subst z0
  refine g_istore_n (q := 5) dX11_firstOf_4 rfl rfl rfl rfl ?_
  dsimp only [List.set]
  refine g_aload_n (q := 6) dX11_firstOf_5 rfl rfl ?_
  refine g_getR (q := 9) f_X11_13 (by assumption) rfl dX11_firstOf_6 rfl ?_
  refine g_iload_n (q := 10) dX11_firstOf_9 rfl rfl ?_
  refine g_bipush (q := 12) (x := 14) dX11_firstOf_10 (by decide) rfl ?_
  refine g_iadd (q := 13) dX11_firstOf_12 rfl ?_
  refine g_iald (q := 14) (by assumption) (by first | (simp only [gn_lit, nI_add, pk_mul]; exact rfl) | exact rfl) (by omega) (by decide) dX11_firstOf_13 rfl ?_
  have eq14 : v (m + 2) (10 + 24 * b + 14) = (A.2 b).getD 0 0 := a9 0 hl
  rw [eq14]
  refine g_istore_n (q := 15) dX11_firstOf_14 rfl rfl rfl rfl ?_
  dsimp only [List.set]
  refine g_aload_n (q := 16) dX11_firstOf_15 rfl rfl ?_
  refine g_getR (q := 19) f_X11_13 (by assumption) rfl dX11_firstOf_16 rfl ?_
  refine g_iload_n (q := 20) dX11_firstOf_19 rfl rfl ?_
  refine g_iconst (q := 21) (x := 0) dX11_firstOf_20 (by decide) rfl ?_
  refine g_iadd (q := 22) dX11_firstOf_21 rfl ?_
  refine g_dup2 (q := 23) dX11_firstOf_22 rfl rfl rfl ?_
  refine g_iald (q := 24) (by assumption) (by first | (simp only [gn_lit, nI_add, pk_mul]; exact rfl) | exact rfl) (by omega) (by decide) dX11_firstOf_23 rfl ?_
  refine g_iconst (q := 25) (x := 1) dX11_firstOf_24 (by decide) rfl ?_
  refine g_isub (q := 26) dX11_firstOf_25 rfl ?_
  refine g_iast (q := 27) (by assumption) (by first | (simp only [gn_lit, nI_add, pk_mul]; exact rfl) | exact rfl) (by omega) (by decide) dX11_firstOf_26 rfl ?_
  refine g_gen (fun vq1 hvq1 => ?_)
  rw [gu_2, a0] at hvq1
  have el : nI (A.2 b).length - 1 = nI ((A.2 b).length - 1) := by rw [show (A.2 b).length = (A.2 b).length - 1 + 1 by omega, rl_s]; rfl
  rw [el] at hvq1
  refine g_iconst (q := 28) (x := 0) dX11_firstOf_27 (by decide) rfl ?_
  refine g_istore (q := 30) dX11_firstOf_28 rfl rfl rfl rfl ?_
  dsimp only [List.set]
  exact lp ((A.2 b).length - 1) 0 vq1 (by rw [shl_0]; exact hvq1) (by omega)

theorem ge_mem {l : List Int32} (h : 0 < l.length) : l.getD 0 0 ∈ l := by
  rcases l with _ | ⟨a, l⟩
  · exact absurd h (by simp)
  · simp

set_option maxRecDepth 100000 in
set_option maxHeartbeats 4000000 in
theorem p_X11_take {X : gj_X} {lim : Nat} {σ : gj_H} {v : gj_V} {m sn : Nat} {A : aS} {t : Int32} (hs : msh σ m) (hM : MR (v (m + 2)) A t sn) {b : Nat} {w : Int32} (hb : b < 6) (hit : ∀ x ∈ A.2 b, 0 ≤ x ∧ x ≤ 9) : gj_E X 2 m_X11_take [.ref m, .int (nI b), .int w] lim σ v (q_i lim σ (fun z v' => z = (if (a_take A b w).1 = -5 then -1 else (a_take A b w).1) ∧ mc v v' m (a_take A b w).2 t sn)) := by
  obtain ⟨so, s1, s2, s3, s4, s5, s6, s7, s8, s9, s10, s11, s12⟩ := id hs
  refine gj_E_at (L := [some (.ref m), some (.int (nI b)), some (.int w), none]) (k := 1) rfl (by decide) rfl ?_
  refine g_aload_n (q := 1) dX11_take_0 rfl rfl ?_
  refine g_iload_n (q := 2) dX11_take_1 rfl rfl ?_
  refine c_Vv (q := 5) (p_X11_enters hs hM (g := b) (by omega)) k_X11_72 (by assumption) rfl (by decide) rfl rfl (Nat.le_of_ble_eq_true rfl) rfl rfl dX11_take_2 rfl ?_
  rintro vq1 hc1
  have hM1 := hc1.M
  have hB : mb (vq1 (m + 2)) b (A.1 (10 + b)) (A.2 b) (A.2 (10 + b)) := by
    have q := hM1.2.1 b hb
    rw [in_10] at q
    exact q
  obtain ⟨a0, a1, a2, a3, a4, a5, a6, a7, a8, a9, a10, a11⟩ := id hB
  refine g_aload_n (q := 6) dX11_take_5 rfl rfl ?_
  refine g_getR (q := 9) f_X11_13 (by assumption) rfl dX11_take_6 rfl ?_
  refine g_iload_n (q := 10) dX11_take_9 rfl rfl ?_
  refine c_Si (q := 13) (p_X11_atBuffer (b := b)) k_X11_54 (by decide) rfl rfl (Nat.le_of_ble_eq_true rfl) rfl rfl dX11_take_10 rfl ?_
  rintro z0 w1 ⟨hz0, hw1⟩
  subst w1
  subst z0
  refine g_iconst (q := 14) (x := 0) dX11_take_13 (by decide) rfl ?_
  refine g_iadd (q := 15) dX11_take_14 rfl ?_
  refine g_iald (q := 16) (by assumption) (by first | (simp only [gn_lit, nI_add, pk_mul]; exact rfl) | exact rfl) (by omega) (by decide) dX11_take_15 rfl ?_
  refine g_ifeq (t := 28) (q := 19) dX11_take_16 (by decide) rfl (fun hq16 => ?_) (fun hq16 => ?_)
  · rw [a0] at hq16
    have hcd : (gB A b).2.2.1 = [] ∨ b_kept (gB A b) w := Or.inl (show A.2 b = [] from List.length_eq_zero_iff.mp (nI_inj6 (b := 0) (by omega) (by omega) hq16))
    refine g_aload_n (q := 29) dX11_take_28 rfl rfl ?_
    refine g_iload_n (q := 30) dX11_take_29 rfl rfl ?_
    refine c_Vv (q := 33) (p_X11_thrownOut hs hM1 (g := b) (by omega)) k_X11_79 (by assumption) rfl (by decide) rfl rfl (Nat.le_of_ble_eq_true rfl) rfl rfl dX11_take_30 rfl ?_
    rintro vq2 hc2
    have hM2 := hc2.M
    refine g_iconst (q := 34) (x := (-1)) dX11_take_33 (by decide) rfl ?_
    refine r_i dX11_take_34 rfl rfl rfl ?_
    unfold a_take b_take
    rw [if_pos hcd]
    refine ⟨rfl, ?_⟩
    have hc := hc1.tr hc2
    rw [in_thr A b hb] at hc
    exact hc
  · rw [a0] at hq16
    have hl : 0 < (A.2 b).length := by
      rcases Nat.eq_zero_or_pos (A.2 b).length with q | q
      · exact absurd (by rw [q]; rfl) hq16
      · exact q
    refine g_aload_n (q := 20) dX11_take_19 rfl rfl ?_
    refine g_iload_n (q := 21) dX11_take_20 rfl rfl ?_
    refine g_iload_n (q := 22) dX11_take_21 rfl rfl ?_
    refine c_Vi (q := 25) (p_X11_isKeptFor hs hM1 hb) k_X11_75 (by assumption) rfl (by decide) rfl rfl (Nat.le_of_ble_eq_true rfl) rfl rfl dX11_take_22 rfl ?_
    rintro z0 w1 ⟨hz0, hw1⟩
    subst w1
    have ek : b_kept (gB (a_in A b) b) w = b_kept (gB A b) w := by unfold b_kept gB; dsimp only; rw [in_10]
    refine g_ifeq (t := 35) (q := 28) dX11_take_25 (by decide) rfl (fun hq25 => ?_) (fun hq25 => ?_)
    · rw [hz0] at hq25
      have hq25 := gn_b0 hq25
      rw [ek] at hq25
      have hcd : ¬ ((gB A b).2.2.1 = [] ∨ b_kept (gB A b) w) := fun q => q.elim (fun z => by have z2 : A.2 b = [] := z; rw [z2] at hl; exact absurd hl (by simp)) hq25
      refine g_aload_n (q := 36) dX11_take_35 rfl rfl ?_
      refine g_iload_n (q := 37) dX11_take_36 rfl rfl ?_
      refine c_Vi (q := 40) (p_X11_firstOf hs hM1 hb hl) k_X11_85 (by assumption) rfl (by decide) rfl rfl (Nat.le_of_ble_eq_true rfl) rfl rfl dX11_take_37 rfl ?_
      rintro y3 vq3 ⟨hy3, hc3⟩
      refine g_istore_n (q := 41) dX11_take_40 rfl rfl rfl rfl ?_
      dsimp only [List.set]
      refine g_aload_n (q := 42) dX11_take_41 rfl rfl ?_
      refine g_iload_n (q := 43) dX11_take_42 rfl rfl ?_
      refine c_Vv (q := 46) (p_X11_leaves hs hc3.M (g := b) (by omega)) k_X11_82 (by assumption) rfl (by decide) rfl rfl (Nat.le_of_ble_eq_true rfl) rfl rfl dX11_take_43 rfl ?_
      rintro vq4 hc4
      refine g_iload_n (q := 47) dX11_take_46 rfl rfl ?_
      refine r_i dX11_take_47 rfl rfl rfl ?_
      have eq5 : ¬ (A.2 b).getD 0 0 = -5 := fun z => absurd (hit _ (ge_mem hl)).1 (by rw [z]; decide)
      unfold a_take b_take
      rw [if_neg hcd]
      dsimp only
      refine ⟨?_, ?_⟩
      · rw [show (gB A b).2.2.1.getD 0 0 = (A.2 b).getD 0 0 from rfl, if_neg eq5]; exact hy3
      · have hc := (hc1.tr hc3).tr hc4
        unfold a_give b_give at hc
        dsimp only at hc
        rw [sB_out _ _ _ _ _ _ hb] at hc
        have eg : (gB (a_in A b) b).1 = ag_in (A.1 b) := sR_s _ _ _
        have ef : (gB (a_in A b) b).2.1 = A.1 (10 + b) := in_10 A b
        rw [eg, ef] at hc
        unfold a_in at hc
        rw [sB_in _ _ _ _ _ _ _ hb] at hc
        exact hc
    · rw [hz0] at hq25
      have hq25 := gn_b1 hq25
      rw [ek] at hq25
      have hcd : (gB A b).2.2.1 = [] ∨ b_kept (gB A b) w := Or.inr hq25
      refine g_aload_n (q := 29) dX11_take_28 rfl rfl ?_
      refine g_iload_n (q := 30) dX11_take_29 rfl rfl ?_
      refine c_Vv (q := 33) (p_X11_thrownOut hs hM1 (g := b) (by omega)) k_X11_79 (by assumption) rfl (by decide) rfl rfl (Nat.le_of_ble_eq_true rfl) rfl rfl dX11_take_30 rfl ?_
      rintro vq2 hc2
      have hM2 := hc2.M
      refine g_iconst (q := 34) (x := (-1)) dX11_take_33 (by decide) rfl ?_
      refine r_i dX11_take_34 rfl rfl rfl ?_
      unfold a_take b_take
      rw [if_pos hcd]
      refine ⟨rfl, ?_⟩
      have hc := hc1.tr hc2
      rw [in_thr A b hb] at hc
      exact hc

set_option maxRecDepth 100000 in
set_option maxHeartbeats 4000000 in
theorem p_X11_firstAgain {X : gj_X} {lim : Nat} {σ : gj_H} {v : gj_V} {m sn : Nat} {A : aS} {t : Int32} (hs : msh σ m) (hM : MR (v (m + 2)) A t sn) {b : Nat} {k : Int32} (hb : b < 6) (hl : (A.2 b).length < 6) : gj_E X 1 m_X11_firstAgain [.ref m, .int (nI b), .int k] lim σ v (q_v lim σ (fun v' => mc v v' m (sL A b (k :: A.2 b)) t sn)) := by
  obtain ⟨so, s1, s2, s3, s4, s5, s6, s7, s8, s9, s10, s11, s12⟩ := id hs
  have hB := hM.2.1 b hb
  obtain ⟨a0, a1, a2, a3, a4, a5, a6, a7, a8, a9, a10, a11⟩ := id hB
  have lp : ∀ (i : Nat) (w : gj_V), w = gj_up v (m + 2) (shr (v (m + 2)) (10 + 24 * b + 14) i (A.2 b).length) → i ≤ (A.2 b).length → gj_G X 1 m_X11_firstAgain (q_v lim σ (fun v' => mc v v' m (sL A b (k :: A.2 b)) t sn)) lim σ w 0 0 15 [some (.ref m), some (.int (nI b)), some (.int k), some (.int (nI (10 + 24 * b))), some (.int (nI i))] [] := by
    intro i
    induction i with
    | zero =>
      intro w hw hk
      have nw := congrFun hw (m + 2)
      rw [gu_s] at nw
      refine g_iload (q := 17) dX11_firstAgain_15 rfl rfl ?_
      refine g_ifle (t := 52) (q := 20) dX11_firstAgain_17 (by decide) rfl (fun hq17 => ?_) (fun hq17 => ?_)
      · refine g_aload_n (q := 53) dX11_firstAgain_52 rfl rfl ?_
        refine g_getR (q := 56) f_X11_13 (by assumption) rfl dX11_firstAgain_53 rfl ?_
        refine g_iload_n (q := 57) dX11_firstAgain_56 rfl rfl ?_
        refine g_bipush (q := 59) (x := 14) dX11_firstAgain_57 (by decide) rfl ?_
        refine g_iadd (q := 60) dX11_firstAgain_59 rfl ?_
        refine g_iload_n (q := 61) dX11_firstAgain_60 rfl rfl ?_
        refine g_iast (q := 62) (by assumption) (by first | (simp only [gn_lit, nI_add, pk_mul]; exact rfl) | exact rfl) (by omega) (by decide) dX11_firstAgain_61 rfl ?_
        refine g_gen (fun vq2 hvq2 => ?_)
        rw [gu_2, nw, hw, gu_u] at hvq2
        have n2 := congrFun hvq2 (m + 2)
        rw [gu_s] at n2
        refine g_aload_n (q := 63) dX11_firstAgain_62 rfl rfl ?_
        refine g_getR (q := 66) f_X11_13 (by assumption) rfl dX11_firstAgain_63 rfl ?_
        refine g_iload_n (q := 67) dX11_firstAgain_66 rfl rfl ?_
        refine g_iconst (q := 68) (x := 0) dX11_firstAgain_67 (by decide) rfl ?_
        refine g_iadd (q := 69) dX11_firstAgain_68 rfl ?_
        refine g_dup2 (q := 70) dX11_firstAgain_69 rfl rfl rfl ?_
        refine g_iald (q := 71) (by assumption) (by first | (simp only [gn_lit, nI_add, pk_mul]; exact rfl) | exact rfl) (by omega) (by decide) dX11_firstAgain_70 rfl ?_
        refine g_iconst (q := 72) (x := 1) dX11_firstAgain_71 (by decide) rfl ?_
        refine g_iadd (q := 73) dX11_firstAgain_72 rfl ?_
        refine g_iast (q := 74) (by assumption) (by first | (simp only [gn_lit, nI_add, pk_mul]; exact rfl) | exact rfl) (by omega) (by decide) dX11_firstAgain_73 rfl ?_
        refine g_gen (fun vq3 hvq3 => ?_)
        rw [gu_2, n2, hvq2, gu_u] at hvq3
        have n3 := congrFun hvq3 (m + 2)
        rw [gu_s] at n3
        refine r_v dX11_firstAgain_74 rfl rfl rfl ?_
        rw [← sB_items A b _ hb]
        refine ⟨vq3 (m + 2), by rw [n3]; exact hvq3, hM.buf hb (fun j hj => ?_) (mb_again hB hl ?_ (fun i hi => ?_) ?_ (fun j g1 g2 => ?_))⟩
        · rw [n3, ud_n _ _ (by omega), ud_n _ _ (by omega)]; exact if_neg (by omega)
        · rw [n3, ud_n _ _ (by omega), ud_s]
        · rw [n3, ud_n _ _ (by omega), ud_n _ _ (by omega)]; exact if_pos (by omega)
        · rw [n3, ud_s, ud_n _ _ (by omega), show shr (v (m + 2)) (10 + 24 * b + 14) 0 (A.2 b).length (10 + 24 * b + 0) = v (m + 2) (10 + 24 * b + 0) from if_neg (by omega), a0, nI_1]
        · rw [n3, ud_n _ _ g2, ud_n _ _ (by omega)]; exact if_neg (by omega)
      · exact absurd (by decide) hq17
    | succ i ih =>
      intro w hw hk
      have nw := congrFun hw (m + 2)
      rw [gu_s] at nw
      refine g_iload (q := 17) dX11_firstAgain_15 rfl rfl ?_
      refine g_ifle (t := 52) (q := 20) dX11_firstAgain_17 (by decide) rfl (fun hq17 => ?_) (fun hq17 => ?_)
      · exact absurd (gn_le0 (by omega) hq17) (by omega)
      · refine g_aload_n (q := 21) dX11_firstAgain_20 rfl rfl ?_
        refine g_getR (q := 24) f_X11_13 (by assumption) rfl dX11_firstAgain_21 rfl ?_
        refine g_iload_n (q := 25) dX11_firstAgain_24 rfl rfl ?_
        refine g_bipush (q := 27) (x := 14) dX11_firstAgain_25 (by decide) rfl ?_
        refine g_iadd (q := 28) dX11_firstAgain_27 rfl ?_
        refine g_iload (q := 30) dX11_firstAgain_28 rfl rfl ?_
        refine g_iadd (q := 31) dX11_firstAgain_30 rfl ?_
        refine g_aload_n (q := 32) dX11_firstAgain_31 rfl rfl ?_
        refine g_getR (q := 35) f_X11_13 (by assumption) rfl dX11_firstAgain_32 rfl ?_
        refine g_iload_n (q := 36) dX11_firstAgain_35 rfl rfl ?_
        refine g_bipush (q := 38) (x := 14) dX11_firstAgain_36 (by decide) rfl ?_
        refine g_iadd (q := 39) dX11_firstAgain_38 rfl ?_
        refine g_iload (q := 41) dX11_firstAgain_39 rfl rfl ?_
        refine g_iadd (q := 42) dX11_firstAgain_41 rfl ?_
        refine g_iconst (q := 43) (x := 1) dX11_firstAgain_42 (by decide) rfl ?_
        refine g_isub (q := 44) dX11_firstAgain_43 rfl ?_
        refine g_iald (q := 45) (by assumption) (show nI (10 + 24 * b) + 14 + nI (i + 1) - 1 = nI (10 + 24 * b + 14 + i) by simp only [gn_lit, nI_add, pk_mul]; exact rl_s) (by omega) (by decide) dX11_firstAgain_44 rfl ?_
        refine g_iast (q := 46) (by assumption) (show nI (10 + 24 * b) + 14 + nI (i + 1) = nI (10 + 24 * b + 14 + (i + 1)) by simp only [gn_lit, nI_add, pk_mul]) (by omega) (by decide) dX11_firstAgain_45 rfl ?_
        refine g_gen (fun vq3 hvq3 => ?_)
        rw [gu_2, nw, shr_s _ _ _ _ (by omega), hw, gu_u] at hvq3
        refine g_iinc (q := 49) (y := nI i) dX11_firstAgain_46 rfl (gn_dec i) rfl rfl rfl rfl ?_
        dsimp only [List.set]
        refine g_goto (q := 15) dX11_firstAgain_49 (by decide) ?_
        exact ih vq3 hvq3 (by omega)
  refine gj_E_at (L := [some (.ref m), some (.int (nI b)), some (.int k), none, none]) (k := 2) rfl (by decide) rfl ?_
  refine g_iload_n (q := 1) dX11_firstAgain_0 rfl rfl ?_
  refine c_Si (q := 4) (p_X11_atBuffer (b := b)) k_X11_54 (by decide) rfl rfl (Nat.le_of_ble_eq_true rfl) rfl rfl dX11_firstAgain_1 rfl ?_
  rintro z0 w1 ⟨hz0, hw1⟩
  subst w1
  subst z0
  refine g_istore_n (q := 5) dX11_firstAgain_4 rfl rfl rfl rfl ?_
  dsimp only [List.set]
  refine g_aload_n (q := 6) dX11_firstAgain_5 rfl rfl ?_
  refine g_getR (q := 9) f_X11_13 (by assumption) rfl dX11_firstAgain_6 rfl ?_
  refine g_iload_n (q := 10) dX11_firstAgain_9 rfl rfl ?_
  refine g_iconst (q := 11) (x := 0) dX11_firstAgain_10 (by decide) rfl ?_
  refine g_iadd (q := 12) dX11_firstAgain_11 rfl ?_
  refine g_iald (q := 13) (by assumption) (by first | (simp only [gn_lit, nI_add, pk_mul]; exact rfl) | exact rfl) (by omega) (by decide) dX11_firstAgain_12 rfl ?_
  rw [a0]
  refine g_istore (q := 15) dX11_firstAgain_13 rfl rfl rfl rfl ?_
  dsimp only [List.set]
  exact lp (A.2 b).length v (by rw [shr_n, gu_id]) (Nat.le_refl _)
