/-! ===== the reference: stations ===== -/
theorem ms_hi {N : Nat → Int32} {s k : Nat} {S : Nat → Int32} {z : Int32} (h : ms N s S) (h1 : 9 ≤ k) (h2 : k < 12) : ms (upd N (190 + 12 * s + k) z) s (upd S k z) := by
  obtain ⟨a, b, c, d⟩ := h
  refine ⟨fun j hj => ?_, fun q => ?_, fun q => ?_, fun j j1 j2 => ?_⟩
  · rw [ud_n _ _ (by omega), ud_n _ _ (by omega)]; exact a j hj
  · rw [ud_n _ _ (by omega)] at q
    rw [ud_n _ _ (by omega), ud_n _ _ (by omega)]; exact b q
  · rw [ud_n _ _ (by omega)] at q
    rw [ud_n _ _ (by omega), ud_n _ _ (by omega)]; exact c q
  · by_cases e : j = k
    · subst e; rw [ud_s, ud_s]
    · rw [ud_n _ _ (by omega), ud_n _ _ e]; exact d j j1 j2
theorem give_comm {C : aS} {i j : Nat} (hi : i < 6) (hj : j < 6) (h : i ≠ j) : (a_give (a_give C i).2 j).2 = (a_give (a_give C j).2 i).2 ∧ (a_give (a_give C i).2 j).1 = (a_give C j).1 := by
  have e1 : gB (a_give C i).2 j = gB C j := gB_n _ _ _ _ hi hj (Ne.symm h)
  have e2 : gB (a_give C j).2 i = gB C i := gB_n _ _ _ _ hj hi h
  have f1 : (a_give (a_give C i).2 j).2 = sB (sB C i (b_give (gB C i)).2) j (b_give (gB C j)).2 := by
    show sB (a_give C i).2 j (b_give (gB (a_give C i).2 j)).2 = _
    rw [e1]; rfl
  have f2 : (a_give (a_give C j).2 i).2 = sB (sB C j (b_give (gB C j)).2) i (b_give (gB C i)).2 := by
    show sB (a_give C j).2 i (b_give (gB (a_give C j).2 i)).2 = _
    rw [e2]; rfl
  refine ⟨?_, ?_⟩
  · rw [f1, f2]
    generalize (b_give (gB C i)).2 = B1
    generalize (b_give (gB C j)).2 = B2
    have key : ∀ {α : Type} (g : Nat → α) (a1 a2 b1 b2 : α), va_up (va_up (va_up (va_up g i a1) (10 + i) a2) j b1) (10 + j) b2 = va_up (va_up (va_up (va_up g j b1) (10 + j) b2) i a1) (10 + i) a2 := by
      intro α g a1 a2 b1 b2
      funext q
      by_cases q1 : q = i
      · subst q1; rw [vu_n _ _ (by omega), vu_n _ _ (by omega), vu_n _ _ (by omega), vu_s, vu_n _ _ (by omega), vu_s]
      by_cases q2 : q = 10 + i
      · subst q2; rw [vu_n _ _ (by omega), vu_n _ _ (by omega), vu_s, vu_s]
      by_cases q3 : q = j
      · subst q3; rw [vu_n _ _ (by omega), vu_s, vu_n _ _ (by omega), vu_n _ _ (by omega), vu_n _ _ (by omega), vu_s]
      by_cases q4 : q = 10 + j
      · subst q4; rw [vu_s, vu_n _ _ (by omega), vu_n _ _ (by omega), vu_s]
      · rw [vu_n _ _ q4, vu_n _ _ q3, vu_n _ _ q2, vu_n _ _ q1, vu_n _ _ q2, vu_n _ _ q1, vu_n _ _ q4, vu_n _ _ q3]
    exact Prod.ext (key _ _ _ _ _) (key _ _ _ _ _)
  · show (b_give (gB (a_give C i).2 j)).1 = _
    rw [e1]; rfl

set_option maxRecDepth 100000 in
set_option maxHeartbeats 4000000 in
theorem p_X11_starts {X : gj_X} {lim : Nat} {σ : gj_H} {v : gj_V} {m sn : Nat} {A : aS} {t : Int32} (hs : msh σ m) (hM : MR (v (m + 2)) A t sn) {s : Nat} {k : Int32} (hsn : s < sn) (hk : ¬ k = -5) : gj_E X 0 m_X11_starts [.ref m, .int (nI (190 + 12 * s)), .int k] lim σ v (q_v lim σ (fun v' => mc v v' m (sR A (20 + s) (as_load (A.1 (20 + s)) k)) t sn)) := by
  obtain ⟨so, s1, s2, s3, s4, s5, s6, s7, s8, s9, s10, s11, s12⟩ := id hs
  have hs6 := hM.2.2.2.2.2.2
  refine gj_E_at (L := [some (.ref m), some (.int (nI (190 + 12 * s))), some (.int k)]) (k := 0) rfl (by decide) rfl ?_
  refine g_aload_n (q := 1) dX11_starts_0 rfl rfl ?_
  refine g_getR (q := 4) f_X11_13 (by assumption) rfl dX11_starts_1 rfl ?_
  refine g_iload_n (q := 5) dX11_starts_4 rfl rfl ?_
  refine g_bipush (q := 7) (x := 6) dX11_starts_5 (by decide) rfl ?_
  refine g_iadd (q := 8) dX11_starts_7 rfl ?_
  refine g_iconst (q := 9) (x := 1) dX11_starts_8 (by decide) rfl ?_
  refine g_iast (q := 10) (by assumption) (by first | (simp only [gn_lit, nI_add, pk_mul]; exact rfl) | exact rfl) (by omega) (by decide) dX11_starts_9 rfl ?_
  refine g_gen (fun vq1 hvq1 => ?_)
  rw [gu_2] at hvq1
  have n1 := congrFun hvq1 (m + 2)
  rw [gu_s] at n1
  refine g_aload_n (q := 11) dX11_starts_10 rfl rfl ?_
  refine g_getR (q := 14) f_X11_13 (by assumption) rfl dX11_starts_11 rfl ?_
  refine g_iload_n (q := 15) dX11_starts_14 rfl rfl ?_
  refine g_bipush (q := 17) (x := 7) dX11_starts_15 (by decide) rfl ?_
  refine g_iadd (q := 18) dX11_starts_17 rfl ?_
  refine g_aload_n (q := 19) dX11_starts_18 rfl rfl ?_
  refine g_getR (q := 22) f_X11_13 (by assumption) rfl dX11_starts_19 rfl ?_
  refine g_iload_n (q := 23) dX11_starts_22 rfl rfl ?_
  refine g_iconst (q := 24) (x := 3) dX11_starts_23 (by decide) rfl ?_
  refine g_iadd (q := 25) dX11_starts_24 rfl ?_
  refine g_iald (q := 26) (by assumption) (by first | (simp only [gn_lit, nI_add, pk_mul]; exact rfl) | exact rfl) (by omega) (by decide) dX11_starts_25 rfl ?_
  refine g_iast (q := 27) (by assumption) (by first | (simp only [gn_lit, nI_add, pk_mul]; exact rfl) | exact rfl) (by omega) (by decide) dX11_starts_26 rfl ?_
  refine g_gen (fun vq2 hvq2 => ?_)
  rw [gu_2, n1, hvq1, gu_u] at hvq2
  have n2 := congrFun hvq2 (m + 2)
  rw [gu_s] at n2
  refine g_aload_n (q := 28) dX11_starts_27 rfl rfl ?_
  refine g_getR (q := 31) f_X11_13 (by assumption) rfl dX11_starts_28 rfl ?_
  refine g_iload_n (q := 32) dX11_starts_31 rfl rfl ?_
  refine g_bipush (q := 34) (x := 8) dX11_starts_32 (by decide) rfl ?_
  refine g_iadd (q := 35) dX11_starts_34 rfl ?_
  refine g_iload_n (q := 36) dX11_starts_35 rfl rfl ?_
  refine g_aload_n (q := 37) dX11_starts_36 rfl rfl ?_
  refine g_getR (q := 40) f_X11_13 (by assumption) rfl dX11_starts_37 rfl ?_
  refine g_iload_n (q := 41) dX11_starts_40 rfl rfl ?_
  refine g_iconst (q := 42) (x := 4) dX11_starts_41 (by decide) rfl ?_
  refine g_iadd (q := 43) dX11_starts_42 rfl ?_
  refine g_iald (q := 44) (by assumption) (by first | (simp only [gn_lit, nI_add, pk_mul]; exact rfl) | exact rfl) (by omega) (by decide) dX11_starts_43 rfl ?_
  refine g_iadd (q := 45) dX11_starts_44 rfl ?_
  refine g_bipush (q := 47) (x := 10) dX11_starts_45 (by decide) rfl ?_
  refine g_irem (q := 48) dX11_starts_47 (by decide) rfl ?_
  refine g_iast (q := 49) (by assumption) (by first | (simp only [gn_lit, nI_add, pk_mul]; exact rfl) | exact rfl) (by omega) (by decide) dX11_starts_48 rfl ?_
  refine g_gen (fun vq3 hvq3 => ?_)
  rw [gu_2, n2, hvq2, gu_u] at hvq3
  have n3 := congrFun hvq3 (m + 2)
  rw [gu_s] at n3
  refine r_v dX11_starts_49 rfl rfl rfl ?_
  rw [as_load, if_neg hk]
  obtain ⟨a, b, c, d⟩ := hM.2.2.2.1 s hsn
  have t3 := a 3 (by omega)
  have t4 := a 4 (by omega)
  refine ⟨vq3 (m + 2), by rw [n3]; exact hvq3, hM.stat hsn (fun i hi => ?_) ⟨fun j hj => ?_, fun _ => ?_, fun _ => ?_, fun j j1 j2 => ?_⟩⟩
  · rw [n3]
    repeat rw [ud_n _ _ (by omega)]
  · rw [n3, ud_n _ _ (by omega), ud_n _ _ (by omega)]
    rw [ud_n (upd (upd (A.1 (20 + s)) 6 1) 7 (A.1 (20 + s) 3)) _ (show j ≠ 8 by omega), ud_n (upd (A.1 (20 + s)) 6 1) _ (show j ≠ 7 by omega)]
    by_cases e : j = 6
    · subst e; rw [ud_s, ud_s]
    · rw [ud_n _ _ (by omega), ud_n _ _ e]; exact a j hj
  · rw [n3, ud_n _ _ (by omega), ud_s, ud_n _ _ (by omega), ud_n _ _ (by decide), ud_s]; exact t3
  · rw [n3, ud_s, ud_s]
    repeat (first | rw [ud_s] | rw [ud_n _ _ (by omega)])
    rw [t4]
  · rw [n3]
    repeat rw [ud_n _ _ (by omega)]
    exact d j j1 j2

set_option maxRecDepth 100000 in
set_option maxHeartbeats 4000000 in
theorem p_X11_takesOne {X : gj_X} {lim : Nat} {σ : gj_H} {v : gj_V} {m sn : Nat} {A : aS} {t : Int32} (hs : msh σ m) (hM : MR (v (m + 2)) A t sn) {s i : Nat} (hsn : s < sn) (hi : i < 6) (hB : ivB A) (h0 : A.1 (20 + s) 0 = nI i) : gj_E X 3 m_X11_takesOne [.ref m, .int (nI (190 + 12 * s))] lim σ v (q_v lim σ (fun v' => mc v v' m (sR (a_take A i (-1)).2 (20 + s) (as_load (A.1 (20 + s)) (a_take A i (-1)).1)) t sn)) := by
  obtain ⟨so, s1, s2, s3, s4, s5, s6, s7, s8, s9, s10, s11, s12⟩ := id hs
  have hs6 := hM.2.2.2.2.2.2
  refine gj_E_at (L := [some (.ref m), some (.int (nI (190 + 12 * s))), none]) (k := 1) rfl (by decide) rfl ?_
  refine g_aload_n (q := 1) dX11_takesOne_0 rfl rfl ?_
  refine g_aload_n (q := 2) dX11_takesOne_1 rfl rfl ?_
  refine g_getR (q := 5) f_X11_13 (by assumption) rfl dX11_takesOne_2 rfl ?_
  refine g_iload_n (q := 6) dX11_takesOne_5 rfl rfl ?_
  refine g_iconst (q := 7) (x := 0) dX11_takesOne_6 (by decide) rfl ?_
  refine g_iadd (q := 8) dX11_takesOne_7 rfl ?_
  refine g_iald (q := 9) (by assumption) (by first | (simp only [gn_lit, nI_add, pk_mul]; exact rfl) | exact rfl) (by omega) (by decide) dX11_takesOne_8 rfl ?_
  rw [(hM.2.2.2.1 s hsn).1 0 (by omega), h0]
  refine g_iconst (q := 10) (x := (-1)) dX11_takesOne_9 (by decide) rfl ?_
  refine c_Vi (q := 13) (p_X11_take hs hM (w := -1) hi (hB i hi).2.2) k_X11_95 (by assumption) rfl (by decide) rfl rfl (Nat.le_of_ble_eq_true rfl) rfl rfl dX11_takesOne_10 rfl ?_
  rintro y1 vq1 ⟨hy1, hc1⟩
  have hM1 := hc1.M
  have ew : (a_take A i (-1)).2.1 (20 + s) = A.1 (20 + s) := (co_take hi).1 _ (by omega)
  have a11 := (hM1.2.2.2.1 s hsn).2.2.2 11 (by omega) (by omega)
  rw [ew] at a11
  refine g_istore_n (q := 14) dX11_takesOne_13 rfl rfl rfl rfl ?_
  dsimp only [List.set]
  refine g_iload_n (q := 15) dX11_takesOne_14 rfl rfl ?_
  refine g_iconst (q := 16) (x := (-1)) dX11_takesOne_15 (by decide) rfl ?_
  refine g_icmpne (t := 35) (q := 19) dX11_takesOne_16 (by decide) rfl (fun hq16 => ?_) (fun hq16 => ?_)
  · have ht : ¬ (a_take A i (-1)).1 = -5 := fun z => hq16 (by rw [hy1, if_pos z])
    rw [if_neg ht] at hy1
    subst y1
    refine g_aload_n (q := 36) dX11_takesOne_35 rfl rfl ?_
    refine g_iload_n (q := 37) dX11_takesOne_36 rfl rfl ?_
    refine g_iload_n (q := 38) dX11_takesOne_37 rfl rfl ?_
    refine c_Vv (q := 41) (p_X11_starts hs hM1 hsn ht) k_X11_112 (by assumption) rfl (by decide) rfl rfl (Nat.le_of_ble_eq_true rfl) rfl rfl dX11_takesOne_38 rfl ?_
    rintro vq2 hc2
    rw [ew] at hc2
    refine r_v dX11_takesOne_41 rfl rfl rfl ?_
    first | (exact hc1.tr hc2) | (unfold as_load; rw [if_pos ht]; exact hc1.tr hc2)
  · have ht : (a_take A i (-1)).1 = -5 := by
      by_cases z : (a_take A i (-1)).1 = -5
      · exact z
      · rw [hy1, if_neg z] at hq16
        exact absurd (b_take_kind (hB i hi) z).2.2.1 (by rw [show (b_take (gB A i) (-1)).1 = -1 from hq16]; decide)
    refine g_aload_n (q := 20) dX11_takesOne_19 rfl rfl ?_
    refine g_getR (q := 23) f_X11_13 (by assumption) rfl dX11_takesOne_20 rfl ?_
    refine g_iload_n (q := 24) dX11_takesOne_23 rfl rfl ?_
    refine g_bipush (q := 26) (x := 11) dX11_takesOne_24 (by decide) rfl ?_
    refine g_iadd (q := 27) dX11_takesOne_26 rfl ?_
    refine g_dup2 (q := 28) dX11_takesOne_27 rfl rfl rfl ?_
    refine g_iald (q := 29) (by assumption) (by first | (simp only [gn_lit, nI_add, pk_mul]; exact rfl) | exact rfl) (by omega) (by decide) dX11_takesOne_28 rfl ?_
    refine g_iconst (q := 30) (x := 1) dX11_takesOne_29 (by decide) rfl ?_
    refine g_iadd (q := 31) dX11_takesOne_30 rfl ?_
    refine g_iast (q := 32) (by assumption) (by first | (simp only [gn_lit, nI_add, pk_mul]; exact rfl) | exact rfl) (by omega) (by decide) dX11_takesOne_31 rfl ?_
    refine g_gen (fun vq2 hvq2 => ?_)
    rw [gu_2] at hvq2
    have hc2 : mc vq1 vq2 m (sR (a_take A i (-1)).2 (20 + s) (upd (A.1 (20 + s)) 11 (A.1 (20 + s) 11 + 1))) t sn := by
      refine ⟨_, hvq2, hM1.stat hsn (fun i hi => ud_n _ _ (by omega)) ?_⟩
      have q := hM1.2.2.2.1 s hsn
      rw [ew] at q
      rw [a11]
      exact ms_hi q (by omega) (by omega)
    refine g_goto (q := 41) dX11_takesOne_32 (by decide) ?_
    refine r_v dX11_takesOne_41 rfl rfl rfl ?_
    first | (exact hc1.tr hc2) | (unfold as_load; rw [if_pos ht]; exact hc1.tr hc2)
