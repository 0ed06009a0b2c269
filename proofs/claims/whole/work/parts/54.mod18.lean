theorem put_sR {A : aS} {b i : Nat} {f : Nat → Int32} {B : bS} (hb : b < 6) (hi : 16 ≤ i) : sB (sR A i f) b B = sR (sB A b B) i f := by
  refine Prod.ext (funext fun q => ?_) rfl
  simp only [sB, sR]
  by_cases e1 : q = i
  · subst e1; rw [vu_n _ _ (by omega), vu_n _ _ (by omega), vu_s, vu_s]
  · rw [vu_n (va_up (va_up A.1 b B.1) (10 + b) B.2.1) _ e1]
    by_cases e2 : q = 10 + b
    · subst e2; rw [vu_s, vu_s]
    · rw [vu_n _ _ e2, vu_n _ _ e2]
      by_cases e3 : q = b
      · subst e3; rw [vu_s, vu_s]
      · rw [vu_n _ _ e3, vu_n _ _ e3, vu_n _ _ e1]
theorem ask_tri {A : aS} {w b : Nat} {p k : Int32} (hw : w < 6) (hb : b < 6) (hp : p = 0 ∨ p = 1) (hno : noW (A.1 (30 + w))) :
    (a_try (z_ask0 A w (nI b) p k) w).1 = (if (a_tri A w b p k).1 = 0 then 0 else 1) ∧
    ((a_tri A w b p k).1 = 0 → (a_try (z_ask0 A w (nI b) p k) w).2 = sR (a_tri A w b p k).2 (30 + w) (aw_for (A.1 (30 + w)) (nI b) p k) ∧ (a_tri A w b p k).2.1 (30 + w) = A.1 (30 + w)) ∧
    (¬ (a_tri A w b p k).1 = 0 → ∃ W', (a_try (z_ask0 A w (nI b) p k) w).2 = sR (a_tri A w b p k).2 (30 + w) W' ∧ ∀ q, q < 4 → W' q = (a_tri A w b p k).2.1 (30 + w) q) := by
  have er : (z_ask0 A w (nI b) p k).1 (30 + w) = aw_for (A.1 (30 + w)) (nI b) p k := sR_s _ _ _
  have r0 : aw_for (A.1 (30 + w)) (nI b) p k 0 = nI b := by unfold aw_for; simp [upd]
  have r1 : aw_for (A.1 (30 + w)) (nI b) p k 1 = p := by unfold aw_for; simp [upd]
  have r2 : aw_for (A.1 (30 + w)) (nI b) p k 2 = (if p = 0 then k else -1) := by unfold aw_for; simp [upd]
  have gb : gB (z_ask0 A w (nI b) p k) b = gB A b := gB_r _ _ _ _ (by omega) (by omega)
  have ep : ∀ kk, a_put (z_ask0 A w (nI b) p k) b kk (nI w) = ((a_put A b kk (nI w)).1, sR (a_put A b kk (nI w)).2 (30 + w) (aw_for (A.1 (30 + w)) (nI b) p k)) := by
    intro kk
    unfold a_put
    rw [gb]
    exact Prod.ext rfl (put_sR hb (by omega))
  have et : a_take (z_ask0 A w (nI b) p k) b (nI w) = ((a_take A b (nI w)).1, sR (a_take A b (nI w)).2 (30 + w) (aw_for (A.1 (30 + w)) (nI b) p k)) := by
    unfold a_take
    rw [gb]
    exact Prod.ext rfl (put_sR hb (by omega))
  have cp : ∀ kk, (a_put A b kk (nI w)).2.1 (30 + w) = A.1 (30 + w) := fun kk => (co_put hb).1 _ (by omega)
  have ct : (a_take A b (nI w)).2.1 (30 + w) = A.1 (30 + w) := (co_take hb).1 _ (by omega)
  obtain ⟨n0, n1, n2⟩ := hno
  unfold a_try a_tri
  rw [er, r0, r1, r2, iN_n (by omega)]
  rcases hp with rfl | rfl
  · rw [if_pos rfl, if_pos rfl, if_pos rfl, ep k]
    dsimp only
    by_cases h1 : (a_put A b k (nI w)).1 = 0
    · rw [if_pos h1, if_pos h1]
      exact ⟨rfl, fun _ => ⟨rfl, cp k⟩, fun z => absurd h1 z⟩
    · rw [if_neg h1, if_neg h1]
      refine ⟨rfl, fun z => absurd z h1, fun _ => ⟨aw_no (aw_for (A.1 (30 + w)) (nI b) 0 k), by dsimp only; rw [sR_sR], fun q hq => ?_⟩⟩
      rw [cp k]
      rcases (show q = 0 ∨ q = 1 ∨ q = 2 ∨ q = 3 by omega) with rfl | rfl | rfl | rfl
      · rw [n0]; unfold aw_no aw_for; simp [upd]
      · rw [n1]; unfold aw_no aw_for; simp [upd]
      · rw [n2]; unfold aw_no aw_for; simp [upd]
      · unfold aw_no aw_for; simp [upd]
  · rw [if_neg (show ¬ (1 : Int32) = 0 by decide), if_neg (show ¬ (1 : Int32) = 0 by decide), et]
    dsimp only
    by_cases h1 : (a_take A b (nI w)).1 = -5
    · rw [if_pos h1, if_pos h1]
      exact ⟨rfl, fun _ => ⟨rfl, ct⟩, fun z => absurd rfl z⟩
    · rw [if_neg h1, if_neg h1]
      refine ⟨rfl, fun z => absurd z (show ¬ (1 : Int32) = 0 by decide), fun _ => ⟨aw_no (upd (aw_for (A.1 (30 + w)) (nI b) 1 k) 3 (a_take A b (nI w)).1), by dsimp only; rw [sR_sR, sR_sR], fun q hq => ?_⟩⟩
      rw [sR_s]
      rcases (show q = 0 ∨ q = 1 ∨ q = 2 ∨ q = 3 by omega) with rfl | rfl | rfl | rfl
      · rw [ud_n _ _ (by decide), n0]; unfold aw_no aw_for; simp [upd]
      · rw [ud_n _ _ (by decide), n1]; unfold aw_no aw_for; simp [upd]
      · rw [ud_n _ _ (by decide), n2]; unfold aw_no aw_for; simp [upd]
      · rw [ud_s]; unfold aw_no aw_for; simp [upd]
theorem mw_eq {N : Nat → Int32} {w : Nat} {W W' : Nat → Int32} (h : mw N w W) (he : ∀ q, q < 4 → W' q = W q) : mw N w W' := by
  obtain ⟨a, b, c, d, e⟩ := h
  exact ⟨by rw [he 1 (by omega)]; exact a, by rw [he 0 (by omega)]; exact b, by rw [he 1 (by omega)]; exact c, by rw [he 2 (by omega)]; exact d, by rw [he 3 (by omega)]; exact e⟩

theorem tri_l {A : aS} {w b i : Nat} {p k : Int32} (hb : b < 6) (hi : 6 ≤ i) : (a_tri A w b p k).2.2 i = A.2 i := by
  unfold a_tri
  split
  · exact (co_put hb).2 i hi
  · split
    · exact (co_take hb).2 i hi
    · exact (co_take hb).2 i hi

set_option maxRecDepth 100000 in
set_option maxHeartbeats 4000000 in
theorem p_X11_asks {X : gj_X} {lim : Nat} {σ : gj_H} {v : gj_V} {m : Nat} {A : aS} {t : Int32} {l : List (aS × Int32)} {tx : List Int32} {c : Nat → Int32} {n sn : Nat} (hs : msh σ m) (hG : MG v m A t l tx c) (hI : IV A n sn) {w b p k : Int32} : gj_E X 6 m_X11_asks [.ref m, .int w, .int b, .int p, .int k] lim σ v (q_i lim σ (fun z v' => sp_asks A t l tx c w b p k z (MG v' m) ∧ fm v v' m)) := by
  obtain ⟨so, s1, s2, s3, s4, s5, s6, s7, s8, s9, s10, s11, s12⟩ := id hs
  have hn6 := hI.2.1.2.2.2.1
  have hn1 := hI.2.1.2.2.1
  have hsn6 := hI.2.1.2.2.2.2.1
  have esn : sno A = sn := sn_eq hI
  have hM0 := hG.1
  refine gj_E_at (L := [some (.ref m), some (.int w), some (.int b), some (.int p), some (.int k), none, none]) (k := 2) rfl (by decide) rfl ?_
  refine g_iload_n (q := 1) dX11_asks_0 rfl rfl ?_
  refine c_Si (q := 4) p_X11_isWorker k_X11_162 (by decide) rfl rfl (Nat.le_of_ble_eq_true rfl) rfl rfl dX11_asks_1 rfl ?_
  rintro z w1 ⟨rfl, hw1⟩
  subst w1
  refine g_ifeq (t := 35) (q := 7) dX11_asks_4 (by decide) rfl (fun hq4 => ?_) (fun hq4 => ?_)
  · have hq4 := gn_b0 hq4
    refine g_aload_n (q := 36) dX11_asks_35 rfl rfl ?_
    refine c_Vi (q := 39) (p_X11_bad hs hG) k_X11_130 (by assumption) rfl (by decide) rfl rfl (Nat.le_of_ble_eq_true rfl) rfl rfl dX11_asks_36 rfl ?_
    rintro z w1 ⟨hz1, hG1, E1⟩
    refine r_i dX11_asks_39 rfl rfl rfl ?_
    rw [sp_asks, if_neg (by intro h; first | exact hq4 h.1 | exact hq12 h.2.1 | exact hq21 h.2.2.1 | exact hq32 h.2.2.2)]
    exact ⟨⟨hz1, hG1⟩, E1⟩
  · have hq4 := gn_b1 hq4
    refine g_aload_n (q := 8) dX11_asks_7 rfl rfl ?_
    refine g_iload_n (q := 9) dX11_asks_8 rfl rfl ?_
    refine c_Vi (q := 12) (p_X11_isBuffer hs hG.1 hI.2.1.1 hn6) k_X11_136 (by assumption) rfl (by decide) rfl rfl (Nat.le_of_ble_eq_true rfl) rfl rfl dX11_asks_9 rfl ?_
    rintro z w1 ⟨rfl, hw1⟩
    subst w1
    refine g_ifeq (t := 35) (q := 15) dX11_asks_12 (by decide) rfl (fun hq12 => ?_) (fun hq12 => ?_)
    · have hq12 := gn_b0 hq12
      refine g_aload_n (q := 36) dX11_asks_35 rfl rfl ?_
      refine c_Vi (q := 39) (p_X11_bad hs hG) k_X11_130 (by assumption) rfl (by decide) rfl rfl (Nat.le_of_ble_eq_true rfl) rfl rfl dX11_asks_36 rfl ?_
      rintro z w1 ⟨hz1, hG1, E1⟩
      refine r_i dX11_asks_39 rfl rfl rfl ?_
      rw [sp_asks, if_neg (by intro h; first | exact hq4 h.1 | exact hq12 h.2.1 | exact hq21 h.2.2.1 | exact hq32 h.2.2.2)]
      exact ⟨⟨hz1, hG1⟩, E1⟩
    · have hq12 := gn_b1 hq12
      refine g_iload_n (q := 16) dX11_asks_15 rfl rfl ?_
      refine g_iconst (q := 17) (x := 0) dX11_asks_16 (by decide) rfl ?_
      refine g_iconst (q := 18) (x := 1) dX11_asks_17 (by decide) rfl ?_
      refine c_Si (q := 21) p_X11_in k_X11_50 (by decide) rfl rfl (Nat.le_of_ble_eq_true rfl) rfl rfl dX11_asks_18 rfl ?_
      rintro z w1 ⟨rfl, hw1⟩
      subst w1
      refine g_ifeq (t := 35) (q := 24) dX11_asks_21 (by decide) rfl (fun hq21 => ?_) (fun hq21 => ?_)
      · have hq21 := gn_b0 hq21
        refine g_aload_n (q := 36) dX11_asks_35 rfl rfl ?_
        refine c_Vi (q := 39) (p_X11_bad hs hG) k_X11_130 (by assumption) rfl (by decide) rfl rfl (Nat.le_of_ble_eq_true rfl) rfl rfl dX11_asks_36 rfl ?_
        rintro z w1 ⟨hz1, hG1, E1⟩
        refine r_i dX11_asks_39 rfl rfl rfl ?_
        rw [sp_asks, if_neg (by intro h; first | exact hq4 h.1 | exact hq12 h.2.1 | exact hq21 h.2.2.1 | exact hq32 h.2.2.2)]
        exact ⟨⟨hz1, hG1⟩, E1⟩
      · have hq21 := gn_b1 hq21
        refine g_iload (q := 26) dX11_asks_24 rfl rfl ?_
        refine g_iconst (q := 27) (x := 0) dX11_asks_26 (by decide) rfl ?_
        refine g_bipush (q := 29) (x := 9) dX11_asks_27 (by decide) rfl ?_
        refine c_Si (q := 32) p_X11_in k_X11_50 (by decide) rfl rfl (Nat.le_of_ble_eq_true rfl) rfl rfl dX11_asks_29 rfl ?_
        rintro z w1 ⟨rfl, hw1⟩
        subst w1
        refine g_ifne (t := 40) (q := 35) dX11_asks_32 (by decide) rfl (fun hq32 => ?_) (fun hq32 => ?_)
        · have hq32 := gn_b1 hq32
          have hcd : c_asks A w b p k := ⟨hq4, hq12, hq21, hq32⟩
          obtain ⟨j, j6, rfl⟩ := gn_05 hq4
          have ej : iN (nI j) = j := iN_n (by omega)
          obtain ⟨b0, hb0, rfl⟩ := a_has_of hI.2.1.1 (by omega) hq12
          have b06 : b0 < 6 := by omega
          have hp01 : p = 0 ∨ p = 1 := by
            obtain ⟨q, hq, eq⟩ := gn_0k (n := 1) (m := 1) (by decide) hq21
            rcases (show q = 0 ∨ q = 1 by omega) with rfl | rfl
            · exact Or.inl eq
            · exact Or.inr eq
          refine g_iload_n (q := 41) dX11_asks_40 rfl rfl ?_
          refine c_Si (q := 44) (p_X11_workerAt (b := j)) k_X11_58 (by decide) rfl rfl (Nat.le_of_ble_eq_true rfl) rfl rfl dX11_asks_41 rfl ?_
          rintro z0 w1 ⟨hz0, hw1⟩
          subst w1
          subst z0
          refine g_istore (q := 46) dX11_asks_44 rfl rfl rfl rfl ?_
          dsimp only [List.set]
          refine g_aload_n (q := 47) dX11_asks_46 rfl rfl ?_
          refine g_getR (q := 50) f_X11_13 (by assumption) rfl dX11_asks_47 rfl ?_
          refine g_iload (q := 52) dX11_asks_50 rfl rfl ?_
          refine g_iconst (q := 53) (x := 0) dX11_asks_52 (by decide) rfl ?_
          refine g_iadd (q := 54) dX11_asks_53 rfl ?_
          refine g_iald (q := 55) (by assumption) (by first | (simp only [gn_lit, nI_add, pk_mul]; exact rfl) | exact rfl) (by omega) (by decide) dX11_asks_54 rfl ?_
          rw [(hM0.2.2.2.2.2.1 j j6).1]
          refine g_iconst (q := 56) (x := 1) dX11_asks_55 (by decide) rfl ?_
          refine g_icmpne (t := 64) (q := 59) dX11_asks_56 (by decide) rfl (fun hq56 => ?_) (fun hq56 => ?_)
          · have hno : A.1 (30 + j) 1 = -1 := by
              by_cases z : A.1 (30 + j) 1 = -1
              · exact z
              · rw [if_neg z] at hq56; exact absurd rfl hq56
            have hnw : noW (A.1 (30 + j)) := by
              rcases hI.2.2.1.1 j j6 with q | q
              · exact q.1
              · exact absurd hno (ivw_wish q.1)
            have iv4 := iv_ask1 hI j6 hq12 hq21 hq32 hno
            obtain ⟨t1, t2, t3⟩ := ask_tri (k := k) j6 b06 hp01 hnw
            have hnl : ¬ nI j ∈ A.2 20 := fun hm => (ivW_wait hI.2.2.1 j6).mpr hm hno
            have hlen := line_add hI.2.2.1 j6 hnl
            refine g_aload_n (q := 65) dX11_asks_64 rfl rfl ?_
            refine c_Vv (q := 68) (p_X11_leavesState hs hG) k_X11_133 (by assumption) rfl (by decide) rfl rfl (Nat.le_of_ble_eq_true rfl) rfl rfl dX11_asks_65 rfl ?_
            rintro vq1 ⟨⟨hG1, n1⟩, E1⟩
            have hM1 := hG1.1
            refine g_aload_n (q := 69) dX11_asks_68 rfl rfl ?_
            refine g_iload_n (q := 70) dX11_asks_69 rfl rfl ?_
            refine g_iload_n (q := 71) dX11_asks_70 rfl rfl ?_
            refine g_iload_n (q := 72) dX11_asks_71 rfl rfl ?_
            refine g_iload (q := 74) dX11_asks_72 rfl rfl ?_
            refine c_Vi (q := 77) (p_X11_tries hs hM1 (w := j) (b := b0) (p := p) (k := k) b06 j6 (hI.1 b0 b06)) k_X11_105 (by assumption) rfl (by decide) rfl rfl (Nat.le_of_ble_eq_true rfl) rfl rfl dX11_asks_74 rfl ?_
            rintro y2 vq2 ⟨hy2, hc2⟩
            have hM2 := hc2.M
            refine g_istore (q := 79) dX11_asks_77 rfl rfl rfl rfl ?_
            dsimp only [List.set]
            refine g_iload (q := 81) dX11_asks_79 rfl rfl ?_
            refine g_ifne (t := 159) (q := 84) dX11_asks_81 (by decide) rfl (fun hq81 => ?_) (fun hq81 => ?_)
            · rw [hy2] at hq81
              obtain ⟨Wz, w1, w2⟩ := t3 hq81
              have ez : z_ask1 A j (nI b0) p k = sR (a_tri A j b0 p k).2 (30 + j) Wz := by unfold z_ask1; rw [t1, if_neg hq81, if_neg (show ¬ (1 : Int32) = 0 by decide)]; exact w1
              have hc3 : mc vq1 vq2 m (z_ask1 A j (nI b0) p k) t (sno A) := by
                rw [ez]
                refine hc2.tr ⟨vq2 (m + 2), (gu_id _ _).symm, hM2.work j6 (fun i hi => rfl) (mw_eq (hM2.2.2.2.2.2.1 j j6) w2)⟩
              have hG3 := hG1.now hc3 ((sn_eq iv4).trans esn.symm)
              have E3 := E1.tr hc3.fm
              refine g_aload_n (q := 160) dX11_asks_159 rfl rfl ?_
              refine c_Vv (q := 163) (p_X11_serves hs hG3.1 iv4.1 hn6 iv4.2.2.1) k_X11_127 (by assumption) rfl (by decide) rfl rfl (Nat.le_of_ble_eq_true rfl) rfl rfl dX11_asks_160 rfl ?_
              rintro vq4 hc4
              have hG4 := hG3.now hc4 ((sn_eq (IV_srv iv4)).trans (sn_eq iv4).symm)
              have E4 := E3.tr hc4.fm
              refine g_iload (q := 165) dX11_asks_163 rfl rfl ?_
              refine g_ifeq (t := 172) (q := 168) dX11_asks_165 (by decide) rfl (fun hq165 => ?_) (fun hq165 => ?_)
              · rw [hy2] at hq165
                exact absurd hq165 hq81
              · refine g_iconst (q := 169) (x := 1) dX11_asks_168 (by decide) rfl ?_
                refine g_goto (q := 173) dX11_asks_169 (by decide) ?_
                refine r_i dX11_asks_173 rfl rfl rfl ?_
                rw [sp_asks, if_pos hcd, ej, if_pos hno]
                rw [if_neg hq81] at t1
                exact ⟨⟨t1.symm, hG4⟩, E4⟩
            · rw [hy2] at hq81
              refine g_aload_n (q := 85) dX11_asks_84 rfl rfl ?_
              refine g_getR (q := 88) f_X11_13 (by assumption) rfl dX11_asks_85 rfl ?_
              refine g_iload (q := 90) dX11_asks_88 rfl rfl ?_
              refine g_iconst (q := 91) (x := 0) dX11_asks_90 (by decide) rfl ?_
              refine g_iadd (q := 92) dX11_asks_91 rfl ?_
              refine g_iconst (q := 93) (x := 1) dX11_asks_92 (by decide) rfl ?_
              refine g_iast (q := 94) (by assumption) (by first | (simp only [gn_lit, nI_add, pk_mul]; exact rfl) | exact rfl) (by omega) (by decide) dX11_asks_93 rfl ?_
              refine g_gen (fun vq3 hvq3 => ?_)
              rw [gu_2] at hvq3
              have n3 := congrFun hvq3 (m + 2)
              rw [gu_s] at n3
              refine g_aload_n (q := 95) dX11_asks_94 rfl rfl ?_
              refine g_getR (q := 98) f_X11_13 (by assumption) rfl dX11_asks_95 rfl ?_
              refine g_iload (q := 100) dX11_asks_98 rfl rfl ?_
              refine g_iconst (q := 101) (x := 1) dX11_asks_100 (by decide) rfl ?_
              refine g_iadd (q := 102) dX11_asks_101 rfl ?_
              refine g_iload_n (q := 103) dX11_asks_102 rfl rfl ?_
              refine g_iast (q := 104) (by assumption) (by first | (simp only [gn_lit, nI_add, pk_mul]; exact rfl) | exact rfl) (by omega) (by decide) dX11_asks_103 rfl ?_
              refine g_gen (fun vq4 hvq4 => ?_)
              rw [gu_2, n3, hvq3, gu_u] at hvq4
              have n4 := congrFun hvq4 (m + 2)
              rw [gu_s] at n4
              refine g_aload_n (q := 105) dX11_asks_104 rfl rfl ?_
              refine g_getR (q := 108) f_X11_13 (by assumption) rfl dX11_asks_105 rfl ?_
              refine g_iload (q := 110) dX11_asks_108 rfl rfl ?_
              refine g_iconst (q := 111) (x := 2) dX11_asks_110 (by decide) rfl ?_
              refine g_iadd (q := 112) dX11_asks_111 rfl ?_
              refine g_iload_n (q := 113) dX11_asks_112 rfl rfl ?_
              refine g_iast (q := 114) (by assumption) (by first | (simp only [gn_lit, nI_add, pk_mul]; exact rfl) | exact rfl) (by omega) (by decide) dX11_asks_113 rfl ?_
              refine g_gen (fun vq5 hvq5 => ?_)
              rw [gu_2, n4, hvq4, gu_u] at hvq5
              have n5 := congrFun hvq5 (m + 2)
              rw [gu_s] at n5
              refine g_aload_n (q := 115) dX11_asks_114 rfl rfl ?_
              refine g_getR (q := 118) f_X11_13 (by assumption) rfl dX11_asks_115 rfl ?_
              refine g_iload (q := 120) dX11_asks_118 rfl rfl ?_
              refine g_iconst (q := 121) (x := 3) dX11_asks_120 (by decide) rfl ?_
              refine g_iadd (q := 122) dX11_asks_121 rfl ?_
              refine g_iload_n (q := 123) dX11_asks_122 rfl rfl ?_
              refine g_ifne (t := 131) (q := 126) dX11_asks_123 (by decide) rfl (fun hq123 => ?_) (fun hq123 => ?_)
              · refine g_iconst (q := 132) (x := (-1)) dX11_asks_131 (by decide) rfl ?_
                refine g_iast (q := 133) (by assumption) (by first | (simp only [gn_lit, nI_add, pk_mul]; exact rfl) | exact rfl) (by omega) (by decide) dX11_asks_132 rfl ?_
                refine g_gen (fun vq6 hvq6 => ?_)
                rw [gu_2, n5, hvq5, gu_u] at hvq6
                have n6 := congrFun hvq6 (m + 2)
                rw [gu_s] at n6
                obtain ⟨w1, w2⟩ := t2 hq81
                have ez : z_ask1 A j (nI b0) p k = sL (sR (a_tri A j b0 p k).2 (30 + j) (aw_for (A.1 (30 + j)) (nI b0) p k)) 20 (A.2 20 ++ [nI j]) := by unfold z_ask1; rw [t1, if_pos hq81, if_pos rfl, w1]
                have el : (a_tri A j b0 p k).2.2 20 = A.2 20 := tri_l b06 (by omega)
                obtain ⟨s0, s1_, s2_, s3_, s4_⟩ := hM2.2.2.2.2.2.1 j j6
                rw [w2] at s4_
                have hc7 : mc vq2 vq6 m (sR (a_tri A j b0 p k).2 (30 + j) (aw_for (A.1 (30 + j)) (nI b0) p k)) t (sno A) := by
                  refine ⟨vq6 (m + 2), by rw [n6]; exact hvq6, hM2.work j6 (fun i hi => ?_) ⟨?_, ?_, ?_, ?_, ?_⟩⟩
                  · rw [n6]
                    repeat rw [ud_n _ _ (by omega)]
                  · rw [n6]
                    repeat (first | rw [ud_s] | rw [ud_n _ _ (by omega)])
                    unfold aw_for
                    rw [if_neg (by rw [ud_n _ _ (by decide), ud_s]; rcases hp01 with q | q <;> (rw [q]; decide))]
                  · rw [n6]
                    repeat (first | rw [ud_s] | rw [ud_n _ _ (by omega)])
                    unfold aw_for
                    simp [upd]
                  · rw [n6]
                    repeat (first | rw [ud_s] | rw [ud_n _ _ (by omega)])
                    unfold aw_for
                    simp [upd]
                  · rw [n6]
                    repeat (first | rw [ud_s] | rw [ud_n _ _ (by omega)])
                    unfold aw_for
                    simp [upd, hq123]
                  · rw [n6]
                    repeat rw [ud_n _ _ (by omega)]
                    unfold aw_for
                    rw [ud_n _ _ (by decide), ud_n _ _ (by decide), ud_n _ _ (by decide)]
                    exact s4_
                have hM7 := hc7.M
                have q4 : vq6 (m + 2) 4 = nI (A.2 20).length := by
                  have q := hM7.1.2.2.2.2.1
                  rw [show (sR (a_tri A j b0 p k).2 (30 + j) (aw_for (A.1 (30 + j)) (nI b0) p k)).2 20 = A.2 20 from el] at q
                  exact q
                have q5 : ∀ i, i < (A.2 20).length → vq6 (m + 2) (300 + i) = (A.2 20).getD i 0 := by
                  have q := hM7.1.2.2.2.2.2.1
                  rw [show (sR (a_tri A j b0 p k).2 (30 + j) (aw_for (A.1 (30 + j)) (nI b0) p k)).2 20 = A.2 20 from el] at q
                  exact q
                refine g_aload_n (q := 134) dX11_asks_133 rfl rfl ?_
                refine g_getR (q := 137) f_X11_13 (by assumption) rfl dX11_asks_134 rfl ?_
                refine g_sipush (q := 140) (x := 300) dX11_asks_137 (by decide) rfl ?_
                refine g_aload_n (q := 141) dX11_asks_140 rfl rfl ?_
                refine g_getR (q := 144) f_X11_13 (by assumption) rfl dX11_asks_141 rfl ?_
                refine g_iconst (q := 145) (x := 4) dX11_asks_144 (by decide) rfl ?_
                refine g_iald (q := 146) (by assumption) (show (4 : Int32) = nI 4 from rfl) (by omega) (by decide) dX11_asks_145 rfl ?_
                refine g_iadd (q := 147) dX11_asks_146 rfl ?_
                refine g_iload_n (q := 148) dX11_asks_147 rfl rfl ?_
                refine g_iast (q := 149) (by assumption) (show 300 + vq6 (m + 2) 4 = nI (300 + (A.2 20).length) by rw [q4]; simp only [gn_lit, nI_add, pk_mul]) (by omega) (by decide) dX11_asks_148 rfl ?_
                refine g_gen (fun vq7 hvq7 => ?_)
                rw [gu_2] at hvq7
                have n7 := congrFun hvq7 (m + 2)
                rw [gu_s] at n7
                refine g_aload_n (q := 150) dX11_asks_149 rfl rfl ?_
                refine g_getR (q := 153) f_X11_13 (by assumption) rfl dX11_asks_150 rfl ?_
                refine g_iconst (q := 154) (x := 4) dX11_asks_153 (by decide) rfl ?_
                refine g_dup2 (q := 155) dX11_asks_154 rfl rfl rfl ?_
                refine g_iald (q := 156) (by assumption) (show (4 : Int32) = nI 4 from rfl) (by omega) (by decide) dX11_asks_155 rfl ?_
                refine g_iconst (q := 157) (x := 1) dX11_asks_156 (by decide) rfl ?_
                refine g_iadd (q := 158) dX11_asks_157 rfl ?_
                refine g_iast (q := 159) (by assumption) (show (4 : Int32) = nI 4 from rfl) (by omega) (by decide) dX11_asks_158 rfl ?_
                refine g_gen (fun vq8 hvq8 => ?_)
                rw [gu_2, n7, hvq7, gu_u] at hvq8
                have n8 := congrFun hvq8 (m + 2)
                rw [gu_s] at n8
                have hc8 : mc vq1 vq8 m (z_ask1 A j (nI b0) p k) t (sno A) := by
                  rw [ez]
                  refine (hc2.tr hc7).tr ⟨vq8 (m + 2), by rw [n8]; exact hvq8, hM7.line (fun i g1 g2 => ?_) ?_ (fun i hi => ?_) (by simp; omega)⟩
                  · rw [n8, ud_n _ _ g1, ud_n _ _ (by omega)]
                  · rw [n8, ud_s, ud_n _ _ (by omega), q4, nI_1]
                    simp
                  · simp only [List.length_append, List.length_singleton] at hi
                    rw [n8, ud_n _ _ (by omega)]
                    by_cases e : i = (A.2 20).length
                    · subst e; rw [ud_s, ge_la]
                    · rw [ud_n _ _ (by omega), ge_ap (by omega)]; exact q5 i (by omega)
                have hG8 := hG1.now hc8 ((sn_eq iv4).trans esn.symm)
                have E8 := E1.tr hc8.fm
                refine g_aload_n (q := 160) dX11_asks_159 rfl rfl ?_
                refine c_Vv (q := 163) (p_X11_serves hs hG8.1 iv4.1 hn6 iv4.2.2.1) k_X11_127 (by assumption) rfl (by decide) rfl rfl (Nat.le_of_ble_eq_true rfl) rfl rfl dX11_asks_160 rfl ?_
                rintro vq9 hc9
                have hG9 := hG8.now hc9 ((sn_eq (IV_srv iv4)).trans (sn_eq iv4).symm)
                have E9 := E8.tr hc9.fm
                refine g_iload (q := 165) dX11_asks_163 rfl rfl ?_
                refine g_ifeq (t := 172) (q := 168) dX11_asks_165 (by decide) rfl (fun hq165 => ?_) (fun hq165 => ?_)
                · refine g_iconst (q := 173) (x := 0) dX11_asks_172 (by decide) rfl ?_
                  refine r_i dX11_asks_173 rfl rfl rfl ?_
                  rw [sp_asks, if_pos hcd, ej, if_pos hno]
                  rw [if_pos hq81] at t1
                  exact ⟨⟨t1.symm, hG9⟩, E9⟩
                · rw [hy2] at hq165
                  exact absurd hq81 hq165
              · refine g_iload (q := 128) dX11_asks_126 rfl rfl ?_
                refine g_goto (q := 132) dX11_asks_128 (by decide) ?_
                refine g_iast (q := 133) (by assumption) (by first | (simp only [gn_lit, nI_add, pk_mul]; exact rfl) | exact rfl) (by omega) (by decide) dX11_asks_132 rfl ?_
                refine g_gen (fun vq6 hvq6 => ?_)
                rw [gu_2, n5, hvq5, gu_u] at hvq6
                have n6 := congrFun hvq6 (m + 2)
                rw [gu_s] at n6
                obtain ⟨w1, w2⟩ := t2 hq81
                have ez : z_ask1 A j (nI b0) p k = sL (sR (a_tri A j b0 p k).2 (30 + j) (aw_for (A.1 (30 + j)) (nI b0) p k)) 20 (A.2 20 ++ [nI j]) := by unfold z_ask1; rw [t1, if_pos hq81, if_pos rfl, w1]
                have el : (a_tri A j b0 p k).2.2 20 = A.2 20 := tri_l b06 (by omega)
                obtain ⟨s0, s1_, s2_, s3_, s4_⟩ := hM2.2.2.2.2.2.1 j j6
                rw [w2] at s4_
                have hc7 : mc vq2 vq6 m (sR (a_tri A j b0 p k).2 (30 + j) (aw_for (A.1 (30 + j)) (nI b0) p k)) t (sno A) := by
                  refine ⟨vq6 (m + 2), by rw [n6]; exact hvq6, hM2.work j6 (fun i hi => ?_) ⟨?_, ?_, ?_, ?_, ?_⟩⟩
                  · rw [n6]
                    repeat rw [ud_n _ _ (by omega)]
                  · rw [n6]
                    repeat (first | rw [ud_s] | rw [ud_n _ _ (by omega)])
                    unfold aw_for
                    rw [if_neg (by rw [ud_n _ _ (by decide), ud_s]; rcases hp01 with q | q <;> (rw [q]; decide))]
                  · rw [n6]
                    repeat (first | rw [ud_s] | rw [ud_n _ _ (by omega)])
                    unfold aw_for
                    simp [upd]
                  · rw [n6]
                    repeat (first | rw [ud_s] | rw [ud_n _ _ (by omega)])
                    unfold aw_for
                    simp [upd]
                  · rw [n6]
                    repeat (first | rw [ud_s] | rw [ud_n _ _ (by omega)])
                    unfold aw_for
                    simp [upd, hq123]
                  · rw [n6]
                    repeat rw [ud_n _ _ (by omega)]
                    unfold aw_for
                    rw [ud_n _ _ (by decide), ud_n _ _ (by decide), ud_n _ _ (by decide)]
                    exact s4_
                have hM7 := hc7.M
                have q4 : vq6 (m + 2) 4 = nI (A.2 20).length := by
                  have q := hM7.1.2.2.2.2.1
                  rw [show (sR (a_tri A j b0 p k).2 (30 + j) (aw_for (A.1 (30 + j)) (nI b0) p k)).2 20 = A.2 20 from el] at q
                  exact q
                have q5 : ∀ i, i < (A.2 20).length → vq6 (m + 2) (300 + i) = (A.2 20).getD i 0 := by
                  have q := hM7.1.2.2.2.2.2.1
                  rw [show (sR (a_tri A j b0 p k).2 (30 + j) (aw_for (A.1 (30 + j)) (nI b0) p k)).2 20 = A.2 20 from el] at q
                  exact q
                refine g_aload_n (q := 134) dX11_asks_133 rfl rfl ?_
                refine g_getR (q := 137) f_X11_13 (by assumption) rfl dX11_asks_134 rfl ?_
                refine g_sipush (q := 140) (x := 300) dX11_asks_137 (by decide) rfl ?_
                refine g_aload_n (q := 141) dX11_asks_140 rfl rfl ?_
                refine g_getR (q := 144) f_X11_13 (by assumption) rfl dX11_asks_141 rfl ?_
                refine g_iconst (q := 145) (x := 4) dX11_asks_144 (by decide) rfl ?_
                refine g_iald (q := 146) (by assumption) (show (4 : Int32) = nI 4 from rfl) (by omega) (by decide) dX11_asks_145 rfl ?_
                refine g_iadd (q := 147) dX11_asks_146 rfl ?_
                refine g_iload_n (q := 148) dX11_asks_147 rfl rfl ?_
                refine g_iast (q := 149) (by assumption) (show 300 + vq6 (m + 2) 4 = nI (300 + (A.2 20).length) by rw [q4]; simp only [gn_lit, nI_add, pk_mul]) (by omega) (by decide) dX11_asks_148 rfl ?_
                refine g_gen (fun vq7 hvq7 => ?_)
                rw [gu_2] at hvq7
                have n7 := congrFun hvq7 (m + 2)
                rw [gu_s] at n7
                refine g_aload_n (q := 150) dX11_asks_149 rfl rfl ?_
                refine g_getR (q := 153) f_X11_13 (by assumption) rfl dX11_asks_150 rfl ?_
                refine g_iconst (q := 154) (x := 4) dX11_asks_153 (by decide) rfl ?_
                refine g_dup2 (q := 155) dX11_asks_154 rfl rfl rfl ?_
                refine g_iald (q := 156) (by assumption) (show (4 : Int32) = nI 4 from rfl) (by omega) (by decide) dX11_asks_155 rfl ?_
                refine g_iconst (q := 157) (x := 1) dX11_asks_156 (by decide) rfl ?_
                refine g_iadd (q := 158) dX11_asks_157 rfl ?_
                refine g_iast (q := 159) (by assumption) (show (4 : Int32) = nI 4 from rfl) (by omega) (by decide) dX11_asks_158 rfl ?_
                refine g_gen (fun vq8 hvq8 => ?_)
                rw [gu_2, n7, hvq7, gu_u] at hvq8
                have n8 := congrFun hvq8 (m + 2)
                rw [gu_s] at n8
                have hc8 : mc vq1 vq8 m (z_ask1 A j (nI b0) p k) t (sno A) := by
                  rw [ez]
                  refine (hc2.tr hc7).tr ⟨vq8 (m + 2), by rw [n8]; exact hvq8, hM7.line (fun i g1 g2 => ?_) ?_ (fun i hi => ?_) (by simp; omega)⟩
                  · rw [n8, ud_n _ _ g1, ud_n _ _ (by omega)]
                  · rw [n8, ud_s, ud_n _ _ (by omega), q4, nI_1]
                    simp
                  · simp only [List.length_append, List.length_singleton] at hi
                    rw [n8, ud_n _ _ (by omega)]
                    by_cases e : i = (A.2 20).length
                    · subst e; rw [ud_s, ge_la]
                    · rw [ud_n _ _ (by omega), ge_ap (by omega)]; exact q5 i (by omega)
                have hG8 := hG1.now hc8 ((sn_eq iv4).trans esn.symm)
                have E8 := E1.tr hc8.fm
                refine g_aload_n (q := 160) dX11_asks_159 rfl rfl ?_
                refine c_Vv (q := 163) (p_X11_serves hs hG8.1 iv4.1 hn6 iv4.2.2.1) k_X11_127 (by assumption) rfl (by decide) rfl rfl (Nat.le_of_ble_eq_true rfl) rfl rfl dX11_asks_160 rfl ?_
                rintro vq9 hc9
                have hG9 := hG8.now hc9 ((sn_eq (IV_srv iv4)).trans (sn_eq iv4).symm)
                have E9 := E8.tr hc9.fm
                refine g_iload (q := 165) dX11_asks_163 rfl rfl ?_
                refine g_ifeq (t := 172) (q := 168) dX11_asks_165 (by decide) rfl (fun hq165 => ?_) (fun hq165 => ?_)
                · refine g_iconst (q := 173) (x := 0) dX11_asks_172 (by decide) rfl ?_
                  refine r_i dX11_asks_173 rfl rfl rfl ?_
                  rw [sp_asks, if_pos hcd, ej, if_pos hno]
                  rw [if_pos hq81] at t1
                  exact ⟨⟨t1.symm, hG9⟩, E9⟩
                · rw [hy2] at hq165
                  exact absurd hq81 hq165
          · have hno : ¬ A.1 (30 + j) 1 = -1 := fun z => by rw [if_pos z] at hq56; exact absurd hq56 (by decide)
            refine g_aload_n (q := 60) dX11_asks_59 rfl rfl ?_
            refine c_Vi (q := 63) (p_X11_no hs hG) k_X11_65 (by assumption) rfl (by decide) rfl rfl (Nat.le_of_ble_eq_true rfl) rfl rfl dX11_asks_60 rfl ?_
            rintro z w1 ⟨hz1, hG1, E1⟩
            refine r_i dX11_asks_63 rfl rfl rfl ?_
            rw [sp_asks, if_pos hcd, ej, if_neg hno]
            exact ⟨⟨hz1, hG1⟩, E1⟩
        · have hq32 := gn_b0 hq32
          refine g_aload_n (q := 36) dX11_asks_35 rfl rfl ?_
          refine c_Vi (q := 39) (p_X11_bad hs hG) k_X11_130 (by assumption) rfl (by decide) rfl rfl (Nat.le_of_ble_eq_true rfl) rfl rfl dX11_asks_36 rfl ?_
          rintro z w1 ⟨hz1, hG1, E1⟩
          refine r_i dX11_asks_39 rfl rfl rfl ?_
          rw [sp_asks, if_neg (by intro h; first | exact hq4 h.1 | exact hq12 h.2.1 | exact hq21 h.2.2.1 | exact hq32 h.2.2.2)]
          exact ⟨⟨hz1, hG1⟩, E1⟩
