set_option maxRecDepth 100000 in
set_option maxHeartbeats 4000000 in
theorem p_X11_serves {X : gj_X} {lim : Nat} {σ : gj_H} {v : gj_V} {m sn : Nat} {A : aS} {t : Int32} (hs : msh σ m) (hM : MR (v (m + 2)) A t sn) {n : Nat} (hB : ivB A) (hn6 : n ≤ 6) (hW : ivW A n) : gj_E X 4 m_X11_serves [.ref m] lim σ v (q_v lim σ (fun v' => mc v v' m (a_srv 7 A) t sn)) := by
  obtain ⟨so, s1, s2, s3, s4, s5, s6, s7, s8, s9, s10, s11, s12⟩ := id hs
  have lp : ∀ (K : Nat), ∀ (k i : Nat) (C : aS) (w : gj_V), mc v w m C t sn → ivB C → ivW C n → i + k = (C.2 20).length → (C.2 20).length ≤ K → gj_G X 4 m_X11_serves (q_v lim σ (fun v' => mc v v' m (if (a_sf k i C).1 = 0 then (a_sf k i C).2 else a_srv K (a_sf k i C).2) t sn)) lim σ w 0 0 2 [some (.ref m), some (.int (nI i)), none, none] [] := by
    intro K
    induction K using Nat.strongRecOn with
    | _ K ihK =>
      intro k
      induction k with
      | zero =>
        intro i C w hcw hB hW hk hK
        have hMw := hcw.M
        have hl6 := hW.2.2.2
        refine g_iload_n (q := 3) dX11_serves_2 rfl rfl ?_
        refine g_aload_n (q := 4) dX11_serves_3 rfl rfl ?_
        refine g_getR (q := 7) f_X11_13 (by assumption) rfl dX11_serves_4 rfl ?_
        refine g_iconst (q := 8) (x := 4) dX11_serves_7 (by decide) rfl ?_
        refine g_iald (q := 9) (by assumption) (show (4 : Int32) = nI 4 from rfl) (by omega) (by decide) dX11_serves_8 rfl ?_
        refine g_icmpge (t := 76) (q := 12) dX11_serves_9 (by decide) rfl (fun hq9 => ?_) (fun hq9 => ?_)
        · refine r_v dX11_serves_76 rfl rfl rfl ?_
          rw [show a_sf 0 i C = (0, C) from rfl, if_pos rfl]
          exact hcw
        · rw [hMw.1.2.2.2.2.1] at hq9
          exact absurd (by rw [show i = (C.2 20).length by omega]; exact Int32.le_refl _) hq9
      | succ k ih =>
        intro i C w hcw hB hW hk hK
        have hMw := hcw.M
        have hl6 := hW.2.2.2
        obtain ⟨z, hz, eq1, eq2, hv⟩ := ivW_at hW (show i < (C.2 20).length by omega)
        obtain ⟨b, hb, eb, -⟩ := id hv
        obtain ⟨c1, c2, c3, c4⟩ := a_try_ok hB hn6 hz hv
        obtain ⟨t1, t2⟩ := try_tri (A := C) (w := z) (b := b) (by omega) (by rw [eb]; exact iN_n (by omega))
        obtain ⟨b0, b1, b2, b3, b4⟩ := hMw.2.2.2.2.2.1 z hz
        refine g_iload_n (q := 3) dX11_serves_2 rfl rfl ?_
        refine g_aload_n (q := 4) dX11_serves_3 rfl rfl ?_
        refine g_getR (q := 7) f_X11_13 (by assumption) rfl dX11_serves_4 rfl ?_
        refine g_iconst (q := 8) (x := 4) dX11_serves_7 (by decide) rfl ?_
        refine g_iald (q := 9) (by assumption) (show (4 : Int32) = nI 4 from rfl) (by omega) (by decide) dX11_serves_8 rfl ?_
        refine g_icmpge (t := 76) (q := 12) dX11_serves_9 (by decide) rfl (fun hq9 => ?_) (fun hq9 => ?_)
        · rw [hMw.1.2.2.2.2.1] at hq9
          exact absurd (gn_le hq9 (by omega)) (by omega)
        · refine g_aload_n (q := 13) dX11_serves_12 rfl rfl ?_
          refine g_getR (q := 16) f_X11_13 (by assumption) rfl dX11_serves_13 rfl ?_
          refine g_sipush (q := 19) (x := 300) dX11_serves_16 (by decide) rfl ?_
          refine g_iload_n (q := 20) dX11_serves_19 rfl rfl ?_
          refine g_iadd (q := 21) dX11_serves_20 rfl ?_
          refine g_iald (q := 22) (by assumption) (show 300 + nI i = nI (300 + i) by simp only [gn_lit, nI_add, pk_mul]) (by omega) (by decide) dX11_serves_21 rfl ?_
          rw [hMw.1.2.2.2.2.2.1 i (by omega), eq1]
          refine g_istore_n (q := 23) dX11_serves_22 rfl rfl rfl rfl ?_
          dsimp only [List.set]
          refine g_iload_n (q := 24) dX11_serves_23 rfl rfl ?_
          refine c_Si (q := 27) (p_X11_workerAt (b := z)) k_X11_58 (by decide) rfl rfl (Nat.le_of_ble_eq_true rfl) rfl rfl dX11_serves_24 rfl ?_
          rintro z0 w1 ⟨hz0, hw1⟩
          subst w1
          subst z0
          refine g_istore_n (q := 28) dX11_serves_27 rfl rfl rfl rfl ?_
          dsimp only [List.set]
          refine g_aload_n (q := 29) dX11_serves_28 rfl rfl ?_
          refine g_iload_n (q := 30) dX11_serves_29 rfl rfl ?_
          refine g_aload_n (q := 31) dX11_serves_30 rfl rfl ?_
          refine g_getR (q := 34) f_X11_13 (by assumption) rfl dX11_serves_31 rfl ?_
          refine g_iload_n (q := 35) dX11_serves_34 rfl rfl ?_
          refine g_iconst (q := 36) (x := 1) dX11_serves_35 (by decide) rfl ?_
          refine g_iadd (q := 37) dX11_serves_36 rfl ?_
          refine g_iald (q := 38) (by assumption) (by first | (simp only [gn_lit, nI_add, pk_mul]; exact rfl) | exact rfl) (by omega) (by decide) dX11_serves_37 rfl ?_
          rw [b1, eb]
          refine g_aload_n (q := 39) dX11_serves_38 rfl rfl ?_
          refine g_getR (q := 42) f_X11_13 (by assumption) rfl dX11_serves_39 rfl ?_
          refine g_iload_n (q := 43) dX11_serves_42 rfl rfl ?_
          refine g_iconst (q := 44) (x := 2) dX11_serves_43 (by decide) rfl ?_
          refine g_iadd (q := 45) dX11_serves_44 rfl ?_
          refine g_iald (q := 46) (by assumption) (by first | (simp only [gn_lit, nI_add, pk_mul]; exact rfl) | exact rfl) (by omega) (by decide) dX11_serves_45 rfl ?_
          rw [b2]
          refine g_aload_n (q := 47) dX11_serves_46 rfl rfl ?_
          refine g_getR (q := 50) f_X11_13 (by assumption) rfl dX11_serves_47 rfl ?_
          refine g_iload_n (q := 51) dX11_serves_50 rfl rfl ?_
          refine g_iconst (q := 52) (x := 3) dX11_serves_51 (by decide) rfl ?_
          refine g_iadd (q := 53) dX11_serves_52 rfl ?_
          refine g_iald (q := 54) (by assumption) (by first | (simp only [gn_lit, nI_add, pk_mul]; exact rfl) | exact rfl) (by omega) (by decide) dX11_serves_53 rfl ?_
          rw [b3]
          refine c_Vi (q := 57) (p_X11_tries hs hMw (w := z) (b := b) (p := C.1 (30 + z) 1) (k := C.1 (30 + z) 2) (by omega) hz (hB b (by omega))) k_X11_105 (by assumption) rfl (by decide) rfl rfl (Nat.le_of_ble_eq_true rfl) rfl rfl dX11_serves_54 rfl ?_
          rintro y1 vq1 ⟨hy1, hc1⟩
          have hM1 := hc1.M
          refine g_ifeq (t := 70) (q := 60) dX11_serves_57 (by decide) rfl (fun hq57 => ?_) (fun hq57 => ?_)
          · rw [hy1] at hq57
            rw [if_pos hq57] at t1 t2
            refine g_iinc (q := 73) (y := nI (i + 1)) dX11_serves_70 rfl (gn_inc i) rfl rfl rfl rfl ?_
            dsimp only [List.set]
            refine g_goto (q := 2) dX11_serves_73 (by decide) ?_
            refine g_wk (L' := [some (.ref m), some (.int (nI (i + 1))), none, none]) (by first | (simp [gj_wk]; done) | (simp [gj_wk]; rfl)) ?_
            have es : a_sf (k + 1) i C = a_sf k (i + 1) (a_try C z).2 := by rw [a_sf, eq2, if_pos t1]
            rw [es, t2]
            rw [t2] at c1 c2 c3 c4
            have hW2 : ivW (a_tri C z b (C.1 (30 + z) 1) (C.1 (30 + z) 2)).2 n := by
              refine ivW_eq hW (fun q hq => ?_) (c2.2 20 (by omega))
              by_cases e : q = z
              · subst e
                rcases c4 with c4 | c4
                · exact c4.2
                · rw [t1] at c4; exact absurd c4.1 (by decide)
              · exact c2.1 _ (by omega) (by omega)
            exact ih (i + 1) _ vq1 (hcw.tr hc1) c1 hW2 (by rw [c2.2 20 (by omega)]; omega) (by rw [c2.2 20 (by omega)]; omega)
          · rw [hy1] at hq57
            rw [if_neg hq57] at t1 t2
            have el : (a_tri C z b (C.1 (30 + z) 1) (C.1 (30 + z) 2)).2.2 20 = C.2 20 := by
              have q := c2.2 20 (by omega)
              rw [t2] at q
              exact q
            refine g_aload_n (q := 61) dX11_serves_60 rfl rfl ?_
            refine g_iload_n (q := 62) dX11_serves_61 rfl rfl ?_
            refine c_Vv (q := 65) (p_X11_goesFromLine hs hM1 (i := i) (w := z) (by rw [el]; omega) hz (by rw [el]; exact eq1)) k_X11_109 (by assumption) rfl (by decide) rfl rfl (Nat.le_of_ble_eq_true rfl) rfl rfl dX11_serves_62 rfl ?_
            rintro vq2 hc2
            refine g_iconst (q := 66) (x := 0) dX11_serves_65 (by decide) rfl ?_
            refine g_istore_n (q := 67) dX11_serves_66 rfl rfl rfl rfl ?_
            dsimp only [List.set]
            refine g_goto (q := 73) dX11_serves_67 (by decide) ?_
            refine g_goto (q := 2) dX11_serves_73 (by decide) ?_
            refine g_wk (L' := [some (.ref m), some (.int (nI 0)), none, none]) (by first | (simp [gj_wk]; done) | (simp [gj_wk]; rfl)) ?_
            have es : a_sf (k + 1) i C = (1, sL (a_try C z).2 20 ((C.2 20).eraseIdx i)) := by rw [a_sf, eq2, if_neg (by rw [t1]; decide)]
            rw [es, if_neg (show ¬ (1 : Int32) = 0 by decide), t2]
            have hcc := (hcw.tr hc1).tr hc2
            rw [el] at hcc
            have hok := (a_sf_ok hn6 (k + 1) i C hB hW (by omega)).1
            rw [es, t2] at hok
            have hle : ((sL (sR (a_tri C z b (C.1 (30 + z) 1) (C.1 (30 + z) 2)).2 (30 + z) (aw_no ((a_tri C z b (C.1 (30 + z) 1) (C.1 (30 + z) 2)).2.1 (30 + z)))) 20 ((C.2 20).eraseIdx i)).2 20).length = (C.2 20).length - 1 := by
              simp only [sL]
              rw [vu_s, er_len (by omega)]
            obtain ⟨K0, rfl⟩ : ∃ K0, K = K0 + 1 := ⟨K - 1, by omega⟩
            rw [a_srv]
            exact ihK K0 (by omega) _ 0 _ vq2 hcc hok.1 hok.2.1 (Nat.zero_add _) (by rw [hle]; omega)
  refine gj_E_at (L := [some (.ref m), none, none, none]) (k := 3) rfl (by decide) rfl ?_
  refine g_iconst (q := 1) (x := 0) dX11_serves_0 (by decide) rfl ?_
  refine g_istore_n (q := 2) dX11_serves_1 rfl rfl rfl rfl ?_
  dsimp only [List.set]
  refine g_wk (L' := [some (.ref m), some (.int (nI 0)), none, none]) (by first | (simp [gj_wk]; done) | (simp [gj_wk]; rfl)) ?_
  rw [a_srv]
  exact lp 6 (A.2 20).length 0 A v (mc.rf hM) hB hW (by omega) hW.2.2.2
