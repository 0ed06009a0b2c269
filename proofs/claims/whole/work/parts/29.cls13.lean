theorem a_try01 (A : aS) (w : Nat) : (a_try A w).1 = 0 ∨ (a_try A w).1 = 1 := by
  unfold a_try
  repeat' split
  all_goals first | exact Or.inl rfl | exact Or.inr rfl
theorem a_qa_cases : ∀ (k b : Nat) (A : aS) (w : Int32), a_qa k b A w = -1 ∨ ∃ c, b ≤ c ∧ c < b + k ∧ a_qa k b A w = nI c
  | 0, b, A, w => Or.inl rfl
  | k + 1, b, A, w => by
    unfold a_qa
    split
    · rcases a_qa_cases k (b + 1) A w with h | ⟨c, h1, h2, h3⟩
      · exact Or.inl h
      · exact Or.inr ⟨c, by omega, by omega, h3⟩
    · exact Or.inr ⟨b, by omega, by omega, rfl⟩
theorem br_queue {v v' : gj_V} {p : Nat} {B : bS} {q : List Int32} (h : br v p B) (hr : rr v' (p + 4) q) (hf : fr2 v v' (p + 4)) : br v' p (B.1, B.2.1, B.2.2.1, q) := by
  obtain ⟨h1, h2, h3, h4⟩ := h
  exact ⟨by rw [hf _ (by omega) (by omega)]; exact h1, by rw [hf _ (by omega) (by omega)]; exact h2, h3.keep (hf _ (by omega) (by omega)) (hf _ (by omega) (by omega)), hr⟩

set_option maxRecDepth 100000 in
set_option maxHeartbeats 4000000 in
theorem p_X10_asks {X : gj_X} {lim : Nat} {σ : gj_H} {v : gj_V} {x : Nat} {A : aS} {t : Int32} {l : List (aS × Int32)} {tx : List Int32} {c : Nat → Int32} {n sn : Nat} (hs : gsh σ x) (hG : GR v x A t l tx c) (hI : IV A n sn) {w b p k : Int32} : gj_E X 6 m_X10_asks [.ref x, .int w, .int b, .int p, .int k] lim σ v (q_i lim σ (fun z v' => sp_asks A t l tx c w b p k z (GR v' x) ∧ fr v v' x (x + 477))) := by
  obtain ⟨sx, hf, hh, ht, hrn, hia⟩ := id hs
  have hc := hG.2.2.2
  have hn6 := hI.2.1.2.2.2.1
  have hn1 := hI.2.1.2.2.1
  have sf := hf.1
  have sb := hf.2.1
  have ss := hf.2.2.1
  have sw := hf.2.2.2.1
  have hb6 := hf.2.2.2.2.2.2.1
  have hs6 := hf.2.2.2.2.2.2.2.1
  have hw6 := hf.2.2.2.2.2.2.2.2
  have sl := hf.2.2.2.2.1
  have sl1 := sl.1
  have hh1 := hh.1
  have ht1 := ht.1
  have hia1 := hia.1
  refine gj_E_at (L := [some (.ref x), some (.int w), some (.int b), some (.int p), some (.int k), none]) (k := 1) rfl (by decide) rfl ?_
  refine g_iload_n (q := 1) dX10_asks_0 rfl rfl ?_
  refine c_Si (q := 4) p_X10_isWorker k_X10_135 (by decide) rfl rfl (Nat.le_of_ble_eq_true rfl) rfl rfl dX10_asks_1 rfl ?_
  rintro z w1 ⟨rfl, hw1⟩
  subst w1
  refine g_ifeq (t := 38) (q := 7) dX10_asks_4 (by decide) rfl (fun hq4 => ?_) (fun hq4 => ?_)
  · have hq4 := gn_b0 hq4
    refine g_aload_n (q := 39) dX10_asks_38 rfl rfl ?_
    refine c_Vi (q := 42) (p_X10_refuseBad hs hG) k_X10_50 (by assumption) rfl (by decide) rfl rfl (Nat.le_of_ble_eq_true rfl) rfl rfl dX10_asks_39 rfl ?_
    rintro z w1 ⟨hz1, hG1, E1⟩
    refine r_i dX10_asks_42 rfl rfl rfl ?_
    rw [sp_asks, if_neg (by intro h; first | exact hq4 h.1 | exact hq15 h.2.1 | exact hq24 h.2.2.1 | exact hq35 h.2.2.2)]
    exact ⟨⟨hz1, hG1⟩, E1⟩
  · have hq4 := gn_b1 hq4
    refine g_aload_n (q := 8) dX10_asks_7 rfl rfl ?_
    refine g_getR (q := 11) f_X10_10 (by assumption) rfl dX10_asks_8 rfl ?_
    refine g_iload_n (q := 12) dX10_asks_11 rfl rfl ?_
    refine c_Vi (q := 15) (p_X1_hasBuffer hf hG.1) k_X10_66 (by assumption) rfl (by decide) rfl rfl (Nat.le_of_ble_eq_true rfl) rfl rfl dX10_asks_12 rfl ?_
    rintro z w1 ⟨rfl, hw1⟩
    subst w1
    refine g_ifeq (t := 38) (q := 18) dX10_asks_15 (by decide) rfl (fun hq15 => ?_) (fun hq15 => ?_)
    · have hq15 := gn_b0 hq15
      refine g_aload_n (q := 39) dX10_asks_38 rfl rfl ?_
      refine c_Vi (q := 42) (p_X10_refuseBad hs hG) k_X10_50 (by assumption) rfl (by decide) rfl rfl (Nat.le_of_ble_eq_true rfl) rfl rfl dX10_asks_39 rfl ?_
      rintro z w1 ⟨hz1, hG1, E1⟩
      refine r_i dX10_asks_42 rfl rfl rfl ?_
      rw [sp_asks, if_neg (by intro h; first | exact hq4 h.1 | exact hq15 h.2.1 | exact hq24 h.2.2.1 | exact hq35 h.2.2.2)]
      exact ⟨⟨hz1, hG1⟩, E1⟩
    · have hq15 := gn_b1 hq15
      refine g_iload_n (q := 19) dX10_asks_18 rfl rfl ?_
      refine g_iconst (q := 20) (x := 0) dX10_asks_19 (by decide) rfl ?_
      refine g_iconst (q := 21) (x := 1) dX10_asks_20 (by decide) rfl ?_
      refine c_Si (q := 24) p_X10_within k_X10_46 (by decide) rfl rfl (Nat.le_of_ble_eq_true rfl) rfl rfl dX10_asks_21 rfl ?_
      rintro z w1 ⟨rfl, hw1⟩
      subst w1
      refine g_ifeq (t := 38) (q := 27) dX10_asks_24 (by decide) rfl (fun hq24 => ?_) (fun hq24 => ?_)
      · have hq24 := gn_b0 hq24
        refine g_aload_n (q := 39) dX10_asks_38 rfl rfl ?_
        refine c_Vi (q := 42) (p_X10_refuseBad hs hG) k_X10_50 (by assumption) rfl (by decide) rfl rfl (Nat.le_of_ble_eq_true rfl) rfl rfl dX10_asks_39 rfl ?_
        rintro z w1 ⟨hz1, hG1, E1⟩
        refine r_i dX10_asks_42 rfl rfl rfl ?_
        rw [sp_asks, if_neg (by intro h; first | exact hq4 h.1 | exact hq15 h.2.1 | exact hq24 h.2.2.1 | exact hq35 h.2.2.2)]
        exact ⟨⟨hz1, hG1⟩, E1⟩
      · have hq24 := gn_b1 hq24
        refine g_iload (q := 29) dX10_asks_27 rfl rfl ?_
        refine g_iconst (q := 30) (x := 0) dX10_asks_29 (by decide) rfl ?_
        refine g_bipush (q := 32) (x := 9) dX10_asks_30 (by decide) rfl ?_
        refine c_Si (q := 35) p_X10_within k_X10_46 (by decide) rfl rfl (Nat.le_of_ble_eq_true rfl) rfl rfl dX10_asks_32 rfl ?_
        rintro z w1 ⟨rfl, hw1⟩
        subst w1
        refine g_ifne (t := 43) (q := 38) dX10_asks_35 (by decide) rfl (fun hq35 => ?_) (fun hq35 => ?_)
        · have hq35 := gn_b1 hq35
          have hcd : c_asks A w b p k := ⟨hq4, hq15, hq24, hq35⟩
          obtain ⟨j, j6, rfl⟩ := gn_05 hq4
          have ej : iN (nI j) = j := iN_n (by omega)
          refine g_aload_n (q := 44) dX10_asks_43 rfl rfl ?_
          refine g_getR (q := 47) f_X10_10 (by assumption) rfl dX10_asks_44 rfl ?_
          refine g_getR (q := 50) f_X10_138 (by assumption) rfl dX10_asks_47 rfl ?_
          refine g_iload_n (q := 51) dX10_asks_50 rfl rfl ?_
          refine g_aald (q := 52) (by assumption) rfl rfl (ra_at j6) (by simp) dX10_asks_51 rfl ?_
          refine c_Vi (q := 55) (p_X9_waits (hw6 j j6)) k_X10_142 (hw6 j j6) rfl (by decide) rfl rfl (Nat.le_of_ble_eq_true rfl) rfl rfl dX10_asks_52 rfl ?_
          rintro y w1 ⟨rfl, hw1⟩
          subst w1
          rw [hG.1.2.2.2.2.1 j j6]
          refine g_ifeq (t := 63) (q := 58) dX10_asks_55 (by decide) rfl (fun hq55 => ?_) (fun hq55 => ?_)
          · have hq55 := gn_w0 hq55
            refine g_aload_n (q := 64) dX10_asks_63 rfl rfl ?_
            refine g_getR (q := 67) f_X10_19 (by assumption) rfl dX10_asks_64 rfl ?_
            refine g_aload_n (q := 68) dX10_asks_67 rfl rfl ?_
            refine g_getR (q := 71) f_X10_10 (by assumption) rfl dX10_asks_68 rfl ?_
            refine c_Vv (q := 74) (p_X3_keep hh hf (Or.inl (by omega)) hG.2.1.choose_spec hG.1) k_X10_54 (by assumption) rfl (by decide) rfl rfl (Nat.le_of_ble_eq_true rfl) rfl rfl dX10_asks_71 rfl ?_
            rintro vq1 ⟨⟨nx1, hH1⟩, Fq1⟩
            have hG1 : GR vq1 x A t (h_push l (A, t)) tx c := hG.his hH1 Fq1
            have E1 : fr v vq1 x (x + 477) := Fq1.wide (by omega) (by omega)
            refine g_aload_n (q := 75) dX10_asks_74 rfl rfl ?_
            refine g_getR (q := 78) f_X10_10 (by assumption) rfl dX10_asks_75 rfl ?_
            refine g_getR (q := 81) f_X10_138 (by assumption) rfl dX10_asks_78 rfl ?_
            refine g_iload_n (q := 82) dX10_asks_81 rfl rfl ?_
            refine g_aald (q := 83) (by assumption) rfl rfl (ra_at j6) (by simp) dX10_asks_82 rfl ?_
            refine g_iload_n (q := 84) dX10_asks_83 rfl rfl ?_
            refine g_iload_n (q := 85) dX10_asks_84 rfl rfl ?_
            refine g_iload (q := 87) dX10_asks_85 rfl rfl ?_
            refine c_Vv (q := 90) (p_X9_wishFor (hw6 j j6)) k_X10_151 (hw6 j j6) rfl (by decide) rfl rfl (Nat.le_of_ble_eq_true rfl) rfl rfl dX10_asks_87 rfl ?_
            rintro vq2 hvq2
            rw [hG1.1.2.2.2.2.1 j j6] at hvq2
            have hCq2 : CR vq2 (x + 1) (z_ask0 A j b p k) t := by rw [hvq2]; exact hG1.1.work j6 _
            have Fq2 : fr vq1 vq2 (x + 1) (x + 1 + 55) := by rw [hvq2]; exact fr.up (by omega) (by omega)
            have hG2 := hG1.flo hCq2 Fq2
            have E2 : fr v vq2 x (x + 477) := E1.tr (Fq2.wide (by omega) (by omega))
            obtain ⟨a1, a2, a3⟩ := ask0_ok hI j6 hq15 hq24 hq35
            refine g_aload_n (q := 91) dX10_asks_90 rfl rfl ?_
            refine g_getR (q := 94) f_X10_10 (by assumption) rfl dX10_asks_91 rfl ?_
            refine g_iload_n (q := 95) dX10_asks_94 rfl rfl ?_
            refine c_Vi (q := 98) (p_X1_tryWish hf hG2.1 a1 hn6 j6 a2 (show (z_ask0 A j b p k).1 40 5 = nI n by unfold z_ask0; simp only [sR]; rw [vu_n _ _ (by omega)]; exact hI.2.1.1)) k_X10_155 sf rfl (by decide) rfl rfl (Nat.le_of_ble_eq_true rfl) rfl rfl dX10_asks_95 rfl ?_
            rintro y vq3 ⟨hy3, hCq3, Fq3⟩
            have hG3 := hG2.flo hCq3 Fq3
            have E3 : fr v vq3 x (x + 477) := E2.tr (Fq3.wide (by omega) (by omega))
            have iv4 := iv_ask1 hI j6 hq15 hq24 hq35 hq55
            have eL : (a_try (z_ask0 A j b p k) j).2.2 20 = A.2 20 := (a_try_ok a1 hn6 j6 a2).2.1.2 20 (by omega)
            have hnl : ¬ nI j ∈ A.2 20 := fun hm => (ivW_wait hI.2.2.1 j6).mpr hm hq55
            have hlen := line_add hI.2.2.1 j6 hnl
            have hy01 := a_try01 (z_ask0 A j b p k) j
            unfold z_ask1 at iv4
            subst y
            refine g_istore (q := 100) dX10_asks_98 rfl rfl rfl rfl ?_
            dsimp only [List.set]
            refine g_iload (q := 102) dX10_asks_100 rfl rfl ?_
            refine g_ifne (t := 116) (q := 105) dX10_asks_102 (by decide) rfl (fun hq102 => ?_) (fun hq102 => ?_)
            · rw [if_neg hq102] at iv4
              refine g_aload_n (q := 117) dX10_asks_116 rfl rfl ?_
              refine g_getR (q := 120) f_X10_10 (by assumption) rfl dX10_asks_117 rfl ?_
              refine c_Vv (q := 123) (p_X1_serve hf hG3.1 iv4.1 hn6 iv4.2.2.1 iv4.2.1.1) k_X10_79 (by assumption) rfl (by decide) rfl rfl (Nat.le_of_ble_eq_true rfl) rfl rfl dX10_asks_120 rfl ?_
              rintro vq6 ⟨hCq6, Fq6⟩
              have hG6 := hG3.flo hCq6 Fq6
              have E6 : fr v vq6 x (x + 477) := E3.tr (Fq6.wide (by omega) (by omega))
              refine g_iload (q := 125) dX10_asks_123 rfl rfl ?_
              refine g_ifeq (t := 132) (q := 128) dX10_asks_125 (by decide) rfl (fun hq125 => ?_) (fun hq125 => ?_)
              · exact absurd hq125 hq102
              · refine g_iconst (q := 129) (x := 1) dX10_asks_128 (by decide) rfl ?_
                refine g_goto (q := 133) dX10_asks_129 (by decide) ?_
                refine r_i dX10_asks_133 rfl rfl rfl ?_
                rw [sp_asks, if_pos hcd, ej, if_pos hq55]
                unfold z_ask1
                rw [if_neg hq102]
                exact ⟨⟨(hy01.resolve_left hq102).symm, hG6⟩, E6⟩
            · rw [if_pos hq102] at iv4
              refine g_aload_n (q := 106) dX10_asks_105 rfl rfl ?_
              refine g_getR (q := 109) f_X10_10 (by assumption) rfl dX10_asks_106 rfl ?_
              refine g_getR (q := 112) f_X10_158 (by assumption) rfl dX10_asks_109 rfl ?_
              refine g_iload_n (q := 113) dX10_asks_112 rfl rfl ?_
              refine c_Vv (q := 116) (p_X5_addLast sl hG3.1.2.2.2.2.2 (by rw [eL]; exact hlen)) k_X10_161 sl1 rfl (by decide) rfl rfl (Nat.le_of_ble_eq_true rfl) rfl rfl dX10_asks_113 rfl ?_
              rintro vq4 ⟨hrq4, Fq4⟩
              rw [eL] at hrq4
              have hCq4 := hG3.1.line hrq4 Fq4
              have Fq5 : fr vq3 vq4 (x + 1) (x + 1 + 55) := Fq4.fr (by omega) (by omega)
              have hG4 := hG3.flo hCq4 Fq5
              have E4 : fr v vq4 x (x + 477) := E3.tr (Fq5.wide (by omega) (by omega))
              refine g_aload_n (q := 117) dX10_asks_116 rfl rfl ?_
              refine g_getR (q := 120) f_X10_10 (by assumption) rfl dX10_asks_117 rfl ?_
              refine c_Vv (q := 123) (p_X1_serve hf hG4.1 iv4.1 hn6 iv4.2.2.1 iv4.2.1.1) k_X10_79 (by assumption) rfl (by decide) rfl rfl (Nat.le_of_ble_eq_true rfl) rfl rfl dX10_asks_120 rfl ?_
              rintro vq6 ⟨hCq6, Fq6⟩
              have hG6 := hG4.flo hCq6 Fq6
              have E6 : fr v vq6 x (x + 477) := E4.tr (Fq6.wide (by omega) (by omega))
              refine g_iload (q := 125) dX10_asks_123 rfl rfl ?_
              refine g_ifeq (t := 132) (q := 128) dX10_asks_125 (by decide) rfl (fun hq125 => ?_) (fun hq125 => ?_)
              · refine g_iconst (q := 133) (x := 0) dX10_asks_132 (by decide) rfl ?_
                refine r_i dX10_asks_133 rfl rfl rfl ?_
                rw [sp_asks, if_pos hcd, ej, if_pos hq55]
                unfold z_ask1
                rw [if_pos hq102]
                exact ⟨⟨hq102.symm, hG6⟩, E6⟩
              · exact absurd hq102 hq125
          · have hq55 := gn_w1 hq55
            refine g_aload_n (q := 59) dX10_asks_58 rfl rfl ?_
            refine c_Vi (q := 62) (p_X10_refuseNo hs hG) k_X10_148 (by assumption) rfl (by decide) rfl rfl (Nat.le_of_ble_eq_true rfl) rfl rfl dX10_asks_59 rfl ?_
            rintro z w1 ⟨hz1, hG1, E1⟩
            refine r_i dX10_asks_62 rfl rfl rfl ?_
            rw [sp_asks, if_pos hcd, ej, if_neg hq55]
            exact ⟨⟨hz1, hG1⟩, E1⟩
        · have hq35 := gn_b0 hq35
          refine g_aload_n (q := 39) dX10_asks_38 rfl rfl ?_
          refine c_Vi (q := 42) (p_X10_refuseBad hs hG) k_X10_50 (by assumption) rfl (by decide) rfl rfl (Nat.le_of_ble_eq_true rfl) rfl rfl dX10_asks_39 rfl ?_
          rintro z w1 ⟨hz1, hG1, E1⟩
          refine r_i dX10_asks_42 rfl rfl rfl ?_
          rw [sp_asks, if_neg (by intro h; first | exact hq4 h.1 | exact hq15 h.2.1 | exact hq24 h.2.2.1 | exact hq35 h.2.2.2)]
          exact ⟨⟨hz1, hG1⟩, E1⟩

set_option maxRecDepth 100000 in
set_option maxHeartbeats 4000000 in
theorem p_X10_cancels {X : gj_X} {lim : Nat} {σ : gj_H} {v : gj_V} {x : Nat} {A : aS} {t : Int32} {l : List (aS × Int32)} {tx : List Int32} {c : Nat → Int32} {n sn : Nat} (hs : gsh σ x) (hG : GR v x A t l tx c) (hI : IV A n sn) {w : Int32} : gj_E X 6 m_X10_cancels [.ref x, .int w] lim σ v (q_i lim σ (fun z v' => sp_canc A t l tx c w z (GR v' x) ∧ fr v v' x (x + 477))) := by
  obtain ⟨sx, hf, hh, ht, hrn, hia⟩ := id hs
  have hc := hG.2.2.2
  have hn6 := hI.2.1.2.2.2.1
  have hn1 := hI.2.1.2.2.1
  have sf := hf.1
  have sb := hf.2.1
  have ss := hf.2.2.1
  have sw := hf.2.2.2.1
  have hb6 := hf.2.2.2.2.2.2.1
  have hs6 := hf.2.2.2.2.2.2.2.1
  have hw6 := hf.2.2.2.2.2.2.2.2
  have sl := hf.2.2.2.2.1
  have sl1 := sl.1
  have hh1 := hh.1
  have ht1 := ht.1
  have hia1 := hia.1
  refine gj_E_at (L := [some (.ref x), some (.int w)]) (k := 0) rfl (by decide) rfl ?_
  refine g_iload_n (q := 1) dX10_cancels_0 rfl rfl ?_
  refine c_Si (q := 4) p_X10_isWorker k_X10_135 (by decide) rfl rfl (Nat.le_of_ble_eq_true rfl) rfl rfl dX10_cancels_1 rfl ?_
  rintro z w1 ⟨rfl, hw1⟩
  subst w1
  refine g_ifne (t := 12) (q := 7) dX10_cancels_4 (by decide) rfl (fun hq4 => ?_) (fun hq4 => ?_)
  · have hq4 := gn_b1 hq4
    have hcd := hq4
    obtain ⟨j, j6, rfl⟩ := gn_05 hq4
    have ej : iN (nI j) = j := iN_n (by omega)
    refine g_aload_n (q := 13) dX10_cancels_12 rfl rfl ?_
    refine g_getR (q := 16) f_X10_10 (by assumption) rfl dX10_cancels_13 rfl ?_
    refine g_getR (q := 19) f_X10_138 (by assumption) rfl dX10_cancels_16 rfl ?_
    refine g_iload_n (q := 20) dX10_cancels_19 rfl rfl ?_
    refine g_aald (q := 21) (by assumption) rfl rfl (ra_at j6) (by simp) dX10_cancels_20 rfl ?_
    refine c_Vi (q := 24) (p_X9_waits (hw6 j j6)) k_X10_142 (hw6 j j6) rfl (by decide) rfl rfl (Nat.le_of_ble_eq_true rfl) rfl rfl dX10_cancels_21 rfl ?_
    rintro y w1 ⟨rfl, hw1⟩
    subst w1
    rw [hG.1.2.2.2.2.1 j j6]
    refine g_ifne (t := 32) (q := 27) dX10_cancels_24 (by decide) rfl (fun hq24 => ?_) (fun hq24 => ?_)
    · have hq24 := gn_w1 hq24
      have hm : nI j ∈ A.2 20 := (ivW_wait hI.2.2.1 j6).mp hq24
      have hlt := idx_lt hm
      have hll := hI.2.2.1.2.2.2
      refine g_aload_n (q := 33) dX10_cancels_32 rfl rfl ?_
      refine g_getR (q := 36) f_X10_19 (by assumption) rfl dX10_cancels_33 rfl ?_
      refine g_aload_n (q := 37) dX10_cancels_36 rfl rfl ?_
      refine g_getR (q := 40) f_X10_10 (by assumption) rfl dX10_cancels_37 rfl ?_
      refine c_Vv (q := 43) (p_X3_keep hh hf (Or.inl (by omega)) hG.2.1.choose_spec hG.1) k_X10_54 (by assumption) rfl (by decide) rfl rfl (Nat.le_of_ble_eq_true rfl) rfl rfl dX10_cancels_40 rfl ?_
      rintro vq1 ⟨⟨nx1, hH1⟩, Fq1⟩
      have hG1 : GR vq1 x A t (h_push l (A, t)) tx c := hG.his hH1 Fq1
      have E1 : fr v vq1 x (x + 477) := Fq1.wide (by omega) (by omega)
      refine g_aload_n (q := 44) dX10_cancels_43 rfl rfl ?_
      refine g_getR (q := 47) f_X10_10 (by assumption) rfl dX10_cancels_44 rfl ?_
      refine g_getR (q := 50) f_X10_138 (by assumption) rfl dX10_cancels_47 rfl ?_
      refine g_iload_n (q := 51) dX10_cancels_50 rfl rfl ?_
      refine g_aald (q := 52) (by assumption) rfl rfl (ra_at j6) (by simp) dX10_cancels_51 rfl ?_
      refine c_Vv (q := 55) (p_X9_wishNoMore (hw6 j j6)) k_X10_164 (hw6 j j6) rfl (by decide) rfl rfl (Nat.le_of_ble_eq_true rfl) rfl rfl dX10_cancels_52 rfl ?_
      rintro vq2 hvq2
      rw [hG1.1.2.2.2.2.1 j j6] at hvq2
      have hCq2 : CR vq2 (x + 1) (sR A (30 + j) (aw_no (A.1 (30 + j)))) t := by rw [hvq2]; exact hG1.1.work j6 _
      have Fq2 : fr vq1 vq2 (x + 1) (x + 1 + 55) := by rw [hvq2]; exact fr.up (by omega) (by omega)
      have hG2 := hG1.flo hCq2 Fq2
      have E2 : fr v vq2 x (x + 477) := E1.tr (Fq2.wide (by omega) (by omega))
      refine g_aload_n (q := 56) dX10_cancels_55 rfl rfl ?_
      refine g_getR (q := 59) f_X10_10 (by assumption) rfl dX10_cancels_56 rfl ?_
      refine g_getR (q := 62) f_X10_158 (by assumption) rfl dX10_cancels_59 rfl ?_
      refine g_aload_n (q := 63) dX10_cancels_62 rfl rfl ?_
      refine g_getR (q := 66) f_X10_10 (by assumption) rfl dX10_cancels_63 rfl ?_
      refine g_getR (q := 69) f_X10_158 (by assumption) rfl dX10_cancels_66 rfl ?_
      refine g_iload_n (q := 70) dX10_cancels_69 rfl rfl ?_
      refine c_Vi (q := 73) (p_X5_placeOf sl hG2.1.2.2.2.2.2) k_X10_167 sl1 rfl (by decide) rfl rfl (Nat.le_of_ble_eq_true rfl) rfl rfl dX10_cancels_70 rfl ?_
      rintro y w1 ⟨rfl, hw1⟩
      subst w1
      have ep : l_pl ((sR A (30 + j) (aw_no (A.1 (30 + j)))).2 20) (nI j) = nI ((A.2 20).idxOf (nI j)) := if_pos hlt
      rw [ep]
      refine c_Vi (q := 76) (p_X5_removeAt sl hG2.1.2.2.2.2.2 (k := (A.2 20).idxOf (nI j)) hlt) k_X10_170 sl1 rfl (by decide) rfl rfl (Nat.le_of_ble_eq_true rfl) rfl rfl dX10_cancels_73 rfl ?_
      rintro y vq3 ⟨hy3, hrq3, Fq3⟩
      have hCq3 := hG2.1.line hrq3 Fq3
      have Fq4 : fr vq2 vq3 (x + 1) (x + 1 + 55) := Fq3.fr (by omega) (by omega)
      have hG3 := hG2.flo hCq3 Fq4
      have E3 : fr v vq3 x (x + 477) := E2.tr (Fq4.wide (by omega) (by omega))
      refine g_pop (q := 77) dX10_cancels_76 rfl rfl ?_
      refine g_aload_n (q := 78) dX10_cancels_77 rfl rfl ?_
      refine g_getR (q := 81) f_X10_10 (by assumption) rfl dX10_cancels_78 rfl ?_
      refine g_getR (q := 84) f_X10_158 (by assumption) rfl dX10_cancels_81 rfl ?_
      refine g_getI (q := 87) f_X10_118 sl1 rfl dX10_cancels_84 rfl ?_
      refine r_i dX10_cancels_87 rfl rfl rfl ?_
      rw [sp_canc, if_pos hcd, ej, if_neg hq24]
      exact ⟨⟨hG3.1.2.2.2.2.2.1, hG3⟩, E3⟩
    · have hq24 := gn_w0 hq24
      refine g_aload_n (q := 28) dX10_cancels_27 rfl rfl ?_
      refine c_Vi (q := 31) (p_X10_refuseNo hs hG) k_X10_148 (by assumption) rfl (by decide) rfl rfl (Nat.le_of_ble_eq_true rfl) rfl rfl dX10_cancels_28 rfl ?_
      rintro z w1 ⟨hz1, hG1, E1⟩
      refine r_i dX10_cancels_31 rfl rfl rfl ?_
      rw [sp_canc, if_pos hcd, ej, if_pos hq24]
      exact ⟨⟨hz1, hG1⟩, E1⟩
  · have hq4 := gn_b0 hq4
    refine g_aload_n (q := 8) dX10_cancels_7 rfl rfl ?_
    refine c_Vi (q := 11) (p_X10_refuseBad hs hG) k_X10_50 (by assumption) rfl (by decide) rfl rfl (Nat.le_of_ble_eq_true rfl) rfl rfl dX10_cancels_8 rfl ?_
    rintro z w1 ⟨hz1, hG1, E1⟩
    refine r_i dX10_cancels_11 rfl rfl rfl ?_
    rw [sp_canc, if_neg (by intro h; first | exact hq4 h)]
    exact ⟨⟨hz1, hG1⟩, E1⟩

set_option maxRecDepth 100000 in
set_option maxHeartbeats 4000000 in
theorem p_X10_keeps {X : gj_X} {lim : Nat} {σ : gj_H} {v : gj_V} {x : Nat} {A : aS} {t : Int32} {l : List (aS × Int32)} {tx : List Int32} {c : Nat → Int32} {n sn : Nat} (hs : gsh σ x) (hG : GR v x A t l tx c) (hI : IV A n sn) {w b : Int32} : gj_E X 6 m_X10_keeps [.ref x, .int w, .int b] lim σ v (q_i lim σ (fun z v' => sp_keeps A t l tx c w b z (GR v' x) ∧ fr v v' x (x + 477))) := by
  obtain ⟨sx, hf, hh, ht, hrn, hia⟩ := id hs
  have hc := hG.2.2.2
  have hn6 := hI.2.1.2.2.2.1
  have hn1 := hI.2.1.2.2.1
  have sf := hf.1
  have sb := hf.2.1
  have ss := hf.2.2.1
  have sw := hf.2.2.2.1
  have hb6 := hf.2.2.2.2.2.2.1
  have hs6 := hf.2.2.2.2.2.2.2.1
  have hw6 := hf.2.2.2.2.2.2.2.2
  have sl := hf.2.2.2.2.1
  have sl1 := sl.1
  have hh1 := hh.1
  have ht1 := ht.1
  have hia1 := hia.1
  refine gj_E_at (L := [some (.ref x), some (.int w), some (.int b)]) (k := 0) rfl (by decide) rfl ?_
  refine g_iload_n (q := 1) dX10_keeps_0 rfl rfl ?_
  refine c_Si (q := 4) p_X10_isWorker k_X10_135 (by decide) rfl rfl (Nat.le_of_ble_eq_true rfl) rfl rfl dX10_keeps_1 rfl ?_
  rintro z w1 ⟨rfl, hw1⟩
  subst w1
  refine g_ifeq (t := 18) (q := 7) dX10_keeps_4 (by decide) rfl (fun hq4 => ?_) (fun hq4 => ?_)
  · have hq4 := gn_b0 hq4
    refine g_aload_n (q := 19) dX10_keeps_18 rfl rfl ?_
    refine c_Vi (q := 22) (p_X10_refuseBad hs hG) k_X10_50 (by assumption) rfl (by decide) rfl rfl (Nat.le_of_ble_eq_true rfl) rfl rfl dX10_keeps_19 rfl ?_
    rintro z w1 ⟨hz1, hG1, E1⟩
    refine r_i dX10_keeps_22 rfl rfl rfl ?_
    rw [sp_keeps, if_neg (by intro h; first | exact hq4 h.1 | exact hq15 h.2)]
    exact ⟨⟨hz1, hG1⟩, E1⟩
  · have hq4 := gn_b1 hq4
    refine g_aload_n (q := 8) dX10_keeps_7 rfl rfl ?_
    refine g_getR (q := 11) f_X10_10 (by assumption) rfl dX10_keeps_8 rfl ?_
    refine g_iload_n (q := 12) dX10_keeps_11 rfl rfl ?_
    refine c_Vi (q := 15) (p_X1_hasBuffer hf hG.1) k_X10_66 (by assumption) rfl (by decide) rfl rfl (Nat.le_of_ble_eq_true rfl) rfl rfl dX10_keeps_12 rfl ?_
    rintro z w1 ⟨rfl, hw1⟩
    subst w1
    refine g_ifne (t := 23) (q := 18) dX10_keeps_15 (by decide) rfl (fun hq15 => ?_) (fun hq15 => ?_)
    · have hq15 := gn_b1 hq15
      refine g_aload_n (q := 24) dX10_keeps_23 rfl rfl ?_
      refine g_getR (q := 27) f_X10_10 (by assumption) rfl dX10_keeps_24 rfl ?_
      refine g_iload_n (q := 28) dX10_keeps_27 rfl rfl ?_
      refine c_Vi (q := 31) (p_X1_queuedAt hf hG.1 hI.2.1.1 hn6) k_X10_173 sf rfl (by decide) rfl rfl (Nat.le_of_ble_eq_true rfl) rfl rfl dX10_keeps_28 rfl ?_
      rintro y w1 ⟨hy1, hw1⟩
      subst w1
      rw [← nn_eq hI] at hy1
      refine g_iconst (q := 32) (x := (-1)) dX10_keeps_31 (by decide) rfl ?_
      refine g_icmpeq (t := 40) (q := 35) dX10_keeps_32 (by decide) rfl (fun hq32 => ?_) (fun hq32 => ?_)
      · rw [hy1] at hq32
        have hcd := And.intro hq4 hq15
        obtain ⟨w0, w6, rfl⟩ := gn_05 hq4
        obtain ⟨j, hj, rfl⟩ := a_has_of hI.2.1.1 (by omega) hq15
        have ej : iN (nI j) = j := iN_n (by omega)
        have j6 : j < 6 := by omega
        have hno := (a_qa_none (nn A) 0 A (nI w0) hI.2.2.2 (by rw [nn_eq hI]; omega)).mp hq32
        have hlen := queue_add hI.2.2.2 w6 j6 (hno j (by omega) (by rw [nn_eq hI]; omega))
        refine g_aload_n (q := 41) dX10_keeps_40 rfl rfl ?_
        refine g_getR (q := 44) f_X10_19 (by assumption) rfl dX10_keeps_41 rfl ?_
        refine g_aload_n (q := 45) dX10_keeps_44 rfl rfl ?_
        refine g_getR (q := 48) f_X10_10 (by assumption) rfl dX10_keeps_45 rfl ?_
        refine c_Vv (q := 51) (p_X3_keep hh hf (Or.inl (by omega)) hG.2.1.choose_spec hG.1) k_X10_54 (by assumption) rfl (by decide) rfl rfl (Nat.le_of_ble_eq_true rfl) rfl rfl dX10_keeps_48 rfl ?_
        rintro vq1 ⟨⟨nx1, hH1⟩, Fq1⟩
        have hG1 : GR vq1 x A t (h_push l (A, t)) tx c := hG.his hH1 Fq1
        have E1 : fr v vq1 x (x + 477) := Fq1.wide (by omega) (by omega)
        refine g_aload_n (q := 52) dX10_keeps_51 rfl rfl ?_
        refine g_getR (q := 55) f_X10_10 (by assumption) rfl dX10_keeps_52 rfl ?_
        refine g_getR (q := 58) f_X10_70 (by assumption) rfl dX10_keeps_55 rfl ?_
        refine g_iload_n (q := 59) dX10_keeps_58 rfl rfl ?_
        refine g_aald (q := 60) (by assumption) rfl rfl (ra_at j6) (by simp) dX10_keeps_59 rfl ?_
        refine g_iload_n (q := 61) dX10_keeps_60 rfl rfl ?_
        refine c_Vi (q := 64) (p_X0_keepFor (hb6 j j6) (hG1.1.2.2.1 j j6) (w := nI w0) (fun _ => hlen)) k_X10_176 (hb6 j j6).1 rfl (by decide) rfl rfl (Nat.le_of_ble_eq_true rfl) rfl rfl dX10_keeps_61 rfl ?_
        rintro y vq2 ⟨hy2, hBq2, Fq2⟩
        have hCq2 := hG1.1.buf j6 hBq2 Fq2
        have Fq3 : fr vq1 vq2 (x + 1) (x + 1 + 55) := Fq2.wide (by omega) (by omega)
        have hG2 := hG1.flo hCq2 Fq3
        have E2 : fr v vq2 x (x + 477) := E1.tr (Fq3.wide (by omega) (by omega))
        refine r_i dX10_keeps_64 rfl rfl rfl ?_
        rw [sp_keeps, if_pos hcd, ej, if_pos hq32]
        exact ⟨⟨hy2, hG2⟩, E2⟩
      · rw [hy1] at hq32
        refine g_aload_n (q := 36) dX10_keeps_35 rfl rfl ?_
        refine c_Vi (q := 39) (p_X10_refuseNo hs hG) k_X10_148 (by assumption) rfl (by decide) rfl rfl (Nat.le_of_ble_eq_true rfl) rfl rfl dX10_keeps_36 rfl ?_
        rintro z w1 ⟨hz1, hG1, E1⟩
        refine r_i dX10_keeps_39 rfl rfl rfl ?_
        rw [sp_keeps, if_pos ⟨hq4, hq15⟩, if_neg hq32]
        exact ⟨⟨hz1, hG1⟩, E1⟩
    · have hq15 := gn_b0 hq15
      refine g_aload_n (q := 19) dX10_keeps_18 rfl rfl ?_
      refine c_Vi (q := 22) (p_X10_refuseBad hs hG) k_X10_50 (by assumption) rfl (by decide) rfl rfl (Nat.le_of_ble_eq_true rfl) rfl rfl dX10_keeps_19 rfl ?_
      rintro z w1 ⟨hz1, hG1, E1⟩
      refine r_i dX10_keeps_22 rfl rfl rfl ?_
      rw [sp_keeps, if_neg (by intro h; first | exact hq4 h.1 | exact hq15 h.2)]
      exact ⟨⟨hz1, hG1⟩, E1⟩

set_option maxRecDepth 100000 in
set_option maxHeartbeats 4000000 in
theorem p_X10_lets {X : gj_X} {lim : Nat} {σ : gj_H} {v : gj_V} {x : Nat} {A : aS} {t : Int32} {l : List (aS × Int32)} {tx : List Int32} {c : Nat → Int32} {n sn : Nat} (hs : gsh σ x) (hG : GR v x A t l tx c) (hI : IV A n sn) {w b : Int32} : gj_E X 6 m_X10_lets [.ref x, .int w, .int b] lim σ v (q_i lim σ (fun z v' => sp_lets A t l tx c w b z (GR v' x) ∧ fr v v' x (x + 477))) := by
  obtain ⟨sx, hf, hh, ht, hrn, hia⟩ := id hs
  have hc := hG.2.2.2
  have hn6 := hI.2.1.2.2.2.1
  have hn1 := hI.2.1.2.2.1
  have sf := hf.1
  have sb := hf.2.1
  have ss := hf.2.2.1
  have sw := hf.2.2.2.1
  have hb6 := hf.2.2.2.2.2.2.1
  have hs6 := hf.2.2.2.2.2.2.2.1
  have hw6 := hf.2.2.2.2.2.2.2.2
  have sl := hf.2.2.2.2.1
  have sl1 := sl.1
  have hh1 := hh.1
  have ht1 := ht.1
  have hia1 := hia.1
  refine gj_E_at (L := [some (.ref x), some (.int w), some (.int b), none]) (k := 1) rfl (by decide) rfl ?_
  refine g_iload_n (q := 1) dX10_lets_0 rfl rfl ?_
  refine c_Si (q := 4) p_X10_isWorker k_X10_135 (by decide) rfl rfl (Nat.le_of_ble_eq_true rfl) rfl rfl dX10_lets_1 rfl ?_
  rintro z w1 ⟨rfl, hw1⟩
  subst w1
  refine g_ifeq (t := 18) (q := 7) dX10_lets_4 (by decide) rfl (fun hq4 => ?_) (fun hq4 => ?_)
  · have hq4 := gn_b0 hq4
    refine g_aload_n (q := 19) dX10_lets_18 rfl rfl ?_
    refine c_Vi (q := 22) (p_X10_refuseBad hs hG) k_X10_50 (by assumption) rfl (by decide) rfl rfl (Nat.le_of_ble_eq_true rfl) rfl rfl dX10_lets_19 rfl ?_
    rintro z w1 ⟨hz1, hG1, E1⟩
    refine r_i dX10_lets_22 rfl rfl rfl ?_
    rw [sp_lets, if_neg (by intro h; first | exact hq4 h.1 | exact hq15 h.2)]
    exact ⟨⟨hz1, hG1⟩, E1⟩
  · have hq4 := gn_b1 hq4
    refine g_aload_n (q := 8) dX10_lets_7 rfl rfl ?_
    refine g_getR (q := 11) f_X10_10 (by assumption) rfl dX10_lets_8 rfl ?_
    refine g_iload_n (q := 12) dX10_lets_11 rfl rfl ?_
    refine c_Vi (q := 15) (p_X1_hasBuffer hf hG.1) k_X10_66 (by assumption) rfl (by decide) rfl rfl (Nat.le_of_ble_eq_true rfl) rfl rfl dX10_lets_12 rfl ?_
    rintro z w1 ⟨rfl, hw1⟩
    subst w1
    refine g_ifne (t := 23) (q := 18) dX10_lets_15 (by decide) rfl (fun hq15 => ?_) (fun hq15 => ?_)
    · have hq15 := gn_b1 hq15
      have hcd := And.intro hq4 hq15
      obtain ⟨j, hj, rfl⟩ := a_has_of hI.2.1.1 (by omega) hq15
      have ej : iN (nI j) = j := iN_n (by omega)
      have j6 : j < 6 := by omega
      have eB : v (x + 1 + 7 + 6 * j) 7 = A.1 (10 + j) 7 := congrFun (hG.1.2.2.1 j j6).2.1 7
      refine g_aload_n (q := 24) dX10_lets_23 rfl rfl ?_
      refine g_getR (q := 27) f_X10_10 (by assumption) rfl dX10_lets_24 rfl ?_
      refine g_getR (q := 30) f_X10_70 (by assumption) rfl dX10_lets_27 rfl ?_
      refine g_iload_n (q := 31) dX10_lets_30 rfl rfl ?_
      refine g_aald (q := 32) (by assumption) rfl rfl (ra_at j6) (by simp) dX10_lets_31 rfl ?_
      refine g_getI (q := 35) f_X10_179 (hb6 j j6).1 rfl dX10_lets_32 rfl ?_
      refine g_iload_n (q := 36) dX10_lets_35 rfl rfl ?_
      refine g_icmpeq (t := 44) (q := 39) dX10_lets_36 (by decide) rfl (fun hq36 => ?_) (fun hq36 => ?_)
      · rw [eB] at hq36
        refine g_aload_n (q := 45) dX10_lets_44 rfl rfl ?_
        refine g_getR (q := 48) f_X10_19 (by assumption) rfl dX10_lets_45 rfl ?_
        refine g_aload_n (q := 49) dX10_lets_48 rfl rfl ?_
        refine g_getR (q := 52) f_X10_10 (by assumption) rfl dX10_lets_49 rfl ?_
        refine c_Vv (q := 55) (p_X3_keep hh hf (Or.inl (by omega)) hG.2.1.choose_spec hG.1) k_X10_54 (by assumption) rfl (by decide) rfl rfl (Nat.le_of_ble_eq_true rfl) rfl rfl dX10_lets_52 rfl ?_
        rintro vq1 ⟨⟨nx1, hH1⟩, Fq1⟩
        have hG1 : GR vq1 x A t (h_push l (A, t)) tx c := hG.his hH1 Fq1
        have E1 : fr v vq1 x (x + 477) := Fq1.wide (by omega) (by omega)
        refine g_aload_n (q := 56) dX10_lets_55 rfl rfl ?_
        refine g_getR (q := 59) f_X10_10 (by assumption) rfl dX10_lets_56 rfl ?_
        refine g_getR (q := 62) f_X10_70 (by assumption) rfl dX10_lets_59 rfl ?_
        refine g_iload_n (q := 63) dX10_lets_62 rfl rfl ?_
        refine g_aald (q := 64) (by assumption) rfl rfl (ra_at j6) (by simp) dX10_lets_63 rfl ?_
        refine c_Vi (q := 67) (p_X0_letGo (hb6 j j6) (hG1.1.2.2.1 j j6)) k_X10_182 (hb6 j j6).1 rfl (by decide) rfl rfl (Nat.le_of_ble_eq_true rfl) rfl rfl dX10_lets_64 rfl ?_
        rintro y vq2 ⟨hy2, hBq2, Fq2⟩
        have hCq2 := hG1.1.buf j6 hBq2 Fq2
        have Fq3 : fr vq1 vq2 (x + 1) (x + 1 + 55) := Fq2.wide (by omega) (by omega)
        have hG2 := hG1.flo hCq2 Fq3
        have E2 : fr v vq2 x (x + 477) := E1.tr (Fq3.wide (by omega) (by omega))
        have iv2 := iv_let hI hj
        refine g_istore_n (q := 68) dX10_lets_67 rfl rfl rfl rfl ?_
        dsimp only [List.set]
        refine g_aload_n (q := 69) dX10_lets_68 rfl rfl ?_
        refine g_getR (q := 72) f_X10_10 (by assumption) rfl dX10_lets_69 rfl ?_
        refine c_Vv (q := 75) (p_X1_serve hf hG2.1 iv2.1 hn6 iv2.2.2.1 iv2.2.1.1) k_X10_79 (by assumption) rfl (by decide) rfl rfl (Nat.le_of_ble_eq_true rfl) rfl rfl dX10_lets_72 rfl ?_
        rintro vq4 ⟨hCq4, Fq4⟩
        have hG4 := hG2.flo hCq4 Fq4
        have E4 : fr v vq4 x (x + 477) := E2.tr (Fq4.wide (by omega) (by omega))
        refine g_iload_n (q := 76) dX10_lets_75 rfl rfl ?_
        refine r_i dX10_lets_76 rfl rfl rfl ?_
        rw [sp_lets, if_pos hcd, ej, if_pos hq36]
        exact ⟨⟨hy2, hG4⟩, E4⟩
      · rw [eB] at hq36
        refine g_aload_n (q := 40) dX10_lets_39 rfl rfl ?_
        refine c_Vi (q := 43) (p_X10_refuseNo hs hG) k_X10_148 (by assumption) rfl (by decide) rfl rfl (Nat.le_of_ble_eq_true rfl) rfl rfl dX10_lets_40 rfl ?_
        rintro z w1 ⟨hz1, hG1, E1⟩
        refine r_i dX10_lets_43 rfl rfl rfl ?_
        rw [sp_lets, if_pos hcd, ej, if_neg hq36]
        exact ⟨⟨hz1, hG1⟩, E1⟩
    · have hq15 := gn_b0 hq15
      refine g_aload_n (q := 19) dX10_lets_18 rfl rfl ?_
      refine c_Vi (q := 22) (p_X10_refuseBad hs hG) k_X10_50 (by assumption) rfl (by decide) rfl rfl (Nat.le_of_ble_eq_true rfl) rfl rfl dX10_lets_19 rfl ?_
      rintro z w1 ⟨hz1, hG1, E1⟩
      refine r_i dX10_lets_22 rfl rfl rfl ?_
      rw [sp_lets, if_neg (by intro h; first | exact hq4 h.1 | exact hq15 h.2)]
      exact ⟨⟨hz1, hG1⟩, E1⟩

set_option maxRecDepth 100000 in
set_option maxHeartbeats 4000000 in
theorem p_X10_quits {X : gj_X} {lim : Nat} {σ : gj_H} {v : gj_V} {x : Nat} {A : aS} {t : Int32} {l : List (aS × Int32)} {tx : List Int32} {c : Nat → Int32} {n sn : Nat} (hs : gsh σ x) (hG : GR v x A t l tx c) (hI : IV A n sn) {w : Int32} : gj_E X 6 m_X10_quits [.ref x, .int w] lim σ v (q_i lim σ (fun z v' => sp_quits A t l tx c w z (GR v' x) ∧ fr v v' x (x + 477))) := by
  obtain ⟨sx, hf, hh, ht, hrn, hia⟩ := id hs
  have hc := hG.2.2.2
  have hn6 := hI.2.1.2.2.2.1
  have hn1 := hI.2.1.2.2.1
  have sf := hf.1
  have sb := hf.2.1
  have ss := hf.2.2.1
  have sw := hf.2.2.2.1
  have hb6 := hf.2.2.2.2.2.2.1
  have hs6 := hf.2.2.2.2.2.2.2.1
  have hw6 := hf.2.2.2.2.2.2.2.2
  have sl := hf.2.2.2.2.1
  have sl1 := sl.1
  have hh1 := hh.1
  have ht1 := ht.1
  have hia1 := hia.1
  refine gj_E_at (L := [some (.ref x), some (.int w), none, none]) (k := 2) rfl (by decide) rfl ?_
  refine g_iload_n (q := 1) dX10_quits_0 rfl rfl ?_
  refine c_Si (q := 4) p_X10_isWorker k_X10_135 (by decide) rfl rfl (Nat.le_of_ble_eq_true rfl) rfl rfl dX10_quits_1 rfl ?_
  rintro z w1 ⟨rfl, hw1⟩
  subst w1
  refine g_ifne (t := 12) (q := 7) dX10_quits_4 (by decide) rfl (fun hq4 => ?_) (fun hq4 => ?_)
  · have hq4 := gn_b1 hq4
    refine g_aload_n (q := 13) dX10_quits_12 rfl rfl ?_
    refine g_getR (q := 16) f_X10_10 (by assumption) rfl dX10_quits_13 rfl ?_
    refine g_iload_n (q := 17) dX10_quits_16 rfl rfl ?_
    refine c_Vi (q := 20) (p_X1_queuedAt hf hG.1 hI.2.1.1 hn6) k_X10_173 sf rfl (by decide) rfl rfl (Nat.le_of_ble_eq_true rfl) rfl rfl dX10_quits_17 rfl ?_
    rintro y w1 ⟨hy1, hw1⟩
    subst w1
    rw [← nn_eq hI] at hy1
    refine g_istore_n (q := 21) dX10_quits_20 rfl rfl rfl rfl ?_
    dsimp only [List.set]
    refine g_aload_n (q := 22) dX10_quits_21 rfl rfl ?_
    refine g_getR (q := 25) f_X10_10 (by assumption) rfl dX10_quits_22 rfl ?_
    refine g_iload_n (q := 26) dX10_quits_25 rfl rfl ?_
    refine c_Vi (q := 29) (p_X1_hasBuffer hf hG.1) k_X10_66 (by assumption) rfl (by decide) rfl rfl (Nat.le_of_ble_eq_true rfl) rfl rfl dX10_quits_26 rfl ?_
    rintro z w1 ⟨rfl, hw1⟩
    subst w1
    refine g_ifne (t := 37) (q := 32) dX10_quits_29 (by decide) rfl (fun hq29 => ?_) (fun hq29 => ?_)
    · have hq29 := gn_b1 hq29
      obtain ⟨j, hj, ey⟩ := a_has_of hI.2.1.1 (by omega) hq29
      have ej : iN (nI j) = j := iN_n (by omega)
      have j6 : j < 6 := by omega
      rw [ey] at hy1 ⊢
      have hq30 : ¬ a_qa (nn A) 0 A w = -1 := by rw [← hy1]; exact gn_m1 (by omega)
      obtain ⟨-, -, hm⟩ := a_qa_some (nn A) 0 A w hI.2.2.2 (by rw [nn_eq hI]; omega) j hy1.symm j6
      have hlt := idx_lt hm
      have hll := (hI.2.2.2.1 j j6).2.2
      refine g_aload_n (q := 38) dX10_quits_37 rfl rfl ?_
      refine g_getR (q := 41) f_X10_19 (by assumption) rfl dX10_quits_38 rfl ?_
      refine g_aload_n (q := 42) dX10_quits_41 rfl rfl ?_
      refine g_getR (q := 45) f_X10_10 (by assumption) rfl dX10_quits_42 rfl ?_
      refine c_Vv (q := 48) (p_X3_keep hh hf (Or.inl (by omega)) hG.2.1.choose_spec hG.1) k_X10_54 (by assumption) rfl (by decide) rfl rfl (Nat.le_of_ble_eq_true rfl) rfl rfl dX10_quits_45 rfl ?_
      rintro vq1 ⟨⟨nx1, hH1⟩, Fq1⟩
      have hG1 : GR vq1 x A t (h_push l (A, t)) tx c := hG.his hH1 Fq1
      have E1 : fr v vq1 x (x + 477) := Fq1.wide (by omega) (by omega)
      refine g_aload_n (q := 49) dX10_quits_48 rfl rfl ?_
      refine g_getR (q := 52) f_X10_10 (by assumption) rfl dX10_quits_49 rfl ?_
      refine g_getR (q := 55) f_X10_70 (by assumption) rfl dX10_quits_52 rfl ?_
      refine g_iload_n (q := 56) dX10_quits_55 rfl rfl ?_
      refine g_aald (q := 57) (by assumption) rfl rfl (ra_at j6) (by simp) dX10_quits_56 rfl ?_
      refine g_getR (q := 60) f_X10_185 (hb6 j j6).1 rfl dX10_quits_57 rfl ?_
      refine g_astore_n (q := 61) dX10_quits_60 rfl rfl rfl rfl ?_
      dsimp only [List.set]
      refine g_aload_n (q := 62) dX10_quits_61 rfl rfl ?_
      refine g_aload_n (q := 63) dX10_quits_62 rfl rfl ?_
      refine g_iload_n (q := 64) dX10_quits_63 rfl rfl ?_
      refine c_Vi (q := 67) (p_X5_placeOf (hb6 j j6).2.2.2 (hG1.1.2.2.1 j j6).2.2.2) k_X10_167 (hb6 j j6).2.2.2.1 rfl (by decide) rfl rfl (Nat.le_of_ble_eq_true rfl) rfl rfl dX10_quits_64 rfl ?_
      rintro y w1 ⟨rfl, hw1⟩
      subst w1
      have ep : l_pl (gB A j).2.2.2 w = nI ((A.2 (10 + j)).idxOf w) := if_pos hlt
      rw [ep]
      refine c_Vi (q := 70) (p_X5_removeAt (hb6 j j6).2.2.2 (hG1.1.2.2.1 j j6).2.2.2 (k := (A.2 (10 + j)).idxOf w) hlt) k_X10_170 (hb6 j j6).2.2.2.1 rfl (by decide) rfl rfl (Nat.le_of_ble_eq_true rfl) rfl rfl dX10_quits_67 rfl ?_
      rintro y vq2 ⟨hy2, hrq2, Fq2⟩
      have hBq2 := br_queue (hG1.1.2.2.1 j j6) hrq2 Fq2
      have Fq3 : fr vq1 vq2 (x + 1 + 7 + 6 * j) (x + 1 + 7 + 6 * j + 6) := Fq2.fr (by omega) (by omega)
      have hCq2 := hG1.1.buf j6 hBq2 Fq3
      rw [sB_queue _ _ _ j6] at hCq2
      have Fq4 : fr vq1 vq2 (x + 1) (x + 1 + 55) := Fq3.wide (by omega) (by omega)
      have hG2 := hG1.flo hCq2 Fq4
      have E2 : fr v vq2 x (x + 477) := E1.tr (Fq4.wide (by omega) (by omega))
      refine g_pop (q := 71) dX10_quits_70 rfl rfl ?_
      refine g_iload_n (q := 72) dX10_quits_71 rfl rfl ?_
      refine r_i dX10_quits_72 rfl rfl rfl ?_
      rw [sp_quits, if_pos hq4, if_neg hq30, ← hy1, ej]
      exact ⟨⟨rfl, hG2⟩, E2⟩
    · have hq29 := gn_b0 hq29
      have hq30 : a_qa (nn A) 0 A w = -1 := (a_qa_cases (nn A) 0 A w).resolve_right (fun ⟨cc, g1, g2, g3⟩ => hq29 (by rw [hy1, g3]; exact a_has_n hI.2.1.1 (by rw [nn_eq hI] at g2; omega) (by omega)))
      refine g_aload_n (q := 33) dX10_quits_32 rfl rfl ?_
      refine c_Vi (q := 36) (p_X10_refuseNo hs hG) k_X10_148 (by assumption) rfl (by decide) rfl rfl (Nat.le_of_ble_eq_true rfl) rfl rfl dX10_quits_33 rfl ?_
      rintro z w1 ⟨hz1, hG1, E1⟩
      refine r_i dX10_quits_36 rfl rfl rfl ?_
      rw [sp_quits, if_pos hq4, if_pos hq30]
      exact ⟨⟨hz1, hG1⟩, E1⟩
  · have hq4 := gn_b0 hq4
    refine g_aload_n (q := 8) dX10_quits_7 rfl rfl ?_
    refine c_Vi (q := 11) (p_X10_refuseBad hs hG) k_X10_50 (by assumption) rfl (by decide) rfl rfl (Nat.le_of_ble_eq_true rfl) rfl rfl dX10_quits_8 rfl ?_
    rintro z w1 ⟨hz1, hG1, E1⟩
    refine r_i dX10_quits_11 rfl rfl rfl ?_
    rw [sp_quits, if_neg (by intro h; first | exact hq4 h)]
    exact ⟨⟨hz1, hG1⟩, E1⟩
