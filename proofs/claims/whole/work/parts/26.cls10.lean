/-! ===== GatedWorks: its calls ===== -/
theorem nn_eq {A : aS} {n sn : Nat} (h : IV A n sn) : nn A = n := by rw [show nn A = iN (A.1 40 5) from rfl, h.2.1.1]; exact iN_n (by have := h.2.1.2.2.2.1; omega)
theorem sn_eq {A : aS} {n sn : Nat} (h : IV A n sn) : iN (A.1 40 6) = sn := by rw [h.2.1.2.1]; exact iN_n (by have := h.2.1.2.2.2.2.1; omega)

set_option maxRecDepth 100000 in
set_option maxHeartbeats 4000000 in
theorem p_X10_rooms {X : gj_X} {lim : Nat} {σ : gj_H} {v : gj_V} {x : Nat} {A : aS} {t : Int32} {l : List (aS × Int32)} {tx : List Int32} {c : Nat → Int32} {n sn : Nat} (hs : gsh σ x) (hG : GR v x A t l tx c) (hI : IV A n sn) {b w : Int32} : gj_E X 6 m_X10_rooms [.ref x, .int b, .int w] lim σ v (q_i lim σ (fun z v' => sp_rooms A t l tx c b w z (GR v' x) ∧ fr v v' x (x + 477))) := by
  obtain ⟨sx, hf, hh, ht, hrn, hia⟩ := id hs
  have hc := hG.2.2.2
  have hn6 := hI.2.1.2.2.2.1
  have hn1 := hI.2.1.2.2.1
  have sf := hf.1
  have sb := hf.2.1
  have ss := hf.2.2.1
  have sw := hf.2.2.2.1
  have hb6 := hf.2.2.2.2.2.2.1
  have hs6 := hf.2.2.2.2.2.2.2.1
  have hw6 := hf.2.2.2.2.2.2.2.2
  have sl := hf.2.2.2.2.1
  have sl1 := sl.1
  have hh1 := hh.1
  have ht1 := ht.1
  have hia1 := hia.1
  refine gj_E_at (L := [some (.ref x), some (.int b), some (.int w), none]) (k := 1) rfl (by decide) rfl ?_
  refine g_aload_n (q := 1) dX10_rooms_0 rfl rfl ?_
  refine g_getR (q := 4) f_X10_10 (by assumption) rfl dX10_rooms_1 rfl ?_
  refine g_iload_n (q := 5) dX10_rooms_4 rfl rfl ?_
  refine c_Vi (q := 8) (p_X1_hasBuffer hf hG.1) k_X10_66 (by assumption) rfl (by decide) rfl rfl (Nat.le_of_ble_eq_true rfl) rfl rfl dX10_rooms_5 rfl ?_
  rintro z w1 ⟨rfl, hw1⟩
  subst w1
  refine g_ifeq (t := 21) (q := 11) dX10_rooms_8 (by decide) rfl (fun hq8 => ?_) (fun hq8 => ?_)
  · have hq8 := gn_b0 hq8
    refine g_aload_n (q := 22) dX10_rooms_21 rfl rfl ?_
    refine c_Vi (q := 25) (p_X10_refuseBad hs hG) k_X10_50 (by assumption) rfl (by decide) rfl rfl (Nat.le_of_ble_eq_true rfl) rfl rfl dX10_rooms_22 rfl ?_
    rintro z w1 ⟨hz1, hG1, E1⟩
    refine r_i dX10_rooms_25 rfl rfl rfl ?_
    rw [sp_rooms, if_neg (by intro h; first | exact hq8 h.1 | exact hq18 h.2)]
    exact ⟨⟨hz1, hG1⟩, E1⟩
  · have hq8 := gn_b1 hq8
    refine g_iload_n (q := 12) dX10_rooms_11 rfl rfl ?_
    refine g_iconst (q := 13) (x := 1) dX10_rooms_12 (by decide) rfl ?_
    refine g_bipush (q := 15) (x := 6) dX10_rooms_13 (by decide) rfl ?_
    refine c_Si (q := 18) p_X10_within k_X10_46 (by decide) rfl rfl (Nat.le_of_ble_eq_true rfl) rfl rfl dX10_rooms_15 rfl ?_
    rintro z w1 ⟨rfl, hw1⟩
    subst w1
    refine g_ifne (t := 26) (q := 21) dX10_rooms_18 (by decide) rfl (fun hq18 => ?_) (fun hq18 => ?_)
    · have hq18 := gn_b1 hq18
      obtain ⟨j, hj, rfl⟩ := a_has_of hI.2.1.1 (by omega) hq8
      have ej : iN (nI j) = j := iN_n (by omega)
      have hq5 : j < 6 := by omega
      refine g_aload_n (q := 27) dX10_rooms_26 rfl rfl ?_
      refine g_getR (q := 30) f_X10_19 (by assumption) rfl dX10_rooms_27 rfl ?_
      refine g_aload_n (q := 31) dX10_rooms_30 rfl rfl ?_
      refine g_getR (q := 34) f_X10_10 (by assumption) rfl dX10_rooms_31 rfl ?_
      refine c_Vv (q := 37) (p_X3_keep hh hf (Or.inl (by omega)) hG.2.1.choose_spec hG.1) k_X10_54 (by assumption) rfl (by decide) rfl rfl (Nat.le_of_ble_eq_true rfl) rfl rfl dX10_rooms_34 rfl ?_
      rintro vq1 ⟨⟨nx1, hH1⟩, Fq1⟩
      have hG1 : GR vq1 x A t (h_push l (A, t)) tx c := hG.his hH1 Fq1
      have E1 : fr v vq1 x (x + 477) := Fq1.wide (by omega) (by omega)
      refine g_aload_n (q := 38) dX10_rooms_37 rfl rfl ?_
      refine g_getR (q := 41) f_X10_10 (by assumption) rfl dX10_rooms_38 rfl ?_
      refine g_getR (q := 44) f_X10_70 (by assumption) rfl dX10_rooms_41 rfl ?_
      refine g_iload_n (q := 45) dX10_rooms_44 rfl rfl ?_
      refine g_aald (q := 46) (by assumption) rfl rfl (ra_at hq5) (by simp) dX10_rooms_45 rfl ?_
      refine g_getI (q := 49) f_X10_74 (hb6 j hq5).1 rfl dX10_rooms_46 rfl ?_
      refine g_istore_n (q := 50) dX10_rooms_49 rfl rfl rfl rfl ?_
      dsimp only [List.set]
      refine g_aload_n (q := 51) dX10_rooms_50 rfl rfl ?_
      refine g_getR (q := 54) f_X10_10 (by assumption) rfl dX10_rooms_51 rfl ?_
      refine g_getR (q := 57) f_X10_70 (by assumption) rfl dX10_rooms_54 rfl ?_
      refine g_iload_n (q := 58) dX10_rooms_57 rfl rfl ?_
      refine g_aald (q := 59) (by assumption) rfl rfl (ra_at hq5) (by simp) dX10_rooms_58 rfl ?_
      refine g_iload_n (q := 60) dX10_rooms_59 rfl rfl ?_
      refine g_putI (q := 63) f_X10_74 (hb6 j hq5).1 rfl rfl rfl dX10_rooms_60 rfl ?_
      refine g_gen (fun vq2 hvq2 => ?_)
      have hBq2 := (hG1.1.2.2.1 j hq5).f 3 w
      have hCq2 := hG1.1.buf hq5 hBq2 (fr.up2 (by omega) (by omega))
      rw [sB_row _ _ _ hq5, ← hvq2] at hCq2
      have Fq2 : fr vq1 vq2 (x + 1) (x + 1 + 55) := by rw [hvq2]; exact fr.up2 (by omega) (by omega)
      have hG2 := hG1.flo hCq2 Fq2
      have E2 : fr v vq2 x (x + 477) := E1.tr (Fq2.wide (by omega) (by omega))
      have iv2 := iv_room1 hI hj hq18
      refine g_aload_n (q := 64) dX10_rooms_63 rfl rfl ?_
      refine g_getR (q := 67) f_X10_10 (by assumption) rfl dX10_rooms_64 rfl ?_
      refine c_Vv (q := 70) (p_X1_serve hf hG2.1 iv2.1 hn6 iv2.2.2.1 iv2.2.1.1) k_X10_79 (by assumption) rfl (by decide) rfl rfl (Nat.le_of_ble_eq_true rfl) rfl rfl dX10_rooms_67 rfl ?_
      rintro vq3 ⟨hCq3, Fq3⟩
      have hG3 := hG2.flo hCq3 Fq3
      have E3 : fr v vq3 x (x + 477) := E2.tr (Fq3.wide (by omega) (by omega))
      refine g_iload_n (q := 71) dX10_rooms_70 rfl rfl ?_
      refine r_i dX10_rooms_71 rfl rfl rfl ?_
      rw [sp_rooms, if_pos ⟨hq8, hq18⟩, ej]
      refine ⟨⟨?_, hG3⟩, E3⟩
      rw [(hG1.1.2.2.1 j hq5).2.1]; rfl
    · have hq18 := gn_b0 hq18
      refine g_aload_n (q := 22) dX10_rooms_21 rfl rfl ?_
      refine c_Vi (q := 25) (p_X10_refuseBad hs hG) k_X10_50 (by assumption) rfl (by decide) rfl rfl (Nat.le_of_ble_eq_true rfl) rfl rfl dX10_rooms_22 rfl ?_
      rintro z w1 ⟨hz1, hG1, E1⟩
      refine r_i dX10_rooms_25 rfl rfl rfl ?_
      rw [sp_rooms, if_neg (by intro h; first | exact hq8 h.1 | exact hq18 h.2)]
      exact ⟨⟨hz1, hG1⟩, E1⟩

set_option maxRecDepth 100000 in
set_option maxHeartbeats 4000000 in
theorem p_X10_station {X : gj_X} {lim : Nat} {σ : gj_H} {v : gj_V} {x : Nat} {A : aS} {t : Int32} {l : List (aS × Int32)} {tx : List Int32} {c : Nat → Int32} {n sn : Nat} (hs : gsh σ x) (hG : GR v x A t l tx c) (hI : IV A n sn) {y0 y1 y2 y3 y4 : Int32} : gj_E X 6 m_X10_station [.ref x, .int y0, .int y1, .int y2, .int y3, .int y4] lim σ v (q_i lim σ (fun z v' => sp_stat A t l tx c y0 y1 y2 y3 y4 z (GR v' x) ∧ fr v v' x (x + 477))) := by
  obtain ⟨sx, hf, hh, ht, hrn, hia⟩ := id hs
  have hc := hG.2.2.2
  have hn6 := hI.2.1.2.2.2.1
  have hn1 := hI.2.1.2.2.1
  have sf := hf.1
  have sb := hf.2.1
  have ss := hf.2.2.1
  have sw := hf.2.2.2.1
  have hb6 := hf.2.2.2.2.2.2.1
  have hs6 := hf.2.2.2.2.2.2.2.1
  have hw6 := hf.2.2.2.2.2.2.2.2
  have sl := hf.2.2.2.2.1
  have sl1 := sl.1
  have hh1 := hh.1
  have ht1 := ht.1
  have hia1 := hia.1
  refine gj_E_at (L := [some (.ref x), some (.int y0), some (.int y1), some (.int y2), some (.int y3), some (.int y4), none]) (k := 1) rfl (by decide) rfl ?_
  refine g_aload_n (q := 1) dX10_station_0 rfl rfl ?_
  refine g_getR (q := 4) f_X10_10 (by assumption) rfl dX10_station_1 rfl ?_
  refine g_iload_n (q := 5) dX10_station_4 rfl rfl ?_
  refine c_Vi (q := 8) (p_X1_hasBuffer hf hG.1) k_X10_66 (by assumption) rfl (by decide) rfl rfl (Nat.le_of_ble_eq_true rfl) rfl rfl dX10_station_5 rfl ?_
  rintro z w1 ⟨rfl, hw1⟩
  subst w1
  refine g_ifeq (t := 55) (q := 11) dX10_station_8 (by decide) rfl (fun hq8 => ?_) (fun hq8 => ?_)
  · have hq8 := gn_b0 hq8
    refine g_aload_n (q := 56) dX10_station_55 rfl rfl ?_
    refine c_Vi (q := 59) (p_X10_refuseBad hs hG) k_X10_50 (by assumption) rfl (by decide) rfl rfl (Nat.le_of_ble_eq_true rfl) rfl rfl dX10_station_56 rfl ?_
    rintro z w1 ⟨hz1, hG1, E1⟩
    refine r_i dX10_station_59 rfl rfl rfl ?_
    rw [sp_stat, if_neg (by intro h; first | exact hq8 h.1 | exact hq19 h.2.1 | exact hq30 h.2.2.1 | exact hq41 h.2.2.2.1 | exact hq52 h.2.2.2.2)]
    exact ⟨⟨hz1, hG1⟩, E1⟩
  · have hq8 := gn_b1 hq8
    refine g_aload_n (q := 12) dX10_station_11 rfl rfl ?_
    refine g_getR (q := 15) f_X10_10 (by assumption) rfl dX10_station_12 rfl ?_
    refine g_iload_n (q := 16) dX10_station_15 rfl rfl ?_
    refine c_Vi (q := 19) (p_X1_hasBufferOrNone hf hG.1) k_X10_82 (by assumption) rfl (by decide) rfl rfl (Nat.le_of_ble_eq_true rfl) rfl rfl dX10_station_16 rfl ?_
    rintro z w1 ⟨rfl, hw1⟩
    subst w1
    refine g_ifeq (t := 55) (q := 22) dX10_station_19 (by decide) rfl (fun hq19 => ?_) (fun hq19 => ?_)
    · have hq19 := gn_b0 hq19
      refine g_aload_n (q := 56) dX10_station_55 rfl rfl ?_
      refine c_Vi (q := 59) (p_X10_refuseBad hs hG) k_X10_50 (by assumption) rfl (by decide) rfl rfl (Nat.le_of_ble_eq_true rfl) rfl rfl dX10_station_56 rfl ?_
      rintro z w1 ⟨hz1, hG1, E1⟩
      refine r_i dX10_station_59 rfl rfl rfl ?_
      rw [sp_stat, if_neg (by intro h; first | exact hq8 h.1 | exact hq19 h.2.1 | exact hq30 h.2.2.1 | exact hq41 h.2.2.2.1 | exact hq52 h.2.2.2.2)]
      exact ⟨⟨hz1, hG1⟩, E1⟩
    · have hq19 := gn_b1 hq19
      refine g_aload_n (q := 23) dX10_station_22 rfl rfl ?_
      refine g_getR (q := 26) f_X10_10 (by assumption) rfl dX10_station_23 rfl ?_
      refine g_iload_n (q := 27) dX10_station_26 rfl rfl ?_
      refine c_Vi (q := 30) (p_X1_hasBuffer hf hG.1) k_X10_66 (by assumption) rfl (by decide) rfl rfl (Nat.le_of_ble_eq_true rfl) rfl rfl dX10_station_27 rfl ?_
      rintro z w1 ⟨rfl, hw1⟩
      subst w1
      refine g_ifeq (t := 55) (q := 33) dX10_station_30 (by decide) rfl (fun hq30 => ?_) (fun hq30 => ?_)
      · have hq30 := gn_b0 hq30
        refine g_aload_n (q := 56) dX10_station_55 rfl rfl ?_
        refine c_Vi (q := 59) (p_X10_refuseBad hs hG) k_X10_50 (by assumption) rfl (by decide) rfl rfl (Nat.le_of_ble_eq_true rfl) rfl rfl dX10_station_56 rfl ?_
        rintro z w1 ⟨hz1, hG1, E1⟩
        refine r_i dX10_station_59 rfl rfl rfl ?_
        rw [sp_stat, if_neg (by intro h; first | exact hq8 h.1 | exact hq19 h.2.1 | exact hq30 h.2.2.1 | exact hq41 h.2.2.2.1 | exact hq52 h.2.2.2.2)]
        exact ⟨⟨hz1, hG1⟩, E1⟩
      · have hq30 := gn_b1 hq30
        refine g_iload (q := 35) dX10_station_33 rfl rfl ?_
        refine g_iconst (q := 36) (x := 1) dX10_station_35 (by decide) rfl ?_
        refine g_bipush (q := 38) (x := 9) dX10_station_36 (by decide) rfl ?_
        refine c_Si (q := 41) p_X10_within k_X10_46 (by decide) rfl rfl (Nat.le_of_ble_eq_true rfl) rfl rfl dX10_station_38 rfl ?_
        rintro z w1 ⟨rfl, hw1⟩
        subst w1
        refine g_ifeq (t := 55) (q := 44) dX10_station_41 (by decide) rfl (fun hq41 => ?_) (fun hq41 => ?_)
        · have hq41 := gn_b0 hq41
          refine g_aload_n (q := 56) dX10_station_55 rfl rfl ?_
          refine c_Vi (q := 59) (p_X10_refuseBad hs hG) k_X10_50 (by assumption) rfl (by decide) rfl rfl (Nat.le_of_ble_eq_true rfl) rfl rfl dX10_station_56 rfl ?_
          rintro z w1 ⟨hz1, hG1, E1⟩
          refine r_i dX10_station_59 rfl rfl rfl ?_
          rw [sp_stat, if_neg (by intro h; first | exact hq8 h.1 | exact hq19 h.2.1 | exact hq30 h.2.2.1 | exact hq41 h.2.2.2.1 | exact hq52 h.2.2.2.2)]
          exact ⟨⟨hz1, hG1⟩, E1⟩
        · have hq41 := gn_b1 hq41
          refine g_iload (q := 46) dX10_station_44 rfl rfl ?_
          refine g_iconst (q := 47) (x := 0) dX10_station_46 (by decide) rfl ?_
          refine g_bipush (q := 49) (x := 9) dX10_station_47 (by decide) rfl ?_
          refine c_Si (q := 52) p_X10_within k_X10_46 (by decide) rfl rfl (Nat.le_of_ble_eq_true rfl) rfl rfl dX10_station_49 rfl ?_
          rintro z w1 ⟨rfl, hw1⟩
          subst w1
          refine g_ifne (t := 60) (q := 55) dX10_station_52 (by decide) rfl (fun hq52 => ?_) (fun hq52 => ?_)
          · have hq52 := gn_b1 hq52
            refine g_aload_n (q := 61) dX10_station_60 rfl rfl ?_
            refine g_getR (q := 64) f_X10_10 (by assumption) rfl dX10_station_61 rfl ?_
            refine g_getI (q := 67) f_X10_85 (by assumption) rfl dX10_station_64 rfl ?_
            refine g_bipush (q := 69) (x := 6) dX10_station_67 (by decide) rfl ?_
            refine g_icmplt (t := 77) (q := 72) dX10_station_69 (by decide) rfl (fun hq69 => ?_) (fun hq69 => ?_)
            · rw [hG.1.fl 6 (by decide)] at hq69
              have hsn : sn < 6 := by
                rw [hI.2.1.2.1] at hq69
                exact gn_lt (Int32.not_le.mpr hq69) (by have := hI.2.1.2.2.2.2.1; omega)
              have en := hI.2.1.2.1
              refine g_aload_n (q := 78) dX10_station_77 rfl rfl ?_
              refine g_getR (q := 81) f_X10_19 (by assumption) rfl dX10_station_78 rfl ?_
              refine g_aload_n (q := 82) dX10_station_81 rfl rfl ?_
              refine g_getR (q := 85) f_X10_10 (by assumption) rfl dX10_station_82 rfl ?_
              refine c_Vv (q := 88) (p_X3_keep hh hf (Or.inl (by omega)) hG.2.1.choose_spec hG.1) k_X10_54 (by assumption) rfl (by decide) rfl rfl (Nat.le_of_ble_eq_true rfl) rfl rfl dX10_station_85 rfl ?_
              rintro vq1 ⟨⟨nx1, hH1⟩, Fq1⟩
              have hG1 : GR vq1 x A t (h_push l (A, t)) tx c := hG.his hH1 Fq1
              have E1 : fr v vq1 x (x + 477) := Fq1.wide (by omega) (by omega)
              refine g_aload_n (q := 89) dX10_station_88 rfl rfl ?_
              refine g_getR (q := 92) f_X10_10 (by assumption) rfl dX10_station_89 rfl ?_
              refine g_getI (q := 95) f_X10_85 (by assumption) rfl dX10_station_92 rfl ?_
              rw [hG1.1.fl 6 (by decide), en]
              refine g_istore (q := 97) dX10_station_95 rfl rfl rfl rfl ?_
              dsimp only [List.set]
              refine g_aload_n (q := 98) dX10_station_97 rfl rfl ?_
              refine g_getR (q := 101) f_X10_10 (by assumption) rfl dX10_station_98 rfl ?_
              refine g_getR (q := 104) f_X10_91 (by assumption) rfl dX10_station_101 rfl ?_
              refine g_iload (q := 106) dX10_station_104 rfl rfl ?_
              refine g_aald (q := 107) (by assumption) rfl rfl (ra_at hsn) (by simp) dX10_station_106 rfl ?_
              refine g_iload_n (q := 108) dX10_station_107 rfl rfl ?_
              refine g_iload_n (q := 109) dX10_station_108 rfl rfl ?_
              refine g_iload_n (q := 110) dX10_station_109 rfl rfl ?_
              refine g_iload (q := 112) dX10_station_110 rfl rfl ?_
              refine g_iload (q := 114) dX10_station_112 rfl rfl ?_
              refine c_Vv (q := 117) (p_X7_setUp (hs6 sn hsn)) k_X10_95 (hs6 sn hsn) rfl (by decide) rfl rfl (Nat.le_of_ble_eq_true rfl) rfl rfl dX10_station_114 rfl ?_
              rintro vq2 hvq2
              rw [hG1.1.2.2.2.1 sn hsn] at hvq2
              have hCq2 := hG1.1.stat hsn (as_set (A.1 (20 + sn)) y0 y1 y2 y3 y4)
              rw [← hvq2] at hCq2
              have Fq2 : fr vq1 vq2 (x + 1) (x + 1 + 55) := by rw [hvq2]; exact fr.up (by omega) (by omega)
              have hG2 := hG1.flo hCq2 Fq2
              have E2 : fr v vq2 x (x + 477) := E1.tr (Fq2.wide (by omega) (by omega))
              refine g_aload_n (q := 118) dX10_station_117 rfl rfl ?_
              refine g_getR (q := 121) f_X10_10 (by assumption) rfl dX10_station_118 rfl ?_
              refine g_dup (q := 122) dX10_station_121 rfl rfl ?_
              refine g_getI (q := 125) f_X10_85 (by assumption) rfl dX10_station_122 rfl ?_
              rw [hG2.1.fl 6 (by decide)]
              refine g_iconst (q := 126) (x := 1) dX10_station_125 (by decide) rfl ?_
              refine g_iadd (q := 127) dX10_station_126 rfl ?_
              refine g_putI (q := 130) f_X10_85 (by assumption) rfl rfl rfl dX10_station_127 rfl ?_
              refine g_gen (fun vq3 hvq3 => ?_)
              have hCq3 := hG2.1.flo (k := 6) (x := (sR A (20 + sn) (as_set (A.1 (20 + sn)) y0 y1 y2 y3 y4)).1 40 6 + 1) (by decide)
              rw [← hvq3] at hCq3
              have Fq3 : fr vq2 vq3 (x + 1) (x + 1 + 55) := by rw [hvq3]; exact fr.up2 (by omega) (by omega)
              have hG3 := hG2.flo hCq3 Fq3
              have E3 : fr v vq3 x (x + 477) := E2.tr (Fq3.wide (by omega) (by omega))
              refine g_iload (q := 132) dX10_station_130 rfl rfl ?_
              refine r_i dX10_station_132 rfl rfl rfl ?_
              rw [sp_stat, if_pos ⟨hq8, hq19, hq30, hq41, hq52⟩, if_pos hq69, sn_eq hI]
              refine ⟨⟨en.symm, ?_⟩, E3⟩
              have eq40 : (sR A (20 + sn) (as_set (A.1 (20 + sn)) y0 y1 y2 y3 y4)).1 40 = A.1 40 := vu_n _ _ (by omega)
              rw [eq40, en] at hG3
              exact hG3
            · rw [hG.1.fl 6 (by decide)] at hq69
              refine g_aload_n (q := 73) dX10_station_72 rfl rfl ?_
              refine c_Vi (q := 76) (p_X10_refuseFull hs hG) k_X10_88 (by assumption) rfl (by decide) rfl rfl (Nat.le_of_ble_eq_true rfl) rfl rfl dX10_station_73 rfl ?_
              rintro z w1 ⟨hz1, hG1, E1⟩
              refine r_i dX10_station_76 rfl rfl rfl ?_
              rw [sp_stat, if_pos ⟨hq8, hq19, hq30, hq41, hq52⟩, if_neg hq69]
              exact ⟨⟨hz1, hG1⟩, E1⟩
          · have hq52 := gn_b0 hq52
            refine g_aload_n (q := 56) dX10_station_55 rfl rfl ?_
            refine c_Vi (q := 59) (p_X10_refuseBad hs hG) k_X10_50 (by assumption) rfl (by decide) rfl rfl (Nat.le_of_ble_eq_true rfl) rfl rfl dX10_station_56 rfl ?_
            rintro z w1 ⟨hz1, hG1, E1⟩
            refine r_i dX10_station_59 rfl rfl rfl ?_
            rw [sp_stat, if_neg (by intro h; first | exact hq8 h.1 | exact hq19 h.2.1 | exact hq30 h.2.2.1 | exact hq41 h.2.2.2.1 | exact hq52 h.2.2.2.2)]
            exact ⟨⟨hz1, hG1⟩, E1⟩

set_option maxRecDepth 100000 in
set_option maxHeartbeats 4000000 in
theorem p_X10_guards {X : gj_X} {lim : Nat} {σ : gj_H} {v : gj_V} {x : Nat} {A : aS} {t : Int32} {l : List (aS × Int32)} {tx : List Int32} {c : Nat → Int32} {n sn : Nat} (hs : gsh σ x) (hG : GR v x A t l tx c) (hI : IV A n sn) {s b : Int32} : gj_E X 6 m_X10_guards [.ref x, .int s, .int b] lim σ v (q_i lim σ (fun z v' => sp_guards A t l tx c s b z (GR v' x) ∧ fr v v' x (x + 477))) := by
  obtain ⟨sx, hf, hh, ht, hrn, hia⟩ := id hs
  have hc := hG.2.2.2
  have hn6 := hI.2.1.2.2.2.1
  have hn1 := hI.2.1.2.2.1
  have sf := hf.1
  have sb := hf.2.1
  have ss := hf.2.2.1
  have sw := hf.2.2.2.1
  have hb6 := hf.2.2.2.2.2.2.1
  have hs6 := hf.2.2.2.2.2.2.2.1
  have hw6 := hf.2.2.2.2.2.2.2.2
  have sl := hf.2.2.2.2.1
  have sl1 := sl.1
  have hh1 := hh.1
  have ht1 := ht.1
  have hia1 := hia.1
  refine gj_E_at (L := [some (.ref x), some (.int s), some (.int b), none]) (k := 1) rfl (by decide) rfl ?_
  refine g_aload_n (q := 1) dX10_guards_0 rfl rfl ?_
  refine g_getR (q := 4) f_X10_10 (by assumption) rfl dX10_guards_1 rfl ?_
  refine g_iload_n (q := 5) dX10_guards_4 rfl rfl ?_
  refine c_Vi (q := 8) (p_X1_hasStation hf hG.1) k_X10_101 (by assumption) rfl (by decide) rfl rfl (Nat.le_of_ble_eq_true rfl) rfl rfl dX10_guards_5 rfl ?_
  rintro z w1 ⟨rfl, hw1⟩
  subst w1
  refine g_ifeq (t := 22) (q := 11) dX10_guards_8 (by decide) rfl (fun hq8 => ?_) (fun hq8 => ?_)
  · have hq8 := gn_b0 hq8
    refine g_aload_n (q := 23) dX10_guards_22 rfl rfl ?_
    refine c_Vi (q := 26) (p_X10_refuseBad hs hG) k_X10_50 (by assumption) rfl (by decide) rfl rfl (Nat.le_of_ble_eq_true rfl) rfl rfl dX10_guards_23 rfl ?_
    rintro z w1 ⟨hz1, hG1, E1⟩
    refine r_i dX10_guards_26 rfl rfl rfl ?_
    rw [sp_guards, if_neg (by intro h; first | exact hq8 h.1 | exact hq19 h.2)]
    exact ⟨⟨hz1, hG1⟩, E1⟩
  · have hq8 := gn_b1 hq8
    refine g_aload_n (q := 12) dX10_guards_11 rfl rfl ?_
    refine g_getR (q := 15) f_X10_10 (by assumption) rfl dX10_guards_12 rfl ?_
    refine g_iload_n (q := 16) dX10_guards_15 rfl rfl ?_
    refine c_Vi (q := 19) (p_X1_hasBufferOrNone hf hG.1) k_X10_82 (by assumption) rfl (by decide) rfl rfl (Nat.le_of_ble_eq_true rfl) rfl rfl dX10_guards_16 rfl ?_
    rintro z w1 ⟨rfl, hw1⟩
    subst w1
    refine g_ifne (t := 27) (q := 22) dX10_guards_19 (by decide) rfl (fun hq19 => ?_) (fun hq19 => ?_)
    · have hq19 := gn_b1 hq19
      obtain ⟨j, hj, rfl⟩ := gn_ix (n := sn) (by have := hI.2.1.2.2.2.2.1; omega) hq8.1 (by rw [← hI.2.1.2.1]; exact hq8.2)
      have j6 : j < 6 := by have := hI.2.1.2.2.2.2.1; omega
      have ej : iN (nI j) = j := iN_n (by omega)
      refine g_aload_n (q := 28) dX10_guards_27 rfl rfl ?_
      refine g_getR (q := 31) f_X10_19 (by assumption) rfl dX10_guards_28 rfl ?_
      refine g_aload_n (q := 32) dX10_guards_31 rfl rfl ?_
      refine g_getR (q := 35) f_X10_10 (by assumption) rfl dX10_guards_32 rfl ?_
      refine c_Vv (q := 38) (p_X3_keep hh hf (Or.inl (by omega)) hG.2.1.choose_spec hG.1) k_X10_54 (by assumption) rfl (by decide) rfl rfl (Nat.le_of_ble_eq_true rfl) rfl rfl dX10_guards_35 rfl ?_
      rintro vq1 ⟨⟨nx1, hH1⟩, Fq1⟩
      have hG1 : GR vq1 x A t (h_push l (A, t)) tx c := hG.his hH1 Fq1
      have E1 : fr v vq1 x (x + 477) := Fq1.wide (by omega) (by omega)
      refine g_aload_n (q := 39) dX10_guards_38 rfl rfl ?_
      refine g_getR (q := 42) f_X10_10 (by assumption) rfl dX10_guards_39 rfl ?_
      refine g_getR (q := 45) f_X10_91 (by assumption) rfl dX10_guards_42 rfl ?_
      refine g_iload_n (q := 46) dX10_guards_45 rfl rfl ?_
      refine g_aald (q := 47) (by assumption) rfl rfl (ra_at j6) (by simp) dX10_guards_46 rfl ?_
      refine g_getI (q := 50) f_X10_104 (hs6 j j6) rfl dX10_guards_47 rfl ?_
      rw [hG1.1.2.2.2.1 j j6]
      refine g_istore_n (q := 51) dX10_guards_50 rfl rfl rfl rfl ?_
      dsimp only [List.set]
      refine g_aload_n (q := 52) dX10_guards_51 rfl rfl ?_
      refine g_getR (q := 55) f_X10_10 (by assumption) rfl dX10_guards_52 rfl ?_
      refine g_getR (q := 58) f_X10_91 (by assumption) rfl dX10_guards_55 rfl ?_
      refine g_iload_n (q := 59) dX10_guards_58 rfl rfl ?_
      refine g_aald (q := 60) (by assumption) rfl rfl (ra_at j6) (by simp) dX10_guards_59 rfl ?_
      refine g_iload_n (q := 61) dX10_guards_60 rfl rfl ?_
      refine g_putI (q := 64) f_X10_104 (hs6 j j6) rfl rfl rfl dX10_guards_61 rfl ?_
      refine g_gen (fun vq2 hvq2 => ?_)
      rw [gu_2, hG1.1.2.2.2.1 j j6] at hvq2
      have hCq2 := hG1.1.stat j6 (upd (A.1 (20 + j)) 5 b)
      rw [← hvq2] at hCq2
      have Fq2 : fr vq1 vq2 (x + 1) (x + 1 + 55) := by rw [hvq2]; exact fr.up (by omega) (by omega)
      have hG2 := hG1.flo hCq2 Fq2
      have E2 : fr v vq2 x (x + 477) := E1.tr (Fq2.wide (by omega) (by omega))
      refine g_iload_n (q := 65) dX10_guards_64 rfl rfl ?_
      refine r_i dX10_guards_65 rfl rfl rfl ?_
      rw [sp_guards, if_pos ⟨hq8, hq19⟩, ej]
      exact ⟨⟨rfl, hG2⟩, E2⟩
    · have hq19 := gn_b0 hq19
      refine g_aload_n (q := 23) dX10_guards_22 rfl rfl ?_
      refine c_Vi (q := 26) (p_X10_refuseBad hs hG) k_X10_50 (by assumption) rfl (by decide) rfl rfl (Nat.le_of_ble_eq_true rfl) rfl rfl dX10_guards_23 rfl ?_
      rintro z w1 ⟨hz1, hG1, E1⟩
      refine r_i dX10_guards_26 rfl rfl rfl ?_
      rw [sp_guards, if_neg (by intro h; first | exact hq8 h.1 | exact hq19 h.2)]
      exact ⟨⟨hz1, hG1⟩, E1⟩
