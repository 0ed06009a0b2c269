set_option maxRecDepth 100000 in
set_option maxHeartbeats 4000000 in
theorem p_X10_puts {X : gj_X} {lim : Nat} {σ : gj_H} {v : gj_V} {x : Nat} {A : aS} {t : Int32} {l : List (aS × Int32)} {tx : List Int32} {c : Nat → Int32} {n sn : Nat} (hs : gsh σ x) (hG : GR v x A t l tx c) (hI : IV A n sn) {b k : Int32} : gj_E X 6 m_X10_puts [.ref x, .int b, .int k] lim σ v (q_i lim σ (fun z v' => sp_puts A t l tx c b k z (GR v' x) ∧ fr v v' x (x + 477))) := by
  obtain ⟨sx, hf, hh, ht, hrn, hia⟩ := id hs
  have hc := hG.2.2.2
  have hn6 := hI.2.1.2.2.2.1
  have hn1 := hI.2.1.2.2.1
  have sf := hf.1
  have sb := hf.2.1
  have ss := hf.2.2.1
  have sw := hf.2.2.2.1
  have hb6 := hf.2.2.2.2.2.2.1
  have hs6 := hf.2.2.2.2.2.2.2.1
  have hw6 := hf.2.2.2.2.2.2.2.2
  have sl := hf.2.2.2.2.1
  have sl1 := sl.1
  have hh1 := hh.1
  have ht1 := ht.1
  have hia1 := hia.1
  refine gj_E_at (L := [some (.ref x), some (.int b), some (.int k), none, none]) (k := 2) rfl (by decide) rfl ?_
  refine g_aload_n (q := 1) dX10_puts_0 rfl rfl ?_
  refine g_getR (q := 4) f_X10_10 (by assumption) rfl dX10_puts_1 rfl ?_
  refine g_iload_n (q := 5) dX10_puts_4 rfl rfl ?_
  refine c_Vi (q := 8) (p_X1_hasBuffer hf hG.1) k_X10_66 (by assumption) rfl (by decide) rfl rfl (Nat.le_of_ble_eq_true rfl) rfl rfl dX10_puts_5 rfl ?_
  rintro z w1 ⟨rfl, hw1⟩
  subst w1
  refine g_ifeq (t := 21) (q := 11) dX10_puts_8 (by decide) rfl (fun hq8 => ?_) (fun hq8 => ?_)
  · have hq8 := gn_b0 hq8
    refine g_aload_n (q := 22) dX10_puts_21 rfl rfl ?_
    refine c_Vi (q := 25) (p_X10_refuseBad hs hG) k_X10_50 (by assumption) rfl (by decide) rfl rfl (Nat.le_of_ble_eq_true rfl) rfl rfl dX10_puts_22 rfl ?_
    rintro z w1 ⟨hz1, hG1, E1⟩
    refine r_i dX10_puts_25 rfl rfl rfl ?_
    rw [sp_puts, if_neg (by intro h; first | exact hq8 h.1 | exact hq18 h.2)]
    exact ⟨⟨hz1, hG1⟩, E1⟩
  · have hq8 := gn_b1 hq8
    refine g_iload_n (q := 12) dX10_puts_11 rfl rfl ?_
    refine g_iconst (q := 13) (x := 0) dX10_puts_12 (by decide) rfl ?_
    refine g_bipush (q := 15) (x := 9) dX10_puts_13 (by decide) rfl ?_
    refine c_Si (q := 18) p_X10_within k_X10_46 (by decide) rfl rfl (Nat.le_of_ble_eq_true rfl) rfl rfl dX10_puts_15 rfl ?_
    rintro z w1 ⟨rfl, hw1⟩
    subst w1
    refine g_ifne (t := 26) (q := 21) dX10_puts_18 (by decide) rfl (fun hq18 => ?_) (fun hq18 => ?_)
    · have hq18 := gn_b1 hq18
      have hcd := And.intro hq8 hq18
      obtain ⟨j, hj, rfl⟩ := a_has_of hI.2.1.1 (by omega) hq8
      have ej : iN (nI j) = j := iN_n (by omega)
      have j6 : j < 6 := by omega
      have hrm : (gB A j).2.1 3 ≤ 6 := (hI.1 j j6).1
      refine g_aload_n (q := 27) dX10_puts_26 rfl rfl ?_
      refine g_getR (q := 30) f_X10_19 (by assumption) rfl dX10_puts_27 rfl ?_
      refine g_aload_n (q := 31) dX10_puts_30 rfl rfl ?_
      refine g_getR (q := 34) f_X10_10 (by assumption) rfl dX10_puts_31 rfl ?_
      refine c_Vv (q := 37) (p_X3_keep hh hf (Or.inl (by omega)) hG.2.1.choose_spec hG.1) k_X10_54 (by assumption) rfl (by decide) rfl rfl (Nat.le_of_ble_eq_true rfl) rfl rfl dX10_puts_34 rfl ?_
      rintro vq1 ⟨⟨nx1, hH1⟩, Fq1⟩
      have hG1 : GR vq1 x A t (h_push l (A, t)) tx c := hG.his hH1 Fq1
      have E1 : fr v vq1 x (x + 477) := Fq1.wide (by omega) (by omega)
      refine g_aload_n (q := 38) dX10_puts_37 rfl rfl ?_
      refine g_getR (q := 41) f_X10_10 (by assumption) rfl dX10_puts_38 rfl ?_
      refine g_getR (q := 44) f_X10_70 (by assumption) rfl dX10_puts_41 rfl ?_
      refine g_iload_n (q := 45) dX10_puts_44 rfl rfl ?_
      refine g_aald (q := 46) (by assumption) rfl rfl (ra_at j6) (by simp) dX10_puts_45 rfl ?_
      refine g_astore_n (q := 47) dX10_puts_46 rfl rfl rfl rfl ?_
      dsimp only [List.set]
      refine g_aload_n (q := 48) dX10_puts_47 rfl rfl ?_
      refine g_iload_n (q := 49) dX10_puts_48 rfl rfl ?_
      refine g_iconst (q := 50) (x := (-1)) dX10_puts_49 (by decide) rfl ?_
      refine c_Vi (q := 53) (p_X0_put (hb6 j j6) (hG1.1.2.2.1 j j6) (k := k) (w := -1) hrm) k_X10_110 (hb6 j j6).1 rfl (by decide) rfl rfl (Nat.le_of_ble_eq_true rfl) rfl rfl dX10_puts_50 rfl ?_
      rintro y vq2 ⟨hy2, hBq2, Fq2⟩
      have hCq2 := hG1.1.buf j6 hBq2 Fq2
      have Fq3 : fr vq1 vq2 (x + 1) (x + 1 + 55) := Fq2.wide (by omega) (by omega)
      have hG2 := hG1.flo hCq2 Fq3
      have E2 : fr v vq2 x (x + 477) := E1.tr (Fq3.wide (by omega) (by omega))
      have iv2 : IV (a_put A j k (-1)).2 n sn := iv_put hI hj hq18
      have hy2 : y = (a_put A j k (-1)).1 := hy2
      have eL := gB_s A j (b_put (gB A j) k (-1)).2 j6
      have eL2 : (a_put A j k (-1)).2.2 j = (b_put (gB A j) k (-1)).2.2.2.1 := congrArg (fun z => z.2.2.1) eL
      refine g_ifeq (t := 66) (q := 56) dX10_puts_53 (by decide) rfl (fun hq53 => ?_) (fun hq53 => ?_)
      · rw [hy2] at hq53
        refine g_bipush (q := 68) (x := (-5)) dX10_puts_66 (by decide) rfl ?_
        refine g_istore (q := 70) dX10_puts_68 rfl rfl rfl rfl ?_
        dsimp only [List.set]
        refine g_aload_n (q := 71) dX10_puts_70 rfl rfl ?_
        refine g_getR (q := 74) f_X10_10 (by assumption) rfl dX10_puts_71 rfl ?_
        refine c_Vv (q := 77) (p_X1_serve hf hG2.1 iv2.1 hn6 iv2.2.2.1 iv2.2.1.1) k_X10_79 (by assumption) rfl (by decide) rfl rfl (Nat.le_of_ble_eq_true rfl) rfl rfl dX10_puts_74 rfl ?_
        rintro vq3 ⟨hCq3, Fq3⟩
        have hG3 := hG2.flo hCq3 Fq3
        have E3 : fr v vq3 x (x + 477) := E2.tr (Fq3.wide (by omega) (by omega))
        refine g_iload (q := 79) dX10_puts_77 rfl rfl ?_
        refine r_i dX10_puts_79 rfl rfl rfl ?_
        rw [sp_puts, if_pos hcd, ej]
        refine ⟨⟨?_, hG3⟩, E3⟩
        first | (rw [if_pos hq53]; done) | (rw [if_neg hq53, eL2, ← hBq2.2.2.1.1]; done)
      · rw [hy2] at hq53
        refine g_aload_n (q := 57) dX10_puts_56 rfl rfl ?_
        refine g_getR (q := 60) f_X10_114 (hb6 j j6).1 rfl dX10_puts_57 rfl ?_
        refine g_getI (q := 63) f_X10_118 (hb6 j j6).2.2.1.1 rfl dX10_puts_60 rfl ?_
        refine g_goto (q := 68) dX10_puts_63 (by decide) ?_
        refine g_istore (q := 70) dX10_puts_68 rfl rfl rfl rfl ?_
        dsimp only [List.set]
        refine g_aload_n (q := 71) dX10_puts_70 rfl rfl ?_
        refine g_getR (q := 74) f_X10_10 (by assumption) rfl dX10_puts_71 rfl ?_
        refine c_Vv (q := 77) (p_X1_serve hf hG2.1 iv2.1 hn6 iv2.2.2.1 iv2.2.1.1) k_X10_79 (by assumption) rfl (by decide) rfl rfl (Nat.le_of_ble_eq_true rfl) rfl rfl dX10_puts_74 rfl ?_
        rintro vq3 ⟨hCq3, Fq3⟩
        have hG3 := hG2.flo hCq3 Fq3
        have E3 : fr v vq3 x (x + 477) := E2.tr (Fq3.wide (by omega) (by omega))
        refine g_iload (q := 79) dX10_puts_77 rfl rfl ?_
        refine r_i dX10_puts_79 rfl rfl rfl ?_
        rw [sp_puts, if_pos hcd, ej]
        refine ⟨⟨?_, hG3⟩, E3⟩
        first | (rw [if_pos hq53]; done) | (rw [if_neg hq53, eL2, ← hBq2.2.2.1.1]; done)
    · have hq18 := gn_b0 hq18
      refine g_aload_n (q := 22) dX10_puts_21 rfl rfl ?_
      refine c_Vi (q := 25) (p_X10_refuseBad hs hG) k_X10_50 (by assumption) rfl (by decide) rfl rfl (Nat.le_of_ble_eq_true rfl) rfl rfl dX10_puts_22 rfl ?_
      rintro z w1 ⟨hz1, hG1, E1⟩
      refine r_i dX10_puts_25 rfl rfl rfl ?_
      rw [sp_puts, if_neg (by intro h; first | exact hq8 h.1 | exact hq18 h.2)]
      exact ⟨⟨hz1, hG1⟩, E1⟩

set_option maxRecDepth 100000 in
set_option maxHeartbeats 4000000 in
theorem p_X10_takes {X : gj_X} {lim : Nat} {σ : gj_H} {v : gj_V} {x : Nat} {A : aS} {t : Int32} {l : List (aS × Int32)} {tx : List Int32} {c : Nat → Int32} {n sn : Nat} (hs : gsh σ x) (hG : GR v x A t l tx c) (hI : IV A n sn) {b : Int32} : gj_E X 6 m_X10_takes [.ref x, .int b] lim σ v (q_i lim σ (fun z v' => sp_takes A t l tx c b z (GR v' x) ∧ fr v v' x (x + 477))) := by
  obtain ⟨sx, hf, hh, ht, hrn, hia⟩ := id hs
  have hc := hG.2.2.2
  have hn6 := hI.2.1.2.2.2.1
  have hn1 := hI.2.1.2.2.1
  have sf := hf.1
  have sb := hf.2.1
  have ss := hf.2.2.1
  have sw := hf.2.2.2.1
  have hb6 := hf.2.2.2.2.2.2.1
  have hs6 := hf.2.2.2.2.2.2.2.1
  have hw6 := hf.2.2.2.2.2.2.2.2
  have sl := hf.2.2.2.2.1
  have sl1 := sl.1
  have hh1 := hh.1
  have ht1 := ht.1
  have hia1 := hia.1
  refine gj_E_at (L := [some (.ref x), some (.int b), none]) (k := 1) rfl (by decide) rfl ?_
  refine g_aload_n (q := 1) dX10_takes_0 rfl rfl ?_
  refine g_getR (q := 4) f_X10_10 (by assumption) rfl dX10_takes_1 rfl ?_
  refine g_iload_n (q := 5) dX10_takes_4 rfl rfl ?_
  refine c_Vi (q := 8) (p_X1_hasBuffer hf hG.1) k_X10_66 (by assumption) rfl (by decide) rfl rfl (Nat.le_of_ble_eq_true rfl) rfl rfl dX10_takes_5 rfl ?_
  rintro z w1 ⟨rfl, hw1⟩
  subst w1
  refine g_ifne (t := 16) (q := 11) dX10_takes_8 (by decide) rfl (fun hq8 => ?_) (fun hq8 => ?_)
  · have hq8 := gn_b1 hq8
    have hcd := hq8
    obtain ⟨j, hj, rfl⟩ := a_has_of hI.2.1.1 (by omega) hq8
    have ej : iN (nI j) = j := iN_n (by omega)
    have j6 : j < 6 := by omega
    refine g_aload_n (q := 17) dX10_takes_16 rfl rfl ?_
    refine g_getR (q := 20) f_X10_19 (by assumption) rfl dX10_takes_17 rfl ?_
    refine g_aload_n (q := 21) dX10_takes_20 rfl rfl ?_
    refine g_getR (q := 24) f_X10_10 (by assumption) rfl dX10_takes_21 rfl ?_
    refine c_Vv (q := 27) (p_X3_keep hh hf (Or.inl (by omega)) hG.2.1.choose_spec hG.1) k_X10_54 (by assumption) rfl (by decide) rfl rfl (Nat.le_of_ble_eq_true rfl) rfl rfl dX10_takes_24 rfl ?_
    rintro vq1 ⟨⟨nx1, hH1⟩, Fq1⟩
    have hG1 : GR vq1 x A t (h_push l (A, t)) tx c := hG.his hH1 Fq1
    have E1 : fr v vq1 x (x + 477) := Fq1.wide (by omega) (by omega)
    refine g_aload_n (q := 28) dX10_takes_27 rfl rfl ?_
    refine g_getR (q := 31) f_X10_10 (by assumption) rfl dX10_takes_28 rfl ?_
    refine g_getR (q := 34) f_X10_70 (by assumption) rfl dX10_takes_31 rfl ?_
    refine g_iload_n (q := 35) dX10_takes_34 rfl rfl ?_
    refine g_aald (q := 36) (by assumption) rfl rfl (ra_at j6) (by simp) dX10_takes_35 rfl ?_
    refine g_iconst (q := 37) (x := (-1)) dX10_takes_36 (by decide) rfl ?_
    refine c_Vi (q := 40) (p_X0_take (hb6 j j6) (hG1.1.2.2.1 j j6) (w := -1)) k_X10_123 (hb6 j j6).1 rfl (by decide) rfl rfl (Nat.le_of_ble_eq_true rfl) rfl rfl dX10_takes_37 rfl ?_
    rintro y vq2 ⟨hy2, hBq2, Fq2⟩
    have hCq2 := hG1.1.buf j6 hBq2 Fq2
    have Fq3 : fr vq1 vq2 (x + 1) (x + 1 + 55) := Fq2.wide (by omega) (by omega)
    have hG2 := hG1.flo hCq2 Fq3
    have E2 : fr v vq2 x (x + 477) := E1.tr (Fq3.wide (by omega) (by omega))
    have iv2 : IV (a_take A j (-1)).2 n sn := iv_take hI hj
    refine g_istore_n (q := 41) dX10_takes_40 rfl rfl rfl rfl ?_
    dsimp only [List.set]
    refine g_aload_n (q := 42) dX10_takes_41 rfl rfl ?_
    refine g_getR (q := 45) f_X10_10 (by assumption) rfl dX10_takes_42 rfl ?_
    refine c_Vv (q := 48) (p_X1_serve hf hG2.1 iv2.1 hn6 iv2.2.2.1 iv2.2.1.1) k_X10_79 (by assumption) rfl (by decide) rfl rfl (Nat.le_of_ble_eq_true rfl) rfl rfl dX10_takes_45 rfl ?_
    rintro vq3 ⟨hCq3, Fq3⟩
    have hG3 := hG2.flo hCq3 Fq3
    have E3 : fr v vq3 x (x + 477) := E2.tr (Fq3.wide (by omega) (by omega))
    refine g_iload_n (q := 49) dX10_takes_48 rfl rfl ?_
    refine r_i dX10_takes_49 rfl rfl rfl ?_
    rw [sp_takes, if_pos hcd, ej]
    exact ⟨⟨hy2, hG3⟩, E3⟩
  · have hq8 := gn_b0 hq8
    refine g_aload_n (q := 12) dX10_takes_11 rfl rfl ?_
    refine c_Vi (q := 15) (p_X10_refuseBad hs hG) k_X10_50 (by assumption) rfl (by decide) rfl rfl (Nat.le_of_ble_eq_true rfl) rfl rfl dX10_takes_12 rfl ?_
    rintro z w1 ⟨hz1, hG1, E1⟩
    refine r_i dX10_takes_15 rfl rfl rfl ?_
    rw [sp_takes, if_neg (by intro h; first | exact hq8 h)]
    exact ⟨⟨hz1, hG1⟩, E1⟩

set_option maxRecDepth 100000 in
set_option maxHeartbeats 4000000 in
theorem p_X10_moves {X : gj_X} {lim : Nat} {σ : gj_H} {v : gj_V} {x : Nat} {A : aS} {t : Int32} {l : List (aS × Int32)} {tx : List Int32} {c : Nat → Int32} {n sn : Nat} (hs : gsh σ x) (hG : GR v x A t l tx c) (hI : IV A n sn) {a b m u : Int32} : gj_E X 6 m_X10_moves [.ref x, .int a, .int b, .int m, .int u] lim σ v (q_i lim σ (fun z v' => sp_moves A t l tx c a b m u z (GR v' x) ∧ fr v v' x (x + 477))) := by
  obtain ⟨sx, hf, hh, ht, hrn, hia⟩ := id hs
  have hc := hG.2.2.2
  have hn6 := hI.2.1.2.2.2.1
  have hn1 := hI.2.1.2.2.1
  have sf := hf.1
  have sb := hf.2.1
  have ss := hf.2.2.1
  have sw := hf.2.2.2.1
  have hb6 := hf.2.2.2.2.2.2.1
  have hs6 := hf.2.2.2.2.2.2.2.1
  have hw6 := hf.2.2.2.2.2.2.2.2
  have sl := hf.2.2.2.2.1
  have sl1 := sl.1
  have hh1 := hh.1
  have ht1 := ht.1
  have hia1 := hia.1
  refine gj_E_at (L := [some (.ref x), some (.int a), some (.int b), some (.int m), some (.int u), none, none]) (k := 2) rfl (by decide) rfl ?_
  refine g_aload_n (q := 1) dX10_moves_0 rfl rfl ?_
  refine g_getR (q := 4) f_X10_10 (by assumption) rfl dX10_moves_1 rfl ?_
  refine g_iload_n (q := 5) dX10_moves_4 rfl rfl ?_
  refine c_Vi (q := 8) (p_X1_hasBuffer hf hG.1) k_X10_66 (by assumption) rfl (by decide) rfl rfl (Nat.le_of_ble_eq_true rfl) rfl rfl dX10_moves_5 rfl ?_
  rintro z w1 ⟨rfl, hw1⟩
  subst w1
  refine g_ifeq (t := 47) (q := 11) dX10_moves_8 (by decide) rfl (fun hq8 => ?_) (fun hq8 => ?_)
  · have hq8 := gn_b0 hq8
    refine g_aload_n (q := 48) dX10_moves_47 rfl rfl ?_
    refine c_Vi (q := 51) (p_X10_refuseBad hs hG) k_X10_50 (by assumption) rfl (by decide) rfl rfl (Nat.le_of_ble_eq_true rfl) rfl rfl dX10_moves_48 rfl ?_
    rintro z w1 ⟨hz1, hG1, E1⟩
    refine r_i dX10_moves_51 rfl rfl rfl ?_
    rw [sp_moves, if_neg (by intro h; first | exact hq8 h.1 | exact hq19 h.2.1 | exact h.2.2.1 hq24 | exact hq34 h.2.2.2.1 | exact hq44 h.2.2.2.2)]
    exact ⟨⟨hz1, hG1⟩, E1⟩
  · have hq8 := gn_b1 hq8
    refine g_aload_n (q := 12) dX10_moves_11 rfl rfl ?_
    refine g_getR (q := 15) f_X10_10 (by assumption) rfl dX10_moves_12 rfl ?_
    refine g_iload_n (q := 16) dX10_moves_15 rfl rfl ?_
    refine c_Vi (q := 19) (p_X1_hasBuffer hf hG.1) k_X10_66 (by assumption) rfl (by decide) rfl rfl (Nat.le_of_ble_eq_true rfl) rfl rfl dX10_moves_16 rfl ?_
    rintro z w1 ⟨rfl, hw1⟩
    subst w1
    refine g_ifeq (t := 47) (q := 22) dX10_moves_19 (by decide) rfl (fun hq19 => ?_) (fun hq19 => ?_)
    · have hq19 := gn_b0 hq19
      refine g_aload_n (q := 48) dX10_moves_47 rfl rfl ?_
      refine c_Vi (q := 51) (p_X10_refuseBad hs hG) k_X10_50 (by assumption) rfl (by decide) rfl rfl (Nat.le_of_ble_eq_true rfl) rfl rfl dX10_moves_48 rfl ?_
      rintro z w1 ⟨hz1, hG1, E1⟩
      refine r_i dX10_moves_51 rfl rfl rfl ?_
      rw [sp_moves, if_neg (by intro h; first | exact hq8 h.1 | exact hq19 h.2.1 | exact h.2.2.1 hq24 | exact hq34 h.2.2.2.1 | exact hq44 h.2.2.2.2)]
      exact ⟨⟨hz1, hG1⟩, E1⟩
    · have hq19 := gn_b1 hq19
      refine g_iload_n (q := 23) dX10_moves_22 rfl rfl ?_
      refine g_iload_n (q := 24) dX10_moves_23 rfl rfl ?_
      refine g_icmpeq (t := 47) (q := 27) dX10_moves_24 (by decide) rfl (fun hq24 => ?_) (fun hq24 => ?_)
      · refine g_aload_n (q := 48) dX10_moves_47 rfl rfl ?_
        refine c_Vi (q := 51) (p_X10_refuseBad hs hG) k_X10_50 (by assumption) rfl (by decide) rfl rfl (Nat.le_of_ble_eq_true rfl) rfl rfl dX10_moves_48 rfl ?_
        rintro z w1 ⟨hz1, hG1, E1⟩
        refine r_i dX10_moves_51 rfl rfl rfl ?_
        rw [sp_moves, if_neg (by intro h; first | exact hq8 h.1 | exact hq19 h.2.1 | exact h.2.2.1 hq24 | exact hq34 h.2.2.2.1 | exact hq44 h.2.2.2.2)]
        exact ⟨⟨hz1, hG1⟩, E1⟩
      · refine g_iload_n (q := 28) dX10_moves_27 rfl rfl ?_
        refine g_iconst (q := 29) (x := 1) dX10_moves_28 (by decide) rfl ?_
        refine g_bipush (q := 31) (x := 9) dX10_moves_29 (by decide) rfl ?_
        refine c_Si (q := 34) p_X10_within k_X10_46 (by decide) rfl rfl (Nat.le_of_ble_eq_true rfl) rfl rfl dX10_moves_31 rfl ?_
        rintro z w1 ⟨rfl, hw1⟩
        subst w1
        refine g_ifeq (t := 47) (q := 37) dX10_moves_34 (by decide) rfl (fun hq34 => ?_) (fun hq34 => ?_)
        · have hq34 := gn_b0 hq34
          refine g_aload_n (q := 48) dX10_moves_47 rfl rfl ?_
          refine c_Vi (q := 51) (p_X10_refuseBad hs hG) k_X10_50 (by assumption) rfl (by decide) rfl rfl (Nat.le_of_ble_eq_true rfl) rfl rfl dX10_moves_48 rfl ?_
          rintro z w1 ⟨hz1, hG1, E1⟩
          refine r_i dX10_moves_51 rfl rfl rfl ?_
          rw [sp_moves, if_neg (by intro h; first | exact hq8 h.1 | exact hq19 h.2.1 | exact h.2.2.1 hq24 | exact hq34 h.2.2.2.1 | exact hq44 h.2.2.2.2)]
          exact ⟨⟨hz1, hG1⟩, E1⟩
        · have hq34 := gn_b1 hq34
          refine g_iload (q := 39) dX10_moves_37 rfl rfl ?_
          refine g_iconst (q := 40) (x := 0) dX10_moves_39 (by decide) rfl ?_
          refine g_iconst (q := 41) (x := 1) dX10_moves_40 (by decide) rfl ?_
          refine c_Si (q := 44) p_X10_within k_X10_46 (by decide) rfl rfl (Nat.le_of_ble_eq_true rfl) rfl rfl dX10_moves_41 rfl ?_
          rintro z w1 ⟨rfl, hw1⟩
          subst w1
          refine g_ifne (t := 52) (q := 47) dX10_moves_44 (by decide) rfl (fun hq44 => ?_) (fun hq44 => ?_)
          · have hq44 := gn_b1 hq44
            have hcd : c_moves A a b m u := ⟨hq8, hq19, hq24, hq34, hq44⟩
            obtain ⟨i, hi, rfl⟩ := a_has_of hI.2.1.1 (by omega) hq8
            obtain ⟨j, hj, rfl⟩ := a_has_of hI.2.1.1 (by omega) hq19
            have ej : iN (nI j) = j := iN_n (by omega)
            have j6 : j < 6 := by omega
            have ei : iN (nI i) = i := iN_n (by omega)
            have i6 : i < 6 := by omega
            have hij : i ≠ j := fun h => hq24 (by rw [h])
            obtain ⟨m0, hm0, rfl⟩ := nI_of2 (n := 9) (M := 9) (by decide) (fun h => absurd (Int32.le_trans hq34.1 (Int32.le_of_lt h)) (by decide)) hq34.2
            have em : iN (nI m0) = m0 := iN_n (by omega)
            refine g_aload_n (q := 53) dX10_moves_52 rfl rfl ?_
            refine g_getR (q := 56) f_X10_19 (by assumption) rfl dX10_moves_53 rfl ?_
            refine g_aload_n (q := 57) dX10_moves_56 rfl rfl ?_
            refine g_getR (q := 60) f_X10_10 (by assumption) rfl dX10_moves_57 rfl ?_
            refine c_Vv (q := 63) (p_X3_keep hh hf (Or.inl (by omega)) hG.2.1.choose_spec hG.1) k_X10_54 (by assumption) rfl (by decide) rfl rfl (Nat.le_of_ble_eq_true rfl) rfl rfl dX10_moves_60 rfl ?_
            rintro vq1 ⟨⟨nx1, hH1⟩, Fq1⟩
            have hG1 : GR vq1 x A t (h_push l (A, t)) tx c := hG.his hH1 Fq1
            have E1 : fr v vq1 x (x + 477) := Fq1.wide (by omega) (by omega)
            refine g_aload_n (q := 64) dX10_moves_63 rfl rfl ?_
            refine g_getR (q := 67) f_X10_42 (by assumption) rfl dX10_moves_64 rfl ?_
            refine g_aload_n (q := 68) dX10_moves_67 rfl rfl ?_
            refine g_getR (q := 71) f_X10_10 (by assumption) rfl dX10_moves_68 rfl ?_
            refine c_Vv (q := 74) (p_X4_keep hia hf (Or.inl (by omega)) hG1.1) k_X10_127 (by assumption) rfl (by decide) rfl rfl (Nat.le_of_ble_eq_true rfl) rfl rfl dX10_moves_71 rfl ?_
            rintro vq2 ⟨hI2, Fq2⟩
            have hG2 : GR vq2 x A t (h_push l (A, t)) tx c := hG1.oth (fun a ha => Fq2 a (by omega))
            have E2 : fr v vq2 x (x + 477) := E1.tr (Fq2.wide (by omega) (by omega))
            refine g_aload_n (q := 75) dX10_moves_74 rfl rfl ?_
            refine g_getR (q := 78) f_X10_10 (by assumption) rfl dX10_moves_75 rfl ?_
            refine g_iload_n (q := 79) dX10_moves_78 rfl rfl ?_
            refine g_iload_n (q := 80) dX10_moves_79 rfl rfl ?_
            refine g_iload_n (q := 81) dX10_moves_80 rfl rfl ?_
            refine c_Vi (q := 84) (p_X1_move hf hG2.1 (n := m0) hI.1 i6 j6 hij (by omega)) k_X10_128 sf rfl (by decide) rfl rfl (Nat.le_of_ble_eq_true rfl) rfl rfl dX10_moves_81 rfl ?_
            rintro y vq3 ⟨hy3, hCq3, Fq3⟩
            have hG3 := hG2.flo hCq3 Fq3
            have E3 : fr v vq3 x (x + 477) := E2.tr (Fq3.wide (by omega) (by omega))
            have hI3 : IR vq3 (x + 463) A.2 := hI2.keep (fun a g1 g2 => Fq3 a (by omega))
            have iv3 := iv_move (m := m0) hI hi hj hij
            have iv4 := iv_res iv3 hI.1
            have hmm : (a_move A i j m0).1 ≤ m0 := a_mvs_le i j m0 _
            subst y
            refine g_istore (q := 86) dX10_moves_84 rfl rfl rfl rfl ?_
            dsimp only [List.set]
            refine g_iload_n (q := 87) dX10_moves_86 rfl rfl ?_
            refine g_istore (q := 89) dX10_moves_87 rfl rfl rfl rfl ?_
            dsimp only [List.set]
            refine g_iload (q := 91) dX10_moves_89 rfl rfl ?_
            refine g_iload_n (q := 92) dX10_moves_91 rfl rfl ?_
            refine g_icmpge (t := 122) (q := 95) dX10_moves_92 (by decide) rfl (fun hq92 => ?_) (fun hq92 => ?_)
            · have hq92 : ¬ (a_move A i j m0).1 < m0 := fun h => absurd (gn_le hq92 (by omega)) (by omega)
              refine g_aload_n (q := 123) dX10_moves_122 rfl rfl ?_
              refine g_getR (q := 126) f_X10_10 (by assumption) rfl dX10_moves_123 rfl ?_
              refine c_Vv (q := 129) (p_X1_serve hf hG3.1 iv3.1 hn6 iv3.2.2.1 iv3.2.1.1) k_X10_79 (by assumption) rfl (by decide) rfl rfl (Nat.le_of_ble_eq_true rfl) rfl rfl dX10_moves_126 rfl ?_
              rintro vq5 ⟨hCq5, Fq5⟩
              have hG5 := hG3.flo hCq5 Fq5
              have E5 : fr v vq5 x (x + 477) := E3.tr (Fq5.wide (by omega) (by omega))
              refine g_iload (q := 131) dX10_moves_129 rfl rfl ?_
              refine r_i dX10_moves_131 rfl rfl rfl ?_
              rw [sp_moves, if_pos hcd, ej, ei, em]
              unfold z_moves
              rw [if_neg hq92]
              exact ⟨⟨by first | rfl | simp, hG5⟩, E5⟩
            · have hq92 : (a_move A i j m0).1 < m0 := gn_lt hq92 (by omega)
              refine g_iload (q := 97) dX10_moves_95 rfl rfl ?_
              refine g_iconst (q := 98) (x := 1) dX10_moves_97 (by decide) rfl ?_
              refine g_icmpne (t := 115) (q := 101) dX10_moves_98 (by decide) rfl (fun hq98 => ?_) (fun hq98 => ?_)
              · refine g_bipush (q := 117) (x := (-100)) dX10_moves_115 (by decide) rfl ?_
                refine g_iload (q := 119) dX10_moves_117 rfl rfl ?_
                refine g_isub (q := 120) dX10_moves_119 rfl ?_
                refine g_istore (q := 122) dX10_moves_120 rfl rfl rfl rfl ?_
                dsimp only [List.set]
                refine g_aload_n (q := 123) dX10_moves_122 rfl rfl ?_
                refine g_getR (q := 126) f_X10_10 (by assumption) rfl dX10_moves_123 rfl ?_
                refine c_Vv (q := 129) (p_X1_serve hf hG3.1 iv3.1 hn6 iv3.2.2.1 iv3.2.1.1) k_X10_79 (by assumption) rfl (by decide) rfl rfl (Nat.le_of_ble_eq_true rfl) rfl rfl dX10_moves_126 rfl ?_
                rintro vq5 ⟨hCq5, Fq5⟩
                have hG5 := hG3.flo hCq5 Fq5
                have E5 : fr v vq5 x (x + 477) := E3.tr (Fq5.wide (by omega) (by omega))
                refine g_iload (q := 131) dX10_moves_129 rfl rfl ?_
                refine r_i dX10_moves_131 rfl rfl rfl ?_
                rw [sp_moves, if_pos hcd, ej, ei, em]
                unfold z_moves
                rw [if_pos hq92, if_neg hq98]
                exact ⟨⟨by first | rfl | simp, hG5⟩, E5⟩
              · refine g_aload_n (q := 102) dX10_moves_101 rfl rfl ?_
                refine g_getR (q := 105) f_X10_42 (by assumption) rfl dX10_moves_102 rfl ?_
                refine g_aload_n (q := 106) dX10_moves_105 rfl rfl ?_
                refine g_getR (q := 109) f_X10_10 (by assumption) rfl dX10_moves_106 rfl ?_
                refine c_Vv (q := 112) (p_X4_giveBack hia hf (Or.inl (by omega)) hG3.1 hI3) k_X10_132 (by assumption) rfl (by decide) rfl rfl (Nat.le_of_ble_eq_true rfl) rfl rfl dX10_moves_109 rfl ?_
                rintro vq4 ⟨hCq4, Fq4⟩
                have hG4 := hG3.flo hCq4 Fq4
                have E4 : fr v vq4 x (x + 477) := E3.tr (Fq4.wide (by omega) (by omega))
                refine g_iconst (q := 113) (x := 0) dX10_moves_112 (by decide) rfl ?_
                refine g_istore (q := 115) dX10_moves_113 rfl rfl rfl rfl ?_
                dsimp only [List.set]
                refine g_bipush (q := 117) (x := (-100)) dX10_moves_115 (by decide) rfl ?_
                refine g_iload (q := 119) dX10_moves_117 rfl rfl ?_
                refine g_isub (q := 120) dX10_moves_119 rfl ?_
                refine g_istore (q := 122) dX10_moves_120 rfl rfl rfl rfl ?_
                dsimp only [List.set]
                refine g_aload_n (q := 123) dX10_moves_122 rfl rfl ?_
                refine g_getR (q := 126) f_X10_10 (by assumption) rfl dX10_moves_123 rfl ?_
                refine c_Vv (q := 129) (p_X1_serve hf hG4.1 iv4.1 hn6 iv4.2.2.1 iv4.2.1.1) k_X10_79 (by assumption) rfl (by decide) rfl rfl (Nat.le_of_ble_eq_true rfl) rfl rfl dX10_moves_126 rfl ?_
                rintro vq5 ⟨hCq5, Fq5⟩
                have hG5 := hG4.flo hCq5 Fq5
                have E5 : fr v vq5 x (x + 477) := E4.tr (Fq5.wide (by omega) (by omega))
                refine g_iload (q := 131) dX10_moves_129 rfl rfl ?_
                refine r_i dX10_moves_131 rfl rfl rfl ?_
                rw [sp_moves, if_pos hcd, ej, ei, em]
                unfold z_moves
                rw [if_pos hq92, if_pos hq98]
                exact ⟨⟨by first | rfl | simp, hG5⟩, E5⟩
          · have hq44 := gn_b0 hq44
            refine g_aload_n (q := 48) dX10_moves_47 rfl rfl ?_
            refine c_Vi (q := 51) (p_X10_refuseBad hs hG) k_X10_50 (by assumption) rfl (by decide) rfl rfl (Nat.le_of_ble_eq_true rfl) rfl rfl dX10_moves_48 rfl ?_
            rintro z w1 ⟨hz1, hG1, E1⟩
            refine r_i dX10_moves_51 rfl rfl rfl ?_
            rw [sp_moves, if_neg (by intro h; first | exact hq8 h.1 | exact hq19 h.2.1 | exact h.2.2.1 hq24 | exact hq34 h.2.2.2.1 | exact hq44 h.2.2.2.2)]
            exact ⟨⟨hz1, hG1⟩, E1⟩

set_option maxRecDepth 100000 in
set_option maxHeartbeats 4000000 in
theorem p_X10_type {X : gj_X} {lim : Nat} {σ : gj_H} {v : gj_V} {x : Nat} {A : aS} {t : Int32} {l : List (aS × Int32)} {tx : List Int32} {c : Nat → Int32} {n sn : Nat} (hs : gsh σ x) (hG : GR v x A t l tx c) (hI : IV A n sn) {k : Int32} : gj_E X 6 m_X10_type [.ref x, .int k] lim σ v (q_i lim σ (fun z v' => sp_type A t l tx c k z (GR v' x) ∧ fr v v' x (x + 477))) := by
  obtain ⟨sx, hf, hh, ht, hrn, hia⟩ := id hs
  have hc := hG.2.2.2
  have hn6 := hI.2.1.2.2.2.1
  have hn1 := hI.2.1.2.2.1
  have sf := hf.1
  have sb := hf.2.1
  have ss := hf.2.2.1
  have sw := hf.2.2.2.1
  have hb6 := hf.2.2.2.2.2.2.1
  have hs6 := hf.2.2.2.2.2.2.2.1
  have hw6 := hf.2.2.2.2.2.2.2.2
  have sl := hf.2.2.2.2.1
  have sl1 := sl.1
  have hh1 := hh.1
  have ht1 := ht.1
  have hia1 := hia.1
  refine gj_E_at (L := [some (.ref x), some (.int k)]) (k := 0) rfl (by decide) rfl ?_
  refine g_iload_n (q := 1) dX10_type_0 rfl rfl ?_
  refine g_iconst (q := 2) (x := 0) dX10_type_1 (by decide) rfl ?_
  refine g_bipush (q := 4) (x := 127) dX10_type_2 (by decide) rfl ?_
  refine c_Si (q := 7) p_X10_within k_X10_46 (by decide) rfl rfl (Nat.le_of_ble_eq_true rfl) rfl rfl dX10_type_4 rfl ?_
  rintro z w1 ⟨rfl, hw1⟩
  subst w1
  refine g_ifne (t := 15) (q := 10) dX10_type_7 (by decide) rfl (fun hq7 => ?_) (fun hq7 => ?_)
  · have hq7 := gn_b1 hq7
    refine g_aload_n (q := 16) dX10_type_15 rfl rfl ?_
    refine g_getR (q := 19) f_X10_26 (by assumption) rfl dX10_type_16 rfl ?_
    refine c_Vi (q := 22) (p_X8_isFull ht hG.2.2.1) k_X10_209 ht1 rfl (by decide) rfl rfl (Nat.le_of_ble_eq_true rfl) rfl rfl dX10_type_19 rfl ?_
    rintro y w1 ⟨rfl, hw1⟩
    subst w1
    refine g_ifeq (t := 30) (q := 25) dX10_type_22 (by decide) rfl (fun hq22 => ?_) (fun hq22 => ?_)
    · have hq22 := gn_b0 hq22
      refine g_aload_n (q := 31) dX10_type_30 rfl rfl ?_
      refine g_getR (q := 34) f_X10_26 (by assumption) rfl dX10_type_31 rfl ?_
      refine g_iload_n (q := 35) dX10_type_34 rfl rfl ?_
      refine c_Vv (q := 38) (p_X8_add ht hG.2.2.1 (by omega)) k_X10_212 ht1 rfl (by decide) rfl rfl (Nat.le_of_ble_eq_true rfl) rfl rfl dX10_type_35 rfl ?_
      rintro vq1 ⟨hT1, Fq1⟩
      have hG1 := hG.tex hT1 Fq1
      have E1 : fr v vq1 x (x + 477) := Fq1.fr (by omega) (by omega)
      refine g_aload_n (q := 39) dX10_type_38 rfl rfl ?_
      refine g_getR (q := 42) f_X10_26 (by assumption) rfl dX10_type_39 rfl ?_
      refine g_getI (q := 45) f_X10_215 (by assumption) rfl dX10_type_42 rfl ?_
      refine r_i dX10_type_45 rfl rfl rfl ?_
      rw [sp_type, if_pos hq7, if_neg hq22]
      refine ⟨⟨?_, hG1⟩, E1⟩
      rw [hT1.1]; simp
    · have hq22 := gn_b1 hq22
      refine g_aload_n (q := 26) dX10_type_25 rfl rfl ?_
      refine c_Vi (q := 29) (p_X10_refuseFull hs hG) k_X10_88 (by assumption) rfl (by decide) rfl rfl (Nat.le_of_ble_eq_true rfl) rfl rfl dX10_type_26 rfl ?_
      rintro z w1 ⟨hz1, hG1, E1⟩
      refine r_i dX10_type_29 rfl rfl rfl ?_
      rw [sp_type, if_pos hq7, if_pos hq22]
      exact ⟨⟨hz1, hG1⟩, E1⟩
  · have hq7 := gn_b0 hq7
    refine g_aload_n (q := 11) dX10_type_10 rfl rfl ?_
    refine c_Vi (q := 14) (p_X10_refuseBad hs hG) k_X10_50 (by assumption) rfl (by decide) rfl rfl (Nat.le_of_ble_eq_true rfl) rfl rfl dX10_type_11 rfl ?_
    rintro z w1 ⟨hz1, hG1, E1⟩
    refine r_i dX10_type_14 rfl rfl rfl ?_
    rw [sp_type, if_neg (by intro h; first | exact hq7 h)]
    exact ⟨⟨hz1, hG1⟩, E1⟩

set_option maxRecDepth 100000 in
set_option maxHeartbeats 4000000 in
theorem p_X10_clear {X : gj_X} {lim : Nat} {σ : gj_H} {v : gj_V} {x : Nat} {A : aS} {t : Int32} {l : List (aS × Int32)} {tx : List Int32} {c : Nat → Int32} {n sn : Nat} (hs : gsh σ x) (hG : GR v x A t l tx c) (hI : IV A n sn) : gj_E X 6 m_X10_clear [.ref x] lim σ v (q_i lim σ (fun z v' => (z = nI tx.length ∧ GR v' x A t l [] c) ∧ fr v v' x (x + 477))) := by
  obtain ⟨sx, hf, hh, ht, hrn, hia⟩ := id hs
  have hc := hG.2.2.2
  have hn6 := hI.2.1.2.2.2.1
  have hn1 := hI.2.1.2.2.1
  have sf := hf.1
  have sb := hf.2.1
  have ss := hf.2.2.1
  have sw := hf.2.2.2.1
  have hb6 := hf.2.2.2.2.2.2.1
  have hs6 := hf.2.2.2.2.2.2.2.1
  have hw6 := hf.2.2.2.2.2.2.2.2
  have sl := hf.2.2.2.2.1
  have sl1 := sl.1
  have hh1 := hh.1
  have ht1 := ht.1
  have hia1 := hia.1
  refine gj_E_at (L := [some (.ref x), none]) (k := 1) rfl (by decide) rfl ?_
  refine g_aload_n (q := 1) dX10_clear_0 rfl rfl ?_
  refine g_getR (q := 4) f_X10_26 (by assumption) rfl dX10_clear_1 rfl ?_
  refine g_getI (q := 7) f_X10_215 (by assumption) rfl dX10_clear_4 rfl ?_
  refine g_istore_n (q := 8) dX10_clear_7 rfl rfl rfl rfl ?_
  dsimp only [List.set]
  refine g_aload_n (q := 9) dX10_clear_8 rfl rfl ?_
  refine g_getR (q := 12) f_X10_26 (by assumption) rfl dX10_clear_9 rfl ?_
  refine g_iconst (q := 13) (x := 0) dX10_clear_12 (by decide) rfl ?_
  refine g_putI (q := 16) f_X10_215 (by assumption) rfl rfl rfl dX10_clear_13 rfl ?_
  refine g_gen (fun vq1 hvq1 => ?_)
  have hT1 : TR vq1 (x + 388) [] := by rw [hvq1]; exact ⟨by rw [gu_2, gu_s, ud_s]; rfl, by simp, fun i hi => absurd hi (by simp)⟩
  have Fq1 : fr2 v vq1 (x + 388) := by rw [hvq1]; exact fun a g1 g2 => gu_n _ _ g1
  have hG1 := hG.tex hT1 Fq1
  have E1 : fr v vq1 x (x + 477) := Fq1.fr (by omega) (by omega)
  refine g_iload_n (q := 17) dX10_clear_16 rfl rfl ?_
  refine r_i dX10_clear_17 rfl rfl rfl ?_
  exact ⟨⟨hG.2.2.1.1, hG1⟩, E1⟩
