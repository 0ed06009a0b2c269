/-! ===== Floor: ticks ===== -/
set_option maxRecDepth 100000 in
set_option maxHeartbeats 4000000 in
theorem p_X1_takePair {X : gj_X} {lim : Nat} {σ : gj_H} {v : gj_V} {f : Nat} {A : aS} {t : Int32} (hs : fsh σ f) (hC : CR v f A t) {i j : Nat} (hv : ivB A) (hi : i < 6) (hj : j < 6) : gj_E X 2 m_X1_takePair [.ref f, .int (nI i), .int (nI j)] lim σ v (q_i lim σ (fun x v' => x = (a_pair A i j).1 ∧ CR v' f (a_pair A i j).2 t ∧ fr v v' f (f + 55))) := by
  obtain ⟨sf, sb, ss, sw, sl, sm, hb6, hs6, hw6⟩ := id hs
  have hmi : min i j < 6 := by omega
  have hma : max i j < 6 := by omega
  have t2 : ∀ (w : gj_V) (C : aS), CR w f C t → fr v w f (f + 55) → ∀ x : Int32, gj_G X 2 m_X1_takePair (q_i lim σ (fun z v' => z = x ∧ CR v' f (a_two C (min i j) (max i j) (decide (x = -5))) t ∧ fr v v' f (f + 55))) lim σ w 0 0 106 [some (.ref f), some (.int (nI i)), some (.int (nI j)), some (.ref (f + 7 + 6 * min i j)), some (.ref (f + 7 + 6 * max i j)), some (.int (if i = j then 2 else 1)), some (.int x)] [.int (if x = -5 then 1 else 0), .ref (f + 7 + 6 * max i j + 1), .ref (f + 7 + 6 * min i j + 1)] := by
    intro w C hCw Gw x
    refine c_Sv (q := 109) (p_X1_leaveBoth (c := x = -5) hs hCw (by omega : min i j < 6) (by omega : max i j < 6)) k_X1_93 (by decide) rfl rfl (Nat.le_of_ble_eq_true rfl) rfl rfl dX1_takePair_106 rfl ?_
    rintro w1 ⟨hCw1, Gw1⟩
    refine g_iload (q := 111) dX1_takePair_109 rfl rfl ?_
    refine r_i dX1_takePair_111 rfl rfl rfl ?_
    exact ⟨rfl, hCw1, Gw.tr Gw1⟩
  have tl : ∀ (w : gj_V) (C : aS), CR w f C t → fr v w f (f + 55) → ∀ x : Int32, gj_G X 2 m_X1_takePair (q_i lim σ (fun z v' => z = x ∧ CR v' f (a_two C (min i j) (max i j) (decide (x = -5))) t ∧ fr v v' f (f + 55))) lim σ w 0 0 85 [some (.ref f), some (.int (nI i)), some (.int (nI j)), some (.ref (f + 7 + 6 * min i j)), some (.ref (f + 7 + 6 * max i j)), some (.int (if i = j then 2 else 1)), some (.int x)] [] := by
    intro w C hCw Gw x
    refine g_aload_n (q := 86) dX1_takePair_85 rfl rfl ?_
    refine g_getR (q := 89) f_X1_80 (hb6 _ (by omega : min i j < 6)).1 rfl dX1_takePair_86 rfl ?_
    refine g_aload (q := 91) dX1_takePair_89 rfl rfl ?_
    refine g_getR (q := 94) f_X1_80 (hb6 _ (by omega : max i j < 6)).1 rfl dX1_takePair_91 rfl ?_
    refine g_iload (q := 96) dX1_takePair_94 rfl rfl ?_
    refine g_bipush (q := 98) (x := (-5)) dX1_takePair_96 (by decide) rfl ?_
    refine g_icmpne (t := 105) (q := 101) dX1_takePair_98 (by decide) rfl (fun hq98 => ?_) (fun hq98 => ?_)
    · refine g_iconst (q := 106) (x := (if x = -5 then 1 else 0)) dX1_takePair_105 (by rw [if_neg hq98]; decide) rfl ?_
      exact t2 w C hCw Gw x
    · refine g_iconst (q := 102) (x := (if x = -5 then 1 else 0)) dX1_takePair_101 (by rw [if_pos hq98]; decide) rfl ?_
      refine g_goto (q := 106) dX1_takePair_102 (by decide) ?_
      exact t2 w C hCw Gw x
  obtain ⟨p1, p2, p3⟩ := a_p0_ok hv hi hj
  have mid : ∀ (w : gj_V), CR w f (a_p0 A i j) t → fr v w f (f + 55) → gj_G X 2 m_X1_takePair (q_i lim σ (fun z v' => z = (a_pair A i j).1 ∧ CR v' f (a_pair A i j).2 t ∧ fr v v' f (f + 55))) lim σ w 0 0 54 [some (.ref f), some (.int (nI i)), some (.int (nI j)), some (.ref (f + 7 + 6 * min i j)), some (.ref (f + 7 + 6 * max i j)), some (.int (if i = j then 2 else 1)), some (.int (-5))] [] := by
    intro w hCw Gw
    have el : (gB (a_p0 A i j) (min i j)).2.2.1 = A.2 (min i j) := congrFun p3 _
    have eh : (gB (a_p0 A i j) (max i j)).2.2.1 = A.2 (max i j) := congrFun p3 _
    have rl : (gB (a_p0 A i j) (min i j)).2.1 = A.1 (10 + min i j) := by
      show (a_p0 A i j).1 (10 + min i j) = _
      unfold a_p0; rw [a_in_r (by omega), a_in_r (by omega)]
    have rh : (gB (a_p0 A i j) (max i j)).2.1 = A.1 (10 + max i j) := by
      show (a_p0 A i j).1 (10 + max i j) = _
      unfold a_p0; rw [a_in_r (by omega), a_in_r (by omega)]
    refine g_aload_n (q := 55) dX1_takePair_54 rfl rfl ?_
    refine g_iload (q := 57) dX1_takePair_55 rfl rfl ?_
    refine c_Vi (q := 60) (p_X0_canGive (hb6 _ hmi) (hCw.2.2.1 _ hmi)) k_X1_163 (hb6 _ hmi).1 rfl (by decide) rfl rfl (Nat.le_of_ble_eq_true rfl) rfl rfl dX1_takePair_57 rfl ?_
    rintro x w1 ⟨rfl, hw1⟩
    subst w1
    rw [el, rl]
    refine g_ifeq (t := 85) (q := 63) dX1_takePair_60 (by decide) rfl (fun hq60 => ?_) (fun hq60 => ?_)
    · have hq60 := gn_b0 hq60
      have ep : a_pair A i j = (-5, a_two (a_p0 A i j) (min i j) (max i j) true) := if_neg (fun h => hq60 h.1)
      rw [ep]
      exact tl w _ hCw Gw (-5)
    · have hq60 := gn_b1 hq60
      refine g_aload (q := 65) dX1_takePair_63 rfl rfl ?_
      refine g_iload (q := 67) dX1_takePair_65 rfl rfl ?_
      refine c_Vi (q := 70) (p_X0_canGive (hb6 _ hma) (hCw.2.2.1 _ hma)) k_X1_163 (hb6 _ hma).1 rfl (by decide) rfl rfl (Nat.le_of_ble_eq_true rfl) rfl rfl dX1_takePair_67 rfl ?_
      rintro x w1 ⟨rfl, hw1⟩
      subst w1
      rw [eh, rh]
      refine g_ifeq (t := 85) (q := 73) dX1_takePair_70 (by decide) rfl (fun hq70 => ?_) (fun hq70 => ?_)
      · have hq70 := gn_b0 hq70
        have ep : a_pair A i j = (-5, a_two (a_p0 A i j) (min i j) (max i j) true) := if_neg (fun h => hq70 h.2)
        rw [ep]
        exact tl w _ hCw Gw (-5)
      · have hq70 := gn_b1 hq70
        have ep : a_pair A i j = a_p1 (a_p0 A i j) (min i j) (max i j) := if_pos ⟨hq60, hq70⟩
        rw [ep]
        obtain ⟨n1, n2⟩ := a_pair_ne hv hi hj ⟨hq60, hq70⟩
        rw [← congrFun p3 (min i j)] at n1
        obtain ⟨-, -, aa, haa, eaa⟩ := a_p1_ok p1 hmi hma n1 n2
        refine g_aload_n (q := 74) dX1_takePair_73 rfl rfl ?_
        refine c_Vi (q := 77) (p_X0_giveFirst (hb6 _ hmi) (hCw.2.2.1 _ hmi) n1) k_X1_166 (hb6 _ hmi).1 rfl (by decide) rfl rfl (Nat.le_of_ble_eq_true rfl) rfl rfl dX1_takePair_74 rfl ?_
        rintro x w1 ⟨hxq1, hBq1, Fq1⟩
        have hCw1 : CR w1 f (a_give (a_p0 A i j) (min i j)).2 t := hCw.buf hmi hBq1 Fq1
        have Gw1 : fr v w1 f (f + 55) := Gw.tr (Fq1.wide (by omega) (by omega))
        refine g_aload (q := 79) dX1_takePair_77 rfl rfl ?_
        refine c_Vi (q := 82) (p_X0_giveFirst (hb6 _ hma) (hCw1.2.2.1 _ hma) n2) k_X1_166 (hb6 _ hma).1 rfl (by decide) rfl rfl (Nat.le_of_ble_eq_true rfl) rfl rfl dX1_takePair_79 rfl ?_
        rintro z w2 ⟨hxq2, hBq2, Fq2⟩
        have hCw2 : CR w2 f (a_give (a_give (a_p0 A i j) (min i j)).2 (max i j)).2 t := hCw1.buf hma hBq2 Fq2
        have Gw2 : fr v w2 f (f + 55) := Gw1.tr (Fq2.wide (by omega) (by omega))
        have ex : x + z = (a_p1 (a_p0 A i j) (min i j) (max i j)).1 := by rw [hxq1, hxq2]; rfl
        refine g_iadd (q := 83) dX1_takePair_82 rfl ?_
        refine g_istore (q := 85) dX1_takePair_83 rfl rfl rfl rfl ?_
        dsimp only [List.set]
        rw [ex]
        have hh := tl w2 _ hCw2 Gw2 (a_p1 (a_p0 A i j) (min i j) (max i j)).1
        rw [show decide ((a_p1 (a_p0 A i j) (min i j) (max i j)).1 = -5) = false from by rw [eaa]; simpa using gn_m5 (j := aa) (by omega)] at hh
        exact hh
  have hCq0 := hC
  have G0 : fr v v f (f + 55) := fr.rf _ _ _
  refine gj_E_at (L := [some (.ref f), some (.int (nI i)), some (.int (nI j)), none, none, none, none]) (k := 4) rfl (by decide) rfl ?_
  refine g_aload_n (q := 1) dX1_takePair_0 rfl rfl ?_
  refine g_getR (q := 4) f_X1_11 (by assumption) rfl dX1_takePair_1 rfl ?_
  refine g_iload_n (q := 5) dX1_takePair_4 rfl rfl ?_
  refine g_iload_n (q := 6) dX1_takePair_5 rfl rfl ?_
  refine g_min (q := 9) k_X1_74 (Nat.le_of_ble_eq_true rfl) (Nat.le_refl 0) (Nat.le_refl 0) dX1_takePair_6 rfl ?_
  refine g_aald (q := 10) (by assumption) rfl (gn_min (by omega) (by omega)) (ra_at (by omega : min i j < 6)) (by simp) dX1_takePair_9 rfl ?_
  refine g_astore_n (q := 11) dX1_takePair_10 rfl rfl rfl rfl ?_
  dsimp only [List.set]
  refine g_aload_n (q := 12) dX1_takePair_11 rfl rfl ?_
  refine g_getR (q := 15) f_X1_11 (by assumption) rfl dX1_takePair_12 rfl ?_
  refine g_iload_n (q := 16) dX1_takePair_15 rfl rfl ?_
  refine g_iload_n (q := 17) dX1_takePair_16 rfl rfl ?_
  refine g_max (q := 20) k_X1_83 (Nat.le_of_ble_eq_true rfl) (Nat.le_refl 0) (Nat.le_refl 0) dX1_takePair_17 rfl ?_
  refine g_aald (q := 21) (by assumption) rfl (gn_max (by omega) (by omega)) (ra_at (by omega : max i j < 6)) (by simp) dX1_takePair_20 rfl ?_
  refine g_astore (q := 23) dX1_takePair_21 rfl rfl rfl rfl ?_
  dsimp only [List.set]
  refine g_aload_n (q := 24) dX1_takePair_23 rfl rfl ?_
  refine g_getR (q := 27) f_X1_80 (hb6 _ (by omega : min i j < 6)).1 rfl dX1_takePair_24 rfl ?_
  refine c_Vv (q := 30) (p_X2_enter (hb6 (min i j) (by omega : min i j < 6)).2.1) k_X1_86 (hb6 (min i j) (by omega : min i j < 6)).2.1 rfl (by decide) rfl rfl (Nat.le_of_ble_eq_true rfl) rfl rfl dX1_takePair_27 rfl ?_
  rintro vq1 hvq1
  have hCq1 : CR vq1 f (a_in A (min i j)) t := by rw [hvq1, hCq0.gv (by omega : min i j < 6)]; exact hCq0.gate (by omega : min i j < 6) _
  have G1 : fr v vq1 f (f + 55) := by rw [hvq1]; exact G0.tr (fr.up (by omega) (by omega))
  clear hvq1
  refine g_aload (q := 32) dX1_takePair_30 rfl rfl ?_
  refine g_getR (q := 35) f_X1_80 (hb6 _ (by omega : max i j < 6)).1 rfl dX1_takePair_32 rfl ?_
  refine c_Vv (q := 38) (p_X2_enter (hb6 (max i j) (by omega : max i j < 6)).2.1) k_X1_86 (hb6 (max i j) (by omega : max i j < 6)).2.1 rfl (by decide) rfl rfl (Nat.le_of_ble_eq_true rfl) rfl rfl dX1_takePair_35 rfl ?_
  rintro vq2 hvq2
  have hCq2 : CR vq2 f (a_in (a_in A (min i j)) (max i j)) t := by rw [hvq2, hCq1.gv (by omega : max i j < 6)]; exact hCq1.gate (by omega : max i j < 6) _
  have G2 : fr v vq2 f (f + 55) := by rw [hvq2]; exact G1.tr (fr.up (by omega) (by omega))
  clear hvq2
  refine g_iload_n (q := 39) dX1_takePair_38 rfl rfl ?_
  refine g_iload_n (q := 40) dX1_takePair_39 rfl rfl ?_
  refine g_icmpne (t := 47) (q := 43) dX1_takePair_40 (by decide) rfl (fun hq40 => ?_) (fun hq40 => ?_)
  · have hij : ¬ i = j := fun h => hq40 (by rw [h])
    refine g_iconst (q := 48) (x := (if i = j then 2 else 1)) dX1_takePair_47 (by rw [if_neg hij]; decide) rfl ?_
    refine g_istore (q := 50) dX1_takePair_48 rfl rfl rfl rfl ?_
    dsimp only [List.set]
    refine g_bipush (q := 52) (x := -5) dX1_takePair_50 (by decide) rfl ?_
    refine g_istore (q := 54) dX1_takePair_52 rfl rfl rfl rfl ?_
    dsimp only [List.set]
    exact mid vq2 hCq2 G2
  · have hij : i = j := (nI_eq (by omega) (by omega)).mp hq40
    refine g_iconst (q := 44) (x := (if i = j then 2 else 1)) dX1_takePair_43 (by rw [if_pos hij]; decide) rfl ?_
    refine g_goto (q := 48) dX1_takePair_44 (by decide) ?_
    refine g_istore (q := 50) dX1_takePair_48 rfl rfl rfl rfl ?_
    dsimp only [List.set]
    refine g_bipush (q := 52) (x := -5) dX1_takePair_50 (by decide) rfl ?_
    refine g_istore (q := 54) dX1_takePair_52 rfl rfl rfl rfl ?_
    dsimp only [List.set]
    exact mid vq2 hCq2 G2

set_option maxRecDepth 100000 in
set_option maxHeartbeats 4000000 in
theorem p_X1_deliver {X : gj_X} {lim : Nat} {σ : gj_H} {v : gj_V} {f : Nat} {A : aS} {t : Int32} (hs : fsh σ f) (hC : CR v f A t) {s n sn : Nat} (hv : ivB A) (hS : ivS A n sn) (hsn : s < sn) : gj_E X 2 m_X1_deliver [.ref f, .ref (f + 43 + 1 * s)] lim σ v (q_i lim σ (fun x v' => x = (a_dlv A s).1 ∧ CR v' f (a_dlv A s).2 t ∧ fr v v' f (f + 55))) := by
  obtain ⟨sf, sb, ss, sw, sl, sm, hb6, hs6, hw6⟩ := id hs
  have hq6 : s < 6 := Nat.lt_of_lt_of_le hsn hS.2.2.2.2.1
  have hn6 := hS.2.2.2.1
  obtain ⟨o, ho, eo⟩ := (hS.2.2.2.2.2 s hsn).2.2.1
  have ho6 : o < 6 := by omega
  have ei : iN (A.1 (20 + s) 2) = o := by rw [eo]; exact iN_n (by omega)
  have hS0 : v (f + 43 + 1 * s) = A.1 (20 + s) := hC.2.2.2.1 s hq6
  refine gj_E_at (L := [some (.ref f), some (.ref (f + 43 + 1 * s))]) (k := 0) rfl (by decide) rfl ?_
  refine g_aload_n (q := 1) dX1_deliver_0 rfl rfl ?_
  refine g_getR (q := 4) f_X1_11 (by assumption) rfl dX1_deliver_1 rfl ?_
  refine g_aload_n (q := 5) dX1_deliver_4 rfl rfl ?_
  refine g_getI (q := 8) f_X1_148 (hs6 s hq6) rfl dX1_deliver_5 rfl ?_
  refine g_aald (q := 9) (by assumption) rfl (by rw [hS0, eo]) (ra_at ho6) (by simp) dX1_deliver_8 rfl ?_
  refine g_aload_n (q := 10) dX1_deliver_9 rfl rfl ?_
  refine g_getI (q := 13) f_X1_151 (hs6 s hq6) rfl dX1_deliver_10 rfl ?_
  refine g_iconst (q := 14) (x := (-1)) dX1_deliver_13 (by decide) rfl ?_
  refine c_Vi (q := 17) (p_X0_put (hb6 o ho6) (hC.2.2.1 o ho6) (hv o ho6).1) k_X1_101 (hb6 o ho6).1 rfl (by decide) rfl rfl (Nat.le_of_ble_eq_true rfl) rfl rfl dX1_deliver_14 rfl ?_
  rintro x vq1 ⟨hxq1, hBq1, Fq1⟩
  rw [hS0] at hxq1 hBq1
  have hCq1 : CR vq1 f (a_put A o (A.1 (20 + s) 8) (-1)).2 t := hC.buf ho6 hBq1 Fq1
  have G1 : fr v vq1 f (f + 55) := Fq1.wide (by omega) (by omega)
  have hxq1 : x = (a_put A o (A.1 (20 + s) 8) (-1)).1 := hxq1
  have eq1 : vq1 (f + 43 + 1 * s) = A.1 (20 + s) := by rw [hCq1.2.2.2.1 s hq6]; exact (co_put ho6).1 _ (by omega)
  refine g_ifne (t := 32) (q := 20) dX1_deliver_17 (by decide) rfl (fun hq17 => ?_) (fun hq17 => ?_)
  · rw [hxq1] at hq17
    refine g_aload_n (q := 33) dX1_deliver_32 rfl rfl ?_
    refine c_Vv (q := 36) (p_X7_becomeIdle (hs6 s hq6)) k_X1_157 (hs6 s hq6) rfl (by decide) rfl rfl (Nat.le_of_ble_eq_true rfl) rfl rfl dX1_deliver_33 rfl ?_
    rintro vq2 hvq2
    rw [eq1] at hvq2
    have eq2 : vq2 (f + 43 + 1 * s) = as_idle (A.1 (20 + s)) := by rw [hvq2, gu_s]
    have G2 : fr v vq2 f (f + 55) := by rw [hvq2]; exact G1.tr (fr.up (by omega) (by omega))
    refine g_aload_n (q := 37) dX1_deliver_36 rfl rfl ?_
    refine g_dup (q := 38) dX1_deliver_37 rfl rfl ?_
    refine g_getI (q := 41) f_X1_160 (hs6 s hq6) rfl dX1_deliver_38 rfl ?_
    refine g_iconst (q := 42) (x := 1) dX1_deliver_41 (by decide) rfl ?_
    refine g_iadd (q := 43) dX1_deliver_42 rfl ?_
    refine g_putI (q := 46) f_X1_160 (hs6 s hq6) rfl rfl rfl dX1_deliver_43 rfl ?_
    refine g_gen (fun vq3 hvq3 => ?_)
    rw [gu_2, eq2, hvq2, gu_u] at hvq3
    have hCq3 := hCq1.stat hq6 (upd (as_idle (A.1 (20 + s))) 9 (as_idle (A.1 (20 + s)) 9 + 1))
    rw [← hvq3] at hCq3
    have G3 : fr v vq3 f (f + 55) := by rw [hvq3]; exact G1.tr (fr.up (by omega) (by omega))
    refine g_iconst (q := 47) (x := 1) dX1_deliver_46 (by decide) rfl ?_
    refine r_i dX1_deliver_47 rfl rfl rfl ?_
    rw [a_dlv, ei, if_neg hq17]
    exact ⟨rfl, hCq3, G3⟩
  · rw [hxq1] at hq17
    refine g_aload_n (q := 21) dX1_deliver_20 rfl rfl ?_
    refine g_dup (q := 22) dX1_deliver_21 rfl rfl ?_
    refine g_getI (q := 25) f_X1_154 (hs6 s hq6) rfl dX1_deliver_22 rfl ?_
    refine g_iconst (q := 26) (x := 1) dX1_deliver_25 (by decide) rfl ?_
    refine g_iadd (q := 27) dX1_deliver_26 rfl ?_
    refine g_putI (q := 30) f_X1_154 (hs6 s hq6) rfl rfl rfl dX1_deliver_27 rfl ?_
    refine g_gen (fun vq2 hvq2 => ?_)
    have hCq2 := hCq1.stat hq6 (upd (A.1 (20 + s)) 10 (A.1 (20 + s) 10 + 1))
    rw [gu_2, eq1] at hvq2
    rw [← hvq2] at hCq2
    have G2 : fr v vq2 f (f + 55) := by rw [hvq2]; exact G1.tr (fr.up (by omega) (by omega))
    refine g_iconst (q := 31) (x := 0) dX1_deliver_30 (by decide) rfl ?_
    refine r_i dX1_deliver_31 rfl rfl rfl ?_
    rw [a_dlv, ei, if_pos hq17]
    exact ⟨rfl, hCq2, G2⟩
