/-! ===== Floor: ticks ===== -/
set_option maxRecDepth 100000 in
set_option maxHeartbeats 4000000 in
theorem p_X1_takePair {X : gj_X} {lim : Nat} {σ : gj_H} {v : gj_V} {f : Nat} {A : aS} {t : Int32} (hs : fsh σ f) (hC : CR v f A t) {i j : Nat} (hv : ivB A) (hi : i < 6) (hj : j < 6) : gj_E X 2 m_X1_takePair [.ref f, .int (nI i), .int (nI j)] lim σ v (q_i lim σ (fun x v' => x = (a_pair A i j).1 ∧ CR v' f (a_pair A i j).2 t ∧ fr v v' f (f + 55))) := by
  obtain ⟨sf, sb, ss, sw, sl, sm, hb6, hs6, hw6⟩ := id hs
  have hmi : min i j < 6 := by omega
  have hma : max i j < 6 := by omega
  have t2 : ∀ (w : gj_V) (C : aS), CR w f C t → fr v w f (f + 55) → ∀ x : Int32, gj_G X 2 m_X1_takePair (q_i lim σ (fun z v' => z = x ∧ CR v' f (a_two C (min i j) (max i j) (decide (x = -5))) t ∧ fr v v' f (f + 55))) lim σ w 0 0 106 [some (.ref f), some (.int (nI i)), some (.int (nI j)), some (.ref (f + 7 + 6 * min i j)), some (.ref (f + 7 + 6 * max i j)), some (.int (if i = j then 2 else 1)), some (.int x)] [.int (if x = -5 then 1 else 0), .ref (f + 7 + 6 * max i j + 1), .ref (f + 7 + 6 * min i j + 1)] := by
    intro w C hCw Gw x
    refine c_Sv (q := 109) (p_X1_leaveBoth (c := x = -5) hs hCw (by omega : min i j < 6) (by omega : max i j < 6)) k_X1_93 (by decide) rfl rfl (Nat.le_of_ble_eq_true rfl) rfl rfl dX1_takePair_106 rfl ?_
    rintro w1 ⟨hCw1, Gw1⟩
    refine g_iload (q := 111) dX1_takePair_109 rfl rfl ?_
    refine r_i dX1_takePair_111 rfl rfl rfl ?_
    exact ⟨rfl, hCw1, Gw.tr Gw1⟩
  have tl : ∀ (w : gj_V) (C : aS), CR w f C t → fr v w f (f + 55) → ∀ x : Int32, gj_G X 2 m_X1_takePair (q_i lim σ (fun z v' => z = x ∧ CR v' f (a_two C (min i j) (max i j) (decide (x = -5))) t ∧ fr v v' f (f + 55))) lim σ w 0 0 85 [some (.ref f), some (.int (nI i)), some (.int (nI j)), some (.ref (f + 7 + 6 * min i j)), some (.ref (f + 7 + 6 * max i j)), some (.int (if i = j then 2 else 1)), some (.int x)] [] := by
    intro w C hCw Gw x
    refine g_aload_n (q := 86) dX1_takePair_85 rfl rfl ?_
    refine g_getR (q := 89) f_X1_80 (hb6 _ (by omega : min i j < 6)).1 rfl dX1_takePair_86 rfl ?_
    refine g_aload (q := 91) dX1_takePair_89 rfl rfl ?_
    refine g_getR (q := 94) f_X1_80 (hb6 _ (by omega : max i j < 6)).1 rfl dX1_takePair_91 rfl ?_
    refine g_iload (q := 96) dX1_takePair_94 rfl rfl ?_
    refine g_bipush (q := 98) (x := (-5)) dX1_takePair_96 (by decide) rfl ?_
    refine g_icmpne (t := 105) (q := 101) dX1_takePair_98 (by decide) rfl (fun hq98 => ?_) (fun hq98 => ?_)
    · refine g_iconst (q := 106) (x := (if x = -5 then 1 else 0)) dX1_takePair_105 (by rw [if_neg hq98]; decide) rfl ?_
      exact t2 w C hCw Gw x
    · refine g_iconst (q := 102) (x := (if x = -5 then 1 else 0)) dX1_takePair_101 (by rw [if_pos hq98]; decide) rfl ?_
      refine g_goto (q := 106) dX1_takePair_102 (by decide) ?_
      exact t2 w C hCw Gw x
  obtain ⟨p1, p2, p3⟩ := a_p0_ok hv hi hj
  have mid : ∀ (w : gj_V), CR w f (a_p0 A i j) t → fr v w f (f + 55) → gj_G X 2 m_X1_takePair (q_i lim σ (fun z v' => z = (a_pair A i j).1 ∧ CR v' f (a_pair A i j).2 t ∧ fr v v' f (f + 55))) lim σ w 0 0 54 [some (.ref f), some (.int (nI i)), some (.int (nI j)), some (.ref (f + 7 + 6 * min i j)), some (.ref (f + 7 + 6 * max i j)), some (.int (if i = j then 2 else 1)), some (.int (-5))] [] := by
    intro w hCw Gw
    have el : (gB (a_p0 A i j) (min i j)).2.2.1 = A.2 (min i j) := congrFun p3 _
    have eh : (gB (a_p0 A i j) (max i j)).2.2.1 = A.2 (max i j) := congrFun p3 _
    have rl : (gB (a_p0 A i j) (min i j)).2.1 = A.1 (10 + min i j) := by
      show (a_p0 A i j).1 (10 + min i j) = _
      unfold a_p0; rw [a_in_r (by omega), a_in_r (by omega)]
    have rh : (gB (a_p0 A i j) (max i j)).2.1 = A.1 (10 + max i j) := by
      show (a_p0 A i j).1 (10 + max i j) = _
      unfold a_p0; rw [a_in_r (by omega), a_in_r (by omega)]
    refine g_aload_n (q := 55) dX1_takePair_54 rfl rfl ?_
    refine g_iload (q := 57) dX1_takePair_55 rfl rfl ?_
    refine c_Vi (q := 60) (p_X0_canGive (hb6 _ hmi) (hCw.2.2.1 _ hmi)) k_X1_163 (hb6 _ hmi).1 rfl (by decide) rfl rfl (Nat.le_of_ble_eq_true rfl) rfl rfl dX1_takePair_57 rfl ?_
    rintro x w1 ⟨rfl, hw1⟩
    subst w1
    rw [el, rl]
    refine g_ifeq (t := 85) (q := 63) dX1_takePair_60 (by decide) rfl (fun hq60 => ?_) (fun hq60 => ?_)
    · have hq60 := gn_b0 hq60
      have ep : a_pair A i j = (-5, a_two (a_p0 A i j) (min i j) (max i j) true) := if_neg (fun h => hq60 h.1)
      rw [ep]
      exact tl w _ hCw Gw (-5)
    · have hq60 := gn_b1 hq60
      refine g_aload (q := 65) dX1_takePair_63 rfl rfl ?_
      refine g_iload (q := 67) dX1_takePair_65 rfl rfl ?_
      refine c_Vi (q := 70) (p_X0_canGive (hb6 _ hma) (hCw.2.2.1 _ hma)) k_X1_163 (hb6 _ hma).1 rfl (by decide) rfl rfl (Nat.le_of_ble_eq_true rfl) rfl rfl dX1_takePair_67 rfl ?_
      rintro x w1 ⟨rfl, hw1⟩
      subst w1
      rw [eh, rh]
      refine g_ifeq (t := 85) (q := 73) dX1_takePair_70 (by decide) rfl (fun hq70 => ?_) (fun hq70 => ?_)
      · have hq70 := gn_b0 hq70
        have ep : a_pair A i j = (-5, a_two (a_p0 A i j) (min i j) (max i j) true) := if_neg (fun h => hq70 h.2)
        rw [ep]
        exact tl w _ hCw Gw (-5)
      · have hq70 := gn_b1 hq70
        have ep : a_pair A i j = a_p1 (a_p0 A i j) (min i j) (max i j) := if_pos ⟨hq60, hq70⟩
        rw [ep]
        obtain ⟨n1, n2⟩ := a_pair_ne hv hi hj ⟨hq60, hq70⟩
        rw [← congrFun p3 (min i j)] at n1
        obtain ⟨-, -, aa, haa, eaa⟩ := a_p1_ok p1 hmi hma n1 n2
        refine g_aload_n (q := 74) dX1_takePair_73 rfl rfl ?_
        refine c_Vi (q := 77) (p_X0_giveFirst (hb6 _ hmi) (hCw.2.2.1 _ hmi) n1) k_X1_166 (hb6 _ hmi).1 rfl (by decide) rfl rfl (Nat.le_of_ble_eq_true rfl) rfl rfl dX1_takePair_74 rfl ?_
        rintro x w1 ⟨hxq1, hBq1, Fq1⟩
        have hCw1 : CR w1 f (a_give (a_p0 A i j) (min i j)).2 t := hCw.buf hmi hBq1 Fq1
        have Gw1 : fr v w1 f (f + 55) := Gw.tr (Fq1.wide (by omega) (by omega))
        refine g_aload (q := 79) dX1_takePair_77 rfl rfl ?_
        refine c_Vi (q := 82) (p_X0_giveFirst (hb6 _ hma) (hCw1.2.2.1 _ hma) n2) k_X1_166 (hb6 _ hma).1 rfl (by decide) rfl rfl (Nat.le_of_ble_eq_true rfl) rfl rfl dX1_takePair_79 rfl ?_
        rintro z w2 ⟨hxq2, hBq2, Fq2⟩
        have hCw2 : CR w2 f (a_give (a_give (a_p0 A i j) (min i j)).2 (max i j)).2 t := hCw1.buf hma hBq2 Fq2
        have Gw2 : fr v w2 f (f + 55) := Gw1.tr (Fq2.wide (by omega) (by omega))
        have ex : x + z = (a_p1 (a_p0 A i j) (min i j) (max i j)).1 := by rw [hxq1, hxq2]; rfl
        refine g_iadd (q := 83) dX1_takePair_82 rfl ?_
        refine g_istore (q := 85) dX1_takePair_83 rfl rfl rfl rfl ?_
        dsimp only [List.set]
        rw [ex]
        have hh := tl w2 _ hCw2 Gw2 (a_p1 (a_p0 A i j) (min i j) (max i j)).1
        rw [show decide ((a_p1 (a_p0 A i j) (min i j) (max i j)).1 = -5) = false from by rw [eaa]; simpa using gn_m5 (j := aa) (by omega)] at hh
        exact hh
  have hCq0 := hC
  have G0 : fr v v f (f + 55) := fr.rf _ _ _
  refine gj_E_at (L := [some (.ref f), some (.int (nI i)), some (.int (nI j)), none, none, none, none]) (k := 4) rfl (by decide) rfl ?_
  refine g_aload_n (q := 1) dX1_takePair_0 rfl rfl ?_
  refine g_getR (q := 4) f_X1_11 (by assumption) rfl dX1_takePair_1 rfl ?_
  refine g_iload_n (q := 5) dX1_takePair_4 rfl rfl ?_
  refine g_iload_n (q := 6) dX1_takePair_5 rfl rfl ?_
  refine g_min (q := 9) k_X1_74 (Nat.le_of_ble_eq_true rfl) (Nat.le_refl 0) (Nat.le_refl 0) dX1_takePair_6 rfl ?_
  refine g_aald (q := 10) (by assumption) rfl (gn_min (by omega) (by omega)) (ra_at (by omega : min i j < 6)) (by simp) dX1_takePair_9 rfl ?_
  refine g_astore_n (q := 11) dX1_takePair_10 rfl rfl rfl rfl ?_
  dsimp only [List.set]
  refine g_aload_n (q := 12) dX1_takePair_11 rfl rfl ?_
  refine g_getR (q := 15) f_X1_11 (by assumption) rfl dX1_takePair_12 rfl ?_
  refine g_iload_n (q := 16) dX1_takePair_15 rfl rfl ?_
  refine g_iload_n (q := 17) dX1_takePair_16 rfl rfl ?_
  refine g_max (q := 20) k_X1_83 (Nat.le_of_ble_eq_true rfl) (Nat.le_refl 0) (Nat.le_refl 0) dX1_takePair_17 rfl ?_
  refine g_aald (q := 21) (by assumption) rfl (gn_max (by omega) (by omega)) (ra_at (by omega : max i j < 6)) (by simp) dX1_takePair_20 rfl ?_
  refine g_astore (q := 23) dX1_takePair_21 rfl rfl rfl rfl ?_
  dsimp only [List.set]
  refine g_aload_n (q := 24) dX1_takePair_23 rfl rfl ?_
  refine g_getR (q := 27) f_X1_80 (hb6 _ (by omega : min i j < 6)).1 rfl dX1_takePair_24 rfl ?_
  refine c_Vv (q := 30) (p_X2_enter (hb6 (min i j) (by omega : min i j < 6)).2.1) k_X1_86 (hb6 (min i j) (by omega : min i j < 6)).2.1 rfl (by decide) rfl rfl (Nat.le_of_ble_eq_true rfl) rfl rfl dX1_takePair_27 rfl ?_
  rintro vq1 hvq1
  have hCq1 : CR vq1 f (a_in A (min i j)) t := by rw [hvq1, hCq0.gv (by omega : min i j < 6)]; exact hCq0.gate (by omega : min i j < 6) _
  have G1 : fr v vq1 f (f + 55) := by rw [hvq1]; exact G0.tr (fr.up (by omega) (by omega))
  clear hvq1
  refine g_aload (q := 32) dX1_takePair_30 rfl rfl ?_
  refine g_getR (q := 35) f_X1_80 (hb6 _ (by omega : max i j < 6)).1 rfl dX1_takePair_32 rfl ?_
  refine c_Vv (q := 38) (p_X2_enter (hb6 (max i j) (by omega : max i j < 6)).2.1) k_X1_86 (hb6 (max i j) (by omega : max i j < 6)).2.1 rfl (by decide) rfl rfl (Nat.le_of_ble_eq_true rfl) rfl rfl dX1_takePair_35 rfl ?_
  rintro vq2 hvq2
  have hCq2 : CR vq2 f (a_in (a_in A (min i j)) (max i j)) t := by rw [hvq2, hCq1.gv (by omega : max i j < 6)]; exact hCq1.gate (by omega : max i j < 6) _
  have G2 : fr v vq2 f (f + 55) := by rw [hvq2]; exact G1.tr (fr.up (by omega) (by omega))
  clear hvq2
  refine g_iload_n (q := 39) dX1_takePair_38 rfl rfl ?_
  refine g_iload_n (q := 40) dX1_takePair_39 rfl rfl ?_
  refine g_icmpne (t := 47) (q := 43) dX1_takePair_40 (by decide) rfl (fun hq40 => ?_) (fun hq40 => ?_)
  · have hij : ¬ i = j := fun h => hq40 (by rw [h])
    refine g_iconst (q := 48) (x := (if i = j then 2 else 1)) dX1_takePair_47 (by rw [if_neg hij]; decide) rfl ?_
    refine g_istore (q := 50) dX1_takePair_48 rfl rfl rfl rfl ?_
    dsimp only [List.set]
    refine g_bipush (q := 52) (x := -5) dX1_takePair_50 (by decide) rfl ?_
    refine g_istore (q := 54) dX1_takePair_52 rfl rfl rfl rfl ?_
    dsimp only [List.set]
    exact mid vq2 hCq2 G2
  · have hij : i = j := (nI_eq (by omega) (by omega)).mp hq40
    refine g_iconst (q := 44) (x := (if i = j then 2 else 1)) dX1_takePair_43 (by rw [if_pos hij]; decide) rfl ?_
    refine g_goto (q := 48) dX1_takePair_44 (by decide) ?_
    refine g_istore (q := 50) dX1_takePair_48 rfl rfl rfl rfl ?_
    dsimp only [List.set]
    refine g_bipush (q := 52) (x := -5) dX1_takePair_50 (by decide) rfl ?_
    refine g_istore (q := 54) dX1_takePair_52 rfl rfl rfl rfl ?_
    dsimp only [List.set]
    exact mid vq2 hCq2 G2

set_option maxRecDepth 100000 in
set_option maxHeartbeats 4000000 in
theorem p_X1_deliver {X : gj_X} {lim : Nat} {σ : gj_H} {v : gj_V} {f : Nat} {A : aS} {t : Int32} (hs : fsh σ f) (hC : CR v f A t) {s n sn : Nat} (hv : ivB A) (hS : ivS A n sn) (hsn : s < sn) : gj_E X 2 m_X1_deliver [.ref f, .ref (f + 43 + 1 * s)] lim σ v (q_i lim σ (fun x v' => x = (a_dlv A s).1 ∧ CR v' f (a_dlv A s).2 t ∧ fr v v' f (f + 55))) := by
  obtain ⟨sf, sb, ss, sw, sl, sm, hb6, hs6, hw6⟩ := id hs
  have hq6 : s < 6 := Nat.lt_of_lt_of_le hsn hS.2.2.2.2.1
  have hn6 := hS.2.2.2.1
  obtain ⟨o, ho, eo⟩ := (hS.2.2.2.2.2 s hsn).2.2.1
  have ho6 : o < 6 := by omega
  have ei : iN (A.1 (20 + s) 2) = o := by rw [eo]; exact iN_n (by omega)
  have hS0 : v (f + 43 + 1 * s) = A.1 (20 + s) := hC.2.2.2.1 s hq6
  refine gj_E_at (L := [some (.ref f), some (.ref (f + 43 + 1 * s))]) (k := 0) rfl (by decide) rfl ?_
  refine g_aload_n (q := 1) dX1_deliver_0 rfl rfl ?_
  refine g_aload_n (q := 2) dX1_deliver_1 rfl rfl ?_
  refine g_getI (q := 5) f_X1_148 (hs6 s hq6) rfl dX1_deliver_2 rfl ?_
  refine c_Vi (q := 8) (p_X1_hasBuffer hs hC) k_X1_70 sf rfl (by decide) rfl rfl (Nat.le_of_ble_eq_true rfl) rfl rfl dX1_deliver_5 rfl ?_
  rintro z w1 ⟨rfl, hw1⟩
  subst w1
  rw [hS0]
  refine g_ifeq (t := 31) (q := 11) dX1_deliver_8 (by decide) rfl (fun hq8 => ?_) (fun hq8 => ?_)
  · exact absurd (by rw [eo]; exact a_has_n hS.1 ho (by omega)) (gn_b0 hq8)
  · refine g_aload_n (q := 12) dX1_deliver_11 rfl rfl ?_
    refine g_getR (q := 15) f_X1_11 (by assumption) rfl dX1_deliver_12 rfl ?_
    refine g_aload_n (q := 16) dX1_deliver_15 rfl rfl ?_
    refine g_getI (q := 19) f_X1_148 (hs6 s hq6) rfl dX1_deliver_16 rfl ?_
    refine g_aald (q := 20) (by assumption) rfl (by rw [hS0, eo]) (ra_at ho6) (by simp) dX1_deliver_19 rfl ?_
    refine g_aload_n (q := 21) dX1_deliver_20 rfl rfl ?_
    refine g_getI (q := 24) f_X1_151 (hs6 s hq6) rfl dX1_deliver_21 rfl ?_
    refine g_iconst (q := 25) (x := (-1)) dX1_deliver_24 (by decide) rfl ?_
    refine c_Vi (q := 28) (p_X0_put (hb6 o ho6) (hC.2.2.1 o ho6) (hv o ho6).1) k_X1_101 (hb6 o ho6).1 rfl (by decide) rfl rfl (Nat.le_of_ble_eq_true rfl) rfl rfl dX1_deliver_25 rfl ?_
    rintro x vq1 ⟨hxq1, hBq1, Fq1⟩
    rw [hS0] at hxq1 hBq1
    have hCq1 : CR vq1 f (a_put A o (A.1 (20 + s) 8) (-1)).2 t := hC.buf ho6 hBq1 Fq1
    have G1 : fr v vq1 f (f + 55) := Fq1.wide (by omega) (by omega)
    have hxq1 : x = (a_put A o (A.1 (20 + s) 8) (-1)).1 := hxq1
    have eq1 : vq1 (f + 43 + 1 * s) = A.1 (20 + s) := by rw [hCq1.2.2.2.1 s hq6]; exact (co_put ho6).1 _ (by omega)
    refine g_ifne (t := 43) (q := 31) dX1_deliver_28 (by decide) rfl (fun hq28 => ?_) (fun hq28 => ?_)
    · rw [hxq1] at hq28
      refine g_aload_n (q := 44) dX1_deliver_43 rfl rfl ?_
      refine c_Vv (q := 47) (p_X7_becomeIdle (hs6 s hq6)) k_X1_157 (hs6 s hq6) rfl (by decide) rfl rfl (Nat.le_of_ble_eq_true rfl) rfl rfl dX1_deliver_44 rfl ?_
      rintro vq2 hvq2
      rw [eq1] at hvq2
      have eq2 : vq2 (f + 43 + 1 * s) = as_idle (A.1 (20 + s)) := by rw [hvq2, gu_s]
      have G2 : fr v vq2 f (f + 55) := by rw [hvq2]; exact G1.tr (fr.up (by omega) (by omega))
      refine g_aload_n (q := 48) dX1_deliver_47 rfl rfl ?_
      refine g_dup (q := 49) dX1_deliver_48 rfl rfl ?_
      refine g_getI (q := 52) f_X1_160 (hs6 s hq6) rfl dX1_deliver_49 rfl ?_
      refine g_iconst (q := 53) (x := 1) dX1_deliver_52 (by decide) rfl ?_
      refine g_iadd (q := 54) dX1_deliver_53 rfl ?_
      refine g_putI (q := 57) f_X1_160 (hs6 s hq6) rfl rfl rfl dX1_deliver_54 rfl ?_
      refine g_gen (fun vq3 hvq3 => ?_)
      rw [gu_2, eq2, hvq2, gu_u] at hvq3
      have hCq3 := hCq1.stat hq6 (upd (as_idle (A.1 (20 + s))) 9 (as_idle (A.1 (20 + s)) 9 + 1))
      rw [← hvq3] at hCq3
      have G3 : fr v vq3 f (f + 55) := by rw [hvq3]; exact G1.tr (fr.up (by omega) (by omega))
      refine g_iconst (q := 58) (x := 1) dX1_deliver_57 (by decide) rfl ?_
      refine r_i dX1_deliver_58 rfl rfl rfl ?_
      rw [a_dlv, ei, if_neg hq28]
      exact ⟨rfl, hCq3, G3⟩
    · rw [hxq1] at hq28
      refine g_aload_n (q := 32) dX1_deliver_31 rfl rfl ?_
      refine g_dup (q := 33) dX1_deliver_32 rfl rfl ?_
      refine g_getI (q := 36) f_X1_154 (hs6 s hq6) rfl dX1_deliver_33 rfl ?_
      refine g_iconst (q := 37) (x := 1) dX1_deliver_36 (by decide) rfl ?_
      refine g_iadd (q := 38) dX1_deliver_37 rfl ?_
      refine g_putI (q := 41) f_X1_154 (hs6 s hq6) rfl rfl rfl dX1_deliver_38 rfl ?_
      refine g_gen (fun vq2 hvq2 => ?_)
      have hCq2 := hCq1.stat hq6 (upd (A.1 (20 + s)) 10 (A.1 (20 + s) 10 + 1))
      rw [gu_2, eq1] at hvq2
      rw [← hvq2] at hCq2
      have G2 : fr v vq2 f (f + 55) := by rw [hvq2]; exact G1.tr (fr.up (by omega) (by omega))
      refine g_iconst (q := 42) (x := 0) dX1_deliver_41 (by decide) rfl ?_
      refine r_i dX1_deliver_42 rfl rfl rfl ?_
      rw [a_dlv, ei, if_pos hq28]
      exact ⟨rfl, hCq2, G2⟩

set_option maxRecDepth 100000 in
set_option maxHeartbeats 4000000 in
theorem p_X1_work {X : gj_X} {lim : Nat} {σ : gj_H} {v : gj_V} {f : Nat} {A : aS} {t : Int32} (hs : fsh σ f) (hC : CR v f A t) {s n sn : Nat} (hv : ivB A) (hS : ivS A n sn) (hsn : s < sn) : gj_E X 3 m_X1_work [.ref f, .ref (f + 43 + 1 * s)] lim σ v (q_i lim σ (fun x v' => x = (a_wrk A s).1 ∧ CR v' f (a_wrk A s).2 t ∧ fr v v' f (f + 55))) := by
  obtain ⟨sf, sb, ss, sw, sl, sm, hb6, hs6, hw6⟩ := id hs
  have hq6 : s < 6 := Nat.lt_of_lt_of_le hsn hS.2.2.2.2.1
  have hn6 := hS.2.2.2.1
  have hS0 : v (f + 43 + 1 * s) = A.1 (20 + s) := hC.2.2.2.1 s hq6
  obtain ⟨⟨hBc, hSc, -, -⟩, -, -⟩ := a_w1_ok hv hS hsn
  have mid : ∀ (w : gj_V), CR w f (a_w1 A s).2 t → fr v w f (f + 55) → gj_G X 3 m_X1_work (q_i lim σ (fun x v' => x = (a_wrk A s).1 ∧ CR v' f (a_wrk A s).2 t ∧ fr v v' f (f + 55))) lim σ w 0 0 21 [some (.ref f), some (.ref (f + 43 + 1 * s)), none] [.int (a_w1 A s).1] := by
    intro w hCw Gw
    have eS : w (f + 43 + 1 * s) = (a_w1 A s).2.1 (20 + s) := hCw.2.2.2.1 s hq6
    refine g_istore_n (q := 22) dX1_work_21 rfl rfl rfl rfl ?_
    dsimp only [List.set]
    refine g_aload_n (q := 23) dX1_work_22 rfl rfl ?_
    refine g_getI (q := 26) f_X1_130 (hs6 s hq6) rfl dX1_work_23 rfl ?_
    refine g_ifne (t := 83) (q := 29) dX1_work_26 (by decide) rfl (fun hq26 => ?_) (fun hq26 => ?_)
    · rw [eS] at hq26
      refine g_iload_n (q := 84) dX1_work_83 rfl rfl ?_
      refine r_i dX1_work_84 rfl rfl rfl ?_
      first | (rw [a_wrk, if_pos hq26]; exact ⟨rfl, hCw2, Gw2⟩) | (rw [a_wrk, if_neg hq26]; exact ⟨rfl, hCw, Gw⟩)
    · rw [eS] at hq26
      obtain ⟨i, hi, ei⟩ := (hSc.2.2.2.2.2 s hsn).1
      have ei2 : iN ((a_w1 A s).2.1 (20 + s) 0) = i := by rw [ei]; exact iN_n (by omega)
      refine g_aload_n (q := 30) dX1_work_29 rfl rfl ?_
      refine g_aload_n (q := 31) dX1_work_30 rfl rfl ?_
      refine g_getI (q := 34) f_X1_136 (hs6 s hq6) rfl dX1_work_31 rfl ?_
      refine c_Vi (q := 37) (p_X1_hasBuffer hs hCw) k_X1_70 sf rfl (by decide) rfl rfl (Nat.le_of_ble_eq_true rfl) rfl rfl dX1_work_34 rfl ?_
      rintro z w1 ⟨rfl, hw1⟩
      subst w1
      rw [eS]
      refine g_ifeq (t := 83) (q := 40) dX1_work_37 (by decide) rfl (fun hq37 => ?_) (fun hq37 => ?_)
      · exact absurd (by rw [ei]; exact a_has_n hSc.1 hi (by omega)) (gn_b0 hq37)
      · refine g_aload_n (q := 41) dX1_work_40 rfl rfl ?_
        refine g_aload_n (q := 42) dX1_work_41 rfl rfl ?_
        refine g_aload_n (q := 43) dX1_work_42 rfl rfl ?_
        refine g_getI (q := 46) f_X1_139 (hs6 s hq6) rfl dX1_work_43 rfl ?_
        refine c_Vi (q := 49) (p_X1_hasBuffer hs hCw) k_X1_70 sf rfl (by decide) rfl rfl (Nat.le_of_ble_eq_true rfl) rfl rfl dX1_work_46 rfl ?_
        rintro z w1 ⟨rfl, hw1⟩
        subst w1
        rw [eS]
        refine g_ifeq (t := 67) (q := 52) dX1_work_49 (by decide) rfl (fun hq49 => ?_) (fun hq49 => ?_)
        · have hq49 := gn_b0 hq49
          have eq1 : (a_w1 A s).2.1 (20 + s) 1 = -1 := by
            rcases (hSc.2.2.2.2.2 s hsn).2.1 with h | ⟨j, hj, ej⟩
            · exact h
            · exact absurd (by rw [ej]; exact a_has_n hSc.1 hj (by omega)) hq49
          refine g_aload_n (q := 68) dX1_work_67 rfl rfl ?_
          refine g_getR (q := 71) f_X1_11 (by assumption) rfl dX1_work_68 rfl ?_
          refine g_aload_n (q := 72) dX1_work_71 rfl rfl ?_
          refine g_getI (q := 75) f_X1_136 (hs6 s hq6) rfl dX1_work_72 rfl ?_
          refine g_aald (q := 76) (by assumption) rfl (by rw [eS, ei]) (ra_at (show i < 6 by omega)) (by simp) dX1_work_75 rfl ?_
          refine g_iconst (q := 77) (x := (-1)) dX1_work_76 (by decide) rfl ?_
          refine c_Vi (q := 80) (p_X0_take (hb6 i (by omega)) (hCw.2.2.1 i (by omega))) k_X1_97 (hb6 i (by omega)).1 rfl (by decide) rfl rfl (Nat.le_of_ble_eq_true rfl) rfl rfl dX1_work_77 rfl ?_
          rintro z w1 ⟨hz1, hBq1, Fq1⟩
          have eg : a_get (a_w1 A s).2 s = a_take (a_w1 A s).2 i (-1) := by rw [a_get, if_pos eq1, ei2]
          have hCw1 : CR w1 f (a_take (a_w1 A s).2 i (-1)).2 t := hCw.buf (show i < 6 by omega) hBq1 Fq1
          have hz1 : z = (a_take (a_w1 A s).2 i (-1)).1 := hz1
          rw [← eg] at hz1 hCw1
          have Gw1 : fr w w1 f (f + 55) := Fq1.wide (by omega) (by omega)
          refine c_Vv (q := 83) (p_X7_load (hs6 s hq6)) k_X1_145 (hs6 s hq6) rfl (by decide) rfl rfl (Nat.le_of_ble_eq_true rfl) rfl rfl dX1_work_80 rfl ?_
          rintro w2 hw2
          have eS1 : w1 (f + 43 + 1 * s) = (a_w1 A s).2.1 (20 + s) := by rw [hCw1.2.2.2.1 s hq6]; exact (a_get_ok hBc hSc hsn).2.1.1 _ (by omega)
          rw [eS1, hz1] at hw2
          have hCw2 := hCw1.stat hq6 (as_load ((a_w1 A s).2.1 (20 + s)) (a_get (a_w1 A s).2 s).1)
          rw [← hw2] at hCw2
          have Gw2 : fr v w2 f (f + 55) := by rw [hw2]; exact (Gw.tr Gw1).tr (fr.up (by omega) (by omega))
          refine g_iload_n (q := 84) dX1_work_83 rfl rfl ?_
          refine r_i dX1_work_84 rfl rfl rfl ?_
          first | (rw [a_wrk, if_pos hq26]; exact ⟨rfl, hCw2, Gw2⟩) | (rw [a_wrk, if_neg hq26]; exact ⟨rfl, hCw, Gw⟩)
        · have hq49 := gn_b1 hq49
          have eq1 : ¬ (a_w1 A s).2.1 (20 + s) 1 = -1 := fun h => a_has_m1 (by rw [h] at hq49; exact hq49)
          obtain ⟨j, hj, ej⟩ := (hSc.2.2.2.2.2 s hsn).2.1.resolve_left eq1
          have ej2 : iN ((a_w1 A s).2.1 (20 + s) 1) = j := by rw [ej]; exact iN_n (by omega)
          have eg : a_get (a_w1 A s).2 s = a_pair (a_w1 A s).2 i j := by rw [a_get, if_neg eq1, ei2, ej2]
          refine g_aload_n (q := 53) dX1_work_52 rfl rfl ?_
          refine g_aload_n (q := 54) dX1_work_53 rfl rfl ?_
          refine g_getI (q := 57) f_X1_136 (hs6 s hq6) rfl dX1_work_54 rfl ?_
          refine g_aload_n (q := 58) dX1_work_57 rfl rfl ?_
          refine g_getI (q := 61) f_X1_139 (hs6 s hq6) rfl dX1_work_58 rfl ?_
          rw [eS, ei, ej]
          refine c_Vi (q := 64) (p_X1_takePair hs hCw hBc (show i < 6 by omega) (show j < 6 by omega)) k_X1_142 sf rfl (by decide) rfl rfl (Nat.le_of_ble_eq_true rfl) rfl rfl dX1_work_61 rfl ?_
          rintro z w1 ⟨hz1, hCw1, Gw1⟩
          rw [← eg] at hz1 hCw1
          refine g_goto (q := 80) dX1_work_64 (by decide) ?_
          refine c_Vv (q := 83) (p_X7_load (hs6 s hq6)) k_X1_145 (hs6 s hq6) rfl (by decide) rfl rfl (Nat.le_of_ble_eq_true rfl) rfl rfl dX1_work_80 rfl ?_
          rintro w2 hw2
          have eS1 : w1 (f + 43 + 1 * s) = (a_w1 A s).2.1 (20 + s) := by rw [hCw1.2.2.2.1 s hq6]; exact (a_get_ok hBc hSc hsn).2.1.1 _ (by omega)
          rw [eS1, hz1] at hw2
          have hCw2 := hCw1.stat hq6 (as_load ((a_w1 A s).2.1 (20 + s)) (a_get (a_w1 A s).2 s).1)
          rw [← hw2] at hCw2
          have Gw2 : fr v w2 f (f + 55) := by rw [hw2]; exact (Gw.tr Gw1).tr (fr.up (by omega) (by omega))
          refine g_iload_n (q := 84) dX1_work_83 rfl rfl ?_
          refine r_i dX1_work_84 rfl rfl rfl ?_
          first | (rw [a_wrk, if_pos hq26]; exact ⟨rfl, hCw2, Gw2⟩) | (rw [a_wrk, if_neg hq26]; exact ⟨rfl, hCw, Gw⟩)
  refine gj_E_at (L := [some (.ref f), some (.ref (f + 43 + 1 * s)), none]) (k := 1) rfl (by decide) rfl ?_
  refine g_aload_n (q := 1) dX1_work_0 rfl rfl ?_
  refine c_Vv (q := 4) (p_X7_workOn (hs6 s hq6)) k_X1_127 (hs6 s hq6) rfl (by decide) rfl rfl (Nat.le_of_ble_eq_true rfl) rfl rfl dX1_work_1 rfl ?_
  rintro vq1 hvq1
  rw [hS0] at hvq1
  have hCq1 : CR vq1 f (a_on A s) t := by rw [hvq1]; exact hC.stat hq6 _
  have G1 : fr v vq1 f (f + 55) := by rw [hvq1]; exact fr.up (by omega) (by omega)
  have eq1 : vq1 (f + 43 + 1 * s) = (a_on A s).1 (20 + s) := hCq1.2.2.2.1 s hq6
  refine g_aload_n (q := 5) dX1_work_4 rfl rfl ?_
  refine g_getI (q := 8) f_X1_130 (hs6 s hq6) rfl dX1_work_5 rfl ?_
  refine g_iconst (q := 9) (x := 2) dX1_work_8 (by decide) rfl ?_
  refine g_icmpne (t := 20) (q := 12) dX1_work_9 (by decide) rfl (fun hq9 => ?_) (fun hq9 => ?_)
  · rw [eq1] at hq9
    have ew : a_w1 A s = (0, a_on A s) := if_neg hq9
    refine g_iconst (q := 21) (x := (a_w1 A s).1) dX1_work_20 (by rw [ew]; rfl) rfl ?_
    exact mid vq1 (by rw [ew]; exact hCq1) G1
  · rw [eq1] at hq9
    have ew : a_w1 A s = a_dlv (a_on A s) s := if_pos hq9
    obtain ⟨c1, -⟩ := a_on_ok hv hS hsn
    refine g_aload_n (q := 13) dX1_work_12 rfl rfl ?_
    refine g_aload_n (q := 14) dX1_work_13 rfl rfl ?_
    refine c_Vi (q := 17) (p_X1_deliver hs hCq1 c1.1 c1.2.1 hsn) k_X1_133 sf rfl (by decide) rfl rfl (Nat.le_of_ble_eq_true rfl) rfl rfl dX1_work_14 rfl ?_
    rintro x vq2 ⟨hxq2, hCq2, G2⟩
    rw [← ew] at hxq2 hCq2
    rw [hxq2]
    refine g_goto (q := 21) dX1_work_17 (by decide) ?_
    exact mid vq2 hCq2 (G1.tr G2)

set_option maxRecDepth 100000 in
set_option maxHeartbeats 4000000 in
theorem p_X1_tickStation {X : gj_X} {lim : Nat} {σ : gj_H} {v : gj_V} {f : Nat} {A : aS} {t : Int32} (hs : fsh σ f) (hC : CR v f A t) {s n sn : Nat} (hv : ivB A) (hS : ivS A n sn) (hsn : s < sn) : gj_E X 4 m_X1_tickStation [.ref f, .ref (f + 43 + 1 * s)] lim σ v (q_i lim σ (fun x v' => x = (a_tst A s).1 ∧ CR v' f (a_tst A s).2 t ∧ fr v v' f (f + 55))) := by
  obtain ⟨sf, sb, ss, sw, sl, sm, hb6, hs6, hw6⟩ := id hs
  have hCq0 := hC
  have G0 : fr v v f (f + 55) := fr.rf _ _ _
  have hq6 : s < 6 := Nat.lt_of_lt_of_le hsn hS.2.2.2.2.1
  have hn6 := hS.2.2.2.1
  have hS0 : v (f + 43 + 1 * s) = A.1 (20 + s) := hC.2.2.2.1 s hq6
  refine gj_E_at (L := [some (.ref f), some (.ref (f + 43 + 1 * s)), none, none]) (k := 2) rfl (by decide) rfl ?_
  refine g_aload_n (q := 1) dX1_tickStation_0 rfl rfl ?_
  refine g_aload_n (q := 2) dX1_tickStation_1 rfl rfl ?_
  refine g_getI (q := 5) f_X1_121 (hs6 s hq6) rfl dX1_tickStation_2 rfl ?_
  refine c_Vi (q := 8) (p_X1_hasBuffer hs hC) k_X1_70 sf rfl (by decide) rfl rfl (Nat.le_of_ble_eq_true rfl) rfl rfl dX1_tickStation_5 rfl ?_
  rintro z w1 ⟨rfl, hw1⟩
  subst w1
  rw [hS0]
  refine g_ifne (t := 27) (q := 11) dX1_tickStation_8 (by decide) rfl (fun hq8 => ?_) (fun hq8 => ?_)
  · have hq8 := gn_b1 hq8
    have eq5 : ¬ A.1 (20 + s) 5 = -1 := fun h => a_has_m1 (by rw [h] at hq8; exact hq8)
    obtain ⟨g, hg, eg⟩ := (hS.2.2.2.2.2 s hsn).2.2.2.2.1.resolve_left eq5
    have eg2 : iN (A.1 (20 + s) 5) = g := by rw [eg]; exact iN_n (by omega)
    have g6 : g < 6 := by omega
    have k1 : ivB (a_in A g) := ivB_in hv (by omega)
    have k2 : ivS (a_in A g) n sn := ivS_co hS (co_R (by omega))
    refine g_aload_n (q := 28) dX1_tickStation_27 rfl rfl ?_
    refine g_getR (q := 31) f_X1_11 (by assumption) rfl dX1_tickStation_28 rfl ?_
    refine g_aload_n (q := 32) dX1_tickStation_31 rfl rfl ?_
    refine g_getI (q := 35) f_X1_121 (hs6 s hq6) rfl dX1_tickStation_32 rfl ?_
    refine g_aald (q := 36) (by assumption) rfl (by rw [hS0, eg]) (ra_at g6) (by simp) dX1_tickStation_35 rfl ?_
    refine g_getR (q := 39) f_X1_80 (hb6 g g6).1 rfl dX1_tickStation_36 rfl ?_
    refine g_astore_n (q := 40) dX1_tickStation_39 rfl rfl rfl rfl ?_
    dsimp only [List.set]
    refine g_aload_n (q := 41) dX1_tickStation_40 rfl rfl ?_
    refine c_Vv (q := 44) (p_X2_enter (hb6 g g6).2.1) k_X1_86 (hb6 g g6).2.1 rfl (by decide) rfl rfl (Nat.le_of_ble_eq_true rfl) rfl rfl dX1_tickStation_41 rfl ?_
    rintro vq1 hvq1
    have hCq1 : CR vq1 f (a_in A g) t := by rw [hvq1, hCq0.gv g6]; exact hCq0.gate g6 _
    have G1 : fr v vq1 f (f + 55) := by rw [hvq1]; exact G0.tr (fr.up (by omega) (by omega))
    clear hvq1
    refine g_aload_n (q := 45) dX1_tickStation_44 rfl rfl ?_
    refine g_aload_n (q := 46) dX1_tickStation_45 rfl rfl ?_
    refine c_Vi (q := 49) (p_X1_work hs hCq1 k1 k2 hsn) k_X1_124 sf rfl (by decide) rfl rfl (Nat.le_of_ble_eq_true rfl) rfl rfl dX1_tickStation_46 rfl ?_
    rintro x vq2 ⟨hxq2, hCq2, G2⟩
    have G2 := G1.tr G2
    refine g_istore_n (q := 50) dX1_tickStation_49 rfl rfl rfl rfl ?_
    dsimp only [List.set]
    refine g_aload_n (q := 51) dX1_tickStation_50 rfl rfl ?_
    refine c_Vv (q := 54) (p_X2_leave (hb6 g g6).2.1) k_X1_114 (hb6 g g6).2.1 rfl (by decide) rfl rfl (Nat.le_of_ble_eq_true rfl) rfl rfl dX1_tickStation_51 rfl ?_
    rintro vq3 hvq3
    have hCq3 : CR vq3 f (a_out (a_wrk (a_in A g) s).2 g) t := by rw [hvq3, hCq2.gv g6]; exact hCq2.gate g6 _
    have G3 : fr v vq3 f (f + 55) := by rw [hvq3]; exact G2.tr (fr.up (by omega) (by omega))
    clear hvq3
    refine g_iload_n (q := 55) dX1_tickStation_54 rfl rfl ?_
    refine r_i dX1_tickStation_55 rfl rfl rfl ?_
    rw [a_tst, if_neg eq5, eg2]
    exact ⟨hxq2, hCq3, G3⟩
  · have hq8 := gn_b0 hq8
    have eq5 : A.1 (20 + s) 5 = -1 := by
      rcases (hS.2.2.2.2.2 s hsn).2.2.2.2.1 with h | ⟨j, hj, ej⟩
      · exact h
      · exact absurd (by rw [ej]; exact a_has_n hS.1 hj (by omega)) hq8
    have k1 : ivB (a_ung A) := ivB_R hv (Or.inr (by omega))
    have k2 : ivS (a_ung A) n sn := ivS_40 hS (by decide) (by decide)
    refine g_aload_n (q := 12) dX1_tickStation_11 rfl rfl ?_
    refine g_dup (q := 13) dX1_tickStation_12 rfl rfl ?_
    refine g_getI (q := 16) f_X1_67 (by assumption) rfl dX1_tickStation_13 rfl ?_
    refine g_iconst (q := 17) (x := 1) dX1_tickStation_16 (by decide) rfl ?_
    refine g_iadd (q := 18) dX1_tickStation_17 rfl ?_
    refine g_putI (q := 21) f_X1_67 (by assumption) rfl rfl rfl dX1_tickStation_18 rfl ?_
    refine g_gen (fun vq1 hvq1 => ?_)
    rw [hC.fl 8 (by decide)] at hvq1
    have hCq1 : CR vq1 f (a_ung A) t := by rw [hvq1]; exact hC.flo (by decide)
    have G1 : fr v vq1 f (f + 55) := by rw [hvq1]; exact fr.up2 (by omega) (by omega)
    refine g_aload_n (q := 22) dX1_tickStation_21 rfl rfl ?_
    refine g_aload_n (q := 23) dX1_tickStation_22 rfl rfl ?_
    refine c_Vi (q := 26) (p_X1_work hs hCq1 k1 k2 hsn) k_X1_124 sf rfl (by decide) rfl rfl (Nat.le_of_ble_eq_true rfl) rfl rfl dX1_tickStation_23 rfl ?_
    rintro x vq2 ⟨hxq2, hCq2, G2⟩
    refine r_i dX1_tickStation_26 rfl rfl rfl ?_
    rw [a_tst, if_pos eq5]
    exact ⟨hxq2, hCq2, G1.tr G2⟩

set_option maxRecDepth 100000 in
set_option maxHeartbeats 4000000 in
theorem p_X1_tick {X : gj_X} {lim : Nat} {σ : gj_H} {v : gj_V} {f : Nat} {A : aS} {t : Int32} (hs : fsh σ f) (hC : CR v f A t) {n sn : Nat} (hv : ivB A) (hS : ivS A n sn) : gj_E X 5 m_X1_tick [.ref f] lim σ v (q_i lim σ (fun x v' => x = (a_tks sn 0 A).1 ∧ CR v' f (a_tks sn 0 A).2 (t + 1) ∧ fr v v' f (f + 55))) := by
  obtain ⟨sf, sb, ss, sw, sl, sm, hb6, hs6, hw6⟩ := id hs
  have hsn6 := hS.2.2.2.2.1
  have loop : ∀ (k s : Nat) (C : aS) (w : gj_V) (a : Int32), CR w f C (t + 1) → ivB C → ivS C n sn → fr v w f (f + 55) → s + k = sn → gj_G X 5 m_X1_tick (q_i lim σ (fun x v' => x = a + (a_tks k s C).1 ∧ CR v' f (a_tks k s C).2 (t + 1) ∧ fr v v' f (f + 55))) lim σ w 0 0 14 [some (.ref f), some (.int a), some (.int (nI s))] [] := by
    intro k
    induction k with
    | zero =>
      intro s C w a hCw hBc hSc Gw hk
      refine g_iload_n (q := 15) dX1_tick_14 rfl rfl ?_
      refine g_aload_n (q := 16) dX1_tick_15 rfl rfl ?_
      refine g_getI (q := 19) f_X1_61 sf rfl dX1_tick_16 rfl ?_
      refine g_icmpge (t := 41) (q := 22) dX1_tick_19 (by decide) rfl (fun hq19 => ?_) (fun hq19 => ?_)
      · refine g_iload_n (q := 42) dX1_tick_41 rfl rfl ?_
        refine r_i dX1_tick_42 rfl rfl rfl ?_
        exact ⟨by simp [a_tks], hCw, Gw⟩
      · rw [hCw.fl 6 (by decide), hSc.2.1] at hq19
        exact absurd (nI_le (show sn ≤ s by omega) (by omega)) hq19
    | succ k ih =>
      intro s C w a hCw hBc hSc Gw hk
      refine g_iload_n (q := 15) dX1_tick_14 rfl rfl ?_
      refine g_aload_n (q := 16) dX1_tick_15 rfl rfl ?_
      refine g_getI (q := 19) f_X1_61 (by assumption) rfl dX1_tick_16 rfl ?_
      refine g_icmpge (t := 41) (q := 22) dX1_tick_19 (by decide) rfl (fun hq19 => ?_) (fun hq19 => ?_)
      · rw [hCw.fl 6 (by decide), hSc.2.1] at hq19
        exact absurd (gn_le hq19 (by omega)) (by omega)
      · have hsn : s < sn := by omega
        obtain ⟨c1, -⟩ := a_tst_ok hBc hSc hsn
        refine g_iload_n (q := 23) dX1_tick_22 rfl rfl ?_
        refine g_aload_n (q := 24) dX1_tick_23 rfl rfl ?_
        refine g_aload_n (q := 25) dX1_tick_24 rfl rfl ?_
        refine g_getR (q := 28) f_X1_19 (by assumption) rfl dX1_tick_25 rfl ?_
        refine g_iload_n (q := 29) dX1_tick_28 rfl rfl ?_
        refine g_aald (q := 30) (by assumption) rfl rfl (ra_at (show s < 6 by omega)) (by simp) dX1_tick_29 rfl ?_
        refine c_Vi (q := 33) (p_X1_tickStation hs hCw hBc hSc hsn) k_X1_117 sf rfl (by decide) rfl rfl (Nat.le_of_ble_eq_true rfl) rfl rfl dX1_tick_30 rfl ?_
        rintro x w1 ⟨hxq1, hCw1, Gw1⟩
        refine g_iadd (q := 34) dX1_tick_33 rfl ?_
        refine g_istore_n (q := 35) dX1_tick_34 rfl rfl rfl rfl ?_
        dsimp only [List.set]
        refine g_iinc (q := 38) (y := nI (s + 1)) dX1_tick_35 rfl (gn_inc s) rfl rfl rfl rfl ?_
        dsimp only [List.set]
        refine g_goto (q := 14) dX1_tick_38 (by decide) ?_
        have hh := ih (s + 1) (a_tst C s).2 w1 (a + x) hCw1 c1.1 c1.2.1 (Gw.tr Gw1) (by omega)
        rw [a_tks]
        rw [hxq1] at hh ⊢
        rw [Int32.add_assoc] at hh
        exact hh
  refine gj_E_at (L := [some (.ref f), none, none]) (k := 2) rfl (by decide) rfl ?_
  refine g_aload_n (q := 1) dX1_tick_0 rfl rfl ?_
  refine g_dup (q := 2) dX1_tick_1 rfl rfl ?_
  refine g_getI (q := 5) f_X1_64 (by assumption) rfl dX1_tick_2 rfl ?_
  refine g_iconst (q := 6) (x := 1) dX1_tick_5 (by decide) rfl ?_
  refine g_iadd (q := 7) dX1_tick_6 rfl ?_
  refine g_putI (q := 10) f_X1_64 (by assumption) rfl rfl rfl dX1_tick_7 rfl ?_
  refine g_gen (fun vq1 hvq1 => ?_)
  have eq7 : v f 7 = t := by rw [hC.1, ud_s]
  rw [eq7] at hvq1
  have hCq1 : CR vq1 f A (t + 1) := by rw [hvq1]; exact hC.tick
  have G1 : fr v vq1 f (f + 55) := by rw [hvq1]; exact fr.up2 (by omega) (by omega)
  refine g_iconst (q := 11) (x := 0) dX1_tick_10 (by decide) rfl ?_
  refine g_istore_n (q := 12) dX1_tick_11 rfl rfl rfl rfl ?_
  dsimp only [List.set]
  refine g_iconst (q := 13) (x := 0) dX1_tick_12 (by decide) rfl ?_
  refine g_istore_n (q := 14) dX1_tick_13 rfl rfl rfl rfl ?_
  dsimp only [List.set]
  have hh := loop sn 0 A vq1 0 hCq1 hv hS G1 (by omega)
  rw [Int32.zero_add] at hh
  exact hh
