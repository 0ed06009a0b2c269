/-! ===== Floor: serving ===== -/
abbrev in_ (x lo hi : Int32) : Prop := lo ≤ x ∧ x ≤ hi
set_option maxRecDepth 100000 in
set_option maxHeartbeats 4000000 in
theorem p_X10_within {X : gj_X} {lim : Nat} {σ : gj_H} {v : gj_V} {a lo hi : Int32} : gj_E X 0 m_X10_within [.int a, .int lo, .int hi] lim σ v (q_i lim σ (fun x v' => x = (if in_ a lo hi then 1 else 0) ∧ v' = v)) := by
  refine gj_E_at (L := [some (.int a), some (.int lo), some (.int hi)]) (k := 0) rfl (by decide) rfl ?_
  refine g_iload_n (q := 1) dX10_within_0 rfl rfl ?_
  refine g_iload_n (q := 2) dX10_within_1 rfl rfl ?_
  refine g_icmplt (t := 14) (q := 5) dX10_within_2 (by decide) rfl (fun hq2 => ?_) (fun hq2 => ?_)
  · refine g_iconst (q := 15) (x := 0) dX10_within_14 (by decide) rfl ?_
    refine r_z dX10_within_15 rfl rfl rfl (by decide) ?_
    refine ⟨?_, rfl⟩
    first | (rw [if_neg (fun h => Int32.not_lt.mpr h.1 hq2)]; done) | (rw [if_neg (fun h => Int32.not_lt.mpr h.2 hq7)]; done) | (rw [if_pos ⟨Int32.not_lt.mp hq2, Int32.not_lt.mp hq7⟩]; done)
  · refine g_iload_n (q := 6) dX10_within_5 rfl rfl ?_
    refine g_iload_n (q := 7) dX10_within_6 rfl rfl ?_
    refine g_icmpgt (t := 14) (q := 10) dX10_within_7 (by decide) rfl (fun hq7 => ?_) (fun hq7 => ?_)
    · refine g_iconst (q := 15) (x := 0) dX10_within_14 (by decide) rfl ?_
      refine r_z dX10_within_15 rfl rfl rfl (by decide) ?_
      refine ⟨?_, rfl⟩
      first | (rw [if_neg (fun h => Int32.not_lt.mpr h.1 hq2)]; done) | (rw [if_neg (fun h => Int32.not_lt.mpr h.2 hq7)]; done) | (rw [if_pos ⟨Int32.not_lt.mp hq2, Int32.not_lt.mp hq7⟩]; done)
    · refine g_iconst (q := 11) (x := 1) dX10_within_10 (by decide) rfl ?_
      refine g_goto (q := 15) dX10_within_11 (by decide) ?_
      refine r_z dX10_within_15 rfl rfl rfl (by decide) ?_
      refine ⟨?_, rfl⟩
      first | (rw [if_neg (fun h => Int32.not_lt.mpr h.1 hq2)]; done) | (rw [if_neg (fun h => Int32.not_lt.mpr h.2 hq7)]; done) | (rw [if_pos ⟨Int32.not_lt.mp hq2, Int32.not_lt.mp hq7⟩]; done)

set_option maxRecDepth 100000 in
set_option maxHeartbeats 4000000 in
theorem p_X10_isWorker {X : gj_X} {lim : Nat} {σ : gj_H} {v : gj_V} {a : Int32} : gj_E X 1 m_X10_isWorker [.int a] lim σ v (q_i lim σ (fun x v' => x = (if in_ a 0 5 then 1 else 0) ∧ v' = v)) := by
  refine gj_E_at (L := [some (.int a)]) (k := 0) rfl (by decide) rfl ?_
  refine g_iload_n (q := 1) dX10_isWorker_0 rfl rfl ?_
  refine g_iconst (q := 2) (x := 0) dX10_isWorker_1 (by decide) rfl ?_
  refine g_iconst (q := 3) (x := 5) dX10_isWorker_2 (by decide) rfl ?_
  refine c_Si (q := 6) p_X10_within k_X10_46 (by decide) rfl rfl (Nat.le_of_ble_eq_true rfl) rfl rfl dX10_isWorker_3 rfl ?_
  rintro x vq1 ⟨hxq1, hvq1⟩
  subst vq1
  rw [hxq1]
  refine r_z dX10_isWorker_6 rfl rfl rfl gn_bz ?_
  exact ⟨rfl, rfl⟩

set_option maxRecDepth 100000 in
set_option maxHeartbeats 4000000 in
theorem p_X1_tryWish {X : gj_X} {lim : Nat} {σ : gj_H} {v : gj_V} {f : Nat} {A : aS} {t : Int32} (hs : fsh σ f) (hC : CR v f A t) {w n : Nat} (hv : ivB A) (hn : n ≤ 6) (hw : w < 6) (hW : ivw n (A.1 (30 + w))) (hN : A.1 40 5 = nI n) : gj_E X 2 m_X1_tryWish [.ref f, .int (nI w)] lim σ v (q_i lim σ (fun x v' => x = (a_try A w).1 ∧ CR v' f (a_try A w).2 t ∧ fr v v' f (f + 55))) := by
  obtain ⟨sf, sb, ss, sw, sl, sm, hb6, hs6, hw6⟩ := id hs
  obtain ⟨b, hb, eb, hk⟩ := hW
  have b6 : b < 6 := by omega
  have eb2 : iN (A.1 (30 + w) 0) = b := by rw [eb]; exact iN_n (by omega)
  have hW0 : v (f + 49 + 1 * w) = A.1 (30 + w) := hC.2.2.2.2.1 w hw
  refine gj_E_at (L := [some (.ref f), some (.int (nI w)), none, none, none]) (k := 3) rfl (by decide) rfl ?_
  refine g_iload_n (q := 1) dX1_tryWish_0 rfl rfl ?_
  refine c_Si (q := 4) p_X10_isWorker k_X1_170 (by decide) rfl rfl (Nat.le_of_ble_eq_true rfl) rfl rfl dX1_tryWish_1 rfl ?_
  rintro z w1 ⟨rfl, hw1⟩
  subst w1
  refine g_ifeq (t := 23) (q := 7) dX1_tryWish_4 (by decide) rfl (fun hq4 => ?_) (fun hq4 => ?_)
  · exact absurd (And.intro (nI_pos' (by omega)) (nI_le (show w ≤ 5 by omega) (by decide))) (gn_b0 hq4)
  · refine g_aload_n (q := 8) dX1_tryWish_7 rfl rfl ?_
    refine g_aload_n (q := 9) dX1_tryWish_8 rfl rfl ?_
    refine g_getR (q := 12) f_X1_25 (by assumption) rfl dX1_tryWish_9 rfl ?_
    refine g_iload_n (q := 13) dX1_tryWish_12 rfl rfl ?_
    refine g_aald (q := 14) (by assumption) rfl rfl (ra_at hw) (by simp) dX1_tryWish_13 rfl ?_
    refine g_getI (q := 17) f_X1_173 (hw6 w hw) rfl dX1_tryWish_14 rfl ?_
    refine c_Vi (q := 20) (p_X1_hasBuffer hs hC) k_X1_70 sf rfl (by decide) rfl rfl (Nat.le_of_ble_eq_true rfl) rfl rfl dX1_tryWish_17 rfl ?_
    rintro z w1 ⟨rfl, hw1⟩
    subst w1
    rw [hW0]
    refine g_ifne (t := 25) (q := 23) dX1_tryWish_20 (by decide) rfl (fun hq20 => ?_) (fun hq20 => ?_)
    · refine g_aload_n (q := 26) dX1_tryWish_25 rfl rfl ?_
      refine g_getR (q := 29) f_X1_25 (by assumption) rfl dX1_tryWish_26 rfl ?_
      refine g_iload_n (q := 30) dX1_tryWish_29 rfl rfl ?_
      refine g_aald (q := 31) (by assumption) rfl rfl (ra_at hw) (by simp) dX1_tryWish_30 rfl ?_
      refine g_astore_n (q := 32) dX1_tryWish_31 rfl rfl rfl rfl ?_
      dsimp only [List.set]
      refine g_aload_n (q := 33) dX1_tryWish_32 rfl rfl ?_
      refine g_getR (q := 36) f_X1_11 (by assumption) rfl dX1_tryWish_33 rfl ?_
      refine g_aload_n (q := 37) dX1_tryWish_36 rfl rfl ?_
      refine g_getI (q := 40) f_X1_173 (hw6 w hw) rfl dX1_tryWish_37 rfl ?_
      refine g_aald (q := 41) (by assumption) rfl (by rw [hW0, eb]) (ra_at b6) (by simp) dX1_tryWish_40 rfl ?_
      refine g_astore_n (q := 42) dX1_tryWish_41 rfl rfl rfl rfl ?_
      dsimp only [List.set]
      refine g_aload_n (q := 43) dX1_tryWish_42 rfl rfl ?_
      refine g_getI (q := 46) f_X1_176 (hw6 w hw) rfl dX1_tryWish_43 rfl ?_
      refine g_ifne (t := 63) (q := 49) dX1_tryWish_46 (by decide) rfl (fun hq46 => ?_) (fun hq46 => ?_)
      · rw [hW0] at hq46
        refine g_aload_n (q := 64) dX1_tryWish_63 rfl rfl ?_
        refine g_iload_n (q := 65) dX1_tryWish_64 rfl rfl ?_
        refine c_Vi (q := 68) (p_X0_take (hb6 b b6) (hC.2.2.1 b b6)) k_X1_97 (hb6 b b6).1 rfl (by decide) rfl rfl (Nat.le_of_ble_eq_true rfl) rfl rfl dX1_tryWish_65 rfl ?_
        rintro x vq1 ⟨hxq1, hBq1, Fq1⟩
        have hCq1 : CR vq1 f (a_take A b (nI w)).2 t := hC.buf b6 hBq1 Fq1
        have G1 : fr v vq1 f (f + 55) := Fq1.wide (by omega) (by omega)
        have hxq1 : x = (a_take A b (nI w)).1 := hxq1
        have eq1 : vq1 (f + 49 + 1 * w) = A.1 (30 + w) := by rw [hCq1.2.2.2.2.1 w hw]; exact (co_take b6).1 _ (by omega)
        refine g_istore (q := 70) dX1_tryWish_68 rfl rfl rfl rfl ?_
        dsimp only [List.set]
        refine g_iload (q := 72) dX1_tryWish_70 rfl rfl ?_
        refine g_bipush (q := 74) (x := (-5)) dX1_tryWish_72 (by decide) rfl ?_
        refine g_icmpne (t := 79) (q := 77) dX1_tryWish_74 (by decide) rfl (fun hq74 => ?_) (fun hq74 => ?_)
        · rw [hxq1] at hq74
          refine g_aload_n (q := 80) dX1_tryWish_79 rfl rfl ?_
          refine g_iload (q := 82) dX1_tryWish_80 rfl rfl ?_
          refine g_putI (q := 85) f_X1_180 (hw6 w hw) rfl rfl rfl dX1_tryWish_82 rfl ?_
          refine g_gen (fun vq2 hvq2 => ?_)
          rw [gu_2, eq1, hxq1] at hvq2
          have eq2 : vq2 (f + 49 + 1 * w) = upd (A.1 (30 + w)) 3 (a_take A b (nI w)).1 := by rw [hvq2, gu_s]
          refine g_aload_n (q := 86) dX1_tryWish_85 rfl rfl ?_
          refine c_Vv (q := 89) (p_X9_wishNoMore (hw6 w hw)) k_X1_183 (hw6 w hw) rfl (by decide) rfl rfl (Nat.le_of_ble_eq_true rfl) rfl rfl dX1_tryWish_86 rfl ?_
          rintro vq3 hvq3
          rw [eq2, hvq2, gu_u] at hvq3
          have hCq3 := hCq1.work hw (aw_no (upd (A.1 (30 + w)) 3 (a_take A b (nI w)).1))
          rw [← hvq3] at hCq3
          have G3 : fr v vq3 f (f + 55) := by rw [hvq3]; exact G1.tr (fr.up (by omega) (by omega))
          refine g_iconst (q := 90) (x := 1) dX1_tryWish_89 (by decide) rfl ?_
          refine r_z dX1_tryWish_90 rfl rfl rfl (by decide) ?_
          rw [a_try, if_neg hq46, eb2, if_neg hq74]
          exact ⟨rfl, hCq3, G3⟩
        · rw [hxq1] at hq74
          refine g_iconst (q := 78) (x := 0) dX1_tryWish_77 (by decide) rfl ?_
          refine r_z dX1_tryWish_78 rfl rfl rfl (by decide) ?_
          rw [a_try, if_neg hq46, eb2, if_pos hq74]
          exact ⟨rfl, hCq1, G1⟩
      · rw [hW0] at hq46
        have hk2 : 0 ≤ A.1 (30 + w) 2 ∧ A.1 (30 + w) 2 ≤ 9 := by
          rcases hk with h | h
          · exact h.2
          · rw [h.1] at hq46; exact absurd hq46 (by decide)
        refine g_aload_n (q := 50) dX1_tryWish_49 rfl rfl ?_
        refine g_aload_n (q := 51) dX1_tryWish_50 rfl rfl ?_
        refine g_getI (q := 54) f_X1_179 (hw6 w hw) rfl dX1_tryWish_51 rfl ?_
        rw [hW0]
        refine g_iload_n (q := 55) dX1_tryWish_54 rfl rfl ?_
        refine c_Vi (q := 58) (p_X0_put (hb6 b b6) (hC.2.2.1 b b6) (hv b b6).1) k_X1_101 (hb6 b b6).1 rfl (by decide) rfl rfl (Nat.le_of_ble_eq_true rfl) rfl rfl dX1_tryWish_55 rfl ?_
        rintro x vq1 ⟨hxq1, hBq1, Fq1⟩
        have hCq1 : CR vq1 f (a_put A b (A.1 (30 + w) 2) (nI w)).2 t := hC.buf b6 hBq1 Fq1
        have G1 : fr v vq1 f (f + 55) := Fq1.wide (by omega) (by omega)
        have hxq1 : x = (a_put A b (A.1 (30 + w) 2) (nI w)).1 := hxq1
        have eq1 : vq1 (f + 49 + 1 * w) = A.1 (30 + w) := by rw [hCq1.2.2.2.2.1 w hw]; exact (co_put b6).1 _ (by omega)
        refine g_ifne (t := 85) (q := 61) dX1_tryWish_58 (by decide) rfl (fun hq58 => ?_) (fun hq58 => ?_)
        · rw [hxq1] at hq58
          refine g_aload_n (q := 86) dX1_tryWish_85 rfl rfl ?_
          refine c_Vv (q := 89) (p_X9_wishNoMore (hw6 w hw)) k_X1_183 (hw6 w hw) rfl (by decide) rfl rfl (Nat.le_of_ble_eq_true rfl) rfl rfl dX1_tryWish_86 rfl ?_
          rintro vq3 hvq3
          rw [eq1] at hvq3
          have hCq3 := hCq1.work hw (aw_no (A.1 (30 + w)))
          rw [← hvq3] at hCq3
          have G3 : fr v vq3 f (f + 55) := by rw [hvq3]; exact G1.tr (fr.up (by omega) (by omega))
          refine g_iconst (q := 90) (x := 1) dX1_tryWish_89 (by decide) rfl ?_
          refine r_z dX1_tryWish_90 rfl rfl rfl (by decide) ?_
          rw [a_try, if_pos hq46, eb2, if_neg hq58]
          exact ⟨rfl, hCq3, G3⟩
        · rw [hxq1] at hq58
          refine g_iconst (q := 62) (x := 0) dX1_tryWish_61 (by decide) rfl ?_
          refine r_z dX1_tryWish_62 rfl rfl rfl (by decide) ?_
          rw [a_try, if_pos hq46, eb2, if_pos hq58]
          exact ⟨rfl, hCq1, G1⟩
    · exact absurd (by rw [eb]; exact a_has_n hN hb (by omega)) (gn_b0 hq20)

set_option maxRecDepth 100000 in
set_option maxHeartbeats 4000000 in
theorem p_X1_serveFirst {X : gj_X} {lim : Nat} {σ : gj_H} {v : gj_V} {f : Nat} {A : aS} {t : Int32} (hs : fsh σ f) (hC : CR v f A t) {n : Nat} (hv : ivB A) (hn : n ≤ 6) (hW : ivW A n) (hN : A.1 40 5 = nI n) : gj_E X 3 m_X1_serveFirst [.ref f] lim σ v (q_i lim σ (fun x v' => x = (a_sf (A.2 20).length 0 A).1 ∧ CR v' f (a_sf (A.2 20).length 0 A).2 t ∧ fr v v' f (f + 55))) := by
  obtain ⟨sf, sb, ss, sw, sl, sm, hb6, hs6, hw6⟩ := id hs
  have loop : ∀ (k i : Nat) (C : aS) (w : gj_V), CR w f C t → ivB C → ivW C n → C.1 40 5 = nI n → fr v w f (f + 55) → i + k = (C.2 20).length → gj_G X 3 m_X1_serveFirst (q_i lim σ (fun x v' => x = (a_sf k i C).1 ∧ CR v' f (a_sf k i C).2 t ∧ fr v v' f (f + 55))) lim σ w 0 0 2 [some (.ref f), some (.int (nI i))] [] := by
    intro k
    induction k with
    | zero =>
      intro i C w hCw hBc hWc hNc Gw hk
      have hq20 := hWc.2.2.2
      refine g_iload_n (q := 3) dX1_serveFirst_2 rfl rfl ?_
      refine g_aload_n (q := 4) dX1_serveFirst_3 rfl rfl ?_
      refine g_getR (q := 7) f_X1_32 sf rfl dX1_serveFirst_4 rfl ?_
      refine g_getI (q := 10) f_X1_53 sl.1 rfl dX1_serveFirst_7 rfl ?_
      refine g_icmpge (t := 45) (q := 13) dX1_serveFirst_10 (by decide) rfl (fun hq10 => ?_) (fun hq10 => ?_)
      · refine g_iconst (q := 46) (x := 0) dX1_serveFirst_45 (by decide) rfl ?_
        refine r_z dX1_serveFirst_46 rfl rfl rfl (by decide) ?_
        exact ⟨rfl, hCw, Gw⟩
      · rw [hCw.2.2.2.2.2.1] at hq10
        exact absurd (nI_le (show (C.2 20).length ≤ i by omega) (by omega)) hq10
    | succ k ih =>
      intro i C w0 hCw hBc hWc hNc Gw hk
      have hq20 := hWc.2.2.2
      have hi : i < (C.2 20).length := by omega
      obtain ⟨w, hw, eq1, eq2, hv⟩ := ivW_at hWc hi
      obtain ⟨c1, c2, c3, c4⟩ := a_try_ok hBc hn hw hv
      refine g_iload_n (q := 3) dX1_serveFirst_2 rfl rfl ?_
      refine g_aload_n (q := 4) dX1_serveFirst_3 rfl rfl ?_
      refine g_getR (q := 7) f_X1_32 (by assumption) rfl dX1_serveFirst_4 rfl ?_
      refine g_getI (q := 10) f_X1_53 sl.1 rfl dX1_serveFirst_7 rfl ?_
      refine g_icmpge (t := 45) (q := 13) dX1_serveFirst_10 (by decide) rfl (fun hq10 => ?_) (fun hq10 => ?_)
      · rw [hCw.2.2.2.2.2.1] at hq10
        exact absurd (gn_le hq10 (by omega)) (by omega)
      · refine g_aload_n (q := 14) dX1_serveFirst_13 rfl rfl ?_
        refine g_aload_n (q := 15) dX1_serveFirst_14 rfl rfl ?_
        refine g_getR (q := 18) f_X1_32 (by assumption) rfl dX1_serveFirst_15 rfl ?_
        refine g_iload_n (q := 19) dX1_serveFirst_18 rfl rfl ?_
        refine c_Vi (q := 22) (p_X5_at sl hCw.2.2.2.2.2) k_X1_190 sl.1 rfl (by decide) rfl rfl (Nat.le_of_ble_eq_true rfl) rfl rfl dX1_serveFirst_19 rfl ?_
        rintro x w1 ⟨hxq1, hw1⟩
        subst w1
        have ex : x = nI w := by rw [hxq1, l_at, if_neg (nI_pos (by omega)), if_neg (nI_ge hi (by omega)), nI_clamp (by omega)]; exact eq1
        rw [ex]
        refine c_Vi (q := 25) (p_X1_tryWish hs hCw hBc hn hw hv hNc) k_X1_193 sf rfl (by decide) rfl rfl (Nat.le_of_ble_eq_true rfl) rfl rfl dX1_serveFirst_22 rfl ?_
        rintro x w2 ⟨hxq2, hCw2, Gw2⟩
        have hl : (a_try C w).2.2 20 = C.2 20 := c2.2 20 (by omega)
        refine g_ifeq (t := 39) (q := 28) dX1_serveFirst_25 (by decide) rfl (fun hq25 => ?_) (fun hq25 => ?_)
        · rw [hxq2] at hq25
          have hrow : (a_try C w).2.1 (30 + w) = C.1 (30 + w) := by
            rcases c4 with h | h
            · exact h.2
            · rw [h.1] at hq25; exact absurd hq25 (by decide)
          have hW2 : ivW (a_try C w).2 n := ivW_eq hWc (fun z hz => by
            by_cases ez : z = w
            · subst ez; exact hrow
            · exact c2.1 _ (by omega) (by omega)) hl
          refine g_iinc (q := 42) (y := nI (i + 1)) dX1_serveFirst_39 rfl (gn_inc i) rfl rfl rfl rfl ?_
          dsimp only [List.set]
          refine g_goto (q := 2) dX1_serveFirst_42 (by decide) ?_
          have hh := ih (i + 1) (a_try C w).2 w2 hCw2 c1 hW2 (by rw [c2.1 40 (by omega) (by omega)]; exact hNc) (Gw.tr Gw2) (by rw [hl]; omega)
          rw [a_sf, eq2, if_pos hq25]
          exact hh
        · rw [hxq2] at hq25
          refine g_aload_n (q := 29) dX1_serveFirst_28 rfl rfl ?_
          refine g_getR (q := 32) f_X1_32 (by assumption) rfl dX1_serveFirst_29 rfl ?_
          refine g_iload_n (q := 33) dX1_serveFirst_32 rfl rfl ?_
          refine c_Vi (q := 36) (p_X5_removeAt (k := i) sl hCw2.2.2.2.2.2 (by rw [hl]; exact hi)) k_X1_196 sl.1 rfl (by decide) rfl rfl (Nat.le_of_ble_eq_true rfl) rfl rfl dX1_serveFirst_33 rfl ?_
          rintro x w3 ⟨-, hrq3, hfq3⟩
          rw [hl] at hrq3
          have hCw3 := hCw2.line hrq3 hfq3
          have Gw3 : fr w2 w3 f (f + 55) := hfq3.fr (by omega) (by omega)
          refine g_pop (q := 37) dX1_serveFirst_36 rfl rfl ?_
          refine g_iconst (q := 38) (x := 1) dX1_serveFirst_37 (by decide) rfl ?_
          refine r_z dX1_serveFirst_38 rfl rfl rfl (by decide) ?_
          rw [a_sf, eq2, if_neg hq25]
          exact ⟨rfl, hCw3, (Gw.tr Gw2).tr Gw3⟩
  refine gj_E_at (L := [some (.ref f), none]) (k := 1) rfl (by decide) rfl ?_
  refine g_iconst (q := 1) (x := 0) dX1_serveFirst_0 (by decide) rfl ?_
  refine g_istore_n (q := 2) dX1_serveFirst_1 rfl rfl rfl rfl ?_
  dsimp only [List.set]
  exact loop (A.2 20).length 0 A v hC hv hW hN (fr.rf _ _ _) (by omega)

set_option maxRecDepth 100000 in
set_option maxHeartbeats 4000000 in
theorem p_X1_serve {X : gj_X} {lim : Nat} {σ : gj_H} {v : gj_V} {f : Nat} {A : aS} {t : Int32} (hs : fsh σ f) (hC : CR v f A t) {n : Nat} (hv : ivB A) (hn : n ≤ 6) (hW : ivW A n) (hN : A.1 40 5 = nI n) : gj_E X 4 m_X1_serve [.ref f] lim σ v (q_v lim σ (fun v' => CR v' f (a_srv 7 A) t ∧ fr v v' f (f + 55))) := by
  obtain ⟨sf, sb, ss, sw, sl, sm, hb6, hs6, hw6⟩ := id hs
  have done0 : ∀ (w : gj_V) (C : aS), CR w f C t → fr v w f (f + 55) → ∀ r, r ≤ 7 → gj_G X 4 m_X1_serve (q_v lim σ (fun v' => CR v' f C t ∧ fr v v' f (f + 55))) lim σ w 0 0 4 [some (.ref f), some (.int 0), some (.int (nI r))] [] := by
    intro w C hCw Gw r hr
    refine g_iload_n (q := 5) dX1_serve_4 rfl rfl ?_
    refine g_bipush (q := 7) (x := 6) dX1_serve_5 (by decide) rfl ?_
    refine g_icmpgt (t := 25) (q := 10) dX1_serve_7 (by decide) rfl (fun hq7 => ?_) (fun hq7 => ?_)
    · refine r_v dX1_serve_25 rfl rfl rfl ?_
      exact ⟨hCw, Gw⟩
    · refine g_iload_n (q := 11) dX1_serve_10 rfl rfl ?_
      refine g_ifeq (t := 25) (q := 14) dX1_serve_11 (by decide) rfl (fun hq11 => ?_) (fun hq11 => ?_)
      · refine r_v dX1_serve_25 rfl rfl rfl ?_
        exact ⟨hCw, Gw⟩
      · exact absurd rfl hq11
  have loop : ∀ (k r : Nat) (C : aS) (w : gj_V), CR w f C t → ivB C → ivW C n → C.1 40 5 = nI n → fr v w f (f + 55) → r + k = 7 → gj_G X 4 m_X1_serve (q_v lim σ (fun v' => CR v' f (a_srv k C) t ∧ fr v v' f (f + 55))) lim σ w 0 0 4 [some (.ref f), some (.int 1), some (.int (nI r))] [] := by
    intro k
    induction k with
    | zero =>
      intro r C w hCw hBc hWc hNc Gw hk
      refine g_iload_n (q := 5) dX1_serve_4 rfl rfl ?_
      refine g_bipush (q := 7) (x := 6) dX1_serve_5 (by decide) rfl ?_
      refine g_icmpgt (t := 25) (q := 10) dX1_serve_7 (by decide) rfl (fun hq7 => ?_) (fun hq7 => ?_)
      · refine r_v dX1_serve_25 rfl rfl rfl ?_
        exact ⟨hCw, Gw⟩
      · exact absurd (nI_lt (a := 6) (b := r) (by omega) (by omega)) hq7
    | succ k ih =>
      intro r C w hCw hBc hWc hNc Gw hk
      refine g_iload_n (q := 5) dX1_serve_4 rfl rfl ?_
      refine g_bipush (q := 7) (x := 6) dX1_serve_5 (by decide) rfl ?_
      refine g_icmpgt (t := 25) (q := 10) dX1_serve_7 (by decide) rfl (fun hq7 => ?_) (fun hq7 => ?_)
      · exact absurd hq7 (nI_nlt (a := 6) (b := r) (by omega) (by decide))
      · refine g_iload_n (q := 11) dX1_serve_10 rfl rfl ?_
        refine g_ifeq (t := 25) (q := 14) dX1_serve_11 (by decide) rfl (fun hq11 => ?_) (fun hq11 => ?_)
        · exact absurd hq11 (by decide)
        · refine g_aload_n (q := 15) dX1_serve_14 rfl rfl ?_
          refine c_Vi (q := 18) (p_X1_serveFirst hs hCw hBc hn hWc hNc) k_X1_186 sf rfl (by decide) rfl rfl (Nat.le_of_ble_eq_true rfl) rfl rfl dX1_serve_15 rfl ?_
          rintro x w1 ⟨hxq1, hCw1, Gw1⟩
          obtain ⟨o1, o2⟩ := a_sf_ok hn (C.2 20).length 0 C hBc hWc (by omega)
          refine g_istore_n (q := 19) dX1_serve_18 rfl rfl rfl rfl ?_
          dsimp only [List.set]
          refine g_iinc (q := 22) (y := nI (r + 1)) dX1_serve_19 rfl (gn_inc r) rfl rfl rfl rfl ?_
          dsimp only [List.set]
          refine g_goto (q := 4) dX1_serve_22 (by decide) ?_
          rw [a_srv]
          by_cases hq0 : (a_sf (C.2 20).length 0 C).1 = 0
          · rw [if_pos hq0]
            rw [hq0] at hxq1
            rw [hxq1]
            exact done0 w1 _ hCw1 (Gw.tr Gw1) (r + 1) (by omega)
          · rw [if_neg hq0]
            have hq1 : (a_sf (C.2 20).length 0 C).1 = 1 := by
              rcases o2 with h | h
              · exact absurd h.1 hq0
              · exact h.1
            rw [hxq1, hq1]
            exact ih (r + 1) _ w1 hCw1 o1.1 o1.2.1 (by rw [o1.2.2.1 40 (by omega) (by omega)]; exact hNc) (Gw.tr Gw1) (by omega)
  refine gj_E_at (L := [some (.ref f), none, none]) (k := 2) rfl (by decide) rfl ?_
  refine g_iconst (q := 1) (x := 1) dX1_serve_0 (by decide) rfl ?_
  refine g_istore_n (q := 2) dX1_serve_1 rfl rfl rfl rfl ?_
  dsimp only [List.set]
  refine g_iconst (q := 3) (x := 0) dX1_serve_2 (by decide) rfl ?_
  refine g_istore_n (q := 4) dX1_serve_3 rfl rfl rfl rfl ?_
  dsimp only [List.set]
  exact loop 7 0 A v hC hv hW hN (fr.rf _ _ _) (by omega)
