theorem RN.f5 {v : gj_V} {x p : Nat} {A : aS} {t d c : Int32} {tx : List Int32} {s : stk} {q : (Nat → List Int32) × Int32} (h : RN v x A t tx p (q :: s) d c) : RN (gj_up2 v (x + 390) 5 (nI s.length - 1)) x A t tx p s d c := by
  obtain ⟨k1, k2, k3, k4, k5⟩ := h.pl 5 (nI s.length - 1) (by omega)
  obtain ⟨h1, h2, h3, h4, h5, h6, h7, h8⟩ := h
  exact ⟨k1, k2, by rw [k5, ud_n _ _ (by decide)]; exact h3, by rw [k5, ud_s], by rw [k5, ud_n _ _ (by decide)]; exact h5, by rw [k5, ud_n _ _ (by decide)]; exact h6, by simp at h7; omega, fun j z hj => k3 j z (rv_i s q j z hj)⟩
theorem RN.l5 {v : gj_V} {x p : Nat} {A : aS} {t d c : Int32} {tx : List Int32} {s : stk} {q : (Nat → List Int32) × Int32} (h : RN v x A t tx p (q :: s) d c) : v (x + 390) 5 = nI s.length := by
  rw [h.2.2.2.1, List.length_cons, rl_s]

set_option maxRecDepth 100000 in
set_option maxHeartbeats 4000000 in
theorem p_X6_leaveLevel {X : gj_X} {lim : Nat} {σ : gj_H} {v : gj_V} {x p : Nat} {A : aS} {t d c : Int32} {tx : List Int32} {s : stk} {q0 : (Nat → List Int32) × Int32} (hs : gsh σ x) (hN : RN v x A t tx p (q0 :: s) d c)  : gj_E X 1 m_X6_leaveLevel [.ref (x + 390)] lim σ v (q_v lim σ (fun v' => RN v' x (a_out A 6) t tx p s d c ∧ fx v v' x)) := by
  obtain ⟨sx, hf, hh, ht, hrn, hia⟩ := id hs
  have sr := hrn.1
  have sa := hrn.2.1
  have si := hrn.2.2.1
  have hi5 := hrn.2.2.2
  have ht1 := ht.1
  have sf := hf.1
  have sm := hf.2.2.2.2.2.1
  have hl5 := hN.2.2.2.2.2.2.1
  simp only [List.length_cons] at hl5
  refine gj_E_at (L := [some (.ref (x + 390))]) (k := 0) rfl (by decide) rfl ?_
  refine g_aload_n (q := 1) dX6_leaveLevel_0 rfl rfl ?_
  refine g_getI (q := 4) f_X6_34 (by assumption) rfl dX6_leaveLevel_1 rfl ?_
  refine g_iflt (t := 27) (q := 7) dX6_leaveLevel_4 (by decide) rfl (fun hq4 => ?_) (fun hq4 => ?_)
  · rw [hN.l5] at hq4
    exact absurd hq4 (nI_pos (by omega))
  · refine g_aload_n (q := 8) dX6_leaveLevel_7 rfl rfl ?_
    refine g_getR (q := 11) f_X6_25 (by assumption) rfl dX6_leaveLevel_8 rfl ?_
    refine g_getR (q := 14) f_X6_68 (by assumption) rfl dX6_leaveLevel_11 rfl ?_
    refine c_Vv (q := 17) (p_X2_leave sm) k_X6_83 sm rfl (by decide) rfl rfl (Nat.le_of_ble_eq_true rfl) rfl rfl dX6_leaveLevel_14 rfl ?_
    rintro vq1 hvq1
    rw [hN.1.2.1] at hvq1
    have hCq1 : CR vq1 (x + 1) (a_out A 6) t := by rw [hvq1]; exact hN.1.mas _
    have Fq1 : fr v vq1 (x + 1) (x + 1 + 55) := by rw [hvq1]; exact fr.up (by omega) (by omega)
    have hN1 := hN.flo hCq1 Fq1
    refine g_aload_n (q := 18) dX6_leaveLevel_17 rfl rfl ?_
    refine g_dup (q := 19) dX6_leaveLevel_18 rfl rfl ?_
    refine g_getI (q := 22) f_X6_34 (by assumption) rfl dX6_leaveLevel_19 rfl ?_
    rw [hN1.l5]
    refine g_iconst (q := 23) (x := 1) dX6_leaveLevel_22 (by decide) rfl ?_
    refine g_isub (q := 24) dX6_leaveLevel_23 rfl ?_
    refine g_putI (q := 27) f_X6_34 (by assumption) rfl rfl rfl dX6_leaveLevel_24 rfl ?_
    refine g_gen (fun vq2 hvq2 => ?_)
    have hN2 := hN1.f5
    rw [← hvq2] at hN2
    have E2 : fx v vq2 x := by rw [hvq2]; exact Fq1.fx.tr (hN1.pl 5 _ (by omega)).2.2.2.1
    refine r_v dX6_leaveLevel_27 rfl rfl rfl ?_
    exact ⟨hN2, E2⟩

set_option maxRecDepth 100000 in
set_option maxHeartbeats 4000000 in
theorem p_X6_undoLevel {X : gj_X} {lim : Nat} {σ : gj_H} {v : gj_V} {x p : Nat} {A : aS} {t d c : Int32} {tx : List Int32} {s : stk} {q0 : (Nat → List Int32) × Int32} (hs : gsh σ x) (hN : RN v x A t tx p (q0 :: s) d c)  : gj_E X 2 m_X6_undoLevel [.ref (x + 390)] lim σ v (q_v lim σ (fun v' => RN v' x (a_res (a_thr A 6) 6 q0.1) t tx p s q0.2 c ∧ fx v v' x)) := by
  obtain ⟨sx, hf, hh, ht, hrn, hia⟩ := id hs
  have sr := hrn.1
  have sa := hrn.2.1
  have si := hrn.2.2.1
  have hi5 := hrn.2.2.2
  have ht1 := ht.1
  have sf := hf.1
  have sm := hf.2.2.2.2.2.1
  have hl5 := hN.2.2.2.2.2.2.1
  simp only [List.length_cons] at hl5
  refine gj_E_at (L := [some (.ref (x + 390))]) (k := 0) rfl (by decide) rfl ?_
  refine g_aload_n (q := 1) dX6_undoLevel_0 rfl rfl ?_
  refine g_getI (q := 4) f_X6_34 (by assumption) rfl dX6_undoLevel_1 rfl ?_
  refine g_iflt (t := 56) (q := 7) dX6_undoLevel_4 (by decide) rfl (fun hq4 => ?_) (fun hq4 => ?_)
  · rw [hN.l5] at hq4
    exact absurd hq4 (nI_pos (by omega))
  · refine g_aload_n (q := 8) dX6_undoLevel_7 rfl rfl ?_
    refine g_getR (q := 11) f_X6_25 (by assumption) rfl dX6_undoLevel_8 rfl ?_
    refine g_getR (q := 14) f_X6_68 (by assumption) rfl dX6_undoLevel_11 rfl ?_
    refine c_Vv (q := 17) (p_X2_leaveThrown sm) k_X6_86 sm rfl (by decide) rfl rfl (Nat.le_of_ble_eq_true rfl) rfl rfl dX6_undoLevel_14 rfl ?_
    rintro vq1 hvq1
    rw [hN.1.2.1] at hvq1
    have hCq1 : CR vq1 (x + 1) (a_thr A 6) t := by rw [hvq1]; exact hN.1.mas _
    have Fq1 : fr v vq1 (x + 1) (x + 1 + 55) := by rw [hvq1]; exact fr.up (by omega) (by omega)
    have hN1 := hN.flo hCq1 Fq1
    refine g_aload_n (q := 18) dX6_undoLevel_17 rfl rfl ?_
    refine g_getR (q := 21) f_X6_11 (by assumption) rfl dX6_undoLevel_18 rfl ?_
    refine g_aload_n (q := 22) dX6_undoLevel_21 rfl rfl ?_
    refine g_getI (q := 25) f_X6_34 (by assumption) rfl dX6_undoLevel_22 rfl ?_
    rw [hN1.l5]
    obtain ⟨i1, i2⟩ := hN1.2.2.2.2.2.2.2 s.length q0 (rv_t s q0)
    refine g_aald (q := 26) (by assumption) rfl rfl (ra_at (show s.length < 5 by omega)) (by simp) dX6_undoLevel_25 rfl ?_
    refine g_aload_n (q := 27) dX6_undoLevel_26 rfl rfl ?_
    refine g_getR (q := 30) f_X6_25 (by assumption) rfl dX6_undoLevel_27 rfl ?_
    refine c_Vv (q := 33) (p_X4_giveBack (hi5 s.length (by omega)) hf (Or.inl (by omega)) hCq1 i1) k_X6_89 (hi5 s.length (by omega)).1 rfl (by decide) rfl rfl (Nat.le_of_ble_eq_true rfl) rfl rfl dX6_undoLevel_30 rfl ?_
    rintro vq2 ⟨hCq2, Fq2⟩
    have hN2 := hN1.flo hCq2 Fq2
    obtain ⟨i3, i4⟩ := hN2.2.2.2.2.2.2.2 s.length q0 (rv_t s q0)
    refine g_aload_n (q := 34) dX6_undoLevel_33 rfl rfl ?_
    refine g_aload_n (q := 35) dX6_undoLevel_34 rfl rfl ?_
    refine g_getR (q := 38) f_X6_17 (by assumption) rfl dX6_undoLevel_35 rfl ?_
    refine g_aload_n (q := 39) dX6_undoLevel_38 rfl rfl ?_
    refine g_getI (q := 42) f_X6_34 (by assumption) rfl dX6_undoLevel_39 rfl ?_
    rw [hN2.l5]
    refine g_iald (q := 43) (by assumption) rfl (by omega) (by decide) dX6_undoLevel_42 rfl ?_
    rw [i4]
    refine g_putI (q := 46) f_X6_37 (by assumption) rfl rfl rfl dX6_undoLevel_43 rfl ?_
    refine g_gen (fun vq3 hvq3 => ?_)
    have hN3 := hN2.f6 q0.2
    rw [← hvq3] at hN3
    have E3 : fx v vq3 x := by rw [hvq3]; exact (Fq1.fx.tr Fq2.fx).tr (hN2.pl 6 _ (by omega)).2.2.2.1
    refine g_aload_n (q := 47) dX6_undoLevel_46 rfl rfl ?_
    refine g_dup (q := 48) dX6_undoLevel_47 rfl rfl ?_
    refine g_getI (q := 51) f_X6_34 (by assumption) rfl dX6_undoLevel_48 rfl ?_
    rw [hN3.l5]
    refine g_iconst (q := 52) (x := 1) dX6_undoLevel_51 (by decide) rfl ?_
    refine g_isub (q := 53) dX6_undoLevel_52 rfl ?_
    refine g_putI (q := 56) f_X6_34 (by assumption) rfl rfl rfl dX6_undoLevel_53 rfl ?_
    refine g_gen (fun vq4 hvq4 => ?_)
    have hN4 := hN3.f5
    rw [← hvq4] at hN4
    have E4 : fx v vq4 x := by rw [hvq4]; exact E3.tr (hN3.pl 5 _ (by omega)).2.2.2.1
    refine r_v dX6_undoLevel_56 rfl rfl rfl ?_
    exact ⟨hN4, E4⟩

set_option maxRecDepth 100000 in
set_option maxHeartbeats 4000000 in
theorem p_X6_order_t {X : gj_X} {lim : Nat} {σ : gj_H} {v : gj_V} {x p : Nat} {A : aS} {t d c : Int32} {tx : List Int32} {s : stk} (hs : gsh σ x) (hN : RN v x A t tx p s d c) {n sn : Nat} (hI : IV A n sn) {r : List Int32} {i g : Nat} {e : Bool} (hd : tx.drop p = r) (hp : p ≤ tx.length) (hfl : flt r i g 1 e = none) : gj_E X 4 m_X6_orderDone [.ref (x + 390), .int 116] lim σ v (q_i lim σ (fun z v' => ∃ p1, tx.drop p1 = (nf r).2 ∧ p1 ≤ tx.length ∧ (z = 0 ∧ (a_one A 116 (nf r).1 0 0).1 = 0 ∧ RN v' x (a_one A 116 (nf r).1 0 0).2 t tx p1 s d c ∨ z = 1 ∧ ¬ (a_one A 116 (nf r).1 0 0).1 = 0 ∧ RN v' x (a_one A 116 (nf r).1 0 0).2 t tx p1 s (d + 1) (c + 1)) ∧ fx v v' x)) := by
  obtain ⟨sx, hf, hh, ht, hrn, hia⟩ := id hs
  have sr := hrn.1
  have sa := hrn.2.1
  have si := hrn.2.2.1
  have hi5 := hrn.2.2.2
  have ht1 := ht.1
  have sf := hf.1
  have sm := hf.2.2.2.2.2.1
  have hn6 := hI.2.1.2.2.2.1
  have sb := hf.2.1
  have hb6 := hf.2.2.2.2.2.2.1
  refine gj_E_at (L := [some (.ref (x + 390)), some (.int 116), none, none, none, none]) (k := 4) rfl (by decide) rfl ?_
  refine g_aload_n (q := 1) dX6_orderDone_0 rfl rfl ?_
  refine c_Vi (q := 4) (p_X6_nextFigure hs hN (f := 0) hd hp hfl) k_X6_92 (by assumption) rfl (by decide) rfl rfl (Nat.le_of_ble_eq_true rfl) rfl rfl dX6_orderDone_1 rfl ?_
  rintro y1 vq1 ⟨hy1, p1, g1, l1, hN1, E1⟩
  subst y1
  refine g_istore_n (q := 5) dX6_orderDone_4 rfl rfl rfl rfl ?_
  dsimp only [List.set]
  have EE := E1
  refine g_iload_n (q := 6) dX6_orderDone_5 rfl rfl ?_
  refine g_bipush (q := 8) (x := 116) dX6_orderDone_6 (by decide) rfl ?_
  refine g_icmpne (t := 49) (q := 11) dX6_orderDone_8 (by decide) rfl (fun hq8 => ?_) (fun hq8 => ?_)
  · exact absurd rfl hq8
  · refine g_aload_n (q := 12) dX6_orderDone_11 rfl rfl ?_
    refine g_getR (q := 15) f_X6_25 (by assumption) rfl dX6_orderDone_12 rfl ?_
    refine g_iload_n (q := 16) dX6_orderDone_15 rfl rfl ?_
    refine c_Vi (q := 19) (p_X1_hasBuffer hf hN1.1) k_X6_95 sf rfl (by decide) rfl rfl (Nat.le_of_ble_eq_true rfl) rfl rfl dX6_orderDone_16 rfl ?_
    rintro z w1 ⟨rfl, hw1⟩
    subst w1
    refine g_ifeq (t := 44) (q := 22) dX6_orderDone_19 (by decide) rfl (fun hq19 => ?_) (fun hq19 => ?_)
    · have hq19 := gn_b0 hq19
      have eo : a_one A 116 (nf r).1 0 0 = (0, A) := by rw [a_one, if_pos rfl, if_neg hq19]
      refine g_iconst (q := 45) (x := 0) dX6_orderDone_44 (by decide) rfl ?_
      refine g_istore_n (q := 46) dX6_orderDone_45 rfl rfl rfl rfl ?_
      dsimp only [List.set]
      refine g_goto (q := 163) dX6_orderDone_46 (by decide) ?_
      refine g_iload_n (q := 164) dX6_orderDone_163 rfl rfl ?_
      refine g_ifeq (t := 187) (q := 167) dX6_orderDone_164 (by decide) rfl (fun hq164 => ?_) (fun hq164 => ?_)
      · refine g_iload_n (q := 188) dX6_orderDone_187 rfl rfl ?_
        refine r_z dX6_orderDone_188 rfl rfl rfl (by decide) ?_
        refine ⟨p1, g1, l1, Or.inl ⟨rfl, by rw [eo], ?_⟩, EE⟩
        rw [eo]
        exact hN1
      · exact absurd rfl hq164
    · have hq19 := gn_b1 hq19
      obtain ⟨j, hj, ej⟩ := a_has_of hI.2.1.1 (by omega) hq19
      have j6 : j < 6 := by omega
      have ei : iN (nI j) = j := iN_n (by omega)
      refine g_aload_n (q := 23) dX6_orderDone_22 rfl rfl ?_
      refine g_getR (q := 26) f_X6_25 (by assumption) rfl dX6_orderDone_23 rfl ?_
      refine g_getR (q := 29) f_X6_98 (by assumption) rfl dX6_orderDone_26 rfl ?_
      refine g_iload_n (q := 30) dX6_orderDone_29 rfl rfl ?_
      refine g_aald (q := 31) (by assumption) rfl ej (ra_at j6) (by simp) dX6_orderDone_30 rfl ?_
      refine g_iconst (q := 32) (x := (-1)) dX6_orderDone_31 (by decide) rfl ?_
      refine c_Vi (q := 35) (p_X0_take (hb6 j j6) (hN1.1.2.2.1 j j6) (w := -1)) k_X6_102 (hb6 j j6).1 rfl (by decide) rfl rfl (Nat.le_of_ble_eq_true rfl) rfl rfl dX6_orderDone_32 rfl ?_
      rintro y9 vq9 ⟨hy9, hBq9, Fq9⟩
      have hCq9 := hN1.1.buf j6 hBq9 Fq9
      have G9 : fr vq1 vq9 (x + 1) (x + 1 + 55) := Fq9.wide (by omega) (by omega)
      have hN9 := hN1.flo hCq9 G9
      have EE := EE.tr G9.fx
      refine g_bipush (q := 37) (x := (-5)) dX6_orderDone_35 (by decide) rfl ?_
      refine g_icmpeq (t := 44) (q := 40) dX6_orderDone_37 (by decide) rfl (fun hq37 => ?_) (fun hq37 => ?_)
      · rw [hy9] at hq37
        have hq37 : (a_take A j (-1)).1 = -5 := hq37
        have eo : a_one A 116 (nf r).1 0 0 = (0, (a_take A j (-1)).2) := by rw [a_one, if_pos rfl, if_pos hq19, ej, ei, if_pos hq37]
        refine g_iconst (q := 45) (x := 0) dX6_orderDone_44 (by decide) rfl ?_
        refine g_istore_n (q := 46) dX6_orderDone_45 rfl rfl rfl rfl ?_
        dsimp only [List.set]
        refine g_goto (q := 163) dX6_orderDone_46 (by decide) ?_
        refine g_iload_n (q := 164) dX6_orderDone_163 rfl rfl ?_
        refine g_ifeq (t := 187) (q := 167) dX6_orderDone_164 (by decide) rfl (fun hq164 => ?_) (fun hq164 => ?_)
        · refine g_iload_n (q := 188) dX6_orderDone_187 rfl rfl ?_
          refine r_z dX6_orderDone_188 rfl rfl rfl (by decide) ?_
          refine ⟨p1, g1, l1, Or.inl ⟨rfl, by rw [eo], ?_⟩, EE⟩
          rw [eo]
          exact hN9
        · exact absurd rfl hq164
      · rw [hy9] at hq37
        have hq37 : ¬ (a_take A j (-1)).1 = -5 := hq37
        have eo : a_one A 116 (nf r).1 0 0 = (1, (a_take A j (-1)).2) := by rw [a_one, if_pos rfl, if_pos hq19, ej, ei, if_neg hq37]
        refine g_iconst (q := 41) (x := 1) dX6_orderDone_40 (by decide) rfl ?_
        refine g_goto (q := 45) dX6_orderDone_41 (by decide) ?_
        refine g_istore_n (q := 46) dX6_orderDone_45 rfl rfl rfl rfl ?_
        dsimp only [List.set]
        refine g_goto (q := 163) dX6_orderDone_46 (by decide) ?_
        refine g_iload_n (q := 164) dX6_orderDone_163 rfl rfl ?_
        refine g_ifeq (t := 187) (q := 167) dX6_orderDone_164 (by decide) rfl (fun hq164 => ?_) (fun hq164 => ?_)
        · exact absurd hq164 (by decide)
        · refine g_aload_n (q := 168) dX6_orderDone_167 rfl rfl ?_
          refine g_dup (q := 169) dX6_orderDone_168 rfl rfl ?_
          refine g_getI (q := 172) f_X6_40 (by assumption) rfl dX6_orderDone_169 rfl ?_
          rw [hN9.2.2.2.2.2.1]
          refine g_iconst (q := 173) (x := 1) dX6_orderDone_172 (by decide) rfl ?_
          refine g_iadd (q := 174) dX6_orderDone_173 rfl ?_
          refine g_putI (q := 177) f_X6_40 (by assumption) rfl rfl rfl dX6_orderDone_174 rfl ?_
          refine g_gen (fun vq11 hvq11 => ?_)
          have hN11 := hN9.f7 (c + 1)
          rw [← hvq11] at hN11
          have E11 : fx v vq11 x := by rw [hvq11]; exact EE.tr (hN9.pl 7 _ (by omega)).2.2.2.1
          refine g_aload_n (q := 178) dX6_orderDone_177 rfl rfl ?_
          refine g_dup (q := 179) dX6_orderDone_178 rfl rfl ?_
          refine g_getI (q := 182) f_X6_37 (by assumption) rfl dX6_orderDone_179 rfl ?_
          rw [hN11.2.2.2.2.1]
          refine g_iconst (q := 183) (x := 1) dX6_orderDone_182 (by decide) rfl ?_
          refine g_iadd (q := 184) dX6_orderDone_183 rfl ?_
          refine g_putI (q := 187) f_X6_37 (by assumption) rfl rfl rfl dX6_orderDone_184 rfl ?_
          refine g_gen (fun vq12 hvq12 => ?_)
          have hN12 := hN11.f6 (d + 1)
          rw [← hvq12] at hN12
          have E12 : fx v vq12 x := by rw [hvq12]; exact E11.tr (hN11.pl 6 _ (by omega)).2.2.2.1
          refine g_iload_n (q := 188) dX6_orderDone_187 rfl rfl ?_
          refine r_z dX6_orderDone_188 rfl rfl rfl (by decide) ?_
          refine ⟨p1, g1, l1, Or.inr ⟨rfl, ?_, ?_⟩, E12⟩
          · rw [eo]; first | assumption | decide
          · rw [eo]
            exact hN12

set_option maxRecDepth 100000 in
set_option maxHeartbeats 4000000 in
theorem p_X6_order_p {X : gj_X} {lim : Nat} {σ : gj_H} {v : gj_V} {x p : Nat} {A : aS} {t d c : Int32} {tx : List Int32} {s : stk} (hs : gsh σ x) (hN : RN v x A t tx p s d c) {n sn : Nat} (hI : IV A n sn) {r : List Int32} {i g : Nat} {e : Bool} (hd : tx.drop p = r) (hp : p ≤ tx.length) (hfl : flt r i g 2 e = none) : gj_E X 4 m_X6_orderDone [.ref (x + 390), .int 112] lim σ v (q_i lim σ (fun z v' => ∃ p1, tx.drop p1 = (nf (nf r).2).2 ∧ p1 ≤ tx.length ∧ (z = 0 ∧ (a_one A 112 (nf r).1 (nf (nf r).2).1 0).1 = 0 ∧ RN v' x (a_one A 112 (nf r).1 (nf (nf r).2).1 0).2 t tx p1 s d c ∨ z = 1 ∧ ¬ (a_one A 112 (nf r).1 (nf (nf r).2).1 0).1 = 0 ∧ RN v' x (a_one A 112 (nf r).1 (nf (nf r).2).1 0).2 t tx p1 s (d + 1) (c + 1)) ∧ fx v v' x)) := by
  obtain ⟨sx, hf, hh, ht, hrn, hia⟩ := id hs
  have sr := hrn.1
  have sa := hrn.2.1
  have si := hrn.2.2.1
  have hi5 := hrn.2.2.2
  have ht1 := ht.1
  have sf := hf.1
  have sm := hf.2.2.2.2.2.1
  have hn6 := hI.2.1.2.2.2.1
  have sb := hf.2.1
  have hb6 := hf.2.2.2.2.2.2.1
  refine gj_E_at (L := [some (.ref (x + 390)), some (.int 112), none, none, none, none]) (k := 4) rfl (by decide) rfl ?_
  refine g_aload_n (q := 1) dX6_orderDone_0 rfl rfl ?_
  refine c_Vi (q := 4) (p_X6_nextFigure hs hN (f := 1) hd hp hfl) k_X6_92 (by assumption) rfl (by decide) rfl rfl (Nat.le_of_ble_eq_true rfl) rfl rfl dX6_orderDone_1 rfl ?_
  rintro y1 vq1 ⟨hy1, p1, g1, l1, hN1, E1⟩
  subst y1
  refine g_istore_n (q := 5) dX6_orderDone_4 rfl rfl rfl rfl ?_
  dsimp only [List.set]
  obtain ⟨-, -, i1, f1⟩ := nf_ok r i g 1 e hfl
  refine g_iload_n (q := 6) dX6_orderDone_5 rfl rfl ?_
  refine g_bipush (q := 8) (x := 116) dX6_orderDone_6 (by decide) rfl ?_
  refine g_icmpne (t := 49) (q := 11) dX6_orderDone_8 (by decide) rfl (fun hq8 => ?_) (fun hq8 => ?_)
  · refine g_iload_n (q := 50) dX6_orderDone_49 rfl rfl ?_
    refine g_bipush (q := 52) (x := 112) dX6_orderDone_50 (by decide) rfl ?_
    refine g_icmpne (t := 99) (q := 55) dX6_orderDone_52 (by decide) rfl (fun hq52 => ?_) (fun hq52 => ?_)
    · exact absurd rfl hq52
    · refine g_aload_n (q := 56) dX6_orderDone_55 rfl rfl ?_
      refine c_Vi (q := 59) (p_X6_nextFigure hs hN1 (f := 0) g1 l1 f1) k_X6_92 (by assumption) rfl (by decide) rfl rfl (Nat.le_of_ble_eq_true rfl) rfl rfl dX6_orderDone_56 rfl ?_
      rintro y2 vq2 ⟨hy2, p2, g2, l2, hN2, E2⟩
      subst y2
      have EE := E1.tr E2
      refine g_istore (q := 61) dX6_orderDone_59 rfl rfl rfl rfl ?_
      dsimp only [List.set]
      refine g_aload_n (q := 62) dX6_orderDone_61 rfl rfl ?_
      refine g_getR (q := 65) f_X6_25 (by assumption) rfl dX6_orderDone_62 rfl ?_
      refine g_iload_n (q := 66) dX6_orderDone_65 rfl rfl ?_
      refine c_Vi (q := 69) (p_X1_hasBuffer hf hN2.1) k_X6_95 sf rfl (by decide) rfl rfl (Nat.le_of_ble_eq_true rfl) rfl rfl dX6_orderDone_66 rfl ?_
      rintro z w1 ⟨rfl, hw1⟩
      subst w1
      refine g_ifeq (t := 94) (q := 72) dX6_orderDone_69 (by decide) rfl (fun hq69 => ?_) (fun hq69 => ?_)
      · have hq69 := gn_b0 hq69
        have eo : a_one A 112 (nf r).1 (nf (nf r).2).1 0 = (0, A) := by rw [a_one, if_neg (by decide), if_pos rfl, if_neg hq69]
        refine g_iconst (q := 95) (x := 0) dX6_orderDone_94 (by decide) rfl ?_
        refine g_istore_n (q := 96) dX6_orderDone_95 rfl rfl rfl rfl ?_
        dsimp only [List.set]
        refine g_goto (q := 163) dX6_orderDone_96 (by decide) ?_
        refine g_iload_n (q := 164) dX6_orderDone_163 rfl rfl ?_
        refine g_ifeq (t := 187) (q := 167) dX6_orderDone_164 (by decide) rfl (fun hq164 => ?_) (fun hq164 => ?_)
        · refine g_iload_n (q := 188) dX6_orderDone_187 rfl rfl ?_
          refine r_z dX6_orderDone_188 rfl rfl rfl (by decide) ?_
          refine ⟨p2, g2, l2, Or.inl ⟨rfl, by rw [eo], ?_⟩, EE⟩
          rw [eo]
          exact hN2
        · exact absurd rfl hq164
      · have hq69 := gn_b1 hq69
        obtain ⟨j, hj, ej⟩ := a_has_of hI.2.1.1 (by omega) hq69
        have j6 : j < 6 := by omega
        have ei : iN (nI j) = j := iN_n (by omega)
        refine g_aload_n (q := 73) dX6_orderDone_72 rfl rfl ?_
        refine g_getR (q := 76) f_X6_25 (by assumption) rfl dX6_orderDone_73 rfl ?_
        refine g_getR (q := 79) f_X6_98 (by assumption) rfl dX6_orderDone_76 rfl ?_
        refine g_iload_n (q := 80) dX6_orderDone_79 rfl rfl ?_
        refine g_aald (q := 81) (by assumption) rfl ej (ra_at j6) (by simp) dX6_orderDone_80 rfl ?_
        refine g_iload (q := 83) dX6_orderDone_81 rfl rfl ?_
        refine g_iconst (q := 84) (x := (-1)) dX6_orderDone_83 (by decide) rfl ?_
        refine c_Vi (q := 87) (p_X0_put (hb6 j j6) (hN2.1.2.2.1 j j6) (k := (nf (nf r).2).1) (w := -1) (hI.1 j j6).1) k_X6_108 (hb6 j j6).1 rfl (by decide) rfl rfl (Nat.le_of_ble_eq_true rfl) rfl rfl dX6_orderDone_84 rfl ?_
        rintro y9 vq9 ⟨hy9, hBq9, Fq9⟩
        have hCq9 := hN2.1.buf j6 hBq9 Fq9
        have G9 : fr vq2 vq9 (x + 1) (x + 1 + 55) := Fq9.wide (by omega) (by omega)
        have hN9 := hN2.flo hCq9 G9
        have EE := EE.tr G9.fx
        refine g_ifeq (t := 94) (q := 90) dX6_orderDone_87 (by decide) rfl (fun hq87 => ?_) (fun hq87 => ?_)
        · rw [hy9] at hq87
          have eo : (a_one A 112 (nf r).1 (nf (nf r).2).1 0) = (0, (a_put A j (nf (nf r).2).1 (-1)).2) := by rw [a_one, if_neg (by decide), if_pos rfl, if_pos hq69, ej, ei]; exact Prod.ext hq87 rfl
          refine g_iconst (q := 95) (x := 0) dX6_orderDone_94 (by decide) rfl ?_
          refine g_istore_n (q := 96) dX6_orderDone_95 rfl rfl rfl rfl ?_
          dsimp only [List.set]
          refine g_goto (q := 163) dX6_orderDone_96 (by decide) ?_
          refine g_iload_n (q := 164) dX6_orderDone_163 rfl rfl ?_
          refine g_ifeq (t := 187) (q := 167) dX6_orderDone_164 (by decide) rfl (fun hq164 => ?_) (fun hq164 => ?_)
          · refine g_iload_n (q := 188) dX6_orderDone_187 rfl rfl ?_
            refine r_z dX6_orderDone_188 rfl rfl rfl (by decide) ?_
            refine ⟨p2, g2, l2, Or.inl ⟨rfl, by rw [eo], ?_⟩, EE⟩
            rw [eo]
            exact hN9
          · exact absurd rfl hq164
        · rw [hy9] at hq87
          have eo : a_one A 112 (nf r).1 (nf (nf r).2).1 0 = a_put A j (nf (nf r).2).1 (-1) := by rw [a_one, if_neg (by decide), if_pos rfl, if_pos hq69, ej, ei]
          have hq87 : ¬ (a_put A j (nf (nf r).2).1 (-1)).1 = 0 := hq87
          refine g_iconst (q := 91) (x := 1) dX6_orderDone_90 (by decide) rfl ?_
          refine g_goto (q := 95) dX6_orderDone_91 (by decide) ?_
          refine g_istore_n (q := 96) dX6_orderDone_95 rfl rfl rfl rfl ?_
          dsimp only [List.set]
          refine g_goto (q := 163) dX6_orderDone_96 (by decide) ?_
          refine g_iload_n (q := 164) dX6_orderDone_163 rfl rfl ?_
          refine g_ifeq (t := 187) (q := 167) dX6_orderDone_164 (by decide) rfl (fun hq164 => ?_) (fun hq164 => ?_)
          · exact absurd hq164 (by decide)
          · refine g_aload_n (q := 168) dX6_orderDone_167 rfl rfl ?_
            refine g_dup (q := 169) dX6_orderDone_168 rfl rfl ?_
            refine g_getI (q := 172) f_X6_40 (by assumption) rfl dX6_orderDone_169 rfl ?_
            rw [hN9.2.2.2.2.2.1]
            refine g_iconst (q := 173) (x := 1) dX6_orderDone_172 (by decide) rfl ?_
            refine g_iadd (q := 174) dX6_orderDone_173 rfl ?_
            refine g_putI (q := 177) f_X6_40 (by assumption) rfl rfl rfl dX6_orderDone_174 rfl ?_
            refine g_gen (fun vq11 hvq11 => ?_)
            have hN11 := hN9.f7 (c + 1)
            rw [← hvq11] at hN11
            have E11 : fx v vq11 x := by rw [hvq11]; exact EE.tr (hN9.pl 7 _ (by omega)).2.2.2.1
            refine g_aload_n (q := 178) dX6_orderDone_177 rfl rfl ?_
            refine g_dup (q := 179) dX6_orderDone_178 rfl rfl ?_
            refine g_getI (q := 182) f_X6_37 (by assumption) rfl dX6_orderDone_179 rfl ?_
            rw [hN11.2.2.2.2.1]
            refine g_iconst (q := 183) (x := 1) dX6_orderDone_182 (by decide) rfl ?_
            refine g_iadd (q := 184) dX6_orderDone_183 rfl ?_
            refine g_putI (q := 187) f_X6_37 (by assumption) rfl rfl rfl dX6_orderDone_184 rfl ?_
            refine g_gen (fun vq12 hvq12 => ?_)
            have hN12 := hN11.f6 (d + 1)
            rw [← hvq12] at hN12
            have E12 : fx v vq12 x := by rw [hvq12]; exact E11.tr (hN11.pl 6 _ (by omega)).2.2.2.1
            refine g_iload_n (q := 188) dX6_orderDone_187 rfl rfl ?_
            refine r_z dX6_orderDone_188 rfl rfl rfl (by decide) ?_
            refine ⟨p2, g2, l2, Or.inr ⟨rfl, ?_, ?_⟩, E12⟩
            · rw [eo]; first | assumption | decide
            · rw [eo]
              exact hN12
  · exact absurd hq8 (by decide)

set_option maxRecDepth 100000 in
set_option maxHeartbeats 4000000 in
theorem p_X6_order_m {X : gj_X} {lim : Nat} {σ : gj_H} {v : gj_V} {x p : Nat} {A : aS} {t d c : Int32} {tx : List Int32} {s : stk} (hs : gsh σ x) (hN : RN v x A t tx p s d c) {n sn : Nat} (hI : IV A n sn) {r : List Int32} {i g : Nat} {e : Bool} (hd : tx.drop p = r) (hp : p ≤ tx.length) (hfl : flt r i g 3 e = none) : gj_E X 4 m_X6_orderDone [.ref (x + 390), .int 109] lim σ v (q_i lim σ (fun z v' => ∃ p1, tx.drop p1 = (nf (nf (nf r).2).2).2 ∧ p1 ≤ tx.length ∧ (z = 0 ∧ (a_one A 109 (nf r).1 (nf (nf r).2).1 (nf (nf (nf r).2).2).1).1 = 0 ∧ RN v' x (a_one A 109 (nf r).1 (nf (nf r).2).1 (nf (nf (nf r).2).2).1).2 t tx p1 s d c ∨ z = 1 ∧ ¬ (a_one A 109 (nf r).1 (nf (nf r).2).1 (nf (nf (nf r).2).2).1).1 = 0 ∧ RN v' x (a_one A 109 (nf r).1 (nf (nf r).2).1 (nf (nf (nf r).2).2).1).2 t tx p1 s (d + 1) (c + 1)) ∧ fx v v' x)) := by
  obtain ⟨sx, hf, hh, ht, hrn, hia⟩ := id hs
  have sr := hrn.1
  have sa := hrn.2.1
  have si := hrn.2.2.1
  have hi5 := hrn.2.2.2
  have ht1 := ht.1
  have sf := hf.1
  have sm := hf.2.2.2.2.2.1
  have hn6 := hI.2.1.2.2.2.1
  have sb := hf.2.1
  have hb6 := hf.2.2.2.2.2.2.1
  refine gj_E_at (L := [some (.ref (x + 390)), some (.int 109), none, none, none, none]) (k := 4) rfl (by decide) rfl ?_
  refine g_aload_n (q := 1) dX6_orderDone_0 rfl rfl ?_
  refine c_Vi (q := 4) (p_X6_nextFigure hs hN (f := 2) hd hp hfl) k_X6_92 (by assumption) rfl (by decide) rfl rfl (Nat.le_of_ble_eq_true rfl) rfl rfl dX6_orderDone_1 rfl ?_
  rintro y1 vq1 ⟨hy1, p1, g1, l1, hN1, E1⟩
  subst y1
  refine g_istore_n (q := 5) dX6_orderDone_4 rfl rfl rfl rfl ?_
  dsimp only [List.set]
  obtain ⟨-, -, i1, f1⟩ := nf_ok r i g 2 e hfl
  obtain ⟨-, -, i2, f2⟩ := nf_ok _ i1 g 1 _ f1
  obtain ⟨⟨m0, hm0, em⟩, -, -⟩ := nf_ok _ i2 g 0 _ f2
  have em2 : iN (nI m0) = m0 := iN_n (by omega)
  refine g_iload_n (q := 6) dX6_orderDone_5 rfl rfl ?_
  refine g_bipush (q := 8) (x := 116) dX6_orderDone_6 (by decide) rfl ?_
  refine g_icmpne (t := 49) (q := 11) dX6_orderDone_8 (by decide) rfl (fun hq8 => ?_) (fun hq8 => ?_)
  · refine g_iload_n (q := 50) dX6_orderDone_49 rfl rfl ?_
    refine g_bipush (q := 52) (x := 112) dX6_orderDone_50 (by decide) rfl ?_
    refine g_icmpne (t := 99) (q := 55) dX6_orderDone_52 (by decide) rfl (fun hq52 => ?_) (fun hq52 => ?_)
    · refine g_aload_n (q := 100) dX6_orderDone_99 rfl rfl ?_
      refine c_Vi (q := 103) (p_X6_nextFigure hs hN1 (f := 1) g1 l1 f1) k_X6_92 (by assumption) rfl (by decide) rfl rfl (Nat.le_of_ble_eq_true rfl) rfl rfl dX6_orderDone_100 rfl ?_
      rintro y2 vq2 ⟨hy2, p2, g2, l2, hN2, E2⟩
      subst y2
      refine g_istore (q := 105) dX6_orderDone_103 rfl rfl rfl rfl ?_
      dsimp only [List.set]
      refine g_aload_n (q := 106) dX6_orderDone_105 rfl rfl ?_
      refine c_Vi (q := 109) (p_X6_nextFigure hs hN2 (f := 0) g2 l2 f2) k_X6_92 (by assumption) rfl (by decide) rfl rfl (Nat.le_of_ble_eq_true rfl) rfl rfl dX6_orderDone_106 rfl ?_
      rintro y3 vq3 ⟨hy3, p3, g3, l3, hN3, E3⟩
      subst y3
      have EE := (E1.tr E2).tr E3
      refine g_istore (q := 111) dX6_orderDone_109 rfl rfl rfl rfl ?_
      dsimp only [List.set]
      refine g_aload_n (q := 112) dX6_orderDone_111 rfl rfl ?_
      refine g_getR (q := 115) f_X6_25 (by assumption) rfl dX6_orderDone_112 rfl ?_
      refine g_iload_n (q := 116) dX6_orderDone_115 rfl rfl ?_
      refine c_Vi (q := 119) (p_X1_hasBuffer hf hN3.1) k_X6_95 sf rfl (by decide) rfl rfl (Nat.le_of_ble_eq_true rfl) rfl rfl dX6_orderDone_116 rfl ?_
      rintro z w1 ⟨rfl, hw1⟩
      subst w1
      refine g_ifeq (t := 161) (q := 122) dX6_orderDone_119 (by decide) rfl (fun hq119 => ?_) (fun hq119 => ?_)
      · have hq119 := gn_b0 hq119
        have eo : a_one A 109 (nf r).1 (nf (nf r).2).1 (nf (nf (nf r).2).2).1 = (0, A) := by rw [a_one, if_neg (by decide), if_neg (by decide), if_neg (fun z => hq119 z.1)]
        refine g_iconst (q := 162) (x := 0) dX6_orderDone_161 (by decide) rfl ?_
        refine g_istore_n (q := 163) dX6_orderDone_162 rfl rfl rfl rfl ?_
        dsimp only [List.set]
        refine g_iload_n (q := 164) dX6_orderDone_163 rfl rfl ?_
        refine g_ifeq (t := 187) (q := 167) dX6_orderDone_164 (by decide) rfl (fun hq164 => ?_) (fun hq164 => ?_)
        · refine g_iload_n (q := 188) dX6_orderDone_187 rfl rfl ?_
          refine r_z dX6_orderDone_188 rfl rfl rfl (by decide) ?_
          refine ⟨p3, g3, l3, Or.inl ⟨rfl, by rw [eo], ?_⟩, EE⟩
          rw [eo]
          exact hN3
        · exact absurd rfl hq164
      · have hq119 := gn_b1 hq119
        refine g_aload_n (q := 123) dX6_orderDone_122 rfl rfl ?_
        refine g_getR (q := 126) f_X6_25 (by assumption) rfl dX6_orderDone_123 rfl ?_
        refine g_iload (q := 128) dX6_orderDone_126 rfl rfl ?_
        refine c_Vi (q := 131) (p_X1_hasBuffer hf hN3.1) k_X6_95 sf rfl (by decide) rfl rfl (Nat.le_of_ble_eq_true rfl) rfl rfl dX6_orderDone_128 rfl ?_
        rintro z w1 ⟨rfl, hw1⟩
        subst w1
        refine g_ifeq (t := 161) (q := 134) dX6_orderDone_131 (by decide) rfl (fun hq131 => ?_) (fun hq131 => ?_)
        · have hq131 := gn_b0 hq131
          have eo : a_one A 109 (nf r).1 (nf (nf r).2).1 (nf (nf (nf r).2).2).1 = (0, A) := by rw [a_one, if_neg (by decide), if_neg (by decide), if_neg (fun z => hq131 z.2.1)]
          refine g_iconst (q := 162) (x := 0) dX6_orderDone_161 (by decide) rfl ?_
          refine g_istore_n (q := 163) dX6_orderDone_162 rfl rfl rfl rfl ?_
          dsimp only [List.set]
          refine g_iload_n (q := 164) dX6_orderDone_163 rfl rfl ?_
          refine g_ifeq (t := 187) (q := 167) dX6_orderDone_164 (by decide) rfl (fun hq164 => ?_) (fun hq164 => ?_)
          · refine g_iload_n (q := 188) dX6_orderDone_187 rfl rfl ?_
            refine r_z dX6_orderDone_188 rfl rfl rfl (by decide) ?_
            refine ⟨p3, g3, l3, Or.inl ⟨rfl, by rw [eo], ?_⟩, EE⟩
            rw [eo]
            exact hN3
          · exact absurd rfl hq164
        · have hq131 := gn_b1 hq131
          refine g_iload_n (q := 135) dX6_orderDone_134 rfl rfl ?_
          refine g_iload (q := 137) dX6_orderDone_135 rfl rfl ?_
          refine g_icmpeq (t := 161) (q := 140) dX6_orderDone_137 (by decide) rfl (fun hq137 => ?_) (fun hq137 => ?_)
          · have eo : a_one A 109 (nf r).1 (nf (nf r).2).1 (nf (nf (nf r).2).2).1 = (0, A) := by rw [a_one, if_neg (by decide), if_neg (by decide), if_neg (fun z => z.2.2 hq137)]
            refine g_iconst (q := 162) (x := 0) dX6_orderDone_161 (by decide) rfl ?_
            refine g_istore_n (q := 163) dX6_orderDone_162 rfl rfl rfl rfl ?_
            dsimp only [List.set]
            refine g_iload_n (q := 164) dX6_orderDone_163 rfl rfl ?_
            refine g_ifeq (t := 187) (q := 167) dX6_orderDone_164 (by decide) rfl (fun hq164 => ?_) (fun hq164 => ?_)
            · refine g_iload_n (q := 188) dX6_orderDone_187 rfl rfl ?_
              refine r_z dX6_orderDone_188 rfl rfl rfl (by decide) ?_
              refine ⟨p3, g3, l3, Or.inl ⟨rfl, by rw [eo], ?_⟩, EE⟩
              rw [eo]
              exact hN3
            · exact absurd rfl hq164
          · have eq0 : a_one A 109 (nf r).1 (nf (nf r).2).1 (nf (nf (nf r).2).2).1 = (if nI (a_move A (iN (nf r).1) (iN (nf (nf r).2).1) (iN (nf (nf (nf r).2).2).1)).1 = (nf (nf (nf r).2).2).1 then 1 else 0, (a_move A (iN (nf r).1) (iN (nf (nf r).2).1) (iN (nf (nf (nf r).2).2).1)).2) := by rw [a_one, if_neg (by decide), if_neg (by decide), if_pos ⟨hq119, hq131, hq137⟩]
            obtain ⟨j, hj, ej⟩ := a_has_of hI.2.1.1 (by omega) hq119
            have j6 : j < 6 := by omega
            have ei : iN (nI j) = j := iN_n (by omega)
            obtain ⟨k, hk, ek⟩ := a_has_of hI.2.1.1 (by omega) hq131
            have ei2 : iN (nI k) = k := iN_n (by omega)
            rw [ej, ek, em] at eq0
            rw [ei, ei2, em2] at eq0
            rw [ej, ek, em]
            have hjk : j ≠ k := fun z => hq137 (by rw [ej, ek, z])
            refine g_aload_n (q := 141) dX6_orderDone_140 rfl rfl ?_
            refine g_getR (q := 144) f_X6_25 (by assumption) rfl dX6_orderDone_141 rfl ?_
            refine g_iload_n (q := 145) dX6_orderDone_144 rfl rfl ?_
            refine g_iload (q := 147) dX6_orderDone_145 rfl rfl ?_
            refine g_iload (q := 149) dX6_orderDone_147 rfl rfl ?_
            refine c_Vi (q := 152) (p_X1_move hf hN3.1 (n := m0) hI.1 j6 (show k < 6 by omega) hjk (by omega)) k_X6_112 sf rfl (by decide) rfl rfl (Nat.le_of_ble_eq_true rfl) rfl rfl dX6_orderDone_149 rfl ?_
            rintro y9 vq9 ⟨hy9, hCq9, Fq9⟩
            have hN9 := hN3.flo hCq9 Fq9
            have EE := EE.tr Fq9.fx
            subst y9
            refine g_iload (q := 154) dX6_orderDone_152 rfl rfl ?_
            refine g_icmpne (t := 161) (q := 157) dX6_orderDone_154 (by decide) rfl (fun hq154 => ?_) (fun hq154 => ?_)
            · have eo := eq0.trans (by rw [if_neg hq154])
              refine g_iconst (q := 162) (x := 0) dX6_orderDone_161 (by decide) rfl ?_
              refine g_istore_n (q := 163) dX6_orderDone_162 rfl rfl rfl rfl ?_
              dsimp only [List.set]
              refine g_iload_n (q := 164) dX6_orderDone_163 rfl rfl ?_
              refine g_ifeq (t := 187) (q := 167) dX6_orderDone_164 (by decide) rfl (fun hq164 => ?_) (fun hq164 => ?_)
              · refine g_iload_n (q := 188) dX6_orderDone_187 rfl rfl ?_
                refine r_z dX6_orderDone_188 rfl rfl rfl (by decide) ?_
                refine ⟨p3, g3, l3, Or.inl ⟨rfl, by rw [eo], ?_⟩, EE⟩
                rw [eo]
                exact hN9
              · exact absurd rfl hq164
            · have eo := eq0.trans (by rw [if_pos hq154])
              refine g_iconst (q := 158) (x := 1) dX6_orderDone_157 (by decide) rfl ?_
              refine g_goto (q := 162) dX6_orderDone_158 (by decide) ?_
              refine g_istore_n (q := 163) dX6_orderDone_162 rfl rfl rfl rfl ?_
              dsimp only [List.set]
              refine g_iload_n (q := 164) dX6_orderDone_163 rfl rfl ?_
              refine g_ifeq (t := 187) (q := 167) dX6_orderDone_164 (by decide) rfl (fun hq164 => ?_) (fun hq164 => ?_)
              · exact absurd hq164 (by decide)
              · refine g_aload_n (q := 168) dX6_orderDone_167 rfl rfl ?_
                refine g_dup (q := 169) dX6_orderDone_168 rfl rfl ?_
                refine g_getI (q := 172) f_X6_40 (by assumption) rfl dX6_orderDone_169 rfl ?_
                rw [hN9.2.2.2.2.2.1]
                refine g_iconst (q := 173) (x := 1) dX6_orderDone_172 (by decide) rfl ?_
                refine g_iadd (q := 174) dX6_orderDone_173 rfl ?_
                refine g_putI (q := 177) f_X6_40 (by assumption) rfl rfl rfl dX6_orderDone_174 rfl ?_
                refine g_gen (fun vq11 hvq11 => ?_)
                have hN11 := hN9.f7 (c + 1)
                rw [← hvq11] at hN11
                have E11 : fx v vq11 x := by rw [hvq11]; exact EE.tr (hN9.pl 7 _ (by omega)).2.2.2.1
                refine g_aload_n (q := 178) dX6_orderDone_177 rfl rfl ?_
                refine g_dup (q := 179) dX6_orderDone_178 rfl rfl ?_
                refine g_getI (q := 182) f_X6_37 (by assumption) rfl dX6_orderDone_179 rfl ?_
                rw [hN11.2.2.2.2.1]
                refine g_iconst (q := 183) (x := 1) dX6_orderDone_182 (by decide) rfl ?_
                refine g_iadd (q := 184) dX6_orderDone_183 rfl ?_
                refine g_putI (q := 187) f_X6_37 (by assumption) rfl rfl rfl dX6_orderDone_184 rfl ?_
                refine g_gen (fun vq12 hvq12 => ?_)
                have hN12 := hN11.f6 (d + 1)
                rw [← hvq12] at hN12
                have E12 : fx v vq12 x := by rw [hvq12]; exact E11.tr (hN11.pl 6 _ (by omega)).2.2.2.1
                refine g_iload_n (q := 188) dX6_orderDone_187 rfl rfl ?_
                refine r_z dX6_orderDone_188 rfl rfl rfl (by decide) ?_
                refine ⟨p3, g3, l3, Or.inr ⟨rfl, ?_, ?_⟩, E12⟩
                · rw [eo]; first | assumption | decide
                · rw [eo]
                  exact hN12
    · exact absurd hq52 (by decide)
  · exact absurd hq8 (by decide)
