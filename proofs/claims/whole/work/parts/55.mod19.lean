set_option maxRecDepth 100000 in
set_option maxHeartbeats 4000000 in
theorem p_X11_keeper {X : gj_X} {lim : Nat} {σ : gj_H} {v : gj_V} {m : Nat} {A : aS} {t : Int32} {l : List (aS × Int32)} {tx : List Int32} {c : Nat → Int32} {n sn : Nat} (hs : msh σ m) (hG : MG v m A t l tx c) (hI : IV A n sn) {b k : Int32} : gj_E X 6 m_X11_keeper [.ref m, .int b, .int k] lim σ v (q_i lim σ (fun z v' => sp_rd A t l tx c (a_has A b ∧ in_ k 0 2) (b_ktold (gB A (iN b)) (iN k)) z (MG v' m) ∧ fm v v' m)) := by
  obtain ⟨so, s1, s2, s3, s4, s5, s6, s7, s8, s9, s10, s11, s12⟩ := id hs
  have hn6 := hI.2.1.2.2.2.1
  have hn1 := hI.2.1.2.2.1
  have hsn6 := hI.2.1.2.2.2.2.1
  have esn : sno A = sn := sn_eq hI
  have hM0 := hG.1
  refine gj_E_at (L := [some (.ref m), some (.int b), some (.int k)]) (k := 0) rfl (by decide) rfl ?_
  refine g_aload_n (q := 1) dX11_keeper_0 rfl rfl ?_
  refine g_iload_n (q := 2) dX11_keeper_1 rfl rfl ?_
  refine c_Vi (q := 5) (p_X11_isBuffer hs hG.1 hI.2.1.1 hn6) k_X11_136 (by assumption) rfl (by decide) rfl rfl (Nat.le_of_ble_eq_true rfl) rfl rfl dX11_keeper_2 rfl ?_
  rintro z w1 ⟨rfl, hw1⟩
  subst w1
  refine g_ifeq (t := 17) (q := 8) dX11_keeper_5 (by decide) rfl (fun hq5 => ?_) (fun hq5 => ?_)
  · have hq5 := gn_b0 hq5
    refine g_aload_n (q := 18) dX11_keeper_17 rfl rfl ?_
    refine c_Vi (q := 21) (p_X11_bad hs hG) k_X11_130 (by assumption) rfl (by decide) rfl rfl (Nat.le_of_ble_eq_true rfl) rfl rfl dX11_keeper_18 rfl ?_
    rintro z w1 ⟨hz1, hG1, E1⟩
    refine r_i dX11_keeper_21 rfl rfl rfl ?_
    exact ⟨⟨fun h => absurd h (by intro h; first | exact hq5 h.1 | exact hq14 h.2), fun _ => ⟨hz1, hG1⟩⟩, E1⟩
  · have hq5 := gn_b1 hq5
    refine g_iload_n (q := 9) dX11_keeper_8 rfl rfl ?_
    refine g_iconst (q := 10) (x := 0) dX11_keeper_9 (by decide) rfl ?_
    refine g_iconst (q := 11) (x := 2) dX11_keeper_10 (by decide) rfl ?_
    refine c_Si (q := 14) p_X11_in k_X11_50 (by decide) rfl rfl (Nat.le_of_ble_eq_true rfl) rfl rfl dX11_keeper_11 rfl ?_
    rintro z w1 ⟨rfl, hw1⟩
    subst w1
    refine g_ifne (t := 22) (q := 17) dX11_keeper_14 (by decide) rfl (fun hq14 => ?_) (fun hq14 => ?_)
    · have hq14 := gn_b1 hq14
      have hcd := And.intro hq5 hq14
      obtain ⟨j, hj, rfl⟩ := a_has_of hI.2.1.1 (by omega) hq5
      have ej : iN (nI j) = j := iN_n (by omega)
      have j6 : j < 6 := by omega
      obtain ⟨k0, hk0, rfl⟩ := gn_0k (n := 2) (m := 2) (by decide) hq14
      have ek : iN (nI k0) = k0 := iN_n (by omega)
      have hB := hM0.2.1 j j6
      obtain ⟨a0, a1, a2, a3, a4, a5, a6, a7, a8, a9, a10, a11⟩ := id hB
      refine g_aload_n (q := 23) dX11_keeper_22 rfl rfl ?_
      refine g_getR (q := 26) f_X11_13 (by assumption) rfl dX11_keeper_23 rfl ?_
      refine g_iload_n (q := 27) dX11_keeper_26 rfl rfl ?_
      refine c_Si (q := 30) (p_X11_atBuffer (b := j)) k_X11_54 (by decide) rfl rfl (Nat.le_of_ble_eq_true rfl) rfl rfl dX11_keeper_27 rfl ?_
      rintro z0 w1 ⟨hz0, hw1⟩
      subst w1
      subst z0
      refine g_iload_n (q := 31) dX11_keeper_30 rfl rfl ?_
      refine g_ifne (t := 38) (q := 34) dX11_keeper_31 (by decide) rfl (fun hq31 => ?_) (fun hq31 => ?_)
      · have hk1 : ¬ k0 = 0 := fun z => hq31 (by rw [z]; rfl)
        refine g_iload_n (q := 39) dX11_keeper_38 rfl rfl ?_
        refine g_iconst (q := 40) (x := 1) dX11_keeper_39 (by decide) rfl ?_
        refine g_icmpne (t := 48) (q := 43) dX11_keeper_40 (by decide) rfl (fun hq40 => ?_) (fun hq40 => ?_)
        · have hk2 : ¬ k0 = 1 := fun z => hq40 (by rw [z]; rfl)
          refine g_bipush (q := 50) (x := 7) dX11_keeper_48 (by decide) rfl ?_
          refine g_iadd (q := 51) dX11_keeper_50 rfl ?_
          refine g_iald (q := 52) (by assumption) (by first | (simp only [gn_lit, nI_add, pk_mul]; exact rfl) | exact rfl) (by omega) (by decide) dX11_keeper_51 rfl ?_
          refine r_i dX11_keeper_52 rfl rfl rfl ?_
          refine ⟨⟨fun _ => ⟨?_, hG⟩, fun h => absurd hcd h⟩, fm.rf _ _⟩
          rw [ej, ek]
          first | (subst hk1; exact a5) | (subst hk2; exact a6) | (rw [show k0 = 2 by omega]; exact a7)
        · have hk2 : k0 = 1 := nI_inj6 (b := 1) (by omega) (by omega) hq40
          refine g_bipush (q := 45) (x := 6) dX11_keeper_43 (by decide) rfl ?_
          refine g_goto (q := 50) dX11_keeper_45 (by decide) ?_
          refine g_iadd (q := 51) dX11_keeper_50 rfl ?_
          refine g_iald (q := 52) (by assumption) (by first | (simp only [gn_lit, nI_add, pk_mul]; exact rfl) | exact rfl) (by omega) (by decide) dX11_keeper_51 rfl ?_
          refine r_i dX11_keeper_52 rfl rfl rfl ?_
          refine ⟨⟨fun _ => ⟨?_, hG⟩, fun h => absurd hcd h⟩, fm.rf _ _⟩
          rw [ej, ek]
          first | (subst hk1; exact a5) | (subst hk2; exact a6) | (rw [show k0 = 2 by omega]; exact a7)
      · have hk1 : k0 = 0 := nI_inj6 (b := 0) (by omega) (by omega) hq31
        refine g_iconst (q := 35) (x := 5) dX11_keeper_34 (by decide) rfl ?_
        refine g_goto (q := 50) dX11_keeper_35 (by decide) ?_
        refine g_iadd (q := 51) dX11_keeper_50 rfl ?_
        refine g_iald (q := 52) (by assumption) (by first | (simp only [gn_lit, nI_add, pk_mul]; exact rfl) | exact rfl) (by omega) (by decide) dX11_keeper_51 rfl ?_
        refine r_i dX11_keeper_52 rfl rfl rfl ?_
        refine ⟨⟨fun _ => ⟨?_, hG⟩, fun h => absurd hcd h⟩, fm.rf _ _⟩
        rw [ej, ek]
        first | (subst hk1; exact a5) | (subst hk2; exact a6) | (rw [show k0 = 2 by omega]; exact a7)
    · have hq14 := gn_b0 hq14
      refine g_aload_n (q := 18) dX11_keeper_17 rfl rfl ?_
      refine c_Vi (q := 21) (p_X11_bad hs hG) k_X11_130 (by assumption) rfl (by decide) rfl rfl (Nat.le_of_ble_eq_true rfl) rfl rfl dX11_keeper_18 rfl ?_
      rintro z w1 ⟨hz1, hG1, E1⟩
      refine r_i dX11_keeper_21 rfl rfl rfl ?_
      exact ⟨⟨fun h => absurd h (by intro h; first | exact hq5 h.1 | exact hq14 h.2), fun _ => ⟨hz1, hG1⟩⟩, E1⟩

set_option maxRecDepth 100000 in
set_option maxHeartbeats 4000000 in
theorem p_X11_queue {X : gj_X} {lim : Nat} {σ : gj_H} {v : gj_V} {m : Nat} {A : aS} {t : Int32} {l : List (aS × Int32)} {tx : List Int32} {c : Nat → Int32} {n sn : Nat} (hs : msh σ m) (hG : MG v m A t l tx c) (hI : IV A n sn) {b k : Int32} : gj_E X 6 m_X11_queue [.ref m, .int b, .int k] lim σ v (q_i lim σ (fun z v' => sp_rd A t l tx c (a_has A b ∧ 0 ≤ k) (l_at (A.2 (10 + iN b)) k) z (MG v' m) ∧ fm v v' m)) := by
  obtain ⟨so, s1, s2, s3, s4, s5, s6, s7, s8, s9, s10, s11, s12⟩ := id hs
  have hn6 := hI.2.1.2.2.2.1
  have hn1 := hI.2.1.2.2.1
  have hsn6 := hI.2.1.2.2.2.2.1
  have esn : sno A = sn := sn_eq hI
  have hM0 := hG.1
  refine gj_E_at (L := [some (.ref m), some (.int b), some (.int k)]) (k := 0) rfl (by decide) rfl ?_
  refine g_aload_n (q := 1) dX11_queue_0 rfl rfl ?_
  refine g_iload_n (q := 2) dX11_queue_1 rfl rfl ?_
  refine c_Vi (q := 5) (p_X11_isBuffer hs hG.1 hI.2.1.1 hn6) k_X11_136 (by assumption) rfl (by decide) rfl rfl (Nat.le_of_ble_eq_true rfl) rfl rfl dX11_queue_2 rfl ?_
  rintro z w1 ⟨rfl, hw1⟩
  subst w1
  refine g_ifeq (t := 12) (q := 8) dX11_queue_5 (by decide) rfl (fun hq5 => ?_) (fun hq5 => ?_)
  · have hq5 := gn_b0 hq5
    refine g_aload_n (q := 13) dX11_queue_12 rfl rfl ?_
    refine c_Vi (q := 16) (p_X11_bad hs hG) k_X11_130 (by assumption) rfl (by decide) rfl rfl (Nat.le_of_ble_eq_true rfl) rfl rfl dX11_queue_13 rfl ?_
    rintro z w1 ⟨hz1, hG1, E1⟩
    refine r_i dX11_queue_16 rfl rfl rfl ?_
    exact ⟨⟨fun h => absurd h (by intro h; first | exact hq5 h.1 | exact hq9 h.2), fun _ => ⟨hz1, hG1⟩⟩, E1⟩
  · have hq5 := gn_b1 hq5
    refine g_iload_n (q := 9) dX11_queue_8 rfl rfl ?_
    refine g_ifge (t := 17) (q := 12) dX11_queue_9 (by decide) rfl (fun hq9 => ?_) (fun hq9 => ?_)
    · have hcd : a_has A b ∧ 0 ≤ k := And.intro hq5 hq9
      obtain ⟨j, hj, rfl⟩ := a_has_of hI.2.1.1 (by omega) hq5
      have ej : iN (nI j) = j := iN_n (by omega)
      have j6 : j < 6 := by omega
      have hB := hM0.2.1 j j6
      obtain ⟨a0, a1, a2, a3, a4, a5, a6, a7, a8, a9, a10, a11⟩ := id hB
      refine g_iload_n (q := 18) dX11_queue_17 rfl rfl ?_
      refine g_aload_n (q := 19) dX11_queue_18 rfl rfl ?_
      refine g_getR (q := 22) f_X11_13 (by assumption) rfl dX11_queue_19 rfl ?_
      refine g_iload_n (q := 23) dX11_queue_22 rfl rfl ?_
      refine c_Si (q := 26) (p_X11_atBuffer (b := j)) k_X11_54 (by decide) rfl rfl (Nat.le_of_ble_eq_true rfl) rfl rfl dX11_queue_23 rfl ?_
      rintro z0 w1 ⟨hz0, hw1⟩
      subst w1
      subst z0
      refine g_bipush (q := 28) (x := 7) dX11_queue_26 (by decide) rfl ?_
      refine g_iadd (q := 29) dX11_queue_28 rfl ?_
      refine g_iald (q := 30) (by assumption) (by first | (simp only [gn_lit, nI_add, pk_mul]; exact rfl) | exact rfl) (by omega) (by decide) dX11_queue_29 rfl ?_
      refine g_icmpge (t := 50) (q := 33) dX11_queue_30 (by decide) rfl (fun hq30 => ?_) (fun hq30 => ?_)
      · rw [a7] at hq30
        refine g_iconst (q := 51) (x := (-1)) dX11_queue_50 (by decide) rfl ?_
        refine r_i dX11_queue_51 rfl rfl rfl ?_
        refine ⟨⟨fun _ => ⟨?_, hG⟩, fun h => absurd hcd h⟩, fm.rf _ _⟩
        rw [ej]
        first | (unfold l_at; rw [if_neg (Int32.not_lt.mpr hq9), if_pos hq30]; done) | (rw [l_at_n hi (by omega)]; exact a8 i hi)
      · rw [a7] at hq30
        obtain ⟨i, hi, rfl⟩ := gn_ix (n := (A.2 (10 + j)).length) (by omega) (Int32.not_lt.mpr hq9) hq30
        refine g_aload_n (q := 34) dX11_queue_33 rfl rfl ?_
        refine g_getR (q := 37) f_X11_13 (by assumption) rfl dX11_queue_34 rfl ?_
        refine g_iload_n (q := 38) dX11_queue_37 rfl rfl ?_
        refine c_Si (q := 41) (p_X11_atBuffer (b := j)) k_X11_54 (by decide) rfl rfl (Nat.le_of_ble_eq_true rfl) rfl rfl dX11_queue_38 rfl ?_
        rintro z0 w1 ⟨hz0, hw1⟩
        subst w1
        subst z0
        refine g_bipush (q := 43) (x := 8) dX11_queue_41 (by decide) rfl ?_
        refine g_iadd (q := 44) dX11_queue_43 rfl ?_
        refine g_iload_n (q := 45) dX11_queue_44 rfl rfl ?_
        refine g_iadd (q := 46) dX11_queue_45 rfl ?_
        refine g_iald (q := 47) (by assumption) (by first | (simp only [gn_lit, nI_add, pk_mul]; exact rfl) | exact rfl) (by omega) (by decide) dX11_queue_46 rfl ?_
        refine g_goto (q := 51) dX11_queue_47 (by decide) ?_
        refine r_i dX11_queue_51 rfl rfl rfl ?_
        refine ⟨⟨fun _ => ⟨?_, hG⟩, fun h => absurd hcd h⟩, fm.rf _ _⟩
        rw [ej]
        first | (unfold l_at; rw [if_neg (Int32.not_lt.mpr hq9), if_pos hq30]; done) | (rw [l_at_n hi (by omega)]; exact a8 i hi)
    · refine g_aload_n (q := 13) dX11_queue_12 rfl rfl ?_
      refine c_Vi (q := 16) (p_X11_bad hs hG) k_X11_130 (by assumption) rfl (by decide) rfl rfl (Nat.le_of_ble_eq_true rfl) rfl rfl dX11_queue_13 rfl ?_
      rintro z w1 ⟨hz1, hG1, E1⟩
      refine r_i dX11_queue_16 rfl rfl rfl ?_
      exact ⟨⟨fun h => absurd h (by intro h; first | exact hq5 h.1 | exact hq9 h.2), fun _ => ⟨hz1, hG1⟩⟩, E1⟩

set_option maxRecDepth 100000 in
set_option maxHeartbeats 4000000 in
theorem p_X11_item {X : gj_X} {lim : Nat} {σ : gj_H} {v : gj_V} {m : Nat} {A : aS} {t : Int32} {l : List (aS × Int32)} {tx : List Int32} {c : Nat → Int32} {n sn : Nat} (hs : msh σ m) (hG : MG v m A t l tx c) (hI : IV A n sn) {b k : Int32} : gj_E X 6 m_X11_item [.ref m, .int b, .int k] lim σ v (q_i lim σ (fun z v' => sp_rd A t l tx c (a_has A b ∧ 0 ≤ k) (l_at (A.2 (iN b)) k) z (MG v' m) ∧ fm v v' m)) := by
  obtain ⟨so, s1, s2, s3, s4, s5, s6, s7, s8, s9, s10, s11, s12⟩ := id hs
  have hn6 := hI.2.1.2.2.2.1
  have hn1 := hI.2.1.2.2.1
  have hsn6 := hI.2.1.2.2.2.2.1
  have esn : sno A = sn := sn_eq hI
  have hM0 := hG.1
  refine gj_E_at (L := [some (.ref m), some (.int b), some (.int k)]) (k := 0) rfl (by decide) rfl ?_
  refine g_aload_n (q := 1) dX11_item_0 rfl rfl ?_
  refine g_iload_n (q := 2) dX11_item_1 rfl rfl ?_
  refine c_Vi (q := 5) (p_X11_isBuffer hs hG.1 hI.2.1.1 hn6) k_X11_136 (by assumption) rfl (by decide) rfl rfl (Nat.le_of_ble_eq_true rfl) rfl rfl dX11_item_2 rfl ?_
  rintro z w1 ⟨rfl, hw1⟩
  subst w1
  refine g_ifeq (t := 12) (q := 8) dX11_item_5 (by decide) rfl (fun hq5 => ?_) (fun hq5 => ?_)
  · have hq5 := gn_b0 hq5
    refine g_aload_n (q := 13) dX11_item_12 rfl rfl ?_
    refine c_Vi (q := 16) (p_X11_bad hs hG) k_X11_130 (by assumption) rfl (by decide) rfl rfl (Nat.le_of_ble_eq_true rfl) rfl rfl dX11_item_13 rfl ?_
    rintro z w1 ⟨hz1, hG1, E1⟩
    refine r_i dX11_item_16 rfl rfl rfl ?_
    exact ⟨⟨fun h => absurd h (by intro h; first | exact hq5 h.1 | exact hq9 h.2), fun _ => ⟨hz1, hG1⟩⟩, E1⟩
  · have hq5 := gn_b1 hq5
    refine g_iload_n (q := 9) dX11_item_8 rfl rfl ?_
    refine g_ifge (t := 17) (q := 12) dX11_item_9 (by decide) rfl (fun hq9 => ?_) (fun hq9 => ?_)
    · have hcd : a_has A b ∧ 0 ≤ k := And.intro hq5 hq9
      obtain ⟨j, hj, rfl⟩ := a_has_of hI.2.1.1 (by omega) hq5
      have ej : iN (nI j) = j := iN_n (by omega)
      have j6 : j < 6 := by omega
      have hB := hM0.2.1 j j6
      obtain ⟨a0, a1, a2, a3, a4, a5, a6, a7, a8, a9, a10, a11⟩ := id hB
      refine g_iload_n (q := 18) dX11_item_17 rfl rfl ?_
      refine g_aload_n (q := 19) dX11_item_18 rfl rfl ?_
      refine g_getR (q := 22) f_X11_13 (by assumption) rfl dX11_item_19 rfl ?_
      refine g_iload_n (q := 23) dX11_item_22 rfl rfl ?_
      refine c_Si (q := 26) (p_X11_atBuffer (b := j)) k_X11_54 (by decide) rfl rfl (Nat.le_of_ble_eq_true rfl) rfl rfl dX11_item_23 rfl ?_
      rintro z0 w1 ⟨hz0, hw1⟩
      subst w1
      subst z0
      refine g_iconst (q := 27) (x := 0) dX11_item_26 (by decide) rfl ?_
      refine g_iadd (q := 28) dX11_item_27 rfl ?_
      refine g_iald (q := 29) (by assumption) (by first | (simp only [gn_lit, nI_add, pk_mul]; exact rfl) | exact rfl) (by omega) (by decide) dX11_item_28 rfl ?_
      refine g_icmpge (t := 49) (q := 32) dX11_item_29 (by decide) rfl (fun hq29 => ?_) (fun hq29 => ?_)
      · rw [a0] at hq29
        refine g_iconst (q := 50) (x := (-1)) dX11_item_49 (by decide) rfl ?_
        refine r_i dX11_item_50 rfl rfl rfl ?_
        refine ⟨⟨fun _ => ⟨?_, hG⟩, fun h => absurd hcd h⟩, fm.rf _ _⟩
        rw [ej]
        first | (unfold l_at; rw [if_neg (Int32.not_lt.mpr hq9), if_pos hq29]; done) | (rw [l_at_n hi (by omega)]; exact a9 i hi)
      · rw [a0] at hq29
        obtain ⟨i, hi, rfl⟩ := gn_ix (n := (A.2 j).length) (by omega) (Int32.not_lt.mpr hq9) hq29
        refine g_aload_n (q := 33) dX11_item_32 rfl rfl ?_
        refine g_getR (q := 36) f_X11_13 (by assumption) rfl dX11_item_33 rfl ?_
        refine g_iload_n (q := 37) dX11_item_36 rfl rfl ?_
        refine c_Si (q := 40) (p_X11_atBuffer (b := j)) k_X11_54 (by decide) rfl rfl (Nat.le_of_ble_eq_true rfl) rfl rfl dX11_item_37 rfl ?_
        rintro z0 w1 ⟨hz0, hw1⟩
        subst w1
        subst z0
        refine g_bipush (q := 42) (x := 14) dX11_item_40 (by decide) rfl ?_
        refine g_iadd (q := 43) dX11_item_42 rfl ?_
        refine g_iload_n (q := 44) dX11_item_43 rfl rfl ?_
        refine g_iadd (q := 45) dX11_item_44 rfl ?_
        refine g_iald (q := 46) (by assumption) (by first | (simp only [gn_lit, nI_add, pk_mul]; exact rfl) | exact rfl) (by omega) (by decide) dX11_item_45 rfl ?_
        refine g_goto (q := 50) dX11_item_46 (by decide) ?_
        refine r_i dX11_item_50 rfl rfl rfl ?_
        refine ⟨⟨fun _ => ⟨?_, hG⟩, fun h => absurd hcd h⟩, fm.rf _ _⟩
        rw [ej]
        first | (unfold l_at; rw [if_neg (Int32.not_lt.mpr hq9), if_pos hq29]; done) | (rw [l_at_n hi (by omega)]; exact a9 i hi)
    · refine g_aload_n (q := 13) dX11_item_12 rfl rfl ?_
      refine c_Vi (q := 16) (p_X11_bad hs hG) k_X11_130 (by assumption) rfl (by decide) rfl rfl (Nat.le_of_ble_eq_true rfl) rfl rfl dX11_item_13 rfl ?_
      rintro z w1 ⟨hz1, hG1, E1⟩
      refine r_i dX11_item_16 rfl rfl rfl ?_
      exact ⟨⟨fun h => absurd h (by intro h; first | exact hq5 h.1 | exact hq9 h.2), fun _ => ⟨hz1, hG1⟩⟩, E1⟩

set_option maxRecDepth 100000 in
set_option maxHeartbeats 4000000 in
theorem p_X11_line {X : gj_X} {lim : Nat} {σ : gj_H} {v : gj_V} {m : Nat} {A : aS} {t : Int32} {l : List (aS × Int32)} {tx : List Int32} {c : Nat → Int32} {n sn : Nat} (hs : msh σ m) (hG : MG v m A t l tx c) (hI : IV A n sn) {k : Int32} : gj_E X 6 m_X11_line [.ref m, .int k] lim σ v (q_i lim σ (fun z v' => sp_rd A t l tx c (0 ≤ k) (l_at (A.2 20) k) z (MG v' m) ∧ fm v v' m)) := by
  obtain ⟨so, s1, s2, s3, s4, s5, s6, s7, s8, s9, s10, s11, s12⟩ := id hs
  have hn6 := hI.2.1.2.2.2.1
  have hn1 := hI.2.1.2.2.1
  have hsn6 := hI.2.1.2.2.2.2.1
  have esn : sno A = sn := sn_eq hI
  have hM0 := hG.1
  refine gj_E_at (L := [some (.ref m), some (.int k)]) (k := 0) rfl (by decide) rfl ?_
  refine g_iload_n (q := 1) dX11_line_0 rfl rfl ?_
  refine g_ifge (t := 9) (q := 4) dX11_line_1 (by decide) rfl (fun hq1 => ?_) (fun hq1 => ?_)
  · have m6 := hM0.1.2.2.2.2.2.2
    refine g_iload_n (q := 10) dX11_line_9 rfl rfl ?_
    refine g_aload_n (q := 11) dX11_line_10 rfl rfl ?_
    refine g_getR (q := 14) f_X11_13 (by assumption) rfl dX11_line_11 rfl ?_
    refine g_iconst (q := 15) (x := 4) dX11_line_14 (by decide) rfl ?_
    refine g_iald (q := 16) (by assumption) (show (4 : Int32) = nI 4 from rfl) (by omega) (by decide) dX11_line_15 rfl ?_
    refine g_icmpge (t := 32) (q := 19) dX11_line_16 (by decide) rfl (fun hq16 => ?_) (fun hq16 => ?_)
    · rw [hM0.1.2.2.2.2.1] at hq16
      refine g_iconst (q := 33) (x := (-1)) dX11_line_32 (by decide) rfl ?_
      refine r_i dX11_line_33 rfl rfl rfl ?_
      refine ⟨⟨fun _ => ⟨?_, hG⟩, fun h => absurd hq1 h⟩, fm.rf _ _⟩
      first | (unfold l_at; rw [if_neg (Int32.not_lt.mpr hq1), if_pos hq16]; done) | (rw [l_at_n hi (by omega)]; exact hM0.1.2.2.2.2.2.1 i hi)
    · rw [hM0.1.2.2.2.2.1] at hq16
      obtain ⟨i, hi, rfl⟩ := gn_ix (n := (A.2 20).length) (by omega) (Int32.not_lt.mpr hq1) hq16
      refine g_aload_n (q := 20) dX11_line_19 rfl rfl ?_
      refine g_getR (q := 23) f_X11_13 (by assumption) rfl dX11_line_20 rfl ?_
      refine g_sipush (q := 26) (x := 300) dX11_line_23 (by decide) rfl ?_
      refine g_iload_n (q := 27) dX11_line_26 rfl rfl ?_
      refine g_iadd (q := 28) dX11_line_27 rfl ?_
      refine g_iald (q := 29) (by assumption) (show 300 + nI i = nI (300 + i) by simp only [gn_lit, nI_add, pk_mul]) (by omega) (by decide) dX11_line_28 rfl ?_
      refine g_goto (q := 33) dX11_line_29 (by decide) ?_
      refine r_i dX11_line_33 rfl rfl rfl ?_
      refine ⟨⟨fun _ => ⟨?_, hG⟩, fun h => absurd hq1 h⟩, fm.rf _ _⟩
      first | (unfold l_at; rw [if_neg (Int32.not_lt.mpr hq1), if_pos hq16]; done) | (rw [l_at_n hi (by omega)]; exact hM0.1.2.2.2.2.2.1 i hi)
  · refine g_aload_n (q := 5) dX11_line_4 rfl rfl ?_
    refine c_Vi (q := 8) (p_X11_bad hs hG) k_X11_130 (by assumption) rfl (by decide) rfl rfl (Nat.le_of_ble_eq_true rfl) rfl rfl dX11_line_5 rfl ?_
    rintro z w1 ⟨hz1, hG1, E1⟩
    refine r_i dX11_line_8 rfl rfl rfl ?_
    exact ⟨⟨fun h => absurd h (by intro h; first | exact hq1 h), fun _ => ⟨hz1, hG1⟩⟩, E1⟩

set_option maxRecDepth 100000 in
set_option maxHeartbeats 4000000 in
theorem p_X11_ofBuffer {X : gj_X} {lim : Nat} {σ : gj_H} {v : gj_V} {m sn : Nat} {A : aS} {t : Int32} (hs : msh σ m) (hM : MR (v (m + 2)) A t sn) {j k : Nat} (j6 : j < 6) (hk : k < 8) : gj_E X 1 m_X11_ofBuffer [.ref m, .int (nI j), .int (nI k)] lim σ v (q_i lim σ (fun z v' => z = b_told (gB A j) k ∧ v' = v)) := by
  obtain ⟨so, s1, s2, s3, s4, s5, s6, s7, s8, s9, s10, s11, s12⟩ := id hs
  obtain ⟨a0, a1, a2, a3, a4, a5, a6, a7, a8, a9, a10, a11⟩ := hM.2.1 j j6
  rcases (show k = 0 ∨ k = 1 ∨ k = 2 ∨ k = 3 ∨ k = 4 ∨ k = 5 ∨ k = 6 ∨ k = 7 by omega) with rfl | rfl | rfl | rfl | rfl | rfl | rfl | rfl
  · refine gj_E_at (L := [some (.ref m), some (.int (nI j)), some (.int (nI 0))]) (k := 0) rfl (by decide) rfl ?_
    refine g_iload_n (q := 1) dX11_ofBuffer_0 rfl rfl ?_
    refine g_tableOut (t := 64) dX11_ofBuffer_1 (by decide) (by decide) ?_
    refine g_aload_n (q := 65) dX11_ofBuffer_64 rfl rfl ?_
    refine g_getR (q := 68) f_X11_13 (by assumption) rfl dX11_ofBuffer_65 rfl ?_
    refine g_iload_n (q := 69) dX11_ofBuffer_68 rfl rfl ?_
    refine c_Si (q := 72) (p_X11_atBuffer (b := j)) k_X11_54 (by decide) rfl rfl (Nat.le_of_ble_eq_true rfl) rfl rfl dX11_ofBuffer_69 rfl ?_
    rintro z0 w1 ⟨hz0, hw1⟩
    subst w1
    subst z0
    refine g_iload_n (q := 73) dX11_ofBuffer_72 rfl rfl ?_
    refine g_iadd (q := 74) dX11_ofBuffer_73 rfl ?_
    refine g_iald (q := 75) (by assumption) (show nI (10 + 24 * j) + nI 0 = nI (10 + 24 * j + 0) by simp only [nI_add]) (by omega) (by decide) dX11_ofBuffer_74 rfl ?_
    refine r_i dX11_ofBuffer_75 rfl rfl rfl ?_
    exact ⟨a0, rfl⟩
  · refine gj_E_at (L := [some (.ref m), some (.int (nI j)), some (.int (nI 1))]) (k := 0) rfl (by decide) rfl ?_
    refine g_iload_n (q := 1) dX11_ofBuffer_0 rfl rfl ?_
    refine g_tableOut (t := 64) dX11_ofBuffer_1 (by decide) (by decide) ?_
    refine g_aload_n (q := 65) dX11_ofBuffer_64 rfl rfl ?_
    refine g_getR (q := 68) f_X11_13 (by assumption) rfl dX11_ofBuffer_65 rfl ?_
    refine g_iload_n (q := 69) dX11_ofBuffer_68 rfl rfl ?_
    refine c_Si (q := 72) (p_X11_atBuffer (b := j)) k_X11_54 (by decide) rfl rfl (Nat.le_of_ble_eq_true rfl) rfl rfl dX11_ofBuffer_69 rfl ?_
    rintro z0 w1 ⟨hz0, hw1⟩
    subst w1
    subst z0
    refine g_iload_n (q := 73) dX11_ofBuffer_72 rfl rfl ?_
    refine g_iadd (q := 74) dX11_ofBuffer_73 rfl ?_
    refine g_iald (q := 75) (by assumption) (show nI (10 + 24 * j) + nI 1 = nI (10 + 24 * j + 1) by simp only [nI_add]) (by omega) (by decide) dX11_ofBuffer_74 rfl ?_
    refine r_i dX11_ofBuffer_75 rfl rfl rfl ?_
    exact ⟨a1, rfl⟩
  · refine gj_E_at (L := [some (.ref m), some (.int (nI j)), some (.int (nI 2))]) (k := 0) rfl (by decide) rfl ?_
    refine g_iload_n (q := 1) dX11_ofBuffer_0 rfl rfl ?_
    refine g_tableOut (t := 64) dX11_ofBuffer_1 (by decide) (by decide) ?_
    refine g_aload_n (q := 65) dX11_ofBuffer_64 rfl rfl ?_
    refine g_getR (q := 68) f_X11_13 (by assumption) rfl dX11_ofBuffer_65 rfl ?_
    refine g_iload_n (q := 69) dX11_ofBuffer_68 rfl rfl ?_
    refine c_Si (q := 72) (p_X11_atBuffer (b := j)) k_X11_54 (by decide) rfl rfl (Nat.le_of_ble_eq_true rfl) rfl rfl dX11_ofBuffer_69 rfl ?_
    rintro z0 w1 ⟨hz0, hw1⟩
    subst w1
    subst z0
    refine g_iload_n (q := 73) dX11_ofBuffer_72 rfl rfl ?_
    refine g_iadd (q := 74) dX11_ofBuffer_73 rfl ?_
    refine g_iald (q := 75) (by assumption) (show nI (10 + 24 * j) + nI 2 = nI (10 + 24 * j + 2) by simp only [nI_add]) (by omega) (by decide) dX11_ofBuffer_74 rfl ?_
    refine r_i dX11_ofBuffer_75 rfl rfl rfl ?_
    exact ⟨a2, rfl⟩
  · refine gj_E_at (L := [some (.ref m), some (.int (nI j)), some (.int (nI 3))]) (k := 0) rfl (by decide) rfl ?_
    refine g_iload_n (q := 1) dX11_ofBuffer_0 rfl rfl ?_
    refine g_tableOut (t := 64) dX11_ofBuffer_1 (by decide) (by decide) ?_
    refine g_aload_n (q := 65) dX11_ofBuffer_64 rfl rfl ?_
    refine g_getR (q := 68) f_X11_13 (by assumption) rfl dX11_ofBuffer_65 rfl ?_
    refine g_iload_n (q := 69) dX11_ofBuffer_68 rfl rfl ?_
    refine c_Si (q := 72) (p_X11_atBuffer (b := j)) k_X11_54 (by decide) rfl rfl (Nat.le_of_ble_eq_true rfl) rfl rfl dX11_ofBuffer_69 rfl ?_
    rintro z0 w1 ⟨hz0, hw1⟩
    subst w1
    subst z0
    refine g_iload_n (q := 73) dX11_ofBuffer_72 rfl rfl ?_
    refine g_iadd (q := 74) dX11_ofBuffer_73 rfl ?_
    refine g_iald (q := 75) (by assumption) (show nI (10 + 24 * j) + nI 3 = nI (10 + 24 * j + 3) by simp only [nI_add]) (by omega) (by decide) dX11_ofBuffer_74 rfl ?_
    refine r_i dX11_ofBuffer_75 rfl rfl rfl ?_
    exact ⟨a3, rfl⟩
  · refine gj_E_at (L := [some (.ref m), some (.int (nI j)), some (.int (nI 4))]) (k := 0) rfl (by decide) rfl ?_
    refine g_iload_n (q := 1) dX11_ofBuffer_0 rfl rfl ?_
    refine g_tableOut (t := 64) dX11_ofBuffer_1 (by decide) (by decide) ?_
    refine g_aload_n (q := 65) dX11_ofBuffer_64 rfl rfl ?_
    refine g_getR (q := 68) f_X11_13 (by assumption) rfl dX11_ofBuffer_65 rfl ?_
    refine g_iload_n (q := 69) dX11_ofBuffer_68 rfl rfl ?_
    refine c_Si (q := 72) (p_X11_atBuffer (b := j)) k_X11_54 (by decide) rfl rfl (Nat.le_of_ble_eq_true rfl) rfl rfl dX11_ofBuffer_69 rfl ?_
    rintro z0 w1 ⟨hz0, hw1⟩
    subst w1
    subst z0
    refine g_iload_n (q := 73) dX11_ofBuffer_72 rfl rfl ?_
    refine g_iadd (q := 74) dX11_ofBuffer_73 rfl ?_
    refine g_iald (q := 75) (by assumption) (show nI (10 + 24 * j) + nI 4 = nI (10 + 24 * j + 4) by simp only [nI_add]) (by omega) (by decide) dX11_ofBuffer_74 rfl ?_
    refine r_i dX11_ofBuffer_75 rfl rfl rfl ?_
    exact ⟨a4, rfl⟩
  · refine gj_E_at (L := [some (.ref m), some (.int (nI j)), some (.int (nI 5))]) (k := 0) rfl (by decide) rfl ?_
    refine g_iload_n (q := 1) dX11_ofBuffer_0 rfl rfl ?_
    refine g_tableIn (t := 28) (o := 27) dX11_ofBuffer_1 (by decide) (by decide) (by decide) (by decide) ?_
    refine g_aload_n (q := 29) dX11_ofBuffer_28 rfl rfl ?_
    refine g_getR (q := 32) f_X11_13 (by assumption) rfl dX11_ofBuffer_29 rfl ?_
    refine g_iload_n (q := 33) dX11_ofBuffer_32 rfl rfl ?_
    refine c_Si (q := 36) (p_X11_gate (b := j)) k_X11_69 (by decide) rfl rfl (Nat.le_of_ble_eq_true rfl) rfl rfl dX11_ofBuffer_33 rfl ?_
    rintro z0 w1 ⟨hz0, hw1⟩
    subst w1
    subst z0
    refine g_iconst (q := 37) (x := 0) dX11_ofBuffer_36 (by decide) rfl ?_
    refine g_iadd (q := 38) dX11_ofBuffer_37 rfl ?_
    refine g_iald (q := 39) (by assumption) (by first | (simp only [gn_lit, nI_add, pk_mul]; exact rfl) | exact rfl) (by omega) (by decide) dX11_ofBuffer_38 rfl ?_
    refine r_i dX11_ofBuffer_39 rfl rfl rfl ?_
    exact ⟨hM.2.2.1 j (by omega) 0 (by omega), rfl⟩
  · refine gj_E_at (L := [some (.ref m), some (.int (nI j)), some (.int (nI 6))]) (k := 0) rfl (by decide) rfl ?_
    refine g_iload_n (q := 1) dX11_ofBuffer_0 rfl rfl ?_
    refine g_tableIn (t := 40) (o := 39) dX11_ofBuffer_1 (by decide) (by decide) (by decide) (by decide) ?_
    refine g_aload_n (q := 41) dX11_ofBuffer_40 rfl rfl ?_
    refine g_getR (q := 44) f_X11_13 (by assumption) rfl dX11_ofBuffer_41 rfl ?_
    refine g_iload_n (q := 45) dX11_ofBuffer_44 rfl rfl ?_
    refine c_Si (q := 48) (p_X11_gate (b := j)) k_X11_69 (by decide) rfl rfl (Nat.le_of_ble_eq_true rfl) rfl rfl dX11_ofBuffer_45 rfl ?_
    rintro z0 w1 ⟨hz0, hw1⟩
    subst w1
    subst z0
    refine g_iconst (q := 49) (x := 3) dX11_ofBuffer_48 (by decide) rfl ?_
    refine g_iadd (q := 50) dX11_ofBuffer_49 rfl ?_
    refine g_iald (q := 51) (by assumption) (by first | (simp only [gn_lit, nI_add, pk_mul]; exact rfl) | exact rfl) (by omega) (by decide) dX11_ofBuffer_50 rfl ?_
    refine r_i dX11_ofBuffer_51 rfl rfl rfl ?_
    exact ⟨hM.2.2.1 j (by omega) 3 (by omega), rfl⟩
  · refine gj_E_at (L := [some (.ref m), some (.int (nI j)), some (.int (nI 7))]) (k := 0) rfl (by decide) rfl ?_
    refine g_iload_n (q := 1) dX11_ofBuffer_0 rfl rfl ?_
    refine g_tableIn (t := 52) (o := 51) dX11_ofBuffer_1 (by decide) (by decide) (by decide) (by decide) ?_
    refine g_aload_n (q := 53) dX11_ofBuffer_52 rfl rfl ?_
    refine g_getR (q := 56) f_X11_13 (by assumption) rfl dX11_ofBuffer_53 rfl ?_
    refine g_iload_n (q := 57) dX11_ofBuffer_56 rfl rfl ?_
    refine c_Si (q := 60) (p_X11_gate (b := j)) k_X11_69 (by decide) rfl rfl (Nat.le_of_ble_eq_true rfl) rfl rfl dX11_ofBuffer_57 rfl ?_
    rintro z0 w1 ⟨hz0, hw1⟩
    subst w1
    subst z0
    refine g_iconst (q := 61) (x := 2) dX11_ofBuffer_60 (by decide) rfl ?_
    refine g_iadd (q := 62) dX11_ofBuffer_61 rfl ?_
    refine g_iald (q := 63) (by assumption) (by first | (simp only [gn_lit, nI_add, pk_mul]; exact rfl) | exact rfl) (by omega) (by decide) dX11_ofBuffer_62 rfl ?_
    refine r_i dX11_ofBuffer_63 rfl rfl rfl ?_
    exact ⟨hM.2.2.1 j (by omega) 2 (by omega), rfl⟩


set_option maxRecDepth 100000 in
set_option maxHeartbeats 4000000 in
theorem p_X11_buffer {X : gj_X} {lim : Nat} {σ : gj_H} {v : gj_V} {m : Nat} {A : aS} {t : Int32} {l : List (aS × Int32)} {tx : List Int32} {c : Nat → Int32} {n sn : Nat} (hs : msh σ m) (hG : MG v m A t l tx c) (hI : IV A n sn) {b k : Int32} : gj_E X 6 m_X11_buffer [.ref m, .int b, .int k] lim σ v (q_i lim σ (fun z v' => sp_rd A t l tx c (a_has A b ∧ in_ k 0 7) (b_told (gB A (iN b)) (iN k)) z (MG v' m) ∧ fm v v' m)) := by
  obtain ⟨so, s1, s2, s3, s4, s5, s6, s7, s8, s9, s10, s11, s12⟩ := id hs
  have hn6 := hI.2.1.2.2.2.1
  have hn1 := hI.2.1.2.2.1
  have hsn6 := hI.2.1.2.2.2.2.1
  have esn : sno A = sn := sn_eq hI
  have hM0 := hG.1
  refine gj_E_at (L := [some (.ref m), some (.int b), some (.int k)]) (k := 0) rfl (by decide) rfl ?_
  refine g_aload_n (q := 1) dX11_buffer_0 rfl rfl ?_
  refine g_iload_n (q := 2) dX11_buffer_1 rfl rfl ?_
  refine c_Vi (q := 5) (p_X11_isBuffer hs hG.1 hI.2.1.1 hn6) k_X11_136 (by assumption) rfl (by decide) rfl rfl (Nat.le_of_ble_eq_true rfl) rfl rfl dX11_buffer_2 rfl ?_
  rintro z w1 ⟨rfl, hw1⟩
  subst w1
  refine g_ifeq (t := 27) (q := 8) dX11_buffer_5 (by decide) rfl (fun hq5 => ?_) (fun hq5 => ?_)
  · have hq5 := gn_b0 hq5
    refine g_aload_n (q := 28) dX11_buffer_27 rfl rfl ?_
    refine c_Vi (q := 31) (p_X11_bad hs hG) k_X11_130 (by assumption) rfl (by decide) rfl rfl (Nat.le_of_ble_eq_true rfl) rfl rfl dX11_buffer_28 rfl ?_
    rintro z w1 ⟨hz1, hG1, E1⟩
    refine r_i dX11_buffer_31 rfl rfl rfl ?_
    first | exact ⟨⟨fun _ => ⟨hy1, hG⟩, fun h => absurd hcd h⟩, fm.rf _ _⟩ | exact ⟨⟨fun h => absurd h (by intro h; first | exact hq5 h.1 | exact hq15 h.2), fun _ => ⟨hz1, hG1⟩⟩, E1⟩
  · have hq5 := gn_b1 hq5
    refine g_iload_n (q := 9) dX11_buffer_8 rfl rfl ?_
    refine g_iconst (q := 10) (x := 0) dX11_buffer_9 (by decide) rfl ?_
    refine g_bipush (q := 12) (x := 7) dX11_buffer_10 (by decide) rfl ?_
    refine c_Si (q := 15) p_X11_in k_X11_50 (by decide) rfl rfl (Nat.le_of_ble_eq_true rfl) rfl rfl dX11_buffer_12 rfl ?_
    rintro z w1 ⟨rfl, hw1⟩
    subst w1
    refine g_ifeq (t := 27) (q := 18) dX11_buffer_15 (by decide) rfl (fun hq15 => ?_) (fun hq15 => ?_)
    · have hq15 := gn_b0 hq15
      refine g_aload_n (q := 28) dX11_buffer_27 rfl rfl ?_
      refine c_Vi (q := 31) (p_X11_bad hs hG) k_X11_130 (by assumption) rfl (by decide) rfl rfl (Nat.le_of_ble_eq_true rfl) rfl rfl dX11_buffer_28 rfl ?_
      rintro z w1 ⟨hz1, hG1, E1⟩
      refine r_i dX11_buffer_31 rfl rfl rfl ?_
      first | exact ⟨⟨fun _ => ⟨hy1, hG⟩, fun h => absurd hcd h⟩, fm.rf _ _⟩ | exact ⟨⟨fun h => absurd h (by intro h; first | exact hq5 h.1 | exact hq15 h.2), fun _ => ⟨hz1, hG1⟩⟩, E1⟩
    · have hq15 := gn_b1 hq15
      have hcd := And.intro hq5 hq15
      obtain ⟨j, hj, rfl⟩ := a_has_of hI.2.1.1 (by omega) hq5
      have ej : iN (nI j) = j := iN_n (by omega)
      have j6 : j < 6 := by omega
      obtain ⟨k0, hk0, rfl⟩ := gn_0k (n := 7) (m := 7) (by decide) hq15
      have ek : iN (nI k0) = k0 := iN_n (by omega)
      refine g_aload_n (q := 19) dX11_buffer_18 rfl rfl ?_
      refine g_iload_n (q := 20) dX11_buffer_19 rfl rfl ?_
      refine g_iload_n (q := 21) dX11_buffer_20 rfl rfl ?_
      refine c_Vi (q := 24) (p_X11_ofBuffer hs hM0 (k := k0) j6 (by omega)) k_X11_174 (by assumption) rfl (by decide) rfl rfl (Nat.le_of_ble_eq_true rfl) rfl rfl dX11_buffer_21 rfl ?_
      rintro y w1 ⟨hy1, hw1⟩
      subst w1
      rw [ej, ek]
      refine g_goto (q := 31) dX11_buffer_24 (by decide) ?_
      refine r_i dX11_buffer_31 rfl rfl rfl ?_
      first | exact ⟨⟨fun _ => ⟨hy1, hG⟩, fun h => absurd hcd h⟩, fm.rf _ _⟩ | exact ⟨⟨fun h => absurd h (by intro h; first | exact hq5 h.1 | exact hq15 h.2), fun _ => ⟨hz1, hG1⟩⟩, E1⟩

set_option maxRecDepth 100000 in
set_option maxHeartbeats 4000000 in
theorem p_X11_ofStation {X : gj_X} {lim : Nat} {σ : gj_H} {v : gj_V} {m sn : Nat} {A : aS} {t : Int32} (hs : msh σ m) (hM : MR (v (m + 2)) A t sn) {j k n : Nat} (hj : j < sn) (hv : ivs n (A.1 (20 + j))) (hk : k < 7) : gj_E X 1 m_X11_ofStation [.ref m, .int (nI j), .int (nI k)] lim σ v (q_i lim σ (fun z v' => z = as_told (A.1 (20 + j)) k ∧ v' = v)) := by
  obtain ⟨so, s1, s2, s3, s4, s5, s6, s7, s8, s9, s10, s11, s12⟩ := id hs
  have hs6 := hM.2.2.2.2.2.2
  obtain ⟨a, b, c, d⟩ := hM.2.2.2.1 j hj
  have hph := hv.2.2.2.2.2
  rcases (show k = 0 ∨ k = 1 ∨ k = 2 ∨ k = 3 ∨ k = 4 ∨ k = 5 ∨ k = 6 by omega) with rfl | rfl | rfl | rfl | rfl | rfl | rfl
  · refine gj_E_at (L := [some (.ref m), some (.int (nI j)), some (.int (nI 0)), none]) (k := 1) rfl (by decide) rfl ?_
    refine g_iload_n (q := 1) dX11_ofStation_0 rfl rfl ?_
    refine c_Si (q := 4) (p_X11_stationAt (b := j)) k_X11_121 (by decide) rfl rfl (Nat.le_of_ble_eq_true rfl) rfl rfl dX11_ofStation_1 rfl ?_
    rintro z0 w1 ⟨hz0, hw1⟩
    subst w1
    subst z0
    refine g_istore_n (q := 5) dX11_ofStation_4 rfl rfl rfl rfl ?_
    dsimp only [List.set]
    refine g_iload_n (q := 6) dX11_ofStation_5 rfl rfl ?_
    refine g_tableIn (t := 44) (o := 38) dX11_ofStation_6 (by decide) (by decide) (by decide) (by decide) ?_
    refine g_aload_n (q := 45) dX11_ofStation_44 rfl rfl ?_
    refine g_getR (q := 48) f_X11_13 (by assumption) rfl dX11_ofStation_45 rfl ?_
    refine g_iload_n (q := 49) dX11_ofStation_48 rfl rfl ?_
    refine g_bipush (q := 51) (x := 6) dX11_ofStation_49 (by decide) rfl ?_
    refine g_iadd (q := 52) dX11_ofStation_51 rfl ?_
    refine g_iald (q := 53) (by assumption) (by first | (simp only [gn_lit, nI_add, pk_mul]; exact rfl) | exact rfl) (by omega) (by decide) dX11_ofStation_52 rfl ?_
    refine r_i dX11_ofStation_53 rfl rfl rfl ?_
    exact ⟨a 6 (by omega), rfl⟩
  · refine gj_E_at (L := [some (.ref m), some (.int (nI j)), some (.int (nI 1)), none]) (k := 1) rfl (by decide) rfl ?_
    refine g_iload_n (q := 1) dX11_ofStation_0 rfl rfl ?_
    refine c_Si (q := 4) (p_X11_stationAt (b := j)) k_X11_121 (by decide) rfl rfl (Nat.le_of_ble_eq_true rfl) rfl rfl dX11_ofStation_1 rfl ?_
    rintro z0 w1 ⟨hz0, hw1⟩
    subst w1
    subst z0
    refine g_istore_n (q := 5) dX11_ofStation_4 rfl rfl rfl rfl ?_
    dsimp only [List.set]
    refine g_iload_n (q := 6) dX11_ofStation_5 rfl rfl ?_
    refine g_tableIn (t := 54) (o := 48) dX11_ofStation_6 (by decide) (by decide) (by decide) (by decide) ?_
    refine g_aload_n (q := 55) dX11_ofStation_54 rfl rfl ?_
    refine g_getR (q := 58) f_X11_13 (by assumption) rfl dX11_ofStation_55 rfl ?_
    refine g_iload_n (q := 59) dX11_ofStation_58 rfl rfl ?_
    refine g_bipush (q := 61) (x := 6) dX11_ofStation_59 (by decide) rfl ?_
    refine g_iadd (q := 62) dX11_ofStation_61 rfl ?_
    refine g_iald (q := 63) (by assumption) (by first | (simp only [gn_lit, nI_add, pk_mul]; exact rfl) | exact rfl) (by omega) (by decide) dX11_ofStation_62 rfl ?_
    rw [a 6 (by omega)]
    refine g_iconst (q := 64) (x := 1) dX11_ofStation_63 (by decide) rfl ?_
    refine g_icmpne (t := 79) (q := 67) dX11_ofStation_64 (by decide) rfl (fun hq64 => ?_) (fun hq64 => ?_)
    · refine g_iconst (q := 80) (x := 0) dX11_ofStation_79 (by decide) rfl ?_
      refine r_i dX11_ofStation_80 rfl rfl rfl ?_
      refine ⟨?_, rfl⟩
      first | exact b hq64 | (rcases hph with q | q | q; exact q.2.1.symm; exact absurd q.1 hq64; exact q.2.1.symm)
    · refine g_aload_n (q := 68) dX11_ofStation_67 rfl rfl ?_
      refine g_getR (q := 71) f_X11_13 (by assumption) rfl dX11_ofStation_68 rfl ?_
      refine g_iload_n (q := 72) dX11_ofStation_71 rfl rfl ?_
      refine g_bipush (q := 74) (x := 7) dX11_ofStation_72 (by decide) rfl ?_
      refine g_iadd (q := 75) dX11_ofStation_74 rfl ?_
      refine g_iald (q := 76) (by assumption) (by first | (simp only [gn_lit, nI_add, pk_mul]; exact rfl) | exact rfl) (by omega) (by decide) dX11_ofStation_75 rfl ?_
      refine g_goto (q := 80) dX11_ofStation_76 (by decide) ?_
      refine r_i dX11_ofStation_80 rfl rfl rfl ?_
      refine ⟨?_, rfl⟩
      first | exact b hq64 | (rcases hph with q | q | q; exact q.2.1.symm; exact absurd q.1 hq64; exact q.2.1.symm)
  · refine gj_E_at (L := [some (.ref m), some (.int (nI j)), some (.int (nI 2)), none]) (k := 1) rfl (by decide) rfl ?_
    refine g_iload_n (q := 1) dX11_ofStation_0 rfl rfl ?_
    refine c_Si (q := 4) (p_X11_stationAt (b := j)) k_X11_121 (by decide) rfl rfl (Nat.le_of_ble_eq_true rfl) rfl rfl dX11_ofStation_1 rfl ?_
    rintro z0 w1 ⟨hz0, hw1⟩
    subst w1
    subst z0
    refine g_istore_n (q := 5) dX11_ofStation_4 rfl rfl rfl rfl ?_
    dsimp only [List.set]
    refine g_iload_n (q := 6) dX11_ofStation_5 rfl rfl ?_
    refine g_tableIn (t := 81) (o := 75) dX11_ofStation_6 (by decide) (by decide) (by decide) (by decide) ?_
    refine g_aload_n (q := 82) dX11_ofStation_81 rfl rfl ?_
    refine g_getR (q := 85) f_X11_13 (by assumption) rfl dX11_ofStation_82 rfl ?_
    refine g_iload_n (q := 86) dX11_ofStation_85 rfl rfl ?_
    refine g_bipush (q := 88) (x := 6) dX11_ofStation_86 (by decide) rfl ?_
    refine g_iadd (q := 89) dX11_ofStation_88 rfl ?_
    refine g_iald (q := 90) (by assumption) (by first | (simp only [gn_lit, nI_add, pk_mul]; exact rfl) | exact rfl) (by omega) (by decide) dX11_ofStation_89 rfl ?_
    rw [a 6 (by omega)]
    refine g_ifne (t := 97) (q := 93) dX11_ofStation_90 (by decide) rfl (fun hq90 => ?_) (fun hq90 => ?_)
    · refine g_aload_n (q := 98) dX11_ofStation_97 rfl rfl ?_
      refine g_getR (q := 101) f_X11_13 (by assumption) rfl dX11_ofStation_98 rfl ?_
      refine g_iload_n (q := 102) dX11_ofStation_101 rfl rfl ?_
      refine g_bipush (q := 104) (x := 8) dX11_ofStation_102 (by decide) rfl ?_
      refine g_iadd (q := 105) dX11_ofStation_104 rfl ?_
      refine g_iald (q := 106) (by assumption) (by first | (simp only [gn_lit, nI_add, pk_mul]; exact rfl) | exact rfl) (by omega) (by decide) dX11_ofStation_105 rfl ?_
      refine r_i dX11_ofStation_106 rfl rfl rfl ?_
      refine ⟨?_, rfl⟩
      first | exact c hq90 | (rcases hph with q | q | q; exact q.2.2.symm; rw [q.1] at hq90; exact absurd hq90 (by decide); rw [q.1] at hq90; exact absurd hq90 (by decide))
    · refine g_iconst (q := 94) (x := (-1)) dX11_ofStation_93 (by decide) rfl ?_
      refine g_goto (q := 106) dX11_ofStation_94 (by decide) ?_
      refine r_i dX11_ofStation_106 rfl rfl rfl ?_
      refine ⟨?_, rfl⟩
      first | exact c hq90 | (rcases hph with q | q | q; exact q.2.2.symm; rw [q.1] at hq90; exact absurd hq90 (by decide); rw [q.1] at hq90; exact absurd hq90 (by decide))
  · refine gj_E_at (L := [some (.ref m), some (.int (nI j)), some (.int (nI 3)), none]) (k := 1) rfl (by decide) rfl ?_
    refine g_iload_n (q := 1) dX11_ofStation_0 rfl rfl ?_
    refine c_Si (q := 4) (p_X11_stationAt (b := j)) k_X11_121 (by decide) rfl rfl (Nat.le_of_ble_eq_true rfl) rfl rfl dX11_ofStation_1 rfl ?_
    rintro z0 w1 ⟨hz0, hw1⟩
    subst w1
    subst z0
    refine g_istore_n (q := 5) dX11_ofStation_4 rfl rfl rfl rfl ?_
    dsimp only [List.set]
    refine g_iload_n (q := 6) dX11_ofStation_5 rfl rfl ?_
    refine g_tableIn (t := 107) (o := 101) dX11_ofStation_6 (by decide) (by decide) (by decide) (by decide) ?_
    refine g_aload_n (q := 108) dX11_ofStation_107 rfl rfl ?_
    refine g_getR (q := 111) f_X11_13 (by assumption) rfl dX11_ofStation_108 rfl ?_
    refine g_iload_n (q := 112) dX11_ofStation_111 rfl rfl ?_
    refine g_bipush (q := 114) (x := 9) dX11_ofStation_112 (by decide) rfl ?_
    refine g_iadd (q := 115) dX11_ofStation_114 rfl ?_
    refine g_iald (q := 116) (by assumption) (by first | (simp only [gn_lit, nI_add, pk_mul]; exact rfl) | exact rfl) (by omega) (by decide) dX11_ofStation_115 rfl ?_
    refine r_i dX11_ofStation_116 rfl rfl rfl ?_
    exact ⟨d 9 (by omega) (by omega), rfl⟩
  · refine gj_E_at (L := [some (.ref m), some (.int (nI j)), some (.int (nI 4)), none]) (k := 1) rfl (by decide) rfl ?_
    refine g_iload_n (q := 1) dX11_ofStation_0 rfl rfl ?_
    refine c_Si (q := 4) (p_X11_stationAt (b := j)) k_X11_121 (by decide) rfl rfl (Nat.le_of_ble_eq_true rfl) rfl rfl dX11_ofStation_1 rfl ?_
    rintro z0 w1 ⟨hz0, hw1⟩
    subst w1
    subst z0
    refine g_istore_n (q := 5) dX11_ofStation_4 rfl rfl rfl rfl ?_
    dsimp only [List.set]
    refine g_iload_n (q := 6) dX11_ofStation_5 rfl rfl ?_
    refine g_tableIn (t := 117) (o := 111) dX11_ofStation_6 (by decide) (by decide) (by decide) (by decide) ?_
    refine g_aload_n (q := 118) dX11_ofStation_117 rfl rfl ?_
    refine g_getR (q := 121) f_X11_13 (by assumption) rfl dX11_ofStation_118 rfl ?_
    refine g_iload_n (q := 122) dX11_ofStation_121 rfl rfl ?_
    refine g_bipush (q := 124) (x := 10) dX11_ofStation_122 (by decide) rfl ?_
    refine g_iadd (q := 125) dX11_ofStation_124 rfl ?_
    refine g_iald (q := 126) (by assumption) (by first | (simp only [gn_lit, nI_add, pk_mul]; exact rfl) | exact rfl) (by omega) (by decide) dX11_ofStation_125 rfl ?_
    refine r_i dX11_ofStation_126 rfl rfl rfl ?_
    exact ⟨d 10 (by omega) (by omega), rfl⟩
  · refine gj_E_at (L := [some (.ref m), some (.int (nI j)), some (.int (nI 5)), none]) (k := 1) rfl (by decide) rfl ?_
    refine g_iload_n (q := 1) dX11_ofStation_0 rfl rfl ?_
    refine c_Si (q := 4) (p_X11_stationAt (b := j)) k_X11_121 (by decide) rfl rfl (Nat.le_of_ble_eq_true rfl) rfl rfl dX11_ofStation_1 rfl ?_
    rintro z0 w1 ⟨hz0, hw1⟩
    subst w1
    subst z0
    refine g_istore_n (q := 5) dX11_ofStation_4 rfl rfl rfl rfl ?_
    dsimp only [List.set]
    refine g_iload_n (q := 6) dX11_ofStation_5 rfl rfl ?_
    refine g_tableIn (t := 127) (o := 121) dX11_ofStation_6 (by decide) (by decide) (by decide) (by decide) ?_
    refine g_aload_n (q := 128) dX11_ofStation_127 rfl rfl ?_
    refine g_getR (q := 131) f_X11_13 (by assumption) rfl dX11_ofStation_128 rfl ?_
    refine g_iload_n (q := 132) dX11_ofStation_131 rfl rfl ?_
    refine g_bipush (q := 134) (x := 11) dX11_ofStation_132 (by decide) rfl ?_
    refine g_iadd (q := 135) dX11_ofStation_134 rfl ?_
    refine g_iald (q := 136) (by assumption) (by first | (simp only [gn_lit, nI_add, pk_mul]; exact rfl) | exact rfl) (by omega) (by decide) dX11_ofStation_135 rfl ?_
    refine r_i dX11_ofStation_136 rfl rfl rfl ?_
    exact ⟨d 11 (by omega) (by omega), rfl⟩
  · refine gj_E_at (L := [some (.ref m), some (.int (nI j)), some (.int (nI 6)), none]) (k := 1) rfl (by decide) rfl ?_
    refine g_iload_n (q := 1) dX11_ofStation_0 rfl rfl ?_
    refine c_Si (q := 4) (p_X11_stationAt (b := j)) k_X11_121 (by decide) rfl rfl (Nat.le_of_ble_eq_true rfl) rfl rfl dX11_ofStation_1 rfl ?_
    rintro z0 w1 ⟨hz0, hw1⟩
    subst w1
    subst z0
    refine g_istore_n (q := 5) dX11_ofStation_4 rfl rfl rfl rfl ?_
    dsimp only [List.set]
    refine g_iload_n (q := 6) dX11_ofStation_5 rfl rfl ?_
    refine g_tableOut (t := 137) dX11_ofStation_6 (by decide) (by decide) ?_
    refine g_aload_n (q := 138) dX11_ofStation_137 rfl rfl ?_
    refine g_getR (q := 141) f_X11_13 (by assumption) rfl dX11_ofStation_138 rfl ?_
    refine g_iload_n (q := 142) dX11_ofStation_141 rfl rfl ?_
    refine g_iconst (q := 143) (x := 5) dX11_ofStation_142 (by decide) rfl ?_
    refine g_iadd (q := 144) dX11_ofStation_143 rfl ?_
    refine g_iald (q := 145) (by assumption) (by first | (simp only [gn_lit, nI_add, pk_mul]; exact rfl) | exact rfl) (by omega) (by decide) dX11_ofStation_144 rfl ?_
    refine r_i dX11_ofStation_145 rfl rfl rfl ?_
    exact ⟨a 5 (by omega), rfl⟩


set_option maxRecDepth 100000 in
set_option maxHeartbeats 4000000 in
theorem p_X11_of {X : gj_X} {lim : Nat} {σ : gj_H} {v : gj_V} {m : Nat} {A : aS} {t : Int32} {l : List (aS × Int32)} {tx : List Int32} {c : Nat → Int32} {n sn : Nat} (hs : msh σ m) (hG : MG v m A t l tx c) (hI : IV A n sn) {s k : Int32} : gj_E X 6 m_X11_of [.ref m, .int s, .int k] lim σ v (q_i lim σ (fun z v' => sp_rd A t l tx c (a_hasS A s ∧ in_ k 0 6) (as_told (A.1 (20 + iN s)) (iN k)) z (MG v' m) ∧ fm v v' m)) := by
  obtain ⟨so, s1, s2, s3, s4, s5, s6, s7, s8, s9, s10, s11, s12⟩ := id hs
  have hn6 := hI.2.1.2.2.2.1
  have hn1 := hI.2.1.2.2.1
  have hsn6 := hI.2.1.2.2.2.2.1
  have esn : sno A = sn := sn_eq hI
  have hM0 := hG.1
  refine gj_E_at (L := [some (.ref m), some (.int s), some (.int k)]) (k := 0) rfl (by decide) rfl ?_
  refine g_aload_n (q := 1) dX11_of_0 rfl rfl ?_
  refine g_iload_n (q := 2) dX11_of_1 rfl rfl ?_
  refine c_Vi (q := 5) (p_X11_isStation hs hG.1 hI.2.1.2.1 hsn6) k_X11_143 (by assumption) rfl (by decide) rfl rfl (Nat.le_of_ble_eq_true rfl) rfl rfl dX11_of_2 rfl ?_
  rintro z w1 ⟨rfl, hw1⟩
  subst w1
  refine g_ifeq (t := 27) (q := 8) dX11_of_5 (by decide) rfl (fun hq5 => ?_) (fun hq5 => ?_)
  · have hq5 := gn_b0 hq5
    refine g_aload_n (q := 28) dX11_of_27 rfl rfl ?_
    refine c_Vi (q := 31) (p_X11_bad hs hG) k_X11_130 (by assumption) rfl (by decide) rfl rfl (Nat.le_of_ble_eq_true rfl) rfl rfl dX11_of_28 rfl ?_
    rintro z w1 ⟨hz1, hG1, E1⟩
    refine r_i dX11_of_31 rfl rfl rfl ?_
    first | exact ⟨⟨fun _ => ⟨hy1, hG⟩, fun h => absurd hcd h⟩, fm.rf _ _⟩ | exact ⟨⟨fun h => absurd h (by intro h; first | exact hq5 h.1 | exact hq15 h.2), fun _ => ⟨hz1, hG1⟩⟩, E1⟩
  · have hq5 := gn_b1 hq5
    refine g_iload_n (q := 9) dX11_of_8 rfl rfl ?_
    refine g_iconst (q := 10) (x := 0) dX11_of_9 (by decide) rfl ?_
    refine g_bipush (q := 12) (x := 6) dX11_of_10 (by decide) rfl ?_
    refine c_Si (q := 15) p_X11_in k_X11_50 (by decide) rfl rfl (Nat.le_of_ble_eq_true rfl) rfl rfl dX11_of_12 rfl ?_
    rintro z w1 ⟨rfl, hw1⟩
    subst w1
    refine g_ifeq (t := 27) (q := 18) dX11_of_15 (by decide) rfl (fun hq15 => ?_) (fun hq15 => ?_)
    · have hq15 := gn_b0 hq15
      refine g_aload_n (q := 28) dX11_of_27 rfl rfl ?_
      refine c_Vi (q := 31) (p_X11_bad hs hG) k_X11_130 (by assumption) rfl (by decide) rfl rfl (Nat.le_of_ble_eq_true rfl) rfl rfl dX11_of_28 rfl ?_
      rintro z w1 ⟨hz1, hG1, E1⟩
      refine r_i dX11_of_31 rfl rfl rfl ?_
      first | exact ⟨⟨fun _ => ⟨hy1, hG⟩, fun h => absurd hcd h⟩, fm.rf _ _⟩ | exact ⟨⟨fun h => absurd h (by intro h; first | exact hq5 h.1 | exact hq15 h.2), fun _ => ⟨hz1, hG1⟩⟩, E1⟩
    · have hq15 := gn_b1 hq15
      have hcd := And.intro hq5 hq15
      obtain ⟨j, hj, rfl⟩ := gn_ix (n := sn) (by omega) hq5.1 (by rw [← hI.2.1.2.1]; exact hq5.2)
      have j6 : j < 6 := by omega
      have ej : iN (nI j) = j := iN_n (by omega)
      have hjn : j < sno A := by rw [esn]; exact hj
      obtain ⟨k0, hk0, rfl⟩ := gn_0k (n := 6) (m := 6) (by decide) hq15
      have ek : iN (nI k0) = k0 := iN_n (by omega)
      refine g_aload_n (q := 19) dX11_of_18 rfl rfl ?_
      refine g_iload_n (q := 20) dX11_of_19 rfl rfl ?_
      refine g_iload_n (q := 21) dX11_of_20 rfl rfl ?_
      refine c_Vi (q := 24) (p_X11_ofStation hs hM0 (k := k0) hjn (hI.2.1.2.2.2.2.2 j hj) (by omega)) k_X11_177 (by assumption) rfl (by decide) rfl rfl (Nat.le_of_ble_eq_true rfl) rfl rfl dX11_of_21 rfl ?_
      rintro y w1 ⟨hy1, hw1⟩
      subst w1
      rw [ej, ek]
      refine g_goto (q := 31) dX11_of_24 (by decide) ?_
      refine r_i dX11_of_31 rfl rfl rfl ?_
      first | exact ⟨⟨fun _ => ⟨hy1, hG⟩, fun h => absurd hcd h⟩, fm.rf _ _⟩ | exact ⟨⟨fun h => absurd h (by intro h; first | exact hq5 h.1 | exact hq15 h.2), fun _ => ⟨hz1, hG1⟩⟩, E1⟩

set_option maxRecDepth 100000 in
set_option maxHeartbeats 4000000 in
theorem p_X11_worker {X : gj_X} {lim : Nat} {σ : gj_H} {v : gj_V} {m : Nat} {A : aS} {t : Int32} {l : List (aS × Int32)} {tx : List Int32} {c : Nat → Int32} {n sn : Nat} (hs : msh σ m) (hG : MG v m A t l tx c) (hI : IV A n sn) {w k : Int32} : gj_E X 6 m_X11_worker [.ref m, .int w, .int k] lim σ v (q_i lim σ (fun z v' => sp_rd A t l tx c (in_ w 0 5 ∧ in_ k 0 4) (aw_told (A.1 (30 + iN w)) (iN k)) z (MG v' m) ∧ fm v v' m)) := by
  obtain ⟨so, s1, s2, s3, s4, s5, s6, s7, s8, s9, s10, s11, s12⟩ := id hs
  have hn6 := hI.2.1.2.2.2.1
  have hn1 := hI.2.1.2.2.1
  have hsn6 := hI.2.1.2.2.2.2.1
  have esn : sno A = sn := sn_eq hI
  have hM0 := hG.1
  refine gj_E_at (L := [some (.ref m), some (.int w), some (.int k)]) (k := 0) rfl (by decide) rfl ?_
  refine g_iload_n (q := 1) dX11_worker_0 rfl rfl ?_
  refine c_Si (q := 4) p_X11_isWorker k_X11_162 (by decide) rfl rfl (Nat.le_of_ble_eq_true rfl) rfl rfl dX11_worker_1 rfl ?_
  rintro z w1 ⟨rfl, hw1⟩
  subst w1
  refine g_ifeq (t := 30) (q := 7) dX11_worker_4 (by decide) rfl (fun hq4 => ?_) (fun hq4 => ?_)
  · have hq4 := gn_b0 hq4
    refine g_aload_n (q := 31) dX11_worker_30 rfl rfl ?_
    refine c_Vi (q := 34) (p_X11_bad hs hG) k_X11_130 (by assumption) rfl (by decide) rfl rfl (Nat.le_of_ble_eq_true rfl) rfl rfl dX11_worker_31 rfl ?_
    rintro z w1 ⟨hz1, hG1, E1⟩
    refine r_i dX11_worker_34 rfl rfl rfl ?_
    first | exact ⟨⟨fun _ => ⟨hy1, hG⟩, fun h => absurd hcd h⟩, fm.rf _ _⟩ | exact ⟨⟨fun h => absurd h (by intro h; first | exact hq4 h.1 | exact hq13 h.2), fun _ => ⟨hz1, hG1⟩⟩, E1⟩
  · have hq4 := gn_b1 hq4
    refine g_iload_n (q := 8) dX11_worker_7 rfl rfl ?_
    refine g_iconst (q := 9) (x := 0) dX11_worker_8 (by decide) rfl ?_
    refine g_iconst (q := 10) (x := 4) dX11_worker_9 (by decide) rfl ?_
    refine c_Si (q := 13) p_X11_in k_X11_50 (by decide) rfl rfl (Nat.le_of_ble_eq_true rfl) rfl rfl dX11_worker_10 rfl ?_
    rintro z w1 ⟨rfl, hw1⟩
    subst w1
    refine g_ifeq (t := 30) (q := 16) dX11_worker_13 (by decide) rfl (fun hq13 => ?_) (fun hq13 => ?_)
    · have hq13 := gn_b0 hq13
      refine g_aload_n (q := 31) dX11_worker_30 rfl rfl ?_
      refine c_Vi (q := 34) (p_X11_bad hs hG) k_X11_130 (by assumption) rfl (by decide) rfl rfl (Nat.le_of_ble_eq_true rfl) rfl rfl dX11_worker_31 rfl ?_
      rintro z w1 ⟨hz1, hG1, E1⟩
      refine r_i dX11_worker_34 rfl rfl rfl ?_
      first | exact ⟨⟨fun _ => ⟨hy1, hG⟩, fun h => absurd hcd h⟩, fm.rf _ _⟩ | exact ⟨⟨fun h => absurd h (by intro h; first | exact hq4 h.1 | exact hq13 h.2), fun _ => ⟨hz1, hG1⟩⟩, E1⟩
    · have hq13 := gn_b1 hq13
      have hcd := And.intro hq4 hq13
      obtain ⟨j, j6, rfl⟩ := gn_05 hq4
      have ej : iN (nI j) = j := iN_n (by omega)
      obtain ⟨k0, hk0, rfl⟩ := gn_0k (n := 4) (m := 4) (by decide) hq13
      have ek : iN (nI k0) = k0 := iN_n (by omega)
      obtain ⟨b0, b1, b2, b3, b4⟩ := hM0.2.2.2.2.2.1 j j6
      have hy1 : v (m + 2) (270 + 5 * j + k0) = aw_told (A.1 (30 + iN (nI j))) (iN (nI k0)) := by
        rw [ej, ek]
        rcases (show k0 = 0 ∨ k0 = 1 ∨ k0 = 2 ∨ k0 = 3 ∨ k0 = 4 by omega) with rfl | rfl | rfl | rfl | rfl
        · exact b0
        · exact b1
        · exact b2
        · exact b3
        · exact b4
      refine g_aload_n (q := 17) dX11_worker_16 rfl rfl ?_
      refine g_getR (q := 20) f_X11_13 (by assumption) rfl dX11_worker_17 rfl ?_
      refine g_iload_n (q := 21) dX11_worker_20 rfl rfl ?_
      refine c_Si (q := 24) (p_X11_workerAt (b := j)) k_X11_58 (by decide) rfl rfl (Nat.le_of_ble_eq_true rfl) rfl rfl dX11_worker_21 rfl ?_
      rintro z0 w1 ⟨hz0, hw1⟩
      subst w1
      subst z0
      refine g_iload_n (q := 25) dX11_worker_24 rfl rfl ?_
      refine g_iadd (q := 26) dX11_worker_25 rfl ?_
      refine g_iald (q := 27) (by assumption) (show nI (270 + 5 * j) + nI k0 = nI (270 + 5 * j + k0) by simp only [nI_add]) (by omega) (by decide) dX11_worker_26 rfl ?_
      refine g_goto (q := 34) dX11_worker_27 (by decide) ?_
      refine r_i dX11_worker_34 rfl rfl rfl ?_
      first | exact ⟨⟨fun _ => ⟨hy1, hG⟩, fun h => absurd hcd h⟩, fm.rf _ _⟩ | exact ⟨⟨fun h => absurd h (by intro h; first | exact hq4 h.1 | exact hq13 h.2), fun _ => ⟨hz1, hG1⟩⟩, E1⟩

set_option maxRecDepth 100000 in
set_option maxHeartbeats 4000000 in
theorem p_X11_itemsOfAll {X : gj_X} {lim : Nat} {σ : gj_H} {v : gj_V} {m sn : Nat} {A : aS} {t : Int32} (hs : msh σ m) (hM : MR (v (m + 2)) A t sn) {n : Nat} (hn : A.1 40 5 = nI n) (hn6 : n ≤ 6) : gj_E X 1 m_X11_itemsOfAll [.ref m] lim σ v (q_i lim σ (fun z v' => z = a_its A n 0 0 ∧ v' = v)) := by
  obtain ⟨so, s1, s2, s3, s4, s5, s6, s7, s8, s9, s10, s11, s12⟩ := id hs
  have lp : ∀ (k i : Nat) (a : Int32), i + k = n → gj_G X 1 m_X11_itemsOfAll (q_i lim σ (fun z v' => z = a_its A k i a ∧ v' = v)) lim σ v 0 0 4 [some (.ref m), some (.int a), some (.int (nI i))] [] := by
    intro k
    induction k with
    | zero =>
      intro i a hk
      refine g_iload_n (q := 5) dX11_itemsOfAll_4 rfl rfl ?_
      refine g_aload_n (q := 6) dX11_itemsOfAll_5 rfl rfl ?_
      refine g_getR (q := 9) f_X11_13 (by assumption) rfl dX11_itemsOfAll_6 rfl ?_
      refine g_iconst (q := 10) (x := 0) dX11_itemsOfAll_9 (by decide) rfl ?_
      refine g_iald (q := 11) (by assumption) (show (0 : Int32) = nI 0 from rfl) (by omega) (by decide) dX11_itemsOfAll_10 rfl ?_
      refine g_icmpge (t := 34) (q := 14) dX11_itemsOfAll_11 (by decide) rfl (fun hq11 => ?_) (fun hq11 => ?_)
      · refine g_iload_n (q := 35) dX11_itemsOfAll_34 rfl rfl ?_
        refine r_i dX11_itemsOfAll_35 rfl rfl rfl ?_
        exact ⟨rfl, rfl⟩
      · rw [hM.1.1, hn] at hq11
        exact absurd (by rw [show i = n by omega]; exact Int32.le_refl _) hq11
    | succ k ih =>
      intro i a hk
      refine g_iload_n (q := 5) dX11_itemsOfAll_4 rfl rfl ?_
      refine g_aload_n (q := 6) dX11_itemsOfAll_5 rfl rfl ?_
      refine g_getR (q := 9) f_X11_13 (by assumption) rfl dX11_itemsOfAll_6 rfl ?_
      refine g_iconst (q := 10) (x := 0) dX11_itemsOfAll_9 (by decide) rfl ?_
      refine g_iald (q := 11) (by assumption) (show (0 : Int32) = nI 0 from rfl) (by omega) (by decide) dX11_itemsOfAll_10 rfl ?_
      refine g_icmpge (t := 34) (q := 14) dX11_itemsOfAll_11 (by decide) rfl (fun hq11 => ?_) (fun hq11 => ?_)
      · rw [hM.1.1, hn] at hq11
        exact absurd (gn_le hq11 (by omega)) (by omega)
      · refine g_iload_n (q := 15) dX11_itemsOfAll_14 rfl rfl ?_
        refine g_aload_n (q := 16) dX11_itemsOfAll_15 rfl rfl ?_
        refine g_getR (q := 19) f_X11_13 (by assumption) rfl dX11_itemsOfAll_16 rfl ?_
        refine g_iload_n (q := 20) dX11_itemsOfAll_19 rfl rfl ?_
        refine c_Si (q := 23) (p_X11_atBuffer (b := i)) k_X11_54 (by decide) rfl rfl (Nat.le_of_ble_eq_true rfl) rfl rfl dX11_itemsOfAll_20 rfl ?_
        rintro z0 w1 ⟨hz0, hw1⟩
        subst w1
        subst z0
        refine g_iconst (q := 24) (x := 0) dX11_itemsOfAll_23 (by decide) rfl ?_
        refine g_iadd (q := 25) dX11_itemsOfAll_24 rfl ?_
        refine g_iald (q := 26) (by assumption) (by first | (simp only [gn_lit, nI_add, pk_mul]; exact rfl) | exact rfl) (by omega) (by decide) dX11_itemsOfAll_25 rfl ?_
        rw [(hM.2.1 i (by omega)).1]
        refine g_iadd (q := 27) dX11_itemsOfAll_26 rfl ?_
        refine g_istore_n (q := 28) dX11_itemsOfAll_27 rfl rfl rfl rfl ?_
        dsimp only [List.set]
        refine g_iinc (q := 31) (y := nI (i + 1)) dX11_itemsOfAll_28 rfl (gn_inc i) rfl rfl rfl rfl ?_
        dsimp only [List.set]
        refine g_goto (q := 4) dX11_itemsOfAll_31 (by decide) ?_
        exact ih (i + 1) _ (by omega)
  refine gj_E_at (L := [some (.ref m), none, none]) (k := 2) rfl (by decide) rfl ?_
  refine g_iconst (q := 1) (x := 0) dX11_itemsOfAll_0 (by decide) rfl ?_
  refine g_istore_n (q := 2) dX11_itemsOfAll_1 rfl rfl rfl rfl ?_
  dsimp only [List.set]
  refine g_iconst (q := 3) (x := 0) dX11_itemsOfAll_2 (by decide) rfl ?_
  refine g_istore_n (q := 4) dX11_itemsOfAll_3 rfl rfl rfl rfl ?_
  dsimp only [List.set]
  exact lp n 0 0 (by omega)

theorem ens_x {A : aS} : ∀ (k b : Nat) (x : Int32), a_ens A k b x = x + a_ens A k b 0
  | 0, b, x => (Int32.add_zero x).symm
  | k + 1, b, x => by
    unfold a_ens
    rw [ens_x k (b + 1) (x + A.1 b 0), ens_x k (b + 1) (0 + A.1 b 0), Int32.zero_add, Int32.add_assoc]
theorem ens_z {A : aS} {n : Nat} (h : ivQ A n) : ∀ (k b : Nat) (x : Int32), n ≤ b → b + k ≤ 6 → a_ens A k b x = x
  | 0, b, x, _, _ => rfl
  | k + 1, b, x, h1, h2 => by
    unfold a_ens
    rw [(h.2.2 b h1 (by omega)).2, Int32.add_zero]
    exact ens_z h k (b + 1) x (by omega) (by omega)
theorem ens_a {A : aS} : ∀ (k j b : Nat) (x : Int32), a_ens A (k + j) b x = a_ens A j (b + k) (a_ens A k b x)
  | 0, j, b, x => by rw [Nat.zero_add]; rfl
  | k + 1, j, b, x => by
    rw [show k + 1 + j = (k + j) + 1 by omega]
    simp only [a_ens]
    rw [ens_a k j (b + 1), show b + 1 + k = b + (k + 1) by omega]
theorem ens_6 {A : aS} {n : Nat} (h : ivQ A n) (hn : n ≤ 6) : a_ens A 6 0 0 + A.1 6 0 = a_ens A n 0 (A.1 6 0) := by
  have e : a_ens A 6 0 0 = a_ens A n 0 0 := by
    have := ens_a (A := A) n (6 - n) 0 0
    rw [show n + (6 - n) = 6 by omega, Nat.zero_add] at this
    rw [this]
    exact ens_z h (6 - n) n _ (Nat.le_refl _) (by omega)
  rw [e, ens_x n 0 (A.1 6 0), Int32.add_comm]

set_option maxRecDepth 100000 in
set_option maxHeartbeats 4000000 in
theorem p_X11_entriesOfAll {X : gj_X} {lim : Nat} {σ : gj_H} {v : gj_V} {m sn : Nat} {A : aS} {t : Int32} (hs : msh σ m) (hM : MR (v (m + 2)) A t sn)  : gj_E X 1 m_X11_entriesOfAll [.ref m] lim σ v (q_i lim σ (fun z v' => z = a_ens A 6 0 0 + A.1 6 0 ∧ v' = v)) := by
  obtain ⟨so, s1, s2, s3, s4, s5, s6, s7, s8, s9, s10, s11, s12⟩ := id hs
  have lp : ∀ (k i : Nat) (a : Int32), i + k = 6 → gj_G X 1 m_X11_entriesOfAll (q_i lim σ (fun z v' => z = a_ens A k i a + A.1 6 0 ∧ v' = v)) lim σ v 0 0 4 [some (.ref m), some (.int a), some (.int (nI i))] [] := by
    intro k
    induction k with
    | zero =>
      intro i a hk
      refine g_iload_n (q := 5) dX11_entriesOfAll_4 rfl rfl ?_
      refine g_bipush (q := 7) (x := 6) dX11_entriesOfAll_5 (by decide) rfl ?_
      refine g_icmpgt (t := 30) (q := 10) dX11_entriesOfAll_7 (by decide) rfl (fun hq7 => ?_) (fun hq7 => ?_)
      · rw [show i = 6 by omega] at hq7
        exact absurd hq7 (by decide)
      · refine g_iload_n (q := 11) dX11_entriesOfAll_10 rfl rfl ?_
        refine g_aload_n (q := 12) dX11_entriesOfAll_11 rfl rfl ?_
        refine g_getR (q := 15) f_X11_13 (by assumption) rfl dX11_entriesOfAll_12 rfl ?_
        refine g_iload_n (q := 16) dX11_entriesOfAll_15 rfl rfl ?_
        refine c_Si (q := 19) (p_X11_gate (b := i)) k_X11_69 (by decide) rfl rfl (Nat.le_of_ble_eq_true rfl) rfl rfl dX11_entriesOfAll_16 rfl ?_
        rintro z0 w1 ⟨hz0, hw1⟩
        subst w1
        subst z0
        refine g_iconst (q := 20) (x := 0) dX11_entriesOfAll_19 (by decide) rfl ?_
        refine g_iadd (q := 21) dX11_entriesOfAll_20 rfl ?_
        refine g_iald (q := 22) (by assumption) (by first | (simp only [gn_lit, nI_add, pk_mul]; exact rfl) | exact rfl) (by omega) (by decide) dX11_entriesOfAll_21 rfl ?_
        rw [hM.2.2.1 i (by omega) 0 (by omega)]
        have eq6 : i = 6 := by omega
        refine g_iadd (q := 23) dX11_entriesOfAll_22 rfl ?_
        refine g_istore_n (q := 24) dX11_entriesOfAll_23 rfl rfl rfl rfl ?_
        dsimp only [List.set]
        refine g_iinc (q := 27) (y := nI (i + 1)) dX11_entriesOfAll_24 rfl (gn_inc i) rfl rfl rfl rfl ?_
        dsimp only [List.set]
        refine g_goto (q := 4) dX11_entriesOfAll_27 (by decide) ?_
        subst eq6
        refine g_iload_n (q := 5) dX11_entriesOfAll_4 rfl rfl ?_
        refine g_bipush (q := 7) (x := 6) dX11_entriesOfAll_5 (by decide) rfl ?_
        refine g_icmpgt (t := 30) (q := 10) dX11_entriesOfAll_7 (by decide) rfl (fun hq7 => ?_) (fun hq7 => ?_)
        · refine g_iload_n (q := 31) dX11_entriesOfAll_30 rfl rfl ?_
          refine r_i dX11_entriesOfAll_31 rfl rfl rfl ?_
          exact ⟨rfl, rfl⟩
        · exact absurd (by decide) hq7
    | succ k ih =>
      intro i a hk
      refine g_iload_n (q := 5) dX11_entriesOfAll_4 rfl rfl ?_
      refine g_bipush (q := 7) (x := 6) dX11_entriesOfAll_5 (by decide) rfl ?_
      refine g_icmpgt (t := 30) (q := 10) dX11_entriesOfAll_7 (by decide) rfl (fun hq7 => ?_) (fun hq7 => ?_)
      · exact absurd hq7 (Int32.not_lt.mpr (nI_le (b := 6) (show i ≤ 6 by omega) (by decide)))
      · refine g_iload_n (q := 11) dX11_entriesOfAll_10 rfl rfl ?_
        refine g_aload_n (q := 12) dX11_entriesOfAll_11 rfl rfl ?_
        refine g_getR (q := 15) f_X11_13 (by assumption) rfl dX11_entriesOfAll_12 rfl ?_
        refine g_iload_n (q := 16) dX11_entriesOfAll_15 rfl rfl ?_
        refine c_Si (q := 19) (p_X11_gate (b := i)) k_X11_69 (by decide) rfl rfl (Nat.le_of_ble_eq_true rfl) rfl rfl dX11_entriesOfAll_16 rfl ?_
        rintro z0 w1 ⟨hz0, hw1⟩
        subst w1
        subst z0
        refine g_iconst (q := 20) (x := 0) dX11_entriesOfAll_19 (by decide) rfl ?_
        refine g_iadd (q := 21) dX11_entriesOfAll_20 rfl ?_
        refine g_iald (q := 22) (by assumption) (by first | (simp only [gn_lit, nI_add, pk_mul]; exact rfl) | exact rfl) (by omega) (by decide) dX11_entriesOfAll_21 rfl ?_
        rw [hM.2.2.1 i (by omega) 0 (by omega)]
        refine g_iadd (q := 23) dX11_entriesOfAll_22 rfl ?_
        refine g_istore_n (q := 24) dX11_entriesOfAll_23 rfl rfl rfl rfl ?_
        dsimp only [List.set]
        refine g_iinc (q := 27) (y := nI (i + 1)) dX11_entriesOfAll_24 rfl (gn_inc i) rfl rfl rfl rfl ?_
        dsimp only [List.set]
        refine g_goto (q := 4) dX11_entriesOfAll_27 (by decide) ?_
        exact ih (i + 1) _ (by omega)
  refine gj_E_at (L := [some (.ref m), none, none]) (k := 2) rfl (by decide) rfl ?_
  refine g_iconst (q := 1) (x := 0) dX11_entriesOfAll_0 (by decide) rfl ?_
  refine g_istore_n (q := 2) dX11_entriesOfAll_1 rfl rfl rfl rfl ?_
  dsimp only [List.set]
  refine g_iconst (q := 3) (x := 0) dX11_entriesOfAll_2 (by decide) rfl ?_
  refine g_istore_n (q := 4) dX11_entriesOfAll_3 rfl rfl rfl rfl ?_
  dsimp only [List.set]
  exact lp 6 0 0 (by omega)

set_option maxRecDepth 100000 in
set_option maxHeartbeats 4000000 in
theorem p_X11_worksBy {X : gj_X} {lim : Nat} {σ : gj_H} {v : gj_V} {m sn : Nat} {A : aS} {t : Int32} (hs : msh σ m) (hM : MR (v (m + 2)) A t sn) {k n : Nat} (hn : A.1 40 5 = nI n) (hn6 : n ≤ 6) (hQ : ivQ A n) (hk : k < 10) : gj_E X 2 m_X11_worksBy [.ref m, .int (nI k)] lim σ v (q_i lim σ (fun z v' => z = a_wt A n t k ∧ v' = v)) := by
  obtain ⟨so, s1, s2, s3, s4, s5, s6, s7, s8, s9, s10, s11, s12⟩ := id hs
  rcases (show k = 0 ∨ k = 1 ∨ k = 2 ∨ k = 3 ∨ k = 4 ∨ k = 5 ∨ k = 6 ∨ k = 7 ∨ k = 8 ∨ k = 9 by omega) with rfl | rfl | rfl | rfl | rfl | rfl | rfl | rfl | rfl | rfl
  · refine gj_E_at (L := [some (.ref m), some (.int (nI 0))]) (k := 0) rfl (by decide) rfl ?_
    refine g_iload_n (q := 1) dX11_worksBy_0 rfl rfl ?_
    refine g_tableIn (t := 52) (o := 51) dX11_worksBy_1 (by decide) (by decide) (by decide) (by decide) ?_
    refine g_aload_n (q := 53) dX11_worksBy_52 rfl rfl ?_
    refine g_getR (q := 56) f_X11_13 (by assumption) rfl dX11_worksBy_53 rfl ?_
    refine g_iconst (q := 57) (x := 0) dX11_worksBy_56 (by decide) rfl ?_
    refine g_iald (q := 58) (by assumption) (show (0 : Int32) = nI 0 from rfl) (by decide) (by decide) dX11_worksBy_57 rfl ?_
    refine r_i dX11_worksBy_58 rfl rfl rfl ?_
    exact ⟨hM.1.1, rfl⟩
  · refine gj_E_at (L := [some (.ref m), some (.int (nI 1))]) (k := 0) rfl (by decide) rfl ?_
    refine g_iload_n (q := 1) dX11_worksBy_0 rfl rfl ?_
    refine g_tableIn (t := 59) (o := 58) dX11_worksBy_1 (by decide) (by decide) (by decide) (by decide) ?_
    refine g_aload_n (q := 60) dX11_worksBy_59 rfl rfl ?_
    refine g_getR (q := 63) f_X11_13 (by assumption) rfl dX11_worksBy_60 rfl ?_
    refine g_iconst (q := 64) (x := 1) dX11_worksBy_63 (by decide) rfl ?_
    refine g_iald (q := 65) (by assumption) (show (1 : Int32) = nI 1 from rfl) (by decide) (by decide) dX11_worksBy_64 rfl ?_
    refine r_i dX11_worksBy_65 rfl rfl rfl ?_
    exact ⟨hM.1.2.1, rfl⟩
  · refine gj_E_at (L := [some (.ref m), some (.int (nI 2))]) (k := 0) rfl (by decide) rfl ?_
    refine g_iload_n (q := 1) dX11_worksBy_0 rfl rfl ?_
    refine g_tableIn (t := 66) (o := 65) dX11_worksBy_1 (by decide) (by decide) (by decide) (by decide) ?_
    refine g_aload_n (q := 67) dX11_worksBy_66 rfl rfl ?_
    refine g_getR (q := 70) f_X11_13 (by assumption) rfl dX11_worksBy_67 rfl ?_
    refine g_iconst (q := 71) (x := 2) dX11_worksBy_70 (by decide) rfl ?_
    refine g_iald (q := 72) (by assumption) (show (2 : Int32) = nI 2 from rfl) (by decide) (by decide) dX11_worksBy_71 rfl ?_
    refine r_i dX11_worksBy_72 rfl rfl rfl ?_
    exact ⟨hM.1.2.2.1, rfl⟩
  · refine gj_E_at (L := [some (.ref m), some (.int (nI 3))]) (k := 0) rfl (by decide) rfl ?_
    refine g_iload_n (q := 1) dX11_worksBy_0 rfl rfl ?_
    refine g_tableIn (t := 73) (o := 72) dX11_worksBy_1 (by decide) (by decide) (by decide) (by decide) ?_
    refine g_aload_n (q := 74) dX11_worksBy_73 rfl rfl ?_
    refine g_getR (q := 77) f_X11_13 (by assumption) rfl dX11_worksBy_74 rfl ?_
    refine g_iconst (q := 78) (x := 3) dX11_worksBy_77 (by decide) rfl ?_
    refine g_iald (q := 79) (by assumption) (show (3 : Int32) = nI 3 from rfl) (by decide) (by decide) dX11_worksBy_78 rfl ?_
    refine r_i dX11_worksBy_79 rfl rfl rfl ?_
    exact ⟨hM.1.2.2.2.1, rfl⟩
  · refine gj_E_at (L := [some (.ref m), some (.int (nI 4))]) (k := 0) rfl (by decide) rfl ?_
    refine g_iload_n (q := 1) dX11_worksBy_0 rfl rfl ?_
    refine g_tableIn (t := 80) (o := 79) dX11_worksBy_1 (by decide) (by decide) (by decide) (by decide) ?_
    refine g_aload_n (q := 81) dX11_worksBy_80 rfl rfl ?_
    refine g_getR (q := 84) f_X11_13 (by assumption) rfl dX11_worksBy_81 rfl ?_
    refine g_bipush (q := 86) (x := 6) dX11_worksBy_84 (by decide) rfl ?_
    refine c_Si (q := 89) (p_X11_gate (b := 6)) k_X11_69 (by decide) rfl rfl (Nat.le_of_ble_eq_true rfl) rfl rfl dX11_worksBy_86 rfl ?_
    rintro z0 w1 ⟨hz0, hw1⟩
    subst w1
    subst z0
    refine g_iconst (q := 90) (x := 0) dX11_worksBy_89 (by decide) rfl ?_
    refine g_iadd (q := 91) dX11_worksBy_90 rfl ?_
    refine g_iald (q := 92) (by assumption) (by first | (simp only [gn_lit, nI_add, pk_mul]; exact rfl) | exact rfl) (by decide) (by decide) dX11_worksBy_91 rfl ?_
    refine r_i dX11_worksBy_92 rfl rfl rfl ?_
    exact ⟨hM.2.2.1 6 (by omega) 0 (by omega), rfl⟩
  · refine gj_E_at (L := [some (.ref m), some (.int (nI 5))]) (k := 0) rfl (by decide) rfl ?_
    refine g_iload_n (q := 1) dX11_worksBy_0 rfl rfl ?_
    refine g_tableIn (t := 93) (o := 92) dX11_worksBy_1 (by decide) (by decide) (by decide) (by decide) ?_
    refine g_aload_n (q := 94) dX11_worksBy_93 rfl rfl ?_
    refine g_getR (q := 97) f_X11_13 (by assumption) rfl dX11_worksBy_94 rfl ?_
    refine g_bipush (q := 99) (x := 6) dX11_worksBy_97 (by decide) rfl ?_
    refine c_Si (q := 102) (p_X11_gate (b := 6)) k_X11_69 (by decide) rfl rfl (Nat.le_of_ble_eq_true rfl) rfl rfl dX11_worksBy_99 rfl ?_
    rintro z0 w1 ⟨hz0, hw1⟩
    subst w1
    subst z0
    refine g_iconst (q := 103) (x := 3) dX11_worksBy_102 (by decide) rfl ?_
    refine g_iadd (q := 104) dX11_worksBy_103 rfl ?_
    refine g_iald (q := 105) (by assumption) (by first | (simp only [gn_lit, nI_add, pk_mul]; exact rfl) | exact rfl) (by decide) (by decide) dX11_worksBy_104 rfl ?_
    refine r_i dX11_worksBy_105 rfl rfl rfl ?_
    exact ⟨hM.2.2.1 6 (by omega) 3 (by omega), rfl⟩
  · refine gj_E_at (L := [some (.ref m), some (.int (nI 6))]) (k := 0) rfl (by decide) rfl ?_
    refine g_iload_n (q := 1) dX11_worksBy_0 rfl rfl ?_
    refine g_tableIn (t := 106) (o := 105) dX11_worksBy_1 (by decide) (by decide) (by decide) (by decide) ?_
    refine g_aload_n (q := 107) dX11_worksBy_106 rfl rfl ?_
    refine g_getR (q := 110) f_X11_13 (by assumption) rfl dX11_worksBy_107 rfl ?_
    refine g_bipush (q := 112) (x := 6) dX11_worksBy_110 (by decide) rfl ?_
    refine c_Si (q := 115) (p_X11_gate (b := 6)) k_X11_69 (by decide) rfl rfl (Nat.le_of_ble_eq_true rfl) rfl rfl dX11_worksBy_112 rfl ?_
    rintro z0 w1 ⟨hz0, hw1⟩
    subst w1
    subst z0
    refine g_iconst (q := 116) (x := 2) dX11_worksBy_115 (by decide) rfl ?_
    refine g_iadd (q := 117) dX11_worksBy_116 rfl ?_
    refine g_iald (q := 118) (by assumption) (by first | (simp only [gn_lit, nI_add, pk_mul]; exact rfl) | exact rfl) (by decide) (by decide) dX11_worksBy_117 rfl ?_
    refine r_i dX11_worksBy_118 rfl rfl rfl ?_
    exact ⟨hM.2.2.1 6 (by omega) 2 (by omega), rfl⟩
  · refine gj_E_at (L := [some (.ref m), some (.int (nI 7))]) (k := 0) rfl (by decide) rfl ?_
    refine g_iload_n (q := 1) dX11_worksBy_0 rfl rfl ?_
    refine g_tableIn (t := 119) (o := 118) dX11_worksBy_1 (by decide) (by decide) (by decide) (by decide) ?_
    refine g_aload_n (q := 120) dX11_worksBy_119 rfl rfl ?_
    refine c_Vi (q := 123) (p_X11_itemsOfAll hs hM hn hn6) k_X11_180 (by assumption) rfl (by decide) rfl rfl (Nat.le_of_ble_eq_true rfl) rfl rfl dX11_worksBy_120 rfl ?_
    rintro z0 w1 ⟨hz0, hw1⟩
    subst w1
    refine r_i dX11_worksBy_123 rfl rfl rfl ?_
    exact ⟨hz0, rfl⟩
  · refine gj_E_at (L := [some (.ref m), some (.int (nI 8))]) (k := 0) rfl (by decide) rfl ?_
    refine g_iload_n (q := 1) dX11_worksBy_0 rfl rfl ?_
    refine g_tableIn (t := 124) (o := 123) dX11_worksBy_1 (by decide) (by decide) (by decide) (by decide) ?_
    refine g_aload_n (q := 125) dX11_worksBy_124 rfl rfl ?_
    refine c_Vi (q := 128) (p_X11_entriesOfAll hs hM) k_X11_183 (by assumption) rfl (by decide) rfl rfl (Nat.le_of_ble_eq_true rfl) rfl rfl dX11_worksBy_125 rfl ?_
    rintro z0 w1 ⟨hz0, hw1⟩
    subst w1
    refine r_i dX11_worksBy_128 rfl rfl rfl ?_
    exact ⟨by rw [hz0]; exact ens_6 hQ hn6, rfl⟩
  · refine gj_E_at (L := [some (.ref m), some (.int (nI 9))]) (k := 0) rfl (by decide) rfl ?_
    refine g_iload_n (q := 1) dX11_worksBy_0 rfl rfl ?_
    refine g_tableOut (t := 129) dX11_worksBy_1 (by decide) (by decide) ?_
    refine g_aload_n (q := 130) dX11_worksBy_129 rfl rfl ?_
    refine g_getR (q := 133) f_X11_13 (by assumption) rfl dX11_worksBy_130 rfl ?_
    refine g_iconst (q := 134) (x := 4) dX11_worksBy_133 (by decide) rfl ?_
    refine g_iald (q := 135) (by assumption) (show (4 : Int32) = nI 4 from rfl) (by decide) (by decide) dX11_worksBy_134 rfl ?_
    refine r_i dX11_worksBy_135 rfl rfl rfl ?_
    exact ⟨hM.1.2.2.2.2.1, rfl⟩


set_option maxRecDepth 100000 in
set_option maxHeartbeats 4000000 in
theorem p_X11_works {X : gj_X} {lim : Nat} {σ : gj_H} {v : gj_V} {m : Nat} {A : aS} {t : Int32} {l : List (aS × Int32)} {tx : List Int32} {c : Nat → Int32} {n sn : Nat} (hs : msh σ m) (hG : MG v m A t l tx c) (hI : IV A n sn) {k : Int32} : gj_E X 6 m_X11_works [.ref m, .int k] lim σ v (q_i lim σ (fun z v' => sp_rd A t l tx c (in_ k 0 9) (a_wt A (nn A) t (iN k)) z (MG v' m) ∧ fm v v' m)) := by
  obtain ⟨so, s1, s2, s3, s4, s5, s6, s7, s8, s9, s10, s11, s12⟩ := id hs
  have hn6 := hI.2.1.2.2.2.1
  have hn1 := hI.2.1.2.2.1
  have hsn6 := hI.2.1.2.2.2.2.1
  have esn : sno A = sn := sn_eq hI
  have hM0 := hG.1
  refine gj_E_at (L := [some (.ref m), some (.int k)]) (k := 0) rfl (by decide) rfl ?_
  refine g_iload_n (q := 1) dX11_works_0 rfl rfl ?_
  refine g_iconst (q := 2) (x := 0) dX11_works_1 (by decide) rfl ?_
  refine g_bipush (q := 4) (x := 9) dX11_works_2 (by decide) rfl ?_
  refine c_Si (q := 7) p_X11_in k_X11_50 (by decide) rfl rfl (Nat.le_of_ble_eq_true rfl) rfl rfl dX11_works_4 rfl ?_
  rintro z w1 ⟨rfl, hw1⟩
  subst w1
  refine g_ifeq (t := 18) (q := 10) dX11_works_7 (by decide) rfl (fun hq7 => ?_) (fun hq7 => ?_)
  · have hq7 := gn_b0 hq7
    refine g_aload_n (q := 19) dX11_works_18 rfl rfl ?_
    refine c_Vi (q := 22) (p_X11_bad hs hG) k_X11_130 (by assumption) rfl (by decide) rfl rfl (Nat.le_of_ble_eq_true rfl) rfl rfl dX11_works_19 rfl ?_
    rintro z w1 ⟨hz1, hG1, E1⟩
    refine r_i dX11_works_22 rfl rfl rfl ?_
    first | exact ⟨⟨fun _ => ⟨hy1, hG⟩, fun h => absurd hcd h⟩, fm.rf _ _⟩ | exact ⟨⟨fun h => absurd h (by intro h; first | exact hq7 h), fun _ => ⟨hz1, hG1⟩⟩, E1⟩
  · have hq7 := gn_b1 hq7
    have hcd := hq7
    obtain ⟨k0, hk0, rfl⟩ := gn_0k (n := 9) (m := 9) (by decide) hq7
    have ek : iN (nI k0) = k0 := iN_n (by omega)
    refine g_aload_n (q := 11) dX11_works_10 rfl rfl ?_
    refine g_iload_n (q := 12) dX11_works_11 rfl rfl ?_
    refine c_Vi (q := 15) (p_X11_worksBy hs hM0 (k := k0) hI.2.1.1 hn6 hI.2.2.2 (by omega)) k_X11_186 (by assumption) rfl (by decide) rfl rfl (Nat.le_of_ble_eq_true rfl) rfl rfl dX11_works_12 rfl ?_
    rintro y w1 ⟨hy1, hw1⟩
    subst w1
    rw [nn_eq hI, ek]
    refine g_goto (q := 22) dX11_works_15 (by decide) ?_
    refine r_i dX11_works_22 rfl rfl rfl ?_
    first | exact ⟨⟨fun _ => ⟨hy1, hG⟩, fun h => absurd hcd h⟩, fm.rf _ _⟩ | exact ⟨⟨fun h => absurd h (by intro h; first | exact hq7 h), fun _ => ⟨hz1, hG1⟩⟩, E1⟩
