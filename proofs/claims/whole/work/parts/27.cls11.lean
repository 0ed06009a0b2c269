set_option maxRecDepth 100000 in
set_option maxHeartbeats 4000000 in
theorem p_X10_keeper {X : gj_X} {lim : Nat} {σ : gj_H} {v : gj_V} {x : Nat} {A : aS} {t : Int32} {l : List (aS × Int32)} {tx : List Int32} {c : Nat → Int32} {n sn : Nat} (hs : gsh σ x) (hG : GR v x A t l tx c) (hI : IV A n sn) {b k : Int32} : gj_E X 6 m_X10_keeper [.ref x, .int b, .int k] lim σ v (q_i lim σ (fun z v' => sp_rd A t l tx c (a_has A b ∧ in_ k 0 2) (b_ktold (gB A (iN b)) (iN k)) z (GR v' x) ∧ fr v v' x (x + 477))) := by
  obtain ⟨sx, hf, hh, ht, hrn, hia⟩ := id hs
  have hc := hG.2.2.2
  have hn6 := hI.2.1.2.2.2.1
  have hn1 := hI.2.1.2.2.1
  have sf := hf.1
  have sb := hf.2.1
  have ss := hf.2.2.1
  have sw := hf.2.2.2.1
  have hb6 := hf.2.2.2.2.2.2.1
  have hs6 := hf.2.2.2.2.2.2.2.1
  have hw6 := hf.2.2.2.2.2.2.2.2
  have sl := hf.2.2.2.2.1
  have sl1 := sl.1
  have hh1 := hh.1
  have ht1 := ht.1
  have hia1 := hia.1
  refine gj_E_at (L := [some (.ref x), some (.int b), some (.int k)]) (k := 0) rfl (by decide) rfl ?_
  refine g_aload_n (q := 1) dX10_keeper_0 rfl rfl ?_
  refine g_getR (q := 4) f_X10_10 (by assumption) rfl dX10_keeper_1 rfl ?_
  refine g_iload_n (q := 5) dX10_keeper_4 rfl rfl ?_
  refine c_Vi (q := 8) (p_X1_hasBuffer hf hG.1) k_X10_66 (by assumption) rfl (by decide) rfl rfl (Nat.le_of_ble_eq_true rfl) rfl rfl dX10_keeper_5 rfl ?_
  rintro z w1 ⟨rfl, hw1⟩
  subst w1
  refine g_ifeq (t := 20) (q := 11) dX10_keeper_8 (by decide) rfl (fun hq8 => ?_) (fun hq8 => ?_)
  · have hq8 := gn_b0 hq8
    refine g_aload_n (q := 21) dX10_keeper_20 rfl rfl ?_
    refine c_Vi (q := 24) (p_X10_refuseBad hs hG) k_X10_50 (by assumption) rfl (by decide) rfl rfl (Nat.le_of_ble_eq_true rfl) rfl rfl dX10_keeper_21 rfl ?_
    rintro z w1 ⟨hz1, hG1, E1⟩
    refine r_i dX10_keeper_24 rfl rfl rfl ?_
    exact ⟨⟨fun h => absurd h (by intro h; first | exact hq8 h.1 | exact hq17 h.2), fun _ => ⟨hz1, hG1⟩⟩, E1⟩
  · have hq8 := gn_b1 hq8
    refine g_iload_n (q := 12) dX10_keeper_11 rfl rfl ?_
    refine g_iconst (q := 13) (x := 0) dX10_keeper_12 (by decide) rfl ?_
    refine g_iconst (q := 14) (x := 2) dX10_keeper_13 (by decide) rfl ?_
    refine c_Si (q := 17) p_X10_within k_X10_46 (by decide) rfl rfl (Nat.le_of_ble_eq_true rfl) rfl rfl dX10_keeper_14 rfl ?_
    rintro z w1 ⟨rfl, hw1⟩
    subst w1
    refine g_ifne (t := 25) (q := 20) dX10_keeper_17 (by decide) rfl (fun hq17 => ?_) (fun hq17 => ?_)
    · have hq17 := gn_b1 hq17
      have hcd := And.intro hq8 hq17
      obtain ⟨j, hj, rfl⟩ := a_has_of hI.2.1.1 (by omega) hq8
      have ej : iN (nI j) = j := iN_n (by omega)
      have j6 : j < 6 := by omega
      obtain ⟨k0, hk0, rfl⟩ := gn_0k (n := 2) (m := 2) (by decide) hq17
      have ek : iN (nI k0) = k0 := iN_n (by omega)
      refine g_aload_n (q := 26) dX10_keeper_25 rfl rfl ?_
      refine g_getR (q := 29) f_X10_10 (by assumption) rfl dX10_keeper_26 rfl ?_
      refine g_getR (q := 32) f_X10_70 (by assumption) rfl dX10_keeper_29 rfl ?_
      refine g_iload_n (q := 33) dX10_keeper_32 rfl rfl ?_
      refine g_aald (q := 34) (by assumption) rfl rfl (ra_at j6) (by simp) dX10_keeper_33 rfl ?_
      refine g_iload_n (q := 35) dX10_keeper_34 rfl rfl ?_
      refine c_Vi (q := 38) (p_X0_keepingTold (hb6 j j6) (hG.1.2.2.1 j j6) (k := k0) (by omega)) k_X10_188 (hb6 j j6).1 rfl (by decide) rfl rfl (Nat.le_of_ble_eq_true rfl) rfl rfl dX10_keeper_35 rfl ?_
      rintro y w1 ⟨hy1, hw1⟩
      subst w1
      rw [ej, ek]
      refine r_i dX10_keeper_38 rfl rfl rfl ?_
      exact ⟨⟨fun _ => ⟨hy1, hG⟩, fun h => absurd hcd h⟩, fr.rf _ _ _⟩
    · have hq17 := gn_b0 hq17
      refine g_aload_n (q := 21) dX10_keeper_20 rfl rfl ?_
      refine c_Vi (q := 24) (p_X10_refuseBad hs hG) k_X10_50 (by assumption) rfl (by decide) rfl rfl (Nat.le_of_ble_eq_true rfl) rfl rfl dX10_keeper_21 rfl ?_
      rintro z w1 ⟨hz1, hG1, E1⟩
      refine r_i dX10_keeper_24 rfl rfl rfl ?_
      exact ⟨⟨fun h => absurd h (by intro h; first | exact hq8 h.1 | exact hq17 h.2), fun _ => ⟨hz1, hG1⟩⟩, E1⟩

set_option maxRecDepth 100000 in
set_option maxHeartbeats 4000000 in
theorem p_X10_buffer {X : gj_X} {lim : Nat} {σ : gj_H} {v : gj_V} {x : Nat} {A : aS} {t : Int32} {l : List (aS × Int32)} {tx : List Int32} {c : Nat → Int32} {n sn : Nat} (hs : gsh σ x) (hG : GR v x A t l tx c) (hI : IV A n sn) {b k : Int32} : gj_E X 6 m_X10_buffer [.ref x, .int b, .int k] lim σ v (q_i lim σ (fun z v' => sp_rd A t l tx c (a_has A b ∧ in_ k 0 7) (b_told (gB A (iN b)) (iN k)) z (GR v' x) ∧ fr v v' x (x + 477))) := by
  obtain ⟨sx, hf, hh, ht, hrn, hia⟩ := id hs
  have hc := hG.2.2.2
  have hn6 := hI.2.1.2.2.2.1
  have hn1 := hI.2.1.2.2.1
  have sf := hf.1
  have sb := hf.2.1
  have ss := hf.2.2.1
  have sw := hf.2.2.2.1
  have hb6 := hf.2.2.2.2.2.2.1
  have hs6 := hf.2.2.2.2.2.2.2.1
  have hw6 := hf.2.2.2.2.2.2.2.2
  have sl := hf.2.2.2.2.1
  have sl1 := sl.1
  have hh1 := hh.1
  have ht1 := ht.1
  have hia1 := hia.1
  refine gj_E_at (L := [some (.ref x), some (.int b), some (.int k)]) (k := 0) rfl (by decide) rfl ?_
  refine g_aload_n (q := 1) dX10_buffer_0 rfl rfl ?_
  refine g_getR (q := 4) f_X10_10 (by assumption) rfl dX10_buffer_1 rfl ?_
  refine g_iload_n (q := 5) dX10_buffer_4 rfl rfl ?_
  refine c_Vi (q := 8) (p_X1_hasBuffer hf hG.1) k_X10_66 (by assumption) rfl (by decide) rfl rfl (Nat.le_of_ble_eq_true rfl) rfl rfl dX10_buffer_5 rfl ?_
  rintro z w1 ⟨rfl, hw1⟩
  subst w1
  refine g_ifeq (t := 21) (q := 11) dX10_buffer_8 (by decide) rfl (fun hq8 => ?_) (fun hq8 => ?_)
  · have hq8 := gn_b0 hq8
    refine g_aload_n (q := 22) dX10_buffer_21 rfl rfl ?_
    refine c_Vi (q := 25) (p_X10_refuseBad hs hG) k_X10_50 (by assumption) rfl (by decide) rfl rfl (Nat.le_of_ble_eq_true rfl) rfl rfl dX10_buffer_22 rfl ?_
    rintro z w1 ⟨hz1, hG1, E1⟩
    refine r_i dX10_buffer_25 rfl rfl rfl ?_
    exact ⟨⟨fun h => absurd h (by intro h; first | exact hq8 h.1 | exact hq18 h.2), fun _ => ⟨hz1, hG1⟩⟩, E1⟩
  · have hq8 := gn_b1 hq8
    refine g_iload_n (q := 12) dX10_buffer_11 rfl rfl ?_
    refine g_iconst (q := 13) (x := 0) dX10_buffer_12 (by decide) rfl ?_
    refine g_bipush (q := 15) (x := 7) dX10_buffer_13 (by decide) rfl ?_
    refine c_Si (q := 18) p_X10_within k_X10_46 (by decide) rfl rfl (Nat.le_of_ble_eq_true rfl) rfl rfl dX10_buffer_15 rfl ?_
    rintro z w1 ⟨rfl, hw1⟩
    subst w1
    refine g_ifne (t := 26) (q := 21) dX10_buffer_18 (by decide) rfl (fun hq18 => ?_) (fun hq18 => ?_)
    · have hq18 := gn_b1 hq18
      have hcd := And.intro hq8 hq18
      obtain ⟨j, hj, rfl⟩ := a_has_of hI.2.1.1 (by omega) hq8
      have ej : iN (nI j) = j := iN_n (by omega)
      have j6 : j < 6 := by omega
      obtain ⟨k0, hk0, rfl⟩ := gn_0k (n := 7) (m := 7) (by decide) hq18
      have ek : iN (nI k0) = k0 := iN_n (by omega)
      refine g_aload_n (q := 27) dX10_buffer_26 rfl rfl ?_
      refine g_getR (q := 30) f_X10_10 (by assumption) rfl dX10_buffer_27 rfl ?_
      refine g_getR (q := 33) f_X10_70 (by assumption) rfl dX10_buffer_30 rfl ?_
      refine g_iload_n (q := 34) dX10_buffer_33 rfl rfl ?_
      refine g_aald (q := 35) (by assumption) rfl rfl (ra_at j6) (by simp) dX10_buffer_34 rfl ?_
      refine g_iload_n (q := 36) dX10_buffer_35 rfl rfl ?_
      refine c_Vi (q := 39) (p_X0_bufferTold (hb6 j j6) (hG.1.2.2.1 j j6) (k := k0) (by omega)) k_X10_197 (hb6 j j6).1 rfl (by decide) rfl rfl (Nat.le_of_ble_eq_true rfl) rfl rfl dX10_buffer_36 rfl ?_
      rintro y w1 ⟨hy1, hw1⟩
      subst w1
      rw [ej, ek]
      refine r_i dX10_buffer_39 rfl rfl rfl ?_
      exact ⟨⟨fun _ => ⟨hy1, hG⟩, fun h => absurd hcd h⟩, fr.rf _ _ _⟩
    · have hq18 := gn_b0 hq18
      refine g_aload_n (q := 22) dX10_buffer_21 rfl rfl ?_
      refine c_Vi (q := 25) (p_X10_refuseBad hs hG) k_X10_50 (by assumption) rfl (by decide) rfl rfl (Nat.le_of_ble_eq_true rfl) rfl rfl dX10_buffer_22 rfl ?_
      rintro z w1 ⟨hz1, hG1, E1⟩
      refine r_i dX10_buffer_25 rfl rfl rfl ?_
      exact ⟨⟨fun h => absurd h (by intro h; first | exact hq8 h.1 | exact hq18 h.2), fun _ => ⟨hz1, hG1⟩⟩, E1⟩

set_option maxRecDepth 100000 in
set_option maxHeartbeats 4000000 in
theorem p_X10_queue {X : gj_X} {lim : Nat} {σ : gj_H} {v : gj_V} {x : Nat} {A : aS} {t : Int32} {l : List (aS × Int32)} {tx : List Int32} {c : Nat → Int32} {n sn : Nat} (hs : gsh σ x) (hG : GR v x A t l tx c) (hI : IV A n sn) {b k : Int32} : gj_E X 6 m_X10_queue [.ref x, .int b, .int k] lim σ v (q_i lim σ (fun z v' => sp_rd A t l tx c (a_has A b ∧ 0 ≤ k) (l_at (A.2 (10 + iN b)) k) z (GR v' x) ∧ fr v v' x (x + 477))) := by
  obtain ⟨sx, hf, hh, ht, hrn, hia⟩ := id hs
  have hc := hG.2.2.2
  have hn6 := hI.2.1.2.2.2.1
  have hn1 := hI.2.1.2.2.1
  have sf := hf.1
  have sb := hf.2.1
  have ss := hf.2.2.1
  have sw := hf.2.2.2.1
  have hb6 := hf.2.2.2.2.2.2.1
  have hs6 := hf.2.2.2.2.2.2.2.1
  have hw6 := hf.2.2.2.2.2.2.2.2
  have sl := hf.2.2.2.2.1
  have sl1 := sl.1
  have hh1 := hh.1
  have ht1 := ht.1
  have hia1 := hia.1
  refine gj_E_at (L := [some (.ref x), some (.int b), some (.int k)]) (k := 0) rfl (by decide) rfl ?_
  refine g_aload_n (q := 1) dX10_queue_0 rfl rfl ?_
  refine g_getR (q := 4) f_X10_10 (by assumption) rfl dX10_queue_1 rfl ?_
  refine g_iload_n (q := 5) dX10_queue_4 rfl rfl ?_
  refine c_Vi (q := 8) (p_X1_hasBuffer hf hG.1) k_X10_66 (by assumption) rfl (by decide) rfl rfl (Nat.le_of_ble_eq_true rfl) rfl rfl dX10_queue_5 rfl ?_
  rintro z w1 ⟨rfl, hw1⟩
  subst w1
  refine g_ifeq (t := 15) (q := 11) dX10_queue_8 (by decide) rfl (fun hq8 => ?_) (fun hq8 => ?_)
  · have hq8 := gn_b0 hq8
    refine g_aload_n (q := 16) dX10_queue_15 rfl rfl ?_
    refine c_Vi (q := 19) (p_X10_refuseBad hs hG) k_X10_50 (by assumption) rfl (by decide) rfl rfl (Nat.le_of_ble_eq_true rfl) rfl rfl dX10_queue_16 rfl ?_
    rintro z w1 ⟨hz1, hG1, E1⟩
    refine r_i dX10_queue_19 rfl rfl rfl ?_
    exact ⟨⟨fun h => absurd h (by intro h; first | exact hq8 h.1 | exact hq12 h.2), fun _ => ⟨hz1, hG1⟩⟩, E1⟩
  · have hq8 := gn_b1 hq8
    refine g_iload_n (q := 12) dX10_queue_11 rfl rfl ?_
    refine g_ifge (t := 20) (q := 15) dX10_queue_12 (by decide) rfl (fun hq12 => ?_) (fun hq12 => ?_)
    · have hcd : a_has A b ∧ 0 ≤ k := And.intro hq8 hq12
      obtain ⟨j, hj, rfl⟩ := a_has_of hI.2.1.1 (by omega) hq8
      have ej : iN (nI j) = j := iN_n (by omega)
      have j6 : j < 6 := by omega
      refine g_aload_n (q := 21) dX10_queue_20 rfl rfl ?_
      refine g_getR (q := 24) f_X10_10 (by assumption) rfl dX10_queue_21 rfl ?_
      refine g_getR (q := 27) f_X10_70 (by assumption) rfl dX10_queue_24 rfl ?_
      refine g_iload_n (q := 28) dX10_queue_27 rfl rfl ?_
      refine g_aald (q := 29) (by assumption) rfl rfl (ra_at j6) (by simp) dX10_queue_28 rfl ?_
      refine g_getR (q := 32) f_X10_185 (hb6 j j6).1 rfl dX10_queue_29 rfl ?_
      refine g_iload_n (q := 33) dX10_queue_32 rfl rfl ?_
      refine c_Vi (q := 36) (p_X5_at (hb6 j j6).2.2.2 (hG.1.2.2.1 j j6).2.2.2) k_X10_191 (hb6 j j6).2.2.2.1 rfl (by decide) rfl rfl (Nat.le_of_ble_eq_true rfl) rfl rfl dX10_queue_33 rfl ?_
      rintro y w1 ⟨hy1, hw1⟩
      subst w1
      rw [ej]
      refine r_i dX10_queue_36 rfl rfl rfl ?_
      exact ⟨⟨fun _ => ⟨hy1, hG⟩, fun h => absurd hcd h⟩, fr.rf _ _ _⟩
    · have hq12 := hq12
      refine g_aload_n (q := 16) dX10_queue_15 rfl rfl ?_
      refine c_Vi (q := 19) (p_X10_refuseBad hs hG) k_X10_50 (by assumption) rfl (by decide) rfl rfl (Nat.le_of_ble_eq_true rfl) rfl rfl dX10_queue_16 rfl ?_
      rintro z w1 ⟨hz1, hG1, E1⟩
      refine r_i dX10_queue_19 rfl rfl rfl ?_
      exact ⟨⟨fun h => absurd h (by intro h; first | exact hq8 h.1 | exact hq12 h.2), fun _ => ⟨hz1, hG1⟩⟩, E1⟩

set_option maxRecDepth 100000 in
set_option maxHeartbeats 4000000 in
theorem p_X10_item {X : gj_X} {lim : Nat} {σ : gj_H} {v : gj_V} {x : Nat} {A : aS} {t : Int32} {l : List (aS × Int32)} {tx : List Int32} {c : Nat → Int32} {n sn : Nat} (hs : gsh σ x) (hG : GR v x A t l tx c) (hI : IV A n sn) {b k : Int32} : gj_E X 6 m_X10_item [.ref x, .int b, .int k] lim σ v (q_i lim σ (fun z v' => sp_rd A t l tx c (a_has A b ∧ 0 ≤ k) (l_at (A.2 (iN b)) k) z (GR v' x) ∧ fr v v' x (x + 477))) := by
  obtain ⟨sx, hf, hh, ht, hrn, hia⟩ := id hs
  have hc := hG.2.2.2
  have hn6 := hI.2.1.2.2.2.1
  have hn1 := hI.2.1.2.2.1
  have sf := hf.1
  have sb := hf.2.1
  have ss := hf.2.2.1
  have sw := hf.2.2.2.1
  have hb6 := hf.2.2.2.2.2.2.1
  have hs6 := hf.2.2.2.2.2.2.2.1
  have hw6 := hf.2.2.2.2.2.2.2.2
  have sl := hf.2.2.2.2.1
  have sl1 := sl.1
  have hh1 := hh.1
  have ht1 := ht.1
  have hia1 := hia.1
  refine gj_E_at (L := [some (.ref x), some (.int b), some (.int k)]) (k := 0) rfl (by decide) rfl ?_
  refine g_aload_n (q := 1) dX10_item_0 rfl rfl ?_
  refine g_getR (q := 4) f_X10_10 (by assumption) rfl dX10_item_1 rfl ?_
  refine g_iload_n (q := 5) dX10_item_4 rfl rfl ?_
  refine c_Vi (q := 8) (p_X1_hasBuffer hf hG.1) k_X10_66 (by assumption) rfl (by decide) rfl rfl (Nat.le_of_ble_eq_true rfl) rfl rfl dX10_item_5 rfl ?_
  rintro z w1 ⟨rfl, hw1⟩
  subst w1
  refine g_ifeq (t := 15) (q := 11) dX10_item_8 (by decide) rfl (fun hq8 => ?_) (fun hq8 => ?_)
  · have hq8 := gn_b0 hq8
    refine g_aload_n (q := 16) dX10_item_15 rfl rfl ?_
    refine c_Vi (q := 19) (p_X10_refuseBad hs hG) k_X10_50 (by assumption) rfl (by decide) rfl rfl (Nat.le_of_ble_eq_true rfl) rfl rfl dX10_item_16 rfl ?_
    rintro z w1 ⟨hz1, hG1, E1⟩
    refine r_i dX10_item_19 rfl rfl rfl ?_
    exact ⟨⟨fun h => absurd h (by intro h; first | exact hq8 h.1 | exact hq12 h.2), fun _ => ⟨hz1, hG1⟩⟩, E1⟩
  · have hq8 := gn_b1 hq8
    refine g_iload_n (q := 12) dX10_item_11 rfl rfl ?_
    refine g_ifge (t := 20) (q := 15) dX10_item_12 (by decide) rfl (fun hq12 => ?_) (fun hq12 => ?_)
    · have hcd : a_has A b ∧ 0 ≤ k := And.intro hq8 hq12
      obtain ⟨j, hj, rfl⟩ := a_has_of hI.2.1.1 (by omega) hq8
      have ej : iN (nI j) = j := iN_n (by omega)
      have j6 : j < 6 := by omega
      refine g_aload_n (q := 21) dX10_item_20 rfl rfl ?_
      refine g_getR (q := 24) f_X10_10 (by assumption) rfl dX10_item_21 rfl ?_
      refine g_getR (q := 27) f_X10_70 (by assumption) rfl dX10_item_24 rfl ?_
      refine g_iload_n (q := 28) dX10_item_27 rfl rfl ?_
      refine g_aald (q := 29) (by assumption) rfl rfl (ra_at j6) (by simp) dX10_item_28 rfl ?_
      refine g_getR (q := 32) f_X10_114 (hb6 j j6).1 rfl dX10_item_29 rfl ?_
      refine g_iload_n (q := 33) dX10_item_32 rfl rfl ?_
      refine c_Vi (q := 36) (p_X5_at (hb6 j j6).2.2.1 (hG.1.2.2.1 j j6).2.2.1) k_X10_191 (hb6 j j6).2.2.1.1 rfl (by decide) rfl rfl (Nat.le_of_ble_eq_true rfl) rfl rfl dX10_item_33 rfl ?_
      rintro y w1 ⟨hy1, hw1⟩
      subst w1
      rw [ej]
      refine r_i dX10_item_36 rfl rfl rfl ?_
      exact ⟨⟨fun _ => ⟨hy1, hG⟩, fun h => absurd hcd h⟩, fr.rf _ _ _⟩
    · have hq12 := hq12
      refine g_aload_n (q := 16) dX10_item_15 rfl rfl ?_
      refine c_Vi (q := 19) (p_X10_refuseBad hs hG) k_X10_50 (by assumption) rfl (by decide) rfl rfl (Nat.le_of_ble_eq_true rfl) rfl rfl dX10_item_16 rfl ?_
      rintro z w1 ⟨hz1, hG1, E1⟩
      refine r_i dX10_item_19 rfl rfl rfl ?_
      exact ⟨⟨fun h => absurd h (by intro h; first | exact hq8 h.1 | exact hq12 h.2), fun _ => ⟨hz1, hG1⟩⟩, E1⟩

set_option maxRecDepth 100000 in
set_option maxHeartbeats 4000000 in
theorem p_X10_of {X : gj_X} {lim : Nat} {σ : gj_H} {v : gj_V} {x : Nat} {A : aS} {t : Int32} {l : List (aS × Int32)} {tx : List Int32} {c : Nat → Int32} {n sn : Nat} (hs : gsh σ x) (hG : GR v x A t l tx c) (hI : IV A n sn) {s k : Int32} : gj_E X 6 m_X10_of [.ref x, .int s, .int k] lim σ v (q_i lim σ (fun z v' => sp_rd A t l tx c (a_hasS A s ∧ in_ k 0 6) (as_told (A.1 (20 + iN s)) (iN k)) z (GR v' x) ∧ fr v v' x (x + 477))) := by
  obtain ⟨sx, hf, hh, ht, hrn, hia⟩ := id hs
  have hc := hG.2.2.2
  have hn6 := hI.2.1.2.2.2.1
  have hn1 := hI.2.1.2.2.1
  have sf := hf.1
  have sb := hf.2.1
  have ss := hf.2.2.1
  have sw := hf.2.2.2.1
  have hb6 := hf.2.2.2.2.2.2.1
  have hs6 := hf.2.2.2.2.2.2.2.1
  have hw6 := hf.2.2.2.2.2.2.2.2
  have sl := hf.2.2.2.2.1
  have sl1 := sl.1
  have hh1 := hh.1
  have ht1 := ht.1
  have hia1 := hia.1
  refine gj_E_at (L := [some (.ref x), some (.int s), some (.int k)]) (k := 0) rfl (by decide) rfl ?_
  refine g_aload_n (q := 1) dX10_of_0 rfl rfl ?_
  refine g_getR (q := 4) f_X10_10 (by assumption) rfl dX10_of_1 rfl ?_
  refine g_iload_n (q := 5) dX10_of_4 rfl rfl ?_
  refine c_Vi (q := 8) (p_X1_hasStation hf hG.1) k_X10_101 (by assumption) rfl (by decide) rfl rfl (Nat.le_of_ble_eq_true rfl) rfl rfl dX10_of_5 rfl ?_
  rintro z w1 ⟨rfl, hw1⟩
  subst w1
  refine g_ifeq (t := 21) (q := 11) dX10_of_8 (by decide) rfl (fun hq8 => ?_) (fun hq8 => ?_)
  · have hq8 := gn_b0 hq8
    refine g_aload_n (q := 22) dX10_of_21 rfl rfl ?_
    refine c_Vi (q := 25) (p_X10_refuseBad hs hG) k_X10_50 (by assumption) rfl (by decide) rfl rfl (Nat.le_of_ble_eq_true rfl) rfl rfl dX10_of_22 rfl ?_
    rintro z w1 ⟨hz1, hG1, E1⟩
    refine r_i dX10_of_25 rfl rfl rfl ?_
    exact ⟨⟨fun h => absurd h (by intro h; first | exact hq8 h.1 | exact hq18 h.2), fun _ => ⟨hz1, hG1⟩⟩, E1⟩
  · have hq8 := gn_b1 hq8
    refine g_iload_n (q := 12) dX10_of_11 rfl rfl ?_
    refine g_iconst (q := 13) (x := 0) dX10_of_12 (by decide) rfl ?_
    refine g_bipush (q := 15) (x := 6) dX10_of_13 (by decide) rfl ?_
    refine c_Si (q := 18) p_X10_within k_X10_46 (by decide) rfl rfl (Nat.le_of_ble_eq_true rfl) rfl rfl dX10_of_15 rfl ?_
    rintro z w1 ⟨rfl, hw1⟩
    subst w1
    refine g_ifne (t := 26) (q := 21) dX10_of_18 (by decide) rfl (fun hq18 => ?_) (fun hq18 => ?_)
    · have hq18 := gn_b1 hq18
      have hcd := And.intro hq8 hq18
      obtain ⟨j, hj, rfl⟩ := gn_ix (n := sn) (by have := hI.2.1.2.2.2.2.1; omega) hq8.1 (by rw [← hI.2.1.2.1]; exact hq8.2)
      have j6 : j < 6 := by have := hI.2.1.2.2.2.2.1; omega
      have ej : iN (nI j) = j := iN_n (by omega)
      obtain ⟨k0, hk0, rfl⟩ := gn_0k (n := 6) (m := 6) (by decide) hq18
      have ek : iN (nI k0) = k0 := iN_n (by omega)
      refine g_aload_n (q := 27) dX10_of_26 rfl rfl ?_
      refine g_getR (q := 30) f_X10_10 (by assumption) rfl dX10_of_27 rfl ?_
      refine g_getR (q := 33) f_X10_91 (by assumption) rfl dX10_of_30 rfl ?_
      refine g_iload_n (q := 34) dX10_of_33 rfl rfl ?_
      refine g_aald (q := 35) (by assumption) rfl rfl (ra_at j6) (by simp) dX10_of_34 rfl ?_
      refine g_iload_n (q := 36) dX10_of_35 rfl rfl ?_
      refine c_Vi (q := 39) (p_X7_stationTold (hs6 j j6) (k := k0) (by omega)) k_X10_200 (hs6 j j6) rfl (by decide) rfl rfl (Nat.le_of_ble_eq_true rfl) rfl rfl dX10_of_36 rfl ?_
      rintro y w1 ⟨hy1, hw1⟩
      subst w1
      rw [ej, ek, ← hG.1.2.2.2.1 j j6]
      refine r_i dX10_of_39 rfl rfl rfl ?_
      exact ⟨⟨fun _ => ⟨hy1, hG⟩, fun h => absurd hcd h⟩, fr.rf _ _ _⟩
    · have hq18 := gn_b0 hq18
      refine g_aload_n (q := 22) dX10_of_21 rfl rfl ?_
      refine c_Vi (q := 25) (p_X10_refuseBad hs hG) k_X10_50 (by assumption) rfl (by decide) rfl rfl (Nat.le_of_ble_eq_true rfl) rfl rfl dX10_of_22 rfl ?_
      rintro z w1 ⟨hz1, hG1, E1⟩
      refine r_i dX10_of_25 rfl rfl rfl ?_
      exact ⟨⟨fun h => absurd h (by intro h; first | exact hq8 h.1 | exact hq18 h.2), fun _ => ⟨hz1, hG1⟩⟩, E1⟩

set_option maxRecDepth 100000 in
set_option maxHeartbeats 4000000 in
theorem p_X10_worker {X : gj_X} {lim : Nat} {σ : gj_H} {v : gj_V} {x : Nat} {A : aS} {t : Int32} {l : List (aS × Int32)} {tx : List Int32} {c : Nat → Int32} {n sn : Nat} (hs : gsh σ x) (hG : GR v x A t l tx c) (hI : IV A n sn) {w k : Int32} : gj_E X 6 m_X10_worker [.ref x, .int w, .int k] lim σ v (q_i lim σ (fun z v' => sp_rd A t l tx c (in_ w 0 5 ∧ in_ k 0 4) (aw_told (A.1 (30 + iN w)) (iN k)) z (GR v' x) ∧ fr v v' x (x + 477))) := by
  obtain ⟨sx, hf, hh, ht, hrn, hia⟩ := id hs
  have hc := hG.2.2.2
  have hn6 := hI.2.1.2.2.2.1
  have hn1 := hI.2.1.2.2.1
  have sf := hf.1
  have sb := hf.2.1
  have ss := hf.2.2.1
  have sw := hf.2.2.2.1
  have hb6 := hf.2.2.2.2.2.2.1
  have hs6 := hf.2.2.2.2.2.2.2.1
  have hw6 := hf.2.2.2.2.2.2.2.2
  have sl := hf.2.2.2.2.1
  have sl1 := sl.1
  have hh1 := hh.1
  have ht1 := ht.1
  have hia1 := hia.1
  refine gj_E_at (L := [some (.ref x), some (.int w), some (.int k)]) (k := 0) rfl (by decide) rfl ?_
  refine g_iload_n (q := 1) dX10_worker_0 rfl rfl ?_
  refine c_Si (q := 4) p_X10_isWorker k_X10_135 (by decide) rfl rfl (Nat.le_of_ble_eq_true rfl) rfl rfl dX10_worker_1 rfl ?_
  rintro z w1 ⟨rfl, hw1⟩
  subst w1
  refine g_ifeq (t := 16) (q := 7) dX10_worker_4 (by decide) rfl (fun hq4 => ?_) (fun hq4 => ?_)
  · have hq4 := gn_b0 hq4
    refine g_aload_n (q := 17) dX10_worker_16 rfl rfl ?_
    refine c_Vi (q := 20) (p_X10_refuseBad hs hG) k_X10_50 (by assumption) rfl (by decide) rfl rfl (Nat.le_of_ble_eq_true rfl) rfl rfl dX10_worker_17 rfl ?_
    rintro z w1 ⟨hz1, hG1, E1⟩
    refine r_i dX10_worker_20 rfl rfl rfl ?_
    exact ⟨⟨fun h => absurd h (by intro h; first | exact hq4 h.1 | exact hq13 h.2), fun _ => ⟨hz1, hG1⟩⟩, E1⟩
  · have hq4 := gn_b1 hq4
    refine g_iload_n (q := 8) dX10_worker_7 rfl rfl ?_
    refine g_iconst (q := 9) (x := 0) dX10_worker_8 (by decide) rfl ?_
    refine g_iconst (q := 10) (x := 4) dX10_worker_9 (by decide) rfl ?_
    refine c_Si (q := 13) p_X10_within k_X10_46 (by decide) rfl rfl (Nat.le_of_ble_eq_true rfl) rfl rfl dX10_worker_10 rfl ?_
    rintro z w1 ⟨rfl, hw1⟩
    subst w1
    refine g_ifne (t := 21) (q := 16) dX10_worker_13 (by decide) rfl (fun hq13 => ?_) (fun hq13 => ?_)
    · have hq13 := gn_b1 hq13
      have hcd := And.intro hq4 hq13
      obtain ⟨j, j6, rfl⟩ := gn_05 hq4
      have ej : iN (nI j) = j := iN_n (by omega)
      obtain ⟨k0, hk0, rfl⟩ := gn_0k (n := 4) (m := 4) (by decide) hq13
      have ek : iN (nI k0) = k0 := iN_n (by omega)
      refine g_aload_n (q := 22) dX10_worker_21 rfl rfl ?_
      refine g_getR (q := 25) f_X10_10 (by assumption) rfl dX10_worker_22 rfl ?_
      refine g_getR (q := 28) f_X10_138 (by assumption) rfl dX10_worker_25 rfl ?_
      refine g_iload_n (q := 29) dX10_worker_28 rfl rfl ?_
      refine g_aald (q := 30) (by assumption) rfl rfl (ra_at j6) (by simp) dX10_worker_29 rfl ?_
      refine g_iload_n (q := 31) dX10_worker_30 rfl rfl ?_
      refine c_Vi (q := 34) (p_X9_workerTold (hw6 j j6) (k := k0) (by omega)) k_X10_203 (hw6 j j6) rfl (by decide) rfl rfl (Nat.le_of_ble_eq_true rfl) rfl rfl dX10_worker_31 rfl ?_
      rintro y w1 ⟨hy1, hw1⟩
      subst w1
      rw [ej, ek, ← hG.1.2.2.2.2.1 j j6]
      refine r_i dX10_worker_34 rfl rfl rfl ?_
      exact ⟨⟨fun _ => ⟨hy1, hG⟩, fun h => absurd hcd h⟩, fr.rf _ _ _⟩
    · have hq13 := gn_b0 hq13
      refine g_aload_n (q := 17) dX10_worker_16 rfl rfl ?_
      refine c_Vi (q := 20) (p_X10_refuseBad hs hG) k_X10_50 (by assumption) rfl (by decide) rfl rfl (Nat.le_of_ble_eq_true rfl) rfl rfl dX10_worker_17 rfl ?_
      rintro z w1 ⟨hz1, hG1, E1⟩
      refine r_i dX10_worker_20 rfl rfl rfl ?_
      exact ⟨⟨fun h => absurd h (by intro h; first | exact hq4 h.1 | exact hq13 h.2), fun _ => ⟨hz1, hG1⟩⟩, E1⟩

set_option maxRecDepth 100000 in
set_option maxHeartbeats 4000000 in
theorem p_X10_line {X : gj_X} {lim : Nat} {σ : gj_H} {v : gj_V} {x : Nat} {A : aS} {t : Int32} {l : List (aS × Int32)} {tx : List Int32} {c : Nat → Int32} {n sn : Nat} (hs : gsh σ x) (hG : GR v x A t l tx c) (hI : IV A n sn) {k : Int32} : gj_E X 6 m_X10_line [.ref x, .int k] lim σ v (q_i lim σ (fun z v' => sp_rd A t l tx c (0 ≤ k) (l_at (A.2 20) k) z (GR v' x) ∧ fr v v' x (x + 477))) := by
  obtain ⟨sx, hf, hh, ht, hrn, hia⟩ := id hs
  have hc := hG.2.2.2
  have hn6 := hI.2.1.2.2.2.1
  have hn1 := hI.2.1.2.2.1
  have sf := hf.1
  have sb := hf.2.1
  have ss := hf.2.2.1
  have sw := hf.2.2.2.1
  have hb6 := hf.2.2.2.2.2.2.1
  have hs6 := hf.2.2.2.2.2.2.2.1
  have hw6 := hf.2.2.2.2.2.2.2.2
  have sl := hf.2.2.2.2.1
  have sl1 := sl.1
  have hh1 := hh.1
  have ht1 := ht.1
  have hia1 := hia.1
  refine gj_E_at (L := [some (.ref x), some (.int k)]) (k := 0) rfl (by decide) rfl ?_
  refine g_iload_n (q := 1) dX10_line_0 rfl rfl ?_
  refine g_ifge (t := 9) (q := 4) dX10_line_1 (by decide) rfl (fun hq1 => ?_) (fun hq1 => ?_)
  · refine g_aload_n (q := 10) dX10_line_9 rfl rfl ?_
    refine g_getR (q := 13) f_X10_10 (by assumption) rfl dX10_line_10 rfl ?_
    refine g_getR (q := 16) f_X10_158 (by assumption) rfl dX10_line_13 rfl ?_
    refine g_iload_n (q := 17) dX10_line_16 rfl rfl ?_
    refine c_Vi (q := 20) (p_X5_at sl hG.1.2.2.2.2.2) k_X10_191 sl1 rfl (by decide) rfl rfl (Nat.le_of_ble_eq_true rfl) rfl rfl dX10_line_17 rfl ?_
    rintro y w1 ⟨hy1, hw1⟩
    subst w1
    refine r_i dX10_line_20 rfl rfl rfl ?_
    exact ⟨⟨fun _ => ⟨hy1, hG⟩, fun h => absurd hq1 h⟩, fr.rf _ _ _⟩
  · refine g_aload_n (q := 5) dX10_line_4 rfl rfl ?_
    refine c_Vi (q := 8) (p_X10_refuseBad hs hG) k_X10_50 (by assumption) rfl (by decide) rfl rfl (Nat.le_of_ble_eq_true rfl) rfl rfl dX10_line_5 rfl ?_
    rintro z w1 ⟨hz1, hG1, E1⟩
    refine r_i dX10_line_8 rfl rfl rfl ?_
    exact ⟨⟨fun h => absurd h (by intro h; first | exact hq1 h), fun _ => ⟨hz1, hG1⟩⟩, E1⟩

set_option maxRecDepth 100000 in
set_option maxHeartbeats 4000000 in
theorem p_X10_works {X : gj_X} {lim : Nat} {σ : gj_H} {v : gj_V} {x : Nat} {A : aS} {t : Int32} {l : List (aS × Int32)} {tx : List Int32} {c : Nat → Int32} {n sn : Nat} (hs : gsh σ x) (hG : GR v x A t l tx c) (hI : IV A n sn) {k : Int32} : gj_E X 6 m_X10_works [.ref x, .int k] lim σ v (q_i lim σ (fun z v' => sp_rd A t l tx c (in_ k 0 9) (a_wt A (nn A) t (iN k)) z (GR v' x) ∧ fr v v' x (x + 477))) := by
  obtain ⟨sx, hf, hh, ht, hrn, hia⟩ := id hs
  have hc := hG.2.2.2
  have hn6 := hI.2.1.2.2.2.1
  have hn1 := hI.2.1.2.2.1
  have sf := hf.1
  have sb := hf.2.1
  have ss := hf.2.2.1
  have sw := hf.2.2.2.1
  have hb6 := hf.2.2.2.2.2.2.1
  have hs6 := hf.2.2.2.2.2.2.2.1
  have hw6 := hf.2.2.2.2.2.2.2.2
  have sl := hf.2.2.2.2.1
  have sl1 := sl.1
  have hh1 := hh.1
  have ht1 := ht.1
  have hia1 := hia.1
  refine gj_E_at (L := [some (.ref x), some (.int k)]) (k := 0) rfl (by decide) rfl ?_
  refine g_iload_n (q := 1) dX10_works_0 rfl rfl ?_
  refine g_iconst (q := 2) (x := 0) dX10_works_1 (by decide) rfl ?_
  refine g_bipush (q := 4) (x := 9) dX10_works_2 (by decide) rfl ?_
  refine c_Si (q := 7) p_X10_within k_X10_46 (by decide) rfl rfl (Nat.le_of_ble_eq_true rfl) rfl rfl dX10_works_4 rfl ?_
  rintro z w1 ⟨rfl, hw1⟩
  subst w1
  refine g_ifne (t := 15) (q := 10) dX10_works_7 (by decide) rfl (fun hq7 => ?_) (fun hq7 => ?_)
  · have hq7 := gn_b1 hq7
    have hcd := hq7
    obtain ⟨k0, hk0, rfl⟩ := gn_0k (n := 9) (m := 9) (by decide) hq7
    have ek : iN (nI k0) = k0 := iN_n (by omega)
    refine g_aload_n (q := 16) dX10_works_15 rfl rfl ?_
    refine g_getR (q := 19) f_X10_10 (by assumption) rfl dX10_works_16 rfl ?_
    refine g_iload_n (q := 20) dX10_works_19 rfl rfl ?_
    refine c_Vi (q := 23) (p_X1_worksTold hf hG.1 hI.2.1.1 hn6 (k := k0) (by omega)) k_X10_206 sf rfl (by decide) rfl rfl (Nat.le_of_ble_eq_true rfl) rfl rfl dX10_works_20 rfl ?_
    rintro y w1 ⟨hy1, hw1⟩
    subst w1
    rw [nn_eq hI, ek]
    refine r_i dX10_works_23 rfl rfl rfl ?_
    exact ⟨⟨fun _ => ⟨hy1, hG⟩, fun h => absurd hcd h⟩, fr.rf _ _ _⟩
  · have hq7 := gn_b0 hq7
    refine g_aload_n (q := 11) dX10_works_10 rfl rfl ?_
    refine c_Vi (q := 14) (p_X10_refuseBad hs hG) k_X10_50 (by assumption) rfl (by decide) rfl rfl (Nat.le_of_ble_eq_true rfl) rfl rfl dX10_works_11 rfl ?_
    rintro z w1 ⟨hz1, hG1, E1⟩
    refine r_i dX10_works_14 rfl rfl rfl ?_
    exact ⟨⟨fun h => absurd h (by intro h; first | exact hq7 h), fun _ => ⟨hz1, hG1⟩⟩, E1⟩

set_option maxRecDepth 100000 in
set_option maxHeartbeats 4000000 in
theorem p_X10_stuck {X : gj_X} {lim : Nat} {σ : gj_H} {v : gj_V} {x : Nat} {A : aS} {t : Int32} {l : List (aS × Int32)} {tx : List Int32} {c : Nat → Int32} {n sn : Nat} (hs : gsh σ x) (hG : GR v x A t l tx c) (hI : IV A n sn)  : gj_E X 6 m_X10_stuck [.ref x] lim σ v (q_i lim σ (fun z v' => sp_rd A t l tx c (True) (a_bits (nn A) A 6 0 0) z (GR v' x) ∧ fr v v' x (x + 477))) := by
  obtain ⟨sx, hf, hh, ht, hrn, hia⟩ := id hs
  have hc := hG.2.2.2
  have hn6 := hI.2.1.2.2.2.1
  have hn1 := hI.2.1.2.2.1
  have sf := hf.1
  have sb := hf.2.1
  have ss := hf.2.2.1
  have sw := hf.2.2.2.1
  have hb6 := hf.2.2.2.2.2.2.1
  have hs6 := hf.2.2.2.2.2.2.2.1
  have hw6 := hf.2.2.2.2.2.2.2.2
  have sl := hf.2.2.2.2.1
  have sl1 := sl.1
  have hh1 := hh.1
  have ht1 := ht.1
  have hia1 := hia.1
  refine gj_E_at (L := [some (.ref x)]) (k := 0) rfl (by decide) rfl ?_
  refine g_aload_n (q := 1) dX10_stuck_0 rfl rfl ?_
  refine g_getR (q := 4) f_X10_10 (by assumption) rfl dX10_stuck_1 rfl ?_
  refine c_Vi (q := 7) (p_X1_stuckBits hf hG.1 hI.2.1.1 hn6) k_X10_194 sf rfl (by decide) rfl rfl (Nat.le_of_ble_eq_true rfl) rfl rfl dX10_stuck_4 rfl ?_
  rintro y w1 ⟨hy1, hw1⟩
  subst w1
  rw [nn_eq hI]
  refine r_i dX10_stuck_7 rfl rfl rfl ?_
  exact ⟨⟨fun _ => ⟨hy1, hG⟩, fun h => absurd trivial h⟩, fr.rf _ _ _⟩

set_option maxRecDepth 100000 in
set_option maxHeartbeats 4000000 in
theorem p_X10_toldOf {X : gj_X} {lim : Nat} {σ : gj_H} {v : gj_V} {x : Nat} {A : aS} {t : Int32} {l : List (aS × Int32)} {tx : List Int32} {c : Nat → Int32} (hs : gsh σ x) (hG : GR v x A t l tx c) {k : Nat} (hk : k < 5) : gj_E X 0 m_X10_toldOf [.ref x, .int (nI k)] lim σ v (q_i lim σ (fun z v' => z = z_told l tx c k ∧ v' = v)) := by
  obtain ⟨sx, hf, hh, ht, hrn, hia⟩ := id hs
  have hc := hG.2.2.2
  have hh1 := hh.1
  have ht1 := ht.1
  rcases (show k = 0 ∨ k = 1 ∨ k = 2 ∨ k = 3 ∨ k = 4 by omega) with rfl | rfl | rfl | rfl | rfl
  · refine gj_E_at (L := [some (.ref x), some (.int (nI 0))]) (k := 0) rfl (by decide) rfl ?_
    refine g_iload_n (q := 1) dX10_toldOf_0 rfl rfl ?_
    refine g_tableIn (t := 32) (o := 31) dX10_toldOf_1 (by decide) (by decide) (by decide) (by decide) ?_
    refine g_aload_n (q := 33) dX10_toldOf_32 rfl rfl ?_
    refine g_getI (q := 36) f_X10_251 (by assumption) rfl dX10_toldOf_33 rfl ?_
    refine r_i dX10_toldOf_36 rfl rfl rfl ?_
    exact ⟨by rw [hc]; rfl, rfl⟩
  · refine gj_E_at (L := [some (.ref x), some (.int (nI 1))]) (k := 0) rfl (by decide) rfl ?_
    refine g_iload_n (q := 1) dX10_toldOf_0 rfl rfl ?_
    refine g_tableIn (t := 37) (o := 36) dX10_toldOf_1 (by decide) (by decide) (by decide) (by decide) ?_
    refine g_aload_n (q := 38) dX10_toldOf_37 rfl rfl ?_
    refine g_getI (q := 41) f_X10_254 (by assumption) rfl dX10_toldOf_38 rfl ?_
    refine r_i dX10_toldOf_41 rfl rfl rfl ?_
    exact ⟨by rw [hc]; rfl, rfl⟩
  · refine gj_E_at (L := [some (.ref x), some (.int (nI 2))]) (k := 0) rfl (by decide) rfl ?_
    refine g_iload_n (q := 1) dX10_toldOf_0 rfl rfl ?_
    refine g_tableIn (t := 42) (o := 41) dX10_toldOf_1 (by decide) (by decide) (by decide) (by decide) ?_
    refine g_aload_n (q := 43) dX10_toldOf_42 rfl rfl ?_
    refine g_getI (q := 46) f_X10_257 (by assumption) rfl dX10_toldOf_43 rfl ?_
    refine r_i dX10_toldOf_46 rfl rfl rfl ?_
    exact ⟨by rw [hc]; rfl, rfl⟩
  · refine gj_E_at (L := [some (.ref x), some (.int (nI 3))]) (k := 0) rfl (by decide) rfl ?_
    refine g_iload_n (q := 1) dX10_toldOf_0 rfl rfl ?_
    refine g_tableIn (t := 47) (o := 46) dX10_toldOf_1 (by decide) (by decide) (by decide) (by decide) ?_
    refine g_aload_n (q := 48) dX10_toldOf_47 rfl rfl ?_
    refine g_getR (q := 51) f_X10_26 (by assumption) rfl dX10_toldOf_48 rfl ?_
    refine g_getI (q := 54) f_X10_215 (by assumption) rfl dX10_toldOf_51 rfl ?_
    refine r_i dX10_toldOf_54 rfl rfl rfl ?_
    exact ⟨hG.2.2.1.1, rfl⟩
  · refine gj_E_at (L := [some (.ref x), some (.int (nI 4))]) (k := 0) rfl (by decide) rfl ?_
    refine g_iload_n (q := 1) dX10_toldOf_0 rfl rfl ?_
    refine g_tableOut (t := 55) dX10_toldOf_1 (by decide) (by decide) ?_
    refine g_aload_n (q := 56) dX10_toldOf_55 rfl rfl ?_
    refine g_getR (q := 59) f_X10_19 (by assumption) rfl dX10_toldOf_56 rfl ?_
    refine g_getI (q := 62) f_X10_224 (by assumption) rfl dX10_toldOf_59 rfl ?_
    refine r_i dX10_toldOf_62 rfl rfl rfl ?_
    obtain ⟨nx, hH⟩ := hG.2.1
    exact ⟨hH.2.2.1, rfl⟩


set_option maxRecDepth 100000 in
set_option maxHeartbeats 4000000 in
theorem p_X10_told {X : gj_X} {lim : Nat} {σ : gj_H} {v : gj_V} {x : Nat} {A : aS} {t : Int32} {l : List (aS × Int32)} {tx : List Int32} {c : Nat → Int32} {n sn : Nat} (hs : gsh σ x) (hG : GR v x A t l tx c) (hI : IV A n sn) {k : Int32} : gj_E X 6 m_X10_told [.ref x, .int k] lim σ v (q_i lim σ (fun z v' => sp_rd A t l tx c (in_ k 0 4) (z_told l tx c (iN k)) z (GR v' x) ∧ fr v v' x (x + 477))) := by
  obtain ⟨sx, hf, hh, ht, hrn, hia⟩ := id hs
  have hc := hG.2.2.2
  have hn6 := hI.2.1.2.2.2.1
  have hn1 := hI.2.1.2.2.1
  have sf := hf.1
  have sb := hf.2.1
  have ss := hf.2.2.1
  have sw := hf.2.2.2.1
  have hb6 := hf.2.2.2.2.2.2.1
  have hs6 := hf.2.2.2.2.2.2.2.1
  have hw6 := hf.2.2.2.2.2.2.2.2
  have sl := hf.2.2.2.2.1
  have sl1 := sl.1
  have hh1 := hh.1
  have ht1 := ht.1
  have hia1 := hia.1
  refine gj_E_at (L := [some (.ref x), some (.int k)]) (k := 0) rfl (by decide) rfl ?_
  refine g_iload_n (q := 1) dX10_told_0 rfl rfl ?_
  refine g_iconst (q := 2) (x := 0) dX10_told_1 (by decide) rfl ?_
  refine g_iconst (q := 3) (x := 4) dX10_told_2 (by decide) rfl ?_
  refine c_Si (q := 6) p_X10_within k_X10_46 (by decide) rfl rfl (Nat.le_of_ble_eq_true rfl) rfl rfl dX10_told_3 rfl ?_
  rintro z w1 ⟨rfl, hw1⟩
  subst w1
  refine g_ifne (t := 14) (q := 9) dX10_told_6 (by decide) rfl (fun hq6 => ?_) (fun hq6 => ?_)
  · have hq6 := gn_b1 hq6
    have hcd := hq6
    obtain ⟨k0, hk0, rfl⟩ := gn_0k (n := 4) (m := 4) (by decide) hq6
    have ek : iN (nI k0) = k0 := iN_n (by omega)
    refine g_aload_n (q := 15) dX10_told_14 rfl rfl ?_
    refine g_iload_n (q := 16) dX10_told_15 rfl rfl ?_
    refine c_Vi (q := 19) (p_X10_toldOf hs hG (k := k0) (by omega)) k_X10_226 sx rfl (by decide) rfl rfl (Nat.le_of_ble_eq_true rfl) rfl rfl dX10_told_16 rfl ?_
    rintro y w1 ⟨hy1, hw1⟩
    subst w1
    rw [ek]
    refine r_i dX10_told_19 rfl rfl rfl ?_
    exact ⟨⟨fun _ => ⟨hy1, hG⟩, fun h => absurd hcd h⟩, fr.rf _ _ _⟩
  · have hq6 := gn_b0 hq6
    refine g_aload_n (q := 10) dX10_told_9 rfl rfl ?_
    refine c_Vi (q := 13) (p_X10_refuseBad hs hG) k_X10_50 (by assumption) rfl (by decide) rfl rfl (Nat.le_of_ble_eq_true rfl) rfl rfl dX10_told_10 rfl ?_
    rintro z w1 ⟨hz1, hG1, E1⟩
    refine r_i dX10_told_13 rfl rfl rfl ?_
    exact ⟨⟨fun h => absurd h (by intro h; first | exact hq6 h), fun _ => ⟨hz1, hG1⟩⟩, E1⟩
