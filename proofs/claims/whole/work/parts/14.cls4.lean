/-! ===== Floor ===== -/
abbrev a_has (A : aS) (b : Int32) : Prop := ¬ b < 0 ∧ ¬ A.1 40 5 ≤ b
abbrev a_hasS (A : aS) (s : Int32) : Prop := ¬ s < 0 ∧ ¬ A.1 40 6 ≤ s
theorem sB_items (A : aS) (b : Nat) (l : List Int32) (hb : b < 6) : sB A b ((gB A b).1, (gB A b).2.1, l, (gB A b).2.2.2) = sL A b l := by
  simp only [sB, gB, sL]
  rw [vu_id, vu_id]
  congr 1
  funext j
  by_cases h : j = 10 + b
  · subst h; rw [vu_s, vu_n _ _ (by omega)]
  · rw [vu_n _ _ h]
theorem sB_queue (A : aS) (b : Nat) (l : List Int32) (hb : b < 6) : sB A b ((gB A b).1, (gB A b).2.1, (gB A b).2.2.1, l) = sL A (10 + b) l := by
  simp only [sB, gB, sL]
  rw [vu_id, vu_id, vu_id]
theorem sB_row (A : aS) (b : Nat) (g : Nat → Int32) (hb : b < 6) : sB A b ((gB A b).1, g, (gB A b).2.2) = sR A (10 + b) g := by
  simp only [sB, gB, sR]
  rw [vu_id, vu_id, vu_id]

set_option maxRecDepth 100000 in
set_option maxHeartbeats 4000000 in
theorem p_X1_hasBuffer {X : gj_X} {lim : Nat} {σ : gj_H} {v : gj_V} {f : Nat} {A : aS} {t : Int32} (hs : fsh σ f) (hC : CR v f A t) {b : Int32} : gj_E X 0 m_X1_hasBuffer [.ref f, .int b] lim σ v (q_i lim σ (fun x v' => x = (if a_has A b then 1 else 0) ∧ v' = v)) := by
  obtain ⟨sf, sb, ss, sw, sl, sm, hb6, hs6, hw6⟩ := id hs
  refine gj_E_at (L := [some (.ref f), some (.int b)]) (k := 0) rfl (by decide) rfl ?_
  refine g_iload_n (q := 1) dX1_hasBuffer_0 rfl rfl ?_
  refine g_iflt (t := 16) (q := 4) dX1_hasBuffer_1 (by decide) rfl (fun hq1 => ?_) (fun hq1 => ?_)
  · refine g_iconst (q := 17) (x := 0) dX1_hasBuffer_16 (by decide) rfl ?_
    refine r_z dX1_hasBuffer_17 rfl rfl rfl (by decide) ?_
    refine ⟨?_, rfl⟩
    first | (rw [if_neg (fun h => h.1 hq1)]; done) | (rw [if_neg (fun h => h.2 hq9)]; done) | (rw [if_pos ⟨hq1, hq9⟩]; done)
  · refine g_iload_n (q := 5) dX1_hasBuffer_4 rfl rfl ?_
    refine g_aload_n (q := 6) dX1_hasBuffer_5 rfl rfl ?_
    refine g_getI (q := 9) f_X1_58 (by assumption) rfl dX1_hasBuffer_6 rfl ?_
    refine g_icmpge (t := 16) (q := 12) dX1_hasBuffer_9 (by decide) rfl (fun hq9 => ?_) (fun hq9 => ?_)
    · rw [hC.fl 5 (by decide)] at hq9
      refine g_iconst (q := 17) (x := 0) dX1_hasBuffer_16 (by decide) rfl ?_
      refine r_z dX1_hasBuffer_17 rfl rfl rfl (by decide) ?_
      refine ⟨?_, rfl⟩
      first | (rw [if_neg (fun h => h.1 hq1)]; done) | (rw [if_neg (fun h => h.2 hq9)]; done) | (rw [if_pos ⟨hq1, hq9⟩]; done)
    · rw [hC.fl 5 (by decide)] at hq9
      refine g_iconst (q := 13) (x := 1) dX1_hasBuffer_12 (by decide) rfl ?_
      refine g_goto (q := 17) dX1_hasBuffer_13 (by decide) ?_
      refine r_z dX1_hasBuffer_17 rfl rfl rfl (by decide) ?_
      refine ⟨?_, rfl⟩
      first | (rw [if_neg (fun h => h.1 hq1)]; done) | (rw [if_neg (fun h => h.2 hq9)]; done) | (rw [if_pos ⟨hq1, hq9⟩]; done)

set_option maxRecDepth 100000 in
set_option maxHeartbeats 4000000 in
theorem p_X1_hasStation {X : gj_X} {lim : Nat} {σ : gj_H} {v : gj_V} {f : Nat} {A : aS} {t : Int32} (hs : fsh σ f) (hC : CR v f A t) {b : Int32} : gj_E X 0 m_X1_hasStation [.ref f, .int b] lim σ v (q_i lim σ (fun x v' => x = (if a_hasS A b then 1 else 0) ∧ v' = v)) := by
  obtain ⟨sf, sb, ss, sw, sl, sm, hb6, hs6, hw6⟩ := id hs
  refine gj_E_at (L := [some (.ref f), some (.int b)]) (k := 0) rfl (by decide) rfl ?_
  refine g_iload_n (q := 1) dX1_hasStation_0 rfl rfl ?_
  refine g_iflt (t := 16) (q := 4) dX1_hasStation_1 (by decide) rfl (fun hq1 => ?_) (fun hq1 => ?_)
  · refine g_iconst (q := 17) (x := 0) dX1_hasStation_16 (by decide) rfl ?_
    refine r_z dX1_hasStation_17 rfl rfl rfl (by decide) ?_
    refine ⟨?_, rfl⟩
    first | (rw [if_neg (fun h => h.1 hq1)]; done) | (rw [if_neg (fun h => h.2 hq9)]; done) | (rw [if_pos ⟨hq1, hq9⟩]; done)
  · refine g_iload_n (q := 5) dX1_hasStation_4 rfl rfl ?_
    refine g_aload_n (q := 6) dX1_hasStation_5 rfl rfl ?_
    refine g_getI (q := 9) f_X1_61 (by assumption) rfl dX1_hasStation_6 rfl ?_
    refine g_icmpge (t := 16) (q := 12) dX1_hasStation_9 (by decide) rfl (fun hq9 => ?_) (fun hq9 => ?_)
    · rw [hC.fl 6 (by decide)] at hq9
      refine g_iconst (q := 17) (x := 0) dX1_hasStation_16 (by decide) rfl ?_
      refine r_z dX1_hasStation_17 rfl rfl rfl (by decide) ?_
      refine ⟨?_, rfl⟩
      first | (rw [if_neg (fun h => h.1 hq1)]; done) | (rw [if_neg (fun h => h.2 hq9)]; done) | (rw [if_pos ⟨hq1, hq9⟩]; done)
    · rw [hC.fl 6 (by decide)] at hq9
      refine g_iconst (q := 13) (x := 1) dX1_hasStation_12 (by decide) rfl ?_
      refine g_goto (q := 17) dX1_hasStation_13 (by decide) ?_
      refine r_z dX1_hasStation_17 rfl rfl rfl (by decide) ?_
      refine ⟨?_, rfl⟩
      first | (rw [if_neg (fun h => h.1 hq1)]; done) | (rw [if_neg (fun h => h.2 hq9)]; done) | (rw [if_pos ⟨hq1, hq9⟩]; done)

set_option maxRecDepth 100000 in
set_option maxHeartbeats 4000000 in
theorem p_X1_hasBufferOrNone {X : gj_X} {lim : Nat} {σ : gj_H} {v : gj_V} {f : Nat} {A : aS} {t : Int32} (hs : fsh σ f) (hC : CR v f A t) {b : Int32} : gj_E X 1 m_X1_hasBufferOrNone [.ref f, .int b] lim σ v (q_i lim σ (fun x v' => x = (if b = -1 ∨ a_has A b then 1 else 0) ∧ v' = v)) := by
  obtain ⟨sf, sb, ss, sw, sl, sm, hb6, hs6, hw6⟩ := id hs
  refine gj_E_at (L := [some (.ref f), some (.int b)]) (k := 0) rfl (by decide) rfl ?_
  refine g_iload_n (q := 1) dX1_hasBufferOrNone_0 rfl rfl ?_
  refine g_iconst (q := 2) (x := (-1)) dX1_hasBufferOrNone_1 (by decide) rfl ?_
  refine g_icmpeq (t := 13) (q := 5) dX1_hasBufferOrNone_2 (by decide) rfl (fun hq2 => ?_) (fun hq2 => ?_)
  · refine g_iconst (q := 14) (x := 1) dX1_hasBufferOrNone_13 (by decide) rfl ?_
    refine g_goto (q := 18) dX1_hasBufferOrNone_14 (by decide) ?_
    refine r_z dX1_hasBufferOrNone_18 rfl rfl rfl (by decide) ?_
    refine ⟨?_, rfl⟩
    first | (rw [if_pos (Or.inl hq2)]; done) | (rw [if_pos (Or.inr hq10)]; done) | (rw [if_neg (fun h => h.elim hq2 hq10)]; done)
  · refine g_aload_n (q := 6) dX1_hasBufferOrNone_5 rfl rfl ?_
    refine g_iload_n (q := 7) dX1_hasBufferOrNone_6 rfl rfl ?_
    refine c_Vi (q := 10) (p_X1_hasBuffer hs hC) k_X1_70 (by assumption) rfl (by decide) rfl rfl (Nat.le_of_ble_eq_true rfl) rfl rfl dX1_hasBufferOrNone_7 rfl ?_
    rintro x vq1 ⟨rfl, hvq1⟩
    subst vq1
    refine g_ifeq (t := 17) (q := 13) dX1_hasBufferOrNone_10 (by decide) rfl (fun hq10 => ?_) (fun hq10 => ?_)
    · have hq10 := gn_b0 hq10
      refine g_iconst (q := 18) (x := 0) dX1_hasBufferOrNone_17 (by decide) rfl ?_
      refine r_z dX1_hasBufferOrNone_18 rfl rfl rfl (by decide) ?_
      refine ⟨?_, rfl⟩
      first | (rw [if_pos (Or.inl hq2)]; done) | (rw [if_pos (Or.inr hq10)]; done) | (rw [if_neg (fun h => h.elim hq2 hq10)]; done)
    · have hq10 := gn_b1 hq10
      refine g_iconst (q := 14) (x := 1) dX1_hasBufferOrNone_13 (by decide) rfl ?_
      refine g_goto (q := 18) dX1_hasBufferOrNone_14 (by decide) ?_
      refine r_z dX1_hasBufferOrNone_18 rfl rfl rfl (by decide) ?_
      refine ⟨?_, rfl⟩
      first | (rw [if_pos (Or.inl hq2)]; done) | (rw [if_pos (Or.inr hq10)]; done) | (rw [if_neg (fun h => h.elim hq2 hq10)]; done)

set_option maxRecDepth 100000 in
set_option maxHeartbeats 4000000 in
theorem p_X1_moveOne {X : gj_X} {lim : Nat} {σ : gj_H} {v : gj_V} {f : Nat} {A : aS} {t : Int32} (hs : fsh σ f) (hC : CR v f A t) {i j : Nat} (hv : ivB A) (hi : i < 6) (hj : j < 6) (hij : i ≠ j) : gj_E X 2 m_X1_moveOne [.ref (f + 7 + 6 * i), .ref (f + 7 + 6 * j)] lim σ v (q_i lim σ (fun x v' => x = (a_mv1 A i j).1 ∧ CR v' f (a_mv1 A i j).2 t ∧ fr v v' f (f + 55))) := by
  obtain ⟨sf, sb, ss, sw, sl, sm, hb6, hs6, hw6⟩ := id hs
  refine gj_E_at (L := [some (.ref (f + 7 + 6 * i)), some (.ref (f + 7 + 6 * j)), none]) (k := 1) rfl (by decide) rfl ?_
  refine g_aload_n (q := 1) dX1_moveOne_0 rfl rfl ?_
  refine g_iconst (q := 2) (x := (-1)) dX1_moveOne_1 (by decide) rfl ?_
  refine c_Vi (q := 5) (p_X0_take (hb6 i hi) (hC.2.2.1 i hi)) k_X1_97 (hb6 i hi).1 rfl (by decide) rfl rfl (Nat.le_of_ble_eq_true rfl) rfl rfl dX1_moveOne_2 rfl ?_
  rintro x vq1 ⟨hxq1, hBq1, Fq1⟩
  have hCq1 : CR vq1 f (a_take A i (-1)).2 t := hC.buf hi hBq1 Fq1
  have G1 : fr v vq1 f (f + 55) := Fq1.wide (by omega) (by omega)
  have hxq1 : x = (a_take A i (-1)).1 := hxq1
  refine g_istore_n (q := 6) dX1_moveOne_5 rfl rfl rfl rfl ?_
  dsimp only [List.set]
  refine g_iload_n (q := 7) dX1_moveOne_6 rfl rfl ?_
  refine g_bipush (q := 9) (x := (-5)) dX1_moveOne_7 (by decide) rfl ?_
  refine g_icmpne (t := 14) (q := 12) dX1_moveOne_9 (by decide) rfl (fun hq9 => ?_) (fun hq9 => ?_)
  · rw [hxq1] at hq9
    obtain ⟨hl1, hl2⟩ := a_take_len hv hi hq9
    have hk := (b_take_kind (hv i hi) hq9).2.2
    refine g_aload_n (q := 15) dX1_moveOne_14 rfl rfl ?_
    refine g_iload_n (q := 16) dX1_moveOne_15 rfl rfl ?_
    refine g_iconst (q := 17) (x := (-1)) dX1_moveOne_16 (by decide) rfl ?_
    refine c_Vi (q := 20) (p_X0_put (hb6 j hj) (hCq1.2.2.1 j hj) ((ivB_take hv hi) j hj).1) k_X1_101 (hb6 j hj).1 rfl (by decide) rfl rfl (Nat.le_of_ble_eq_true rfl) rfl rfl dX1_moveOne_17 rfl ?_
    rintro z vq2 ⟨hxq2, hBq2, Fq2⟩
    rw [hxq1] at hxq2 hBq2
    have hCq2 : CR vq2 f (a_put (a_take A i (-1)).2 j (a_take A i (-1)).1 (-1)).2 t := hCq1.buf hj hBq2 Fq2
    have G2 : fr v vq2 f (f + 55) := G1.tr (Fq2.wide (by omega) (by omega))
    have hxq2 : z = (a_put (a_take A i (-1)).2 j (a_take A i (-1)).1 (-1)).1 := hxq2
    have el : (a_put (a_take A i (-1)).2 j (a_take A i (-1)).1 (-1)).2.2 i = (a_take A i (-1)).2.2 i := sB_l _ _ _ _ hij (by omega)
    refine g_ifne (t := 33) (q := 23) dX1_moveOne_20 (by decide) rfl (fun hq20 => ?_) (fun hq20 => ?_)
    · rw [hxq2] at hq20
      refine g_iconst (q := 34) (x := 1) dX1_moveOne_33 (by decide) rfl ?_
      refine r_z dX1_moveOne_34 rfl rfl rfl (by decide) ?_
      rw [a_mv1, if_neg hq9, if_neg hq20]
      exact ⟨rfl, hCq2, G2⟩
    · rw [hxq2] at hq20
      refine g_aload_n (q := 24) dX1_moveOne_23 rfl rfl ?_
      refine g_getR (q := 27) f_X1_105 (hb6 i hi).1 rfl dX1_moveOne_24 rfl ?_
      refine g_iload_n (q := 28) dX1_moveOne_27 rfl rfl ?_
      refine c_Vv (q := 31) (p_X5_addFirst (hb6 i hi).2.2.1 (hCq2.2.2.1 i hi).2.2.1 (by show ((a_put (a_take A i (-1)).2 j (a_take A i (-1)).1 (-1)).2.2 i).length < 6; rw [el]; exact hl1)) k_X1_108 (hb6 i hi).2.2.1.1 rfl (by decide) rfl rfl (Nat.le_of_ble_eq_true rfl) rfl rfl dX1_moveOne_28 rfl ?_
      rintro vq3 ⟨hrq3, hfq3⟩
      rw [hxq1] at hrq3
      have hBq3 := (hCq2.2.2.1 i hi).it hrq3 hfq3
      have hCq3 := hCq2.buf hi hBq3 (hfq3.fr (by omega) (by omega))
      rw [sB_items _ _ _ hi] at hCq3
      have G3 : fr v vq3 f (f + 55) := G2.tr (hfq3.fr (by omega) (by omega))
      refine g_iconst (q := 32) (x := 0) dX1_moveOne_31 (by decide) rfl ?_
      refine r_z dX1_moveOne_32 rfl rfl rfl (by decide) ?_
      rw [a_mv1, if_neg hq9, if_pos hq20]
      exact ⟨rfl, hCq3, G3⟩
  · rw [hxq1] at hq9
    refine g_iconst (q := 13) (x := 0) dX1_moveOne_12 (by decide) rfl ?_
    refine r_z dX1_moveOne_13 rfl rfl rfl (by decide) ?_
    first | (rw [a_mv1, if_pos hq9]; exact ⟨rfl, hCq1, G1⟩)

set_option maxRecDepth 100000 in
set_option maxHeartbeats 4000000 in
theorem p_X1_leaveBoth {X : gj_X} {lim : Nat} {σ : gj_H} {v : gj_V} {f : Nat} {A : aS} {t : Int32} (hs : fsh σ f) (hC : CR v f A t) {i j : Nat} {c : Prop} [Decidable c] (hi : i < 6) (hj : j < 6) : gj_E X 1 m_X1_leaveBoth [.ref (f + 7 + 6 * i + 1), .ref (f + 7 + 6 * j + 1), .int (if c then 1 else 0)] lim σ v (q_v lim σ (fun v' => CR v' f (a_two A i j (decide c)) t ∧ fr v v' f (f + 55))) := by
  obtain ⟨sf, sb, ss, sw, sl, sm, hb6, hs6, hw6⟩ := id hs
  have hCq0 := hC
  have G0 : fr v v f (f + 55) := fr.rf _ _ _
  refine gj_E_at (L := [some (.ref (f + 7 + 6 * i + 1)), some (.ref (f + 7 + 6 * j + 1)), some (.int (if c then 1 else 0))]) (k := 0) rfl (by decide) rfl ?_
  refine g_iload_n (q := 1) dX1_leaveBoth_0 rfl rfl ?_
  refine g_ifeq (t := 15) (q := 4) dX1_leaveBoth_1 (by decide) rfl (fun hq1 => ?_) (fun hq1 => ?_)
  · have hq1 := gn_b0 hq1
    refine g_aload_n (q := 16) dX1_leaveBoth_15 rfl rfl ?_
    refine c_Vv (q := 19) (p_X2_leave (hb6 j hj).2.1) k_X1_114 (hb6 j hj).2.1 rfl (by decide) rfl rfl (Nat.le_of_ble_eq_true rfl) rfl rfl dX1_leaveBoth_16 rfl ?_
    rintro vq1 hvq1
    have hCq1 : CR vq1 f (a_out A j) t := by rw [hvq1, hCq0.gv hj]; exact hCq0.gate hj _
    have G1 : fr v vq1 f (f + 55) := by rw [hvq1]; exact G0.tr (fr.up (by omega) (by omega))
    clear hvq1
    refine g_aload_n (q := 20) dX1_leaveBoth_19 rfl rfl ?_
    refine c_Vv (q := 23) (p_X2_leave (hb6 i hi).2.1) k_X1_114 (hb6 i hi).2.1 rfl (by decide) rfl rfl (Nat.le_of_ble_eq_true rfl) rfl rfl dX1_leaveBoth_20 rfl ?_
    rintro vq2 hvq2
    have hCq2 : CR vq2 f (a_out (a_out A j) i) t := by rw [hvq2, hCq1.gv hi]; exact hCq1.gate hi _
    have G2 : fr v vq2 f (f + 55) := by rw [hvq2]; exact G1.tr (fr.up (by omega) (by omega))
    clear hvq2
    refine r_v dX1_leaveBoth_23 rfl rfl rfl ?_
    first | (rw [a_two, if_pos (by simpa using hq1)]; exact ⟨hCq2, G2⟩) | (rw [a_two, if_neg (by simpa using hq1)]; exact ⟨hCq2, G2⟩)
  · have hq1 := gn_b1 hq1
    refine g_aload_n (q := 5) dX1_leaveBoth_4 rfl rfl ?_
    refine c_Vv (q := 8) (p_X2_leaveThrown (hb6 j hj).2.1) k_X1_111 (hb6 j hj).2.1 rfl (by decide) rfl rfl (Nat.le_of_ble_eq_true rfl) rfl rfl dX1_leaveBoth_5 rfl ?_
    rintro vq1 hvq1
    have hCq1 : CR vq1 f (a_thr A j) t := by rw [hvq1, hCq0.gv hj]; exact hCq0.gate hj _
    have G1 : fr v vq1 f (f + 55) := by rw [hvq1]; exact G0.tr (fr.up (by omega) (by omega))
    clear hvq1
    refine g_aload_n (q := 9) dX1_leaveBoth_8 rfl rfl ?_
    refine c_Vv (q := 12) (p_X2_leaveThrown (hb6 i hi).2.1) k_X1_111 (hb6 i hi).2.1 rfl (by decide) rfl rfl (Nat.le_of_ble_eq_true rfl) rfl rfl dX1_leaveBoth_9 rfl ?_
    rintro vq2 hvq2
    have hCq2 : CR vq2 f (a_thr (a_thr A j) i) t := by rw [hvq2, hCq1.gv hi]; exact hCq1.gate hi _
    have G2 : fr v vq2 f (f + 55) := by rw [hvq2]; exact G1.tr (fr.up (by omega) (by omega))
    clear hvq2
    refine g_goto (q := 23) dX1_leaveBoth_12 (by decide) ?_
    refine r_v dX1_leaveBoth_23 rfl rfl rfl ?_
    first | (rw [a_two, if_pos (by simpa using hq1)]; exact ⟨hCq2, G2⟩) | (rw [a_two, if_neg (by simpa using hq1)]; exact ⟨hCq2, G2⟩)

set_option maxRecDepth 100000 in
set_option maxHeartbeats 4000000 in
theorem p_X1_move {X : gj_X} {lim : Nat} {σ : gj_H} {v : gj_V} {f : Nat} {A : aS} {t : Int32} (hs : fsh σ f) (hC : CR v f A t) {i j n : Nat} (hv : ivB A) (hi : i < 6) (hj : j < 6) (hij : i ≠ j) (hn : n < 100) : gj_E X 3 m_X1_move [.ref f, .int (nI i), .int (nI j), .int (nI n)] lim σ v (q_i lim σ (fun x v' => x = nI (a_move A i j n).1 ∧ CR v' f (a_move A i j n).2 t ∧ fr v v' f (f + 55))) := by
  obtain ⟨sf, sb, ss, sw, sl, sm, hb6, hs6, hw6⟩ := id hs
  have hn0 : n < 100 := hn
  have tl2 : ∀ (w : gj_V) (C : aS), CR w f C t → fr v w f (f + 55) → ∀ m, m ≤ n → gj_G X 3 m_X1_move (q_i lim σ (fun x v' => x = nI m ∧ CR v' f (a_two C (min i j) (max i j) (decide (m < n))) t ∧ fr v v' f (f + 55))) lim σ w 0 0 88 [some (.ref f), some (.int (nI i)), some (.int (nI j)), some (.int (nI n)), some (.ref (f + 7 + 6 * min i j + 1)), some (.ref (f + 7 + 6 * max i j + 1)), some (.int (nI m))] [.int (if m < n then 1 else 0), .ref (f + 7 + 6 * max i j + 1), .ref (f + 7 + 6 * min i j + 1)] := by
    intro w C hCw Gw m hm
    refine c_Sv (q := 91) (p_X1_leaveBoth (c := m < n) hs hCw (by omega : min i j < 6) (by omega : max i j < 6)) k_X1_93 (by decide) rfl rfl (Nat.le_of_ble_eq_true rfl) rfl rfl dX1_move_88 rfl ?_
    rintro w1 ⟨hCw1, Gw1⟩
    refine g_iload (q := 93) dX1_move_91 rfl rfl ?_
    refine r_i dX1_move_93 rfl rfl rfl ?_
    exact ⟨rfl, hCw1, Gw.tr Gw1⟩
  have tail : ∀ (w : gj_V) (C : aS), CR w f C t → fr v w f (f + 55) → ∀ m, m ≤ n → gj_G X 3 m_X1_move (q_i lim σ (fun x v' => x = nI m ∧ CR v' f (a_two C (min i j) (max i j) (decide (m < n))) t ∧ fr v v' f (f + 55))) lim σ w 0 0 73 [some (.ref f), some (.int (nI i)), some (.int (nI j)), some (.int (nI n)), some (.ref (f + 7 + 6 * min i j + 1)), some (.ref (f + 7 + 6 * max i j + 1)), some (.int (nI m))] [] := by
    intro w C hCw Gw m hm
    refine g_aload (q := 75) dX1_move_73 rfl rfl ?_
    refine g_aload (q := 77) dX1_move_75 rfl rfl ?_
    refine g_iload (q := 79) dX1_move_77 rfl rfl ?_
    refine g_iload_n (q := 80) dX1_move_79 rfl rfl ?_
    refine g_icmpge (t := 87) (q := 83) dX1_move_80 (by decide) rfl (fun hq80 => ?_) (fun hq80 => ?_)
    · have hc : ¬ m < n := fun h => nI_ge h (by omega) hq80
      refine g_iconst (q := 88) (x := (if m < n then 1 else 0)) dX1_move_87 (by rw [if_neg hc]; decide) rfl ?_
      exact tl2 w C hCw Gw m hm
    · have hc : m < n := gn_lt hq80 (by omega)
      refine g_iconst (q := 84) (x := (if m < n then 1 else 0)) dX1_move_83 (by rw [if_pos hc]; decide) rfl ?_
      refine g_goto (q := 88) dX1_move_84 (by decide) ?_
      exact tl2 w C hCw Gw m hm
  have loop : ∀ (r : Nat) (C : aS) (w : gj_V), CR w f C t → ivB C → fr v w f (f + 55) → ∀ m, m + r = n → gj_G X 3 m_X1_move (q_i lim σ (fun x v' => x = nI (m + (a_mvs i j r C).1) ∧ CR v' f (a_two (a_mvs i j r C).2 (min i j) (max i j) (decide (m + (a_mvs i j r C).1 < n))) t ∧ fr v v' f (f + 55))) lim σ w 0 0 43 [some (.ref f), some (.int (nI i)), some (.int (nI j)), some (.int (nI n)), some (.ref (f + 7 + 6 * min i j + 1)), some (.ref (f + 7 + 6 * max i j + 1)), some (.int (nI m))] [] := by
    intro r
    induction r with
    | zero =>
      intro C w hCw hvC Gw m hm
      refine g_iload (q := 45) dX1_move_43 rfl rfl ?_
      refine g_iload_n (q := 46) dX1_move_45 rfl rfl ?_
      refine g_icmpge (t := 73) (q := 49) dX1_move_46 (by decide) rfl (fun hq46 => ?_) (fun hq46 => ?_)
      · exact tail w C hCw Gw m (by omega)
      · exact absurd (nI_le (show n ≤ m by omega) (by omega)) hq46
    | succ r ih =>
      intro C w hCw hvC Gw m hm
      refine g_iload (q := 45) dX1_move_43 rfl rfl ?_
      refine g_iload_n (q := 46) dX1_move_45 rfl rfl ?_
      refine g_icmpge (t := 73) (q := 49) dX1_move_46 (by decide) rfl (fun hq46 => ?_) (fun hq46 => ?_)
      · exact absurd (gn_le hq46 (by omega)) (by omega)
      · refine g_aload_n (q := 50) dX1_move_49 rfl rfl ?_
        refine g_getR (q := 53) f_X1_11 (by assumption) rfl dX1_move_50 rfl ?_
        refine g_iload_n (q := 54) dX1_move_53 rfl rfl ?_
        refine g_aald (q := 55) (by assumption) rfl rfl (ra_at hi) (by simp) dX1_move_54 rfl ?_
        refine g_aload_n (q := 56) dX1_move_55 rfl rfl ?_
        refine g_getR (q := 59) f_X1_11 (by assumption) rfl dX1_move_56 rfl ?_
        refine g_iload_n (q := 60) dX1_move_59 rfl rfl ?_
        refine g_aald (q := 61) (by assumption) rfl rfl (ra_at hj) (by simp) dX1_move_60 rfl ?_
        refine c_Si (q := 64) (p_X1_moveOne hs hCw hvC hi hj hij) k_X1_89 (by decide) rfl rfl (Nat.le_of_ble_eq_true rfl) rfl rfl dX1_move_61 rfl ?_
        rintro x w1 ⟨rfl, hCw1, Gw1⟩
        refine g_ifeq (t := 73) (q := 67) dX1_move_64 (by decide) rfl (fun hq64 => ?_) (fun hq64 => ?_)
        · rw [a_mvs, if_pos hq64]
          exact tail w1 _ hCw1 (Gw.tr Gw1) m (by omega)
        · refine g_iinc (q := 70) (y := nI (m + 1)) dX1_move_67 rfl (gn_inc m) rfl rfl rfl rfl ?_
          dsimp only [List.set]
          refine g_goto (q := 43) dX1_move_70 (by decide) ?_
          have hh := ih (a_mv1 C i j).2 w1 hCw1 (ivB_mv1 hvC hi hj hij) (Gw.tr Gw1) (m + 1) (by omega)
          rw [a_mvs, if_neg hq64]
          rw [show m + ((a_mvs i j r (a_mv1 C i j).2).1 + 1) = m + 1 + (a_mvs i j r (a_mv1 C i j).2).1 by omega]
          exact hh
  have hCq0 := hC
  have G0 : fr v v f (f + 55) := fr.rf _ _ _
  refine gj_E_at (L := [some (.ref f), some (.int (nI i)), some (.int (nI j)), some (.int (nI n)), none, none, none]) (k := 3) rfl (by decide) rfl ?_
  refine g_aload_n (q := 1) dX1_move_0 rfl rfl ?_
  refine g_getR (q := 4) f_X1_11 (by assumption) rfl dX1_move_1 rfl ?_
  refine g_iload_n (q := 5) dX1_move_4 rfl rfl ?_
  refine g_iload_n (q := 6) dX1_move_5 rfl rfl ?_
  refine g_min (q := 9) k_X1_74 (Nat.le_of_ble_eq_true rfl) (Nat.le_refl 0) (Nat.le_refl 0) dX1_move_6 rfl ?_
  refine g_aald (q := 10) (by assumption) rfl (gn_min (by omega) (by omega)) (ra_at (by omega : min i j < 6)) (by simp) dX1_move_9 rfl ?_
  refine g_getR (q := 13) f_X1_80 (hb6 _ (by omega : min i j < 6)).1 rfl dX1_move_10 rfl ?_
  refine g_astore (q := 15) dX1_move_13 rfl rfl rfl rfl ?_
  dsimp only [List.set]
  refine g_aload_n (q := 16) dX1_move_15 rfl rfl ?_
  refine g_getR (q := 19) f_X1_11 (by assumption) rfl dX1_move_16 rfl ?_
  refine g_iload_n (q := 20) dX1_move_19 rfl rfl ?_
  refine g_iload_n (q := 21) dX1_move_20 rfl rfl ?_
  refine g_max (q := 24) k_X1_83 (Nat.le_of_ble_eq_true rfl) (Nat.le_refl 0) (Nat.le_refl 0) dX1_move_21 rfl ?_
  refine g_aald (q := 25) (by assumption) rfl (gn_max (by omega) (by omega)) (ra_at (by omega : max i j < 6)) (by simp) dX1_move_24 rfl ?_
  refine g_getR (q := 28) f_X1_80 (hb6 _ (by omega : max i j < 6)).1 rfl dX1_move_25 rfl ?_
  refine g_astore (q := 30) dX1_move_28 rfl rfl rfl rfl ?_
  dsimp only [List.set]
  refine g_aload (q := 32) dX1_move_30 rfl rfl ?_
  refine c_Vv (q := 35) (p_X2_enter (hb6 (min i j) (by omega : min i j < 6)).2.1) k_X1_86 (hb6 (min i j) (by omega : min i j < 6)).2.1 rfl (by decide) rfl rfl (Nat.le_of_ble_eq_true rfl) rfl rfl dX1_move_32 rfl ?_
  rintro vq1 hvq1
  have hCq1 : CR vq1 f (a_in A (min i j)) t := by rw [hvq1, hCq0.gv (by omega : min i j < 6)]; exact hCq0.gate (by omega : min i j < 6) _
  have G1 : fr v vq1 f (f + 55) := by rw [hvq1]; exact G0.tr (fr.up (by omega) (by omega))
  clear hvq1
  refine g_aload (q := 37) dX1_move_35 rfl rfl ?_
  refine c_Vv (q := 40) (p_X2_enter (hb6 (max i j) (by omega : max i j < 6)).2.1) k_X1_86 (hb6 (max i j) (by omega : max i j < 6)).2.1 rfl (by decide) rfl rfl (Nat.le_of_ble_eq_true rfl) rfl rfl dX1_move_37 rfl ?_
  rintro vq2 hvq2
  have hCq2 : CR vq2 f (a_in (a_in A (min i j)) (max i j)) t := by rw [hvq2, hCq1.gv (by omega : max i j < 6)]; exact hCq1.gate (by omega : max i j < 6) _
  have G2 : fr v vq2 f (f + 55) := by rw [hvq2]; exact G1.tr (fr.up (by omega) (by omega))
  clear hvq2
  refine g_iconst (q := 41) (x := 0) dX1_move_40 (by decide) rfl ?_
  refine g_istore (q := 43) dX1_move_41 rfl rfl rfl rfl ?_
  dsimp only [List.set]
  have hh := loop n (a_in (a_in A (min i j)) (max i j)) vq2 hCq2 (ivB_in (ivB_in hv (by omega)) (by omega)) G2 0 (by omega)
  simp only [Nat.zero_add] at hh
  exact hh
