/-! ===== the reference: gates, buffers ===== -/
theorem ml_if {p q : Prop} [Decidable p] [Decidable q] (h : p ↔ q) : (if p then (1 : Int32) else 0) = if q then 1 else 0 := by
  by_cases hp : p
  · rw [if_pos hp, if_pos (h.mp hp)]
  · rw [if_neg hp, if_neg (fun z => hp (h.mpr z))]
theorem ml_1 {n : Nat} (h : n ≤ 6) : (nI n - 1).toInt = (n : Int) - 1 := by
  rcases (show n = 0 ∨ n = 1 ∨ n = 2 ∨ n = 3 ∨ n = 4 ∨ n = 5 ∨ n = 6 by omega) with rfl | rfl | rfl | rfl | rfl | rfl | rfl <;> decide
theorem ml_2 {n : Nat} (h : n ≤ 6) : (nI n).toInt = (n : Int) := by
  rcases (show n = 0 ∨ n = 1 ∨ n = 2 ∨ n = 3 ∨ n = 4 ∨ n = 5 ∨ n = 6 by omega) with rfl | rfl | rfl | rfl | rfl | rfl | rfl <;> decide
theorem ml_has {n : Nat} {b : Int32} (h : n ≤ 6) : in_ b 0 (nI n - 1) ↔ (¬ b < 0 ∧ ¬ nI n ≤ b) := by
  have e1 := ml_1 h
  have e2 := ml_2 h
  have e0 : (0 : Int32).toInt = 0 := by decide
  unfold in_
  rw [Int32.le_iff_toInt_le, Int32.le_iff_toInt_le, Int32.le_iff_toInt_le, Int32.lt_iff_toInt_lt, e0, e1, e2]
  omega

set_option maxRecDepth 100000 in
set_option maxHeartbeats 4000000 in
theorem p_X11_in {X : gj_X} {lim : Nat} {σ : gj_H} {v : gj_V} {a lo hi : Int32} : gj_E X 0 m_X11_in [.int a, .int lo, .int hi] lim σ v (q_i lim σ (fun x v' => x = (if in_ a lo hi then 1 else 0) ∧ v' = v)) := by
  refine gj_E_at (L := [some (.int a), some (.int lo), some (.int hi)]) (k := 0) rfl (by decide) rfl ?_
  refine g_iload_n (q := 1) dX11_in_0 rfl rfl ?_
  refine g_iload_n (q := 2) dX11_in_1 rfl rfl ?_
  refine g_icmplt (t := 14) (q := 5) dX11_in_2 (by decide) rfl (fun hq2 => ?_) (fun hq2 => ?_)
  · refine g_iconst (q := 15) (x := 0) dX11_in_14 (by decide) rfl ?_
    refine r_z dX11_in_15 rfl rfl rfl (by decide) ?_
    refine ⟨?_, rfl⟩
    first | (rw [if_neg (fun h => Int32.not_lt.mpr h.1 hq2)]; done) | (rw [if_neg (fun h => Int32.not_lt.mpr h.2 hq7)]; done) | (rw [if_pos ⟨Int32.not_lt.mp hq2, Int32.not_lt.mp hq7⟩]; done)
  · refine g_iload_n (q := 6) dX11_in_5 rfl rfl ?_
    refine g_iload_n (q := 7) dX11_in_6 rfl rfl ?_
    refine g_icmpgt (t := 14) (q := 10) dX11_in_7 (by decide) rfl (fun hq7 => ?_) (fun hq7 => ?_)
    · refine g_iconst (q := 15) (x := 0) dX11_in_14 (by decide) rfl ?_
      refine r_z dX11_in_15 rfl rfl rfl (by decide) ?_
      refine ⟨?_, rfl⟩
      first | (rw [if_neg (fun h => Int32.not_lt.mpr h.1 hq2)]; done) | (rw [if_neg (fun h => Int32.not_lt.mpr h.2 hq7)]; done) | (rw [if_pos ⟨Int32.not_lt.mp hq2, Int32.not_lt.mp hq7⟩]; done)
    · refine g_iconst (q := 11) (x := 1) dX11_in_10 (by decide) rfl ?_
      refine g_goto (q := 15) dX11_in_11 (by decide) ?_
      refine r_z dX11_in_15 rfl rfl rfl (by decide) ?_
      refine ⟨?_, rfl⟩
      first | (rw [if_neg (fun h => Int32.not_lt.mpr h.1 hq2)]; done) | (rw [if_neg (fun h => Int32.not_lt.mpr h.2 hq7)]; done) | (rw [if_pos ⟨Int32.not_lt.mp hq2, Int32.not_lt.mp hq7⟩]; done)

set_option maxRecDepth 100000 in
set_option maxHeartbeats 4000000 in
theorem p_X11_atBuffer {X : gj_X} {lim : Nat} {σ : gj_H} {v : gj_V} {b : Nat} : gj_E X 0 m_X11_atBuffer [.int (nI b)] lim σ v (q_i lim σ (fun x v' => x = nI (10 + 24 * b) ∧ v' = v)) := by
  refine gj_E_at (L := [some (.int (nI b))]) (k := 0) rfl (by decide) rfl ?_
  refine g_bipush (q := 2) (x := 10) dX11_atBuffer_0 (by decide) rfl ?_
  refine g_bipush (q := 4) (x := 24) dX11_atBuffer_2 (by decide) rfl ?_
  refine g_iload_n (q := 5) dX11_atBuffer_4 rfl rfl ?_
  refine g_imul (q := 6) dX11_atBuffer_5 rfl ?_
  refine g_iadd (q := 7) dX11_atBuffer_6 rfl ?_
  refine r_i dX11_atBuffer_7 rfl rfl rfl ?_
  exact ⟨by simp only [gn_lit, nI_add, pk_mul], rfl⟩

set_option maxRecDepth 100000 in
set_option maxHeartbeats 4000000 in
theorem p_X11_gate {X : gj_X} {lim : Nat} {σ : gj_H} {v : gj_V} {b : Nat} : gj_E X 0 m_X11_gate [.int (nI b)] lim σ v (q_i lim σ (fun x v' => x = nI (160 + 4 * b) ∧ v' = v)) := by
  refine gj_E_at (L := [some (.int (nI b))]) (k := 0) rfl (by decide) rfl ?_
  refine g_sipush (q := 3) (x := 160) dX11_gate_0 (by decide) rfl ?_
  refine g_iconst (q := 4) (x := 4) dX11_gate_3 (by decide) rfl ?_
  refine g_iload_n (q := 5) dX11_gate_4 rfl rfl ?_
  refine g_imul (q := 6) dX11_gate_5 rfl ?_
  refine g_iadd (q := 7) dX11_gate_6 rfl ?_
  refine r_i dX11_gate_7 rfl rfl rfl ?_
  exact ⟨by simp only [gn_lit, nI_add, pk_mul], rfl⟩

set_option maxRecDepth 100000 in
set_option maxHeartbeats 4000000 in
theorem p_X11_stationAt {X : gj_X} {lim : Nat} {σ : gj_H} {v : gj_V} {b : Nat} : gj_E X 0 m_X11_stationAt [.int (nI b)] lim σ v (q_i lim σ (fun x v' => x = nI (190 + 12 * b) ∧ v' = v)) := by
  refine gj_E_at (L := [some (.int (nI b))]) (k := 0) rfl (by decide) rfl ?_
  refine g_sipush (q := 3) (x := 190) dX11_stationAt_0 (by decide) rfl ?_
  refine g_bipush (q := 5) (x := 12) dX11_stationAt_3 (by decide) rfl ?_
  refine g_iload_n (q := 6) dX11_stationAt_5 rfl rfl ?_
  refine g_imul (q := 7) dX11_stationAt_6 rfl ?_
  refine g_iadd (q := 8) dX11_stationAt_7 rfl ?_
  refine r_i dX11_stationAt_8 rfl rfl rfl ?_
  exact ⟨by simp only [gn_lit, nI_add, pk_mul], rfl⟩

set_option maxRecDepth 100000 in
set_option maxHeartbeats 4000000 in
theorem p_X11_workerAt {X : gj_X} {lim : Nat} {σ : gj_H} {v : gj_V} {b : Nat} : gj_E X 0 m_X11_workerAt [.int (nI b)] lim σ v (q_i lim σ (fun x v' => x = nI (270 + 5 * b) ∧ v' = v)) := by
  refine gj_E_at (L := [some (.int (nI b))]) (k := 0) rfl (by decide) rfl ?_
  refine g_sipush (q := 3) (x := 270) dX11_workerAt_0 (by decide) rfl ?_
  refine g_iconst (q := 4) (x := 5) dX11_workerAt_3 (by decide) rfl ?_
  refine g_iload_n (q := 5) dX11_workerAt_4 rfl rfl ?_
  refine g_imul (q := 6) dX11_workerAt_5 rfl ?_
  refine g_iadd (q := 7) dX11_workerAt_6 rfl ?_
  refine r_i dX11_workerAt_7 rfl rfl rfl ?_
  exact ⟨by simp only [gn_lit, nI_add, pk_mul], rfl⟩

set_option maxRecDepth 100000 in
set_option maxHeartbeats 4000000 in
theorem p_X11_isWorker {X : gj_X} {lim : Nat} {σ : gj_H} {v : gj_V} {b : Int32} : gj_E X 1 m_X11_isWorker [.int b] lim σ v (q_i lim σ (fun x v' => x = (if in_ b 0 5 then 1 else 0) ∧ v' = v)) := by
  refine gj_E_at (L := [some (.int b)]) (k := 0) rfl (by decide) rfl ?_
  refine g_iload_n (q := 1) dX11_isWorker_0 rfl rfl ?_
  refine g_iconst (q := 2) (x := 0) dX11_isWorker_1 (by decide) rfl ?_
  refine g_iconst (q := 3) (x := 5) dX11_isWorker_2 (by decide) rfl ?_
  refine c_Si (q := 6) p_X11_in k_X11_50 (by decide) rfl rfl (Nat.le_of_ble_eq_true rfl) rfl rfl dX11_isWorker_3 rfl ?_
  rintro z w1 ⟨hz, hw1⟩
  subst w1
  refine r_z dX11_isWorker_6 rfl rfl rfl (by rw [hz]; exact gn_bz) ?_
  exact ⟨hz, rfl⟩

set_option maxRecDepth 100000 in
set_option maxHeartbeats 4000000 in
theorem p_X11_isBuffer {X : gj_X} {lim : Nat} {σ : gj_H} {v : gj_V} {m sn : Nat} {A : aS} {t : Int32} (hs : msh σ m) (hM : MR (v (m + 2)) A t sn) {b : Int32} {n : Nat} (hn : A.1 40 5 = nI n) (hn6 : n ≤ 6) : gj_E X 1 m_X11_isBuffer [.ref m, .int b] lim σ v (q_i lim σ (fun x v' => x = (if a_has A b then 1 else 0) ∧ v' = v)) := by
  obtain ⟨so, s1, s2, s3, s4, s5, s6, s7, s8, s9, s10, s11, s12⟩ := id hs
  refine gj_E_at (L := [some (.ref m), some (.int b)]) (k := 0) rfl (by decide) rfl ?_
  refine g_iload_n (q := 1) dX11_isBuffer_0 rfl rfl ?_
  refine g_iconst (q := 2) (x := 0) dX11_isBuffer_1 (by decide) rfl ?_
  refine g_aload_n (q := 3) dX11_isBuffer_2 rfl rfl ?_
  refine g_getR (q := 6) f_X11_13 (by assumption) rfl dX11_isBuffer_3 rfl ?_
  refine g_iconst (q := 7) (x := 0) dX11_isBuffer_6 (by decide) rfl ?_
  refine g_iald (q := 8) (by assumption) rfl (by decide) (by decide) dX11_isBuffer_7 rfl ?_
  rw [show v (m + 2) 0 = nI n from hM.1.1.trans hn]
  refine g_iconst (q := 9) (x := 1) dX11_isBuffer_8 (by decide) rfl ?_
  refine g_isub (q := 10) dX11_isBuffer_9 rfl ?_
  refine c_Si (q := 13) p_X11_in k_X11_50 (by decide) rfl rfl (Nat.le_of_ble_eq_true rfl) rfl rfl dX11_isBuffer_10 rfl ?_
  rintro z w1 ⟨hz, hw1⟩
  subst w1
  refine r_z dX11_isBuffer_13 rfl rfl rfl (by rw [hz]; exact gn_bz) ?_
  refine ⟨?_, rfl⟩
  rw [hz]
  exact ml_if (by unfold a_has; rw [hn]; exact ml_has hn6)

set_option maxRecDepth 100000 in
set_option maxHeartbeats 4000000 in
theorem p_X11_isStation {X : gj_X} {lim : Nat} {σ : gj_H} {v : gj_V} {m sn : Nat} {A : aS} {t : Int32} (hs : msh σ m) (hM : MR (v (m + 2)) A t sn) {b : Int32} {n : Nat} (hn : A.1 40 6 = nI n) (hn6 : n ≤ 6) : gj_E X 1 m_X11_isStation [.ref m, .int b] lim σ v (q_i lim σ (fun x v' => x = (if a_hasS A b then 1 else 0) ∧ v' = v)) := by
  obtain ⟨so, s1, s2, s3, s4, s5, s6, s7, s8, s9, s10, s11, s12⟩ := id hs
  refine gj_E_at (L := [some (.ref m), some (.int b)]) (k := 0) rfl (by decide) rfl ?_
  refine g_iload_n (q := 1) dX11_isStation_0 rfl rfl ?_
  refine g_iconst (q := 2) (x := 0) dX11_isStation_1 (by decide) rfl ?_
  refine g_aload_n (q := 3) dX11_isStation_2 rfl rfl ?_
  refine g_getR (q := 6) f_X11_13 (by assumption) rfl dX11_isStation_3 rfl ?_
  refine g_iconst (q := 7) (x := 1) dX11_isStation_6 (by decide) rfl ?_
  refine g_iald (q := 8) (by assumption) rfl (by decide) (by decide) dX11_isStation_7 rfl ?_
  rw [show v (m + 2) 1 = nI n from hM.1.2.1.trans hn]
  refine g_iconst (q := 9) (x := 1) dX11_isStation_8 (by decide) rfl ?_
  refine g_isub (q := 10) dX11_isStation_9 rfl ?_
  refine c_Si (q := 13) p_X11_in k_X11_50 (by decide) rfl rfl (Nat.le_of_ble_eq_true rfl) rfl rfl dX11_isStation_10 rfl ?_
  rintro z w1 ⟨hz, hw1⟩
  subst w1
  refine r_z dX11_isStation_13 rfl rfl rfl (by rw [hz]; exact gn_bz) ?_
  refine ⟨?_, rfl⟩
  rw [hz]
  exact ml_if (by unfold a_hasS; rw [hn]; exact ml_has hn6)

set_option maxRecDepth 100000 in
set_option maxHeartbeats 4000000 in
theorem p_X11_leaves {X : gj_X} {lim : Nat} {σ : gj_H} {v : gj_V} {m sn : Nat} {A : aS} {t : Int32} (hs : msh σ m) (hM : MR (v (m + 2)) A t sn) {g : Nat} (hg : g < 7) : gj_E X 1 m_X11_leaves [.ref m, .int (nI g)] lim σ v (q_v lim σ (fun v' => mc v v' m (a_out A g) t sn)) := by
  obtain ⟨so, s1, s2, s3, s4, s5, s6, s7, s8, s9, s10, s11, s12⟩ := id hs
  refine gj_E_at (L := [some (.ref m), some (.int (nI g))]) (k := 0) rfl (by decide) rfl ?_
  refine g_aload_n (q := 1) dX11_leaves_0 rfl rfl ?_
  refine g_getR (q := 4) f_X11_13 (by assumption) rfl dX11_leaves_1 rfl ?_
  refine g_iload_n (q := 5) dX11_leaves_4 rfl rfl ?_
  refine c_Si (q := 8) (p_X11_gate (b := g)) k_X11_69 (by decide) rfl rfl (Nat.le_of_ble_eq_true rfl) rfl rfl dX11_leaves_5 rfl ?_
  rintro z0 w1 ⟨hz0, hw1⟩
  subst w1
  subst z0
  refine g_iconst (q := 9) (x := 1) dX11_leaves_8 (by decide) rfl ?_
  refine g_iadd (q := 10) dX11_leaves_9 rfl ?_
  refine g_dup2 (q := 11) dX11_leaves_10 rfl rfl rfl ?_
  refine g_iald (q := 12) (by assumption) (by first | (simp only [gn_lit, nI_add, pk_mul]; exact rfl) | exact rfl) (by omega) (by decide) dX11_leaves_11 rfl ?_
  refine g_iconst (q := 13) (x := 1) dX11_leaves_12 (by decide) rfl ?_
  refine g_isub (q := 14) dX11_leaves_13 rfl ?_
  refine g_iast (q := 15) (by assumption) (by first | (simp only [gn_lit, nI_add, pk_mul]; exact rfl) | exact rfl) (by omega) (by decide) dX11_leaves_14 rfl ?_
  refine g_gen (fun vq1 hvq1 => ?_)
  rw [gu_2] at hvq1
  have n1 := congrFun hvq1 (m + 2)
  rw [gu_s] at n1
  refine r_v dX11_leaves_15 rfl rfl rfl ?_
  refine ⟨_, hvq1, hM.gate hg (fun i hi => ?_) (fun k hk => ?_)⟩
  · simp only [upd]
    repeat rw [if_neg (by omega)]
  · have g0 := hM.2.2.1 g hg 0 (by omega)
    have g1 := hM.2.2.1 g hg 1 (by omega)
    have g2 := hM.2.2.1 g hg 2 (by omega)
    have g3 := hM.2.2.1 g hg 3 (by omega)
    simp only [Nat.add_zero] at g0
    unfold ag_out
    rcases (show k = 0 ∨ k = 1 ∨ k = 2 ∨ k = 3 by omega) with rfl | rfl | rfl | rfl
    all_goals simp [upd, g0, g1, g2, g3]

set_option maxRecDepth 100000 in
set_option maxHeartbeats 4000000 in
theorem p_X11_thrownOut {X : gj_X} {lim : Nat} {σ : gj_H} {v : gj_V} {m sn : Nat} {A : aS} {t : Int32} (hs : msh σ m) (hM : MR (v (m + 2)) A t sn) {g : Nat} (hg : g < 7) : gj_E X 1 m_X11_thrownOut [.ref m, .int (nI g)] lim σ v (q_v lim σ (fun v' => mc v v' m (a_thr A g) t sn)) := by
  obtain ⟨so, s1, s2, s3, s4, s5, s6, s7, s8, s9, s10, s11, s12⟩ := id hs
  refine gj_E_at (L := [some (.ref m), some (.int (nI g))]) (k := 0) rfl (by decide) rfl ?_
  refine g_aload_n (q := 1) dX11_thrownOut_0 rfl rfl ?_
  refine g_getR (q := 4) f_X11_13 (by assumption) rfl dX11_thrownOut_1 rfl ?_
  refine g_iload_n (q := 5) dX11_thrownOut_4 rfl rfl ?_
  refine c_Si (q := 8) (p_X11_gate (b := g)) k_X11_69 (by decide) rfl rfl (Nat.le_of_ble_eq_true rfl) rfl rfl dX11_thrownOut_5 rfl ?_
  rintro z0 w1 ⟨hz0, hw1⟩
  subst w1
  subst z0
  refine g_iconst (q := 9) (x := 1) dX11_thrownOut_8 (by decide) rfl ?_
  refine g_iadd (q := 10) dX11_thrownOut_9 rfl ?_
  refine g_dup2 (q := 11) dX11_thrownOut_10 rfl rfl rfl ?_
  refine g_iald (q := 12) (by assumption) (by first | (simp only [gn_lit, nI_add, pk_mul]; exact rfl) | exact rfl) (by omega) (by decide) dX11_thrownOut_11 rfl ?_
  refine g_iconst (q := 13) (x := 1) dX11_thrownOut_12 (by decide) rfl ?_
  refine g_isub (q := 14) dX11_thrownOut_13 rfl ?_
  refine g_iast (q := 15) (by assumption) (by first | (simp only [gn_lit, nI_add, pk_mul]; exact rfl) | exact rfl) (by omega) (by decide) dX11_thrownOut_14 rfl ?_
  refine g_gen (fun vq1 hvq1 => ?_)
  rw [gu_2] at hvq1
  have n1 := congrFun hvq1 (m + 2)
  rw [gu_s] at n1
  refine g_aload_n (q := 16) dX11_thrownOut_15 rfl rfl ?_
  refine g_getR (q := 19) f_X11_13 (by assumption) rfl dX11_thrownOut_16 rfl ?_
  refine g_iload_n (q := 20) dX11_thrownOut_19 rfl rfl ?_
  refine c_Si (q := 23) (p_X11_gate (b := g)) k_X11_69 (by decide) rfl rfl (Nat.le_of_ble_eq_true rfl) rfl rfl dX11_thrownOut_20 rfl ?_
  rintro z0 w1 ⟨hz0, hw1⟩
  subst w1
  subst z0
  refine g_iconst (q := 24) (x := 3) dX11_thrownOut_23 (by decide) rfl ?_
  refine g_iadd (q := 25) dX11_thrownOut_24 rfl ?_
  refine g_dup2 (q := 26) dX11_thrownOut_25 rfl rfl rfl ?_
  refine g_iald (q := 27) (by assumption) (by first | (simp only [gn_lit, nI_add, pk_mul]; exact rfl) | exact rfl) (by omega) (by decide) dX11_thrownOut_26 rfl ?_
  refine g_iconst (q := 28) (x := 1) dX11_thrownOut_27 (by decide) rfl ?_
  refine g_iadd (q := 29) dX11_thrownOut_28 rfl ?_
  refine g_iast (q := 30) (by assumption) (by first | (simp only [gn_lit, nI_add, pk_mul]; exact rfl) | exact rfl) (by omega) (by decide) dX11_thrownOut_29 rfl ?_
  refine g_gen (fun vq2 hvq2 => ?_)
  rw [gu_2, n1, hvq1, gu_u] at hvq2
  have n2 := congrFun hvq2 (m + 2)
  rw [gu_s] at n2
  refine r_v dX11_thrownOut_30 rfl rfl rfl ?_
  refine ⟨_, hvq2, hM.gate hg (fun i hi => ?_) (fun k hk => ?_)⟩
  · simp only [upd]
    repeat rw [if_neg (by omega)]
  · have g0 := hM.2.2.1 g hg 0 (by omega)
    have g1 := hM.2.2.1 g hg 1 (by omega)
    have g2 := hM.2.2.1 g hg 2 (by omega)
    have g3 := hM.2.2.1 g hg 3 (by omega)
    simp only [Nat.add_zero] at g0
    unfold ag_thr
    rcases (show k = 0 ∨ k = 1 ∨ k = 2 ∨ k = 3 by omega) with rfl | rfl | rfl | rfl
    all_goals simp [upd, g0, g1, g2, g3]

set_option maxRecDepth 100000 in
set_option maxHeartbeats 4000000 in
theorem p_X11_enters {X : gj_X} {lim : Nat} {σ : gj_H} {v : gj_V} {m sn : Nat} {A : aS} {t : Int32} (hs : msh σ m) (hM : MR (v (m + 2)) A t sn) {g : Nat} (hg : g < 7) : gj_E X 1 m_X11_enters [.ref m, .int (nI g)] lim σ v (q_v lim σ (fun v' => mc v v' m (a_in A g) t sn)) := by
  obtain ⟨so, s1, s2, s3, s4, s5, s6, s7, s8, s9, s10, s11, s12⟩ := id hs
  refine gj_E_at (L := [some (.ref m), some (.int (nI g)), none]) (k := 1) rfl (by decide) rfl ?_
  refine g_iload_n (q := 1) dX11_enters_0 rfl rfl ?_
  refine c_Si (q := 4) (p_X11_gate (b := g)) k_X11_69 (by decide) rfl rfl (Nat.le_of_ble_eq_true rfl) rfl rfl dX11_enters_1 rfl ?_
  rintro z0 w1 ⟨hz0, hw1⟩
  subst w1
  subst z0
  refine g_istore_n (q := 5) dX11_enters_4 rfl rfl rfl rfl ?_
  dsimp only [List.set]
  refine g_aload_n (q := 6) dX11_enters_5 rfl rfl ?_
  refine g_getR (q := 9) f_X11_13 (by assumption) rfl dX11_enters_6 rfl ?_
  refine g_iload_n (q := 10) dX11_enters_9 rfl rfl ?_
  refine g_iconst (q := 11) (x := 0) dX11_enters_10 (by decide) rfl ?_
  refine g_iadd (q := 12) dX11_enters_11 rfl ?_
  refine g_dup2 (q := 13) dX11_enters_12 rfl rfl rfl ?_
  refine g_iald (q := 14) (by assumption) (by first | (simp only [gn_lit, nI_add, pk_mul]; exact rfl) | exact rfl) (by omega) (by decide) dX11_enters_13 rfl ?_
  refine g_iconst (q := 15) (x := 1) dX11_enters_14 (by decide) rfl ?_
  refine g_iadd (q := 16) dX11_enters_15 rfl ?_
  refine g_iast (q := 17) (by assumption) (by first | (simp only [gn_lit, nI_add, pk_mul]; exact rfl) | exact rfl) (by omega) (by decide) dX11_enters_16 rfl ?_
  refine g_gen (fun vq1 hvq1 => ?_)
  rw [gu_2] at hvq1
  have n1 := congrFun hvq1 (m + 2)
  rw [gu_s] at n1
  refine g_aload_n (q := 18) dX11_enters_17 rfl rfl ?_
  refine g_getR (q := 21) f_X11_13 (by assumption) rfl dX11_enters_18 rfl ?_
  refine g_iload_n (q := 22) dX11_enters_21 rfl rfl ?_
  refine g_iconst (q := 23) (x := 1) dX11_enters_22 (by decide) rfl ?_
  refine g_iadd (q := 24) dX11_enters_23 rfl ?_
  refine g_dup2 (q := 25) dX11_enters_24 rfl rfl rfl ?_
  refine g_iald (q := 26) (by assumption) (by first | (simp only [gn_lit, nI_add, pk_mul]; exact rfl) | exact rfl) (by omega) (by decide) dX11_enters_25 rfl ?_
  refine g_iconst (q := 27) (x := 1) dX11_enters_26 (by decide) rfl ?_
  refine g_iadd (q := 28) dX11_enters_27 rfl ?_
  refine g_iast (q := 29) (by assumption) (by first | (simp only [gn_lit, nI_add, pk_mul]; exact rfl) | exact rfl) (by omega) (by decide) dX11_enters_28 rfl ?_
  refine g_gen (fun vq2 hvq2 => ?_)
  rw [gu_2, n1, hvq1, gu_u] at hvq2
  have n2 := congrFun hvq2 (m + 2)
  rw [gu_s] at n2
  refine g_aload_n (q := 30) dX11_enters_29 rfl rfl ?_
  refine g_getR (q := 33) f_X11_13 (by assumption) rfl dX11_enters_30 rfl ?_
  refine g_iload_n (q := 34) dX11_enters_33 rfl rfl ?_
  refine g_iconst (q := 35) (x := 2) dX11_enters_34 (by decide) rfl ?_
  refine g_iadd (q := 36) dX11_enters_35 rfl ?_
  refine g_aload_n (q := 37) dX11_enters_36 rfl rfl ?_
  refine g_getR (q := 40) f_X11_13 (by assumption) rfl dX11_enters_37 rfl ?_
  refine g_iload_n (q := 41) dX11_enters_40 rfl rfl ?_
  refine g_iconst (q := 42) (x := 1) dX11_enters_41 (by decide) rfl ?_
  refine g_iadd (q := 43) dX11_enters_42 rfl ?_
  refine g_iald (q := 44) (by assumption) (by first | (simp only [gn_lit, nI_add, pk_mul]; exact rfl) | exact rfl) (by omega) (by decide) dX11_enters_43 rfl ?_
  refine g_aload_n (q := 45) dX11_enters_44 rfl rfl ?_
  refine g_getR (q := 48) f_X11_13 (by assumption) rfl dX11_enters_45 rfl ?_
  refine g_iload_n (q := 49) dX11_enters_48 rfl rfl ?_
  refine g_iconst (q := 50) (x := 2) dX11_enters_49 (by decide) rfl ?_
  refine g_iadd (q := 51) dX11_enters_50 rfl ?_
  refine g_iald (q := 52) (by assumption) (by first | (simp only [gn_lit, nI_add, pk_mul]; exact rfl) | exact rfl) (by omega) (by decide) dX11_enters_51 rfl ?_
  refine g_icmple (t := 66) (q := 55) dX11_enters_52 (by decide) rfl (fun hq52 => ?_) (fun hq52 => ?_)
  · rw [n2] at hq52
    refine g_aload_n (q := 67) dX11_enters_66 rfl rfl ?_
    refine g_getR (q := 70) f_X11_13 (by assumption) rfl dX11_enters_67 rfl ?_
    refine g_iload_n (q := 71) dX11_enters_70 rfl rfl ?_
    refine g_iconst (q := 72) (x := 2) dX11_enters_71 (by decide) rfl ?_
    refine g_iadd (q := 73) dX11_enters_72 rfl ?_
    refine g_iald (q := 74) (by assumption) (by first | (simp only [gn_lit, nI_add, pk_mul]; exact rfl) | exact rfl) (by omega) (by decide) dX11_enters_73 rfl ?_
    refine g_iast (q := 75) (by assumption) (by first | (simp only [gn_lit, nI_add, pk_mul]; exact rfl) | exact rfl) (by omega) (by decide) dX11_enters_74 rfl ?_
    refine g_gen (fun vq3 hvq3 => ?_)
    rw [gu_2, n2, hvq2, gu_u] at hvq3
    have n3 := congrFun hvq3 (m + 2)
    rw [gu_s] at n3
    refine r_v dX11_enters_75 rfl rfl rfl ?_
    have g0 := hM.2.2.1 g hg 0 (by omega)
    have g1 := hM.2.2.1 g hg 1 (by omega)
    have g2 := hM.2.2.1 g hg 2 (by omega)
    have g3 := hM.2.2.1 g hg 3 (by omega)
    simp [upd, g1, g2] at hq52
    refine ⟨_, hvq3, hM.gate hg (fun i hi => ?_) (fun k hk => ?_)⟩
    · simp only [upd]
      repeat rw [if_neg (by omega)]
    · have g0 := hM.2.2.1 g hg 0 (by omega)
      have g1 := hM.2.2.1 g hg 1 (by omega)
      have g2 := hM.2.2.1 g hg 2 (by omega)
      have g3 := hM.2.2.1 g hg 3 (by omega)
      simp only [Nat.add_zero] at g0
      unfold ag_in
      rcases (show k = 0 ∨ k = 1 ∨ k = 2 ∨ k = 3 by omega) with rfl | rfl | rfl | rfl
      all_goals simp [upd, g0, g1, g2, g3]
      first | (intro z; exact absurd z (Int32.not_le.mpr hq52)) | (intro z; exact absurd (Int32.not_lt.mpr hq52) (fun q => q z)) | skip
  · rw [n2] at hq52
    refine g_aload_n (q := 56) dX11_enters_55 rfl rfl ?_
    refine g_getR (q := 59) f_X11_13 (by assumption) rfl dX11_enters_56 rfl ?_
    refine g_iload_n (q := 60) dX11_enters_59 rfl rfl ?_
    refine g_iconst (q := 61) (x := 1) dX11_enters_60 (by decide) rfl ?_
    refine g_iadd (q := 62) dX11_enters_61 rfl ?_
    refine g_iald (q := 63) (by assumption) (by first | (simp only [gn_lit, nI_add, pk_mul]; exact rfl) | exact rfl) (by omega) (by decide) dX11_enters_62 rfl ?_
    refine g_goto (q := 74) dX11_enters_63 (by decide) ?_
    refine g_iast (q := 75) (by assumption) (by first | (simp only [gn_lit, nI_add, pk_mul]; exact rfl) | exact rfl) (by omega) (by decide) dX11_enters_74 rfl ?_
    refine g_gen (fun vq3 hvq3 => ?_)
    rw [gu_2, n2, hvq2, gu_u] at hvq3
    have n3 := congrFun hvq3 (m + 2)
    rw [gu_s] at n3
    refine r_v dX11_enters_75 rfl rfl rfl ?_
    have g0 := hM.2.2.1 g hg 0 (by omega)
    have g1 := hM.2.2.1 g hg 1 (by omega)
    have g2 := hM.2.2.1 g hg 2 (by omega)
    have g3 := hM.2.2.1 g hg 3 (by omega)
    simp [upd, g1, g2] at hq52
    refine ⟨_, hvq3, hM.gate hg (fun i hi => ?_) (fun k hk => ?_)⟩
    · simp only [upd]
      repeat rw [if_neg (by omega)]
    · have g0 := hM.2.2.1 g hg 0 (by omega)
      have g1 := hM.2.2.1 g hg 1 (by omega)
      have g2 := hM.2.2.1 g hg 2 (by omega)
      have g3 := hM.2.2.1 g hg 3 (by omega)
      simp only [Nat.add_zero] at g0
      unfold ag_in
      rcases (show k = 0 ∨ k = 1 ∨ k = 2 ∨ k = 3 by omega) with rfl | rfl | rfl | rfl
      all_goals simp [upd, g0, g1, g2, g3]
      first | (intro z; exact absurd z (Int32.not_le.mpr hq52)) | (intro z; exact absurd (Int32.not_lt.mpr hq52) (fun q => q z)) | skip
