/-! ===== Gate, Worker, Station: their objects are rows of ints ===== -/
def ag_in (f : Nat → Int32) : Nat → Int32 := upd (upd (upd f 0 (f 0 + 1)) 1 (f 1 + 1)) 2 (if f 2 < f 1 + 1 then f 1 + 1 else f 2)
def ag_out (f : Nat → Int32) : Nat → Int32 := upd f 1 (f 1 - 1)
def ag_thr (f : Nat → Int32) : Nat → Int32 := upd (upd f 1 (f 1 - 1)) 3 (f 3 + 1)
def ag_cp (n : Nat) (f g : Nat → Int32) : Nat → Int32 := fun k => if k < n then g k else f k
abbrev sh_gate : gj_S := .inl (2, [none, none, none, none])
abbrev sh_work : gj_S := .inl (9, [none, none, none, none])
abbrev sh_stat : gj_S := .inl (7, [none, none, none, none, none, none, none, none, none, none, none, none])

set_option maxRecDepth 100000 in
set_option maxHeartbeats 4000000 in
theorem p_X2_enter {X : gj_X} {lim : Nat} {σ : gj_H} {v : gj_V} {a : Nat} (hs : σ a = some sh_gate) : gj_E X 0 m_X2_enter [.ref a] lim σ v (q_v lim σ (fun v' => v' = gj_up v a (ag_in (v a)))) := by
  refine gj_E_at (L := [some (.ref a)]) (k := 0) rfl (by decide) rfl ?_
  refine g_aload_n (q := 1) dX2_enter_0 rfl rfl ?_
  refine g_dup (q := 2) dX2_enter_1 rfl rfl ?_
  refine g_getI (q := 5) f_X2_7 (by assumption) rfl dX2_enter_2 rfl ?_
  refine g_iconst (q := 6) (x := 1) dX2_enter_5 (by decide) rfl ?_
  refine g_iadd (q := 7) dX2_enter_6 rfl ?_
  refine g_putI (q := 10) f_X2_7 (by assumption) rfl rfl rfl dX2_enter_7 rfl ?_
  refine g_aload_n (q := 11) dX2_enter_10 rfl rfl ?_
  refine g_dup (q := 12) dX2_enter_11 rfl rfl ?_
  refine g_getI (q := 15) f_X2_13 (by assumption) rfl dX2_enter_12 rfl ?_
  refine g_iconst (q := 16) (x := 1) dX2_enter_15 (by decide) rfl ?_
  refine g_iadd (q := 17) dX2_enter_16 rfl ?_
  refine g_putI (q := 20) f_X2_13 (by assumption) rfl rfl rfl dX2_enter_17 rfl ?_
  refine g_aload_n (q := 21) dX2_enter_20 rfl rfl ?_
  refine g_aload_n (q := 22) dX2_enter_21 rfl rfl ?_
  refine g_getI (q := 25) f_X2_16 (by assumption) rfl dX2_enter_22 rfl ?_
  refine g_aload_n (q := 26) dX2_enter_25 rfl rfl ?_
  refine g_getI (q := 29) f_X2_13 (by assumption) rfl dX2_enter_26 rfl ?_
  refine g_max (q := 32) k_X2_19 (Nat.le_of_ble_eq_true rfl) (Nat.le_refl 0) (Nat.le_refl 0) dX2_enter_29 rfl ?_
  refine g_putI (q := 35) f_X2_16 (by assumption) rfl rfl rfl dX2_enter_32 rfl ?_
  refine r_v dX2_enter_35 rfl rfl rfl ?_
  show _ = _
  simp only [gu_2, gu_u, gu_s]
  congr 1

set_option maxRecDepth 100000 in
set_option maxHeartbeats 4000000 in
theorem p_X2_leave {X : gj_X} {lim : Nat} {σ : gj_H} {v : gj_V} {a : Nat} (hs : σ a = some sh_gate) : gj_E X 0 m_X2_leave [.ref a] lim σ v (q_v lim σ (fun v' => v' = gj_up v a (ag_out (v a)))) := by
  refine gj_E_at (L := [some (.ref a)]) (k := 0) rfl (by decide) rfl ?_
  refine g_aload_n (q := 1) dX2_leave_0 rfl rfl ?_
  refine g_dup (q := 2) dX2_leave_1 rfl rfl ?_
  refine g_getI (q := 5) f_X2_13 (by assumption) rfl dX2_leave_2 rfl ?_
  refine g_iconst (q := 6) (x := 1) dX2_leave_5 (by decide) rfl ?_
  refine g_isub (q := 7) dX2_leave_6 rfl ?_
  refine g_putI (q := 10) f_X2_13 (by assumption) rfl rfl rfl dX2_leave_7 rfl ?_
  refine r_v dX2_leave_10 rfl rfl rfl ?_
  show _ = _
  simp only [gu_2, gu_u, gu_s]
  rfl

set_option maxRecDepth 100000 in
set_option maxHeartbeats 4000000 in
theorem p_X2_leaveThrown {X : gj_X} {lim : Nat} {σ : gj_H} {v : gj_V} {a : Nat} (hs : σ a = some sh_gate) : gj_E X 0 m_X2_leaveThrown [.ref a] lim σ v (q_v lim σ (fun v' => v' = gj_up v a (ag_thr (v a)))) := by
  refine gj_E_at (L := [some (.ref a)]) (k := 0) rfl (by decide) rfl ?_
  refine g_aload_n (q := 1) dX2_leaveThrown_0 rfl rfl ?_
  refine g_dup (q := 2) dX2_leaveThrown_1 rfl rfl ?_
  refine g_getI (q := 5) f_X2_13 (by assumption) rfl dX2_leaveThrown_2 rfl ?_
  refine g_iconst (q := 6) (x := 1) dX2_leaveThrown_5 (by decide) rfl ?_
  refine g_isub (q := 7) dX2_leaveThrown_6 rfl ?_
  refine g_putI (q := 10) f_X2_13 (by assumption) rfl rfl rfl dX2_leaveThrown_7 rfl ?_
  refine g_aload_n (q := 11) dX2_leaveThrown_10 rfl rfl ?_
  refine g_dup (q := 12) dX2_leaveThrown_11 rfl rfl ?_
  refine g_getI (q := 15) f_X2_25 (by assumption) rfl dX2_leaveThrown_12 rfl ?_
  refine g_iconst (q := 16) (x := 1) dX2_leaveThrown_15 (by decide) rfl ?_
  refine g_iadd (q := 17) dX2_leaveThrown_16 rfl ?_
  refine g_putI (q := 20) f_X2_25 (by assumption) rfl rfl rfl dX2_leaveThrown_17 rfl ?_
  refine r_v dX2_leaveThrown_20 rfl rfl rfl ?_
  show _ = _
  simp only [gu_2, gu_u, gu_s]
  rfl

set_option maxRecDepth 100000 in
set_option maxHeartbeats 4000000 in
theorem p_X2_startAnew {X : gj_X} {lim : Nat} {σ : gj_H} {v : gj_V} {a : Nat} (hs : σ a = some sh_gate) : gj_E X 0 m_X2_startAnew [.ref a] lim σ v (q_v lim σ (fun v' => v' = gj_up v a (ag_cp 4 (v a) (fun _ => 0)))) := by
  refine gj_E_at (L := [some (.ref a)]) (k := 0) rfl (by decide) rfl ?_
  refine g_aload_n (q := 1) dX2_startAnew_0 rfl rfl ?_
  refine g_iconst (q := 2) (x := 0) dX2_startAnew_1 (by decide) rfl ?_
  refine g_putI (q := 5) f_X2_7 (by assumption) rfl rfl rfl dX2_startAnew_2 rfl ?_
  refine g_aload_n (q := 6) dX2_startAnew_5 rfl rfl ?_
  refine g_iconst (q := 7) (x := 0) dX2_startAnew_6 (by decide) rfl ?_
  refine g_putI (q := 10) f_X2_13 (by assumption) rfl rfl rfl dX2_startAnew_7 rfl ?_
  refine g_aload_n (q := 11) dX2_startAnew_10 rfl rfl ?_
  refine g_iconst (q := 12) (x := 0) dX2_startAnew_11 (by decide) rfl ?_
  refine g_putI (q := 15) f_X2_16 (by assumption) rfl rfl rfl dX2_startAnew_12 rfl ?_
  refine g_aload_n (q := 16) dX2_startAnew_15 rfl rfl ?_
  refine g_iconst (q := 17) (x := 0) dX2_startAnew_16 (by decide) rfl ?_
  refine g_putI (q := 20) f_X2_25 (by assumption) rfl rfl rfl dX2_startAnew_17 rfl ?_
  refine r_v dX2_startAnew_20 rfl rfl rfl ?_
  show _ = _
  simp only [gu_2, gu_u, gu_s]
  congr 1
  funext k
  rcases k with _ | _ | _ | _ | k <;> simp [upd, ag_cp]
  all_goals (intro h; exact absurd h (by omega))

set_option maxRecDepth 100000 in
set_option maxHeartbeats 4000000 in
theorem p_X2_copyFrom {X : gj_X} {lim : Nat} {σ : gj_H} {v : gj_V} {a b : Nat} (hs : σ a = some sh_gate) (hs2 : σ b = some sh_gate) (hab : b ≠ a) : gj_E X 0 m_X2_copyFrom [.ref a, .ref b] lim σ v (q_v lim σ (fun v' => v' = gj_up v a (ag_cp 4 (v a) (v b)))) := by
  refine gj_E_at (L := [some (.ref a), some (.ref b)]) (k := 0) rfl (by decide) rfl ?_
  refine g_aload_n (q := 1) dX2_copyFrom_0 rfl rfl ?_
  refine g_aload_n (q := 2) dX2_copyFrom_1 rfl rfl ?_
  refine g_getI (q := 5) f_X2_7 (by assumption) rfl dX2_copyFrom_2 rfl ?_
  refine g_putI (q := 8) f_X2_7 (by assumption) rfl rfl rfl dX2_copyFrom_5 rfl ?_
  refine g_aload_n (q := 9) dX2_copyFrom_8 rfl rfl ?_
  refine g_aload_n (q := 10) dX2_copyFrom_9 rfl rfl ?_
  refine g_getI (q := 13) f_X2_13 (by assumption) rfl dX2_copyFrom_10 rfl ?_
  refine g_putI (q := 16) f_X2_13 (by assumption) rfl rfl rfl dX2_copyFrom_13 rfl ?_
  refine g_aload_n (q := 17) dX2_copyFrom_16 rfl rfl ?_
  refine g_aload_n (q := 18) dX2_copyFrom_17 rfl rfl ?_
  refine g_getI (q := 21) f_X2_16 (by assumption) rfl dX2_copyFrom_18 rfl ?_
  refine g_putI (q := 24) f_X2_16 (by assumption) rfl rfl rfl dX2_copyFrom_21 rfl ?_
  refine g_aload_n (q := 25) dX2_copyFrom_24 rfl rfl ?_
  refine g_aload_n (q := 26) dX2_copyFrom_25 rfl rfl ?_
  refine g_getI (q := 29) f_X2_25 (by assumption) rfl dX2_copyFrom_26 rfl ?_
  refine g_putI (q := 32) f_X2_25 (by assumption) rfl rfl rfl dX2_copyFrom_29 rfl ?_
  refine r_v dX2_copyFrom_32 rfl rfl rfl ?_
  show _ = _
  simp only [gu_2, gu_u, gu_s, gu_n _ _ hab]
  congr 1
  funext k
  rcases k with _ | _ | _ | _ | k <;> simp [upd, ag_cp]
  all_goals (intro h; exact absurd h (by omega))

def aw_no (f : Nat → Int32) : Nat → Int32 := upd (upd (upd f 0 (-1)) 1 (-1)) 2 (-1)
def aw_for (f : Nat → Int32) (b w k : Int32) : Nat → Int32 := upd (upd (upd f 0 b) 1 w) 2 (if w = 0 then k else -1)
def aw_told (f : Nat → Int32) (k : Nat) : Int32 := match k with
  | 0 => if f 1 = -1 then 0 else 1
  | 1 => f 0
  | 2 => f 1
  | 3 => f 2
  | _ => f 3

set_option maxRecDepth 100000 in
set_option maxHeartbeats 4000000 in
theorem p_X9_waits {X : gj_X} {lim : Nat} {σ : gj_H} {v : gj_V} {a : Nat} (hs : σ a = some sh_work) : gj_E X 0 m_X9_waits [.ref a] lim σ v (q_i lim σ (fun x v' => x = (if v a 1 = -1 then 0 else 1) ∧ v' = v)) := by
  refine gj_E_at (L := [some (.ref a)]) (k := 0) rfl (by decide) rfl ?_
  refine g_aload_n (q := 1) dX9_waits_0 rfl rfl ?_
  refine g_getI (q := 4) f_X9_9 (by assumption) rfl dX9_waits_1 rfl ?_
  refine g_iconst (q := 5) (x := (-1)) dX9_waits_4 (by decide) rfl ?_
  refine g_icmpeq (t := 12) (q := 8) dX9_waits_5 (by decide) rfl (fun hq5 => ?_) (fun hq5 => ?_)
  · refine g_iconst (q := 13) (x := 0) dX9_waits_12 (by decide) rfl ?_
    refine r_z dX9_waits_13 rfl rfl rfl (by decide) ?_
    simp_all
  · refine g_iconst (q := 9) (x := 1) dX9_waits_8 (by decide) rfl ?_
    refine g_goto (q := 13) dX9_waits_9 (by decide) ?_
    refine r_z dX9_waits_13 rfl rfl rfl (by decide) ?_
    simp_all

set_option maxRecDepth 100000 in
set_option maxHeartbeats 4000000 in
theorem p_X9_wishNoMore {X : gj_X} {lim : Nat} {σ : gj_H} {v : gj_V} {a : Nat} (hs : σ a = some sh_work) : gj_E X 0 m_X9_wishNoMore [.ref a] lim σ v (q_v lim σ (fun v' => v' = gj_up v a (aw_no (v a)))) := by
  refine gj_E_at (L := [some (.ref a)]) (k := 0) rfl (by decide) rfl ?_
  refine g_aload_n (q := 1) dX9_wishNoMore_0 rfl rfl ?_
  refine g_iconst (q := 2) (x := (-1)) dX9_wishNoMore_1 (by decide) rfl ?_
  refine g_putI (q := 5) f_X9_15 (by assumption) rfl rfl rfl dX9_wishNoMore_2 rfl ?_
  refine g_aload_n (q := 6) dX9_wishNoMore_5 rfl rfl ?_
  refine g_iconst (q := 7) (x := (-1)) dX9_wishNoMore_6 (by decide) rfl ?_
  refine g_putI (q := 10) f_X9_9 (by assumption) rfl rfl rfl dX9_wishNoMore_7 rfl ?_
  refine g_aload_n (q := 11) dX9_wishNoMore_10 rfl rfl ?_
  refine g_iconst (q := 12) (x := (-1)) dX9_wishNoMore_11 (by decide) rfl ?_
  refine g_putI (q := 15) f_X9_18 (by assumption) rfl rfl rfl dX9_wishNoMore_12 rfl ?_
  refine r_v dX9_wishNoMore_15 rfl rfl rfl ?_
  show _ = _
  simp only [gu_2, gu_u, gu_s]
  rfl

set_option maxRecDepth 100000 in
set_option maxHeartbeats 4000000 in
theorem p_X9_wishFor {X : gj_X} {lim : Nat} {σ : gj_H} {v : gj_V} {a : Nat} {x y z : Int32} (hs : σ a = some sh_work) : gj_E X 0 m_X9_wishFor [.ref a, .int x, .int y, .int z] lim σ v (q_v lim σ (fun v' => v' = gj_up v a (aw_for (v a) x y z))) := by
  refine gj_E_at (L := [some (.ref a), some (.int x), some (.int y), some (.int z)]) (k := 0) rfl (by decide) rfl ?_
  refine g_aload_n (q := 1) dX9_wishFor_0 rfl rfl ?_
  refine g_iload_n (q := 2) dX9_wishFor_1 rfl rfl ?_
  refine g_putI (q := 5) f_X9_15 (by assumption) rfl rfl rfl dX9_wishFor_2 rfl ?_
  refine g_aload_n (q := 6) dX9_wishFor_5 rfl rfl ?_
  refine g_iload_n (q := 7) dX9_wishFor_6 rfl rfl ?_
  refine g_putI (q := 10) f_X9_9 (by assumption) rfl rfl rfl dX9_wishFor_7 rfl ?_
  refine g_aload_n (q := 11) dX9_wishFor_10 rfl rfl ?_
  refine g_iload_n (q := 12) dX9_wishFor_11 rfl rfl ?_
  refine g_ifne (t := 19) (q := 15) dX9_wishFor_12 (by decide) rfl (fun hq12 => ?_) (fun hq12 => ?_)
  · refine g_iconst (q := 20) (x := (-1)) dX9_wishFor_19 (by decide) rfl ?_
    refine g_putI (q := 23) f_X9_18 (by assumption) rfl rfl rfl dX9_wishFor_20 rfl ?_
    refine r_v dX9_wishFor_23 rfl rfl rfl ?_
    show _ = _
    simp only [gu_2, gu_u, gu_s]
    simp [aw_for, hq12]
  · refine g_iload_n (q := 16) dX9_wishFor_15 rfl rfl ?_
    refine g_goto (q := 20) dX9_wishFor_16 (by decide) ?_
    refine g_putI (q := 23) f_X9_18 (by assumption) rfl rfl rfl dX9_wishFor_20 rfl ?_
    refine r_v dX9_wishFor_23 rfl rfl rfl ?_
    show _ = _
    simp only [gu_2, gu_u, gu_s]
    simp [aw_for, hq12]

set_option maxRecDepth 100000 in
set_option maxHeartbeats 4000000 in
theorem p_X9_startAnew {X : gj_X} {lim : Nat} {σ : gj_H} {v : gj_V} {a : Nat} (hs : σ a = some sh_work) : gj_E X 1 m_X9_startAnew [.ref a] lim σ v (q_v lim σ (fun v' => v' = gj_up v a (upd (aw_no (v a)) 3 (-1)))) := by
  refine gj_E_at (L := [some (.ref a)]) (k := 0) rfl (by decide) rfl ?_
  refine g_aload_n (q := 1) dX9_startAnew_0 rfl rfl ?_
  refine c_Vv (q := 4) (p_X9_wishNoMore hs) k_X9_28 (by assumption) rfl (by decide) rfl rfl (Nat.le_of_ble_eq_true rfl) rfl rfl dX9_startAnew_1 rfl ?_
  rintro vq1 rfl
  refine g_aload_n (q := 5) dX9_startAnew_4 rfl rfl ?_
  refine g_iconst (q := 6) (x := (-1)) dX9_startAnew_5 (by decide) rfl ?_
  refine g_putI (q := 9) f_X9_25 (by assumption) rfl rfl rfl dX9_startAnew_6 rfl ?_
  refine r_v dX9_startAnew_9 rfl rfl rfl ?_
  show _ = _
  simp only [gu_2, gu_u, gu_s]

set_option maxRecDepth 100000 in
set_option maxHeartbeats 4000000 in
theorem p_X9_copyFrom {X : gj_X} {lim : Nat} {σ : gj_H} {v : gj_V} {a b : Nat} (hs : σ a = some sh_work) (hs2 : σ b = some sh_work) (hab : b ≠ a) : gj_E X 0 m_X9_copyFrom [.ref a, .ref b] lim σ v (q_v lim σ (fun v' => v' = gj_up v a (ag_cp 4 (v a) (v b)))) := by
  refine gj_E_at (L := [some (.ref a), some (.ref b)]) (k := 0) rfl (by decide) rfl ?_
  refine g_aload_n (q := 1) dX9_copyFrom_0 rfl rfl ?_
  refine g_aload_n (q := 2) dX9_copyFrom_1 rfl rfl ?_
  refine g_getI (q := 5) f_X9_15 (by assumption) rfl dX9_copyFrom_2 rfl ?_
  refine g_putI (q := 8) f_X9_15 (by assumption) rfl rfl rfl dX9_copyFrom_5 rfl ?_
  refine g_aload_n (q := 9) dX9_copyFrom_8 rfl rfl ?_
  refine g_aload_n (q := 10) dX9_copyFrom_9 rfl rfl ?_
  refine g_getI (q := 13) f_X9_9 (by assumption) rfl dX9_copyFrom_10 rfl ?_
  refine g_putI (q := 16) f_X9_9 (by assumption) rfl rfl rfl dX9_copyFrom_13 rfl ?_
  refine g_aload_n (q := 17) dX9_copyFrom_16 rfl rfl ?_
  refine g_aload_n (q := 18) dX9_copyFrom_17 rfl rfl ?_
  refine g_getI (q := 21) f_X9_18 (by assumption) rfl dX9_copyFrom_18 rfl ?_
  refine g_putI (q := 24) f_X9_18 (by assumption) rfl rfl rfl dX9_copyFrom_21 rfl ?_
  refine g_aload_n (q := 25) dX9_copyFrom_24 rfl rfl ?_
  refine g_aload_n (q := 26) dX9_copyFrom_25 rfl rfl ?_
  refine g_getI (q := 29) f_X9_25 (by assumption) rfl dX9_copyFrom_26 rfl ?_
  refine g_putI (q := 32) f_X9_25 (by assumption) rfl rfl rfl dX9_copyFrom_29 rfl ?_
  refine r_v dX9_copyFrom_32 rfl rfl rfl ?_
  show _ = _
  simp only [gu_2, gu_u, gu_s, gu_n _ _ hab]
  congr 1
  funext k
  rcases k with _ | _ | _ | _ | k <;> simp [upd, ag_cp]
  all_goals (intro h; exact absurd h (by omega))

set_option maxRecDepth 100000 in
set_option maxHeartbeats 4000000 in
theorem p_X9_workerTold {X : gj_X} {lim : Nat} {σ : gj_H} {v : gj_V} {a k : Nat} (hs : σ a = some sh_work) (hk : k < 5) : gj_E X 1 m_X9_workerTold [.ref a, .int (nI k)] lim σ v (q_i lim σ (fun x v' => x = aw_told (v a) k ∧ v' = v)) := by
  refine gj_E_at (L := [some (.ref a), some (.int (nI k))]) (k := 0) rfl (by decide) rfl ?_
  rcases (show k = 0 ∨ k = 1 ∨ k = 2 ∨ k = 3 ∨ k = 4 by omega) with rfl | rfl | rfl | rfl | rfl
  · refine g_iload_n (q := 1) dX9_workerTold_0 rfl rfl ?_
    refine g_tableIn (t := 32) (o := 31) dX9_workerTold_1 (by decide) (by decide) (by decide) (by decide) ?_
    refine g_aload_n (q := 33) dX9_workerTold_32 rfl rfl ?_
    refine c_Vi (q := 36) (p_X9_waits hs) k_X9_21 (by assumption) rfl (by decide) rfl rfl (Nat.le_of_ble_eq_true rfl) rfl rfl dX9_workerTold_33 rfl ?_
    rintro x vq1 ⟨rfl, rfl⟩
    refine g_ifeq (t := 43) (q := 39) dX9_workerTold_36 (by decide) rfl (fun hq36 => ?_) (fun hq36 => ?_)
    · have hq36 := gn_w0 hq36
      refine g_iconst (q := 44) (x := 0) dX9_workerTold_43 (by decide) rfl ?_
      refine r_i dX9_workerTold_44 rfl rfl rfl ?_
      simp_all [aw_told]
    · have hq36 := gn_w1 hq36
      refine g_iconst (q := 40) (x := 1) dX9_workerTold_39 (by decide) rfl ?_
      refine g_goto (q := 44) dX9_workerTold_40 (by decide) ?_
      refine r_i dX9_workerTold_44 rfl rfl rfl ?_
      simp_all [aw_told]
  · refine g_iload_n (q := 1) dX9_workerTold_0 rfl rfl ?_
    refine g_tableIn (t := 45) (o := 44) dX9_workerTold_1 (by decide) (by decide) (by decide) (by decide) ?_
    refine g_aload_n (q := 46) dX9_workerTold_45 rfl rfl ?_
    refine g_getI (q := 49) f_X9_15 (by assumption) rfl dX9_workerTold_46 rfl ?_
    refine r_i dX9_workerTold_49 rfl rfl rfl ?_
    simp_all [aw_told]
  · refine g_iload_n (q := 1) dX9_workerTold_0 rfl rfl ?_
    refine g_tableIn (t := 50) (o := 49) dX9_workerTold_1 (by decide) (by decide) (by decide) (by decide) ?_
    refine g_aload_n (q := 51) dX9_workerTold_50 rfl rfl ?_
    refine g_getI (q := 54) f_X9_9 (by assumption) rfl dX9_workerTold_51 rfl ?_
    refine r_i dX9_workerTold_54 rfl rfl rfl ?_
    simp_all [aw_told]
  · refine g_iload_n (q := 1) dX9_workerTold_0 rfl rfl ?_
    refine g_tableIn (t := 55) (o := 54) dX9_workerTold_1 (by decide) (by decide) (by decide) (by decide) ?_
    refine g_aload_n (q := 56) dX9_workerTold_55 rfl rfl ?_
    refine g_getI (q := 59) f_X9_18 (by assumption) rfl dX9_workerTold_56 rfl ?_
    refine r_i dX9_workerTold_59 rfl rfl rfl ?_
    simp_all [aw_told]
  · refine g_iload_n (q := 1) dX9_workerTold_0 rfl rfl ?_
    refine g_tableOut (t := 60) dX9_workerTold_1 (by decide) (by decide) ?_
    refine g_aload_n (q := 61) dX9_workerTold_60 rfl rfl ?_
    refine g_getI (q := 64) f_X9_25 (by assumption) rfl dX9_workerTold_61 rfl ?_
    refine r_i dX9_workerTold_64 rfl rfl rfl ?_
    simp_all [aw_told]

def as_idle (f : Nat → Int32) : Nat → Int32 := upd (upd (upd f 6 0) 7 0) 8 (-1)
def as_set (f : Nat → Int32) (x0 x1 x2 x3 x4 : Int32) : Nat → Int32 := upd (upd (upd (as_idle (upd (upd (upd (upd (upd (upd f 0 x0) 1 x1) 2 x2) 3 x3) 4 x4) 5 (-1))) 9 0) 10 0) 11 0
def as_load (f : Nat → Int32) (x : Int32) : Nat → Int32 := if x = -5 then upd f 11 (f 11 + 1) else upd (upd (upd f 6 1) 7 (f 3)) 8 ((x + f 4) - (x + f 4) / 10 * 10)
def as_on (f : Nat → Int32) : Nat → Int32 := if f 6 = 1 then (if f 7 - 1 = 0 then upd (upd f 7 (f 7 - 1)) 6 2 else upd f 7 (f 7 - 1)) else f
def as_told (f : Nat → Int32) (k : Nat) : Int32 := match k with
  | 0 => f 6
  | 1 => f 7
  | 2 => f 8
  | 3 => f 9
  | 4 => f 10
  | 5 => f 11
  | _ => f 5

set_option maxRecDepth 100000 in
set_option maxHeartbeats 4000000 in
theorem p_X7_becomeIdle {X : gj_X} {lim : Nat} {σ : gj_H} {v : gj_V} {a : Nat} (hs : σ a = some sh_stat) : gj_E X 0 m_X7_becomeIdle [.ref a] lim σ v (q_v lim σ (fun v' => v' = gj_up v a (as_idle (v a)))) := by
  refine gj_E_at (L := [some (.ref a)]) (k := 0) rfl (by decide) rfl ?_
  refine g_aload_n (q := 1) dX7_becomeIdle_0 rfl rfl ?_
  refine g_iconst (q := 2) (x := 0) dX7_becomeIdle_1 (by decide) rfl ?_
  refine g_putI (q := 5) f_X7_42 (by assumption) rfl rfl rfl dX7_becomeIdle_2 rfl ?_
  refine g_aload_n (q := 6) dX7_becomeIdle_5 rfl rfl ?_
  refine g_iconst (q := 7) (x := 0) dX7_becomeIdle_6 (by decide) rfl ?_
  refine g_putI (q := 10) f_X7_45 (by assumption) rfl rfl rfl dX7_becomeIdle_7 rfl ?_
  refine g_aload_n (q := 11) dX7_becomeIdle_10 rfl rfl ?_
  refine g_iconst (q := 12) (x := (-1)) dX7_becomeIdle_11 (by decide) rfl ?_
  refine g_putI (q := 15) f_X7_48 (by assumption) rfl rfl rfl dX7_becomeIdle_12 rfl ?_
  refine r_v dX7_becomeIdle_15 rfl rfl rfl ?_
  show _ = _
  simp only [gu_2, gu_u, gu_s]
  rfl

set_option maxRecDepth 100000 in
set_option maxHeartbeats 4000000 in
theorem p_X7_setUp {X : gj_X} {lim : Nat} {σ : gj_H} {v : gj_V} {a : Nat} {x0 x1 x2 x3 x4 : Int32} (hs : σ a = some sh_stat) : gj_E X 1 m_X7_setUp [.ref a, .int x0, .int x1, .int x2, .int x3, .int x4] lim σ v (q_v lim σ (fun v' => v' = gj_up v a (as_set (v a) x0 x1 x2 x3 x4))) := by
  refine gj_E_at (L := [some (.ref a), some (.int x0), some (.int x1), some (.int x2), some (.int x3), some (.int x4)]) (k := 0) rfl (by decide) rfl ?_
  refine g_aload_n (q := 1) dX7_setUp_0 rfl rfl ?_
  refine g_iload_n (q := 2) dX7_setUp_1 rfl rfl ?_
  refine g_putI (q := 5) f_X7_9 (by assumption) rfl rfl rfl dX7_setUp_2 rfl ?_
  refine g_aload_n (q := 6) dX7_setUp_5 rfl rfl ?_
  refine g_iload_n (q := 7) dX7_setUp_6 rfl rfl ?_
  refine g_putI (q := 10) f_X7_15 (by assumption) rfl rfl rfl dX7_setUp_7 rfl ?_
  refine g_aload_n (q := 11) dX7_setUp_10 rfl rfl ?_
  refine g_iload_n (q := 12) dX7_setUp_11 rfl rfl ?_
  refine g_putI (q := 15) f_X7_18 (by assumption) rfl rfl rfl dX7_setUp_12 rfl ?_
  refine g_aload_n (q := 16) dX7_setUp_15 rfl rfl ?_
  refine g_iload (q := 18) dX7_setUp_16 rfl rfl ?_
  refine g_putI (q := 21) f_X7_21 (by assumption) rfl rfl rfl dX7_setUp_18 rfl ?_
  refine g_aload_n (q := 22) dX7_setUp_21 rfl rfl ?_
  refine g_iload (q := 24) dX7_setUp_22 rfl rfl ?_
  refine g_putI (q := 27) f_X7_24 (by assumption) rfl rfl rfl dX7_setUp_24 rfl ?_
  refine g_aload_n (q := 28) dX7_setUp_27 rfl rfl ?_
  refine g_iconst (q := 29) (x := (-1)) dX7_setUp_28 (by decide) rfl ?_
  refine g_putI (q := 32) f_X7_27 (by assumption) rfl rfl rfl dX7_setUp_29 rfl ?_
  refine g_aload_n (q := 33) dX7_setUp_32 rfl rfl ?_
  refine c_Vv (q := 36) (p_X7_becomeIdle hs) k_X7_30 (by assumption) rfl (by decide) rfl rfl (Nat.le_of_ble_eq_true rfl) rfl rfl dX7_setUp_33 rfl ?_
  rintro vq1 rfl
  refine g_aload_n (q := 37) dX7_setUp_36 rfl rfl ?_
  refine g_iconst (q := 38) (x := 0) dX7_setUp_37 (by decide) rfl ?_
  refine g_putI (q := 41) f_X7_33 (by assumption) rfl rfl rfl dX7_setUp_38 rfl ?_
  refine g_aload_n (q := 42) dX7_setUp_41 rfl rfl ?_
  refine g_iconst (q := 43) (x := 0) dX7_setUp_42 (by decide) rfl ?_
  refine g_putI (q := 46) f_X7_36 (by assumption) rfl rfl rfl dX7_setUp_43 rfl ?_
  refine g_aload_n (q := 47) dX7_setUp_46 rfl rfl ?_
  refine g_iconst (q := 48) (x := 0) dX7_setUp_47 (by decide) rfl ?_
  refine g_putI (q := 51) f_X7_39 (by assumption) rfl rfl rfl dX7_setUp_48 rfl ?_
  refine r_v dX7_setUp_51 rfl rfl rfl ?_
  show _ = _
  simp only [gu_2, gu_u, gu_s]
  rfl

set_option maxRecDepth 100000 in
set_option maxHeartbeats 4000000 in
theorem p_X7_load {X : gj_X} {lim : Nat} {σ : gj_H} {v : gj_V} {a : Nat} {x : Int32} (hs : σ a = some sh_stat) : gj_E X 0 m_X7_load [.ref a, .int x] lim σ v (q_v lim σ (fun v' => v' = gj_up v a (as_load (v a) x))) := by
  refine gj_E_at (L := [some (.ref a), some (.int x)]) (k := 0) rfl (by decide) rfl ?_
  refine g_iload_n (q := 1) dX7_load_0 rfl rfl ?_
  refine g_bipush (q := 3) (x := (-5)) dX7_load_1 (by decide) rfl ?_
  refine g_icmpne (t := 17) (q := 6) dX7_load_3 (by decide) rfl (fun hq3 => ?_) (fun hq3 => ?_)
  · refine g_aload_n (q := 18) dX7_load_17 rfl rfl ?_
    refine g_iconst (q := 19) (x := 1) dX7_load_18 (by decide) rfl ?_
    refine g_putI (q := 22) f_X7_42 (by assumption) rfl rfl rfl dX7_load_19 rfl ?_
    refine g_aload_n (q := 23) dX7_load_22 rfl rfl ?_
    refine g_aload_n (q := 24) dX7_load_23 rfl rfl ?_
    refine g_getI (q := 27) f_X7_21 (by assumption) rfl dX7_load_24 rfl ?_
    refine g_putI (q := 30) f_X7_45 (by assumption) rfl rfl rfl dX7_load_27 rfl ?_
    refine g_aload_n (q := 31) dX7_load_30 rfl rfl ?_
    refine g_iload_n (q := 32) dX7_load_31 rfl rfl ?_
    refine g_aload_n (q := 33) dX7_load_32 rfl rfl ?_
    refine g_getI (q := 36) f_X7_24 (by assumption) rfl dX7_load_33 rfl ?_
    refine g_iadd (q := 37) dX7_load_36 rfl ?_
    refine g_bipush (q := 39) (x := 10) dX7_load_37 (by decide) rfl ?_
    refine g_irem (q := 40) dX7_load_39 (by decide) rfl ?_
    refine g_putI (q := 43) f_X7_48 (by assumption) rfl rfl rfl dX7_load_40 rfl ?_
    refine r_v dX7_load_43 rfl rfl rfl ?_
    show _ = _
    simp only [gu_2, gu_u, gu_s]
    simp [as_load, hq3, upd]
  · refine g_aload_n (q := 7) dX7_load_6 rfl rfl ?_
    refine g_dup (q := 8) dX7_load_7 rfl rfl ?_
    refine g_getI (q := 11) f_X7_39 (by assumption) rfl dX7_load_8 rfl ?_
    refine g_iconst (q := 12) (x := 1) dX7_load_11 (by decide) rfl ?_
    refine g_iadd (q := 13) dX7_load_12 rfl ?_
    refine g_putI (q := 16) f_X7_39 (by assumption) rfl rfl rfl dX7_load_13 rfl ?_
    refine r_v dX7_load_16 rfl rfl rfl ?_
    show _ = _
    simp only [gu_2, gu_u, gu_s]
    simp [as_load, hq3, upd]

set_option maxRecDepth 100000 in
set_option maxHeartbeats 4000000 in
theorem p_X7_workOn {X : gj_X} {lim : Nat} {σ : gj_H} {v : gj_V} {a : Nat} (hs : σ a = some sh_stat) : gj_E X 0 m_X7_workOn [.ref a] lim σ v (q_v lim σ (fun v' => v' = gj_up v a (as_on (v a)))) := by
  refine gj_E_at (L := [some (.ref a)]) (k := 0) rfl (by decide) rfl ?_
  refine g_aload_n (q := 1) dX7_workOn_0 rfl rfl ?_
  refine g_getI (q := 4) f_X7_42 (by assumption) rfl dX7_workOn_1 rfl ?_
  refine g_iconst (q := 5) (x := 1) dX7_workOn_4 (by decide) rfl ?_
  refine g_icmpne (t := 30) (q := 8) dX7_workOn_5 (by decide) rfl (fun hq5 => ?_) (fun hq5 => ?_)
  · refine r_v dX7_workOn_30 rfl rfl rfl ?_
    show _ = _
    try simp only [gu_2, gu_u, gu_s, ud_s] at *
    simp_all [as_on, gu_id]
  · refine g_aload_n (q := 9) dX7_workOn_8 rfl rfl ?_
    refine g_dup (q := 10) dX7_workOn_9 rfl rfl ?_
    refine g_getI (q := 13) f_X7_45 (by assumption) rfl dX7_workOn_10 rfl ?_
    refine g_iconst (q := 14) (x := 1) dX7_workOn_13 (by decide) rfl ?_
    refine g_isub (q := 15) dX7_workOn_14 rfl ?_
    refine g_putI (q := 18) f_X7_45 (by assumption) rfl rfl rfl dX7_workOn_15 rfl ?_
    refine g_aload_n (q := 19) dX7_workOn_18 rfl rfl ?_
    refine g_getI (q := 22) f_X7_45 (by assumption) rfl dX7_workOn_19 rfl ?_
    refine g_ifne (t := 30) (q := 25) dX7_workOn_22 (by decide) rfl (fun hq22 => ?_) (fun hq22 => ?_)
    · refine r_v dX7_workOn_30 rfl rfl rfl ?_
      show _ = _
      try simp only [gu_2, gu_u, gu_s, ud_s] at *
      simp_all [as_on, gu_id]
    · refine g_aload_n (q := 26) dX7_workOn_25 rfl rfl ?_
      refine g_iconst (q := 27) (x := 2) dX7_workOn_26 (by decide) rfl ?_
      refine g_putI (q := 30) f_X7_42 (by assumption) rfl rfl rfl dX7_workOn_27 rfl ?_
      refine r_v dX7_workOn_30 rfl rfl rfl ?_
      show _ = _
      try simp only [gu_2, gu_u, gu_s, ud_s] at *
      simp_all [as_on, gu_id]

set_option maxRecDepth 100000 in
set_option maxHeartbeats 4000000 in
theorem p_X7_stationTold {X : gj_X} {lim : Nat} {σ : gj_H} {v : gj_V} {a k : Nat} (hs : σ a = some sh_stat) (hk : k < 7) : gj_E X 0 m_X7_stationTold [.ref a, .int (nI k)] lim σ v (q_i lim σ (fun x v' => x = as_told (v a) k ∧ v' = v)) := by
  refine gj_E_at (L := [some (.ref a), some (.int (nI k))]) (k := 0) rfl (by decide) rfl ?_
  rcases (show k = 0 ∨ k = 1 ∨ k = 2 ∨ k = 3 ∨ k = 4 ∨ k = 5 ∨ k = 6 by omega) with rfl | rfl | rfl | rfl | rfl | rfl | rfl
  · refine g_iload_n (q := 1) dX7_stationTold_0 rfl rfl ?_
    refine g_tableIn (t := 40) (o := 39) dX7_stationTold_1 (by decide) (by decide) (by decide) (by decide) ?_
    refine g_aload_n (q := 41) dX7_stationTold_40 rfl rfl ?_
    refine g_getI (q := 44) f_X7_42 (by assumption) rfl dX7_stationTold_41 rfl ?_
    refine r_i dX7_stationTold_44 rfl rfl rfl ?_
    simp_all [as_told]
  · refine g_iload_n (q := 1) dX7_stationTold_0 rfl rfl ?_
    refine g_tableIn (t := 45) (o := 44) dX7_stationTold_1 (by decide) (by decide) (by decide) (by decide) ?_
    refine g_aload_n (q := 46) dX7_stationTold_45 rfl rfl ?_
    refine g_getI (q := 49) f_X7_45 (by assumption) rfl dX7_stationTold_46 rfl ?_
    refine r_i dX7_stationTold_49 rfl rfl rfl ?_
    simp_all [as_told]
  · refine g_iload_n (q := 1) dX7_stationTold_0 rfl rfl ?_
    refine g_tableIn (t := 50) (o := 49) dX7_stationTold_1 (by decide) (by decide) (by decide) (by decide) ?_
    refine g_aload_n (q := 51) dX7_stationTold_50 rfl rfl ?_
    refine g_getI (q := 54) f_X7_48 (by assumption) rfl dX7_stationTold_51 rfl ?_
    refine r_i dX7_stationTold_54 rfl rfl rfl ?_
    simp_all [as_told]
  · refine g_iload_n (q := 1) dX7_stationTold_0 rfl rfl ?_
    refine g_tableIn (t := 55) (o := 54) dX7_stationTold_1 (by decide) (by decide) (by decide) (by decide) ?_
    refine g_aload_n (q := 56) dX7_stationTold_55 rfl rfl ?_
    refine g_getI (q := 59) f_X7_33 (by assumption) rfl dX7_stationTold_56 rfl ?_
    refine r_i dX7_stationTold_59 rfl rfl rfl ?_
    simp_all [as_told]
  · refine g_iload_n (q := 1) dX7_stationTold_0 rfl rfl ?_
    refine g_tableIn (t := 60) (o := 59) dX7_stationTold_1 (by decide) (by decide) (by decide) (by decide) ?_
    refine g_aload_n (q := 61) dX7_stationTold_60 rfl rfl ?_
    refine g_getI (q := 64) f_X7_36 (by assumption) rfl dX7_stationTold_61 rfl ?_
    refine r_i dX7_stationTold_64 rfl rfl rfl ?_
    simp_all [as_told]
  · refine g_iload_n (q := 1) dX7_stationTold_0 rfl rfl ?_
    refine g_tableIn (t := 65) (o := 64) dX7_stationTold_1 (by decide) (by decide) (by decide) (by decide) ?_
    refine g_aload_n (q := 66) dX7_stationTold_65 rfl rfl ?_
    refine g_getI (q := 69) f_X7_39 (by assumption) rfl dX7_stationTold_66 rfl ?_
    refine r_i dX7_stationTold_69 rfl rfl rfl ?_
    simp_all [as_told]
  · refine g_iload_n (q := 1) dX7_stationTold_0 rfl rfl ?_
    refine g_tableOut (t := 70) dX7_stationTold_1 (by decide) (by decide) ?_
    refine g_aload_n (q := 71) dX7_stationTold_70 rfl rfl ?_
    refine g_getI (q := 74) f_X7_27 (by assumption) rfl dX7_stationTold_71 rfl ?_
    refine r_i dX7_stationTold_74 rfl rfl rfl ?_
    simp_all [as_told]

set_option maxRecDepth 100000 in
set_option maxHeartbeats 4000000 in
theorem p_X7_copyFrom {X : gj_X} {lim : Nat} {σ : gj_H} {v : gj_V} {a b : Nat} (hs : σ a = some sh_stat) (hs2 : σ b = some sh_stat) (hab : b ≠ a) : gj_E X 0 m_X7_copyFrom [.ref a, .ref b] lim σ v (q_v lim σ (fun v' => v' = gj_up v a (ag_cp 12 (v a) (v b)))) := by
  refine gj_E_at (L := [some (.ref a), some (.ref b)]) (k := 0) rfl (by decide) rfl ?_
  refine g_aload_n (q := 1) dX7_copyFrom_0 rfl rfl ?_
  refine g_aload_n (q := 2) dX7_copyFrom_1 rfl rfl ?_
  refine g_getI (q := 5) f_X7_9 (by assumption) rfl dX7_copyFrom_2 rfl ?_
  refine g_putI (q := 8) f_X7_9 (by assumption) rfl rfl rfl dX7_copyFrom_5 rfl ?_
  refine g_aload_n (q := 9) dX7_copyFrom_8 rfl rfl ?_
  refine g_aload_n (q := 10) dX7_copyFrom_9 rfl rfl ?_
  refine g_getI (q := 13) f_X7_15 (by assumption) rfl dX7_copyFrom_10 rfl ?_
  refine g_putI (q := 16) f_X7_15 (by assumption) rfl rfl rfl dX7_copyFrom_13 rfl ?_
  refine g_aload_n (q := 17) dX7_copyFrom_16 rfl rfl ?_
  refine g_aload_n (q := 18) dX7_copyFrom_17 rfl rfl ?_
  refine g_getI (q := 21) f_X7_18 (by assumption) rfl dX7_copyFrom_18 rfl ?_
  refine g_putI (q := 24) f_X7_18 (by assumption) rfl rfl rfl dX7_copyFrom_21 rfl ?_
  refine g_aload_n (q := 25) dX7_copyFrom_24 rfl rfl ?_
  refine g_aload_n (q := 26) dX7_copyFrom_25 rfl rfl ?_
  refine g_getI (q := 29) f_X7_21 (by assumption) rfl dX7_copyFrom_26 rfl ?_
  refine g_putI (q := 32) f_X7_21 (by assumption) rfl rfl rfl dX7_copyFrom_29 rfl ?_
  refine g_aload_n (q := 33) dX7_copyFrom_32 rfl rfl ?_
  refine g_aload_n (q := 34) dX7_copyFrom_33 rfl rfl ?_
  refine g_getI (q := 37) f_X7_24 (by assumption) rfl dX7_copyFrom_34 rfl ?_
  refine g_putI (q := 40) f_X7_24 (by assumption) rfl rfl rfl dX7_copyFrom_37 rfl ?_
  refine g_aload_n (q := 41) dX7_copyFrom_40 rfl rfl ?_
  refine g_aload_n (q := 42) dX7_copyFrom_41 rfl rfl ?_
  refine g_getI (q := 45) f_X7_27 (by assumption) rfl dX7_copyFrom_42 rfl ?_
  refine g_putI (q := 48) f_X7_27 (by assumption) rfl rfl rfl dX7_copyFrom_45 rfl ?_
  refine g_aload_n (q := 49) dX7_copyFrom_48 rfl rfl ?_
  refine g_aload_n (q := 50) dX7_copyFrom_49 rfl rfl ?_
  refine g_getI (q := 53) f_X7_42 (by assumption) rfl dX7_copyFrom_50 rfl ?_
  refine g_putI (q := 56) f_X7_42 (by assumption) rfl rfl rfl dX7_copyFrom_53 rfl ?_
  refine g_aload_n (q := 57) dX7_copyFrom_56 rfl rfl ?_
  refine g_aload_n (q := 58) dX7_copyFrom_57 rfl rfl ?_
  refine g_getI (q := 61) f_X7_45 (by assumption) rfl dX7_copyFrom_58 rfl ?_
  refine g_putI (q := 64) f_X7_45 (by assumption) rfl rfl rfl dX7_copyFrom_61 rfl ?_
  refine g_aload_n (q := 65) dX7_copyFrom_64 rfl rfl ?_
  refine g_aload_n (q := 66) dX7_copyFrom_65 rfl rfl ?_
  refine g_getI (q := 69) f_X7_48 (by assumption) rfl dX7_copyFrom_66 rfl ?_
  refine g_putI (q := 72) f_X7_48 (by assumption) rfl rfl rfl dX7_copyFrom_69 rfl ?_
  refine g_aload_n (q := 73) dX7_copyFrom_72 rfl rfl ?_
  refine g_aload_n (q := 74) dX7_copyFrom_73 rfl rfl ?_
  refine g_getI (q := 77) f_X7_33 (by assumption) rfl dX7_copyFrom_74 rfl ?_
  refine g_putI (q := 80) f_X7_33 (by assumption) rfl rfl rfl dX7_copyFrom_77 rfl ?_
  refine g_aload_n (q := 81) dX7_copyFrom_80 rfl rfl ?_
  refine g_aload_n (q := 82) dX7_copyFrom_81 rfl rfl ?_
  refine g_getI (q := 85) f_X7_36 (by assumption) rfl dX7_copyFrom_82 rfl ?_
  refine g_putI (q := 88) f_X7_36 (by assumption) rfl rfl rfl dX7_copyFrom_85 rfl ?_
  refine g_aload_n (q := 89) dX7_copyFrom_88 rfl rfl ?_
  refine g_aload_n (q := 90) dX7_copyFrom_89 rfl rfl ?_
  refine g_getI (q := 93) f_X7_39 (by assumption) rfl dX7_copyFrom_90 rfl ?_
  refine g_putI (q := 96) f_X7_39 (by assumption) rfl rfl rfl dX7_copyFrom_93 rfl ?_
  refine r_v dX7_copyFrom_96 rfl rfl rfl ?_
  show _ = _
  simp only [gu_2, gu_u, gu_s, gu_n _ _ hab]
  congr 1
  funext k
  rcases k with _ | _ | _ | _ | _ | _ | _ | _ | _ | _ | _ | _ | k <;> simp [upd, ag_cp]
  all_goals (intro h; exact absurd h (by omega))
