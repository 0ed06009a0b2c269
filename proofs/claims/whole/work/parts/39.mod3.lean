theorem sB_out (A : aS) (b : Nat) (g f : Nat → Int32) (li lq : List Int32) (hb : b < 6) : a_out (sB A b (g, f, li, lq)) b = sB A b (ag_out g, f, li, lq) := by
  have e : (sB A b (g, f, li, lq)).1 b = g := congrArg Prod.fst (gB_s A b (g, f, li, lq) hb)
  unfold a_out
  rw [e]
  refine Prod.ext (funext fun i => ?_) rfl
  simp only [sR, sB]
  by_cases e1 : i = b
  · subst e1; rw [vu_s, vu_n _ _ (by omega), vu_s]
  · rw [vu_n _ _ e1]
    by_cases e2 : i = 10 + b
    · subst e2; rw [vu_s, vu_s]
    · rw [vu_n _ _ e2, vu_n _ _ e1, vu_n _ _ e2, vu_n _ _ e1]
theorem sB_in (A : aS) (b : Nat) (g0 g f : Nat → Int32) (li lq : List Int32) (hb : b < 6) : sB (sR A b g0) b (g, f, li, lq) = sB A b (g, f, li, lq) := by
  refine Prod.ext (funext fun i => ?_) rfl
  simp only [sR, sB]
  by_cases e2 : i = 10 + b
  · subst e2; rw [vu_s, vu_s]
  · rw [vu_n _ _ e2, vu_n _ _ e2]
    by_cases e1 : i = b
    · subst e1; rw [vu_s, vu_s]
    · rw [vu_n _ _ e1, vu_n _ _ e1, vu_n _ _ e1]
theorem sR_sR (A : aS) (b : Nat) (g0 g : Nat → Int32) : sR (sR A b g0) b g = sR A b g := by
  refine Prod.ext (funext fun i => ?_) rfl
  simp only [sR]
  by_cases e1 : i = b
  · subst e1; rw [vu_s, vu_s]
  · rw [vu_n _ _ e1, vu_n _ _ e1, vu_n _ _ e1]
theorem in_thr (A : aS) (b : Nat) (hb : b < 6) : a_thr (a_in A b) b = sB A b (ag_thr (ag_in (A.1 b)), (gB A b).2) := by
  rw [sB_gate A b _ hb]
  unfold a_thr a_in
  rw [sR_s, sR_sR]
theorem in_10 (A : aS) (b : Nat) : (a_in A b).1 (10 + b) = A.1 (10 + b) := vu_n _ _ (by omega)
/-- shifts -/
def shl (N : Nat → Int32) (q i : Nat) : Nat → Int32 := fun j => if q ≤ j ∧ j < q + i then N (j + 1) else N j
theorem shl_0 (N : Nat → Int32) (q : Nat) : shl N q 0 = N := funext fun j => if_neg (by omega)
theorem shl_s (N : Nat → Int32) (q i : Nat) : upd (shl N q i) (q + i) (shl N q i (q + i + 1)) = shl N q (i + 1) := by
  funext j
  unfold upd shl
  by_cases e : j = q + i
  · subst e; rw [if_pos rfl, if_neg (by omega), if_pos (by omega)]
  · rw [if_neg e]
    by_cases h : q ≤ j ∧ j < q + i
    · rw [if_pos h, if_pos (by omega)]
    · rw [if_neg h, if_neg (by omega)]
theorem shl_i {N : Nat → Int32} {q i j : Nat} (h : q ≤ j ∧ j < q + i) : shl N q i j = N (j + 1) := if_pos h
theorem shl_o {N : Nat → Int32} {q i j : Nat} (h : j < q ∨ q + i ≤ j) : shl N q i j = N j := if_neg (by omega)
def shr (N : Nat → Int32) (q i n : Nat) : Nat → Int32 := fun j => if q + i < j ∧ j ≤ q + n then N (j - 1) else N j
theorem shr_n (N : Nat → Int32) (q n : Nat) : shr N q n n = N := funext fun j => if_neg (by omega)
theorem shr_s (N : Nat → Int32) (q i n : Nat) (h : i < n) : upd (shr N q (i + 1) n) (q + (i + 1)) (shr N q (i + 1) n (q + i)) = shr N q i n := by
  funext j
  unfold upd shr
  by_cases e : j = q + (i + 1)
  · subst e; rw [if_pos rfl, if_neg (by omega), if_pos (by omega)]; rfl
  · rw [if_neg e]
    by_cases h : q + (i + 1) < j ∧ j ≤ q + n
    · rw [if_pos h, if_pos (by omega)]
    · rw [if_neg h, if_neg (by omega)]
theorem ge_0 {l : List Int32} {i : Nat} : (l.eraseIdx 0).getD i 0 = l.getD (i + 1) 0 := by cases l <;> rfl
theorem ge_len {l : List Int32} : (l.eraseIdx 0).length = l.length - 1 := by cases l <;> rfl
theorem ge_ap {l : List Int32} {i : Nat} {k : Int32} (h : i < l.length) : (l ++ [k]).getD i 0 = l.getD i 0 := by
  rw [List.getD_eq_getElem?_getD, List.getElem?_append_left h, ← List.getD_eq_getElem?_getD]
theorem ge_la {l : List Int32} {k : Int32} : (l ++ [k]).getD l.length 0 = k := by simp
theorem mb_put {N N' : Nat → Int32} {b : Nat} {f : Nat → Int32} {li lq : List Int32} {k z : Int32} (h : mb N b f li lq) (hl : li.length < 6) (q14 : N' (10 + 24 * b + 14 + li.length) = k) (q0 : N' (10 + 24 * b + 0) = nI (li.length + 1)) (q2 : N' (10 + 24 * b + 2) = f 4 + 1) (q4 : N' (10 + 24 * b + 4) = z) (qo : ∀ j, j ≠ 10 + 24 * b + 14 + li.length → j ≠ 10 + 24 * b + 0 → j ≠ 10 + 24 * b + 2 → j ≠ 10 + 24 * b + 4 → N' j = N j) : mb N' b (upd (upd f 4 (f 4 + 1)) 6 z) (li ++ [k]) lq := by
  obtain ⟨a0, a1, a2, a3, a4, a5, a6, a7, a8, a9, a10, a11⟩ := h
  refine ⟨by rw [q0]; simp, ?_, ?_, ?_, ?_, ?_, ?_, ?_, fun i hi => ?_, fun i hi => ?_, by simp; omega, a11⟩
  · rw [qo _ (by omega) (by omega) (by omega) (by omega), ud_n _ _ (by decide), ud_n _ _ (by decide)]; exact a1
  · rw [q2, ud_n _ _ (by decide), ud_s]
  · rw [qo _ (by omega) (by omega) (by omega) (by omega), ud_n _ _ (by decide), ud_n _ _ (by decide)]; exact a3
  · rw [q4, ud_s]
  · rw [qo _ (by omega) (by omega) (by omega) (by omega), ud_n _ _ (by decide), ud_n _ _ (by decide)]; exact a5
  · rw [qo _ (by omega) (by omega) (by omega) (by omega), ud_n _ _ (by decide), ud_n _ _ (by decide)]; exact a6
  · rw [qo _ (by omega) (by omega) (by omega) (by omega)]; exact a7
  · rw [qo _ (by omega) (by omega) (by omega) (by omega)]; exact a8 i hi
  · simp only [List.length_append, List.length_singleton] at hi
    by_cases e : i = li.length
    · subst e; rw [ge_la]; exact q14
    · rw [ge_ap (by omega), qo _ (by omega) (by omega) (by omega) (by omega)]; exact a9 i (by omega)
theorem sl_nm (k : Nat) : nI (k + 1) - 1 = nI k := rl_s

set_option maxRecDepth 100000 in
set_option maxHeartbeats 4000000 in
theorem p_X11_isKeptFor {X : gj_X} {lim : Nat} {σ : gj_H} {v : gj_V} {m sn : Nat} {A : aS} {t : Int32} (hs : msh σ m) (hM : MR (v (m + 2)) A t sn) {b : Nat} {w : Int32} (hb : b < 6) : gj_E X 1 m_X11_isKeptFor [.ref m, .int (nI b), .int w] lim σ v (q_i lim σ (fun z v' => z = (if b_kept (gB A b) w then 1 else 0) ∧ v' = v)) := by
  obtain ⟨so, s1, s2, s3, s4, s5, s6, s7, s8, s9, s10, s11, s12⟩ := id hs
  have hB := hM.2.1 b hb
  refine gj_E_at (L := [some (.ref m), some (.int (nI b)), some (.int w)]) (k := 0) rfl (by decide) rfl ?_
  refine g_aload_n (q := 1) dX11_isKeptFor_0 rfl rfl ?_
  refine g_getR (q := 4) f_X11_13 (by assumption) rfl dX11_isKeptFor_1 rfl ?_
  refine g_iload_n (q := 5) dX11_isKeptFor_4 rfl rfl ?_
  refine c_Si (q := 8) (p_X11_atBuffer (b := b)) k_X11_54 (by decide) rfl rfl (Nat.le_of_ble_eq_true rfl) rfl rfl dX11_isKeptFor_5 rfl ?_
  rintro z0 w1 ⟨hz0, hw1⟩
  subst w1
  subst z0
  refine g_iconst (q := 9) (x := 5) dX11_isKeptFor_8 (by decide) rfl ?_
  refine g_iadd (q := 10) dX11_isKeptFor_9 rfl ?_
  refine g_iald (q := 11) (by assumption) (by first | (simp only [gn_lit, nI_add, pk_mul]; exact rfl) | exact rfl) (by omega) (by decide) dX11_isKeptFor_10 rfl ?_
  refine g_iconst (q := 12) (x := (-1)) dX11_isKeptFor_11 (by decide) rfl ?_
  refine g_icmpeq (t := 34) (q := 15) dX11_isKeptFor_12 (by decide) rfl (fun hq12 => ?_) (fun hq12 => ?_)
  · rw [hB.2.2.2.2.2.1] at hq12
    refine g_iconst (q := 35) (x := 0) dX11_isKeptFor_34 (by decide) rfl ?_
    refine r_z dX11_isKeptFor_35 rfl rfl rfl (by decide) ?_
    refine ⟨?_, rfl⟩
    first | (rw [if_neg (fun z => z.1 hq12)]; done) | (rw [if_neg (fun z => z.2 hq27)]; done) | (rw [if_pos ⟨hq12, hq27⟩]; done)
  · rw [hB.2.2.2.2.2.1] at hq12
    refine g_aload_n (q := 16) dX11_isKeptFor_15 rfl rfl ?_
    refine g_getR (q := 19) f_X11_13 (by assumption) rfl dX11_isKeptFor_16 rfl ?_
    refine g_iload_n (q := 20) dX11_isKeptFor_19 rfl rfl ?_
    refine c_Si (q := 23) (p_X11_atBuffer (b := b)) k_X11_54 (by decide) rfl rfl (Nat.le_of_ble_eq_true rfl) rfl rfl dX11_isKeptFor_20 rfl ?_
    rintro z0 w1 ⟨hz0, hw1⟩
    subst w1
    subst z0
    refine g_iconst (q := 24) (x := 5) dX11_isKeptFor_23 (by decide) rfl ?_
    refine g_iadd (q := 25) dX11_isKeptFor_24 rfl ?_
    refine g_iald (q := 26) (by assumption) (by first | (simp only [gn_lit, nI_add, pk_mul]; exact rfl) | exact rfl) (by omega) (by decide) dX11_isKeptFor_25 rfl ?_
    refine g_iload_n (q := 27) dX11_isKeptFor_26 rfl rfl ?_
    refine g_icmpeq (t := 34) (q := 30) dX11_isKeptFor_27 (by decide) rfl (fun hq27 => ?_) (fun hq27 => ?_)
    · rw [hB.2.2.2.2.2.1] at hq27
      refine g_iconst (q := 35) (x := 0) dX11_isKeptFor_34 (by decide) rfl ?_
      refine r_z dX11_isKeptFor_35 rfl rfl rfl (by decide) ?_
      refine ⟨?_, rfl⟩
      first | (rw [if_neg (fun z => z.1 hq12)]; done) | (rw [if_neg (fun z => z.2 hq27)]; done) | (rw [if_pos ⟨hq12, hq27⟩]; done)
    · rw [hB.2.2.2.2.2.1] at hq27
      refine g_iconst (q := 31) (x := 1) dX11_isKeptFor_30 (by decide) rfl ?_
      refine g_goto (q := 35) dX11_isKeptFor_31 (by decide) ?_
      refine r_z dX11_isKeptFor_35 rfl rfl rfl (by decide) ?_
      refine ⟨?_, rfl⟩
      first | (rw [if_neg (fun z => z.1 hq12)]; done) | (rw [if_neg (fun z => z.2 hq27)]; done) | (rw [if_pos ⟨hq12, hq27⟩]; done)

set_option maxRecDepth 100000 in
set_option maxHeartbeats 4000000 in
theorem p_X11_put {X : gj_X} {lim : Nat} {σ : gj_H} {v : gj_V} {m sn : Nat} {A : aS} {t : Int32} (hs : msh σ m) (hM : MR (v (m + 2)) A t sn) {b : Nat} {k w : Int32} (hb : b < 6) (hrm : A.1 (10 + b) 3 ≤ 6) : gj_E X 2 m_X11_put [.ref m, .int (nI b), .int k, .int w] lim σ v (q_i lim σ (fun z v' => z = (a_put A b k w).1 ∧ mc v v' m (a_put A b k w).2 t sn)) := by
  obtain ⟨so, s1, s2, s3, s4, s5, s6, s7, s8, s9, s10, s11, s12⟩ := id hs
  refine gj_E_at (L := [some (.ref m), some (.int (nI b)), some (.int k), some (.int w), none]) (k := 1) rfl (by decide) rfl ?_
  refine g_iload_n (q := 1) dX11_put_0 rfl rfl ?_
  refine c_Si (q := 4) (p_X11_atBuffer (b := b)) k_X11_54 (by decide) rfl rfl (Nat.le_of_ble_eq_true rfl) rfl rfl dX11_put_1 rfl ?_
  rintro z0 w1 ⟨hz0, hw1⟩
  subst w1
  subst z0
  refine g_istore (q := 6) dX11_put_4 rfl rfl rfl rfl ?_
  dsimp only [List.set]
  refine g_aload_n (q := 7) dX11_put_6 rfl rfl ?_
  refine g_iload_n (q := 8) dX11_put_7 rfl rfl ?_
  refine c_Vv (q := 11) (p_X11_enters hs hM (g := b) (by omega)) k_X11_72 (by assumption) rfl (by decide) rfl rfl (Nat.le_of_ble_eq_true rfl) rfl rfl dX11_put_8 rfl ?_
  rintro vq1 hc1
  have hM1 := hc1.M
  have hB : mb (vq1 (m + 2)) b (A.1 (10 + b)) (A.2 b) (A.2 (10 + b)) := by
    have q := hM1.2.1 b hb
    rw [in_10] at q
    exact q
  obtain ⟨a0, a1, a2, a3, a4, a5, a6, a7, a8, a9, a10, a11⟩ := id hB
  refine g_aload_n (q := 12) dX11_put_11 rfl rfl ?_
  refine g_getR (q := 15) f_X11_13 (by assumption) rfl dX11_put_12 rfl ?_
  refine g_iload (q := 17) dX11_put_15 rfl rfl ?_
  refine g_iconst (q := 18) (x := 0) dX11_put_17 (by decide) rfl ?_
  refine g_iadd (q := 19) dX11_put_18 rfl ?_
  refine g_iald (q := 20) (by assumption) (by first | (simp only [gn_lit, nI_add, pk_mul]; exact rfl) | exact rfl) (by omega) (by decide) dX11_put_19 rfl ?_
  refine g_aload_n (q := 21) dX11_put_20 rfl rfl ?_
  refine g_getR (q := 24) f_X11_13 (by assumption) rfl dX11_put_21 rfl ?_
  refine g_iload (q := 26) dX11_put_24 rfl rfl ?_
  refine g_iconst (q := 27) (x := 1) dX11_put_26 (by decide) rfl ?_
  refine g_iadd (q := 28) dX11_put_27 rfl ?_
  refine g_iald (q := 29) (by assumption) (by first | (simp only [gn_lit, nI_add, pk_mul]; exact rfl) | exact rfl) (by omega) (by decide) dX11_put_28 rfl ?_
  refine g_icmpge (t := 41) (q := 32) dX11_put_29 (by decide) rfl (fun hq29 => ?_) (fun hq29 => ?_)
  · rw [a0, a1] at hq29
    have hcd : (gB A b).2.1 3 ≤ nI (gB A b).2.2.1.length ∨ b_kept (gB A b) w := Or.inl hq29
    refine g_aload_n (q := 42) dX11_put_41 rfl rfl ?_
    refine g_iload_n (q := 43) dX11_put_42 rfl rfl ?_
    refine c_Vv (q := 46) (p_X11_thrownOut hs hM1 (g := b) (by omega)) k_X11_79 (by assumption) rfl (by decide) rfl rfl (Nat.le_of_ble_eq_true rfl) rfl rfl dX11_put_43 rfl ?_
    rintro vq2 hc2
    have hM2 := hc2.M
    refine g_iconst (q := 47) (x := 0) dX11_put_46 (by decide) rfl ?_
    refine r_z dX11_put_47 rfl rfl rfl (by decide) ?_
    unfold a_put b_put
    rw [if_pos hcd]
    refine ⟨rfl, ?_⟩
    have hc := hc1.tr hc2
    rw [in_thr A b hb] at hc
    exact hc
  · rw [a0, a1] at hq29
    have hlt : (A.2 b).length < 6 := by
      have := Int32.lt_of_lt_of_le (Int32.not_le.mp hq29) hrm
      exact gn_lt (n := 6) (Int32.not_le.mpr this) (by omega)
    refine g_aload_n (q := 33) dX11_put_32 rfl rfl ?_
    refine g_iload_n (q := 34) dX11_put_33 rfl rfl ?_
    refine g_iload_n (q := 35) dX11_put_34 rfl rfl ?_
    refine c_Vi (q := 38) (p_X11_isKeptFor hs hM1 hb) k_X11_75 (by assumption) rfl (by decide) rfl rfl (Nat.le_of_ble_eq_true rfl) rfl rfl dX11_put_35 rfl ?_
    rintro z0 w1 ⟨hz0, hw1⟩
    subst w1
    have ek : b_kept (gB (a_in A b) b) w = b_kept (gB A b) w := by unfold b_kept gB; dsimp only; rw [in_10]
    refine g_ifeq (t := 48) (q := 41) dX11_put_38 (by decide) rfl (fun hq38 => ?_) (fun hq38 => ?_)
    · rw [hz0] at hq38
      have hq38 := gn_b0 hq38
      rw [ek] at hq38
      have hcd : ¬ ((gB A b).2.1 3 ≤ nI (gB A b).2.2.1.length ∨ b_kept (gB A b) w) := fun q => q.elim hq29 hq38
      refine g_aload_n (q := 49) dX11_put_48 rfl rfl ?_
      refine g_getR (q := 52) f_X11_13 (by assumption) rfl dX11_put_49 rfl ?_
      refine g_iload (q := 54) dX11_put_52 rfl rfl ?_
      refine g_bipush (q := 56) (x := 14) dX11_put_54 (by decide) rfl ?_
      refine g_iadd (q := 57) dX11_put_56 rfl ?_
      refine g_aload_n (q := 58) dX11_put_57 rfl rfl ?_
      refine g_getR (q := 61) f_X11_13 (by assumption) rfl dX11_put_58 rfl ?_
      refine g_iload (q := 63) dX11_put_61 rfl rfl ?_
      refine g_iconst (q := 64) (x := 0) dX11_put_63 (by decide) rfl ?_
      refine g_iadd (q := 65) dX11_put_64 rfl ?_
      refine g_iald (q := 66) (by assumption) (by first | (simp only [gn_lit, nI_add, pk_mul]; exact rfl) | exact rfl) (by omega) (by decide) dX11_put_65 rfl ?_
      refine g_iadd (q := 67) dX11_put_66 rfl ?_
      refine g_iload_n (q := 68) dX11_put_67 rfl rfl ?_
      refine g_iast (q := 69) (by assumption) (show nI (10 + 24 * b) + 14 + vq1 (m + 2) (10 + 24 * b + 0) = nI (10 + 24 * b + 14 + (A.2 b).length) by rw [a0]; simp only [gn_lit, nI_add, pk_mul]) (by omega) (by decide) dX11_put_68 rfl ?_
      refine g_gen (fun vq2 hvq2 => ?_)
      rw [gu_2] at hvq2
      have n2 := congrFun hvq2 (m + 2)
      rw [gu_s] at n2
      refine g_aload_n (q := 70) dX11_put_69 rfl rfl ?_
      refine g_getR (q := 73) f_X11_13 (by assumption) rfl dX11_put_70 rfl ?_
      refine g_iload (q := 75) dX11_put_73 rfl rfl ?_
      refine g_iconst (q := 76) (x := 0) dX11_put_75 (by decide) rfl ?_
      refine g_iadd (q := 77) dX11_put_76 rfl ?_
      refine g_dup2 (q := 78) dX11_put_77 rfl rfl rfl ?_
      refine g_iald (q := 79) (by assumption) (by first | (simp only [gn_lit, nI_add, pk_mul]; exact rfl) | exact rfl) (by omega) (by decide) dX11_put_78 rfl ?_
      refine g_iconst (q := 80) (x := 1) dX11_put_79 (by decide) rfl ?_
      refine g_iadd (q := 81) dX11_put_80 rfl ?_
      refine g_iast (q := 82) (by assumption) (by first | (simp only [gn_lit, nI_add, pk_mul]; exact rfl) | exact rfl) (by omega) (by decide) dX11_put_81 rfl ?_
      refine g_gen (fun vq3 hvq3 => ?_)
      rw [gu_2, n2, hvq2, gu_u] at hvq3
      have n3 := congrFun hvq3 (m + 2)
      rw [gu_s] at n3
      refine g_aload_n (q := 83) dX11_put_82 rfl rfl ?_
      refine g_getR (q := 86) f_X11_13 (by assumption) rfl dX11_put_83 rfl ?_
      refine g_iload (q := 88) dX11_put_86 rfl rfl ?_
      refine g_iconst (q := 89) (x := 2) dX11_put_88 (by decide) rfl ?_
      refine g_iadd (q := 90) dX11_put_89 rfl ?_
      refine g_dup2 (q := 91) dX11_put_90 rfl rfl rfl ?_
      refine g_iald (q := 92) (by assumption) (by first | (simp only [gn_lit, nI_add, pk_mul]; exact rfl) | exact rfl) (by omega) (by decide) dX11_put_91 rfl ?_
      refine g_iconst (q := 93) (x := 1) dX11_put_92 (by decide) rfl ?_
      refine g_iadd (q := 94) dX11_put_93 rfl ?_
      refine g_iast (q := 95) (by assumption) (by first | (simp only [gn_lit, nI_add, pk_mul]; exact rfl) | exact rfl) (by omega) (by decide) dX11_put_94 rfl ?_
      refine g_gen (fun vq4 hvq4 => ?_)
      rw [gu_2, n3, hvq3, gu_u] at hvq4
      have n4 := congrFun hvq4 (m + 2)
      rw [gu_s] at n4
      refine g_aload_n (q := 96) dX11_put_95 rfl rfl ?_
      refine g_getR (q := 99) f_X11_13 (by assumption) rfl dX11_put_96 rfl ?_
      refine g_iload (q := 101) dX11_put_99 rfl rfl ?_
      refine g_iconst (q := 102) (x := 4) dX11_put_101 (by decide) rfl ?_
      refine g_iadd (q := 103) dX11_put_102 rfl ?_
      refine g_aload_n (q := 104) dX11_put_103 rfl rfl ?_
      refine g_getR (q := 107) f_X11_13 (by assumption) rfl dX11_put_104 rfl ?_
      refine g_iload (q := 109) dX11_put_107 rfl rfl ?_
      refine g_iconst (q := 110) (x := 0) dX11_put_109 (by decide) rfl ?_
      refine g_iadd (q := 111) dX11_put_110 rfl ?_
      refine g_iald (q := 112) (by assumption) (by first | (simp only [gn_lit, nI_add, pk_mul]; exact rfl) | exact rfl) (by omega) (by decide) dX11_put_111 rfl ?_
      refine g_aload_n (q := 113) dX11_put_112 rfl rfl ?_
      refine g_getR (q := 116) f_X11_13 (by assumption) rfl dX11_put_113 rfl ?_
      refine g_iload (q := 118) dX11_put_116 rfl rfl ?_
      refine g_iconst (q := 119) (x := 4) dX11_put_118 (by decide) rfl ?_
      refine g_iadd (q := 120) dX11_put_119 rfl ?_
      refine g_iald (q := 121) (by assumption) (by first | (simp only [gn_lit, nI_add, pk_mul]; exact rfl) | exact rfl) (by omega) (by decide) dX11_put_120 rfl ?_
      refine g_icmple (t := 136) (q := 124) dX11_put_121 (by decide) rfl (fun hq121 => ?_) (fun hq121 => ?_)
      · rw [n4] at hq121
        repeat (first | rw [ud_s] at hq121 | rw [ud_n _ _ (by omega)] at hq121)
        rw [a0, a4, nI_1] at hq121
        refine g_aload_n (q := 137) dX11_put_136 rfl rfl ?_
        refine g_getR (q := 140) f_X11_13 (by assumption) rfl dX11_put_137 rfl ?_
        refine g_iload (q := 142) dX11_put_140 rfl rfl ?_
        refine g_iconst (q := 143) (x := 4) dX11_put_142 (by decide) rfl ?_
        refine g_iadd (q := 144) dX11_put_143 rfl ?_
        refine g_iald (q := 145) (by assumption) (by first | (simp only [gn_lit, nI_add, pk_mul]; exact rfl) | exact rfl) (by omega) (by decide) dX11_put_144 rfl ?_
        refine g_iast (q := 146) (by assumption) (by first | (simp only [gn_lit, nI_add, pk_mul]; exact rfl) | exact rfl) (by omega) (by decide) dX11_put_145 rfl ?_
        refine g_gen (fun vq5 hvq5 => ?_)
        rw [gu_2, n4, hvq4, gu_u] at hvq5
        have n5 := congrFun hvq5 (m + 2)
        rw [gu_s] at n5
        have q14 : vq5 (m + 2) (10 + 24 * b + 14 + (A.2 b).length) = k := by
          rw [n5]
          repeat (first | rw [ud_s] | rw [ud_n _ _ (by omega)])
        have q0 : vq5 (m + 2) (10 + 24 * b + 0) = nI ((A.2 b).length + 1) := by
          rw [n5]
          repeat (first | rw [ud_s] | rw [ud_n _ _ (by omega)])
          rw [a0, nI_1]
        have q2 : vq5 (m + 2) (10 + 24 * b + 2) = A.1 (10 + b) 4 + 1 := by
          rw [n5]
          repeat (first | rw [ud_s] | rw [ud_n _ _ (by omega)])
          rw [a2]
        have q4 : vq5 (m + 2) (10 + 24 * b + 4) = (if A.1 (10 + b) 6 < nI ((A.2 b).length + 1) then nI ((A.2 b).length + 1) else A.1 (10 + b) 6) := by
          rw [n5, ud_s]
          repeat (first | rw [ud_s] | rw [ud_n _ _ (by omega)])
          first | (rw [a0, nI_1, if_pos (Int32.not_le.mp hq121)]; done) | (rw [a4, if_neg (Int32.not_lt.mpr hq121)]; done)
        have qo : ∀ j, j ≠ 10 + 24 * b + 14 + (A.2 b).length → j ≠ 10 + 24 * b + 0 → j ≠ 10 + 24 * b + 2 → j ≠ 10 + 24 * b + 4 → vq5 (m + 2) j = vq1 (m + 2) j := by
          intro j g1 g2 g3 g4
          rw [n5]
          repeat (first | rw [ud_s] | rw [ud_n _ _ (by omega)])
        have hc5 : mc vq1 vq5 m (sB (a_in A b) b ((a_in A b).1 b, upd (upd (A.1 (10 + b)) 4 (A.1 (10 + b) 4 + 1)) 6 (if A.1 (10 + b) 6 < nI ((A.2 b).length + 1) then nI ((A.2 b).length + 1) else A.1 (10 + b) 6), A.2 b ++ [k], A.2 (10 + b))) t sn := by
          refine ⟨vq5 (m + 2), by rw [n5]; exact hvq5, hM1.buf hb (fun i hi => qo i (by omega) (by omega) (by omega) (by omega)) (mb_put hB hlt q14 q0 q2 q4 qo)⟩
        refine g_aload_n (q := 147) dX11_put_146 rfl rfl ?_
        refine g_iload_n (q := 148) dX11_put_147 rfl rfl ?_
        refine c_Vv (q := 151) (p_X11_leaves hs hc5.M (g := b) (by omega)) k_X11_82 (by assumption) rfl (by decide) rfl rfl (Nat.le_of_ble_eq_true rfl) rfl rfl dX11_put_148 rfl ?_
        rintro vq6 hc6
        refine g_iconst (q := 152) (x := 1) dX11_put_151 (by decide) rfl ?_
        refine r_z dX11_put_152 rfl rfl rfl (by decide) ?_
        unfold a_put b_put
        rw [if_neg hcd]
        refine ⟨rfl, ?_⟩
        have hc := (hc1.tr hc5).tr hc6
        rw [sB_out _ _ _ _ _ _ hb] at hc
        have eg : (a_in A b).1 b = ag_in (A.1 b) := sR_s _ _ _
        rw [eg] at hc
        unfold a_in at hc
        rw [sB_in _ _ _ _ _ _ _ hb] at hc
        exact hc
      · rw [n4] at hq121
        repeat (first | rw [ud_s] at hq121 | rw [ud_n _ _ (by omega)] at hq121)
        rw [a0, a4, nI_1] at hq121
        refine g_aload_n (q := 125) dX11_put_124 rfl rfl ?_
        refine g_getR (q := 128) f_X11_13 (by assumption) rfl dX11_put_125 rfl ?_
        refine g_iload (q := 130) dX11_put_128 rfl rfl ?_
        refine g_iconst (q := 131) (x := 0) dX11_put_130 (by decide) rfl ?_
        refine g_iadd (q := 132) dX11_put_131 rfl ?_
        refine g_iald (q := 133) (by assumption) (by first | (simp only [gn_lit, nI_add, pk_mul]; exact rfl) | exact rfl) (by omega) (by decide) dX11_put_132 rfl ?_
        refine g_goto (q := 145) dX11_put_133 (by decide) ?_
        refine g_iast (q := 146) (by assumption) (by first | (simp only [gn_lit, nI_add, pk_mul]; exact rfl) | exact rfl) (by omega) (by decide) dX11_put_145 rfl ?_
        refine g_gen (fun vq5 hvq5 => ?_)
        rw [gu_2, n4, hvq4, gu_u] at hvq5
        have n5 := congrFun hvq5 (m + 2)
        rw [gu_s] at n5
        have q14 : vq5 (m + 2) (10 + 24 * b + 14 + (A.2 b).length) = k := by
          rw [n5]
          repeat (first | rw [ud_s] | rw [ud_n _ _ (by omega)])
        have q0 : vq5 (m + 2) (10 + 24 * b + 0) = nI ((A.2 b).length + 1) := by
          rw [n5]
          repeat (first | rw [ud_s] | rw [ud_n _ _ (by omega)])
          rw [a0, nI_1]
        have q2 : vq5 (m + 2) (10 + 24 * b + 2) = A.1 (10 + b) 4 + 1 := by
          rw [n5]
          repeat (first | rw [ud_s] | rw [ud_n _ _ (by omega)])
          rw [a2]
        have q4 : vq5 (m + 2) (10 + 24 * b + 4) = (if A.1 (10 + b) 6 < nI ((A.2 b).length + 1) then nI ((A.2 b).length + 1) else A.1 (10 + b) 6) := by
          rw [n5, ud_s]
          repeat (first | rw [ud_s] | rw [ud_n _ _ (by omega)])
          first | (rw [a0, nI_1, if_pos (Int32.not_le.mp hq121)]; done) | (rw [a4, if_neg (Int32.not_lt.mpr hq121)]; done)
        have qo : ∀ j, j ≠ 10 + 24 * b + 14 + (A.2 b).length → j ≠ 10 + 24 * b + 0 → j ≠ 10 + 24 * b + 2 → j ≠ 10 + 24 * b + 4 → vq5 (m + 2) j = vq1 (m + 2) j := by
          intro j g1 g2 g3 g4
          rw [n5]
          repeat (first | rw [ud_s] | rw [ud_n _ _ (by omega)])
        have hc5 : mc vq1 vq5 m (sB (a_in A b) b ((a_in A b).1 b, upd (upd (A.1 (10 + b)) 4 (A.1 (10 + b) 4 + 1)) 6 (if A.1 (10 + b) 6 < nI ((A.2 b).length + 1) then nI ((A.2 b).length + 1) else A.1 (10 + b) 6), A.2 b ++ [k], A.2 (10 + b))) t sn := by
          refine ⟨vq5 (m + 2), by rw [n5]; exact hvq5, hM1.buf hb (fun i hi => qo i (by omega) (by omega) (by omega) (by omega)) (mb_put hB hlt q14 q0 q2 q4 qo)⟩
        refine g_aload_n (q := 147) dX11_put_146 rfl rfl ?_
        refine g_iload_n (q := 148) dX11_put_147 rfl rfl ?_
        refine c_Vv (q := 151) (p_X11_leaves hs hc5.M (g := b) (by omega)) k_X11_82 (by assumption) rfl (by decide) rfl rfl (Nat.le_of_ble_eq_true rfl) rfl rfl dX11_put_148 rfl ?_
        rintro vq6 hc6
        refine g_iconst (q := 152) (x := 1) dX11_put_151 (by decide) rfl ?_
        refine r_z dX11_put_152 rfl rfl rfl (by decide) ?_
        unfold a_put b_put
        rw [if_neg hcd]
        refine ⟨rfl, ?_⟩
        have hc := (hc1.tr hc5).tr hc6
        rw [sB_out _ _ _ _ _ _ hb] at hc
        have eg : (a_in A b).1 b = ag_in (A.1 b) := sR_s _ _ _
        rw [eg] at hc
        unfold a_in at hc
        rw [sB_in _ _ _ _ _ _ _ hb] at hc
        exact hc
    · rw [hz0] at hq38
      have hq38 := gn_b1 hq38
      rw [ek] at hq38
      have hcd : (gB A b).2.1 3 ≤ nI (gB A b).2.2.1.length ∨ b_kept (gB A b) w := Or.inr hq38
      refine g_aload_n (q := 42) dX11_put_41 rfl rfl ?_
      refine g_iload_n (q := 43) dX11_put_42 rfl rfl ?_
      refine c_Vv (q := 46) (p_X11_thrownOut hs hM1 (g := b) (by omega)) k_X11_79 (by assumption) rfl (by decide) rfl rfl (Nat.le_of_ble_eq_true rfl) rfl rfl dX11_put_43 rfl ?_
      rintro vq2 hc2
      have hM2 := hc2.M
      refine g_iconst (q := 47) (x := 0) dX11_put_46 (by decide) rfl ?_
      refine r_z dX11_put_47 rfl rfl rfl (by decide) ?_
      unfold a_put b_put
      rw [if_pos hcd]
      refine ⟨rfl, ?_⟩
      have hc := hc1.tr hc2
      rw [in_thr A b hb] at hc
      exact hc
