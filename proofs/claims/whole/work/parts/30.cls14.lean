def sp_begins (A : aS) (t : Int32) (l : List (aS × Int32)) (tx : List Int32) (c : Nat → Int32) (k z : Int32) (G : gP) : Prop :=
  if in_ k 1 6 then z = A.1 40 5 ∧ ∃ A', nwr k A' ∧ G A' 0 (h_push l (A, t)) tx c else z = -2 ∧ G A t l tx (upd c 5 (c 5 + 1))
def sp_back (A : aS) (t : Int32) (l : List (aS × Int32)) (tx : List Int32) (c : Nat → Int32) (z : Int32) (G : gP) : Prop :=
  (l = [] → z = -3 ∧ G A t l tx (upd c 6 (c 6 + 1))) ∧ ∀ l0 q, l = l0 ++ [q] → z = nI l0.length ∧ ∃ A', agr q.1 A' ∧ G A' q.2 l0 tx c

set_option maxRecDepth 100000 in
set_option maxHeartbeats 4000000 in
theorem p_X10_begins {X : gj_X} {lim : Nat} {σ : gj_H} {v : gj_V} {x : Nat} {A : aS} {t : Int32} {l : List (aS × Int32)} {tx : List Int32} {c : Nat → Int32} {n sn : Nat} (hs : gsh σ x) (hG : GR v x A t l tx c) (hI : IV A n sn) {k : Int32} : gj_E X 6 m_X10_begins [.ref x, .int k] lim σ v (q_i lim σ (fun z v' => sp_begins A t l tx c k z (GR v' x) ∧ fr v v' x (x + 477))) := by
  obtain ⟨sx, hf, hh, ht, hrn, hia⟩ := id hs
  have hc := hG.2.2.2
  have hn6 := hI.2.1.2.2.2.1
  have hn1 := hI.2.1.2.2.1
  have sf := hf.1
  have sb := hf.2.1
  have ss := hf.2.2.1
  have sw := hf.2.2.2.1
  have hb6 := hf.2.2.2.2.2.2.1
  have hs6 := hf.2.2.2.2.2.2.2.1
  have hw6 := hf.2.2.2.2.2.2.2.2
  have sl := hf.2.2.2.2.1
  have sl1 := sl.1
  have hh1 := hh.1
  have ht1 := ht.1
  have hia1 := hia.1
  refine gj_E_at (L := [some (.ref x), some (.int k), none]) (k := 1) rfl (by decide) rfl ?_
  refine g_iload_n (q := 1) dX10_begins_0 rfl rfl ?_
  refine g_iconst (q := 2) (x := 1) dX10_begins_1 (by decide) rfl ?_
  refine g_bipush (q := 4) (x := 6) dX10_begins_2 (by decide) rfl ?_
  refine c_Si (q := 7) p_X10_within k_X10_46 (by decide) rfl rfl (Nat.le_of_ble_eq_true rfl) rfl rfl dX10_begins_4 rfl ?_
  rintro z w1 ⟨rfl, hw1⟩
  subst w1
  refine g_ifne (t := 15) (q := 10) dX10_begins_7 (by decide) rfl (fun hq7 => ?_) (fun hq7 => ?_)
  · have hq7 := gn_b1 hq7
    refine g_aload_n (q := 16) dX10_begins_15 rfl rfl ?_
    refine g_getR (q := 19) f_X10_19 (by assumption) rfl dX10_begins_16 rfl ?_
    refine g_aload_n (q := 20) dX10_begins_19 rfl rfl ?_
    refine g_getR (q := 23) f_X10_10 (by assumption) rfl dX10_begins_20 rfl ?_
    refine c_Vv (q := 26) (p_X3_keep hh hf (Or.inl (by omega)) hG.2.1.choose_spec hG.1) k_X10_54 (by assumption) rfl (by decide) rfl rfl (Nat.le_of_ble_eq_true rfl) rfl rfl dX10_begins_23 rfl ?_
    rintro vq1 ⟨⟨nx1, hH1⟩, Fq1⟩
    have hG1 : GR vq1 x A t (h_push l (A, t)) tx c := hG.his hH1 Fq1
    have E1 : fr v vq1 x (x + 477) := Fq1.wide (by omega) (by omega)
    refine g_aload_n (q := 27) dX10_begins_26 rfl rfl ?_
    refine g_getR (q := 30) f_X10_10 (by assumption) rfl dX10_begins_27 rfl ?_
    refine g_getI (q := 33) f_X10_58 (by assumption) rfl dX10_begins_30 rfl ?_
    refine g_istore_n (q := 34) dX10_begins_33 rfl rfl rfl rfl ?_
    dsimp only [List.set]
    refine g_aload_n (q := 35) dX10_begins_34 rfl rfl ?_
    refine g_getR (q := 38) f_X10_10 (by assumption) rfl dX10_begins_35 rfl ?_
    refine g_iload_n (q := 39) dX10_begins_38 rfl rfl ?_
    refine c_Vv (q := 42) (p_X1_startAnew hf hG1.1) k_X10_62 sf rfl (by decide) rfl rfl (Nat.le_of_ble_eq_true rfl) rfl rfl dX10_begins_39 rfl ?_
    rintro vq2 ⟨⟨A2, hn2, hCq2⟩, Fq2⟩
    have hG2 := hG1.flo hCq2 Fq2
    have E2 : fr v vq2 x (x + 477) := E1.tr (Fq2.wide (by omega) (by omega))
    refine g_iload_n (q := 43) dX10_begins_42 rfl rfl ?_
    refine r_i dX10_begins_43 rfl rfl rfl ?_
    rw [sp_begins, if_pos hq7]
    exact ⟨⟨hG1.1.fl 5 (by decide), A2, hn2, hG2⟩, E2⟩
  · have hq7 := gn_b0 hq7
    refine g_aload_n (q := 11) dX10_begins_10 rfl rfl ?_
    refine c_Vi (q := 14) (p_X10_refuseBad hs hG) k_X10_50 (by assumption) rfl (by decide) rfl rfl (Nat.le_of_ble_eq_true rfl) rfl rfl dX10_begins_11 rfl ?_
    rintro z w1 ⟨hz1, hG1, E1⟩
    refine r_i dX10_begins_14 rfl rfl rfl ?_
    rw [sp_begins, if_neg (by intro h; first | exact hq7 h)]
    exact ⟨⟨hz1, hG1⟩, E1⟩

set_option maxRecDepth 100000 in
set_option maxHeartbeats 4000000 in
theorem p_X10_back {X : gj_X} {lim : Nat} {σ : gj_H} {v : gj_V} {x : Nat} {A : aS} {t : Int32} {l : List (aS × Int32)} {tx : List Int32} {c : Nat → Int32} {n sn : Nat} (hs : gsh σ x) (hG : GR v x A t l tx c) (hI : IV A n sn) : gj_E X 6 m_X10_back [.ref x] lim σ v (q_i lim σ (fun z v' => sp_back A t l tx c z (GR v' x) ∧ fr v v' x (x + 477))) := by
  obtain ⟨sx, hf, hh, ht, hrn, hia⟩ := id hs
  have hc := hG.2.2.2
  have hn6 := hI.2.1.2.2.2.1
  have hn1 := hI.2.1.2.2.1
  have sf := hf.1
  have sb := hf.2.1
  have ss := hf.2.2.1
  have sw := hf.2.2.2.1
  have hb6 := hf.2.2.2.2.2.2.1
  have hs6 := hf.2.2.2.2.2.2.2.1
  have hw6 := hf.2.2.2.2.2.2.2.2
  have sl := hf.2.2.2.2.1
  have sl1 := sl.1
  have hh1 := hh.1
  have ht1 := ht.1
  have hia1 := hia.1
  rcases List.eq_nil_or_concat l with hl | ⟨l0, q, hl⟩
  · obtain ⟨nx, hH⟩ := id hG.2.1
    have eq0 : v (x + 56) 2 = 0 := by rw [hH.2.2.1, hl]; rfl
    refine gj_E_at (L := [some (.ref x)]) (k := 0) rfl (by decide) rfl ?_
    refine g_aload_n (q := 1) dX10_back_0 rfl rfl ?_
    refine g_getR (q := 4) f_X10_19 (by assumption) rfl dX10_back_1 rfl ?_
    refine g_getI (q := 7) f_X10_224 (by assumption) rfl dX10_back_4 rfl ?_
    refine g_ifne (t := 15) (q := 10) dX10_back_7 (by decide) rfl (fun hq7 => ?_) (fun hq7 => ?_)
    · exact absurd eq0 hq7
    · refine g_aload_n (q := 11) dX10_back_10 rfl rfl ?_
      refine c_Vi (q := 14) (p_X10_refuseNo hs hG) k_X10_148 (by assumption) rfl (by decide) rfl rfl (Nat.le_of_ble_eq_true rfl) rfl rfl dX10_back_11 rfl ?_
      rintro z w1 ⟨hz1, hG1, E1⟩
      refine r_i dX10_back_14 rfl rfl rfl ?_
      refine ⟨⟨fun _ => ⟨hz1, hG1⟩, fun l0 q e => ?_⟩, E1⟩
      rw [hl] at e
      exact absurd e.symm (by simp)
  · rw [List.concat_eq_append] at hl
    subst hl
    obtain ⟨nx, hH⟩ := id hG.2.1
    have hll := hH.2.2.2.1
    have eq0 : ¬ v (x + 56) 2 = 0 := by
      rw [hH.2.2.1]
      intro h
      have := nI_inj6 (b := 0) (by omega) (by omega) h
      simp at this
    refine gj_E_at (L := [some (.ref x)]) (k := 0) rfl (by decide) rfl ?_
    refine g_aload_n (q := 1) dX10_back_0 rfl rfl ?_
    refine g_getR (q := 4) f_X10_19 (by assumption) rfl dX10_back_1 rfl ?_
    refine g_getI (q := 7) f_X10_224 (by assumption) rfl dX10_back_4 rfl ?_
    refine g_ifne (t := 15) (q := 10) dX10_back_7 (by decide) rfl (fun hq7 => ?_) (fun hq7 => ?_)
    · refine g_aload_n (q := 16) dX10_back_15 rfl rfl ?_
      refine g_getR (q := 19) f_X10_19 (by assumption) rfl dX10_back_16 rfl ?_
      refine g_aload_n (q := 20) dX10_back_19 rfl rfl ?_
      refine g_getR (q := 23) f_X10_10 (by assumption) rfl dX10_back_20 rfl ?_
      refine c_Vv (q := 26) (p_X3_giveBack hh hf (Or.inl (by omega)) hH hG.1) k_X10_225 (by assumption) rfl (by decide) rfl rfl (Nat.le_of_ble_eq_true rfl) rfl rfl dX10_back_23 rfl ?_
      rintro vq1 ⟨⟨A1, ha1, hCq1⟩, ⟨nx1, hH1⟩, Fq1⟩
      have hG1 : GR vq1 x A1 q.2 l0 tx c := ⟨hCq1, ⟨nx1, hH1⟩, hG.2.2.1.keep (Fq1 _ (by omega) (by omega)) (Fq1 _ (by omega) (by omega)), by rw [Fq1 _ (by omega) (by omega)]; exact hc⟩
      have E1 : fr v vq1 x (x + 477) := fun a ha => Fq1 a (by omega) (by omega)
      refine g_aload_n (q := 27) dX10_back_26 rfl rfl ?_
      refine g_getR (q := 30) f_X10_19 (by assumption) rfl dX10_back_27 rfl ?_
      refine g_getI (q := 33) f_X10_224 (by assumption) rfl dX10_back_30 rfl ?_
      refine r_i dX10_back_33 rfl rfl rfl ?_
      refine ⟨⟨fun h => absurd h (by simp), fun l1 q1 e => ?_⟩, E1⟩
      have eq2 := List.append_inj_left' e rfl
      have eq3 : q = q1 := by
        have := List.append_inj_right' e rfl
        simpa using this
      subst eq2 eq3
      exact ⟨hH1.2.2.1, A1, ha1, hG1⟩
    · exact absurd hq7 eq0


set_option maxRecDepth 100000 in
set_option maxHeartbeats 4000000 in
theorem ticks_loop {X : gj_X} {lim : Nat} {σ : gj_H} {v : gj_V} {x : Nat} {t : Int32} {l : List (aS × Int32)} {tx : List Int32} {c : Nat → Int32} {n sn : Nat} (hs : gsh σ x) (hf : fsh σ (x + 1)) (hn6 : n ≤ 6) {k0 : Nat} (hk0 : k0 < 100) {P : Int32 → gj_V → Prop} : ∀ (k i : Nat) (C : aS) (w : gj_V) (a : Int32), GR w x C (t + nI i) l tx c → IV C n sn → fr v w x (x + 477) → i + k = k0 → (∀ z vv, (z = a + (a_tcks sn k C).1 ∧ GR vv x (a_tcks sn k C).2 (t + nI k0) l tx c) ∧ fr v vv x (x + 477) → P z vv) → gj_G X 6 m_X10_ticks (q_i lim σ P) lim σ w 0 0 30 [some (.ref x), some (.int (nI k0)), some (.int a), some (.int (nI i))] [] := by
  obtain ⟨sx, -⟩ := id hs
  have sf := hf.1
  intro k
  induction k with
  | zero =>
    intro i C w a hGw hIc Ew hk hP
    have ei : i = k0 := by omega
    subst ei
    refine g_iload_n (q := 31) dX10_ticks_30 rfl rfl ?_
    refine g_iload_n (q := 32) dX10_ticks_31 rfl rfl ?_
    refine g_icmpge (t := 58) (q := 35) dX10_ticks_32 (by decide) rfl (fun hq32 => ?_) (fun hq32 => ?_)
    · refine g_iload_n (q := 59) dX10_ticks_58 rfl rfl ?_
      refine r_i dX10_ticks_59 rfl rfl rfl ?_
      exact hP _ _ ⟨⟨by simp [a_tcks], hGw⟩, Ew⟩
    · exact absurd (Int32.le_refl _) hq32
  | succ k ih =>
    intro i C w a hGw hIc Ew hk hP
    refine g_iload_n (q := 31) dX10_ticks_30 rfl rfl ?_
    refine g_iload_n (q := 32) dX10_ticks_31 rfl rfl ?_
    refine g_icmpge (t := 58) (q := 35) dX10_ticks_32 (by decide) rfl (fun hq32 => ?_) (fun hq32 => ?_)
    · exact absurd (gn_le hq32 (by omega)) (by omega)
    · refine g_iload_n (q := 36) dX10_ticks_35 rfl rfl ?_
      refine g_aload_n (q := 37) dX10_ticks_36 rfl rfl ?_
      refine g_getR (q := 40) f_X10_10 (by assumption) rfl dX10_ticks_37 rfl ?_
      refine c_Vi (q := 43) (p_X1_tick hf hGw.1 hIc.1 hIc.2.1) k_X10_107 sf rfl (by decide) rfl rfl (Nat.le_of_ble_eq_true rfl) rfl rfl dX10_ticks_40 rfl ?_
      rintro y vq1 ⟨hy1, hCq1, Fq1⟩
      have hG1 := hGw.flo hCq1 Fq1
      have E1 : fr v vq1 x (x + 477) := Ew.tr (Fq1.wide (by omega) (by omega))
      have iv1 := IV_tks hIc
      refine g_iadd (q := 44) dX10_ticks_43 rfl ?_
      refine g_istore_n (q := 45) dX10_ticks_44 rfl rfl rfl rfl ?_
      dsimp only [List.set]
      refine g_aload_n (q := 46) dX10_ticks_45 rfl rfl ?_
      refine g_getR (q := 49) f_X10_10 (by assumption) rfl dX10_ticks_46 rfl ?_
      refine c_Vv (q := 52) (p_X1_serve hf hG1.1 iv1.1 hn6 iv1.2.2.1 iv1.2.1.1) k_X10_79 sf rfl (by decide) rfl rfl (Nat.le_of_ble_eq_true rfl) rfl rfl dX10_ticks_49 rfl ?_
      rintro vq2 ⟨hCq2, Fq2⟩
      have et : t + nI i + 1 = t + nI (i + 1) := by rw [Int32.add_assoc, nI_1]
      rw [et] at hCq2
      have hG2 := hG1.flo hCq2 Fq2
      have E2 : fr v vq2 x (x + 477) := E1.tr (Fq2.wide (by omega) (by omega))
      have iv2 := IV_srv iv1
      refine g_iinc (q := 55) (y := nI (i + 1)) dX10_ticks_52 rfl (gn_inc i) rfl rfl rfl rfl ?_
      dsimp only [List.set]
      refine g_goto (q := 30) dX10_ticks_55 (by decide) ?_
      exact ih (i + 1) (a_srv 7 (a_tks sn 0 C).2) vq2 (a + y) hG2 iv2 E2 (by omega) (fun z v' hz => hP z v' (by rw [a_tcks]; rw [hy1, Int32.add_assoc] at hz; exact hz))


set_option maxRecDepth 100000 in
set_option maxHeartbeats 4000000 in
theorem p_X10_ticks {X : gj_X} {lim : Nat} {σ : gj_H} {v : gj_V} {x : Nat} {A : aS} {t : Int32} {l : List (aS × Int32)} {tx : List Int32} {c : Nat → Int32} {n sn : Nat} (hs : gsh σ x) (hG : GR v x A t l tx c) (hI : IV A n sn) {k : Int32} : gj_E X 6 m_X10_ticks [.ref x, .int k] lim σ v (q_i lim σ (fun z v' => sp_ticks A t l tx c k z (GR v' x) ∧ fr v v' x (x + 477))) := by
  obtain ⟨sx, hf, hh, ht, hrn, hia⟩ := id hs
  have hc := hG.2.2.2
  have hn6 := hI.2.1.2.2.2.1
  have hn1 := hI.2.1.2.2.1
  have sf := hf.1
  have sb := hf.2.1
  have ss := hf.2.2.1
  have sw := hf.2.2.2.1
  have hb6 := hf.2.2.2.2.2.2.1
  have hs6 := hf.2.2.2.2.2.2.2.1
  have hw6 := hf.2.2.2.2.2.2.2.2
  have sl := hf.2.2.2.2.1
  have sl1 := sl.1
  have hh1 := hh.1
  have ht1 := ht.1
  have hia1 := hia.1
  refine gj_E_at (L := [some (.ref x), some (.int k), none, none]) (k := 2) rfl (by decide) rfl ?_
  refine g_iload_n (q := 1) dX10_ticks_0 rfl rfl ?_
  refine g_iconst (q := 2) (x := 1) dX10_ticks_1 (by decide) rfl ?_
  refine g_bipush (q := 4) (x := 30) dX10_ticks_2 (by decide) rfl ?_
  refine c_Si (q := 7) p_X10_within k_X10_46 (by decide) rfl rfl (Nat.le_of_ble_eq_true rfl) rfl rfl dX10_ticks_4 rfl ?_
  rintro z w1 ⟨rfl, hw1⟩
  subst w1
  refine g_ifne (t := 15) (q := 10) dX10_ticks_7 (by decide) rfl (fun hq7 => ?_) (fun hq7 => ?_)
  · have hq7 := gn_b1 hq7
    have hcd := hq7
    obtain ⟨k0, hk0, rfl⟩ := nI_of2 (n := 30) (M := 30) (by decide) (fun h => absurd (Int32.le_trans hq7.1 (Int32.le_of_lt h)) (by decide)) hq7.2
    have ek : iN (nI k0) = k0 := iN_n (by omega)
    refine g_aload_n (q := 16) dX10_ticks_15 rfl rfl ?_
    refine g_getR (q := 19) f_X10_19 (by assumption) rfl dX10_ticks_16 rfl ?_
    refine g_aload_n (q := 20) dX10_ticks_19 rfl rfl ?_
    refine g_getR (q := 23) f_X10_10 (by assumption) rfl dX10_ticks_20 rfl ?_
    refine c_Vv (q := 26) (p_X3_keep hh hf (Or.inl (by omega)) hG.2.1.choose_spec hG.1) k_X10_54 (by assumption) rfl (by decide) rfl rfl (Nat.le_of_ble_eq_true rfl) rfl rfl dX10_ticks_23 rfl ?_
    rintro vq1 ⟨⟨nx1, hH1⟩, Fq1⟩
    have hG1 : GR vq1 x A t (h_push l (A, t)) tx c := hG.his hH1 Fq1
    have E1 : fr v vq1 x (x + 477) := Fq1.wide (by omega) (by omega)
    refine g_iconst (q := 27) (x := 0) dX10_ticks_26 (by decide) rfl ?_
    refine g_istore_n (q := 28) dX10_ticks_27 rfl rfl rfl rfl ?_
    dsimp only [List.set]
    refine g_iconst (q := 29) (x := 0) dX10_ticks_28 (by decide) rfl ?_
    refine g_istore_n (q := 30) dX10_ticks_29 rfl rfl rfl rfl ?_
    dsimp only [List.set]
    refine ticks_loop (X := X) (lim := lim) (v := v) hs hf hn6 (sn := sn) (k0 := k0) (by omega) k0 0 A vq1 0 (by rw [show t + nI 0 = t from Int32.add_zero t]; exact hG1) hI E1 (by omega) (fun z v' hz => ?_)
    rw [sp_ticks, if_pos hcd, ek, sn_eq hI]
    rw [Int32.zero_add] at hz
    exact hz
  · have hq7 := gn_b0 hq7
    refine g_aload_n (q := 11) dX10_ticks_10 rfl rfl ?_
    refine c_Vi (q := 14) (p_X10_refuseBad hs hG) k_X10_50 (by assumption) rfl (by decide) rfl rfl (Nat.le_of_ble_eq_true rfl) rfl rfl dX10_ticks_11 rfl ?_
    rintro z w1 ⟨hz1, hG1, E1⟩
    refine r_i dX10_ticks_14 rfl rfl rfl ?_
    rw [sp_ticks, if_neg (by intro h; first | exact hq7 h)]
    exact ⟨⟨hz1, hG1⟩, E1⟩

theorem l_at_n {l : List Int32} {i : Nat} (h : i < l.length) (hl : l.length < 100) : l_at l (nI i) = l.getD i 0 := by
  unfold l_at
  rw [if_neg (nI_pos (by omega)), if_neg (nI_ge h (by omega))]
  rw [show (nI i).toNatClampNeg = i from iN_n (by omega)]

set_option maxRecDepth 100000 in
set_option maxHeartbeats 4000000 in
theorem p_X10_mixedRow {X : gj_X} {lim : Nat} {σ : gj_H} {v : gj_V} {h : Int64} {r : Nat} {l : List Int32} (hs : rsh σ r) (hr : rr v r l) : gj_E X 1 m_X10_mixedRow [.long h, .ref r] lim σ v (q_l lim σ (fun z v' => z = dgr l h ∧ v' = v)) := by
  have sr := hs.1
  have hl6 := hr.2.1
  have lp : ∀ (k i : Nat) (m : Int64), i + k = l.length → gj_G X 1 m_X10_mixedRow (q_l lim σ (fun z v' => z = dgl (fun i => l.getD i 0) k i m ∧ v' = v)) lim σ v 0 0 5 [some (.long h), none, some (.ref r), some (.long m), none, some (.int (nI i))] [] := by
    intro k
    induction k with
    | zero =>
      intro i m hk
      have ei : i = l.length := by omega
      subst i
      refine g_iload (q := 7) dX10_mixedRow_5 rfl rfl ?_
      refine g_aload_n (q := 8) dX10_mixedRow_7 rfl rfl ?_
      refine g_getI (q := 11) f_X10_118 (by assumption) rfl dX10_mixedRow_8 rfl ?_
      refine g_icmpge (t := 31) (q := 14) dX10_mixedRow_11 (by decide) rfl (fun hq11 => ?_) (fun hq11 => ?_)
      · refine g_lload_n (q := 32) dX10_mixedRow_31 rfl rfl ?_
        refine r_l dX10_mixedRow_32 rfl rfl rfl ?_
        exact ⟨rfl, rfl⟩
      · exact absurd (by rw [hr.1]; exact Int32.le_refl _) hq11
    | succ k ih =>
      intro i m hk
      refine g_iload (q := 7) dX10_mixedRow_5 rfl rfl ?_
      refine g_aload_n (q := 8) dX10_mixedRow_7 rfl rfl ?_
      refine g_getI (q := 11) f_X10_118 (by assumption) rfl dX10_mixedRow_8 rfl ?_
      refine g_icmpge (t := 31) (q := 14) dX10_mixedRow_11 (by decide) rfl (fun hq11 => ?_) (fun hq11 => ?_)
      · rw [hr.1] at hq11
        exact absurd (gn_le hq11 (by omega)) (by omega)
      · refine g_lload_n (q := 15) dX10_mixedRow_14 rfl rfl ?_
        refine g_aload_n (q := 16) dX10_mixedRow_15 rfl rfl ?_
        refine g_iload (q := 18) dX10_mixedRow_16 rfl rfl ?_
        refine c_Vi (q := 21) (p_X5_at hs hr) k_X10_191 sr rfl (by decide) rfl rfl (Nat.le_of_ble_eq_true rfl) rfl rfl dX10_mixedRow_18 rfl ?_
        rintro y w1 ⟨hy1, hw1⟩
        subst w1
        rw [l_at_n (by omega) (by omega)] at hy1
        subst y
        refine c_Sl (q := 24) p_X10_mixed k_X10_231 (by decide) rfl rfl (Nat.le_of_ble_eq_true rfl) rfl rfl dX10_mixedRow_21 rfl ?_
        rintro z w1 ⟨rfl, hw1⟩
        subst w1
        refine g_lstore_n (q := 25) dX10_mixedRow_24 rfl rfl rfl rfl ?_
        dsimp only [List.set]
        refine g_iinc (q := 28) (y := nI (i + 1)) dX10_mixedRow_25 rfl (gn_inc i) rfl rfl rfl rfl ?_
        dsimp only [List.set]
        refine g_goto (q := 5) dX10_mixedRow_28 (by decide) ?_
        exact ih (i + 1) _ (by omega)
  refine gj_E_at (L := [some (.long h), none, some (.ref r), none, none, none]) (k := 3) rfl (by decide) rfl ?_
  refine g_lload_n (q := 1) dX10_mixedRow_0 rfl rfl ?_
  refine g_lstore_n (q := 2) dX10_mixedRow_1 rfl rfl rfl rfl ?_
  dsimp only [List.set]
  refine g_iconst (q := 3) (x := 0) dX10_mixedRow_2 (by decide) rfl ?_
  refine g_istore (q := 5) dX10_mixedRow_3 rfl rfl rfl rfl ?_
  dsimp only [List.set]
  exact lp l.length 0 h (by omega)

set_option maxRecDepth 100000 in
set_option maxHeartbeats 4000000 in
theorem p_X10_mixedStation {X : gj_X} {lim : Nat} {σ : gj_H} {v : gj_V} {h : Int64} {r : Nat} (hs : σ r = some sh_stat) : gj_E X 2 m_X10_mixedStation [.long h, .ref r] lim σ v (q_l lim σ (fun z v' => z = dgl (as_told (v r)) 7 0 h ∧ v' = v)) := by
  have lp : ∀ (k i : Nat) (m : Int64), i + k = 7 → gj_G X 2 m_X10_mixedStation (q_l lim σ (fun z v' => z = dgl (as_told (v r)) k i m ∧ v' = v)) lim σ v 0 0 5 [some (.long h), none, some (.ref r), some (.long m), none, some (.int (nI i))] [] := by
    intro k
    induction k with
    | zero =>
      intro i m hk
      have ei : i = 7 := by omega
      subst i
      refine g_iload (q := 7) dX10_mixedStation_5 rfl rfl ?_
      refine g_bipush (q := 9) (x := 7) dX10_mixedStation_7 (by decide) rfl ?_
      refine g_icmpge (t := 29) (q := 12) dX10_mixedStation_9 (by decide) rfl (fun hq9 => ?_) (fun hq9 => ?_)
      · refine g_lload_n (q := 30) dX10_mixedStation_29 rfl rfl ?_
        refine r_l dX10_mixedStation_30 rfl rfl rfl ?_
        exact ⟨rfl, rfl⟩
      · exact absurd (Int32.le_refl _) hq9
    | succ k ih =>
      intro i m hk
      refine g_iload (q := 7) dX10_mixedStation_5 rfl rfl ?_
      refine g_bipush (q := 9) (x := 7) dX10_mixedStation_7 (by decide) rfl ?_
      refine g_icmpge (t := 29) (q := 12) dX10_mixedStation_9 (by decide) rfl (fun hq9 => ?_) (fun hq9 => ?_)
      · exact absurd (gn_le (n := 7) hq9 (by omega)) (by omega)
      · refine g_lload_n (q := 13) dX10_mixedStation_12 rfl rfl ?_
        refine g_aload_n (q := 14) dX10_mixedStation_13 rfl rfl ?_
        refine g_iload (q := 16) dX10_mixedStation_14 rfl rfl ?_
        refine c_Vi (q := 19) (p_X7_stationTold hs (k := i) (by omega)) k_X10_200 hs rfl (by decide) rfl rfl (Nat.le_of_ble_eq_true rfl) rfl rfl dX10_mixedStation_16 rfl ?_
        rintro y w1 ⟨rfl, hw1⟩
        subst w1
        refine c_Sl (q := 22) p_X10_mixed k_X10_231 (by decide) rfl rfl (Nat.le_of_ble_eq_true rfl) rfl rfl dX10_mixedStation_19 rfl ?_
        rintro z w1 ⟨rfl, hw1⟩
        subst w1
        refine g_lstore_n (q := 23) dX10_mixedStation_22 rfl rfl rfl rfl ?_
        dsimp only [List.set]
        refine g_iinc (q := 26) (y := nI (i + 1)) dX10_mixedStation_23 rfl (gn_inc i) rfl rfl rfl rfl ?_
        dsimp only [List.set]
        refine g_goto (q := 5) dX10_mixedStation_26 (by decide) ?_
        exact ih (i + 1) _ (by omega)
  refine gj_E_at (L := [some (.long h), none, some (.ref r), none, none, none]) (k := 3) rfl (by decide) rfl ?_
  refine g_lload_n (q := 1) dX10_mixedStation_0 rfl rfl ?_
  refine g_lstore_n (q := 2) dX10_mixedStation_1 rfl rfl rfl rfl ?_
  dsimp only [List.set]
  refine g_iconst (q := 3) (x := 0) dX10_mixedStation_2 (by decide) rfl ?_
  refine g_istore (q := 5) dX10_mixedStation_3 rfl rfl rfl rfl ?_
  dsimp only [List.set]
  exact lp 7 0 h (by omega)

set_option maxRecDepth 100000 in
set_option maxHeartbeats 4000000 in
theorem p_X10_mixedWorker {X : gj_X} {lim : Nat} {σ : gj_H} {v : gj_V} {h : Int64} {r : Nat} (hs : σ r = some sh_work) : gj_E X 2 m_X10_mixedWorker [.long h, .ref r] lim σ v (q_l lim σ (fun z v' => z = dgl (aw_told (v r)) 5 0 h ∧ v' = v)) := by
  have lp : ∀ (k i : Nat) (m : Int64), i + k = 5 → gj_G X 2 m_X10_mixedWorker (q_l lim σ (fun z v' => z = dgl (aw_told (v r)) k i m ∧ v' = v)) lim σ v 0 0 5 [some (.long h), none, some (.ref r), some (.long m), none, some (.int (nI i))] [] := by
    intro k
    induction k with
    | zero =>
      intro i m hk
      have ei : i = 5 := by omega
      subst i
      refine g_iload (q := 7) dX10_mixedWorker_5 rfl rfl ?_
      refine g_iconst (q := 8) (x := 5) dX10_mixedWorker_7 (by decide) rfl ?_
      refine g_icmpge (t := 28) (q := 11) dX10_mixedWorker_8 (by decide) rfl (fun hq8 => ?_) (fun hq8 => ?_)
      · refine g_lload_n (q := 29) dX10_mixedWorker_28 rfl rfl ?_
        refine r_l dX10_mixedWorker_29 rfl rfl rfl ?_
        exact ⟨rfl, rfl⟩
      · exact absurd (Int32.le_refl _) hq8
    | succ k ih =>
      intro i m hk
      refine g_iload (q := 7) dX10_mixedWorker_5 rfl rfl ?_
      refine g_iconst (q := 8) (x := 5) dX10_mixedWorker_7 (by decide) rfl ?_
      refine g_icmpge (t := 28) (q := 11) dX10_mixedWorker_8 (by decide) rfl (fun hq8 => ?_) (fun hq8 => ?_)
      · exact absurd (gn_le (n := 5) hq8 (by omega)) (by omega)
      · refine g_lload_n (q := 12) dX10_mixedWorker_11 rfl rfl ?_
        refine g_aload_n (q := 13) dX10_mixedWorker_12 rfl rfl ?_
        refine g_iload (q := 15) dX10_mixedWorker_13 rfl rfl ?_
        refine c_Vi (q := 18) (p_X9_workerTold hs (k := i) (by omega)) k_X10_203 hs rfl (by decide) rfl rfl (Nat.le_of_ble_eq_true rfl) rfl rfl dX10_mixedWorker_15 rfl ?_
        rintro y w1 ⟨rfl, hw1⟩
        subst w1
        refine c_Sl (q := 21) p_X10_mixed k_X10_231 (by decide) rfl rfl (Nat.le_of_ble_eq_true rfl) rfl rfl dX10_mixedWorker_18 rfl ?_
        rintro z w1 ⟨rfl, hw1⟩
        subst w1
        refine g_lstore_n (q := 22) dX10_mixedWorker_21 rfl rfl rfl rfl ?_
        dsimp only [List.set]
        refine g_iinc (q := 25) (y := nI (i + 1)) dX10_mixedWorker_22 rfl (gn_inc i) rfl rfl rfl rfl ?_
        dsimp only [List.set]
        refine g_goto (q := 5) dX10_mixedWorker_25 (by decide) ?_
        exact ih (i + 1) _ (by omega)
  refine gj_E_at (L := [some (.long h), none, some (.ref r), none, none, none]) (k := 3) rfl (by decide) rfl ?_
  refine g_lload_n (q := 1) dX10_mixedWorker_0 rfl rfl ?_
  refine g_lstore_n (q := 2) dX10_mixedWorker_1 rfl rfl rfl rfl ?_
  dsimp only [List.set]
  refine g_iconst (q := 3) (x := 0) dX10_mixedWorker_2 (by decide) rfl ?_
  refine g_istore (q := 5) dX10_mixedWorker_3 rfl rfl rfl rfl ?_
  dsimp only [List.set]
  exact lp 5 0 h (by omega)

set_option maxRecDepth 100000 in
set_option maxHeartbeats 4000000 in
theorem p_X10_mixedBuffer {X : gj_X} {lim : Nat} {σ : gj_H} {v : gj_V} {h : Int64} {r : Nat} {B : bS} (hs : bsh σ r) (hB : br v r B) : gj_E X 2 m_X10_mixedBuffer [.long h, .ref r] lim σ v (q_l lim σ (fun z v' => z = dgr B.2.2.2 (dgl (b_ktold B) 3 0 (dgr B.2.2.1 (dgl (b_told B) 8 0 h))) ∧ v' = v)) := by
  have sr := hs.1
  have hs3 := hs.2.2.1
  have hs4 := hs.2.2.2
  have lb : ∀ (k i : Nat) (m : Int64), i + k = 3 → gj_G X 2 m_X10_mixedBuffer (q_l lim σ (fun z v' => z = dgr B.2.2.2 (dgl (b_ktold B) k i m) ∧ v' = v)) lim σ v 0 0 41 [some (.long h), none, some (.ref r), some (.long m), none, some (.int (nI i))] [] := by
    intro k
    induction k with
    | zero =>
      intro i m hk
      have ei : i = 3 := by omega
      subst i
      refine g_iload (q := 43) dX10_mixedBuffer_41 rfl rfl ?_
      refine g_iconst (q := 44) (x := 3) dX10_mixedBuffer_43 (by decide) rfl ?_
      refine g_icmpge (t := 64) (q := 47) dX10_mixedBuffer_44 (by decide) rfl (fun hq44 => ?_) (fun hq44 => ?_)
      · refine g_lload_n (q := 65) dX10_mixedBuffer_64 rfl rfl ?_
        refine g_aload_n (q := 66) dX10_mixedBuffer_65 rfl rfl ?_
        refine g_getR (q := 69) f_X10_185 (by assumption) rfl dX10_mixedBuffer_66 rfl ?_
        refine c_Sl (q := 72) (p_X10_mixedRow hs.2.2.2 hB.2.2.2) k_X10_247 (by decide) rfl rfl (Nat.le_of_ble_eq_true rfl) rfl rfl dX10_mixedBuffer_69 rfl ?_
        rintro z w1 ⟨rfl, hw1⟩
        subst w1
        refine r_l dX10_mixedBuffer_72 rfl rfl rfl ?_
        exact ⟨rfl, rfl⟩
      · exact absurd (Int32.le_refl _) hq44
    | succ k ih =>
      intro i m hk
      refine g_iload (q := 43) dX10_mixedBuffer_41 rfl rfl ?_
      refine g_iconst (q := 44) (x := 3) dX10_mixedBuffer_43 (by decide) rfl ?_
      refine g_icmpge (t := 64) (q := 47) dX10_mixedBuffer_44 (by decide) rfl (fun hq44 => ?_) (fun hq44 => ?_)
      · exact absurd (gn_le (n := 3) hq44 (by omega)) (by omega)
      · refine g_lload_n (q := 48) dX10_mixedBuffer_47 rfl rfl ?_
        refine g_aload_n (q := 49) dX10_mixedBuffer_48 rfl rfl ?_
        refine g_iload (q := 51) dX10_mixedBuffer_49 rfl rfl ?_
        refine c_Vi (q := 54) (p_X0_keepingTold hs hB (k := i) (by omega)) k_X10_188 sr rfl (by decide) rfl rfl (Nat.le_of_ble_eq_true rfl) rfl rfl dX10_mixedBuffer_51 rfl ?_
        rintro y w1 ⟨rfl, hw1⟩
        subst w1
        refine c_Sl (q := 57) p_X10_mixed k_X10_231 (by decide) rfl rfl (Nat.le_of_ble_eq_true rfl) rfl rfl dX10_mixedBuffer_54 rfl ?_
        rintro z w1 ⟨rfl, hw1⟩
        subst w1
        refine g_lstore_n (q := 58) dX10_mixedBuffer_57 rfl rfl rfl rfl ?_
        dsimp only [List.set]
        refine g_iinc (q := 61) (y := nI (i + 1)) dX10_mixedBuffer_58 rfl (gn_inc i) rfl rfl rfl rfl ?_
        dsimp only [List.set]
        refine g_goto (q := 41) dX10_mixedBuffer_61 (by decide) ?_
        exact ih (i + 1) _ (by omega)
  have la : ∀ (k i : Nat) (m : Int64), i + k = 8 → gj_G X 2 m_X10_mixedBuffer (q_l lim σ (fun z v' => z = dgr B.2.2.2 (dgl (b_ktold B) 3 0 (dgr B.2.2.1 (dgl (b_told B) k i m))) ∧ v' = v)) lim σ v 0 0 5 [some (.long h), none, some (.ref r), some (.long m), none, some (.int (nI i))] [] := by
    intro k
    induction k with
    | zero =>
      intro i m hk
      have ei : i = 8 := by omega
      subst i
      refine g_iload (q := 7) dX10_mixedBuffer_5 rfl rfl ?_
      refine g_bipush (q := 9) (x := 8) dX10_mixedBuffer_7 (by decide) rfl ?_
      refine g_icmpge (t := 29) (q := 12) dX10_mixedBuffer_9 (by decide) rfl (fun hq9 => ?_) (fun hq9 => ?_)
      · refine g_lload_n (q := 30) dX10_mixedBuffer_29 rfl rfl ?_
        refine g_aload_n (q := 31) dX10_mixedBuffer_30 rfl rfl ?_
        refine g_getR (q := 34) f_X10_114 (by assumption) rfl dX10_mixedBuffer_31 rfl ?_
        refine c_Sl (q := 37) (p_X10_mixedRow hs.2.2.1 hB.2.2.1) k_X10_247 (by decide) rfl rfl (Nat.le_of_ble_eq_true rfl) rfl rfl dX10_mixedBuffer_34 rfl ?_
        rintro z w1 ⟨rfl, hw1⟩
        subst w1
        refine g_lstore_n (q := 38) dX10_mixedBuffer_37 rfl rfl rfl rfl ?_
        dsimp only [List.set]
        refine g_iconst (q := 39) (x := 0) dX10_mixedBuffer_38 (by decide) rfl ?_
        refine g_istore (q := 41) dX10_mixedBuffer_39 rfl rfl rfl rfl ?_
        dsimp only [List.set]
        exact lb 3 0 _ (by omega)
      · exact absurd (Int32.le_refl _) hq9
    | succ k ih =>
      intro i m hk
      refine g_iload (q := 7) dX10_mixedBuffer_5 rfl rfl ?_
      refine g_bipush (q := 9) (x := 8) dX10_mixedBuffer_7 (by decide) rfl ?_
      refine g_icmpge (t := 29) (q := 12) dX10_mixedBuffer_9 (by decide) rfl (fun hq9 => ?_) (fun hq9 => ?_)
      · exact absurd (gn_le (n := 8) hq9 (by omega)) (by omega)
      · refine g_lload_n (q := 13) dX10_mixedBuffer_12 rfl rfl ?_
        refine g_aload_n (q := 14) dX10_mixedBuffer_13 rfl rfl ?_
        refine g_iload (q := 16) dX10_mixedBuffer_14 rfl rfl ?_
        refine c_Vi (q := 19) (p_X0_bufferTold hs hB (k := i) (by omega)) k_X10_197 sr rfl (by decide) rfl rfl (Nat.le_of_ble_eq_true rfl) rfl rfl dX10_mixedBuffer_16 rfl ?_
        rintro y w1 ⟨rfl, hw1⟩
        subst w1
        refine c_Sl (q := 22) p_X10_mixed k_X10_231 (by decide) rfl rfl (Nat.le_of_ble_eq_true rfl) rfl rfl dX10_mixedBuffer_19 rfl ?_
        rintro z w1 ⟨rfl, hw1⟩
        subst w1
        refine g_lstore_n (q := 23) dX10_mixedBuffer_22 rfl rfl rfl rfl ?_
        dsimp only [List.set]
        refine g_iinc (q := 26) (y := nI (i + 1)) dX10_mixedBuffer_23 rfl (gn_inc i) rfl rfl rfl rfl ?_
        dsimp only [List.set]
        refine g_goto (q := 5) dX10_mixedBuffer_26 (by decide) ?_
        exact ih (i + 1) _ (by omega)
  refine gj_E_at (L := [some (.long h), none, some (.ref r), none, none, none]) (k := 3) rfl (by decide) rfl ?_
  refine g_lload_n (q := 1) dX10_mixedBuffer_0 rfl rfl ?_
  refine g_lstore_n (q := 2) dX10_mixedBuffer_1 rfl rfl rfl rfl ?_
  dsimp only [List.set]
  refine g_iconst (q := 3) (x := 0) dX10_mixedBuffer_2 (by decide) rfl ?_
  refine g_istore (q := 5) dX10_mixedBuffer_3 rfl rfl rfl rfl ?_
  dsimp only [List.set]
  exact la 8 0 h (by omega)

set_option maxRecDepth 100000 in
set_option maxHeartbeats 4000000 in
theorem p_X10_digest {X : gj_X} {lim : Nat} {σ : gj_H} {v : gj_V} {x : Nat} {A : aS} {t : Int32} {l : List (aS × Int32)} {tx : List Int32} {c : Nat → Int32} {n sn : Nat} (hs : gsh σ x) (hG : GR v x A t l tx c) (hI : IV A n sn) : gj_E X 6 m_X10_digest [.ref x] lim σ v (q_l lim σ (fun z v' => z = z_dig A t l tx c ∧ v' = v)) := by
  obtain ⟨sx, hf, hh, ht, hrn, hia⟩ := id hs
  have hc := hG.2.2.2
  have hn6 := hI.2.1.2.2.2.1
  have hn1 := hI.2.1.2.2.1
  have sf := hf.1
  have sb := hf.2.1
  have ss := hf.2.2.1
  have sw := hf.2.2.2.1
  have hb6 := hf.2.2.2.2.2.2.1
  have hs6 := hf.2.2.2.2.2.2.2.1
  have hw6 := hf.2.2.2.2.2.2.2.2
  have sl := hf.2.2.2.2.1
  have sl1 := sl.1
  have hh1 := hh.1
  have ht1 := ht.1
  have hia1 := hia.1
  have eN : v (x + 1) 5 = nI n := by rw [hG.1.fl 5 (by decide)]; exact hI.2.1.1
  have eS : v (x + 1) 6 = nI sn := by rw [hG.1.fl 6 (by decide)]; exact hI.2.1.2.1
  have hsn6 := hI.2.1.2.2.2.2.1
  have l5 : ∀ (k i : Nat) (m : Int64), i + k = 6 → gj_G X 6 m_X10_digest (q_l lim σ (fun z v' => z = dgm (dgr (A.2 20) (dgW A k i m)) (a_bits (nn A) A 6 0 0) ∧ v' = v)) lim σ v 0 0 122 [some (.ref x), some (.long m), none, some (.int (nI i))] [] := by
    intro k
    induction k with
    | zero =>
      intro i m hk
      have ei : i = 6 := by omega
      subst i
      refine g_iload_n (q := 123) dX10_digest_122 rfl rfl ?_
      refine g_bipush (q := 125) (x := 6) dX10_digest_123 (by decide) rfl ?_
      refine g_icmpge (t := 148) (q := 128) dX10_digest_125 (by decide) rfl (fun hq125 => ?_) (fun hq125 => ?_)
      · refine g_lload_n (q := 149) dX10_digest_148 rfl rfl ?_
        refine g_aload_n (q := 150) dX10_digest_149 rfl rfl ?_
        refine g_getR (q := 153) f_X10_10 (by assumption) rfl dX10_digest_150 rfl ?_
        refine g_getR (q := 156) f_X10_158 (by assumption) rfl dX10_digest_153 rfl ?_
        refine c_Sl (q := 159) (p_X10_mixedRow sl hG.1.2.2.2.2.2) k_X10_247 (by decide) rfl rfl (Nat.le_of_ble_eq_true rfl) rfl rfl dX10_digest_156 rfl ?_
        rintro z w1 ⟨rfl, hw1⟩
        subst w1
        refine g_lstore_n (q := 160) dX10_digest_159 rfl rfl rfl rfl ?_
        dsimp only [List.set]
        refine g_lload_n (q := 161) dX10_digest_160 rfl rfl ?_
        refine g_aload_n (q := 162) dX10_digest_161 rfl rfl ?_
        refine g_getR (q := 165) f_X10_10 (by assumption) rfl dX10_digest_162 rfl ?_
        refine c_Vi (q := 168) (p_X1_stuckBits hf hG.1 hI.2.1.1 hn6) k_X10_194 sf rfl (by decide) rfl rfl (Nat.le_of_ble_eq_true rfl) rfl rfl dX10_digest_165 rfl ?_
        rintro y w1 ⟨hy1, hw1⟩
        subst w1
        rw [← nn_eq hI] at hy1
        subst y
        refine c_Sl (q := 171) p_X10_mixed k_X10_231 (by decide) rfl rfl (Nat.le_of_ble_eq_true rfl) rfl rfl dX10_digest_168 rfl ?_
        rintro z w1 ⟨rfl, hw1⟩
        subst w1
        refine r_l dX10_digest_171 rfl rfl rfl ?_
        exact ⟨rfl, rfl⟩
      · exact absurd (Int32.le_refl _) hq125
    | succ k ih =>
      intro i m hk
      refine g_iload_n (q := 123) dX10_digest_122 rfl rfl ?_
      refine g_bipush (q := 125) (x := 6) dX10_digest_123 (by decide) rfl ?_
      refine g_icmpge (t := 148) (q := 128) dX10_digest_125 (by decide) rfl (fun hq125 => ?_) (fun hq125 => ?_)
      · exact absurd (gn_le (n := 6) hq125 (by omega)) (by omega)
      · refine g_lload_n (q := 129) dX10_digest_128 rfl rfl ?_
        refine g_aload_n (q := 130) dX10_digest_129 rfl rfl ?_
        refine g_getR (q := 133) f_X10_10 (by assumption) rfl dX10_digest_130 rfl ?_
        refine g_getR (q := 136) f_X10_138 (by assumption) rfl dX10_digest_133 rfl ?_
        refine g_iload_n (q := 137) dX10_digest_136 rfl rfl ?_
        refine g_aald (q := 138) (by assumption) rfl rfl (ra_at (show i < 6 by omega)) (by simp) dX10_digest_137 rfl ?_
        refine c_Sl (q := 141) (p_X10_mixedWorker (hw6 i (by omega))) k_X10_243 (by decide) rfl rfl (Nat.le_of_ble_eq_true rfl) rfl rfl dX10_digest_138 rfl ?_
        rintro y w1 ⟨hy1, hw1⟩
        subst w1
        rw [hG.1.2.2.2.2.1 i (by omega)] at hy1
        subst y
        refine g_lstore_n (q := 142) dX10_digest_141 rfl rfl rfl rfl ?_
        dsimp only [List.set]
        refine g_iinc (q := 145) (y := nI (i + 1)) dX10_digest_142 rfl (gn_inc i) rfl rfl rfl rfl ?_
        dsimp only [List.set]
        refine g_goto (q := 122) dX10_digest_145 (by decide) ?_
        exact ih (i + 1) _ (by omega)
  have l4 : ∀ (k i : Nat) (m : Int64), i + k = sn → gj_G X 6 m_X10_digest (q_l lim σ (fun z v' => z = dgm (dgr (A.2 20) (dgW A 6 0 (dgS A k i m))) (a_bits (nn A) A 6 0 0) ∧ v' = v)) lim σ v 0 0 89 [some (.ref x), some (.long m), none, some (.int (nI i))] [] := by
    intro k
    induction k with
    | zero =>
      intro i m hk
      have ei : i = sn := by omega
      subst i
      refine g_iload_n (q := 90) dX10_digest_89 rfl rfl ?_
      refine g_aload_n (q := 91) dX10_digest_90 rfl rfl ?_
      refine g_getR (q := 94) f_X10_10 (by assumption) rfl dX10_digest_91 rfl ?_
      refine g_getI (q := 97) f_X10_85 (by assumption) rfl dX10_digest_94 rfl ?_
      refine g_icmpge (t := 120) (q := 100) dX10_digest_97 (by decide) rfl (fun hq97 => ?_) (fun hq97 => ?_)
      · refine g_iconst (q := 121) (x := 0) dX10_digest_120 (by decide) rfl ?_
        refine g_istore_n (q := 122) dX10_digest_121 rfl rfl rfl rfl ?_
        dsimp only [List.set]
        exact l5 6 0 _ (by omega)
      · exact absurd (by rw [eS]; exact Int32.le_refl _) hq97
    | succ k ih =>
      intro i m hk
      refine g_iload_n (q := 90) dX10_digest_89 rfl rfl ?_
      refine g_aload_n (q := 91) dX10_digest_90 rfl rfl ?_
      refine g_getR (q := 94) f_X10_10 (by assumption) rfl dX10_digest_91 rfl ?_
      refine g_getI (q := 97) f_X10_85 (by assumption) rfl dX10_digest_94 rfl ?_
      refine g_icmpge (t := 120) (q := 100) dX10_digest_97 (by decide) rfl (fun hq97 => ?_) (fun hq97 => ?_)
      · rw [eS] at hq97
        exact absurd (gn_le hq97 (by omega)) (by omega)
      · refine g_lload_n (q := 101) dX10_digest_100 rfl rfl ?_
        refine g_aload_n (q := 102) dX10_digest_101 rfl rfl ?_
        refine g_getR (q := 105) f_X10_10 (by assumption) rfl dX10_digest_102 rfl ?_
        refine g_getR (q := 108) f_X10_91 (by assumption) rfl dX10_digest_105 rfl ?_
        refine g_iload_n (q := 109) dX10_digest_108 rfl rfl ?_
        refine g_aald (q := 110) (by assumption) rfl rfl (ra_at (show i < 6 by omega)) (by simp) dX10_digest_109 rfl ?_
        refine c_Sl (q := 113) (p_X10_mixedStation (hs6 i (by omega))) k_X10_239 (by decide) rfl rfl (Nat.le_of_ble_eq_true rfl) rfl rfl dX10_digest_110 rfl ?_
        rintro y w1 ⟨hy1, hw1⟩
        subst w1
        rw [hG.1.2.2.2.1 i (by omega)] at hy1
        subst y
        refine g_lstore_n (q := 114) dX10_digest_113 rfl rfl rfl rfl ?_
        dsimp only [List.set]
        refine g_iinc (q := 117) (y := nI (i + 1)) dX10_digest_114 rfl (gn_inc i) rfl rfl rfl rfl ?_
        dsimp only [List.set]
        refine g_goto (q := 89) dX10_digest_117 (by decide) ?_
        exact ih (i + 1) _ (by omega)
  have l3 : ∀ (k i : Nat) (m : Int64), i + k = n → gj_G X 6 m_X10_digest (q_l lim σ (fun z v' => z = dgm (dgr (A.2 20) (dgW A 6 0 (dgS A sn 0 (dgB A k i m)))) (a_bits (nn A) A 6 0 0) ∧ v' = v)) lim σ v 0 0 56 [some (.ref x), some (.long m), none, some (.int (nI i))] [] := by
    intro k
    induction k with
    | zero =>
      intro i m hk
      have ei : i = n := by omega
      subst i
      refine g_iload_n (q := 57) dX10_digest_56 rfl rfl ?_
      refine g_aload_n (q := 58) dX10_digest_57 rfl rfl ?_
      refine g_getR (q := 61) f_X10_10 (by assumption) rfl dX10_digest_58 rfl ?_
      refine g_getI (q := 64) f_X10_58 (by assumption) rfl dX10_digest_61 rfl ?_
      refine g_icmpge (t := 87) (q := 67) dX10_digest_64 (by decide) rfl (fun hq64 => ?_) (fun hq64 => ?_)
      · refine g_iconst (q := 88) (x := 0) dX10_digest_87 (by decide) rfl ?_
        refine g_istore_n (q := 89) dX10_digest_88 rfl rfl rfl rfl ?_
        dsimp only [List.set]
        exact l4 sn 0 _ (by omega)
      · exact absurd (by rw [eN]; exact Int32.le_refl _) hq64
    | succ k ih =>
      intro i m hk
      refine g_iload_n (q := 57) dX10_digest_56 rfl rfl ?_
      refine g_aload_n (q := 58) dX10_digest_57 rfl rfl ?_
      refine g_getR (q := 61) f_X10_10 (by assumption) rfl dX10_digest_58 rfl ?_
      refine g_getI (q := 64) f_X10_58 (by assumption) rfl dX10_digest_61 rfl ?_
      refine g_icmpge (t := 87) (q := 67) dX10_digest_64 (by decide) rfl (fun hq64 => ?_) (fun hq64 => ?_)
      · rw [eN] at hq64
        exact absurd (gn_le hq64 (by omega)) (by omega)
      · refine g_lload_n (q := 68) dX10_digest_67 rfl rfl ?_
        refine g_aload_n (q := 69) dX10_digest_68 rfl rfl ?_
        refine g_getR (q := 72) f_X10_10 (by assumption) rfl dX10_digest_69 rfl ?_
        refine g_getR (q := 75) f_X10_70 (by assumption) rfl dX10_digest_72 rfl ?_
        refine g_iload_n (q := 76) dX10_digest_75 rfl rfl ?_
        refine g_aald (q := 77) (by assumption) rfl rfl (ra_at (show i < 6 by omega)) (by simp) dX10_digest_76 rfl ?_
        refine c_Sl (q := 80) (p_X10_mixedBuffer (hb6 i (by omega)) (hG.1.2.2.1 i (by omega))) k_X10_235 (by decide) rfl rfl (Nat.le_of_ble_eq_true rfl) rfl rfl dX10_digest_77 rfl ?_
        rintro y w1 ⟨rfl, hw1⟩
        subst w1
        refine g_lstore_n (q := 81) dX10_digest_80 rfl rfl rfl rfl ?_
        dsimp only [List.set]
        refine g_iinc (q := 84) (y := nI (i + 1)) dX10_digest_81 rfl (gn_inc i) rfl rfl rfl rfl ?_
        dsimp only [List.set]
        refine g_goto (q := 56) dX10_digest_84 (by decide) ?_
        exact ih (i + 1) _ (by omega)
  have l2 : ∀ (k i : Nat) (m : Int64), i + k = 10 → gj_G X 6 m_X10_digest (q_l lim σ (fun z v' => z = dgm (dgr (A.2 20) (dgW A 6 0 (dgS A sn 0 (dgB A n 0 (dgl (a_wt A n t) k i m))))) (a_bits (nn A) A 6 0 0) ∧ v' = v)) lim σ v 0 0 29 [some (.ref x), some (.long m), none, some (.int (nI i))] [] := by
    intro k
    induction k with
    | zero =>
      intro i m hk
      have ei : i = 10 := by omega
      subst i
      refine g_iload_n (q := 30) dX10_digest_29 rfl rfl ?_
      refine g_bipush (q := 32) (x := 10) dX10_digest_30 (by decide) rfl ?_
      refine g_icmpge (t := 54) (q := 35) dX10_digest_32 (by decide) rfl (fun hq32 => ?_) (fun hq32 => ?_)
      · refine g_iconst (q := 55) (x := 0) dX10_digest_54 (by decide) rfl ?_
        refine g_istore_n (q := 56) dX10_digest_55 rfl rfl rfl rfl ?_
        dsimp only [List.set]
        exact l3 n 0 _ (by omega)
      · exact absurd (Int32.le_refl _) hq32
    | succ k ih =>
      intro i m hk
      refine g_iload_n (q := 30) dX10_digest_29 rfl rfl ?_
      refine g_bipush (q := 32) (x := 10) dX10_digest_30 (by decide) rfl ?_
      refine g_icmpge (t := 54) (q := 35) dX10_digest_32 (by decide) rfl (fun hq32 => ?_) (fun hq32 => ?_)
      · exact absurd (gn_le (n := 10) hq32 (by omega)) (by omega)
      · refine g_lload_n (q := 36) dX10_digest_35 rfl rfl ?_
        refine g_aload_n (q := 37) dX10_digest_36 rfl rfl ?_
        refine g_getR (q := 40) f_X10_10 (by assumption) rfl dX10_digest_37 rfl ?_
        refine g_iload_n (q := 41) dX10_digest_40 rfl rfl ?_
        refine c_Vi (q := 44) (p_X1_worksTold hf hG.1 hI.2.1.1 hn6 (k := i) (by omega)) k_X10_206 sf rfl (by decide) rfl rfl (Nat.le_of_ble_eq_true rfl) rfl rfl dX10_digest_41 rfl ?_
        rintro y w1 ⟨rfl, hw1⟩
        subst w1
        refine c_Sl (q := 47) p_X10_mixed k_X10_231 (by decide) rfl rfl (Nat.le_of_ble_eq_true rfl) rfl rfl dX10_digest_44 rfl ?_
        rintro z w1 ⟨rfl, hw1⟩
        subst w1
        refine g_lstore_n (q := 48) dX10_digest_47 rfl rfl rfl rfl ?_
        dsimp only [List.set]
        refine g_iinc (q := 51) (y := nI (i + 1)) dX10_digest_48 rfl (gn_inc i) rfl rfl rfl rfl ?_
        dsimp only [List.set]
        refine g_goto (q := 29) dX10_digest_51 (by decide) ?_
        exact ih (i + 1) _ (by omega)
  have l1 : ∀ (k i : Nat) (m : Int64), i + k = 5 → gj_G X 6 m_X10_digest (q_l lim σ (fun z v' => z = dgm (dgr (A.2 20) (dgW A 6 0 (dgS A sn 0 (dgB A n 0 (dgl (a_wt A n t) 10 0 (dgl (z_told l tx c) k i m)))))) (a_bits (nn A) A 6 0 0) ∧ v' = v)) lim σ v 0 0 6 [some (.ref x), some (.long m), none, some (.int (nI i))] [] := by
    intro k
    induction k with
    | zero =>
      intro i m hk
      have ei : i = 5 := by omega
      subst i
      refine g_iload_n (q := 7) dX10_digest_6 rfl rfl ?_
      refine g_iconst (q := 8) (x := 5) dX10_digest_7 (by decide) rfl ?_
      refine g_icmpge (t := 27) (q := 11) dX10_digest_8 (by decide) rfl (fun hq8 => ?_) (fun hq8 => ?_)
      · refine g_iconst (q := 28) (x := 0) dX10_digest_27 (by decide) rfl ?_
        refine g_istore_n (q := 29) dX10_digest_28 rfl rfl rfl rfl ?_
        dsimp only [List.set]
        exact l2 10 0 _ (by omega)
      · exact absurd (Int32.le_refl _) hq8
    | succ k ih =>
      intro i m hk
      refine g_iload_n (q := 7) dX10_digest_6 rfl rfl ?_
      refine g_iconst (q := 8) (x := 5) dX10_digest_7 (by decide) rfl ?_
      refine g_icmpge (t := 27) (q := 11) dX10_digest_8 (by decide) rfl (fun hq8 => ?_) (fun hq8 => ?_)
      · exact absurd (gn_le (n := 5) hq8 (by omega)) (by omega)
      · refine g_lload_n (q := 12) dX10_digest_11 rfl rfl ?_
        refine g_aload_n (q := 13) dX10_digest_12 rfl rfl ?_
        refine g_iload_n (q := 14) dX10_digest_13 rfl rfl ?_
        refine c_Vi (q := 17) (p_X10_toldOf hs hG (k := i) (by omega)) k_X10_226 sx rfl (by decide) rfl rfl (Nat.le_of_ble_eq_true rfl) rfl rfl dX10_digest_14 rfl ?_
        rintro y w1 ⟨rfl, hw1⟩
        subst w1
        refine c_Sl (q := 20) p_X10_mixed k_X10_231 (by decide) rfl rfl (Nat.le_of_ble_eq_true rfl) rfl rfl dX10_digest_17 rfl ?_
        rintro z w1 ⟨rfl, hw1⟩
        subst w1
        refine g_lstore_n (q := 21) dX10_digest_20 rfl rfl rfl rfl ?_
        dsimp only [List.set]
        refine g_iinc (q := 24) (y := nI (i + 1)) dX10_digest_21 rfl (gn_inc i) rfl rfl rfl rfl ?_
        dsimp only [List.set]
        refine g_goto (q := 6) dX10_digest_24 (by decide) ?_
        exact ih (i + 1) _ (by omega)
  rw [z_dig, sn_eq hI]
  have en := nn_eq hI
  rw [en] at l1 ⊢
  refine gj_E_at (L := [some (.ref x), none, none, none]) (k := 3) rfl (by decide) rfl ?_
  refine g_ldc2 (q := 3) dX10_digest_0 l_X10_229 rfl ?_
  refine g_lstore_n (q := 4) dX10_digest_3 rfl rfl rfl rfl ?_
  dsimp only [List.set]
  refine g_iconst (q := 5) (x := 0) dX10_digest_4 (by decide) rfl ?_
  refine g_istore_n (q := 6) dX10_digest_5 rfl rfl rfl rfl ?_
  dsimp only [List.set]
  exact l1 5 0 _ (by omega)
