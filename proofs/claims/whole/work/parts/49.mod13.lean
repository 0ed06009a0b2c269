/-! ===== the reference: its calls ===== -/
theorem mb_room {N : Nat → Int32} {b : Nat} {f : Nat → Int32} {li lq : List Int32} {z : Int32} (h : mb N b f li lq) : mb (upd N (10 + 24 * b + 1) z) b (upd f 3 z) li lq := by
  obtain ⟨a0, a1, a2, a3, a4, a5, a6, a7, a8, a9, a10, a11⟩ := h
  refine ⟨?_, by rw [ud_s, ud_s], ?_, ?_, ?_, ?_, ?_, ?_, fun i hi => ?_, fun i hi => ?_, a10, a11⟩
  · rw [ud_n _ _ (by omega)]; exact a0
  · rw [ud_n _ _ (by omega), ud_n _ _ (by decide)]; exact a2
  · rw [ud_n _ _ (by omega), ud_n _ _ (by decide)]; exact a3
  · rw [ud_n _ _ (by omega), ud_n _ _ (by decide)]; exact a4
  · rw [ud_n _ _ (by omega), ud_n _ _ (by decide)]; exact a5
  · rw [ud_n _ _ (by omega), ud_n _ _ (by decide)]; exact a6
  · rw [ud_n _ _ (by omega)]; exact a7
  · rw [ud_n _ _ (by omega)]; exact a8 i hi
  · rw [ud_n _ _ (by omega)]; exact a9 i hi
theorem ms_gd {N : Nat → Int32} {s : Nat} {S : Nat → Int32} {z : Int32} (h : ms N s S) : ms (upd N (190 + 12 * s + 5) z) s (upd S 5 z) := by
  obtain ⟨a, b, c, d⟩ := h
  refine ⟨fun j hj => ?_, fun q => ?_, fun q => ?_, fun j j1 j2 => ?_⟩
  · by_cases e : j = 5
    · subst e; rw [ud_s, ud_s]
    · rw [ud_n _ _ (by omega), ud_n _ _ e]; exact a j hj
  · rw [ud_n _ _ (by decide)] at q
    rw [ud_n _ _ (by omega), ud_n _ _ (by decide)]; exact b q
  · rw [ud_n _ _ (by decide)] at q
    rw [ud_n _ _ (by omega), ud_n _ _ (by decide)]; exact c q
  · rw [ud_n _ _ (by omega), ud_n _ _ (by omega)]; exact d j j1 j2
theorem MR_new {N N' : Nat → Int32} {A : aS} {t : Int32} {sn : Nat} {x0 x1 x2 x3 x4 : Int32} (h : MR N A t sn) (hs : sn < 6) (q0 : N' (190 + 12 * sn + 0) = x0) (q1 : N' (190 + 12 * sn + 1) = x1) (q2 : N' (190 + 12 * sn + 2) = x2) (q3 : N' (190 + 12 * sn + 3) = x3) (q4 : N' (190 + 12 * sn + 4) = x4) (q5 : N' (190 + 12 * sn + 5) = -1) (qn : N' 1 = nI sn + 1) (qo : ∀ j, j ≠ 1 → (j < 190 + 12 * sn ∨ 190 + 12 * sn + 6 ≤ j) → N' j = N j) : MR N' (z_stat A sn x0 x1 x2 x3 x4) t (sn + 1) := by
  obtain ⟨⟨m0, m1, m2, m3, m4, m5, m6⟩, h2, h3, h4, h5, h6, h7⟩ := h
  have o : ∀ i, i ≠ 40 → i ≠ 20 + sn → (z_stat A sn x0 x1 x2 x3 x4).1 i = A.1 i := fun i g1 g2 => by simp only [z_stat, sR]; rw [vu_n _ _ g1, vu_n _ _ g2]
  have e40 : (z_stat A sn x0 x1 x2 x3 x4).1 40 = upd (A.1 40) 6 (nI sn + 1) := by simp only [z_stat, sR]; rw [vu_s]
  have er : (z_stat A sn x0 x1 x2 x3 x4).1 (20 + sn) = as_set (A.1 (20 + sn)) x0 x1 x2 x3 x4 := by simp only [z_stat, sR]; rw [vu_n _ _ (by omega), vu_s]
  have z := h5 sn (Nat.le_refl _) hs
  refine ⟨⟨?_, ?_, ?_, ?_, ?_, fun i hi => ?_, m6⟩, fun b hb => ?_, fun g hg => ?_, fun s hs' => ?_, fun s g1 g2 k hk => ?_, fun w hw => ?_, by omega⟩
  · rw [qo _ (by omega) (by omega), e40, ud_n _ _ (by decide)]; exact m0
  · rw [qn, e40, ud_s]
  · rw [qo _ (by omega) (by omega)]; exact m2
  · rw [qo _ (by omega) (by omega), e40, ud_n _ _ (by decide)]; exact m3
  · rw [qo _ (by omega) (by omega)]; exact m4
  · have hi6 : i < 6 := Nat.lt_of_lt_of_le hi m6
    rw [qo _ (by omega) (by omega)]; exact m5 i hi
  · rw [o _ (by omega) (by omega)]; exact (h2 b hb).keep (fun i a c => qo i (by omega) (by omega))
  · rw [o _ (by omega) (by omega)]; exact (h3 g hg).keep (fun i a c => qo i (by omega) (by omega))
  · by_cases e : s = sn
    · subst e
      rw [er]
      unfold as_set as_idle
      refine ⟨fun k hk => ?_, fun q => ?_, fun q => ?_, fun k k1 k2 => ?_⟩
      · rcases (show k = 0 ∨ k = 1 ∨ k = 2 ∨ k = 3 ∨ k = 4 ∨ k = 5 ∨ k = 6 by omega) with rfl | rfl | rfl | rfl | rfl | rfl | rfl
        · rw [q0]; simp [upd]
        · rw [q1]; simp [upd]
        · rw [q2]; simp [upd]
        · rw [q3]; simp [upd]
        · rw [q4]; simp [upd]
        · rw [q5]; simp [upd]
        · rw [qo _ (by omega) (by omega), z 6 (by omega)]; simp [upd]
      · simp [upd] at q
      · simp [upd] at q
      · rw [qo _ (by omega) (by omega), z k k2]
        rcases (show k = 9 ∨ k = 10 ∨ k = 11 by omega) with rfl | rfl | rfl <;> simp [upd]
    · rw [o _ (by omega) (by omega)]; exact (h4 s (by omega)).keep (fun i a c => qo i (by omega) (by omega))
  · rw [qo _ (by omega) (by omega)]; exact h5 s (by omega) g2 k hk
  · rw [o _ (by omega) (by omega)]; exact (h6 w hw).keep (fun i a c => qo i (by omega) (by omega))
theorem tcks_mdk {n sn : Nat} : ∀ (k : Nat) (A : aS), IV A n sn → mdk sn 0 (a_tcks sn k A).2 = mdk sn 0 A + (a_tcks sn k A).1
  | 0, A, h => by rw [show a_tcks sn 0 A = (0, A) from rfl, Int32.add_zero]
  | k + 1, A, h => by
    have i1 := IV_tks h
    have i2 := IV_srv i1
    obtain ⟨-, -, -, -, e1, -⟩ := a_tks_ok (n := n) (sn := sn) sn 0 A h.1 h.2.1 (by omega)
    have o := a_srv_ok (n := n) h.2.1.2.2.2.1 7 _ i1.1 i1.2.2.1
    have e2 : mdk sn 0 (a_srv 7 (a_tks sn 0 A).2) = mdk sn 0 (a_tks sn 0 A).2 := by
      have := h.2.1.2.2.2.2.1
      exact mdk_congr sn 0 _ _ (fun j _ hj => o.2.2.1 _ (by omega) (by omega))
    have e3 := tcks_mdk k _ i2
    unfold a_tcks
    dsimp only
    rw [e3, e2, e1, Int32.add_assoc]

set_option maxRecDepth 100000 in
set_option maxHeartbeats 4000000 in
theorem p_X11_rooms {X : gj_X} {lim : Nat} {σ : gj_H} {v : gj_V} {m : Nat} {A : aS} {t : Int32} {l : List (aS × Int32)} {tx : List Int32} {c : Nat → Int32} {n sn : Nat} (hs : msh σ m) (hG : MG v m A t l tx c) (hI : IV A n sn) {b w : Int32} : gj_E X 6 m_X11_rooms [.ref m, .int b, .int w] lim σ v (q_i lim σ (fun z v' => sp_rooms A t l tx c b w z (MG v' m) ∧ fm v v' m)) := by
  obtain ⟨so, s1, s2, s3, s4, s5, s6, s7, s8, s9, s10, s11, s12⟩ := id hs
  have hn6 := hI.2.1.2.2.2.1
  have hn1 := hI.2.1.2.2.1
  have hsn6 := hI.2.1.2.2.2.2.1
  have esn : sno A = sn := sn_eq hI
  have hM0 := hG.1
  refine gj_E_at (L := [some (.ref m), some (.int b), some (.int w), none]) (k := 1) rfl (by decide) rfl ?_
  refine g_aload_n (q := 1) dX11_rooms_0 rfl rfl ?_
  refine g_iload_n (q := 2) dX11_rooms_1 rfl rfl ?_
  refine c_Vi (q := 5) (p_X11_isBuffer hs hG.1 hI.2.1.1 hn6) k_X11_136 (by assumption) rfl (by decide) rfl rfl (Nat.le_of_ble_eq_true rfl) rfl rfl dX11_rooms_2 rfl ?_
  rintro z w1 ⟨rfl, hw1⟩
  subst w1
  refine g_ifeq (t := 18) (q := 8) dX11_rooms_5 (by decide) rfl (fun hq5 => ?_) (fun hq5 => ?_)
  · have hq5 := gn_b0 hq5
    refine g_aload_n (q := 19) dX11_rooms_18 rfl rfl ?_
    refine c_Vi (q := 22) (p_X11_bad hs hG) k_X11_130 (by assumption) rfl (by decide) rfl rfl (Nat.le_of_ble_eq_true rfl) rfl rfl dX11_rooms_19 rfl ?_
    rintro z w1 ⟨hz1, hG1, E1⟩
    refine r_i dX11_rooms_22 rfl rfl rfl ?_
    rw [sp_rooms, if_neg (by intro h; first | exact hq5 h.1 | exact hq15 h.2)]
    exact ⟨⟨hz1, hG1⟩, E1⟩
  · have hq5 := gn_b1 hq5
    refine g_iload_n (q := 9) dX11_rooms_8 rfl rfl ?_
    refine g_iconst (q := 10) (x := 1) dX11_rooms_9 (by decide) rfl ?_
    refine g_bipush (q := 12) (x := 6) dX11_rooms_10 (by decide) rfl ?_
    refine c_Si (q := 15) p_X11_in k_X11_50 (by decide) rfl rfl (Nat.le_of_ble_eq_true rfl) rfl rfl dX11_rooms_12 rfl ?_
    rintro z w1 ⟨rfl, hw1⟩
    subst w1
    refine g_ifne (t := 23) (q := 18) dX11_rooms_15 (by decide) rfl (fun hq15 => ?_) (fun hq15 => ?_)
    · have hq15 := gn_b1 hq15
      have hcd := And.intro hq5 hq15
      obtain ⟨j, hj, rfl⟩ := a_has_of hI.2.1.1 (by omega) hq5
      have ej : iN (nI j) = j := iN_n (by omega)
      have j6 : j < 6 := by omega
      refine g_aload_n (q := 24) dX11_rooms_23 rfl rfl ?_
      refine c_Vv (q := 27) (p_X11_leavesState hs hG) k_X11_133 (by assumption) rfl (by decide) rfl rfl (Nat.le_of_ble_eq_true rfl) rfl rfl dX11_rooms_24 rfl ?_
      rintro vq1 ⟨⟨hG1, n1⟩, E1⟩
      have hM1 := hG1.1
      refine g_aload_n (q := 28) dX11_rooms_27 rfl rfl ?_
      refine g_getR (q := 31) f_X11_13 (by assumption) rfl dX11_rooms_28 rfl ?_
      refine g_iload_n (q := 32) dX11_rooms_31 rfl rfl ?_
      refine c_Si (q := 35) (p_X11_atBuffer (b := j)) k_X11_54 (by decide) rfl rfl (Nat.le_of_ble_eq_true rfl) rfl rfl dX11_rooms_32 rfl ?_
      rintro z0 w1 ⟨hz0, hw1⟩
      subst w1
      subst z0
      refine g_iconst (q := 36) (x := 1) dX11_rooms_35 (by decide) rfl ?_
      refine g_iadd (q := 37) dX11_rooms_36 rfl ?_
      refine g_iald (q := 38) (by assumption) (by first | (simp only [gn_lit, nI_add, pk_mul]; exact rfl) | exact rfl) (by omega) (by decide) dX11_rooms_37 rfl ?_
      rw [(hM1.2.1 j j6).2.1]
      refine g_istore_n (q := 39) dX11_rooms_38 rfl rfl rfl rfl ?_
      dsimp only [List.set]
      refine g_aload_n (q := 40) dX11_rooms_39 rfl rfl ?_
      refine g_getR (q := 43) f_X11_13 (by assumption) rfl dX11_rooms_40 rfl ?_
      refine g_iload_n (q := 44) dX11_rooms_43 rfl rfl ?_
      refine c_Si (q := 47) (p_X11_atBuffer (b := j)) k_X11_54 (by decide) rfl rfl (Nat.le_of_ble_eq_true rfl) rfl rfl dX11_rooms_44 rfl ?_
      rintro z0 w1 ⟨hz0, hw1⟩
      subst w1
      subst z0
      refine g_iconst (q := 48) (x := 1) dX11_rooms_47 (by decide) rfl ?_
      refine g_iadd (q := 49) dX11_rooms_48 rfl ?_
      refine g_iload_n (q := 50) dX11_rooms_49 rfl rfl ?_
      refine g_iast (q := 51) (by assumption) (by first | (simp only [gn_lit, nI_add, pk_mul]; exact rfl) | exact rfl) (by omega) (by decide) dX11_rooms_50 rfl ?_
      refine g_gen (fun vq2 hvq2 => ?_)
      rw [gu_2] at hvq2
      have hc2 : mc vq1 vq2 m (sR A (10 + j) (upd (A.1 (10 + j)) 3 w)) t (sno A) := by
        rw [← sB_row A j _ j6]
        exact ⟨_, hvq2, hM1.buf j6 (fun i hi => ud_n _ _ (by omega)) (mb_room (hM1.2.1 j j6))⟩
      have iv2 := iv_room1 hI hj hq15
      have hG2 := hG1.now hc2 ((sn_eq iv2).trans esn.symm)
      have E2 := E1.tr hc2.fm
      refine g_aload_n (q := 52) dX11_rooms_51 rfl rfl ?_
      refine c_Vv (q := 55) (p_X11_serves hs hG2.1 iv2.1 hn6 iv2.2.2.1) k_X11_127 (by assumption) rfl (by decide) rfl rfl (Nat.le_of_ble_eq_true rfl) rfl rfl dX11_rooms_52 rfl ?_
      rintro vq3 hc3
      have hG3 := hG2.now hc3 ((sn_eq (IV_srv iv2)).trans (sn_eq iv2).symm)
      have E3 := E2.tr hc3.fm
      refine g_iload_n (q := 56) dX11_rooms_55 rfl rfl ?_
      refine r_i dX11_rooms_56 rfl rfl rfl ?_
      rw [sp_rooms, if_pos hcd, ej]
      exact ⟨⟨rfl, hG3⟩, E3⟩
    · have hq15 := gn_b0 hq15
      refine g_aload_n (q := 19) dX11_rooms_18 rfl rfl ?_
      refine c_Vi (q := 22) (p_X11_bad hs hG) k_X11_130 (by assumption) rfl (by decide) rfl rfl (Nat.le_of_ble_eq_true rfl) rfl rfl dX11_rooms_19 rfl ?_
      rintro z w1 ⟨hz1, hG1, E1⟩
      refine r_i dX11_rooms_22 rfl rfl rfl ?_
      rw [sp_rooms, if_neg (by intro h; first | exact hq5 h.1 | exact hq15 h.2)]
      exact ⟨⟨hz1, hG1⟩, E1⟩

set_option maxRecDepth 100000 in
set_option maxHeartbeats 4000000 in
theorem p_X11_guards {X : gj_X} {lim : Nat} {σ : gj_H} {v : gj_V} {m : Nat} {A : aS} {t : Int32} {l : List (aS × Int32)} {tx : List Int32} {c : Nat → Int32} {n sn : Nat} (hs : msh σ m) (hG : MG v m A t l tx c) (hI : IV A n sn) {s b : Int32} : gj_E X 6 m_X11_guards [.ref m, .int s, .int b] lim σ v (q_i lim σ (fun z v' => sp_guards A t l tx c s b z (MG v' m) ∧ fm v v' m)) := by
  obtain ⟨so, s1, s2, s3, s4, s5, s6, s7, s8, s9, s10, s11, s12⟩ := id hs
  have hn6 := hI.2.1.2.2.2.1
  have hn1 := hI.2.1.2.2.1
  have hsn6 := hI.2.1.2.2.2.2.1
  have esn : sno A = sn := sn_eq hI
  have hM0 := hG.1
  refine gj_E_at (L := [some (.ref m), some (.int s), some (.int b), none]) (k := 1) rfl (by decide) rfl ?_
  refine g_aload_n (q := 1) dX11_guards_0 rfl rfl ?_
  refine g_iload_n (q := 2) dX11_guards_1 rfl rfl ?_
  refine c_Vi (q := 5) (p_X11_isStation hs hG.1 hI.2.1.2.1 hsn6) k_X11_143 (by assumption) rfl (by decide) rfl rfl (Nat.le_of_ble_eq_true rfl) rfl rfl dX11_guards_2 rfl ?_
  rintro z w1 ⟨rfl, hw1⟩
  subst w1
  refine g_ifeq (t := 21) (q := 8) dX11_guards_5 (by decide) rfl (fun hq5 => ?_) (fun hq5 => ?_)
  · have hq5 := gn_b0 hq5
    refine g_aload_n (q := 22) dX11_guards_21 rfl rfl ?_
    refine c_Vi (q := 25) (p_X11_bad hs hG) k_X11_130 (by assumption) rfl (by decide) rfl rfl (Nat.le_of_ble_eq_true rfl) rfl rfl dX11_guards_22 rfl ?_
    rintro z w1 ⟨hz1, hG1, E1⟩
    refine r_i dX11_guards_25 rfl rfl rfl ?_
    rw [sp_guards, if_neg (by intro h; first | exact hq5 h.1 | exact h.2.elim hq10 hq18)]
    exact ⟨⟨hz1, hG1⟩, E1⟩
  · have hq5 := gn_b1 hq5
    refine g_iload_n (q := 9) dX11_guards_8 rfl rfl ?_
    refine g_iconst (q := 10) (x := (-1)) dX11_guards_9 (by decide) rfl ?_
    refine g_icmpeq (t := 26) (q := 13) dX11_guards_10 (by decide) rfl (fun hq10 => ?_) (fun hq10 => ?_)
    · have hb : b = -1 ∨ a_has A b := Or.inl hq10
      have hcd := And.intro hq5 hb
      obtain ⟨j, hj, rfl⟩ := gn_ix (n := sn) (by omega) hq5.1 (by rw [← hI.2.1.2.1]; exact hq5.2)
      have j6 : j < 6 := by omega
      have ej : iN (nI j) = j := iN_n (by omega)
      have hjn : j < sno A := by rw [esn]; exact hj
      refine g_aload_n (q := 27) dX11_guards_26 rfl rfl ?_
      refine c_Vv (q := 30) (p_X11_leavesState hs hG) k_X11_133 (by assumption) rfl (by decide) rfl rfl (Nat.le_of_ble_eq_true rfl) rfl rfl dX11_guards_27 rfl ?_
      rintro vq1 ⟨⟨hG1, n1⟩, E1⟩
      have hM1 := hG1.1
      refine g_aload_n (q := 31) dX11_guards_30 rfl rfl ?_
      refine g_getR (q := 34) f_X11_13 (by assumption) rfl dX11_guards_31 rfl ?_
      refine g_iload_n (q := 35) dX11_guards_34 rfl rfl ?_
      refine c_Si (q := 38) (p_X11_stationAt (b := j)) k_X11_121 (by decide) rfl rfl (Nat.le_of_ble_eq_true rfl) rfl rfl dX11_guards_35 rfl ?_
      rintro z0 w1 ⟨hz0, hw1⟩
      subst w1
      subst z0
      refine g_iconst (q := 39) (x := 5) dX11_guards_38 (by decide) rfl ?_
      refine g_iadd (q := 40) dX11_guards_39 rfl ?_
      refine g_iald (q := 41) (by assumption) (by first | (simp only [gn_lit, nI_add, pk_mul]; exact rfl) | exact rfl) (by omega) (by decide) dX11_guards_40 rfl ?_
      rw [(hM1.2.2.2.1 j hjn).1 5 (by omega)]
      refine g_istore_n (q := 42) dX11_guards_41 rfl rfl rfl rfl ?_
      dsimp only [List.set]
      refine g_aload_n (q := 43) dX11_guards_42 rfl rfl ?_
      refine g_getR (q := 46) f_X11_13 (by assumption) rfl dX11_guards_43 rfl ?_
      refine g_iload_n (q := 47) dX11_guards_46 rfl rfl ?_
      refine c_Si (q := 50) (p_X11_stationAt (b := j)) k_X11_121 (by decide) rfl rfl (Nat.le_of_ble_eq_true rfl) rfl rfl dX11_guards_47 rfl ?_
      rintro z0 w1 ⟨hz0, hw1⟩
      subst w1
      subst z0
      refine g_iconst (q := 51) (x := 5) dX11_guards_50 (by decide) rfl ?_
      refine g_iadd (q := 52) dX11_guards_51 rfl ?_
      refine g_iload_n (q := 53) dX11_guards_52 rfl rfl ?_
      refine g_iast (q := 54) (by assumption) (by first | (simp only [gn_lit, nI_add, pk_mul]; exact rfl) | exact rfl) (by omega) (by decide) dX11_guards_53 rfl ?_
      refine g_gen (fun vq2 hvq2 => ?_)
      rw [gu_2] at hvq2
      have hc2 : mc vq1 vq2 m (z_guard A j b) t (sno A) := ⟨_, hvq2, hM1.stat hjn (fun i hi => ud_n _ _ (by omega)) (ms_gd (hM1.2.2.2.1 j hjn))⟩
      have iv2 := iv_guard hI hj hb
      have hG2 := hG1.now hc2 ((sn_eq iv2).trans esn.symm)
      have E2 := E1.tr hc2.fm
      refine g_iload_n (q := 55) dX11_guards_54 rfl rfl ?_
      refine r_i dX11_guards_55 rfl rfl rfl ?_
      rw [sp_guards, if_pos hcd, ej]
      exact ⟨⟨rfl, hG2⟩, E2⟩
    · refine g_aload_n (q := 14) dX11_guards_13 rfl rfl ?_
      refine g_iload_n (q := 15) dX11_guards_14 rfl rfl ?_
      refine c_Vi (q := 18) (p_X11_isBuffer hs hG.1 hI.2.1.1 hn6) k_X11_136 (by assumption) rfl (by decide) rfl rfl (Nat.le_of_ble_eq_true rfl) rfl rfl dX11_guards_15 rfl ?_
      rintro z w1 ⟨rfl, hw1⟩
      subst w1
      refine g_ifne (t := 26) (q := 21) dX11_guards_18 (by decide) rfl (fun hq18 => ?_) (fun hq18 => ?_)
      · have hq18 := gn_b1 hq18
        have hb : b = -1 ∨ a_has A b := Or.inr hq18
        have hcd := And.intro hq5 hb
        obtain ⟨j, hj, rfl⟩ := gn_ix (n := sn) (by omega) hq5.1 (by rw [← hI.2.1.2.1]; exact hq5.2)
        have j6 : j < 6 := by omega
        have ej : iN (nI j) = j := iN_n (by omega)
        have hjn : j < sno A := by rw [esn]; exact hj
        refine g_aload_n (q := 27) dX11_guards_26 rfl rfl ?_
        refine c_Vv (q := 30) (p_X11_leavesState hs hG) k_X11_133 (by assumption) rfl (by decide) rfl rfl (Nat.le_of_ble_eq_true rfl) rfl rfl dX11_guards_27 rfl ?_
        rintro vq1 ⟨⟨hG1, n1⟩, E1⟩
        have hM1 := hG1.1
        refine g_aload_n (q := 31) dX11_guards_30 rfl rfl ?_
        refine g_getR (q := 34) f_X11_13 (by assumption) rfl dX11_guards_31 rfl ?_
        refine g_iload_n (q := 35) dX11_guards_34 rfl rfl ?_
        refine c_Si (q := 38) (p_X11_stationAt (b := j)) k_X11_121 (by decide) rfl rfl (Nat.le_of_ble_eq_true rfl) rfl rfl dX11_guards_35 rfl ?_
        rintro z0 w1 ⟨hz0, hw1⟩
        subst w1
        subst z0
        refine g_iconst (q := 39) (x := 5) dX11_guards_38 (by decide) rfl ?_
        refine g_iadd (q := 40) dX11_guards_39 rfl ?_
        refine g_iald (q := 41) (by assumption) (by first | (simp only [gn_lit, nI_add, pk_mul]; exact rfl) | exact rfl) (by omega) (by decide) dX11_guards_40 rfl ?_
        rw [(hM1.2.2.2.1 j hjn).1 5 (by omega)]
        refine g_istore_n (q := 42) dX11_guards_41 rfl rfl rfl rfl ?_
        dsimp only [List.set]
        refine g_aload_n (q := 43) dX11_guards_42 rfl rfl ?_
        refine g_getR (q := 46) f_X11_13 (by assumption) rfl dX11_guards_43 rfl ?_
        refine g_iload_n (q := 47) dX11_guards_46 rfl rfl ?_
        refine c_Si (q := 50) (p_X11_stationAt (b := j)) k_X11_121 (by decide) rfl rfl (Nat.le_of_ble_eq_true rfl) rfl rfl dX11_guards_47 rfl ?_
        rintro z0 w1 ⟨hz0, hw1⟩
        subst w1
        subst z0
        refine g_iconst (q := 51) (x := 5) dX11_guards_50 (by decide) rfl ?_
        refine g_iadd (q := 52) dX11_guards_51 rfl ?_
        refine g_iload_n (q := 53) dX11_guards_52 rfl rfl ?_
        refine g_iast (q := 54) (by assumption) (by first | (simp only [gn_lit, nI_add, pk_mul]; exact rfl) | exact rfl) (by omega) (by decide) dX11_guards_53 rfl ?_
        refine g_gen (fun vq2 hvq2 => ?_)
        rw [gu_2] at hvq2
        have hc2 : mc vq1 vq2 m (z_guard A j b) t (sno A) := ⟨_, hvq2, hM1.stat hjn (fun i hi => ud_n _ _ (by omega)) (ms_gd (hM1.2.2.2.1 j hjn))⟩
        have iv2 := iv_guard hI hj hb
        have hG2 := hG1.now hc2 ((sn_eq iv2).trans esn.symm)
        have E2 := E1.tr hc2.fm
        refine g_iload_n (q := 55) dX11_guards_54 rfl rfl ?_
        refine r_i dX11_guards_55 rfl rfl rfl ?_
        rw [sp_guards, if_pos hcd, ej]
        exact ⟨⟨rfl, hG2⟩, E2⟩
      · have hq18 := gn_b0 hq18
        refine g_aload_n (q := 22) dX11_guards_21 rfl rfl ?_
        refine c_Vi (q := 25) (p_X11_bad hs hG) k_X11_130 (by assumption) rfl (by decide) rfl rfl (Nat.le_of_ble_eq_true rfl) rfl rfl dX11_guards_22 rfl ?_
        rintro z w1 ⟨hz1, hG1, E1⟩
        refine r_i dX11_guards_25 rfl rfl rfl ?_
        rw [sp_guards, if_neg (by intro h; first | exact hq5 h.1 | exact h.2.elim hq10 hq18)]
        exact ⟨⟨hz1, hG1⟩, E1⟩

set_option maxRecDepth 100000 in
set_option maxHeartbeats 4000000 in
theorem p_X11_station {X : gj_X} {lim : Nat} {σ : gj_H} {v : gj_V} {m : Nat} {A : aS} {t : Int32} {l : List (aS × Int32)} {tx : List Int32} {c : Nat → Int32} {n sn : Nat} (hs : msh σ m) (hG : MG v m A t l tx c) (hI : IV A n sn) {y0 y1 y2 y3 y4 : Int32} : gj_E X 6 m_X11_station [.ref m, .int y0, .int y1, .int y2, .int y3, .int y4] lim σ v (q_i lim σ (fun z v' => sp_stat A t l tx c y0 y1 y2 y3 y4 z (MG v' m) ∧ fm v v' m)) := by
  obtain ⟨so, s1, s2, s3, s4, s5, s6, s7, s8, s9, s10, s11, s12⟩ := id hs
  have hn6 := hI.2.1.2.2.2.1
  have hn1 := hI.2.1.2.2.1
  have hsn6 := hI.2.1.2.2.2.2.1
  have esn : sno A = sn := sn_eq hI
  have hM0 := hG.1
  refine gj_E_at (L := [some (.ref m), some (.int y0), some (.int y1), some (.int y2), some (.int y3), some (.int y4), none]) (k := 1) rfl (by decide) rfl ?_
  refine g_aload_n (q := 1) dX11_station_0 rfl rfl ?_
  refine g_iload_n (q := 2) dX11_station_1 rfl rfl ?_
  refine c_Vi (q := 5) (p_X11_isBuffer hs hG.1 hI.2.1.1 hn6) k_X11_136 (by assumption) rfl (by decide) rfl rfl (Nat.le_of_ble_eq_true rfl) rfl rfl dX11_station_2 rfl ?_
  rintro z w1 ⟨rfl, hw1⟩
  subst w1
  refine g_ifeq (t := 51) (q := 8) dX11_station_5 (by decide) rfl (fun hq5 => ?_) (fun hq5 => ?_)
  · have hq5 := gn_b0 hq5
    refine g_aload_n (q := 52) dX11_station_51 rfl rfl ?_
    refine c_Vi (q := 55) (p_X11_bad hs hG) k_X11_130 (by assumption) rfl (by decide) rfl rfl (Nat.le_of_ble_eq_true rfl) rfl rfl dX11_station_52 rfl ?_
    rintro z w1 ⟨hz1, hG1, E1⟩
    refine r_i dX11_station_55 rfl rfl rfl ?_
    rw [sp_stat, if_neg (by intro h; first | exact hq5 h.1 | exact h.2.1.elim hq10 hq18 | exact hq26 h.2.2.1 | exact hq37 h.2.2.2.1 | exact hq48 h.2.2.2.2)]
    exact ⟨⟨hz1, hG1⟩, E1⟩
  · have hq5 := gn_b1 hq5
    refine g_iload_n (q := 9) dX11_station_8 rfl rfl ?_
    refine g_iconst (q := 10) (x := (-1)) dX11_station_9 (by decide) rfl ?_
    refine g_icmpeq (t := 21) (q := 13) dX11_station_10 (by decide) rfl (fun hq10 => ?_) (fun hq10 => ?_)
    · have hb : y1 = -1 ∨ a_has A y1 := Or.inl hq10
      refine g_aload_n (q := 22) dX11_station_21 rfl rfl ?_
      refine g_iload_n (q := 23) dX11_station_22 rfl rfl ?_
      refine c_Vi (q := 26) (p_X11_isBuffer hs hG.1 hI.2.1.1 hn6) k_X11_136 (by assumption) rfl (by decide) rfl rfl (Nat.le_of_ble_eq_true rfl) rfl rfl dX11_station_23 rfl ?_
      rintro z w1 ⟨rfl, hw1⟩
      subst w1
      refine g_ifeq (t := 51) (q := 29) dX11_station_26 (by decide) rfl (fun hq26 => ?_) (fun hq26 => ?_)
      · have hq26 := gn_b0 hq26
        refine g_aload_n (q := 52) dX11_station_51 rfl rfl ?_
        refine c_Vi (q := 55) (p_X11_bad hs hG) k_X11_130 (by assumption) rfl (by decide) rfl rfl (Nat.le_of_ble_eq_true rfl) rfl rfl dX11_station_52 rfl ?_
        rintro z w1 ⟨hz1, hG1, E1⟩
        refine r_i dX11_station_55 rfl rfl rfl ?_
        rw [sp_stat, if_neg (by intro h; first | exact hq5 h.1 | exact h.2.1.elim hq10 hq18 | exact hq26 h.2.2.1 | exact hq37 h.2.2.2.1 | exact hq48 h.2.2.2.2)]
        exact ⟨⟨hz1, hG1⟩, E1⟩
      · have hq26 := gn_b1 hq26
        refine g_iload (q := 31) dX11_station_29 rfl rfl ?_
        refine g_iconst (q := 32) (x := 1) dX11_station_31 (by decide) rfl ?_
        refine g_bipush (q := 34) (x := 9) dX11_station_32 (by decide) rfl ?_
        refine c_Si (q := 37) p_X11_in k_X11_50 (by decide) rfl rfl (Nat.le_of_ble_eq_true rfl) rfl rfl dX11_station_34 rfl ?_
        rintro z w1 ⟨rfl, hw1⟩
        subst w1
        refine g_ifeq (t := 51) (q := 40) dX11_station_37 (by decide) rfl (fun hq37 => ?_) (fun hq37 => ?_)
        · have hq37 := gn_b0 hq37
          refine g_aload_n (q := 52) dX11_station_51 rfl rfl ?_
          refine c_Vi (q := 55) (p_X11_bad hs hG) k_X11_130 (by assumption) rfl (by decide) rfl rfl (Nat.le_of_ble_eq_true rfl) rfl rfl dX11_station_52 rfl ?_
          rintro z w1 ⟨hz1, hG1, E1⟩
          refine r_i dX11_station_55 rfl rfl rfl ?_
          rw [sp_stat, if_neg (by intro h; first | exact hq5 h.1 | exact h.2.1.elim hq10 hq18 | exact hq26 h.2.2.1 | exact hq37 h.2.2.2.1 | exact hq48 h.2.2.2.2)]
          exact ⟨⟨hz1, hG1⟩, E1⟩
        · have hq37 := gn_b1 hq37
          refine g_iload (q := 42) dX11_station_40 rfl rfl ?_
          refine g_iconst (q := 43) (x := 0) dX11_station_42 (by decide) rfl ?_
          refine g_bipush (q := 45) (x := 9) dX11_station_43 (by decide) rfl ?_
          refine c_Si (q := 48) p_X11_in k_X11_50 (by decide) rfl rfl (Nat.le_of_ble_eq_true rfl) rfl rfl dX11_station_45 rfl ?_
          rintro z w1 ⟨rfl, hw1⟩
          subst w1
          refine g_ifne (t := 56) (q := 51) dX11_station_48 (by decide) rfl (fun hq48 => ?_) (fun hq48 => ?_)
          · have hq48 := gn_b1 hq48
            have hcd : c_stat A y0 y1 y2 y3 y4 := ⟨hq5, hb, hq26, hq37, hq48⟩
            have en := hI.2.1.2.1
            refine g_aload_n (q := 57) dX11_station_56 rfl rfl ?_
            refine g_getR (q := 60) f_X11_13 (by assumption) rfl dX11_station_57 rfl ?_
            refine g_iconst (q := 61) (x := 1) dX11_station_60 (by decide) rfl ?_
            refine g_iald (q := 62) (by assumption) (show (1 : Int32) = nI 1 from rfl) (by omega) (by decide) dX11_station_61 rfl ?_
            rw [hM0.1.2.1, hI.2.1.2.1]
            refine g_bipush (q := 64) (x := 6) dX11_station_62 (by decide) rfl ?_
            refine g_icmpne (t := 72) (q := 67) dX11_station_64 (by decide) rfl (fun hq64 => ?_) (fun hq64 => ?_)
            · have h6n : sn < 6 := by
                rcases Nat.lt_or_ge sn 6 with q | q
                · exact q
                · exact absurd (by rw [show sn = 6 by omega]; rfl) hq64
              have hlt : A.1 40 6 < 6 := by rw [en]; exact nI_lt h6n (by decide)
              refine g_aload_n (q := 73) dX11_station_72 rfl rfl ?_
              refine c_Vv (q := 76) (p_X11_leavesState hs hG) k_X11_133 (by assumption) rfl (by decide) rfl rfl (Nat.le_of_ble_eq_true rfl) rfl rfl dX11_station_73 rfl ?_
              rintro vq1 ⟨⟨hG1, n1⟩, E1⟩
              have hM1 := hG1.1
              refine g_aload_n (q := 77) dX11_station_76 rfl rfl ?_
              refine g_getR (q := 80) f_X11_13 (by assumption) rfl dX11_station_77 rfl ?_
              refine g_iconst (q := 81) (x := 1) dX11_station_80 (by decide) rfl ?_
              refine g_iald (q := 82) (by assumption) (show (1 : Int32) = nI 1 from rfl) (by omega) (by decide) dX11_station_81 rfl ?_
              rw [hM1.1.2.1, en]
              refine c_Si (q := 85) (p_X11_stationAt (b := sn)) k_X11_121 (by decide) rfl rfl (Nat.le_of_ble_eq_true rfl) rfl rfl dX11_station_82 rfl ?_
              rintro z0 w1 ⟨hz0, hw1⟩
              subst w1
              subst z0
              refine g_istore (q := 87) dX11_station_85 rfl rfl rfl rfl ?_
              dsimp only [List.set]
              refine g_aload_n (q := 88) dX11_station_87 rfl rfl ?_
              refine g_getR (q := 91) f_X11_13 (by assumption) rfl dX11_station_88 rfl ?_
              refine g_iload (q := 93) dX11_station_91 rfl rfl ?_
              refine g_iconst (q := 94) (x := 0) dX11_station_93 (by decide) rfl ?_
              refine g_iadd (q := 95) dX11_station_94 rfl ?_
              refine g_iload_n (q := 96) dX11_station_95 rfl rfl ?_
              refine g_iast (q := 97) (by assumption) (by first | (simp only [gn_lit, nI_add, pk_mul]; exact rfl) | exact rfl) (by omega) (by decide) dX11_station_96 rfl ?_
              refine g_gen (fun vq2 hvq2 => ?_)
              rw [gu_2] at hvq2
              have n2 := congrFun hvq2 (m + 2)
              rw [gu_s] at n2
              refine g_aload_n (q := 98) dX11_station_97 rfl rfl ?_
              refine g_getR (q := 101) f_X11_13 (by assumption) rfl dX11_station_98 rfl ?_
              refine g_iload (q := 103) dX11_station_101 rfl rfl ?_
              refine g_iconst (q := 104) (x := 1) dX11_station_103 (by decide) rfl ?_
              refine g_iadd (q := 105) dX11_station_104 rfl ?_
              refine g_iload_n (q := 106) dX11_station_105 rfl rfl ?_
              refine g_iast (q := 107) (by assumption) (by first | (simp only [gn_lit, nI_add, pk_mul]; exact rfl) | exact rfl) (by omega) (by decide) dX11_station_106 rfl ?_
              refine g_gen (fun vq3 hvq3 => ?_)
              rw [gu_2, n2, hvq2, gu_u] at hvq3
              have n3 := congrFun hvq3 (m + 2)
              rw [gu_s] at n3
              refine g_aload_n (q := 108) dX11_station_107 rfl rfl ?_
              refine g_getR (q := 111) f_X11_13 (by assumption) rfl dX11_station_108 rfl ?_
              refine g_iload (q := 113) dX11_station_111 rfl rfl ?_
              refine g_iconst (q := 114) (x := 2) dX11_station_113 (by decide) rfl ?_
              refine g_iadd (q := 115) dX11_station_114 rfl ?_
              refine g_iload_n (q := 116) dX11_station_115 rfl rfl ?_
              refine g_iast (q := 117) (by assumption) (by first | (simp only [gn_lit, nI_add, pk_mul]; exact rfl) | exact rfl) (by omega) (by decide) dX11_station_116 rfl ?_
              refine g_gen (fun vq4 hvq4 => ?_)
              rw [gu_2, n3, hvq3, gu_u] at hvq4
              have n4 := congrFun hvq4 (m + 2)
              rw [gu_s] at n4
              refine g_aload_n (q := 118) dX11_station_117 rfl rfl ?_
              refine g_getR (q := 121) f_X11_13 (by assumption) rfl dX11_station_118 rfl ?_
              refine g_iload (q := 123) dX11_station_121 rfl rfl ?_
              refine g_iconst (q := 124) (x := 3) dX11_station_123 (by decide) rfl ?_
              refine g_iadd (q := 125) dX11_station_124 rfl ?_
              refine g_iload (q := 127) dX11_station_125 rfl rfl ?_
              refine g_iast (q := 128) (by assumption) (by first | (simp only [gn_lit, nI_add, pk_mul]; exact rfl) | exact rfl) (by omega) (by decide) dX11_station_127 rfl ?_
              refine g_gen (fun vq5 hvq5 => ?_)
              rw [gu_2, n4, hvq4, gu_u] at hvq5
              have n5 := congrFun hvq5 (m + 2)
              rw [gu_s] at n5
              refine g_aload_n (q := 129) dX11_station_128 rfl rfl ?_
              refine g_getR (q := 132) f_X11_13 (by assumption) rfl dX11_station_129 rfl ?_
              refine g_iload (q := 134) dX11_station_132 rfl rfl ?_
              refine g_iconst (q := 135) (x := 4) dX11_station_134 (by decide) rfl ?_
              refine g_iadd (q := 136) dX11_station_135 rfl ?_
              refine g_iload (q := 138) dX11_station_136 rfl rfl ?_
              refine g_iast (q := 139) (by assumption) (by first | (simp only [gn_lit, nI_add, pk_mul]; exact rfl) | exact rfl) (by omega) (by decide) dX11_station_138 rfl ?_
              refine g_gen (fun vq6 hvq6 => ?_)
              rw [gu_2, n5, hvq5, gu_u] at hvq6
              have n6 := congrFun hvq6 (m + 2)
              rw [gu_s] at n6
              refine g_aload_n (q := 140) dX11_station_139 rfl rfl ?_
              refine g_getR (q := 143) f_X11_13 (by assumption) rfl dX11_station_140 rfl ?_
              refine g_iload (q := 145) dX11_station_143 rfl rfl ?_
              refine g_iconst (q := 146) (x := 5) dX11_station_145 (by decide) rfl ?_
              refine g_iadd (q := 147) dX11_station_146 rfl ?_
              refine g_iconst (q := 148) (x := (-1)) dX11_station_147 (by decide) rfl ?_
              refine g_iast (q := 149) (by assumption) (by first | (simp only [gn_lit, nI_add, pk_mul]; exact rfl) | exact rfl) (by omega) (by decide) dX11_station_148 rfl ?_
              refine g_gen (fun vq7 hvq7 => ?_)
              rw [gu_2, n6, hvq6, gu_u] at hvq7
              have n7 := congrFun hvq7 (m + 2)
              rw [gu_s] at n7
              refine g_aload_n (q := 150) dX11_station_149 rfl rfl ?_
              refine g_getR (q := 153) f_X11_13 (by assumption) rfl dX11_station_150 rfl ?_
              refine g_iconst (q := 154) (x := 1) dX11_station_153 (by decide) rfl ?_
              refine g_dup2 (q := 155) dX11_station_154 rfl rfl rfl ?_
              refine g_iald (q := 156) (by assumption) (show (1 : Int32) = nI 1 from rfl) (by omega) (by decide) dX11_station_155 rfl ?_
              refine g_iconst (q := 157) (x := 1) dX11_station_156 (by decide) rfl ?_
              refine g_iadd (q := 158) dX11_station_157 rfl ?_
              refine g_iast (q := 159) (by assumption) (show (1 : Int32) = nI 1 from rfl) (by omega) (by decide) dX11_station_158 rfl ?_
              refine g_gen (fun vq8 hvq8 => ?_)
              rw [gu_2, n7, hvq7, gu_u] at hvq8
              have n8 := congrFun hvq8 (m + 2)
              rw [gu_s] at n8
              have q0 : vq8 (m + 2) (190 + 12 * sn + 0) = y0 := by
                rw [n8]
                repeat (first | rw [ud_s] | rw [ud_n _ _ (by omega)])
              have q1 : vq8 (m + 2) (190 + 12 * sn + 1) = y1 := by
                rw [n8]
                repeat (first | rw [ud_s] | rw [ud_n _ _ (by omega)])
              have q2 : vq8 (m + 2) (190 + 12 * sn + 2) = y2 := by
                rw [n8]
                repeat (first | rw [ud_s] | rw [ud_n _ _ (by omega)])
              have q3 : vq8 (m + 2) (190 + 12 * sn + 3) = y3 := by
                rw [n8]
                repeat (first | rw [ud_s] | rw [ud_n _ _ (by omega)])
              have q4 : vq8 (m + 2) (190 + 12 * sn + 4) = y4 := by
                rw [n8]
                repeat (first | rw [ud_s] | rw [ud_n _ _ (by omega)])
              have q5 : vq8 (m + 2) (190 + 12 * sn + 5) = -1 := by
                rw [n8]
                repeat (first | rw [ud_s] | rw [ud_n _ _ (by omega)])
              have qn : vq8 (m + 2) 1 = nI sn + 1 := by
                rw [n8, ud_s]
                repeat (first | rw [ud_s] | rw [ud_n _ _ (by omega)])
                rw [hM1.1.2.1, en]
              have qo : ∀ j, j ≠ 1 → (j < 190 + 12 * sn ∨ 190 + 12 * sn + 6 ≤ j) → vq8 (m + 2) j = vq1 (m + 2) j := by
                intro j g1 g2
                rw [n8]
                repeat (first | rw [ud_s] | rw [ud_n _ _ (by omega)])
              have iv9 := iv_stat hI h6n hcd
              have hM1s : MR (vq1 (m + 2)) A t sn := by rw [← esn]; exact hM1
              have hc9 : mc vq1 vq8 m (z_stat A sn y0 y1 y2 y3 y4) t (sn + 1) := ⟨vq8 (m + 2), by rw [n8]; exact hvq8, MR_new hM1s h6n q0 q1 q2 q3 q4 q5 qn qo⟩
              have hG9 := hG1.now hc9 (sn_eq iv9)
              have E9 := E1.tr hc9.fm
              refine g_aload_n (q := 160) dX11_station_159 rfl rfl ?_
              refine g_getR (q := 163) f_X11_13 (by assumption) rfl dX11_station_160 rfl ?_
              refine g_iconst (q := 164) (x := 1) dX11_station_163 (by decide) rfl ?_
              refine g_iald (q := 165) (by assumption) (show (1 : Int32) = nI 1 from rfl) (by omega) (by decide) dX11_station_164 rfl ?_
              refine g_iconst (q := 166) (x := 1) dX11_station_165 (by decide) rfl ?_
              refine g_isub (q := 167) dX11_station_166 rfl ?_
              refine r_i dX11_station_167 rfl rfl rfl ?_
              rw [sp_stat, if_pos hcd, if_pos hlt, sn_eq hI]
              refine ⟨⟨?_, hG9⟩, E9⟩
              rw [qn, en, Int32.add_sub_cancel]
            · have hlt : ¬ A.1 40 6 < 6 := by rw [en, hq64]; decide
              refine g_aload_n (q := 68) dX11_station_67 rfl rfl ?_
              refine c_Vi (q := 71) (p_X11_full hs hG) k_X11_140 (by assumption) rfl (by decide) rfl rfl (Nat.le_of_ble_eq_true rfl) rfl rfl dX11_station_68 rfl ?_
              rintro z w1 ⟨hz1, hG1, E1⟩
              refine r_i dX11_station_71 rfl rfl rfl ?_
              rw [sp_stat, if_pos hcd, if_neg hlt]
              exact ⟨⟨hz1, hG1⟩, E1⟩
          · have hq48 := gn_b0 hq48
            refine g_aload_n (q := 52) dX11_station_51 rfl rfl ?_
            refine c_Vi (q := 55) (p_X11_bad hs hG) k_X11_130 (by assumption) rfl (by decide) rfl rfl (Nat.le_of_ble_eq_true rfl) rfl rfl dX11_station_52 rfl ?_
            rintro z w1 ⟨hz1, hG1, E1⟩
            refine r_i dX11_station_55 rfl rfl rfl ?_
            rw [sp_stat, if_neg (by intro h; first | exact hq5 h.1 | exact h.2.1.elim hq10 hq18 | exact hq26 h.2.2.1 | exact hq37 h.2.2.2.1 | exact hq48 h.2.2.2.2)]
            exact ⟨⟨hz1, hG1⟩, E1⟩
    · refine g_aload_n (q := 14) dX11_station_13 rfl rfl ?_
      refine g_iload_n (q := 15) dX11_station_14 rfl rfl ?_
      refine c_Vi (q := 18) (p_X11_isBuffer hs hG.1 hI.2.1.1 hn6) k_X11_136 (by assumption) rfl (by decide) rfl rfl (Nat.le_of_ble_eq_true rfl) rfl rfl dX11_station_15 rfl ?_
      rintro z w1 ⟨rfl, hw1⟩
      subst w1
      refine g_ifeq (t := 51) (q := 21) dX11_station_18 (by decide) rfl (fun hq18 => ?_) (fun hq18 => ?_)
      · have hq18 := gn_b0 hq18
        refine g_aload_n (q := 52) dX11_station_51 rfl rfl ?_
        refine c_Vi (q := 55) (p_X11_bad hs hG) k_X11_130 (by assumption) rfl (by decide) rfl rfl (Nat.le_of_ble_eq_true rfl) rfl rfl dX11_station_52 rfl ?_
        rintro z w1 ⟨hz1, hG1, E1⟩
        refine r_i dX11_station_55 rfl rfl rfl ?_
        rw [sp_stat, if_neg (by intro h; first | exact hq5 h.1 | exact h.2.1.elim hq10 hq18 | exact hq26 h.2.2.1 | exact hq37 h.2.2.2.1 | exact hq48 h.2.2.2.2)]
        exact ⟨⟨hz1, hG1⟩, E1⟩
      · have hq18 := gn_b1 hq18
        have hb : y1 = -1 ∨ a_has A y1 := Or.inr hq18
        refine g_aload_n (q := 22) dX11_station_21 rfl rfl ?_
        refine g_iload_n (q := 23) dX11_station_22 rfl rfl ?_
        refine c_Vi (q := 26) (p_X11_isBuffer hs hG.1 hI.2.1.1 hn6) k_X11_136 (by assumption) rfl (by decide) rfl rfl (Nat.le_of_ble_eq_true rfl) rfl rfl dX11_station_23 rfl ?_
        rintro z w1 ⟨rfl, hw1⟩
        subst w1
        refine g_ifeq (t := 51) (q := 29) dX11_station_26 (by decide) rfl (fun hq26 => ?_) (fun hq26 => ?_)
        · have hq26 := gn_b0 hq26
          refine g_aload_n (q := 52) dX11_station_51 rfl rfl ?_
          refine c_Vi (q := 55) (p_X11_bad hs hG) k_X11_130 (by assumption) rfl (by decide) rfl rfl (Nat.le_of_ble_eq_true rfl) rfl rfl dX11_station_52 rfl ?_
          rintro z w1 ⟨hz1, hG1, E1⟩
          refine r_i dX11_station_55 rfl rfl rfl ?_
          rw [sp_stat, if_neg (by intro h; first | exact hq5 h.1 | exact h.2.1.elim hq10 hq18 | exact hq26 h.2.2.1 | exact hq37 h.2.2.2.1 | exact hq48 h.2.2.2.2)]
          exact ⟨⟨hz1, hG1⟩, E1⟩
        · have hq26 := gn_b1 hq26
          refine g_iload (q := 31) dX11_station_29 rfl rfl ?_
          refine g_iconst (q := 32) (x := 1) dX11_station_31 (by decide) rfl ?_
          refine g_bipush (q := 34) (x := 9) dX11_station_32 (by decide) rfl ?_
          refine c_Si (q := 37) p_X11_in k_X11_50 (by decide) rfl rfl (Nat.le_of_ble_eq_true rfl) rfl rfl dX11_station_34 rfl ?_
          rintro z w1 ⟨rfl, hw1⟩
          subst w1
          refine g_ifeq (t := 51) (q := 40) dX11_station_37 (by decide) rfl (fun hq37 => ?_) (fun hq37 => ?_)
          · have hq37 := gn_b0 hq37
            refine g_aload_n (q := 52) dX11_station_51 rfl rfl ?_
            refine c_Vi (q := 55) (p_X11_bad hs hG) k_X11_130 (by assumption) rfl (by decide) rfl rfl (Nat.le_of_ble_eq_true rfl) rfl rfl dX11_station_52 rfl ?_
            rintro z w1 ⟨hz1, hG1, E1⟩
            refine r_i dX11_station_55 rfl rfl rfl ?_
            rw [sp_stat, if_neg (by intro h; first | exact hq5 h.1 | exact h.2.1.elim hq10 hq18 | exact hq26 h.2.2.1 | exact hq37 h.2.2.2.1 | exact hq48 h.2.2.2.2)]
            exact ⟨⟨hz1, hG1⟩, E1⟩
          · have hq37 := gn_b1 hq37
            refine g_iload (q := 42) dX11_station_40 rfl rfl ?_
            refine g_iconst (q := 43) (x := 0) dX11_station_42 (by decide) rfl ?_
            refine g_bipush (q := 45) (x := 9) dX11_station_43 (by decide) rfl ?_
            refine c_Si (q := 48) p_X11_in k_X11_50 (by decide) rfl rfl (Nat.le_of_ble_eq_true rfl) rfl rfl dX11_station_45 rfl ?_
            rintro z w1 ⟨rfl, hw1⟩
            subst w1
            refine g_ifne (t := 56) (q := 51) dX11_station_48 (by decide) rfl (fun hq48 => ?_) (fun hq48 => ?_)
            · have hq48 := gn_b1 hq48
              have hcd : c_stat A y0 y1 y2 y3 y4 := ⟨hq5, hb, hq26, hq37, hq48⟩
              have en := hI.2.1.2.1
              refine g_aload_n (q := 57) dX11_station_56 rfl rfl ?_
              refine g_getR (q := 60) f_X11_13 (by assumption) rfl dX11_station_57 rfl ?_
              refine g_iconst (q := 61) (x := 1) dX11_station_60 (by decide) rfl ?_
              refine g_iald (q := 62) (by assumption) (show (1 : Int32) = nI 1 from rfl) (by omega) (by decide) dX11_station_61 rfl ?_
              rw [hM0.1.2.1, hI.2.1.2.1]
              refine g_bipush (q := 64) (x := 6) dX11_station_62 (by decide) rfl ?_
              refine g_icmpne (t := 72) (q := 67) dX11_station_64 (by decide) rfl (fun hq64 => ?_) (fun hq64 => ?_)
              · have h6n : sn < 6 := by
                  rcases Nat.lt_or_ge sn 6 with q | q
                  · exact q
                  · exact absurd (by rw [show sn = 6 by omega]; rfl) hq64
                have hlt : A.1 40 6 < 6 := by rw [en]; exact nI_lt h6n (by decide)
                refine g_aload_n (q := 73) dX11_station_72 rfl rfl ?_
                refine c_Vv (q := 76) (p_X11_leavesState hs hG) k_X11_133 (by assumption) rfl (by decide) rfl rfl (Nat.le_of_ble_eq_true rfl) rfl rfl dX11_station_73 rfl ?_
                rintro vq1 ⟨⟨hG1, n1⟩, E1⟩
                have hM1 := hG1.1
                refine g_aload_n (q := 77) dX11_station_76 rfl rfl ?_
                refine g_getR (q := 80) f_X11_13 (by assumption) rfl dX11_station_77 rfl ?_
                refine g_iconst (q := 81) (x := 1) dX11_station_80 (by decide) rfl ?_
                refine g_iald (q := 82) (by assumption) (show (1 : Int32) = nI 1 from rfl) (by omega) (by decide) dX11_station_81 rfl ?_
                rw [hM1.1.2.1, en]
                refine c_Si (q := 85) (p_X11_stationAt (b := sn)) k_X11_121 (by decide) rfl rfl (Nat.le_of_ble_eq_true rfl) rfl rfl dX11_station_82 rfl ?_
                rintro z0 w1 ⟨hz0, hw1⟩
                subst w1
                subst z0
                refine g_istore (q := 87) dX11_station_85 rfl rfl rfl rfl ?_
                dsimp only [List.set]
                refine g_aload_n (q := 88) dX11_station_87 rfl rfl ?_
                refine g_getR (q := 91) f_X11_13 (by assumption) rfl dX11_station_88 rfl ?_
                refine g_iload (q := 93) dX11_station_91 rfl rfl ?_
                refine g_iconst (q := 94) (x := 0) dX11_station_93 (by decide) rfl ?_
                refine g_iadd (q := 95) dX11_station_94 rfl ?_
                refine g_iload_n (q := 96) dX11_station_95 rfl rfl ?_
                refine g_iast (q := 97) (by assumption) (by first | (simp only [gn_lit, nI_add, pk_mul]; exact rfl) | exact rfl) (by omega) (by decide) dX11_station_96 rfl ?_
                refine g_gen (fun vq2 hvq2 => ?_)
                rw [gu_2] at hvq2
                have n2 := congrFun hvq2 (m + 2)
                rw [gu_s] at n2
                refine g_aload_n (q := 98) dX11_station_97 rfl rfl ?_
                refine g_getR (q := 101) f_X11_13 (by assumption) rfl dX11_station_98 rfl ?_
                refine g_iload (q := 103) dX11_station_101 rfl rfl ?_
                refine g_iconst (q := 104) (x := 1) dX11_station_103 (by decide) rfl ?_
                refine g_iadd (q := 105) dX11_station_104 rfl ?_
                refine g_iload_n (q := 106) dX11_station_105 rfl rfl ?_
                refine g_iast (q := 107) (by assumption) (by first | (simp only [gn_lit, nI_add, pk_mul]; exact rfl) | exact rfl) (by omega) (by decide) dX11_station_106 rfl ?_
                refine g_gen (fun vq3 hvq3 => ?_)
                rw [gu_2, n2, hvq2, gu_u] at hvq3
                have n3 := congrFun hvq3 (m + 2)
                rw [gu_s] at n3
                refine g_aload_n (q := 108) dX11_station_107 rfl rfl ?_
                refine g_getR (q := 111) f_X11_13 (by assumption) rfl dX11_station_108 rfl ?_
                refine g_iload (q := 113) dX11_station_111 rfl rfl ?_
                refine g_iconst (q := 114) (x := 2) dX11_station_113 (by decide) rfl ?_
                refine g_iadd (q := 115) dX11_station_114 rfl ?_
                refine g_iload_n (q := 116) dX11_station_115 rfl rfl ?_
                refine g_iast (q := 117) (by assumption) (by first | (simp only [gn_lit, nI_add, pk_mul]; exact rfl) | exact rfl) (by omega) (by decide) dX11_station_116 rfl ?_
                refine g_gen (fun vq4 hvq4 => ?_)
                rw [gu_2, n3, hvq3, gu_u] at hvq4
                have n4 := congrFun hvq4 (m + 2)
                rw [gu_s] at n4
                refine g_aload_n (q := 118) dX11_station_117 rfl rfl ?_
                refine g_getR (q := 121) f_X11_13 (by assumption) rfl dX11_station_118 rfl ?_
                refine g_iload (q := 123) dX11_station_121 rfl rfl ?_
                refine g_iconst (q := 124) (x := 3) dX11_station_123 (by decide) rfl ?_
                refine g_iadd (q := 125) dX11_station_124 rfl ?_
                refine g_iload (q := 127) dX11_station_125 rfl rfl ?_
                refine g_iast (q := 128) (by assumption) (by first | (simp only [gn_lit, nI_add, pk_mul]; exact rfl) | exact rfl) (by omega) (by decide) dX11_station_127 rfl ?_
                refine g_gen (fun vq5 hvq5 => ?_)
                rw [gu_2, n4, hvq4, gu_u] at hvq5
                have n5 := congrFun hvq5 (m + 2)
                rw [gu_s] at n5
                refine g_aload_n (q := 129) dX11_station_128 rfl rfl ?_
                refine g_getR (q := 132) f_X11_13 (by assumption) rfl dX11_station_129 rfl ?_
                refine g_iload (q := 134) dX11_station_132 rfl rfl ?_
                refine g_iconst (q := 135) (x := 4) dX11_station_134 (by decide) rfl ?_
                refine g_iadd (q := 136) dX11_station_135 rfl ?_
                refine g_iload (q := 138) dX11_station_136 rfl rfl ?_
                refine g_iast (q := 139) (by assumption) (by first | (simp only [gn_lit, nI_add, pk_mul]; exact rfl) | exact rfl) (by omega) (by decide) dX11_station_138 rfl ?_
                refine g_gen (fun vq6 hvq6 => ?_)
                rw [gu_2, n5, hvq5, gu_u] at hvq6
                have n6 := congrFun hvq6 (m + 2)
                rw [gu_s] at n6
                refine g_aload_n (q := 140) dX11_station_139 rfl rfl ?_
                refine g_getR (q := 143) f_X11_13 (by assumption) rfl dX11_station_140 rfl ?_
                refine g_iload (q := 145) dX11_station_143 rfl rfl ?_
                refine g_iconst (q := 146) (x := 5) dX11_station_145 (by decide) rfl ?_
                refine g_iadd (q := 147) dX11_station_146 rfl ?_
                refine g_iconst (q := 148) (x := (-1)) dX11_station_147 (by decide) rfl ?_
                refine g_iast (q := 149) (by assumption) (by first | (simp only [gn_lit, nI_add, pk_mul]; exact rfl) | exact rfl) (by omega) (by decide) dX11_station_148 rfl ?_
                refine g_gen (fun vq7 hvq7 => ?_)
                rw [gu_2, n6, hvq6, gu_u] at hvq7
                have n7 := congrFun hvq7 (m + 2)
                rw [gu_s] at n7
                refine g_aload_n (q := 150) dX11_station_149 rfl rfl ?_
                refine g_getR (q := 153) f_X11_13 (by assumption) rfl dX11_station_150 rfl ?_
                refine g_iconst (q := 154) (x := 1) dX11_station_153 (by decide) rfl ?_
                refine g_dup2 (q := 155) dX11_station_154 rfl rfl rfl ?_
                refine g_iald (q := 156) (by assumption) (show (1 : Int32) = nI 1 from rfl) (by omega) (by decide) dX11_station_155 rfl ?_
                refine g_iconst (q := 157) (x := 1) dX11_station_156 (by decide) rfl ?_
                refine g_iadd (q := 158) dX11_station_157 rfl ?_
                refine g_iast (q := 159) (by assumption) (show (1 : Int32) = nI 1 from rfl) (by omega) (by decide) dX11_station_158 rfl ?_
                refine g_gen (fun vq8 hvq8 => ?_)
                rw [gu_2, n7, hvq7, gu_u] at hvq8
                have n8 := congrFun hvq8 (m + 2)
                rw [gu_s] at n8
                have q0 : vq8 (m + 2) (190 + 12 * sn + 0) = y0 := by
                  rw [n8]
                  repeat (first | rw [ud_s] | rw [ud_n _ _ (by omega)])
                have q1 : vq8 (m + 2) (190 + 12 * sn + 1) = y1 := by
                  rw [n8]
                  repeat (first | rw [ud_s] | rw [ud_n _ _ (by omega)])
                have q2 : vq8 (m + 2) (190 + 12 * sn + 2) = y2 := by
                  rw [n8]
                  repeat (first | rw [ud_s] | rw [ud_n _ _ (by omega)])
                have q3 : vq8 (m + 2) (190 + 12 * sn + 3) = y3 := by
                  rw [n8]
                  repeat (first | rw [ud_s] | rw [ud_n _ _ (by omega)])
                have q4 : vq8 (m + 2) (190 + 12 * sn + 4) = y4 := by
                  rw [n8]
                  repeat (first | rw [ud_s] | rw [ud_n _ _ (by omega)])
                have q5 : vq8 (m + 2) (190 + 12 * sn + 5) = -1 := by
                  rw [n8]
                  repeat (first | rw [ud_s] | rw [ud_n _ _ (by omega)])
                have qn : vq8 (m + 2) 1 = nI sn + 1 := by
                  rw [n8, ud_s]
                  repeat (first | rw [ud_s] | rw [ud_n _ _ (by omega)])
                  rw [hM1.1.2.1, en]
                have qo : ∀ j, j ≠ 1 → (j < 190 + 12 * sn ∨ 190 + 12 * sn + 6 ≤ j) → vq8 (m + 2) j = vq1 (m + 2) j := by
                  intro j g1 g2
                  rw [n8]
                  repeat (first | rw [ud_s] | rw [ud_n _ _ (by omega)])
                have iv9 := iv_stat hI h6n hcd
                have hM1s : MR (vq1 (m + 2)) A t sn := by rw [← esn]; exact hM1
                have hc9 : mc vq1 vq8 m (z_stat A sn y0 y1 y2 y3 y4) t (sn + 1) := ⟨vq8 (m + 2), by rw [n8]; exact hvq8, MR_new hM1s h6n q0 q1 q2 q3 q4 q5 qn qo⟩
                have hG9 := hG1.now hc9 (sn_eq iv9)
                have E9 := E1.tr hc9.fm
                refine g_aload_n (q := 160) dX11_station_159 rfl rfl ?_
                refine g_getR (q := 163) f_X11_13 (by assumption) rfl dX11_station_160 rfl ?_
                refine g_iconst (q := 164) (x := 1) dX11_station_163 (by decide) rfl ?_
                refine g_iald (q := 165) (by assumption) (show (1 : Int32) = nI 1 from rfl) (by omega) (by decide) dX11_station_164 rfl ?_
                refine g_iconst (q := 166) (x := 1) dX11_station_165 (by decide) rfl ?_
                refine g_isub (q := 167) dX11_station_166 rfl ?_
                refine r_i dX11_station_167 rfl rfl rfl ?_
                rw [sp_stat, if_pos hcd, if_pos hlt, sn_eq hI]
                refine ⟨⟨?_, hG9⟩, E9⟩
                rw [qn, en, Int32.add_sub_cancel]
              · have hlt : ¬ A.1 40 6 < 6 := by rw [en, hq64]; decide
                refine g_aload_n (q := 68) dX11_station_67 rfl rfl ?_
                refine c_Vi (q := 71) (p_X11_full hs hG) k_X11_140 (by assumption) rfl (by decide) rfl rfl (Nat.le_of_ble_eq_true rfl) rfl rfl dX11_station_68 rfl ?_
                rintro z w1 ⟨hz1, hG1, E1⟩
                refine r_i dX11_station_71 rfl rfl rfl ?_
                rw [sp_stat, if_pos hcd, if_neg hlt]
                exact ⟨⟨hz1, hG1⟩, E1⟩
            · have hq48 := gn_b0 hq48
              refine g_aload_n (q := 52) dX11_station_51 rfl rfl ?_
              refine c_Vi (q := 55) (p_X11_bad hs hG) k_X11_130 (by assumption) rfl (by decide) rfl rfl (Nat.le_of_ble_eq_true rfl) rfl rfl dX11_station_52 rfl ?_
              rintro z w1 ⟨hz1, hG1, E1⟩
              refine r_i dX11_station_55 rfl rfl rfl ?_
              rw [sp_stat, if_neg (by intro h; first | exact hq5 h.1 | exact h.2.1.elim hq10 hq18 | exact hq26 h.2.2.1 | exact hq37 h.2.2.2.1 | exact hq48 h.2.2.2.2)]
              exact ⟨⟨hz1, hG1⟩, E1⟩

set_option maxRecDepth 100000 in
set_option maxHeartbeats 4000000 in
theorem ticksM_loop {X : gj_X} {lim : Nat} {σ : gj_H} {v : gj_V} {m : Nat} {A D : aS} {t : Int32} {n sn k0 : Nat} (hs : msh σ m) (hk0 : k0 < 100) {P : Int32 → gj_V → Prop} (hP : ∀ z vv, z = mdk sn 0 D - mdk sn 0 A ∧ mc v vv m D (t + nI k0) sn → P z vv) : ∀ (k i : Nat) (C : aS) (w : gj_V), mc v w m C (t + nI i) sn → IV C n sn → i + k = k0 → (a_tcks sn k C).2 = D → gj_G X 6 m_X11_ticks (q_i lim σ P) lim σ w 0 0 26 [some (.ref m), some (.int (nI k0)), some (.int (mdk sn 0 A)), some (.int (nI i))] [] := by
  obtain ⟨so, s1, s2, s3, s4, s5, s6, s7, s8, s9, s10, s11, s12⟩ := id hs
  intro k
  induction k with
  | zero =>
    intro i C w hcw hIc hk eD
    have ei : i = k0 := by omega
    subst i
    rw [show a_tcks sn 0 C = (0, C) from rfl] at eD
    subst D
    refine g_iload_n (q := 27) dX11_ticks_26 rfl rfl ?_
    refine g_iload_n (q := 28) dX11_ticks_27 rfl rfl ?_
    refine g_icmpge (t := 41) (q := 31) dX11_ticks_28 (by decide) rfl (fun hq28 => ?_) (fun hq28 => ?_)
    · refine g_aload_n (q := 42) dX11_ticks_41 rfl rfl ?_
      refine c_Vi (q := 45) (p_X11_madeOfAll hs hcw.M hIc.2.1.2.1) k_X11_146 (by assumption) rfl (by decide) rfl rfl (Nat.le_of_ble_eq_true rfl) rfl rfl dX11_ticks_42 rfl ?_
      rintro z0 w1 ⟨hz0, hw1⟩
      subst w1
      refine g_iload_n (q := 46) dX11_ticks_45 rfl rfl ?_
      refine g_isub (q := 47) dX11_ticks_46 rfl ?_
      refine r_i dX11_ticks_47 rfl rfl rfl ?_
      exact hP _ _ ⟨by rw [hz0], hcw⟩
    · exact absurd (Int32.le_refl _) hq28
  | succ k ih =>
    intro i C w hcw hIc hk eD
    refine g_iload_n (q := 27) dX11_ticks_26 rfl rfl ?_
    refine g_iload_n (q := 28) dX11_ticks_27 rfl rfl ?_
    refine g_icmpge (t := 41) (q := 31) dX11_ticks_28 (by decide) rfl (fun hq28 => ?_) (fun hq28 => ?_)
    · exact absurd (gn_le hq28 (by omega)) (by omega)
    · refine g_aload_n (q := 32) dX11_ticks_31 rfl rfl ?_
      refine c_Vv (q := 35) (p_X11_tick hs hcw.M hIc.1 hIc.2.1 hIc.2.2.1) k_X11_149 (by assumption) rfl (by decide) rfl rfl (Nat.le_of_ble_eq_true rfl) rfl rfl dX11_ticks_32 rfl ?_
      rintro vq2 hc2
      rw [show t + nI i + 1 = t + nI (i + 1) by rw [Int32.add_assoc, nI_1]] at hc2
      refine g_iinc (q := 38) (y := nI (i + 1)) dX11_ticks_35 rfl (gn_inc i) rfl rfl rfl rfl ?_
      dsimp only [List.set]
      refine g_goto (q := 26) dX11_ticks_38 (by decide) ?_
      rw [a_tcks] at eD
      exact ih (i + 1) _ vq2 (hcw.tr hc2) (IV_srv (IV_tks hIc)) (by omega) eD


set_option maxRecDepth 100000 in
set_option maxHeartbeats 4000000 in
theorem p_X11_ticks {X : gj_X} {lim : Nat} {σ : gj_H} {v : gj_V} {m : Nat} {A : aS} {t : Int32} {l : List (aS × Int32)} {tx : List Int32} {c : Nat → Int32} {n sn : Nat} (hs : msh σ m) (hG : MG v m A t l tx c) (hI : IV A n sn) {k : Int32} : gj_E X 6 m_X11_ticks [.ref m, .int k] lim σ v (q_i lim σ (fun z v' => sp_ticks A t l tx c k z (MG v' m) ∧ fm v v' m)) := by
  obtain ⟨so, s1, s2, s3, s4, s5, s6, s7, s8, s9, s10, s11, s12⟩ := id hs
  have hn6 := hI.2.1.2.2.2.1
  have hn1 := hI.2.1.2.2.1
  have hsn6 := hI.2.1.2.2.2.2.1
  have esn : sno A = sn := sn_eq hI
  have hM0 := hG.1
  refine gj_E_at (L := [some (.ref m), some (.int k), none, none]) (k := 2) rfl (by decide) rfl ?_
  refine g_iload_n (q := 1) dX11_ticks_0 rfl rfl ?_
  refine g_iconst (q := 2) (x := 1) dX11_ticks_1 (by decide) rfl ?_
  refine g_bipush (q := 4) (x := 30) dX11_ticks_2 (by decide) rfl ?_
  refine c_Si (q := 7) p_X11_in k_X11_50 (by decide) rfl rfl (Nat.le_of_ble_eq_true rfl) rfl rfl dX11_ticks_4 rfl ?_
  rintro z w1 ⟨rfl, hw1⟩
  subst w1
  refine g_ifne (t := 15) (q := 10) dX11_ticks_7 (by decide) rfl (fun hq7 => ?_) (fun hq7 => ?_)
  · have hq7 := gn_b1 hq7
    have hcd := hq7
    obtain ⟨k0, hk0, rfl⟩ := nI_of2 (n := 30) (M := 30) (by decide) (fun h => absurd (Int32.le_trans hq7.1 (Int32.le_of_lt h)) (by decide)) hq7.2
    have ek : iN (nI k0) = k0 := iN_n (by omega)
    refine g_aload_n (q := 16) dX11_ticks_15 rfl rfl ?_
    refine c_Vv (q := 19) (p_X11_leavesState hs hG) k_X11_133 (by assumption) rfl (by decide) rfl rfl (Nat.le_of_ble_eq_true rfl) rfl rfl dX11_ticks_16 rfl ?_
    rintro vq1 ⟨⟨hG1, n1⟩, E1⟩
    have hM1 := hG1.1
    have hM1s : MR (vq1 (m + 2)) A t sn := by rw [← esn]; exact hM1
    refine g_aload_n (q := 20) dX11_ticks_19 rfl rfl ?_
    refine c_Vi (q := 23) (p_X11_madeOfAll hs hM1s hI.2.1.2.1) k_X11_146 (by assumption) rfl (by decide) rfl rfl (Nat.le_of_ble_eq_true rfl) rfl rfl dX11_ticks_20 rfl ?_
    rintro z0 w1 ⟨hz0, hw1⟩
    subst w1
    subst z0
    refine g_istore_n (q := 24) dX11_ticks_23 rfl rfl rfl rfl ?_
    dsimp only [List.set]
    refine g_iconst (q := 25) (x := 0) dX11_ticks_24 (by decide) rfl ?_
    refine g_istore_n (q := 26) dX11_ticks_25 rfl rfl rfl rfl ?_
    dsimp only [List.set]
    refine ticksM_loop (X := X) (lim := lim) (v := vq1) (A := A) (n := n) (sn := sn) (k0 := k0) (t := t) hs (by omega) (fun z vv hz => ?_) k0 0 A vq1 (by rw [show t + nI 0 = t from Int32.add_zero t]; exact mc.rf hM1s) hI (by omega) rfl
    rw [sp_ticks, if_pos hcd, ek, sn_eq hI]
    refine ⟨⟨?_, hG1.now hz.2 (sn_eq (iv_tcks k0 A hI))⟩, E1.tr hz.2.fm⟩
    rw [hz.1, tcks_mdk k0 A hI, Int32.add_comm, Int32.add_sub_cancel]
  · have hq7 := gn_b0 hq7
    refine g_aload_n (q := 11) dX11_ticks_10 rfl rfl ?_
    refine c_Vi (q := 14) (p_X11_bad hs hG) k_X11_130 (by assumption) rfl (by decide) rfl rfl (Nat.le_of_ble_eq_true rfl) rfl rfl dX11_ticks_11 rfl ?_
    rintro z w1 ⟨hz1, hG1, E1⟩
    refine r_i dX11_ticks_14 rfl rfl rfl ?_
    rw [sp_ticks, if_neg (by intro h; first | exact hq7 h)]
    exact ⟨⟨hz1, hG1⟩, E1⟩
