theorem qa_m1 {A : aS} {n : Nat} (h : ivQ A n) (hn : n ≤ 6) : a_qa n 0 A (-1) = -1 := by
  rw [a_qa_none n 0 A (-1) h (by omega)]
  intro c _ hc hm
  obtain ⟨z, hz, e⟩ := (h.1 c (by omega)).1 _ hm
  exact gn_m1 (by omega) e.symm
theorem st_m1 {A : aS} {n : Nat} {w : Int32} (h : ivQ A n) (hn : n ≤ 6) : ∀ k, a_st n A w k (-1) = 0
  | 0 => rfl
  | k + 1 => by unfold a_st; rw [if_pos (qa_m1 h hn)]

set_option maxRecDepth 100000 in
set_option maxHeartbeats 4000000 in
theorem p_X11_isStuck {X : gj_X} {lim : Nat} {σ : gj_H} {v : gj_V} {m sn : Nat} {A : aS} {t : Int32} (hs : msh σ m) (hM : MR (v (m + 2)) A t sn) {w n : Nat} (hw6 : w < 6) (hQ : ivQ A n) (hn6 : n ≤ 6) : gj_E X 2 m_X11_isStuck [.ref m, .int (nI w)] lim σ v (q_i lim σ (fun z v' => z = a_st n A (nI w) 6 (nI w) ∧ v' = v)) := by
  obtain ⟨so, s1, s2, s3, s4, s5, s6, s7, s8, s9, s10, s11, s12⟩ := id hs
  have lp : ∀ (k r : Nat) (z : Int32), r + k = 6 → gj_G X 2 m_X11_isStuck (q_i lim σ (fun z' v' => z' = a_st n A (nI w) k z ∧ v' = v)) lim σ v 0 0 7 [some (.ref m), some (.int (nI w)), some (.int z), some (.int 0), some (.int (nI r)), none] [] := by
    intro k
    induction k with
    | zero =>
      intro r z hk
      refine g_iload (q := 9) dX11_isStuck_7 rfl rfl ?_
      refine g_bipush (q := 11) (x := 6) dX11_isStuck_9 (by decide) rfl ?_
      refine g_icmpge (t := 70) (q := 14) dX11_isStuck_11 (by decide) rfl (fun hq11 => ?_) (fun hq11 => ?_)
      · refine g_iload_n (q := 71) dX11_isStuck_70 rfl rfl ?_
        refine r_z dX11_isStuck_71 rfl rfl rfl (by decide) ?_
        exact ⟨rfl, rfl⟩
      · exact absurd (by rw [show r = 6 by omega]; exact Int32.le_refl _) hq11
    | succ k ih =>
      intro r z hk
      refine g_iload (q := 9) dX11_isStuck_7 rfl rfl ?_
      refine g_bipush (q := 11) (x := 6) dX11_isStuck_9 (by decide) rfl ?_
      refine g_icmpge (t := 70) (q := 14) dX11_isStuck_11 (by decide) rfl (fun hq11 => ?_) (fun hq11 => ?_)
      · exact absurd (gn_le (n := 6) hq11 (by omega)) (by omega)
      · refine g_iload_n (q := 15) dX11_isStuck_14 rfl rfl ?_
        refine g_ifne (t := 70) (q := 18) dX11_isStuck_15 (by decide) rfl (fun hq15 => ?_) (fun hq15 => ?_)
        · exact absurd rfl hq15
        · refine g_iload_n (q := 19) dX11_isStuck_18 rfl rfl ?_
          refine g_iconst (q := 20) (x := (-1)) dX11_isStuck_19 (by decide) rfl ?_
          refine g_icmpeq (t := 70) (q := 23) dX11_isStuck_20 (by decide) rfl (fun hq20 => ?_) (fun hq20 => ?_)
          · rw [hq20, st_m1 hQ hn6]
            refine g_iload_n (q := 71) dX11_isStuck_70 rfl rfl ?_
            refine r_z dX11_isStuck_71 rfl rfl rfl (by decide) ?_
            exact ⟨rfl, rfl⟩
          · refine g_aload_n (q := 24) dX11_isStuck_23 rfl rfl ?_
            refine g_iload_n (q := 25) dX11_isStuck_24 rfl rfl ?_
            refine c_Vi (q := 28) (p_X11_queueOf hs hM hQ hn6) k_X11_165 (by assumption) rfl (by decide) rfl rfl (Nat.le_of_ble_eq_true rfl) rfl rfl dX11_isStuck_25 rfl ?_
            rintro y w1 ⟨hy1, hw1⟩
            subst w1
            refine g_istore (q := 30) dX11_isStuck_28 rfl rfl rfl rfl ?_
            dsimp only [List.set]
            refine g_iload (q := 32) dX11_isStuck_30 rfl rfl ?_
            refine g_iconst (q := 33) (x := (-1)) dX11_isStuck_32 (by decide) rfl ?_
            refine g_icmpne (t := 40) (q := 36) dX11_isStuck_33 (by decide) rfl (fun hq33 => ?_) (fun hq33 => ?_)
            · rw [hy1] at hq33
              have hq := hq33
              obtain ⟨c, -, hc, ec⟩ := (a_qa_cases n 0 A z).resolve_left hq33
              have ec2 : iN (nI c) = c := iN_n (by omega)
              rw [hy1, ec]
              refine g_aload_n (q := 41) dX11_isStuck_40 rfl rfl ?_
              refine g_getR (q := 44) f_X11_13 (by assumption) rfl dX11_isStuck_41 rfl ?_
              refine g_iload (q := 46) dX11_isStuck_44 rfl rfl ?_
              refine c_Si (q := 49) (p_X11_atBuffer (b := c)) k_X11_54 (by decide) rfl rfl (Nat.le_of_ble_eq_true rfl) rfl rfl dX11_isStuck_46 rfl ?_
              rintro z0 w1 ⟨hz0, hw1⟩
              subst w1
              subst z0
              refine g_iconst (q := 50) (x := 5) dX11_isStuck_49 (by decide) rfl ?_
              refine g_iadd (q := 51) dX11_isStuck_50 rfl ?_
              refine g_iald (q := 52) (by assumption) (by first | (simp only [gn_lit, nI_add, pk_mul]; exact rfl) | exact rfl) (by omega) (by decide) dX11_isStuck_51 rfl ?_
              rw [(hM.2.1 c (by omega)).2.2.2.2.2.1]
              refine g_istore_n (q := 53) dX11_isStuck_52 rfl rfl rfl rfl ?_
              dsimp only [List.set]
              refine g_iload_n (q := 54) dX11_isStuck_53 rfl rfl ?_
              refine g_iload_n (q := 55) dX11_isStuck_54 rfl rfl ?_
              refine g_icmpne (t := 62) (q := 58) dX11_isStuck_55 (by decide) rfl (fun hq55 => ?_) (fun hq55 => ?_)
              · refine g_iconst (q := 63) (x := 0) dX11_isStuck_62 (by decide) rfl ?_
                refine g_istore_n (q := 64) dX11_isStuck_63 rfl rfl rfl rfl ?_
                dsimp only [List.set]
                refine g_iinc (q := 67) (y := nI (r + 1)) dX11_isStuck_64 rfl (gn_inc r) rfl rfl rfl rfl ?_
                dsimp only [List.set]
                refine g_goto (q := 7) dX11_isStuck_67 (by decide) ?_
                rw [a_st, if_neg hq, ec, ec2, if_neg hq55]
                refine g_wk (L' := [some (.ref m), some (.int (nI w)), some (.int (A.1 (10 + c) 7)), some (.int 0), some (.int (nI (r + 1))), none]) (by first | (simp [gj_wk]; done) | (simp [gj_wk]; rfl)) ?_
                exact ih (r + 1) _ (by omega)
              · refine g_iconst (q := 59) (x := 1) dX11_isStuck_58 (by decide) rfl ?_
                refine g_goto (q := 63) dX11_isStuck_59 (by decide) ?_
                refine g_istore_n (q := 64) dX11_isStuck_63 rfl rfl rfl rfl ?_
                dsimp only [List.set]
                refine g_iinc (q := 67) (y := nI (r + 1)) dX11_isStuck_64 rfl (gn_inc r) rfl rfl rfl rfl ?_
                dsimp only [List.set]
                refine g_goto (q := 7) dX11_isStuck_67 (by decide) ?_
                rw [a_st, if_neg hq, ec, ec2, if_pos hq55]
                refine g_iload (q := 9) dX11_isStuck_7 rfl rfl ?_
                refine g_bipush (q := 11) (x := 6) dX11_isStuck_9 (by decide) rfl ?_
                refine g_icmpge (t := 70) (q := 14) dX11_isStuck_11 (by decide) rfl (fun hq11 => ?_) (fun hq11 => ?_)
                · refine g_iload_n (q := 71) dX11_isStuck_70 rfl rfl ?_
                  refine r_z dX11_isStuck_71 rfl rfl rfl (by decide) ?_
                  exact ⟨rfl, rfl⟩
                · refine g_iload_n (q := 15) dX11_isStuck_14 rfl rfl ?_
                  refine g_ifne (t := 70) (q := 18) dX11_isStuck_15 (by decide) rfl (fun hq15 => ?_) (fun hq15 => ?_)
                  · refine g_iload_n (q := 71) dX11_isStuck_70 rfl rfl ?_
                    refine r_z dX11_isStuck_71 rfl rfl rfl (by decide) ?_
                    exact ⟨rfl, rfl⟩
                  · exact absurd hq15 (by decide)
            · rw [hy1] at hq33
              have hq := hq33
              refine g_iconst (q := 37) (x := (-1)) dX11_isStuck_36 (by decide) rfl ?_
              refine g_goto (q := 52) dX11_isStuck_37 (by decide) ?_
              refine g_istore_n (q := 53) dX11_isStuck_52 rfl rfl rfl rfl ?_
              dsimp only [List.set]
              refine g_iload_n (q := 54) dX11_isStuck_53 rfl rfl ?_
              refine g_iload_n (q := 55) dX11_isStuck_54 rfl rfl ?_
              refine g_icmpne (t := 62) (q := 58) dX11_isStuck_55 (by decide) rfl (fun hq55 => ?_) (fun hq55 => ?_)
              · refine g_iconst (q := 63) (x := 0) dX11_isStuck_62 (by decide) rfl ?_
                refine g_istore_n (q := 64) dX11_isStuck_63 rfl rfl rfl rfl ?_
                dsimp only [List.set]
                refine g_iinc (q := 67) (y := nI (r + 1)) dX11_isStuck_64 rfl (gn_inc r) rfl rfl rfl rfl ?_
                dsimp only [List.set]
                refine g_goto (q := 7) dX11_isStuck_67 (by decide) ?_
                rw [a_st, if_pos hq]
                refine g_wk (L' := [some (.ref m), some (.int (nI w)), some (.int (-1)), some (.int 0), some (.int (nI (r + 1))), none]) (by first | (simp [gj_wk]; done) | (simp [gj_wk]; rfl)) ?_
                have hh := ih (r + 1) (-1) (by omega)
                rw [st_m1 hQ hn6] at hh
                exact hh
              · exact absurd hq55.symm (gn_m1 (by omega))
  refine gj_E_at (L := [some (.ref m), some (.int (nI w)), none, none, none, none]) (k := 4) rfl (by decide) rfl ?_
  refine g_iload_n (q := 1) dX11_isStuck_0 rfl rfl ?_
  refine g_istore_n (q := 2) dX11_isStuck_1 rfl rfl rfl rfl ?_
  dsimp only [List.set]
  refine g_iconst (q := 3) (x := 0) dX11_isStuck_2 (by decide) rfl ?_
  refine g_istore_n (q := 4) dX11_isStuck_3 rfl rfl rfl rfl ?_
  dsimp only [List.set]
  refine g_iconst (q := 5) (x := 0) dX11_isStuck_4 (by decide) rfl ?_
  refine g_istore (q := 7) dX11_isStuck_5 rfl rfl rfl rfl ?_
  dsimp only [List.set]
  exact lp 6 0 (nI w) (by omega)

set_option maxRecDepth 100000 in
set_option maxHeartbeats 4000000 in
theorem p_X11_stuck0 {X : gj_X} {lim : Nat} {σ : gj_H} {v : gj_V} {m sn : Nat} {A : aS} {t : Int32} (hs : msh σ m) (hM : MR (v (m + 2)) A t sn) {n : Nat} (hQ : ivQ A n) (hn6 : n ≤ 6) : gj_E X 3 m_X11_stuck [.ref m] lim σ v (q_i lim σ (fun z v' => z = a_bits n A 6 0 0 ∧ v' = v)) := by
  obtain ⟨so, s1, s2, s3, s4, s5, s6, s7, s8, s9, s10, s11, s12⟩ := id hs
  have lp : ∀ (k i : Nat) (a : Int32), i + k = 6 → gj_G X 3 m_X11_stuck (q_i lim σ (fun z v' => z = a_bits n A k i a ∧ v' = v)) lim σ v 0 0 4 [some (.ref m), some (.int a), some (.int (nI i))] [] := by
    intro k
    induction k with
    | zero =>
      intro i a hk
      refine g_iload_n (q := 5) dX11_stuck_4 rfl rfl ?_
      refine g_bipush (q := 7) (x := 6) dX11_stuck_5 (by decide) rfl ?_
      refine g_icmpge (t := 34) (q := 10) dX11_stuck_7 (by decide) rfl (fun hq7 => ?_) (fun hq7 => ?_)
      · refine g_iload_n (q := 35) dX11_stuck_34 rfl rfl ?_
        refine r_i dX11_stuck_35 rfl rfl rfl ?_
        exact ⟨rfl, rfl⟩
      · exact absurd (by rw [show i = 6 by omega]; exact Int32.le_refl _) hq7
    | succ k ih =>
      intro i a hk
      refine g_iload_n (q := 5) dX11_stuck_4 rfl rfl ?_
      refine g_bipush (q := 7) (x := 6) dX11_stuck_5 (by decide) rfl ?_
      refine g_icmpge (t := 34) (q := 10) dX11_stuck_7 (by decide) rfl (fun hq7 => ?_) (fun hq7 => ?_)
      · exact absurd (gn_le (n := 6) hq7 (by omega)) (by omega)
      · refine g_iload_n (q := 11) dX11_stuck_10 rfl rfl ?_
        refine g_aload_n (q := 12) dX11_stuck_11 rfl rfl ?_
        refine g_iload_n (q := 13) dX11_stuck_12 rfl rfl ?_
        refine c_Vi (q := 16) (p_X11_isStuck hs hM (w := i) (by omega) hQ hn6) k_X11_171 (by assumption) rfl (by decide) rfl rfl (Nat.le_of_ble_eq_true rfl) rfl rfl dX11_stuck_13 rfl ?_
        rintro y w1 ⟨hy1, hw1⟩
        subst w1
        refine g_ifeq (t := 25) (q := 19) dX11_stuck_16 (by decide) rfl (fun hq16 => ?_) (fun hq16 => ?_)
        · rw [hy1] at hq16
          refine g_iconst (q := 26) (x := 0) dX11_stuck_25 (by decide) rfl ?_
          refine g_ior (q := 27) dX11_stuck_26 rfl ?_
          rw [Int32.or_zero]
          refine g_istore_n (q := 28) dX11_stuck_27 rfl rfl rfl rfl ?_
          dsimp only [List.set]
          refine g_iinc (q := 31) (y := nI (i + 1)) dX11_stuck_28 rfl (gn_inc i) rfl rfl rfl rfl ?_
          dsimp only [List.set]
          refine g_goto (q := 4) dX11_stuck_31 (by decide) ?_
          rw [a_bits]
          rw [if_pos hq16]
          exact ih (i + 1) _ (by omega)
        · rw [hy1] at hq16
          refine g_iconst (q := 20) (x := 1) dX11_stuck_19 (by decide) rfl ?_
          refine g_iload_n (q := 21) dX11_stuck_20 rfl rfl ?_
          refine g_ishl (q := 22) dX11_stuck_21 rfl ?_
          refine g_goto (q := 26) dX11_stuck_22 (by decide) ?_
          refine g_ior (q := 27) dX11_stuck_26 rfl ?_
          refine g_istore_n (q := 28) dX11_stuck_27 rfl rfl rfl rfl ?_
          dsimp only [List.set]
          refine g_iinc (q := 31) (y := nI (i + 1)) dX11_stuck_28 rfl (gn_inc i) rfl rfl rfl rfl ?_
          dsimp only [List.set]
          refine g_goto (q := 4) dX11_stuck_31 (by decide) ?_
          rw [a_bits]
          rw [if_neg hq16]
          exact ih (i + 1) _ (by omega)
  refine gj_E_at (L := [some (.ref m), none, none]) (k := 2) rfl (by decide) rfl ?_
  refine g_iconst (q := 1) (x := 0) dX11_stuck_0 (by decide) rfl ?_
  refine g_istore_n (q := 2) dX11_stuck_1 rfl rfl rfl rfl ?_
  dsimp only [List.set]
  refine g_iconst (q := 3) (x := 0) dX11_stuck_2 (by decide) rfl ?_
  refine g_istore_n (q := 4) dX11_stuck_3 rfl rfl rfl rfl ?_
  dsimp only [List.set]
  exact lp 6 0 0 (by omega)

set_option maxRecDepth 100000 in
set_option maxHeartbeats 4000000 in
theorem p_X11_stuck {X : gj_X} {lim : Nat} {σ : gj_H} {v : gj_V} {m : Nat} {A : aS} {t : Int32} {l : List (aS × Int32)} {tx : List Int32} {c : Nat → Int32} {n sn : Nat} (hs : msh σ m) (hG : MG v m A t l tx c) (hI : IV A n sn) : gj_E X 3 m_X11_stuck [.ref m] lim σ v (q_i lim σ (fun z v' => sp_rd A t l tx c True (a_bits (nn A) A 6 0 0) z (MG v' m) ∧ fm v v' m)) := by
  have hn6 := hI.2.1.2.2.2.1
  refine gj_E.mono (p_X11_stuck0 hs hG.1 hI.2.2.2 hn6) (fun r l' s' v' hq => ?_)
  obtain ⟨eq1, eq2, z, eq3, eq4, rfl⟩ := hq
  exact ⟨eq1, eq2, z, eq3, ⟨fun _ => ⟨by rw [eq4, nn_eq hI], hG⟩, fun h => absurd trivial h⟩, fm.rf _ _⟩

