/-! ===== the reference: begun anew, given back ===== -/
theorem MR_agr {N : Nat → Int32} {C A : aS} {t : Int32} {sn : Nat} (h : MR N C t sn) (g : agr C A) : MR N A t sn := by
  obtain ⟨⟨m0, m1, m2, m3, m4, m5, m6⟩, h2, h3, h4, h5, h6, h7⟩ := h
  obtain ⟨g1, g2, g3, g4, g5, g6, g7, g8⟩ := g
  refine ⟨⟨by rw [g5]; exact m0, by rw [g6]; exact m1, m2, by rw [g7]; exact m3, by rw [g8]; exact m4, by rw [g8]; exact m5, by rw [g8]; exact m6⟩, fun b hb => ?_, fun z hz k hk => ?_, fun s hs => ?_, h5, fun w hw => ?_, h7⟩
  · obtain ⟨-, k2, k3, k4⟩ := g1 b hb
    obtain ⟨a0, a1, a2, a3, a4, a5, a6, a7, a8, a9, a10, a11⟩ := h2 b hb
    unfold mb
    rw [k3, k4, k2 3 (by omega) (by omega), k2 4 (by omega) (by omega), k2 5 (by omega) (by omega), k2 6 (by omega) (by omega), k2 7 (by omega) (by omega), k2 8 (by omega) (by omega)]
    exact ⟨a0, a1, a2, a3, a4, a5, a6, a7, a8, a9, a10, a11⟩
  · by_cases e : z < 6
    · rw [(g1 z e).1 k hk]; exact h3 z hz k hk
    · have e6 : z = 6 := by omega
      subst e6; rw [g4 k hk]; exact h3 6 hz k hk
  · have k := g2 s (by omega)
    obtain ⟨a, b, c, d⟩ := h4 s hs
    exact ⟨fun j hj => by rw [k j (by omega)]; exact a j hj, fun q => by rw [k 6 (by omega)] at q; rw [k 7 (by omega)]; exact b q, fun q => by rw [k 6 (by omega)] at q; rw [k 8 (by omega)]; exact c q, fun j j1 j2 => by rw [k j (by omega)]; exact d j j1 j2⟩
  · have k := g3 w hw
    obtain ⟨a, b, c, d, e⟩ := h6 w hw
    exact ⟨by rw [k 1 (by omega)]; exact a, by rw [k 0 (by omega)]; exact b, by rw [k 1 (by omega)]; exact c, by rw [k 2 (by omega)]; exact d, by rw [k 3 (by omega)]; exact e⟩
def sp_beginsM (A : aS) (t : Int32) (l : List (aS × Int32)) (tx : List Int32) (c : Nat → Int32) (k z : Int32) (G : gP) : Prop :=
  if in_ k 1 6 then z = A.1 40 5 ∧ ∀ A', nwr k A' → G A' 0 (h_push l (A, t)) tx c else z = -2 ∧ G A t l tx (upd c 5 (c 5 + 1))
def sp_backM (A : aS) (t : Int32) (l : List (aS × Int32)) (tx : List Int32) (c : Nat → Int32) (z : Int32) (G : gP) : Prop :=
  (l = [] → z = -3 ∧ G A t l tx (upd c 6 (c 6 + 1))) ∧ ∀ l0 q, l = l0 ++ [q] → z = nI l0.length ∧ ∀ A', agr q.1 A' → G A' q.2 l0 tx c
def lay0 (N : Nat → Int32) (i : Nat) : Nat → Int32 := fun j => if j < i then 0 else N j
theorem lay0_s (N : Nat → Int32) (i : Nat) : upd (lay0 N i) i 0 = lay0 N (i + 1) := by
  funext j
  unfold upd lay0
  by_cases e : j = i
  · subst e; rw [if_pos rfl, if_pos (by omega)]
  · rw [if_neg e]
    by_cases h : j < i
    · rw [if_pos h, if_pos (by omega)]
    · rw [if_neg h, if_neg (by omega)]
def lay1 (N : Nat → Int32) (b : Nat) : Nat → Int32 := fun j => if 10 ≤ j ∧ (j - 10) / 24 < b ∧ (j - 10) % 24 = 1 then 2 else if 10 ≤ j ∧ (j - 10) / 24 < b ∧ (j - 10) % 24 = 5 then -1 else N j
theorem lay1_0 (N : Nat → Int32) : lay1 N 0 = N := by funext j; unfold lay1; rw [if_neg (by omega), if_neg (by omega)]
theorem lay1_s (N : Nat → Int32) (b : Nat) : upd (upd (lay1 N b) (10 + 24 * b + 1) 2) (10 + 24 * b + 5) (-1) = lay1 N (b + 1) := by
  funext j
  unfold upd lay1
  by_cases e5 : j = 10 + 24 * b + 5
  · rw [if_pos e5, if_neg (by omega), if_pos (by omega)]
  · rw [if_neg e5]
    by_cases e1 : j = 10 + 24 * b + 1
    · rw [if_pos e1, if_pos (by omega)]
    · rw [if_neg e1]
      by_cases h1 : 10 ≤ j ∧ (j - 10) / 24 < b ∧ (j - 10) % 24 = 1
      · rw [if_pos h1, if_pos (by omega)]
      · have h1' : ¬ (10 ≤ j ∧ (j - 10) / 24 < b + 1 ∧ (j - 10) % 24 = 1) := by omega
        rw [if_neg h1, if_neg h1']
        by_cases h2 : 10 ≤ j ∧ (j - 10) / 24 < b ∧ (j - 10) % 24 = 5
        · rw [if_pos h2, if_pos (by omega)]
        · have h2' : ¬ (10 ≤ j ∧ (j - 10) / 24 < b + 1 ∧ (j - 10) % 24 = 5) := by omega
          rw [if_neg h2, if_neg h2']
def lay2 (N : Nat → Int32) (w : Nat) : Nat → Int32 := fun j => if 270 ≤ j ∧ (j - 270) / 5 < w ∧ 1 ≤ (j - 270) % 5 then -1 else N j
theorem lay2_0 (N : Nat → Int32) : lay2 N 0 = N := by funext j; unfold lay2; rw [if_neg (by omega)]
theorem lay2_s (N : Nat → Int32) (w : Nat) : upd (upd (upd (upd (lay2 N w) (270 + 5 * w + 1) (-1)) (270 + 5 * w + 2) (-1)) (270 + 5 * w + 3) (-1)) (270 + 5 * w + 4) (-1) = lay2 N (w + 1) := by
  funext j
  unfold upd lay2
  by_cases h : 270 ≤ j ∧ (j - 270) / 5 = w ∧ 1 ≤ (j - 270) % 5
  · rw [show (if 270 ≤ j ∧ (j - 270) / 5 < w + 1 ∧ 1 ≤ (j - 270) % 5 then (-1 : Int32) else N j) = -1 from if_pos (by omega)]
    by_cases e4 : j = 270 + 5 * w + 4
    · rw [if_pos e4]
    · rw [if_neg e4]
      by_cases e3 : j = 270 + 5 * w + 3
      · rw [if_pos e3]
      · rw [if_neg e3]
        by_cases e2 : j = 270 + 5 * w + 2
        · rw [if_pos e2]
        · rw [if_neg e2, if_pos (by omega)]
  · rw [if_neg (by omega), if_neg (by omega), if_neg (by omega), if_neg (by omega)]
    by_cases h1 : 270 ≤ j ∧ (j - 270) / 5 < w ∧ 1 ≤ (j - 270) % 5
    · rw [if_pos h1, if_pos (by omega)]
    · rw [if_neg h1, if_neg (by omega)]
def layN (N : Nat → Int32) (n : Int32) : Nat → Int32 := lay2 (lay1 (upd (lay0 N 320) 0 n) 6) 6
theorem layN_z {N : Nat → Int32} {n : Int32} {j : Nat} (h0 : j ≠ 0) (h1 : ¬ (10 ≤ j ∧ (j - 10) / 24 < 6 ∧ ((j - 10) % 24 = 1 ∨ (j - 10) % 24 = 5))) (h2 : ¬ (270 ≤ j ∧ (j - 270) / 5 < 6 ∧ 1 ≤ (j - 270) % 5)) (h : j < 320) : layN N n j = 0 := by
  unfold layN lay2 lay1
  rw [if_neg h2, if_neg (by omega), if_neg (by omega), ud_n _ _ h0]
  exact if_pos h
theorem MR_lay {N : Nat → Int32} {n : Int32} {A : aS} (h : nwr n A) : MR (layN N n) A 0 0 := by
  obtain ⟨g1, g2, g3, g4, g5, g6, g7⟩ := h
  have z0 : (0 : Int32) = nI 0 := rfl
  refine ⟨⟨?_, ?_, ?_, ?_, ?_, ?_, ?_⟩, fun b hb => ?_, fun z hz k hk => ?_, fun s hs => absurd hs (by omega), fun s q1 q2 k hk => layN_z (by omega) (by omega) (by omega) (by omega), fun w hw => ?_, by omega⟩
  · unfold layN lay2 lay1
    rw [if_neg (by omega), if_neg (by omega), if_neg (by omega), ud_s, g4]
  · rw [layN_z (by omega) (by omega) (by omega) (by omega), g5]
  · rw [layN_z (by omega) (by omega) (by omega) (by omega)]
  · rw [layN_z (by omega) (by omega) (by omega) (by omega), g6]
  · rw [layN_z (by omega) (by omega) (by omega) (by omega), g7]; rfl
  · rw [g7]; intro i hi; exact absurd hi (by simp)
  · rw [g7]; simp
  · obtain ⟨-, ⟨k3, k4, k5, k6, k7, k8⟩, e1, e2⟩ := g1 b hb
    unfold mb
    rw [e1, e2, k3, k4, k5, k6, k7, k8]
    refine ⟨?_, ?_, ?_, ?_, ?_, ?_, ?_, ?_, fun i hi => absurd hi (by simp), fun i hi => absurd hi (by simp), by simp, by simp⟩
    · rw [layN_z (by omega) (by omega) (by omega) (by omega)]; rfl
    · unfold layN lay2 lay1; rw [if_neg (by omega), if_pos (by omega)]
    · exact layN_z (by omega) (by omega) (by omega) (by omega)
    · exact layN_z (by omega) (by omega) (by omega) (by omega)
    · exact layN_z (by omega) (by omega) (by omega) (by omega)
    · unfold layN lay2 lay1; rw [if_neg (by omega), if_neg (by omega), if_pos (by omega)]
    · exact layN_z (by omega) (by omega) (by omega) (by omega)
    · rw [layN_z (by omega) (by omega) (by omega) (by omega)]; rfl
  · rw [layN_z (by omega) (by omega) (by omega) (by omega)]
    by_cases e : z < 6
    · rw [(g1 z e).1 k hk]
    · have e6 : z = 6 := by omega
      subst e6; rw [g3 k hk]
  · obtain ⟨w0, w1, w2, w3⟩ := g2 w hw
    unfold mw
    rw [w0, w1, w2, w3, if_pos rfl]
    refine ⟨layN_z (by omega) (by omega) (by omega) (by omega), ?_, ?_, ?_, ?_⟩ <;> (unfold layN lay2; rw [if_pos (by omega)])

set_option maxRecDepth 100000 in
set_option maxHeartbeats 4000000 in
theorem p_X11_lays {X : gj_X} {lim : Nat} {σ : gj_H} {v : gj_V} {m : Nat} {n : Int32} (hs : msh σ m) : gj_E X 1 m_X11_lays [.ref m, .int n] lim σ v (q_v lim σ (fun v' => v' = gj_up v (m + 2) (layN (v (m + 2)) n))) := by
  obtain ⟨so, s1, s2, s3, s4, s5, s6, s7, s8, s9, s10, s11, s12⟩ := id hs
  have l3 : ∀ (k i : Nat) (w : gj_V), w = gj_up v (m + 2) (lay2 (lay1 (upd (lay0 (v (m + 2)) 320) 0 n) 6) i) → i + k = 6 → gj_G X 1 m_X11_lays (q_v lim σ (fun v' => v' = gj_up v (m + 2) (layN (v (m + 2)) n))) lim σ w 0 0 69 [some (.ref m), some (.int n), some (.int (nI i))] [] := by
    intro k
    induction k with
    | zero =>
      intro i w hw hk
      have ei : i = 6 := by omega
      subst i
      have nw := congrFun hw (m + 2)
      rw [gu_s] at nw
      refine g_iload_n (q := 70) dX11_lays_69 rfl rfl ?_
      refine g_bipush (q := 72) (x := 6) dX11_lays_70 (by decide) rfl ?_
      refine g_icmpge (t := 129) (q := 75) dX11_lays_72 (by decide) rfl (fun hq72 => ?_) (fun hq72 => ?_)
      · refine r_v dX11_lays_129 rfl rfl rfl ?_
        exact hw
      · exact absurd (Int32.le_refl _) hq72
    | succ k ih =>
      intro i w hw hk
      have nw := congrFun hw (m + 2)
      rw [gu_s] at nw
      refine g_iload_n (q := 70) dX11_lays_69 rfl rfl ?_
      refine g_bipush (q := 72) (x := 6) dX11_lays_70 (by decide) rfl ?_
      refine g_icmpge (t := 129) (q := 75) dX11_lays_72 (by decide) rfl (fun hq72 => ?_) (fun hq72 => ?_)
      · exact absurd (gn_le (n := 6) hq72 (by omega)) (by omega)
      · refine g_aload_n (q := 76) dX11_lays_75 rfl rfl ?_
        refine g_getR (q := 79) f_X11_13 (by assumption) rfl dX11_lays_76 rfl ?_
        refine g_iload_n (q := 80) dX11_lays_79 rfl rfl ?_
        refine c_Si (q := 83) (p_X11_workerAt (b := i)) k_X11_58 (by decide) rfl rfl (Nat.le_of_ble_eq_true rfl) rfl rfl dX11_lays_80 rfl ?_
        rintro z0 w1 ⟨hz0, hw1⟩
        subst w1
        subst z0
        refine g_iconst (q := 84) (x := 1) dX11_lays_83 (by decide) rfl ?_
        refine g_iadd (q := 85) dX11_lays_84 rfl ?_
        refine g_iconst (q := 86) (x := (-1)) dX11_lays_85 (by decide) rfl ?_
        refine g_iast (q := 87) (by assumption) (by first | (simp only [gn_lit, nI_add, pk_mul]; exact rfl) | exact rfl) (by omega) (by decide) dX11_lays_86 rfl ?_
        refine g_gen (fun vq1 hvq1 => ?_)
        rw [gu_2, nw, hw, gu_u] at hvq1
        have n1 := congrFun hvq1 (m + 2)
        rw [gu_s] at n1
        refine g_aload_n (q := 88) dX11_lays_87 rfl rfl ?_
        refine g_getR (q := 91) f_X11_13 (by assumption) rfl dX11_lays_88 rfl ?_
        refine g_iload_n (q := 92) dX11_lays_91 rfl rfl ?_
        refine c_Si (q := 95) (p_X11_workerAt (b := i)) k_X11_58 (by decide) rfl rfl (Nat.le_of_ble_eq_true rfl) rfl rfl dX11_lays_92 rfl ?_
        rintro z0 w1 ⟨hz0, hw1⟩
        subst w1
        subst z0
        refine g_iconst (q := 96) (x := 2) dX11_lays_95 (by decide) rfl ?_
        refine g_iadd (q := 97) dX11_lays_96 rfl ?_
        refine g_iconst (q := 98) (x := (-1)) dX11_lays_97 (by decide) rfl ?_
        refine g_iast (q := 99) (by assumption) (by first | (simp only [gn_lit, nI_add, pk_mul]; exact rfl) | exact rfl) (by omega) (by decide) dX11_lays_98 rfl ?_
        refine g_gen (fun vq2 hvq2 => ?_)
        rw [gu_2, n1, hvq1, gu_u] at hvq2
        have n2 := congrFun hvq2 (m + 2)
        rw [gu_s] at n2
        refine g_aload_n (q := 100) dX11_lays_99 rfl rfl ?_
        refine g_getR (q := 103) f_X11_13 (by assumption) rfl dX11_lays_100 rfl ?_
        refine g_iload_n (q := 104) dX11_lays_103 rfl rfl ?_
        refine c_Si (q := 107) (p_X11_workerAt (b := i)) k_X11_58 (by decide) rfl rfl (Nat.le_of_ble_eq_true rfl) rfl rfl dX11_lays_104 rfl ?_
        rintro z0 w1 ⟨hz0, hw1⟩
        subst w1
        subst z0
        refine g_iconst (q := 108) (x := 3) dX11_lays_107 (by decide) rfl ?_
        refine g_iadd (q := 109) dX11_lays_108 rfl ?_
        refine g_iconst (q := 110) (x := (-1)) dX11_lays_109 (by decide) rfl ?_
        refine g_iast (q := 111) (by assumption) (by first | (simp only [gn_lit, nI_add, pk_mul]; exact rfl) | exact rfl) (by omega) (by decide) dX11_lays_110 rfl ?_
        refine g_gen (fun vq3 hvq3 => ?_)
        rw [gu_2, n2, hvq2, gu_u] at hvq3
        have n3 := congrFun hvq3 (m + 2)
        rw [gu_s] at n3
        refine g_aload_n (q := 112) dX11_lays_111 rfl rfl ?_
        refine g_getR (q := 115) f_X11_13 (by assumption) rfl dX11_lays_112 rfl ?_
        refine g_iload_n (q := 116) dX11_lays_115 rfl rfl ?_
        refine c_Si (q := 119) (p_X11_workerAt (b := i)) k_X11_58 (by decide) rfl rfl (Nat.le_of_ble_eq_true rfl) rfl rfl dX11_lays_116 rfl ?_
        rintro z0 w1 ⟨hz0, hw1⟩
        subst w1
        subst z0
        refine g_iconst (q := 120) (x := 4) dX11_lays_119 (by decide) rfl ?_
        refine g_iadd (q := 121) dX11_lays_120 rfl ?_
        refine g_iconst (q := 122) (x := (-1)) dX11_lays_121 (by decide) rfl ?_
        refine g_iast (q := 123) (by assumption) (by first | (simp only [gn_lit, nI_add, pk_mul]; exact rfl) | exact rfl) (by omega) (by decide) dX11_lays_122 rfl ?_
        refine g_gen (fun vq4 hvq4 => ?_)
        rw [gu_2, n3, hvq3, gu_u] at hvq4
        have n4 := congrFun hvq4 (m + 2)
        rw [gu_s] at n4
        rw [lay2_s] at hvq4
        refine g_iinc (q := 126) (y := nI (i + 1)) dX11_lays_123 rfl (gn_inc i) rfl rfl rfl rfl ?_
        dsimp only [List.set]
        refine g_goto (q := 69) dX11_lays_126 (by decide) ?_
        exact ih (i + 1) vq4 hvq4 (by omega)
  have l2 : ∀ (k i : Nat) (w : gj_V), w = gj_up v (m + 2) (lay1 (upd (lay0 (v (m + 2)) 320) 0 n) i) → i + k = 6 → gj_G X 1 m_X11_lays (q_v lim σ (fun v' => v' = gj_up v (m + 2) (layN (v (m + 2)) n))) lim σ w 0 0 31 [some (.ref m), some (.int n), some (.int (nI i))] [] := by
    intro k
    induction k with
    | zero =>
      intro i w hw hk
      have ei : i = 6 := by omega
      subst i
      have nw := congrFun hw (m + 2)
      rw [gu_s] at nw
      refine g_iload_n (q := 32) dX11_lays_31 rfl rfl ?_
      refine g_bipush (q := 34) (x := 6) dX11_lays_32 (by decide) rfl ?_
      refine g_icmpge (t := 67) (q := 37) dX11_lays_34 (by decide) rfl (fun hq34 => ?_) (fun hq34 => ?_)
      · refine g_iconst (q := 68) (x := 0) dX11_lays_67 (by decide) rfl ?_
        refine g_istore_n (q := 69) dX11_lays_68 rfl rfl rfl rfl ?_
        dsimp only [List.set]
        exact l3 6 0 w (by rw [lay2_0]; exact hw) (by omega)
      · exact absurd (Int32.le_refl _) hq34
    | succ k ih =>
      intro i w hw hk
      have nw := congrFun hw (m + 2)
      rw [gu_s] at nw
      refine g_iload_n (q := 32) dX11_lays_31 rfl rfl ?_
      refine g_bipush (q := 34) (x := 6) dX11_lays_32 (by decide) rfl ?_
      refine g_icmpge (t := 67) (q := 37) dX11_lays_34 (by decide) rfl (fun hq34 => ?_) (fun hq34 => ?_)
      · exact absurd (gn_le (n := 6) hq34 (by omega)) (by omega)
      · refine g_aload_n (q := 38) dX11_lays_37 rfl rfl ?_
        refine g_getR (q := 41) f_X11_13 (by assumption) rfl dX11_lays_38 rfl ?_
        refine g_iload_n (q := 42) dX11_lays_41 rfl rfl ?_
        refine c_Si (q := 45) (p_X11_atBuffer (b := i)) k_X11_54 (by decide) rfl rfl (Nat.le_of_ble_eq_true rfl) rfl rfl dX11_lays_42 rfl ?_
        rintro z0 w1 ⟨hz0, hw1⟩
        subst w1
        subst z0
        refine g_iconst (q := 46) (x := 1) dX11_lays_45 (by decide) rfl ?_
        refine g_iadd (q := 47) dX11_lays_46 rfl ?_
        refine g_iconst (q := 48) (x := 2) dX11_lays_47 (by decide) rfl ?_
        refine g_iast (q := 49) (by assumption) (by first | (simp only [gn_lit, nI_add, pk_mul]; exact rfl) | exact rfl) (by omega) (by decide) dX11_lays_48 rfl ?_
        refine g_gen (fun vq1 hvq1 => ?_)
        rw [gu_2, nw, hw, gu_u] at hvq1
        have n1 := congrFun hvq1 (m + 2)
        rw [gu_s] at n1
        refine g_aload_n (q := 50) dX11_lays_49 rfl rfl ?_
        refine g_getR (q := 53) f_X11_13 (by assumption) rfl dX11_lays_50 rfl ?_
        refine g_iload_n (q := 54) dX11_lays_53 rfl rfl ?_
        refine c_Si (q := 57) (p_X11_atBuffer (b := i)) k_X11_54 (by decide) rfl rfl (Nat.le_of_ble_eq_true rfl) rfl rfl dX11_lays_54 rfl ?_
        rintro z0 w1 ⟨hz0, hw1⟩
        subst w1
        subst z0
        refine g_iconst (q := 58) (x := 5) dX11_lays_57 (by decide) rfl ?_
        refine g_iadd (q := 59) dX11_lays_58 rfl ?_
        refine g_iconst (q := 60) (x := (-1)) dX11_lays_59 (by decide) rfl ?_
        refine g_iast (q := 61) (by assumption) (by first | (simp only [gn_lit, nI_add, pk_mul]; exact rfl) | exact rfl) (by omega) (by decide) dX11_lays_60 rfl ?_
        refine g_gen (fun vq2 hvq2 => ?_)
        rw [gu_2, n1, hvq1, gu_u] at hvq2
        have n2 := congrFun hvq2 (m + 2)
        rw [gu_s] at n2
        rw [lay1_s] at hvq2
        refine g_iinc (q := 64) (y := nI (i + 1)) dX11_lays_61 rfl (gn_inc i) rfl rfl rfl rfl ?_
        dsimp only [List.set]
        refine g_goto (q := 31) dX11_lays_64 (by decide) ?_
        exact ih (i + 1) vq2 hvq2 (by omega)
  have l1 : ∀ (k i : Nat) (w : gj_V), w = gj_up v (m + 2) (lay0 (v (m + 2)) i) → i + k = 320 → gj_G X 1 m_X11_lays (q_v lim σ (fun v' => v' = gj_up v (m + 2) (layN (v (m + 2)) n))) lim σ w 0 0 2 [some (.ref m), some (.int n), some (.int (nI i))] [] := by
    intro k
    induction k with
    | zero =>
      intro i w hw hk
      have ei : i = 320 := by omega
      subst i
      have nw := congrFun hw (m + 2)
      rw [gu_s] at nw
      refine g_iload_n (q := 3) dX11_lays_2 rfl rfl ?_
      refine g_sipush (q := 6) (x := 320) dX11_lays_3 (by decide) rfl ?_
      refine g_icmpge (t := 22) (q := 9) dX11_lays_6 (by decide) rfl (fun hq6 => ?_) (fun hq6 => ?_)
      · refine g_aload_n (q := 23) dX11_lays_22 rfl rfl ?_
        refine g_getR (q := 26) f_X11_13 (by assumption) rfl dX11_lays_23 rfl ?_
        refine g_iconst (q := 27) (x := 0) dX11_lays_26 (by decide) rfl ?_
        refine g_iload_n (q := 28) dX11_lays_27 rfl rfl ?_
        refine g_iast (q := 29) (by assumption) (show (0 : Int32) = nI 0 from rfl) (by omega) (by decide) dX11_lays_28 rfl ?_
        refine g_gen (fun vq1 hvq1 => ?_)
        rw [gu_2, nw, hw, gu_u] at hvq1
        have n1 := congrFun hvq1 (m + 2)
        rw [gu_s] at n1
        refine g_iconst (q := 30) (x := 0) dX11_lays_29 (by decide) rfl ?_
        refine g_istore_n (q := 31) dX11_lays_30 rfl rfl rfl rfl ?_
        dsimp only [List.set]
        exact l2 6 0 vq1 (by rw [lay1_0]; exact hvq1) (by omega)
      · exact absurd (Int32.le_refl _) hq6
    | succ k ih =>
      intro i w hw hk
      have nw := congrFun hw (m + 2)
      rw [gu_s] at nw
      refine g_iload_n (q := 3) dX11_lays_2 rfl rfl ?_
      refine g_sipush (q := 6) (x := 320) dX11_lays_3 (by decide) rfl ?_
      refine g_icmpge (t := 22) (q := 9) dX11_lays_6 (by decide) rfl (fun hq6 => ?_) (fun hq6 => ?_)
      · exact absurd (gn_le (n := 320) hq6 (by omega)) (by omega)
      · refine g_aload_n (q := 10) dX11_lays_9 rfl rfl ?_
        refine g_getR (q := 13) f_X11_13 (by assumption) rfl dX11_lays_10 rfl ?_
        refine g_iload_n (q := 14) dX11_lays_13 rfl rfl ?_
        refine g_iconst (q := 15) (x := 0) dX11_lays_14 (by decide) rfl ?_
        refine g_iast (q := 16) (by assumption) rfl (by omega) (by decide) dX11_lays_15 rfl ?_
        refine g_gen (fun vq1 hvq1 => ?_)
        rw [gu_2, nw, hw, gu_u, lay0_s] at hvq1
        have n1 := congrFun hvq1 (m + 2)
        rw [gu_s] at n1
        refine g_iinc (q := 19) (y := nI (i + 1)) dX11_lays_16 rfl (gn_inc i) rfl rfl rfl rfl ?_
        dsimp only [List.set]
        refine g_goto (q := 2) dX11_lays_19 (by decide) ?_
        exact ih (i + 1) vq1 hvq1 (by omega)
  refine gj_E_at (L := [some (.ref m), some (.int n), none]) (k := 1) rfl (by decide) rfl ?_
  refine g_iconst (q := 1) (x := 0) dX11_lays_0 (by decide) rfl ?_
  refine g_istore_n (q := 2) dX11_lays_1 rfl rfl rfl rfl ?_
  dsimp only [List.set]
  exact l1 320 0 v (by rw [show lay0 (v (m + 2)) 0 = v (m + 2) from funext fun j => if_neg (by omega), gu_id]) (by omega)

set_option maxRecDepth 100000 in
set_option maxHeartbeats 4000000 in
theorem p_X11_begins {X : gj_X} {lim : Nat} {σ : gj_H} {v : gj_V} {m : Nat} {A : aS} {t : Int32} {l : List (aS × Int32)} {tx : List Int32} {c : Nat → Int32} {n sn : Nat} (hs : msh σ m) (hG : MG v m A t l tx c) (hI : IV A n sn) {k : Int32} : gj_E X 6 m_X11_begins [.ref m, .int k] lim σ v (q_i lim σ (fun z v' => sp_beginsM A t l tx c k z (MG v' m) ∧ fm v v' m)) := by
  obtain ⟨so, s1, s2, s3, s4, s5, s6, s7, s8, s9, s10, s11, s12⟩ := id hs
  have hn6 := hI.2.1.2.2.2.1
  have hn1 := hI.2.1.2.2.1
  have hsn6 := hI.2.1.2.2.2.2.1
  have esn : sno A = sn := sn_eq hI
  have hM0 := hG.1
  refine gj_E_at (L := [some (.ref m), some (.int k), none]) (k := 1) rfl (by decide) rfl ?_
  refine g_iload_n (q := 1) dX11_begins_0 rfl rfl ?_
  refine g_iconst (q := 2) (x := 1) dX11_begins_1 (by decide) rfl ?_
  refine g_bipush (q := 4) (x := 6) dX11_begins_2 (by decide) rfl ?_
  refine c_Si (q := 7) p_X11_in k_X11_50 (by decide) rfl rfl (Nat.le_of_ble_eq_true rfl) rfl rfl dX11_begins_4 rfl ?_
  rintro z w1 ⟨rfl, hw1⟩
  subst w1
  refine g_ifne (t := 15) (q := 10) dX11_begins_7 (by decide) rfl (fun hq7 => ?_) (fun hq7 => ?_)
  · have hq7 := gn_b1 hq7
    refine g_aload_n (q := 16) dX11_begins_15 rfl rfl ?_
    refine c_Vv (q := 19) (p_X11_leavesState hs hG) k_X11_133 (by assumption) rfl (by decide) rfl rfl (Nat.le_of_ble_eq_true rfl) rfl rfl dX11_begins_16 rfl ?_
    rintro vq1 ⟨⟨hG1, n1⟩, E1⟩
    have hM1 := hG1.1
    refine g_aload_n (q := 20) dX11_begins_19 rfl rfl ?_
    refine g_getR (q := 23) f_X11_13 (by assumption) rfl dX11_begins_20 rfl ?_
    refine g_iconst (q := 24) (x := 0) dX11_begins_23 (by decide) rfl ?_
    refine g_iald (q := 25) (by assumption) (show (0 : Int32) = nI 0 from rfl) (by omega) (by decide) dX11_begins_24 rfl ?_
    rw [hM1.1.1]
    refine g_istore_n (q := 26) dX11_begins_25 rfl rfl rfl rfl ?_
    dsimp only [List.set]
    refine g_aload_n (q := 27) dX11_begins_26 rfl rfl ?_
    refine g_iload_n (q := 28) dX11_begins_27 rfl rfl ?_
    refine c_Vv (q := 31) (p_X11_lays hs (n := k)) k_X11_46 (by assumption) rfl (by decide) rfl rfl (Nat.le_of_ble_eq_true rfl) rfl rfl dX11_begins_28 rfl ?_
    rintro vq2 hvq2
    refine g_iload_n (q := 32) dX11_begins_31 rfl rfl ?_
    refine r_i dX11_begins_32 rfl rfl rfl ?_
    rw [sp_beginsM, if_pos hq7]
    refine ⟨⟨rfl, fun A2 hA => hG1.now ⟨_, hvq2, MR_lay hA⟩ (by show iN (A2.1 40 6) = 0; rw [hA.2.2.2.2.1]; rfl)⟩, E1.tr (fun a ha => by rw [hvq2]; exact gu_n _ _ (by omega))⟩
  · have hq7 := gn_b0 hq7
    refine g_aload_n (q := 11) dX11_begins_10 rfl rfl ?_
    refine c_Vi (q := 14) (p_X11_bad hs hG) k_X11_130 (by assumption) rfl (by decide) rfl rfl (Nat.le_of_ble_eq_true rfl) rfl rfl dX11_begins_11 rfl ?_
    rintro z w1 ⟨hz1, hG1, E1⟩
    refine r_i dX11_begins_14 rfl rfl rfl ?_
    rw [sp_beginsM, if_neg (by intro h; first | exact hq7 h)]
    exact ⟨⟨hz1, hG1⟩, E1⟩

def cpb (N K : Nat → Int32) (s i : Nat) : Nat → Int32 := fun j => if j < i then K (320 * s + j) else N j
theorem cpb_s (N K : Nat → Int32) (s i : Nat) : upd (cpb N K s i) i (K (320 * s + i)) = cpb N K s (i + 1) := by
  funext j
  unfold upd cpb
  by_cases e : j = i
  · subst e; rw [if_pos rfl, if_pos (by omega)]
  · rw [if_neg e]
    by_cases h : j < i
    · rw [if_pos h, if_pos (by omega)]
    · rw [if_neg h, if_neg (by omega)]
theorem MG_back {v v1 v2 : gj_V} {m : Nat} {A A' : aS} {t : Int32} {l0 : List (aS × Int32)} {q : aS × Int32} {tx : List Int32} {c : Nat → Int32} (h : MG v m A t (l0 ++ [q]) tx c) (o1 : ∀ a, a ≠ m → v1 a = v a) (x2 : v1 m 2 = nI l0.length) (x6 : v1 m 6 = v m 6) (hv2 : v2 = gj_up v1 (m + 2) (cpb (v1 (m + 2)) (v1 (m + 3)) l0.length 320)) (ha : agr q.1 A') : MG v2 m A' q.2 l0 tx c := by
  obtain ⟨h1, h2, h3, h4, h5, h6, h7⟩ := h
  have o2 : ∀ a, a ≠ m → a ≠ m + 2 → v2 a = v a := fun a g1 g2 => by rw [hv2, gu_n _ _ g2]; exact o1 a g1
  have e2 : v2 (m + 2) = cpb (v1 (m + 2)) (v1 (m + 3)) l0.length 320 := by rw [hv2, gu_s]
  have em : ∀ k, v2 m k = v1 m k := fun k => by rw [hv2, gu_n _ _ (by omega)]
  have hq := h4.2 l0.length q (by simp)
  have es : sno A' = sno q.1 := by show iN (A'.1 40 6) = iN (q.1.1 40 6); rw [ha.2.2.2.2.2.1]
  refine ⟨?_, by rw [o2 _ (by omega) (by omega)]; exact h2, by rw [em, x2], ?_, by rw [em, x6]; exact h5, h6, by rw [o2 _ (by omega) (by omega)]; exact h7⟩
  · rw [es]
    refine MR_agr (hq.cong (fun j hj => ?_)) ha
    rw [e2]
    show (if j < 320 then v1 (m + 3) (320 * l0.length + j) else _) = _
    rw [if_pos hj, o1 _ (by omega)]
  · rw [o2 _ (by omega) (by omega)]
    refine ⟨by have := h4.1; simp at this; omega, fun i p hp => h4.2 i p ?_⟩
    rw [List.getElem?_append_left (List.getElem?_eq_some_iff.mp hp).1]
    exact hp

set_option maxRecDepth 100000 in
set_option maxHeartbeats 4000000 in
theorem p_X11_back {X : gj_X} {lim : Nat} {σ : gj_H} {v : gj_V} {m : Nat} {A : aS} {t : Int32} {l : List (aS × Int32)} {tx : List Int32} {c : Nat → Int32} {n sn : Nat} (hs : msh σ m) (hG : MG v m A t l tx c) (hI : IV A n sn) : gj_E X 6 m_X11_back [.ref m] lim σ v (q_i lim σ (fun z v' => sp_backM A t l tx c z (MG v' m) ∧ fm v v' m)) := by
  obtain ⟨so, s1, s2, s3, s4, s5, s6, s7, s8, s9, s10, s11, s12⟩ := id hs
  rcases List.eq_nil_or_concat l with hl | ⟨l0, q, hl⟩
  · have eq0 : v m 2 = 0 := by rw [hG.2.2.1, hl]; rfl
    refine gj_E_at (L := [some (.ref m), none]) (k := 1) rfl (by decide) rfl ?_
    refine g_aload_n (q := 1) dX11_back_0 rfl rfl ?_
    refine g_getI (q := 4) f_X11_61 (by assumption) rfl dX11_back_1 rfl ?_
    refine g_ifne (t := 12) (q := 7) dX11_back_4 (by decide) rfl (fun hq4 => ?_) (fun hq4 => ?_)
    · exact absurd eq0 hq4
    · refine g_aload_n (q := 8) dX11_back_7 rfl rfl ?_
      refine c_Vi (q := 11) (p_X11_no hs hG) k_X11_65 (by assumption) rfl (by decide) rfl rfl (Nat.le_of_ble_eq_true rfl) rfl rfl dX11_back_8 rfl ?_
      rintro z w1 ⟨hz1, hG1, E1⟩
      refine r_i dX11_back_11 rfl rfl rfl ?_
      refine ⟨⟨fun _ => ⟨hz1, hG1⟩, fun l0 q e => ?_⟩, E1⟩
      rw [hl] at e
      exact absurd e.symm (by simp)
  · rw [List.concat_eq_append] at hl
    subst hl
    have hll := hG.2.2.2.1.1
    simp only [List.length_append, List.length_singleton] at hll
    have eq0 : v m 2 = nI (l0.length + 1) := by rw [hG.2.2.1]; simp
    have eq1 : ¬ v m 2 = 0 := by
      rw [eq0]
      intro h
      have := nI_inj6 (b := 0) (by omega) (by omega) h
      omega
    have lp : ∀ (vq1 : gj_V), (∀ a, a ≠ m → vq1 a = v a) → vq1 m 2 = nI l0.length → vq1 m 6 = v m 6 → ∀ (k i : Nat) (w : gj_V), w = gj_up vq1 (m + 2) (cpb (vq1 (m + 2)) (vq1 (m + 3)) l0.length i) → i + k = 320 → gj_G X 6 m_X11_back (q_i lim σ (fun z v' => sp_backM A t (l0 ++ [q]) tx c z (MG v' m) ∧ fm v v' m)) lim σ w 0 0 24 [some (.ref m), some (.int (nI i))] [] := by
      intro vq1 o1 x2 x6 k
      induction k with
      | zero =>
        intro i w hw hk
        have ei : i = 320 := by omega
        subst i
        have em : ∀ k, w m k = vq1 m k := fun k => by rw [hw, gu_n _ _ (by omega)]
        refine g_iload_n (q := 25) dX11_back_24 rfl rfl ?_
        refine g_sipush (q := 28) (x := 320) dX11_back_25 (by decide) rfl ?_
        refine g_icmpge (t := 58) (q := 31) dX11_back_28 (by decide) rfl (fun hq28 => ?_) (fun hq28 => ?_)
        · refine g_aload_n (q := 59) dX11_back_58 rfl rfl ?_
          refine g_getI (q := 62) f_X11_61 (by assumption) rfl dX11_back_59 rfl ?_
          rw [em, x2]
          refine r_i dX11_back_62 rfl rfl rfl ?_
          refine ⟨⟨fun h => absurd h (by simp), fun l1 q1 e => ?_⟩, fun a ha => by rw [hw, gu_n _ _ (by omega)]; exact o1 a (by omega)⟩
          have eq2 := List.append_inj_left' e rfl
          have eq3 : q = q1 := by
            have := List.append_inj_right' e rfl
            simpa using this
          subst eq2 eq3
          exact ⟨rfl, fun A2 ha => MG_back hG o1 x2 x6 hw ha⟩
        · exact absurd (Int32.le_refl _) hq28
      | succ k ih =>
        intro i w hw hk
        have em : ∀ k, w m k = vq1 m k := fun k => by rw [hw, gu_n _ _ (by omega)]
        have n2 := congrFun hw (m + 2)
        rw [gu_s] at n2
        have n3 := congrFun hw (m + 3)
        rw [gu_n _ _ (by omega)] at n3
        refine g_iload_n (q := 25) dX11_back_24 rfl rfl ?_
        refine g_sipush (q := 28) (x := 320) dX11_back_25 (by decide) rfl ?_
        refine g_icmpge (t := 58) (q := 31) dX11_back_28 (by decide) rfl (fun hq28 => ?_) (fun hq28 => ?_)
        · exact absurd (gn_le (n := 320) hq28 (by omega)) (by omega)
        · refine g_aload_n (q := 32) dX11_back_31 rfl rfl ?_
          refine g_getR (q := 35) f_X11_13 (by assumption) rfl dX11_back_32 rfl ?_
          refine g_iload_n (q := 36) dX11_back_35 rfl rfl ?_
          refine g_aload_n (q := 37) dX11_back_36 rfl rfl ?_
          refine g_getR (q := 40) f_X11_16 (by assumption) rfl dX11_back_37 rfl ?_
          refine g_sipush (q := 43) (x := 320) dX11_back_40 (by decide) rfl ?_
          refine g_aload_n (q := 44) dX11_back_43 rfl rfl ?_
          refine g_getI (q := 47) f_X11_61 (by assumption) rfl dX11_back_44 rfl ?_
          rw [em, x2]
          refine g_imul (q := 48) dX11_back_47 rfl ?_
          refine g_iload_n (q := 49) dX11_back_48 rfl rfl ?_
          refine g_iadd (q := 50) dX11_back_49 rfl ?_
          refine g_iald (q := 51) (by assumption) (show 320 * nI l0.length + nI i = nI (320 * l0.length + i) by simp only [gn_lit, nI_add, pk_mul]) (by omega) (by decide) dX11_back_50 rfl ?_
          refine g_iast (q := 52) (by assumption) rfl (by omega) (by decide) dX11_back_51 rfl ?_
          refine g_gen (fun vq3 hvq3 => ?_)
          rw [gu_2, n2, n3, cpb_s, hw, gu_u] at hvq3
          refine g_iinc (q := 55) (y := nI (i + 1)) dX11_back_52 rfl (gn_inc i) rfl rfl rfl rfl ?_
          dsimp only [List.set]
          refine g_goto (q := 24) dX11_back_55 (by decide) ?_
          exact ih (i + 1) vq3 hvq3 (by omega)
    refine gj_E_at (L := [some (.ref m), none]) (k := 1) rfl (by decide) rfl ?_
    refine g_aload_n (q := 1) dX11_back_0 rfl rfl ?_
    refine g_getI (q := 4) f_X11_61 (by assumption) rfl dX11_back_1 rfl ?_
    refine g_ifne (t := 12) (q := 7) dX11_back_4 (by decide) rfl (fun hq4 => ?_) (fun hq4 => ?_)
    · refine g_aload_n (q := 13) dX11_back_12 rfl rfl ?_
      refine g_dup (q := 14) dX11_back_13 rfl rfl ?_
      refine g_getI (q := 17) f_X11_61 (by assumption) rfl dX11_back_14 rfl ?_
      rw [eq0]
      refine g_iconst (q := 18) (x := 1) dX11_back_17 (by decide) rfl ?_
      refine g_isub (q := 19) dX11_back_18 rfl ?_
      refine g_putI (q := 22) f_X11_61 (by assumption) rfl rfl rfl dX11_back_19 rfl ?_
      rw [rl_s]
      refine g_gen (fun vq1 hvq1 => ?_)
      have o1 : ∀ a, a ≠ m → vq1 a = v a := fun a ha => by rw [hvq1, gu_2]; exact gu_n _ _ ha
      have x2 : vq1 m 2 = nI l0.length := by rw [hvq1, gu_2, gu_s, ud_s]
      have x6 : vq1 m 6 = v m 6 := by rw [hvq1, gu_2, gu_s, ud_n _ _ (by decide)]
      refine g_iconst (q := 23) (x := 0) dX11_back_22 (by decide) rfl ?_
      refine g_istore_n (q := 24) dX11_back_23 rfl rfl rfl rfl ?_
      dsimp only [List.set]
      exact lp vq1 o1 x2 x6 320 0 vq1 (by rw [show cpb (vq1 (m + 2)) (vq1 (m + 3)) l0.length 0 = vq1 (m + 2) from funext fun j => if_neg (by omega), gu_id]) (by omega)
    · exact absurd hq4 eq1

