/-- what an order that comes writes: at place q of the rows, and how many there are -/
def cmw (v v' : gj_V) (m q : Nat) (c x1 x2 x3 : Int32) : Prop := v' m 9 = nI (q + 1) ∧ (∀ k, k ≠ 7 → k ≠ 8 → k ≠ 9 → v' m k = v m k) ∧ (∀ a, a ≠ m → (a < m + 6 ∨ m + 11 ≤ a) → v' a = v a) ∧ v' (m + 6) = upd (v (m + 6)) q c ∧ v' (m + 7) = upd (v (m + 7)) q x1 ∧ v' (m + 8) = upd (v (m + 8)) q x2 ∧ v' (m + 9) = upd (v (m + 9)) q x3 ∧ v' (m + 10) = upd (v (m + 10)) q (-1)

theorem fgr_le {tx : List Int32} {p p2 : Nat} {z : Int32} {b : Bool} (h : fgr tx p z p2 b) : p2 ≤ tx.length := by
  rcases h with ⟨-, c, q, -, -, -, -, h5, -⟩ | ⟨-, -, h2, -, -⟩
  · exact h5
  · exact h2
theorem fgr_ge {tx : List Int32} {p p2 : Nat} {z : Int32} {b : Bool} (h : fgr tx p z p2 b) : p ≤ p2 := by
  rcases h with ⟨-, c, q, -, -, -, -, -, h6⟩ | ⟨-, -, -, h3, -⟩
  · exact Nat.le_of_lt h6
  · exact h3

set_option maxRecDepth 100000 in
set_option maxHeartbeats 4000000 in
theorem p_X11_comes_o {X : gj_X} {lim : Nat} {σ : gj_H} {v : gj_V} {m p q : Nat} {tx : List Int32} (hs : msh σ m) (hT : TXm v m tx) (hp7 : v m 7 = nI p) (hp : p ≤ tx.length) (hp8 : v m 8 = 0) (hp9 : v m 9 = nI q) (hq : q < 120) : gj_E X 2 m_X11_comes [.ref m, .int 40] lim σ v (q_v lim σ (fun v' => cmw v v' m q 40 0 0 0 ∧ v' m 7 = nI p ∧ v' m 8 = 0)) := by
  obtain ⟨so, s1, s2, s3, s4, s5, s6, s7, s8, s9, s10, s11, s12⟩ := id hs
  have hl := hT.2.1
  have hlp := hp
  refine gj_E_at (L := [some (.ref m), some (.int 40)]) (k := 0) rfl (by decide) rfl ?_
  refine g_aload_n (q := 1) dX11_comes_0 rfl rfl ?_
  refine g_getR (q := 4) f_X11_25 (by assumption) rfl dX11_comes_1 rfl ?_
  refine g_aload_n (q := 5) dX11_comes_4 rfl rfl ?_
  refine g_getI (q := 8) f_X11_202 (by assumption) rfl dX11_comes_5 rfl ?_
  rw [hp9]
  refine g_iload_n (q := 9) dX11_comes_8 rfl rfl ?_
  refine g_iast (q := 10) (by assumption) rfl (by omega) (by decide) dX11_comes_9 rfl ?_
  refine g_gen (fun vq1 hvq1 => ?_)
  have o1 : ∀ a, a ≠ m + 6 → vq1 a = v a := fun a ha => by rw [hvq1, gu_2, gu_n _ _ ha]
  have e1_6 : vq1 (m + 6) = upd (v (m + 6)) q 40 := by rw [hvq1, gu_2, gu_s]
  have hk1 : ∀ k, vq1 m k = v m k := fun k => by rw [o1 m (by omega)]
  refine g_aload_n (q := 11) dX11_comes_10 rfl rfl ?_
  refine g_getR (q := 14) f_X11_37 (by assumption) rfl dX11_comes_11 rfl ?_
  refine g_aload_n (q := 15) dX11_comes_14 rfl rfl ?_
  refine g_getI (q := 18) f_X11_202 (by assumption) rfl dX11_comes_15 rfl ?_
  rw [hk1, hp9]
  refine g_iconst (q := 19) (x := (-1)) dX11_comes_18 (by decide) rfl ?_
  refine g_iast (q := 20) (by assumption) rfl (by omega) (by decide) dX11_comes_19 rfl ?_
  refine g_gen (fun vq2 hvq2 => ?_)
  have o2 : ∀ a, a ≠ m + 10 → vq2 a = vq1 a := fun a ha => by rw [hvq2, gu_2, gu_n _ _ ha]
  have e2_6 : vq2 (m + 6) = upd (v (m + 6)) q 40 := by rw [o2 _ (by omega)]; exact e1_6
  have e2_7 : vq2 (m + 7) = v (m + 7) := by rw [o2 _ (by omega), o1 _ (by omega)]
  have e2_8 : vq2 (m + 8) = v (m + 8) := by rw [o2 _ (by omega), o1 _ (by omega)]
  have e2_9 : vq2 (m + 9) = v (m + 9) := by rw [o2 _ (by omega), o1 _ (by omega)]
  have e2_10 : vq2 (m + 10) = upd (v (m + 10)) q (-1) := by rw [hvq2, gu_2, gu_s, o1 _ (by omega)]
  have a2 : ∀ a, a ≠ m → (a < m + 6 ∨ m + 11 ≤ a) → vq2 a = v a := fun a g1 g2 => by rw [o2 a (by omega), o1 a (by omega)]
  have b2 : ∀ k, k ≠ 7 → k ≠ 8 → k ≠ 9 → vq2 m k = v m k := fun k g1 g2 g3 => by rw [o2 m (by omega), hk1]
  have t2 : TXm vq2 m tx := ⟨by rw [b2 6 (by decide) (by decide) (by decide)]; exact hT.1, hT.2.1, by rw [a2 _ (by omega) (by omega)]; exact hT.2.2⟩
  have r2 : vq2 m 7 = nI p := by rw [o2 m (by omega), hk1]; exact hp7
  have s2 : vq2 m 8 = 0 := by rw [o2 m (by omega), hk1]; exact hp8
  have g2 : vq2 m 9 = nI q := by rw [o2 m (by omega), hk1]; exact hp9
  refine g_aload_n (q := 21) dX11_comes_20 rfl rfl ?_
  refine g_getR (q := 24) f_X11_28 (by assumption) rfl dX11_comes_21 rfl ?_
  refine g_aload_n (q := 25) dX11_comes_24 rfl rfl ?_
  refine g_getI (q := 28) f_X11_202 (by assumption) rfl dX11_comes_25 rfl ?_
  rw [g2]
  refine g_iload_n (q := 29) dX11_comes_28 rfl rfl ?_
  refine g_bipush (q := 31) (x := 112) dX11_comes_29 (by decide) rfl ?_
  refine g_icmpeq (t := 46) (q := 34) dX11_comes_31 (by decide) rfl (fun hq31 => ?_) (fun hq31 => ?_)
  · exact absurd hq31 (by decide)
  · refine g_iload_n (q := 35) dX11_comes_34 rfl rfl ?_
    refine g_bipush (q := 37) (x := 116) dX11_comes_35 (by decide) rfl ?_
    refine g_icmpeq (t := 46) (q := 40) dX11_comes_37 (by decide) rfl (fun hq37 => ?_) (fun hq37 => ?_)
    · exact absurd hq37 (by decide)
    · refine g_iload_n (q := 41) dX11_comes_40 rfl rfl ?_
      refine g_bipush (q := 43) (x := 109) dX11_comes_41 (by decide) rfl ?_
      refine g_icmpne (t := 53) (q := 46) dX11_comes_43 (by decide) rfl (fun hq43 => ?_) (fun hq43 => ?_)
      · refine g_iconst (q := 54) (x := 0) dX11_comes_53 (by decide) rfl ?_
        refine g_iast (q := 55) (by assumption) rfl (by omega) (by decide) dX11_comes_54 rfl ?_
        refine g_gen (fun vq3 hvq3 => ?_)
        have e3_6 : vq3 (m + 6) = vq2 (m + 6) := by rw [hvq3, gu_2, gu_n _ _ (by omega)]
        rw [e2_6] at e3_6
        have e3_7 : vq3 (m + 7) = upd (v (m + 7)) q 0 := by rw [hvq3, gu_2, gu_s, e2_7]
        have e3_8 : vq3 (m + 8) = vq2 (m + 8) := by rw [hvq3, gu_2, gu_n _ _ (by omega)]
        rw [e2_8] at e3_8
        have e3_9 : vq3 (m + 9) = vq2 (m + 9) := by rw [hvq3, gu_2, gu_n _ _ (by omega)]
        rw [e2_9] at e3_9
        have e3_10 : vq3 (m + 10) = vq2 (m + 10) := by rw [hvq3, gu_2, gu_n _ _ (by omega)]
        rw [e2_10] at e3_10
        have a3 : ∀ a, a ≠ m → (a < m + 6 ∨ m + 11 ≤ a) → vq3 a = v a := fun a g1 g2 => by rw [hvq3, gu_2, gu_n _ _ (by omega)]; exact a2 a g1 g2
        have k3 : ∀ k, vq3 m k = vq2 m k := fun k => by rw [hvq3, gu_2, gu_n _ _ (by omega)]
        have b3 : ∀ k, k ≠ 7 → k ≠ 8 → k ≠ 9 → vq3 m k = v m k := fun k g1 g2 g3 => by rw [k3]; exact b2 k g1 g2 g3
        have t3 : TXm vq3 m tx := ⟨by rw [k3]; exact t2.1, t2.2.1, by rw [a3 _ (by omega) (by omega)]; exact hT.2.2⟩
        have r3 : vq3 m 7 = vq2 m 7 := k3 7
        have s3 : vq3 m 8 = vq2 m 8 := k3 8
        have g3 : vq3 m 9 = nI q := by rw [k3]; exact g2
        rw [r2] at r3
        rw [s2] at s3
        refine g_aload_n (q := 56) dX11_comes_55 rfl rfl ?_
        refine g_getR (q := 59) f_X11_31 (by assumption) rfl dX11_comes_56 rfl ?_
        refine g_aload_n (q := 60) dX11_comes_59 rfl rfl ?_
        refine g_getI (q := 63) f_X11_202 (by assumption) rfl dX11_comes_60 rfl ?_
        rw [g3]
        refine g_iload_n (q := 64) dX11_comes_63 rfl rfl ?_
        refine g_bipush (q := 66) (x := 112) dX11_comes_64 (by decide) rfl ?_
        refine g_icmpeq (t := 75) (q := 69) dX11_comes_66 (by decide) rfl (fun hq66 => ?_) (fun hq66 => ?_)
        · exact absurd hq66 (by decide)
        · refine g_iload_n (q := 70) dX11_comes_69 rfl rfl ?_
          refine g_bipush (q := 72) (x := 109) dX11_comes_70 (by decide) rfl ?_
          refine g_icmpne (t := 82) (q := 75) dX11_comes_72 (by decide) rfl (fun hq72 => ?_) (fun hq72 => ?_)
          · refine g_iconst (q := 83) (x := 0) dX11_comes_82 (by decide) rfl ?_
            refine g_iast (q := 84) (by assumption) rfl (by omega) (by decide) dX11_comes_83 rfl ?_
            refine g_gen (fun vq4 hvq4 => ?_)
            have e4_6 : vq4 (m + 6) = vq3 (m + 6) := by rw [hvq4, gu_2, gu_n _ _ (by omega)]
            rw [e3_6] at e4_6
            have e4_7 : vq4 (m + 7) = vq3 (m + 7) := by rw [hvq4, gu_2, gu_n _ _ (by omega)]
            rw [e3_7] at e4_7
            have e4_8 : vq4 (m + 8) = upd (v (m + 8)) q 0 := by rw [hvq4, gu_2, gu_s, e3_8]
            have e4_9 : vq4 (m + 9) = vq3 (m + 9) := by rw [hvq4, gu_2, gu_n _ _ (by omega)]
            rw [e3_9] at e4_9
            have e4_10 : vq4 (m + 10) = vq3 (m + 10) := by rw [hvq4, gu_2, gu_n _ _ (by omega)]
            rw [e3_10] at e4_10
            have a4 : ∀ a, a ≠ m → (a < m + 6 ∨ m + 11 ≤ a) → vq4 a = v a := fun a g1 g2 => by rw [hvq4, gu_2, gu_n _ _ (by omega)]; exact a3 a g1 g2
            have k4 : ∀ k, vq4 m k = vq3 m k := fun k => by rw [hvq4, gu_2, gu_n _ _ (by omega)]
            have b4 : ∀ k, k ≠ 7 → k ≠ 8 → k ≠ 9 → vq4 m k = v m k := fun k g1 g2 g3 => by rw [k4]; exact b3 k g1 g2 g3
            have t4 : TXm vq4 m tx := ⟨by rw [k4]; exact t3.1, t3.2.1, by rw [a4 _ (by omega) (by omega)]; exact hT.2.2⟩
            have r4 : vq4 m 7 = vq3 m 7 := k4 7
            have s4 : vq4 m 8 = vq3 m 8 := k4 8
            have g4 : vq4 m 9 = nI q := by rw [k4]; exact g3
            rw [r3] at r4
            rw [s3] at s4
            refine g_aload_n (q := 85) dX11_comes_84 rfl rfl ?_
            refine g_getR (q := 88) f_X11_34 (by assumption) rfl dX11_comes_85 rfl ?_
            refine g_aload_n (q := 89) dX11_comes_88 rfl rfl ?_
            refine g_getI (q := 92) f_X11_202 (by assumption) rfl dX11_comes_89 rfl ?_
            rw [g4]
            refine g_iload_n (q := 93) dX11_comes_92 rfl rfl ?_
            refine g_bipush (q := 95) (x := 109) dX11_comes_93 (by decide) rfl ?_
            refine g_icmpne (t := 105) (q := 98) dX11_comes_95 (by decide) rfl (fun hq95 => ?_) (fun hq95 => ?_)
            · refine g_iconst (q := 106) (x := 0) dX11_comes_105 (by decide) rfl ?_
              refine g_iast (q := 107) (by assumption) rfl (by omega) (by decide) dX11_comes_106 rfl ?_
              refine g_gen (fun vq5 hvq5 => ?_)
              have e5_6 : vq5 (m + 6) = vq4 (m + 6) := by rw [hvq5, gu_2, gu_n _ _ (by omega)]
              rw [e4_6] at e5_6
              have e5_7 : vq5 (m + 7) = vq4 (m + 7) := by rw [hvq5, gu_2, gu_n _ _ (by omega)]
              rw [e4_7] at e5_7
              have e5_8 : vq5 (m + 8) = vq4 (m + 8) := by rw [hvq5, gu_2, gu_n _ _ (by omega)]
              rw [e4_8] at e5_8
              have e5_9 : vq5 (m + 9) = upd (v (m + 9)) q 0 := by rw [hvq5, gu_2, gu_s, e4_9]
              have e5_10 : vq5 (m + 10) = vq4 (m + 10) := by rw [hvq5, gu_2, gu_n _ _ (by omega)]
              rw [e4_10] at e5_10
              have a5 : ∀ a, a ≠ m → (a < m + 6 ∨ m + 11 ≤ a) → vq5 a = v a := fun a g1 g2 => by rw [hvq5, gu_2, gu_n _ _ (by omega)]; exact a4 a g1 g2
              have k5 : ∀ k, vq5 m k = vq4 m k := fun k => by rw [hvq5, gu_2, gu_n _ _ (by omega)]
              have b5 : ∀ k, k ≠ 7 → k ≠ 8 → k ≠ 9 → vq5 m k = v m k := fun k g1 g2 g3 => by rw [k5]; exact b4 k g1 g2 g3
              have t5 : TXm vq5 m tx := ⟨by rw [k5]; exact t4.1, t4.2.1, by rw [a5 _ (by omega) (by omega)]; exact hT.2.2⟩
              have r5 : vq5 m 7 = vq4 m 7 := k5 7
              have s5 : vq5 m 8 = vq4 m 8 := k5 8
              have g5 : vq5 m 9 = nI q := by rw [k5]; exact g4
              rw [r4] at r5
              rw [s4] at s5
              refine g_aload_n (q := 108) dX11_comes_107 rfl rfl ?_
              refine g_dup (q := 109) dX11_comes_108 rfl rfl ?_
              refine g_getI (q := 112) f_X11_202 (by assumption) rfl dX11_comes_109 rfl ?_
              rw [g5]
              refine g_iconst (q := 113) (x := 1) dX11_comes_112 (by decide) rfl ?_
              refine g_iadd (q := 114) dX11_comes_113 rfl ?_
              refine g_putI (q := 117) f_X11_202 (by assumption) rfl rfl rfl dX11_comes_114 rfl ?_
              rw [nI_1]
              refine g_gen (fun vq6 hvq6 => ?_)
              have o6 : ∀ a, a ≠ m → vq6 a = vq5 a := fun a ha => by rw [hvq6, gu_2, gu_n _ _ ha]
              have om6 : ∀ k, k ≠ 9 → vq6 m k = vq5 m k := fun k hk => by rw [hvq6, gu_2, gu_s, ud_n _ _ hk]
              have x9z : vq6 m 9 = nI (q + 1) := by rw [hvq6, gu_2, gu_s, ud_s]
              refine r_v dX11_comes_117 rfl rfl rfl ?_
              have r9z : vq6 m 7 = nI p := by rw [om6 7 (by decide)]; exact r5
              have s9z : vq6 m 8 = 0 := by rw [om6 8 (by decide)]; exact s5
              exact ⟨⟨x9z, fun k g1 g2 g3 => by rw [om6 k g3]; exact b5 k g1 g2 g3, fun a g1 g2 => by rw [o6 a g1]; exact a5 a g1 g2, by rw [o6 _ (by omega)]; exact e5_6, by rw [o6 _ (by omega)]; exact e5_7, by rw [o6 _ (by omega)]; exact e5_8, by rw [o6 _ (by omega)]; exact e5_9, by rw [o6 _ (by omega)]; exact e5_10⟩, r9z, s9z⟩
            · exact absurd hq95 (by decide)
          · exact absurd hq72 (by decide)
      · exact absurd hq43 (by decide)

set_option maxRecDepth 100000 in
set_option maxHeartbeats 4000000 in
theorem p_X11_comes_c {X : gj_X} {lim : Nat} {σ : gj_H} {v : gj_V} {m p q : Nat} {tx : List Int32} (hs : msh σ m) (hT : TXm v m tx) (hp7 : v m 7 = nI p) (hp : p ≤ tx.length) (hp8 : v m 8 = 0) (hp9 : v m 9 = nI q) (hq : q < 120) : gj_E X 2 m_X11_comes [.ref m, .int 41] lim σ v (q_v lim σ (fun v' => cmw v v' m q 41 0 0 0 ∧ v' m 7 = nI p ∧ v' m 8 = 0)) := by
  obtain ⟨so, s1, s2, s3, s4, s5, s6, s7, s8, s9, s10, s11, s12⟩ := id hs
  have hl := hT.2.1
  have hlp := hp
  refine gj_E_at (L := [some (.ref m), some (.int 41)]) (k := 0) rfl (by decide) rfl ?_
  refine g_aload_n (q := 1) dX11_comes_0 rfl rfl ?_
  refine g_getR (q := 4) f_X11_25 (by assumption) rfl dX11_comes_1 rfl ?_
  refine g_aload_n (q := 5) dX11_comes_4 rfl rfl ?_
  refine g_getI (q := 8) f_X11_202 (by assumption) rfl dX11_comes_5 rfl ?_
  rw [hp9]
  refine g_iload_n (q := 9) dX11_comes_8 rfl rfl ?_
  refine g_iast (q := 10) (by assumption) rfl (by omega) (by decide) dX11_comes_9 rfl ?_
  refine g_gen (fun vq1 hvq1 => ?_)
  have o1 : ∀ a, a ≠ m + 6 → vq1 a = v a := fun a ha => by rw [hvq1, gu_2, gu_n _ _ ha]
  have e1_6 : vq1 (m + 6) = upd (v (m + 6)) q 41 := by rw [hvq1, gu_2, gu_s]
  have hk1 : ∀ k, vq1 m k = v m k := fun k => by rw [o1 m (by omega)]
  refine g_aload_n (q := 11) dX11_comes_10 rfl rfl ?_
  refine g_getR (q := 14) f_X11_37 (by assumption) rfl dX11_comes_11 rfl ?_
  refine g_aload_n (q := 15) dX11_comes_14 rfl rfl ?_
  refine g_getI (q := 18) f_X11_202 (by assumption) rfl dX11_comes_15 rfl ?_
  rw [hk1, hp9]
  refine g_iconst (q := 19) (x := (-1)) dX11_comes_18 (by decide) rfl ?_
  refine g_iast (q := 20) (by assumption) rfl (by omega) (by decide) dX11_comes_19 rfl ?_
  refine g_gen (fun vq2 hvq2 => ?_)
  have o2 : ∀ a, a ≠ m + 10 → vq2 a = vq1 a := fun a ha => by rw [hvq2, gu_2, gu_n _ _ ha]
  have e2_6 : vq2 (m + 6) = upd (v (m + 6)) q 41 := by rw [o2 _ (by omega)]; exact e1_6
  have e2_7 : vq2 (m + 7) = v (m + 7) := by rw [o2 _ (by omega), o1 _ (by omega)]
  have e2_8 : vq2 (m + 8) = v (m + 8) := by rw [o2 _ (by omega), o1 _ (by omega)]
  have e2_9 : vq2 (m + 9) = v (m + 9) := by rw [o2 _ (by omega), o1 _ (by omega)]
  have e2_10 : vq2 (m + 10) = upd (v (m + 10)) q (-1) := by rw [hvq2, gu_2, gu_s, o1 _ (by omega)]
  have a2 : ∀ a, a ≠ m → (a < m + 6 ∨ m + 11 ≤ a) → vq2 a = v a := fun a g1 g2 => by rw [o2 a (by omega), o1 a (by omega)]
  have b2 : ∀ k, k ≠ 7 → k ≠ 8 → k ≠ 9 → vq2 m k = v m k := fun k g1 g2 g3 => by rw [o2 m (by omega), hk1]
  have t2 : TXm vq2 m tx := ⟨by rw [b2 6 (by decide) (by decide) (by decide)]; exact hT.1, hT.2.1, by rw [a2 _ (by omega) (by omega)]; exact hT.2.2⟩
  have r2 : vq2 m 7 = nI p := by rw [o2 m (by omega), hk1]; exact hp7
  have s2 : vq2 m 8 = 0 := by rw [o2 m (by omega), hk1]; exact hp8
  have g2 : vq2 m 9 = nI q := by rw [o2 m (by omega), hk1]; exact hp9
  refine g_aload_n (q := 21) dX11_comes_20 rfl rfl ?_
  refine g_getR (q := 24) f_X11_28 (by assumption) rfl dX11_comes_21 rfl ?_
  refine g_aload_n (q := 25) dX11_comes_24 rfl rfl ?_
  refine g_getI (q := 28) f_X11_202 (by assumption) rfl dX11_comes_25 rfl ?_
  rw [g2]
  refine g_iload_n (q := 29) dX11_comes_28 rfl rfl ?_
  refine g_bipush (q := 31) (x := 112) dX11_comes_29 (by decide) rfl ?_
  refine g_icmpeq (t := 46) (q := 34) dX11_comes_31 (by decide) rfl (fun hq31 => ?_) (fun hq31 => ?_)
  · exact absurd hq31 (by decide)
  · refine g_iload_n (q := 35) dX11_comes_34 rfl rfl ?_
    refine g_bipush (q := 37) (x := 116) dX11_comes_35 (by decide) rfl ?_
    refine g_icmpeq (t := 46) (q := 40) dX11_comes_37 (by decide) rfl (fun hq37 => ?_) (fun hq37 => ?_)
    · exact absurd hq37 (by decide)
    · refine g_iload_n (q := 41) dX11_comes_40 rfl rfl ?_
      refine g_bipush (q := 43) (x := 109) dX11_comes_41 (by decide) rfl ?_
      refine g_icmpne (t := 53) (q := 46) dX11_comes_43 (by decide) rfl (fun hq43 => ?_) (fun hq43 => ?_)
      · refine g_iconst (q := 54) (x := 0) dX11_comes_53 (by decide) rfl ?_
        refine g_iast (q := 55) (by assumption) rfl (by omega) (by decide) dX11_comes_54 rfl ?_
        refine g_gen (fun vq3 hvq3 => ?_)
        have e3_6 : vq3 (m + 6) = vq2 (m + 6) := by rw [hvq3, gu_2, gu_n _ _ (by omega)]
        rw [e2_6] at e3_6
        have e3_7 : vq3 (m + 7) = upd (v (m + 7)) q 0 := by rw [hvq3, gu_2, gu_s, e2_7]
        have e3_8 : vq3 (m + 8) = vq2 (m + 8) := by rw [hvq3, gu_2, gu_n _ _ (by omega)]
        rw [e2_8] at e3_8
        have e3_9 : vq3 (m + 9) = vq2 (m + 9) := by rw [hvq3, gu_2, gu_n _ _ (by omega)]
        rw [e2_9] at e3_9
        have e3_10 : vq3 (m + 10) = vq2 (m + 10) := by rw [hvq3, gu_2, gu_n _ _ (by omega)]
        rw [e2_10] at e3_10
        have a3 : ∀ a, a ≠ m → (a < m + 6 ∨ m + 11 ≤ a) → vq3 a = v a := fun a g1 g2 => by rw [hvq3, gu_2, gu_n _ _ (by omega)]; exact a2 a g1 g2
        have k3 : ∀ k, vq3 m k = vq2 m k := fun k => by rw [hvq3, gu_2, gu_n _ _ (by omega)]
        have b3 : ∀ k, k ≠ 7 → k ≠ 8 → k ≠ 9 → vq3 m k = v m k := fun k g1 g2 g3 => by rw [k3]; exact b2 k g1 g2 g3
        have t3 : TXm vq3 m tx := ⟨by rw [k3]; exact t2.1, t2.2.1, by rw [a3 _ (by omega) (by omega)]; exact hT.2.2⟩
        have r3 : vq3 m 7 = vq2 m 7 := k3 7
        have s3 : vq3 m 8 = vq2 m 8 := k3 8
        have g3 : vq3 m 9 = nI q := by rw [k3]; exact g2
        rw [r2] at r3
        rw [s2] at s3
        refine g_aload_n (q := 56) dX11_comes_55 rfl rfl ?_
        refine g_getR (q := 59) f_X11_31 (by assumption) rfl dX11_comes_56 rfl ?_
        refine g_aload_n (q := 60) dX11_comes_59 rfl rfl ?_
        refine g_getI (q := 63) f_X11_202 (by assumption) rfl dX11_comes_60 rfl ?_
        rw [g3]
        refine g_iload_n (q := 64) dX11_comes_63 rfl rfl ?_
        refine g_bipush (q := 66) (x := 112) dX11_comes_64 (by decide) rfl ?_
        refine g_icmpeq (t := 75) (q := 69) dX11_comes_66 (by decide) rfl (fun hq66 => ?_) (fun hq66 => ?_)
        · exact absurd hq66 (by decide)
        · refine g_iload_n (q := 70) dX11_comes_69 rfl rfl ?_
          refine g_bipush (q := 72) (x := 109) dX11_comes_70 (by decide) rfl ?_
          refine g_icmpne (t := 82) (q := 75) dX11_comes_72 (by decide) rfl (fun hq72 => ?_) (fun hq72 => ?_)
          · refine g_iconst (q := 83) (x := 0) dX11_comes_82 (by decide) rfl ?_
            refine g_iast (q := 84) (by assumption) rfl (by omega) (by decide) dX11_comes_83 rfl ?_
            refine g_gen (fun vq4 hvq4 => ?_)
            have e4_6 : vq4 (m + 6) = vq3 (m + 6) := by rw [hvq4, gu_2, gu_n _ _ (by omega)]
            rw [e3_6] at e4_6
            have e4_7 : vq4 (m + 7) = vq3 (m + 7) := by rw [hvq4, gu_2, gu_n _ _ (by omega)]
            rw [e3_7] at e4_7
            have e4_8 : vq4 (m + 8) = upd (v (m + 8)) q 0 := by rw [hvq4, gu_2, gu_s, e3_8]
            have e4_9 : vq4 (m + 9) = vq3 (m + 9) := by rw [hvq4, gu_2, gu_n _ _ (by omega)]
            rw [e3_9] at e4_9
            have e4_10 : vq4 (m + 10) = vq3 (m + 10) := by rw [hvq4, gu_2, gu_n _ _ (by omega)]
            rw [e3_10] at e4_10
            have a4 : ∀ a, a ≠ m → (a < m + 6 ∨ m + 11 ≤ a) → vq4 a = v a := fun a g1 g2 => by rw [hvq4, gu_2, gu_n _ _ (by omega)]; exact a3 a g1 g2
            have k4 : ∀ k, vq4 m k = vq3 m k := fun k => by rw [hvq4, gu_2, gu_n _ _ (by omega)]
            have b4 : ∀ k, k ≠ 7 → k ≠ 8 → k ≠ 9 → vq4 m k = v m k := fun k g1 g2 g3 => by rw [k4]; exact b3 k g1 g2 g3
            have t4 : TXm vq4 m tx := ⟨by rw [k4]; exact t3.1, t3.2.1, by rw [a4 _ (by omega) (by omega)]; exact hT.2.2⟩
            have r4 : vq4 m 7 = vq3 m 7 := k4 7
            have s4 : vq4 m 8 = vq3 m 8 := k4 8
            have g4 : vq4 m 9 = nI q := by rw [k4]; exact g3
            rw [r3] at r4
            rw [s3] at s4
            refine g_aload_n (q := 85) dX11_comes_84 rfl rfl ?_
            refine g_getR (q := 88) f_X11_34 (by assumption) rfl dX11_comes_85 rfl ?_
            refine g_aload_n (q := 89) dX11_comes_88 rfl rfl ?_
            refine g_getI (q := 92) f_X11_202 (by assumption) rfl dX11_comes_89 rfl ?_
            rw [g4]
            refine g_iload_n (q := 93) dX11_comes_92 rfl rfl ?_
            refine g_bipush (q := 95) (x := 109) dX11_comes_93 (by decide) rfl ?_
            refine g_icmpne (t := 105) (q := 98) dX11_comes_95 (by decide) rfl (fun hq95 => ?_) (fun hq95 => ?_)
            · refine g_iconst (q := 106) (x := 0) dX11_comes_105 (by decide) rfl ?_
              refine g_iast (q := 107) (by assumption) rfl (by omega) (by decide) dX11_comes_106 rfl ?_
              refine g_gen (fun vq5 hvq5 => ?_)
              have e5_6 : vq5 (m + 6) = vq4 (m + 6) := by rw [hvq5, gu_2, gu_n _ _ (by omega)]
              rw [e4_6] at e5_6
              have e5_7 : vq5 (m + 7) = vq4 (m + 7) := by rw [hvq5, gu_2, gu_n _ _ (by omega)]
              rw [e4_7] at e5_7
              have e5_8 : vq5 (m + 8) = vq4 (m + 8) := by rw [hvq5, gu_2, gu_n _ _ (by omega)]
              rw [e4_8] at e5_8
              have e5_9 : vq5 (m + 9) = upd (v (m + 9)) q 0 := by rw [hvq5, gu_2, gu_s, e4_9]
              have e5_10 : vq5 (m + 10) = vq4 (m + 10) := by rw [hvq5, gu_2, gu_n _ _ (by omega)]
              rw [e4_10] at e5_10
              have a5 : ∀ a, a ≠ m → (a < m + 6 ∨ m + 11 ≤ a) → vq5 a = v a := fun a g1 g2 => by rw [hvq5, gu_2, gu_n _ _ (by omega)]; exact a4 a g1 g2
              have k5 : ∀ k, vq5 m k = vq4 m k := fun k => by rw [hvq5, gu_2, gu_n _ _ (by omega)]
              have b5 : ∀ k, k ≠ 7 → k ≠ 8 → k ≠ 9 → vq5 m k = v m k := fun k g1 g2 g3 => by rw [k5]; exact b4 k g1 g2 g3
              have t5 : TXm vq5 m tx := ⟨by rw [k5]; exact t4.1, t4.2.1, by rw [a5 _ (by omega) (by omega)]; exact hT.2.2⟩
              have r5 : vq5 m 7 = vq4 m 7 := k5 7
              have s5 : vq5 m 8 = vq4 m 8 := k5 8
              have g5 : vq5 m 9 = nI q := by rw [k5]; exact g4
              rw [r4] at r5
              rw [s4] at s5
              refine g_aload_n (q := 108) dX11_comes_107 rfl rfl ?_
              refine g_dup (q := 109) dX11_comes_108 rfl rfl ?_
              refine g_getI (q := 112) f_X11_202 (by assumption) rfl dX11_comes_109 rfl ?_
              rw [g5]
              refine g_iconst (q := 113) (x := 1) dX11_comes_112 (by decide) rfl ?_
              refine g_iadd (q := 114) dX11_comes_113 rfl ?_
              refine g_putI (q := 117) f_X11_202 (by assumption) rfl rfl rfl dX11_comes_114 rfl ?_
              rw [nI_1]
              refine g_gen (fun vq6 hvq6 => ?_)
              have o6 : ∀ a, a ≠ m → vq6 a = vq5 a := fun a ha => by rw [hvq6, gu_2, gu_n _ _ ha]
              have om6 : ∀ k, k ≠ 9 → vq6 m k = vq5 m k := fun k hk => by rw [hvq6, gu_2, gu_s, ud_n _ _ hk]
              have x9z : vq6 m 9 = nI (q + 1) := by rw [hvq6, gu_2, gu_s, ud_s]
              refine r_v dX11_comes_117 rfl rfl rfl ?_
              have r9z : vq6 m 7 = nI p := by rw [om6 7 (by decide)]; exact r5
              have s9z : vq6 m 8 = 0 := by rw [om6 8 (by decide)]; exact s5
              exact ⟨⟨x9z, fun k g1 g2 g3 => by rw [om6 k g3]; exact b5 k g1 g2 g3, fun a g1 g2 => by rw [o6 a g1]; exact a5 a g1 g2, by rw [o6 _ (by omega)]; exact e5_6, by rw [o6 _ (by omega)]; exact e5_7, by rw [o6 _ (by omega)]; exact e5_8, by rw [o6 _ (by omega)]; exact e5_9, by rw [o6 _ (by omega)]; exact e5_10⟩, r9z, s9z⟩
            · exact absurd hq95 (by decide)
          · exact absurd hq72 (by decide)
      · exact absurd hq43 (by decide)

set_option maxRecDepth 100000 in
set_option maxHeartbeats 4000000 in
theorem p_X11_comes_t {X : gj_X} {lim : Nat} {σ : gj_H} {v : gj_V} {m p q : Nat} {tx : List Int32} (hs : msh σ m) (hT : TXm v m tx) (hp7 : v m 7 = nI p) (hp : p ≤ tx.length) (hp8 : v m 8 = 0) (hp9 : v m 9 = nI q) (hq : q < 120) : gj_E X 2 m_X11_comes [.ref m, .int 116] lim σ v (q_v lim σ (fun v' => ∃ x1 x2 x3 p2 bad, cmw v v' m q 116 x1 x2 x3 ∧ v' m 7 = nI p2 ∧ v' m 8 = (if bad = true then 1 else 0) ∧ p ≤ p2 ∧ p2 ≤ tx.length ∧ (bad = false → (∀ g, flt (tx.drop p) p g 1 false = flt (tx.drop p2) p2 g 0 false) ∧ tz (116 :: tx.drop p) = (116, x1, x2, x3) :: tz (tx.drop p2)) ∧ (bad = true → ∀ g, flt (tx.drop p) p g 1 false = some p2))) := by
  obtain ⟨so, s1, s2, s3, s4, s5, s6, s7, s8, s9, s10, s11, s12⟩ := id hs
  have hl := hT.2.1
  have hlp := hp
  refine gj_E_at (L := [some (.ref m), some (.int 116)]) (k := 0) rfl (by decide) rfl ?_
  refine g_aload_n (q := 1) dX11_comes_0 rfl rfl ?_
  refine g_getR (q := 4) f_X11_25 (by assumption) rfl dX11_comes_1 rfl ?_
  refine g_aload_n (q := 5) dX11_comes_4 rfl rfl ?_
  refine g_getI (q := 8) f_X11_202 (by assumption) rfl dX11_comes_5 rfl ?_
  rw [hp9]
  refine g_iload_n (q := 9) dX11_comes_8 rfl rfl ?_
  refine g_iast (q := 10) (by assumption) rfl (by omega) (by decide) dX11_comes_9 rfl ?_
  refine g_gen (fun vq1 hvq1 => ?_)
  have o1 : ∀ a, a ≠ m + 6 → vq1 a = v a := fun a ha => by rw [hvq1, gu_2, gu_n _ _ ha]
  have e1_6 : vq1 (m + 6) = upd (v (m + 6)) q 116 := by rw [hvq1, gu_2, gu_s]
  have hk1 : ∀ k, vq1 m k = v m k := fun k => by rw [o1 m (by omega)]
  refine g_aload_n (q := 11) dX11_comes_10 rfl rfl ?_
  refine g_getR (q := 14) f_X11_37 (by assumption) rfl dX11_comes_11 rfl ?_
  refine g_aload_n (q := 15) dX11_comes_14 rfl rfl ?_
  refine g_getI (q := 18) f_X11_202 (by assumption) rfl dX11_comes_15 rfl ?_
  rw [hk1, hp9]
  refine g_iconst (q := 19) (x := (-1)) dX11_comes_18 (by decide) rfl ?_
  refine g_iast (q := 20) (by assumption) rfl (by omega) (by decide) dX11_comes_19 rfl ?_
  refine g_gen (fun vq2 hvq2 => ?_)
  have o2 : ∀ a, a ≠ m + 10 → vq2 a = vq1 a := fun a ha => by rw [hvq2, gu_2, gu_n _ _ ha]
  have e2_6 : vq2 (m + 6) = upd (v (m + 6)) q 116 := by rw [o2 _ (by omega)]; exact e1_6
  have e2_7 : vq2 (m + 7) = v (m + 7) := by rw [o2 _ (by omega), o1 _ (by omega)]
  have e2_8 : vq2 (m + 8) = v (m + 8) := by rw [o2 _ (by omega), o1 _ (by omega)]
  have e2_9 : vq2 (m + 9) = v (m + 9) := by rw [o2 _ (by omega), o1 _ (by omega)]
  have e2_10 : vq2 (m + 10) = upd (v (m + 10)) q (-1) := by rw [hvq2, gu_2, gu_s, o1 _ (by omega)]
  have a2 : ∀ a, a ≠ m → (a < m + 6 ∨ m + 11 ≤ a) → vq2 a = v a := fun a g1 g2 => by rw [o2 a (by omega), o1 a (by omega)]
  have b2 : ∀ k, k ≠ 7 → k ≠ 8 → k ≠ 9 → vq2 m k = v m k := fun k g1 g2 g3 => by rw [o2 m (by omega), hk1]
  have t2 : TXm vq2 m tx := ⟨by rw [b2 6 (by decide) (by decide) (by decide)]; exact hT.1, hT.2.1, by rw [a2 _ (by omega) (by omega)]; exact hT.2.2⟩
  have r2 : vq2 m 7 = nI p := by rw [o2 m (by omega), hk1]; exact hp7
  have s2 : vq2 m 8 = 0 := by rw [o2 m (by omega), hk1]; exact hp8
  have g2 : vq2 m 9 = nI q := by rw [o2 m (by omega), hk1]; exact hp9
  refine g_aload_n (q := 21) dX11_comes_20 rfl rfl ?_
  refine g_getR (q := 24) f_X11_28 (by assumption) rfl dX11_comes_21 rfl ?_
  refine g_aload_n (q := 25) dX11_comes_24 rfl rfl ?_
  refine g_getI (q := 28) f_X11_202 (by assumption) rfl dX11_comes_25 rfl ?_
  rw [g2]
  refine g_iload_n (q := 29) dX11_comes_28 rfl rfl ?_
  refine g_bipush (q := 31) (x := 112) dX11_comes_29 (by decide) rfl ?_
  refine g_icmpeq (t := 46) (q := 34) dX11_comes_31 (by decide) rfl (fun hq31 => ?_) (fun hq31 => ?_)
  · exact absurd hq31 (by decide)
  · refine g_iload_n (q := 35) dX11_comes_34 rfl rfl ?_
    refine g_bipush (q := 37) (x := 116) dX11_comes_35 (by decide) rfl ?_
    refine g_icmpeq (t := 46) (q := 40) dX11_comes_37 (by decide) rfl (fun hq37 => ?_) (fun hq37 => ?_)
    · refine g_aload_n (q := 47) dX11_comes_46 rfl rfl ?_
      refine c_Vi (q := 50) (p_X11_figure0 hs t2 r2 hlp s2) k_X11_205 (by assumption) rfl (by decide) rfl rfl (Nat.le_of_ble_eq_true rfl) rfl rfl dX11_comes_47 rfl ?_
      rintro x0 vq3 ⟨o3, q0, bb0, hf0z, r3, s3⟩
      have e3_6 : vq3 (m + 6) = vq2 (m + 6) := o3.1 _ (by omega)
      rw [e2_6] at e3_6
      have e3_7 : vq3 (m + 7) = vq2 (m + 7) := o3.1 _ (by omega)
      rw [e2_7] at e3_7
      have e3_8 : vq3 (m + 8) = vq2 (m + 8) := o3.1 _ (by omega)
      rw [e2_8] at e3_8
      have e3_9 : vq3 (m + 9) = vq2 (m + 9) := o3.1 _ (by omega)
      rw [e2_9] at e3_9
      have e3_10 : vq3 (m + 10) = vq2 (m + 10) := o3.1 _ (by omega)
      rw [e2_10] at e3_10
      have a3 : ∀ a, a ≠ m → (a < m + 6 ∨ m + 11 ≤ a) → vq3 a = v a := fun a g1 g2 => (o3.1 a g1).trans (a2 a g1 g2)
      have b3 : ∀ k, k ≠ 7 → k ≠ 8 → k ≠ 9 → vq3 m k = v m k := fun k g1 g2 g3 => (o3.2 k g1 g2).trans (b2 k g1 g2 g3)
      have t3 := t2.fo o3
      have g3 : vq3 m 9 = nI q := (o3.2 9 (by decide) (by decide)).trans g2
      have hlq0 : q0 ≤ tx.length := fgr_le hf0z
      have hgq0 : p ≤ q0 := fgr_ge hf0z
      refine g_goto (q := 54) dX11_comes_50 (by decide) ?_
      refine g_iast (q := 55) (by assumption) rfl (by omega) (by decide) dX11_comes_54 rfl ?_
      refine g_gen (fun vq4 hvq4 => ?_)
      have e4_6 : vq4 (m + 6) = vq3 (m + 6) := by rw [hvq4, gu_2, gu_n _ _ (by omega)]
      rw [e3_6] at e4_6
      have e4_7 : vq4 (m + 7) = upd (v (m + 7)) q x0 := by rw [hvq4, gu_2, gu_s, e3_7]
      have e4_8 : vq4 (m + 8) = vq3 (m + 8) := by rw [hvq4, gu_2, gu_n _ _ (by omega)]
      rw [e3_8] at e4_8
      have e4_9 : vq4 (m + 9) = vq3 (m + 9) := by rw [hvq4, gu_2, gu_n _ _ (by omega)]
      rw [e3_9] at e4_9
      have e4_10 : vq4 (m + 10) = vq3 (m + 10) := by rw [hvq4, gu_2, gu_n _ _ (by omega)]
      rw [e3_10] at e4_10
      have a4 : ∀ a, a ≠ m → (a < m + 6 ∨ m + 11 ≤ a) → vq4 a = v a := fun a g1 g2 => by rw [hvq4, gu_2, gu_n _ _ (by omega)]; exact a3 a g1 g2
      have k4 : ∀ k, vq4 m k = vq3 m k := fun k => by rw [hvq4, gu_2, gu_n _ _ (by omega)]
      have b4 : ∀ k, k ≠ 7 → k ≠ 8 → k ≠ 9 → vq4 m k = v m k := fun k g1 g2 g3 => by rw [k4]; exact b3 k g1 g2 g3
      have t4 : TXm vq4 m tx := ⟨by rw [k4]; exact t3.1, t3.2.1, by rw [a4 _ (by omega) (by omega)]; exact hT.2.2⟩
      have r4 : vq4 m 7 = vq3 m 7 := k4 7
      have s4 : vq4 m 8 = vq3 m 8 := k4 8
      have g4 : vq4 m 9 = nI q := by rw [k4]; exact g3
      rw [r3] at r4
      rw [s3] at s4
      rcases bb0 with _ | _
      · refine g_aload_n (q := 56) dX11_comes_55 rfl rfl ?_
        refine g_getR (q := 59) f_X11_31 (by assumption) rfl dX11_comes_56 rfl ?_
        refine g_aload_n (q := 60) dX11_comes_59 rfl rfl ?_
        refine g_getI (q := 63) f_X11_202 (by assumption) rfl dX11_comes_60 rfl ?_
        rw [g4]
        refine g_iload_n (q := 64) dX11_comes_63 rfl rfl ?_
        refine g_bipush (q := 66) (x := 112) dX11_comes_64 (by decide) rfl ?_
        refine g_icmpeq (t := 75) (q := 69) dX11_comes_66 (by decide) rfl (fun hq66 => ?_) (fun hq66 => ?_)
        · exact absurd hq66 (by decide)
        · refine g_iload_n (q := 70) dX11_comes_69 rfl rfl ?_
          refine g_bipush (q := 72) (x := 109) dX11_comes_70 (by decide) rfl ?_
          refine g_icmpne (t := 82) (q := 75) dX11_comes_72 (by decide) rfl (fun hq72 => ?_) (fun hq72 => ?_)
          · refine g_iconst (q := 83) (x := 0) dX11_comes_82 (by decide) rfl ?_
            refine g_iast (q := 84) (by assumption) rfl (by omega) (by decide) dX11_comes_83 rfl ?_
            refine g_gen (fun vq5 hvq5 => ?_)
            have e5_6 : vq5 (m + 6) = vq4 (m + 6) := by rw [hvq5, gu_2, gu_n _ _ (by omega)]
            rw [e4_6] at e5_6
            have e5_7 : vq5 (m + 7) = vq4 (m + 7) := by rw [hvq5, gu_2, gu_n _ _ (by omega)]
            rw [e4_7] at e5_7
            have e5_8 : vq5 (m + 8) = upd (v (m + 8)) q 0 := by rw [hvq5, gu_2, gu_s, e4_8]
            have e5_9 : vq5 (m + 9) = vq4 (m + 9) := by rw [hvq5, gu_2, gu_n _ _ (by omega)]
            rw [e4_9] at e5_9
            have e5_10 : vq5 (m + 10) = vq4 (m + 10) := by rw [hvq5, gu_2, gu_n _ _ (by omega)]
            rw [e4_10] at e5_10
            have a5 : ∀ a, a ≠ m → (a < m + 6 ∨ m + 11 ≤ a) → vq5 a = v a := fun a g1 g2 => by rw [hvq5, gu_2, gu_n _ _ (by omega)]; exact a4 a g1 g2
            have k5 : ∀ k, vq5 m k = vq4 m k := fun k => by rw [hvq5, gu_2, gu_n _ _ (by omega)]
            have b5 : ∀ k, k ≠ 7 → k ≠ 8 → k ≠ 9 → vq5 m k = v m k := fun k g1 g2 g3 => by rw [k5]; exact b4 k g1 g2 g3
            have t5 : TXm vq5 m tx := ⟨by rw [k5]; exact t4.1, t4.2.1, by rw [a5 _ (by omega) (by omega)]; exact hT.2.2⟩
            have r5 : vq5 m 7 = vq4 m 7 := k5 7
            have s5 : vq5 m 8 = vq4 m 8 := k5 8
            have g5 : vq5 m 9 = nI q := by rw [k5]; exact g4
            rw [r4] at r5
            rw [s4] at s5
            refine g_aload_n (q := 85) dX11_comes_84 rfl rfl ?_
            refine g_getR (q := 88) f_X11_34 (by assumption) rfl dX11_comes_85 rfl ?_
            refine g_aload_n (q := 89) dX11_comes_88 rfl rfl ?_
            refine g_getI (q := 92) f_X11_202 (by assumption) rfl dX11_comes_89 rfl ?_
            rw [g5]
            refine g_iload_n (q := 93) dX11_comes_92 rfl rfl ?_
            refine g_bipush (q := 95) (x := 109) dX11_comes_93 (by decide) rfl ?_
            refine g_icmpne (t := 105) (q := 98) dX11_comes_95 (by decide) rfl (fun hq95 => ?_) (fun hq95 => ?_)
            · refine g_iconst (q := 106) (x := 0) dX11_comes_105 (by decide) rfl ?_
              refine g_iast (q := 107) (by assumption) rfl (by omega) (by decide) dX11_comes_106 rfl ?_
              refine g_gen (fun vq6 hvq6 => ?_)
              have e6_6 : vq6 (m + 6) = vq5 (m + 6) := by rw [hvq6, gu_2, gu_n _ _ (by omega)]
              rw [e5_6] at e6_6
              have e6_7 : vq6 (m + 7) = vq5 (m + 7) := by rw [hvq6, gu_2, gu_n _ _ (by omega)]
              rw [e5_7] at e6_7
              have e6_8 : vq6 (m + 8) = vq5 (m + 8) := by rw [hvq6, gu_2, gu_n _ _ (by omega)]
              rw [e5_8] at e6_8
              have e6_9 : vq6 (m + 9) = upd (v (m + 9)) q 0 := by rw [hvq6, gu_2, gu_s, e5_9]
              have e6_10 : vq6 (m + 10) = vq5 (m + 10) := by rw [hvq6, gu_2, gu_n _ _ (by omega)]
              rw [e5_10] at e6_10
              have a6 : ∀ a, a ≠ m → (a < m + 6 ∨ m + 11 ≤ a) → vq6 a = v a := fun a g1 g2 => by rw [hvq6, gu_2, gu_n _ _ (by omega)]; exact a5 a g1 g2
              have k6 : ∀ k, vq6 m k = vq5 m k := fun k => by rw [hvq6, gu_2, gu_n _ _ (by omega)]
              have b6 : ∀ k, k ≠ 7 → k ≠ 8 → k ≠ 9 → vq6 m k = v m k := fun k g1 g2 g3 => by rw [k6]; exact b5 k g1 g2 g3
              have t6 : TXm vq6 m tx := ⟨by rw [k6]; exact t5.1, t5.2.1, by rw [a6 _ (by omega) (by omega)]; exact hT.2.2⟩
              have r6 : vq6 m 7 = vq5 m 7 := k6 7
              have s6 : vq6 m 8 = vq5 m 8 := k6 8
              have g6 : vq6 m 9 = nI q := by rw [k6]; exact g5
              rw [r5] at r6
              rw [s5] at s6
              refine g_aload_n (q := 108) dX11_comes_107 rfl rfl ?_
              refine g_dup (q := 109) dX11_comes_108 rfl rfl ?_
              refine g_getI (q := 112) f_X11_202 (by assumption) rfl dX11_comes_109 rfl ?_
              rw [g6]
              refine g_iconst (q := 113) (x := 1) dX11_comes_112 (by decide) rfl ?_
              refine g_iadd (q := 114) dX11_comes_113 rfl ?_
              refine g_putI (q := 117) f_X11_202 (by assumption) rfl rfl rfl dX11_comes_114 rfl ?_
              rw [nI_1]
              refine g_gen (fun vq7 hvq7 => ?_)
              have o7 : ∀ a, a ≠ m → vq7 a = vq6 a := fun a ha => by rw [hvq7, gu_2, gu_n _ _ ha]
              have om7 : ∀ k, k ≠ 9 → vq7 m k = vq6 m k := fun k hk => by rw [hvq7, gu_2, gu_s, ud_n _ _ hk]
              have x9z : vq7 m 9 = nI (q + 1) := by rw [hvq7, gu_2, gu_s, ud_s]
              refine r_v dX11_comes_117 rfl rfl rfl ?_
              have r9z : vq7 m 7 = nI q0 := by rw [om7 7 (by decide)]; exact r6
              have s9z : vq7 m 8 = 0 := by rw [om7 8 (by decide)]; exact s6
              have F0z := fun (g : Nat) (e : Bool) => fgr_flt (g := g) (f := 0) (e := e) hf0z hlp
              have hfl : ∀ g, flt (tx.drop p) p g 1 false = flt (tx.drop q0) q0 g 0 false := fun g => by rw [((F0z g false).1 rfl).1]
              have htz : tz (116 :: tx.drop p) = (116, x0, 0, 0) :: tz (tx.drop q0) := by
                rw [tz_t rfl, ← ((F0z 0 false).1 rfl).2.1, ← ((F0z 0 false).1 rfl).2.2]
              exact ⟨x0, 0, 0, q0, false, ⟨x9z, fun k g1 g2 g3 => by rw [om7 k g3]; exact b6 k g1 g2 g3, fun a g1 g2 => by rw [o7 a g1]; exact a6 a g1 g2, by rw [o7 _ (by omega)]; exact e6_6, by rw [o7 _ (by omega)]; exact e6_7, by rw [o7 _ (by omega)]; exact e6_8, by rw [o7 _ (by omega)]; exact e6_9, by rw [o7 _ (by omega)]; exact e6_10⟩, r9z, s9z, by omega, hlq0, fun _ => ⟨hfl, htz⟩, fun z => absurd z (by decide)⟩
            · exact absurd hq95 (by decide)
          · exact absurd hq72 (by decide)
      · refine g_aload_n (q := 56) dX11_comes_55 rfl rfl ?_
        refine g_getR (q := 59) f_X11_31 (by assumption) rfl dX11_comes_56 rfl ?_
        refine g_aload_n (q := 60) dX11_comes_59 rfl rfl ?_
        refine g_getI (q := 63) f_X11_202 (by assumption) rfl dX11_comes_60 rfl ?_
        rw [g4]
        refine g_iload_n (q := 64) dX11_comes_63 rfl rfl ?_
        refine g_bipush (q := 66) (x := 112) dX11_comes_64 (by decide) rfl ?_
        refine g_icmpeq (t := 75) (q := 69) dX11_comes_66 (by decide) rfl (fun hq66 => ?_) (fun hq66 => ?_)
        · exact absurd hq66 (by decide)
        · refine g_iload_n (q := 70) dX11_comes_69 rfl rfl ?_
          refine g_bipush (q := 72) (x := 109) dX11_comes_70 (by decide) rfl ?_
          refine g_icmpne (t := 82) (q := 75) dX11_comes_72 (by decide) rfl (fun hq72 => ?_) (fun hq72 => ?_)
          · refine g_iconst (q := 83) (x := 0) dX11_comes_82 (by decide) rfl ?_
            refine g_iast (q := 84) (by assumption) rfl (by omega) (by decide) dX11_comes_83 rfl ?_
            refine g_gen (fun vq5 hvq5 => ?_)
            have e5_6 : vq5 (m + 6) = vq4 (m + 6) := by rw [hvq5, gu_2, gu_n _ _ (by omega)]
            rw [e4_6] at e5_6
            have e5_7 : vq5 (m + 7) = vq4 (m + 7) := by rw [hvq5, gu_2, gu_n _ _ (by omega)]
            rw [e4_7] at e5_7
            have e5_8 : vq5 (m + 8) = upd (v (m + 8)) q 0 := by rw [hvq5, gu_2, gu_s, e4_8]
            have e5_9 : vq5 (m + 9) = vq4 (m + 9) := by rw [hvq5, gu_2, gu_n _ _ (by omega)]
            rw [e4_9] at e5_9
            have e5_10 : vq5 (m + 10) = vq4 (m + 10) := by rw [hvq5, gu_2, gu_n _ _ (by omega)]
            rw [e4_10] at e5_10
            have a5 : ∀ a, a ≠ m → (a < m + 6 ∨ m + 11 ≤ a) → vq5 a = v a := fun a g1 g2 => by rw [hvq5, gu_2, gu_n _ _ (by omega)]; exact a4 a g1 g2
            have k5 : ∀ k, vq5 m k = vq4 m k := fun k => by rw [hvq5, gu_2, gu_n _ _ (by omega)]
            have b5 : ∀ k, k ≠ 7 → k ≠ 8 → k ≠ 9 → vq5 m k = v m k := fun k g1 g2 g3 => by rw [k5]; exact b4 k g1 g2 g3
            have t5 : TXm vq5 m tx := ⟨by rw [k5]; exact t4.1, t4.2.1, by rw [a5 _ (by omega) (by omega)]; exact hT.2.2⟩
            have r5 : vq5 m 7 = vq4 m 7 := k5 7
            have s5 : vq5 m 8 = vq4 m 8 := k5 8
            have g5 : vq5 m 9 = nI q := by rw [k5]; exact g4
            rw [r4] at r5
            rw [s4] at s5
            refine g_aload_n (q := 85) dX11_comes_84 rfl rfl ?_
            refine g_getR (q := 88) f_X11_34 (by assumption) rfl dX11_comes_85 rfl ?_
            refine g_aload_n (q := 89) dX11_comes_88 rfl rfl ?_
            refine g_getI (q := 92) f_X11_202 (by assumption) rfl dX11_comes_89 rfl ?_
            rw [g5]
            refine g_iload_n (q := 93) dX11_comes_92 rfl rfl ?_
            refine g_bipush (q := 95) (x := 109) dX11_comes_93 (by decide) rfl ?_
            refine g_icmpne (t := 105) (q := 98) dX11_comes_95 (by decide) rfl (fun hq95 => ?_) (fun hq95 => ?_)
            · refine g_iconst (q := 106) (x := 0) dX11_comes_105 (by decide) rfl ?_
              refine g_iast (q := 107) (by assumption) rfl (by omega) (by decide) dX11_comes_106 rfl ?_
              refine g_gen (fun vq6 hvq6 => ?_)
              have e6_6 : vq6 (m + 6) = vq5 (m + 6) := by rw [hvq6, gu_2, gu_n _ _ (by omega)]
              rw [e5_6] at e6_6
              have e6_7 : vq6 (m + 7) = vq5 (m + 7) := by rw [hvq6, gu_2, gu_n _ _ (by omega)]
              rw [e5_7] at e6_7
              have e6_8 : vq6 (m + 8) = vq5 (m + 8) := by rw [hvq6, gu_2, gu_n _ _ (by omega)]
              rw [e5_8] at e6_8
              have e6_9 : vq6 (m + 9) = upd (v (m + 9)) q 0 := by rw [hvq6, gu_2, gu_s, e5_9]
              have e6_10 : vq6 (m + 10) = vq5 (m + 10) := by rw [hvq6, gu_2, gu_n _ _ (by omega)]
              rw [e5_10] at e6_10
              have a6 : ∀ a, a ≠ m → (a < m + 6 ∨ m + 11 ≤ a) → vq6 a = v a := fun a g1 g2 => by rw [hvq6, gu_2, gu_n _ _ (by omega)]; exact a5 a g1 g2
              have k6 : ∀ k, vq6 m k = vq5 m k := fun k => by rw [hvq6, gu_2, gu_n _ _ (by omega)]
              have b6 : ∀ k, k ≠ 7 → k ≠ 8 → k ≠ 9 → vq6 m k = v m k := fun k g1 g2 g3 => by rw [k6]; exact b5 k g1 g2 g3
              have t6 : TXm vq6 m tx := ⟨by rw [k6]; exact t5.1, t5.2.1, by rw [a6 _ (by omega) (by omega)]; exact hT.2.2⟩
              have r6 : vq6 m 7 = vq5 m 7 := k6 7
              have s6 : vq6 m 8 = vq5 m 8 := k6 8
              have g6 : vq6 m 9 = nI q := by rw [k6]; exact g5
              rw [r5] at r6
              rw [s5] at s6
              refine g_aload_n (q := 108) dX11_comes_107 rfl rfl ?_
              refine g_dup (q := 109) dX11_comes_108 rfl rfl ?_
              refine g_getI (q := 112) f_X11_202 (by assumption) rfl dX11_comes_109 rfl ?_
              rw [g6]
              refine g_iconst (q := 113) (x := 1) dX11_comes_112 (by decide) rfl ?_
              refine g_iadd (q := 114) dX11_comes_113 rfl ?_
              refine g_putI (q := 117) f_X11_202 (by assumption) rfl rfl rfl dX11_comes_114 rfl ?_
              rw [nI_1]
              refine g_gen (fun vq7 hvq7 => ?_)
              have o7 : ∀ a, a ≠ m → vq7 a = vq6 a := fun a ha => by rw [hvq7, gu_2, gu_n _ _ ha]
              have om7 : ∀ k, k ≠ 9 → vq7 m k = vq6 m k := fun k hk => by rw [hvq7, gu_2, gu_s, ud_n _ _ hk]
              have x9z : vq7 m 9 = nI (q + 1) := by rw [hvq7, gu_2, gu_s, ud_s]
              refine r_v dX11_comes_117 rfl rfl rfl ?_
              have r9z : vq7 m 7 = nI q0 := by rw [om7 7 (by decide)]; exact r6
              have s9z : vq7 m 8 = 1 := by rw [om7 8 (by decide)]; exact s6
              have F0z := fun (g : Nat) (e : Bool) => fgr_flt (g := g) (f := 0) (e := e) hf0z hlp
              have hfl : ∀ g, flt (tx.drop p) p g 1 false = some q0 := fun g => by rw [(F0z g false).2 rfl]
              exact ⟨x0, 0, 0, q0, true, ⟨x9z, fun k g1 g2 g3 => by rw [om7 k g3]; exact b6 k g1 g2 g3, fun a g1 g2 => by rw [o7 a g1]; exact a6 a g1 g2, by rw [o7 _ (by omega)]; exact e6_6, by rw [o7 _ (by omega)]; exact e6_7, by rw [o7 _ (by omega)]; exact e6_8, by rw [o7 _ (by omega)]; exact e6_9, by rw [o7 _ (by omega)]; exact e6_10⟩, r9z, s9z, by omega, hlq0, fun z => absurd z (by decide), fun _ => hfl⟩
            · exact absurd hq95 (by decide)
          · exact absurd hq72 (by decide)
    · exact absurd rfl hq37

set_option maxRecDepth 100000 in
set_option maxHeartbeats 4000000 in
theorem p_X11_comes_p {X : gj_X} {lim : Nat} {σ : gj_H} {v : gj_V} {m p q : Nat} {tx : List Int32} (hs : msh σ m) (hT : TXm v m tx) (hp7 : v m 7 = nI p) (hp : p ≤ tx.length) (hp8 : v m 8 = 0) (hp9 : v m 9 = nI q) (hq : q < 120) : gj_E X 2 m_X11_comes [.ref m, .int 112] lim σ v (q_v lim σ (fun v' => ∃ x1 x2 x3 p2 bad, cmw v v' m q 112 x1 x2 x3 ∧ v' m 7 = nI p2 ∧ v' m 8 = (if bad = true then 1 else 0) ∧ p ≤ p2 ∧ p2 ≤ tx.length ∧ (bad = false → (∀ g, flt (tx.drop p) p g 2 false = flt (tx.drop p2) p2 g 0 false) ∧ tz (112 :: tx.drop p) = (112, x1, x2, x3) :: tz (tx.drop p2)) ∧ (bad = true → ∀ g, flt (tx.drop p) p g 2 false = some p2))) := by
  obtain ⟨so, s1, s2, s3, s4, s5, s6, s7, s8, s9, s10, s11, s12⟩ := id hs
  have hl := hT.2.1
  have hlp := hp
  refine gj_E_at (L := [some (.ref m), some (.int 112)]) (k := 0) rfl (by decide) rfl ?_
  refine g_aload_n (q := 1) dX11_comes_0 rfl rfl ?_
  refine g_getR (q := 4) f_X11_25 (by assumption) rfl dX11_comes_1 rfl ?_
  refine g_aload_n (q := 5) dX11_comes_4 rfl rfl ?_
  refine g_getI (q := 8) f_X11_202 (by assumption) rfl dX11_comes_5 rfl ?_
  rw [hp9]
  refine g_iload_n (q := 9) dX11_comes_8 rfl rfl ?_
  refine g_iast (q := 10) (by assumption) rfl (by omega) (by decide) dX11_comes_9 rfl ?_
  refine g_gen (fun vq1 hvq1 => ?_)
  have o1 : ∀ a, a ≠ m + 6 → vq1 a = v a := fun a ha => by rw [hvq1, gu_2, gu_n _ _ ha]
  have e1_6 : vq1 (m + 6) = upd (v (m + 6)) q 112 := by rw [hvq1, gu_2, gu_s]
  have hk1 : ∀ k, vq1 m k = v m k := fun k => by rw [o1 m (by omega)]
  refine g_aload_n (q := 11) dX11_comes_10 rfl rfl ?_
  refine g_getR (q := 14) f_X11_37 (by assumption) rfl dX11_comes_11 rfl ?_
  refine g_aload_n (q := 15) dX11_comes_14 rfl rfl ?_
  refine g_getI (q := 18) f_X11_202 (by assumption) rfl dX11_comes_15 rfl ?_
  rw [hk1, hp9]
  refine g_iconst (q := 19) (x := (-1)) dX11_comes_18 (by decide) rfl ?_
  refine g_iast (q := 20) (by assumption) rfl (by omega) (by decide) dX11_comes_19 rfl ?_
  refine g_gen (fun vq2 hvq2 => ?_)
  have o2 : ∀ a, a ≠ m + 10 → vq2 a = vq1 a := fun a ha => by rw [hvq2, gu_2, gu_n _ _ ha]
  have e2_6 : vq2 (m + 6) = upd (v (m + 6)) q 112 := by rw [o2 _ (by omega)]; exact e1_6
  have e2_7 : vq2 (m + 7) = v (m + 7) := by rw [o2 _ (by omega), o1 _ (by omega)]
  have e2_8 : vq2 (m + 8) = v (m + 8) := by rw [o2 _ (by omega), o1 _ (by omega)]
  have e2_9 : vq2 (m + 9) = v (m + 9) := by rw [o2 _ (by omega), o1 _ (by omega)]
  have e2_10 : vq2 (m + 10) = upd (v (m + 10)) q (-1) := by rw [hvq2, gu_2, gu_s, o1 _ (by omega)]
  have a2 : ∀ a, a ≠ m → (a < m + 6 ∨ m + 11 ≤ a) → vq2 a = v a := fun a g1 g2 => by rw [o2 a (by omega), o1 a (by omega)]
  have b2 : ∀ k, k ≠ 7 → k ≠ 8 → k ≠ 9 → vq2 m k = v m k := fun k g1 g2 g3 => by rw [o2 m (by omega), hk1]
  have t2 : TXm vq2 m tx := ⟨by rw [b2 6 (by decide) (by decide) (by decide)]; exact hT.1, hT.2.1, by rw [a2 _ (by omega) (by omega)]; exact hT.2.2⟩
  have r2 : vq2 m 7 = nI p := by rw [o2 m (by omega), hk1]; exact hp7
  have s2 : vq2 m 8 = 0 := by rw [o2 m (by omega), hk1]; exact hp8
  have g2 : vq2 m 9 = nI q := by rw [o2 m (by omega), hk1]; exact hp9
  refine g_aload_n (q := 21) dX11_comes_20 rfl rfl ?_
  refine g_getR (q := 24) f_X11_28 (by assumption) rfl dX11_comes_21 rfl ?_
  refine g_aload_n (q := 25) dX11_comes_24 rfl rfl ?_
  refine g_getI (q := 28) f_X11_202 (by assumption) rfl dX11_comes_25 rfl ?_
  rw [g2]
  refine g_iload_n (q := 29) dX11_comes_28 rfl rfl ?_
  refine g_bipush (q := 31) (x := 112) dX11_comes_29 (by decide) rfl ?_
  refine g_icmpeq (t := 46) (q := 34) dX11_comes_31 (by decide) rfl (fun hq31 => ?_) (fun hq31 => ?_)
  · refine g_aload_n (q := 47) dX11_comes_46 rfl rfl ?_
    refine c_Vi (q := 50) (p_X11_figure0 hs t2 r2 hlp s2) k_X11_205 (by assumption) rfl (by decide) rfl rfl (Nat.le_of_ble_eq_true rfl) rfl rfl dX11_comes_47 rfl ?_
    rintro x0 vq3 ⟨o3, q0, bb0, hf0z, r3, s3⟩
    have e3_6 : vq3 (m + 6) = vq2 (m + 6) := o3.1 _ (by omega)
    rw [e2_6] at e3_6
    have e3_7 : vq3 (m + 7) = vq2 (m + 7) := o3.1 _ (by omega)
    rw [e2_7] at e3_7
    have e3_8 : vq3 (m + 8) = vq2 (m + 8) := o3.1 _ (by omega)
    rw [e2_8] at e3_8
    have e3_9 : vq3 (m + 9) = vq2 (m + 9) := o3.1 _ (by omega)
    rw [e2_9] at e3_9
    have e3_10 : vq3 (m + 10) = vq2 (m + 10) := o3.1 _ (by omega)
    rw [e2_10] at e3_10
    have a3 : ∀ a, a ≠ m → (a < m + 6 ∨ m + 11 ≤ a) → vq3 a = v a := fun a g1 g2 => (o3.1 a g1).trans (a2 a g1 g2)
    have b3 : ∀ k, k ≠ 7 → k ≠ 8 → k ≠ 9 → vq3 m k = v m k := fun k g1 g2 g3 => (o3.2 k g1 g2).trans (b2 k g1 g2 g3)
    have t3 := t2.fo o3
    have g3 : vq3 m 9 = nI q := (o3.2 9 (by decide) (by decide)).trans g2
    have hlq0 : q0 ≤ tx.length := fgr_le hf0z
    have hgq0 : p ≤ q0 := fgr_ge hf0z
    refine g_goto (q := 54) dX11_comes_50 (by decide) ?_
    refine g_iast (q := 55) (by assumption) rfl (by omega) (by decide) dX11_comes_54 rfl ?_
    refine g_gen (fun vq4 hvq4 => ?_)
    have e4_6 : vq4 (m + 6) = vq3 (m + 6) := by rw [hvq4, gu_2, gu_n _ _ (by omega)]
    rw [e3_6] at e4_6
    have e4_7 : vq4 (m + 7) = upd (v (m + 7)) q x0 := by rw [hvq4, gu_2, gu_s, e3_7]
    have e4_8 : vq4 (m + 8) = vq3 (m + 8) := by rw [hvq4, gu_2, gu_n _ _ (by omega)]
    rw [e3_8] at e4_8
    have e4_9 : vq4 (m + 9) = vq3 (m + 9) := by rw [hvq4, gu_2, gu_n _ _ (by omega)]
    rw [e3_9] at e4_9
    have e4_10 : vq4 (m + 10) = vq3 (m + 10) := by rw [hvq4, gu_2, gu_n _ _ (by omega)]
    rw [e3_10] at e4_10
    have a4 : ∀ a, a ≠ m → (a < m + 6 ∨ m + 11 ≤ a) → vq4 a = v a := fun a g1 g2 => by rw [hvq4, gu_2, gu_n _ _ (by omega)]; exact a3 a g1 g2
    have k4 : ∀ k, vq4 m k = vq3 m k := fun k => by rw [hvq4, gu_2, gu_n _ _ (by omega)]
    have b4 : ∀ k, k ≠ 7 → k ≠ 8 → k ≠ 9 → vq4 m k = v m k := fun k g1 g2 g3 => by rw [k4]; exact b3 k g1 g2 g3
    have t4 : TXm vq4 m tx := ⟨by rw [k4]; exact t3.1, t3.2.1, by rw [a4 _ (by omega) (by omega)]; exact hT.2.2⟩
    have r4 : vq4 m 7 = vq3 m 7 := k4 7
    have s4 : vq4 m 8 = vq3 m 8 := k4 8
    have g4 : vq4 m 9 = nI q := by rw [k4]; exact g3
    rw [r3] at r4
    rw [s3] at s4
    rcases bb0 with _ | _
    · refine g_aload_n (q := 56) dX11_comes_55 rfl rfl ?_
      refine g_getR (q := 59) f_X11_31 (by assumption) rfl dX11_comes_56 rfl ?_
      refine g_aload_n (q := 60) dX11_comes_59 rfl rfl ?_
      refine g_getI (q := 63) f_X11_202 (by assumption) rfl dX11_comes_60 rfl ?_
      rw [g4]
      refine g_iload_n (q := 64) dX11_comes_63 rfl rfl ?_
      refine g_bipush (q := 66) (x := 112) dX11_comes_64 (by decide) rfl ?_
      refine g_icmpeq (t := 75) (q := 69) dX11_comes_66 (by decide) rfl (fun hq66 => ?_) (fun hq66 => ?_)
      · refine g_aload_n (q := 76) dX11_comes_75 rfl rfl ?_
        refine c_Vi (q := 79) (p_X11_figure0 hs t4 r4 hlq0 s4) k_X11_205 (by assumption) rfl (by decide) rfl rfl (Nat.le_of_ble_eq_true rfl) rfl rfl dX11_comes_76 rfl ?_
        rintro x1 vq5 ⟨o5, q1, bb1, hf1z, r5, s5⟩
        have e5_6 : vq5 (m + 6) = vq4 (m + 6) := o5.1 _ (by omega)
        rw [e4_6] at e5_6
        have e5_7 : vq5 (m + 7) = vq4 (m + 7) := o5.1 _ (by omega)
        rw [e4_7] at e5_7
        have e5_8 : vq5 (m + 8) = vq4 (m + 8) := o5.1 _ (by omega)
        rw [e4_8] at e5_8
        have e5_9 : vq5 (m + 9) = vq4 (m + 9) := o5.1 _ (by omega)
        rw [e4_9] at e5_9
        have e5_10 : vq5 (m + 10) = vq4 (m + 10) := o5.1 _ (by omega)
        rw [e4_10] at e5_10
        have a5 : ∀ a, a ≠ m → (a < m + 6 ∨ m + 11 ≤ a) → vq5 a = v a := fun a g1 g2 => (o5.1 a g1).trans (a4 a g1 g2)
        have b5 : ∀ k, k ≠ 7 → k ≠ 8 → k ≠ 9 → vq5 m k = v m k := fun k g1 g2 g3 => (o5.2 k g1 g2).trans (b4 k g1 g2 g3)
        have t5 := t4.fo o5
        have g5 : vq5 m 9 = nI q := (o5.2 9 (by decide) (by decide)).trans g4
        have hlq1 : q1 ≤ tx.length := fgr_le hf1z
        have hgq1 : q0 ≤ q1 := fgr_ge hf1z
        refine g_goto (q := 83) dX11_comes_79 (by decide) ?_
        refine g_iast (q := 84) (by assumption) rfl (by omega) (by decide) dX11_comes_83 rfl ?_
        refine g_gen (fun vq6 hvq6 => ?_)
        have e6_6 : vq6 (m + 6) = vq5 (m + 6) := by rw [hvq6, gu_2, gu_n _ _ (by omega)]
        rw [e5_6] at e6_6
        have e6_7 : vq6 (m + 7) = vq5 (m + 7) := by rw [hvq6, gu_2, gu_n _ _ (by omega)]
        rw [e5_7] at e6_7
        have e6_8 : vq6 (m + 8) = upd (v (m + 8)) q x1 := by rw [hvq6, gu_2, gu_s, e5_8]
        have e6_9 : vq6 (m + 9) = vq5 (m + 9) := by rw [hvq6, gu_2, gu_n _ _ (by omega)]
        rw [e5_9] at e6_9
        have e6_10 : vq6 (m + 10) = vq5 (m + 10) := by rw [hvq6, gu_2, gu_n _ _ (by omega)]
        rw [e5_10] at e6_10
        have a6 : ∀ a, a ≠ m → (a < m + 6 ∨ m + 11 ≤ a) → vq6 a = v a := fun a g1 g2 => by rw [hvq6, gu_2, gu_n _ _ (by omega)]; exact a5 a g1 g2
        have k6 : ∀ k, vq6 m k = vq5 m k := fun k => by rw [hvq6, gu_2, gu_n _ _ (by omega)]
        have b6 : ∀ k, k ≠ 7 → k ≠ 8 → k ≠ 9 → vq6 m k = v m k := fun k g1 g2 g3 => by rw [k6]; exact b5 k g1 g2 g3
        have t6 : TXm vq6 m tx := ⟨by rw [k6]; exact t5.1, t5.2.1, by rw [a6 _ (by omega) (by omega)]; exact hT.2.2⟩
        have r6 : vq6 m 7 = vq5 m 7 := k6 7
        have s6 : vq6 m 8 = vq5 m 8 := k6 8
        have g6 : vq6 m 9 = nI q := by rw [k6]; exact g5
        rw [r5] at r6
        rw [s5] at s6
        rcases bb1 with _ | _
        · refine g_aload_n (q := 85) dX11_comes_84 rfl rfl ?_
          refine g_getR (q := 88) f_X11_34 (by assumption) rfl dX11_comes_85 rfl ?_
          refine g_aload_n (q := 89) dX11_comes_88 rfl rfl ?_
          refine g_getI (q := 92) f_X11_202 (by assumption) rfl dX11_comes_89 rfl ?_
          rw [g6]
          refine g_iload_n (q := 93) dX11_comes_92 rfl rfl ?_
          refine g_bipush (q := 95) (x := 109) dX11_comes_93 (by decide) rfl ?_
          refine g_icmpne (t := 105) (q := 98) dX11_comes_95 (by decide) rfl (fun hq95 => ?_) (fun hq95 => ?_)
          · refine g_iconst (q := 106) (x := 0) dX11_comes_105 (by decide) rfl ?_
            refine g_iast (q := 107) (by assumption) rfl (by omega) (by decide) dX11_comes_106 rfl ?_
            refine g_gen (fun vq7 hvq7 => ?_)
            have e7_6 : vq7 (m + 6) = vq6 (m + 6) := by rw [hvq7, gu_2, gu_n _ _ (by omega)]
            rw [e6_6] at e7_6
            have e7_7 : vq7 (m + 7) = vq6 (m + 7) := by rw [hvq7, gu_2, gu_n _ _ (by omega)]
            rw [e6_7] at e7_7
            have e7_8 : vq7 (m + 8) = vq6 (m + 8) := by rw [hvq7, gu_2, gu_n _ _ (by omega)]
            rw [e6_8] at e7_8
            have e7_9 : vq7 (m + 9) = upd (v (m + 9)) q 0 := by rw [hvq7, gu_2, gu_s, e6_9]
            have e7_10 : vq7 (m + 10) = vq6 (m + 10) := by rw [hvq7, gu_2, gu_n _ _ (by omega)]
            rw [e6_10] at e7_10
            have a7 : ∀ a, a ≠ m → (a < m + 6 ∨ m + 11 ≤ a) → vq7 a = v a := fun a g1 g2 => by rw [hvq7, gu_2, gu_n _ _ (by omega)]; exact a6 a g1 g2
            have k7 : ∀ k, vq7 m k = vq6 m k := fun k => by rw [hvq7, gu_2, gu_n _ _ (by omega)]
            have b7 : ∀ k, k ≠ 7 → k ≠ 8 → k ≠ 9 → vq7 m k = v m k := fun k g1 g2 g3 => by rw [k7]; exact b6 k g1 g2 g3
            have t7 : TXm vq7 m tx := ⟨by rw [k7]; exact t6.1, t6.2.1, by rw [a7 _ (by omega) (by omega)]; exact hT.2.2⟩
            have r7 : vq7 m 7 = vq6 m 7 := k7 7
            have s7 : vq7 m 8 = vq6 m 8 := k7 8
            have g7 : vq7 m 9 = nI q := by rw [k7]; exact g6
            rw [r6] at r7
            rw [s6] at s7
            refine g_aload_n (q := 108) dX11_comes_107 rfl rfl ?_
            refine g_dup (q := 109) dX11_comes_108 rfl rfl ?_
            refine g_getI (q := 112) f_X11_202 (by assumption) rfl dX11_comes_109 rfl ?_
            rw [g7]
            refine g_iconst (q := 113) (x := 1) dX11_comes_112 (by decide) rfl ?_
            refine g_iadd (q := 114) dX11_comes_113 rfl ?_
            refine g_putI (q := 117) f_X11_202 (by assumption) rfl rfl rfl dX11_comes_114 rfl ?_
            rw [nI_1]
            refine g_gen (fun vq8 hvq8 => ?_)
            have o8 : ∀ a, a ≠ m → vq8 a = vq7 a := fun a ha => by rw [hvq8, gu_2, gu_n _ _ ha]
            have om8 : ∀ k, k ≠ 9 → vq8 m k = vq7 m k := fun k hk => by rw [hvq8, gu_2, gu_s, ud_n _ _ hk]
            have x9z : vq8 m 9 = nI (q + 1) := by rw [hvq8, gu_2, gu_s, ud_s]
            refine r_v dX11_comes_117 rfl rfl rfl ?_
            have r9z : vq8 m 7 = nI q1 := by rw [om8 7 (by decide)]; exact r7
            have s9z : vq8 m 8 = 0 := by rw [om8 8 (by decide)]; exact s7
            have F0z := fun (g : Nat) (e : Bool) => fgr_flt (g := g) (f := 1) (e := e) hf0z hlp
            have F1z := fun (g : Nat) (e : Bool) => fgr_flt (g := g) (f := 0) (e := e) hf1z hlq0
            have hfl : ∀ g, flt (tx.drop p) p g 2 false = flt (tx.drop q1) q1 g 0 false := fun g => by rw [((F0z g false).1 rfl).1, ((F1z g false).1 rfl).1]
            have htz : tz (112 :: tx.drop p) = (112, x0, x1, 0) :: tz (tx.drop q1) := by
              rw [tz_p rfl, ← ((F0z 0 false).1 rfl).2.1, ← ((F0z 0 false).1 rfl).2.2, ← ((F1z 0 false).1 rfl).2.1, ← ((F1z 0 false).1 rfl).2.2]
            exact ⟨x0, x1, 0, q1, false, ⟨x9z, fun k g1 g2 g3 => by rw [om8 k g3]; exact b7 k g1 g2 g3, fun a g1 g2 => by rw [o8 a g1]; exact a7 a g1 g2, by rw [o8 _ (by omega)]; exact e7_6, by rw [o8 _ (by omega)]; exact e7_7, by rw [o8 _ (by omega)]; exact e7_8, by rw [o8 _ (by omega)]; exact e7_9, by rw [o8 _ (by omega)]; exact e7_10⟩, r9z, s9z, by omega, hlq1, fun _ => ⟨hfl, htz⟩, fun z => absurd z (by decide)⟩
          · exact absurd hq95 (by decide)
        · refine g_aload_n (q := 85) dX11_comes_84 rfl rfl ?_
          refine g_getR (q := 88) f_X11_34 (by assumption) rfl dX11_comes_85 rfl ?_
          refine g_aload_n (q := 89) dX11_comes_88 rfl rfl ?_
          refine g_getI (q := 92) f_X11_202 (by assumption) rfl dX11_comes_89 rfl ?_
          rw [g6]
          refine g_iload_n (q := 93) dX11_comes_92 rfl rfl ?_
          refine g_bipush (q := 95) (x := 109) dX11_comes_93 (by decide) rfl ?_
          refine g_icmpne (t := 105) (q := 98) dX11_comes_95 (by decide) rfl (fun hq95 => ?_) (fun hq95 => ?_)
          · refine g_iconst (q := 106) (x := 0) dX11_comes_105 (by decide) rfl ?_
            refine g_iast (q := 107) (by assumption) rfl (by omega) (by decide) dX11_comes_106 rfl ?_
            refine g_gen (fun vq7 hvq7 => ?_)
            have e7_6 : vq7 (m + 6) = vq6 (m + 6) := by rw [hvq7, gu_2, gu_n _ _ (by omega)]
            rw [e6_6] at e7_6
            have e7_7 : vq7 (m + 7) = vq6 (m + 7) := by rw [hvq7, gu_2, gu_n _ _ (by omega)]
            rw [e6_7] at e7_7
            have e7_8 : vq7 (m + 8) = vq6 (m + 8) := by rw [hvq7, gu_2, gu_n _ _ (by omega)]
            rw [e6_8] at e7_8
            have e7_9 : vq7 (m + 9) = upd (v (m + 9)) q 0 := by rw [hvq7, gu_2, gu_s, e6_9]
            have e7_10 : vq7 (m + 10) = vq6 (m + 10) := by rw [hvq7, gu_2, gu_n _ _ (by omega)]
            rw [e6_10] at e7_10
            have a7 : ∀ a, a ≠ m → (a < m + 6 ∨ m + 11 ≤ a) → vq7 a = v a := fun a g1 g2 => by rw [hvq7, gu_2, gu_n _ _ (by omega)]; exact a6 a g1 g2
            have k7 : ∀ k, vq7 m k = vq6 m k := fun k => by rw [hvq7, gu_2, gu_n _ _ (by omega)]
            have b7 : ∀ k, k ≠ 7 → k ≠ 8 → k ≠ 9 → vq7 m k = v m k := fun k g1 g2 g3 => by rw [k7]; exact b6 k g1 g2 g3
            have t7 : TXm vq7 m tx := ⟨by rw [k7]; exact t6.1, t6.2.1, by rw [a7 _ (by omega) (by omega)]; exact hT.2.2⟩
            have r7 : vq7 m 7 = vq6 m 7 := k7 7
            have s7 : vq7 m 8 = vq6 m 8 := k7 8
            have g7 : vq7 m 9 = nI q := by rw [k7]; exact g6
            rw [r6] at r7
            rw [s6] at s7
            refine g_aload_n (q := 108) dX11_comes_107 rfl rfl ?_
            refine g_dup (q := 109) dX11_comes_108 rfl rfl ?_
            refine g_getI (q := 112) f_X11_202 (by assumption) rfl dX11_comes_109 rfl ?_
            rw [g7]
            refine g_iconst (q := 113) (x := 1) dX11_comes_112 (by decide) rfl ?_
            refine g_iadd (q := 114) dX11_comes_113 rfl ?_
            refine g_putI (q := 117) f_X11_202 (by assumption) rfl rfl rfl dX11_comes_114 rfl ?_
            rw [nI_1]
            refine g_gen (fun vq8 hvq8 => ?_)
            have o8 : ∀ a, a ≠ m → vq8 a = vq7 a := fun a ha => by rw [hvq8, gu_2, gu_n _ _ ha]
            have om8 : ∀ k, k ≠ 9 → vq8 m k = vq7 m k := fun k hk => by rw [hvq8, gu_2, gu_s, ud_n _ _ hk]
            have x9z : vq8 m 9 = nI (q + 1) := by rw [hvq8, gu_2, gu_s, ud_s]
            refine r_v dX11_comes_117 rfl rfl rfl ?_
            have r9z : vq8 m 7 = nI q1 := by rw [om8 7 (by decide)]; exact r7
            have s9z : vq8 m 8 = 1 := by rw [om8 8 (by decide)]; exact s7
            have F0z := fun (g : Nat) (e : Bool) => fgr_flt (g := g) (f := 1) (e := e) hf0z hlp
            have F1z := fun (g : Nat) (e : Bool) => fgr_flt (g := g) (f := 0) (e := e) hf1z hlq0
            have hfl : ∀ g, flt (tx.drop p) p g 2 false = some q1 := fun g => by rw [((F0z g false).1 rfl).1, (F1z g false).2 rfl]
            exact ⟨x0, x1, 0, q1, true, ⟨x9z, fun k g1 g2 g3 => by rw [om8 k g3]; exact b7 k g1 g2 g3, fun a g1 g2 => by rw [o8 a g1]; exact a7 a g1 g2, by rw [o8 _ (by omega)]; exact e7_6, by rw [o8 _ (by omega)]; exact e7_7, by rw [o8 _ (by omega)]; exact e7_8, by rw [o8 _ (by omega)]; exact e7_9, by rw [o8 _ (by omega)]; exact e7_10⟩, r9z, s9z, by omega, hlq1, fun z => absurd z (by decide), fun _ => hfl⟩
          · exact absurd hq95 (by decide)
      · exact absurd rfl hq66
    · refine g_aload_n (q := 56) dX11_comes_55 rfl rfl ?_
      refine g_getR (q := 59) f_X11_31 (by assumption) rfl dX11_comes_56 rfl ?_
      refine g_aload_n (q := 60) dX11_comes_59 rfl rfl ?_
      refine g_getI (q := 63) f_X11_202 (by assumption) rfl dX11_comes_60 rfl ?_
      rw [g4]
      refine g_iload_n (q := 64) dX11_comes_63 rfl rfl ?_
      refine g_bipush (q := 66) (x := 112) dX11_comes_64 (by decide) rfl ?_
      refine g_icmpeq (t := 75) (q := 69) dX11_comes_66 (by decide) rfl (fun hq66 => ?_) (fun hq66 => ?_)
      · refine g_aload_n (q := 76) dX11_comes_75 rfl rfl ?_
        refine c_Vi (q := 79) (p_X11_figure1 hs t4 r4 hlq0 s4) k_X11_205 (by assumption) rfl (by decide) rfl rfl (Nat.le_of_ble_eq_true rfl) rfl rfl dX11_comes_76 rfl ?_
        rintro x1 vq5 ⟨o5, r5, s5⟩
        have e5_6 : vq5 (m + 6) = vq4 (m + 6) := o5.1 _ (by omega)
        rw [e4_6] at e5_6
        have e5_7 : vq5 (m + 7) = vq4 (m + 7) := o5.1 _ (by omega)
        rw [e4_7] at e5_7
        have e5_8 : vq5 (m + 8) = vq4 (m + 8) := o5.1 _ (by omega)
        rw [e4_8] at e5_8
        have e5_9 : vq5 (m + 9) = vq4 (m + 9) := o5.1 _ (by omega)
        rw [e4_9] at e5_9
        have e5_10 : vq5 (m + 10) = vq4 (m + 10) := o5.1 _ (by omega)
        rw [e4_10] at e5_10
        have a5 : ∀ a, a ≠ m → (a < m + 6 ∨ m + 11 ≤ a) → vq5 a = v a := fun a g1 g2 => (o5.1 a g1).trans (a4 a g1 g2)
        have b5 : ∀ k, k ≠ 7 → k ≠ 8 → k ≠ 9 → vq5 m k = v m k := fun k g1 g2 g3 => (o5.2 k g1 g2).trans (b4 k g1 g2 g3)
        have t5 := t4.fo o5
        have g5 : vq5 m 9 = nI q := (o5.2 9 (by decide) (by decide)).trans g4
        refine g_goto (q := 83) dX11_comes_79 (by decide) ?_
        refine g_iast (q := 84) (by assumption) rfl (by omega) (by decide) dX11_comes_83 rfl ?_
        refine g_gen (fun vq6 hvq6 => ?_)
        have e6_6 : vq6 (m + 6) = vq5 (m + 6) := by rw [hvq6, gu_2, gu_n _ _ (by omega)]
        rw [e5_6] at e6_6
        have e6_7 : vq6 (m + 7) = vq5 (m + 7) := by rw [hvq6, gu_2, gu_n _ _ (by omega)]
        rw [e5_7] at e6_7
        have e6_8 : vq6 (m + 8) = upd (v (m + 8)) q x1 := by rw [hvq6, gu_2, gu_s, e5_8]
        have e6_9 : vq6 (m + 9) = vq5 (m + 9) := by rw [hvq6, gu_2, gu_n _ _ (by omega)]
        rw [e5_9] at e6_9
        have e6_10 : vq6 (m + 10) = vq5 (m + 10) := by rw [hvq6, gu_2, gu_n _ _ (by omega)]
        rw [e5_10] at e6_10
        have a6 : ∀ a, a ≠ m → (a < m + 6 ∨ m + 11 ≤ a) → vq6 a = v a := fun a g1 g2 => by rw [hvq6, gu_2, gu_n _ _ (by omega)]; exact a5 a g1 g2
        have k6 : ∀ k, vq6 m k = vq5 m k := fun k => by rw [hvq6, gu_2, gu_n _ _ (by omega)]
        have b6 : ∀ k, k ≠ 7 → k ≠ 8 → k ≠ 9 → vq6 m k = v m k := fun k g1 g2 g3 => by rw [k6]; exact b5 k g1 g2 g3
        have t6 : TXm vq6 m tx := ⟨by rw [k6]; exact t5.1, t5.2.1, by rw [a6 _ (by omega) (by omega)]; exact hT.2.2⟩
        have r6 : vq6 m 7 = vq5 m 7 := k6 7
        have s6 : vq6 m 8 = vq5 m 8 := k6 8
        have g6 : vq6 m 9 = nI q := by rw [k6]; exact g5
        rw [r5] at r6
        rw [s5] at s6
        refine g_aload_n (q := 85) dX11_comes_84 rfl rfl ?_
        refine g_getR (q := 88) f_X11_34 (by assumption) rfl dX11_comes_85 rfl ?_
        refine g_aload_n (q := 89) dX11_comes_88 rfl rfl ?_
        refine g_getI (q := 92) f_X11_202 (by assumption) rfl dX11_comes_89 rfl ?_
        rw [g6]
        refine g_iload_n (q := 93) dX11_comes_92 rfl rfl ?_
        refine g_bipush (q := 95) (x := 109) dX11_comes_93 (by decide) rfl ?_
        refine g_icmpne (t := 105) (q := 98) dX11_comes_95 (by decide) rfl (fun hq95 => ?_) (fun hq95 => ?_)
        · refine g_iconst (q := 106) (x := 0) dX11_comes_105 (by decide) rfl ?_
          refine g_iast (q := 107) (by assumption) rfl (by omega) (by decide) dX11_comes_106 rfl ?_
          refine g_gen (fun vq7 hvq7 => ?_)
          have e7_6 : vq7 (m + 6) = vq6 (m + 6) := by rw [hvq7, gu_2, gu_n _ _ (by omega)]
          rw [e6_6] at e7_6
          have e7_7 : vq7 (m + 7) = vq6 (m + 7) := by rw [hvq7, gu_2, gu_n _ _ (by omega)]
          rw [e6_7] at e7_7
          have e7_8 : vq7 (m + 8) = vq6 (m + 8) := by rw [hvq7, gu_2, gu_n _ _ (by omega)]
          rw [e6_8] at e7_8
          have e7_9 : vq7 (m + 9) = upd (v (m + 9)) q 0 := by rw [hvq7, gu_2, gu_s, e6_9]
          have e7_10 : vq7 (m + 10) = vq6 (m + 10) := by rw [hvq7, gu_2, gu_n _ _ (by omega)]
          rw [e6_10] at e7_10
          have a7 : ∀ a, a ≠ m → (a < m + 6 ∨ m + 11 ≤ a) → vq7 a = v a := fun a g1 g2 => by rw [hvq7, gu_2, gu_n _ _ (by omega)]; exact a6 a g1 g2
          have k7 : ∀ k, vq7 m k = vq6 m k := fun k => by rw [hvq7, gu_2, gu_n _ _ (by omega)]
          have b7 : ∀ k, k ≠ 7 → k ≠ 8 → k ≠ 9 → vq7 m k = v m k := fun k g1 g2 g3 => by rw [k7]; exact b6 k g1 g2 g3
          have t7 : TXm vq7 m tx := ⟨by rw [k7]; exact t6.1, t6.2.1, by rw [a7 _ (by omega) (by omega)]; exact hT.2.2⟩
          have r7 : vq7 m 7 = vq6 m 7 := k7 7
          have s7 : vq7 m 8 = vq6 m 8 := k7 8
          have g7 : vq7 m 9 = nI q := by rw [k7]; exact g6
          rw [r6] at r7
          rw [s6] at s7
          refine g_aload_n (q := 108) dX11_comes_107 rfl rfl ?_
          refine g_dup (q := 109) dX11_comes_108 rfl rfl ?_
          refine g_getI (q := 112) f_X11_202 (by assumption) rfl dX11_comes_109 rfl ?_
          rw [g7]
          refine g_iconst (q := 113) (x := 1) dX11_comes_112 (by decide) rfl ?_
          refine g_iadd (q := 114) dX11_comes_113 rfl ?_
          refine g_putI (q := 117) f_X11_202 (by assumption) rfl rfl rfl dX11_comes_114 rfl ?_
          rw [nI_1]
          refine g_gen (fun vq8 hvq8 => ?_)
          have o8 : ∀ a, a ≠ m → vq8 a = vq7 a := fun a ha => by rw [hvq8, gu_2, gu_n _ _ ha]
          have om8 : ∀ k, k ≠ 9 → vq8 m k = vq7 m k := fun k hk => by rw [hvq8, gu_2, gu_s, ud_n _ _ hk]
          have x9z : vq8 m 9 = nI (q + 1) := by rw [hvq8, gu_2, gu_s, ud_s]
          refine r_v dX11_comes_117 rfl rfl rfl ?_
          have r9z : vq8 m 7 = nI q0 := by rw [om8 7 (by decide)]; exact r7
          have s9z : vq8 m 8 = 1 := by rw [om8 8 (by decide)]; exact s7
          have F0z := fun (g : Nat) (e : Bool) => fgr_flt (g := g) (f := 1) (e := e) hf0z hlp
          have hfl : ∀ g, flt (tx.drop p) p g 2 false = some q0 := fun g => by rw [(F0z g false).2 rfl]
          exact ⟨x0, x1, 0, q0, true, ⟨x9z, fun k g1 g2 g3 => by rw [om8 k g3]; exact b7 k g1 g2 g3, fun a g1 g2 => by rw [o8 a g1]; exact a7 a g1 g2, by rw [o8 _ (by omega)]; exact e7_6, by rw [o8 _ (by omega)]; exact e7_7, by rw [o8 _ (by omega)]; exact e7_8, by rw [o8 _ (by omega)]; exact e7_9, by rw [o8 _ (by omega)]; exact e7_10⟩, r9z, s9z, by omega, hlq0, fun z => absurd z (by decide), fun _ => hfl⟩
        · exact absurd hq95 (by decide)
      · exact absurd rfl hq66
  · exact absurd rfl hq31

set_option maxRecDepth 100000 in
set_option maxHeartbeats 4000000 in
theorem p_X11_comes_m {X : gj_X} {lim : Nat} {σ : gj_H} {v : gj_V} {m p q : Nat} {tx : List Int32} (hs : msh σ m) (hT : TXm v m tx) (hp7 : v m 7 = nI p) (hp : p ≤ tx.length) (hp8 : v m 8 = 0) (hp9 : v m 9 = nI q) (hq : q < 120) : gj_E X 2 m_X11_comes [.ref m, .int 109] lim σ v (q_v lim σ (fun v' => ∃ x1 x2 x3 p2 bad, cmw v v' m q 109 x1 x2 x3 ∧ v' m 7 = nI p2 ∧ v' m 8 = (if bad = true then 1 else 0) ∧ p ≤ p2 ∧ p2 ≤ tx.length ∧ (bad = false → (∀ g, flt (tx.drop p) p g 3 false = flt (tx.drop p2) p2 g 0 false) ∧ tz (109 :: tx.drop p) = (109, x1, x2, x3) :: tz (tx.drop p2)) ∧ (bad = true → ∀ g, flt (tx.drop p) p g 3 false = some p2))) := by
  obtain ⟨so, s1, s2, s3, s4, s5, s6, s7, s8, s9, s10, s11, s12⟩ := id hs
  have hl := hT.2.1
  have hlp := hp
  refine gj_E_at (L := [some (.ref m), some (.int 109)]) (k := 0) rfl (by decide) rfl ?_
  refine g_aload_n (q := 1) dX11_comes_0 rfl rfl ?_
  refine g_getR (q := 4) f_X11_25 (by assumption) rfl dX11_comes_1 rfl ?_
  refine g_aload_n (q := 5) dX11_comes_4 rfl rfl ?_
  refine g_getI (q := 8) f_X11_202 (by assumption) rfl dX11_comes_5 rfl ?_
  rw [hp9]
  refine g_iload_n (q := 9) dX11_comes_8 rfl rfl ?_
  refine g_iast (q := 10) (by assumption) rfl (by omega) (by decide) dX11_comes_9 rfl ?_
  refine g_gen (fun vq1 hvq1 => ?_)
  have o1 : ∀ a, a ≠ m + 6 → vq1 a = v a := fun a ha => by rw [hvq1, gu_2, gu_n _ _ ha]
  have e1_6 : vq1 (m + 6) = upd (v (m + 6)) q 109 := by rw [hvq1, gu_2, gu_s]
  have hk1 : ∀ k, vq1 m k = v m k := fun k => by rw [o1 m (by omega)]
  refine g_aload_n (q := 11) dX11_comes_10 rfl rfl ?_
  refine g_getR (q := 14) f_X11_37 (by assumption) rfl dX11_comes_11 rfl ?_
  refine g_aload_n (q := 15) dX11_comes_14 rfl rfl ?_
  refine g_getI (q := 18) f_X11_202 (by assumption) rfl dX11_comes_15 rfl ?_
  rw [hk1, hp9]
  refine g_iconst (q := 19) (x := (-1)) dX11_comes_18 (by decide) rfl ?_
  refine g_iast (q := 20) (by assumption) rfl (by omega) (by decide) dX11_comes_19 rfl ?_
  refine g_gen (fun vq2 hvq2 => ?_)
  have o2 : ∀ a, a ≠ m + 10 → vq2 a = vq1 a := fun a ha => by rw [hvq2, gu_2, gu_n _ _ ha]
  have e2_6 : vq2 (m + 6) = upd (v (m + 6)) q 109 := by rw [o2 _ (by omega)]; exact e1_6
  have e2_7 : vq2 (m + 7) = v (m + 7) := by rw [o2 _ (by omega), o1 _ (by omega)]
  have e2_8 : vq2 (m + 8) = v (m + 8) := by rw [o2 _ (by omega), o1 _ (by omega)]
  have e2_9 : vq2 (m + 9) = v (m + 9) := by rw [o2 _ (by omega), o1 _ (by omega)]
  have e2_10 : vq2 (m + 10) = upd (v (m + 10)) q (-1) := by rw [hvq2, gu_2, gu_s, o1 _ (by omega)]
  have a2 : ∀ a, a ≠ m → (a < m + 6 ∨ m + 11 ≤ a) → vq2 a = v a := fun a g1 g2 => by rw [o2 a (by omega), o1 a (by omega)]
  have b2 : ∀ k, k ≠ 7 → k ≠ 8 → k ≠ 9 → vq2 m k = v m k := fun k g1 g2 g3 => by rw [o2 m (by omega), hk1]
  have t2 : TXm vq2 m tx := ⟨by rw [b2 6 (by decide) (by decide) (by decide)]; exact hT.1, hT.2.1, by rw [a2 _ (by omega) (by omega)]; exact hT.2.2⟩
  have r2 : vq2 m 7 = nI p := by rw [o2 m (by omega), hk1]; exact hp7
  have s2 : vq2 m 8 = 0 := by rw [o2 m (by omega), hk1]; exact hp8
  have g2 : vq2 m 9 = nI q := by rw [o2 m (by omega), hk1]; exact hp9
  refine g_aload_n (q := 21) dX11_comes_20 rfl rfl ?_
  refine g_getR (q := 24) f_X11_28 (by assumption) rfl dX11_comes_21 rfl ?_
  refine g_aload_n (q := 25) dX11_comes_24 rfl rfl ?_
  refine g_getI (q := 28) f_X11_202 (by assumption) rfl dX11_comes_25 rfl ?_
  rw [g2]
  refine g_iload_n (q := 29) dX11_comes_28 rfl rfl ?_
  refine g_bipush (q := 31) (x := 112) dX11_comes_29 (by decide) rfl ?_
  refine g_icmpeq (t := 46) (q := 34) dX11_comes_31 (by decide) rfl (fun hq31 => ?_) (fun hq31 => ?_)
  · exact absurd hq31 (by decide)
  · refine g_iload_n (q := 35) dX11_comes_34 rfl rfl ?_
    refine g_bipush (q := 37) (x := 116) dX11_comes_35 (by decide) rfl ?_
    refine g_icmpeq (t := 46) (q := 40) dX11_comes_37 (by decide) rfl (fun hq37 => ?_) (fun hq37 => ?_)
    · exact absurd hq37 (by decide)
    · refine g_iload_n (q := 41) dX11_comes_40 rfl rfl ?_
      refine g_bipush (q := 43) (x := 109) dX11_comes_41 (by decide) rfl ?_
      refine g_icmpne (t := 53) (q := 46) dX11_comes_43 (by decide) rfl (fun hq43 => ?_) (fun hq43 => ?_)
      · exact absurd rfl hq43
      · refine g_aload_n (q := 47) dX11_comes_46 rfl rfl ?_
        refine c_Vi (q := 50) (p_X11_figure0 hs t2 r2 hlp s2) k_X11_205 (by assumption) rfl (by decide) rfl rfl (Nat.le_of_ble_eq_true rfl) rfl rfl dX11_comes_47 rfl ?_
        rintro x0 vq3 ⟨o3, q0, bb0, hf0z, r3, s3⟩
        have e3_6 : vq3 (m + 6) = vq2 (m + 6) := o3.1 _ (by omega)
        rw [e2_6] at e3_6
        have e3_7 : vq3 (m + 7) = vq2 (m + 7) := o3.1 _ (by omega)
        rw [e2_7] at e3_7
        have e3_8 : vq3 (m + 8) = vq2 (m + 8) := o3.1 _ (by omega)
        rw [e2_8] at e3_8
        have e3_9 : vq3 (m + 9) = vq2 (m + 9) := o3.1 _ (by omega)
        rw [e2_9] at e3_9
        have e3_10 : vq3 (m + 10) = vq2 (m + 10) := o3.1 _ (by omega)
        rw [e2_10] at e3_10
        have a3 : ∀ a, a ≠ m → (a < m + 6 ∨ m + 11 ≤ a) → vq3 a = v a := fun a g1 g2 => (o3.1 a g1).trans (a2 a g1 g2)
        have b3 : ∀ k, k ≠ 7 → k ≠ 8 → k ≠ 9 → vq3 m k = v m k := fun k g1 g2 g3 => (o3.2 k g1 g2).trans (b2 k g1 g2 g3)
        have t3 := t2.fo o3
        have g3 : vq3 m 9 = nI q := (o3.2 9 (by decide) (by decide)).trans g2
        have hlq0 : q0 ≤ tx.length := fgr_le hf0z
        have hgq0 : p ≤ q0 := fgr_ge hf0z
        refine g_goto (q := 54) dX11_comes_50 (by decide) ?_
        refine g_iast (q := 55) (by assumption) rfl (by omega) (by decide) dX11_comes_54 rfl ?_
        refine g_gen (fun vq4 hvq4 => ?_)
        have e4_6 : vq4 (m + 6) = vq3 (m + 6) := by rw [hvq4, gu_2, gu_n _ _ (by omega)]
        rw [e3_6] at e4_6
        have e4_7 : vq4 (m + 7) = upd (v (m + 7)) q x0 := by rw [hvq4, gu_2, gu_s, e3_7]
        have e4_8 : vq4 (m + 8) = vq3 (m + 8) := by rw [hvq4, gu_2, gu_n _ _ (by omega)]
        rw [e3_8] at e4_8
        have e4_9 : vq4 (m + 9) = vq3 (m + 9) := by rw [hvq4, gu_2, gu_n _ _ (by omega)]
        rw [e3_9] at e4_9
        have e4_10 : vq4 (m + 10) = vq3 (m + 10) := by rw [hvq4, gu_2, gu_n _ _ (by omega)]
        rw [e3_10] at e4_10
        have a4 : ∀ a, a ≠ m → (a < m + 6 ∨ m + 11 ≤ a) → vq4 a = v a := fun a g1 g2 => by rw [hvq4, gu_2, gu_n _ _ (by omega)]; exact a3 a g1 g2
        have k4 : ∀ k, vq4 m k = vq3 m k := fun k => by rw [hvq4, gu_2, gu_n _ _ (by omega)]
        have b4 : ∀ k, k ≠ 7 → k ≠ 8 → k ≠ 9 → vq4 m k = v m k := fun k g1 g2 g3 => by rw [k4]; exact b3 k g1 g2 g3
        have t4 : TXm vq4 m tx := ⟨by rw [k4]; exact t3.1, t3.2.1, by rw [a4 _ (by omega) (by omega)]; exact hT.2.2⟩
        have r4 : vq4 m 7 = vq3 m 7 := k4 7
        have s4 : vq4 m 8 = vq3 m 8 := k4 8
        have g4 : vq4 m 9 = nI q := by rw [k4]; exact g3
        rw [r3] at r4
        rw [s3] at s4
        rcases bb0 with _ | _
        · refine g_aload_n (q := 56) dX11_comes_55 rfl rfl ?_
          refine g_getR (q := 59) f_X11_31 (by assumption) rfl dX11_comes_56 rfl ?_
          refine g_aload_n (q := 60) dX11_comes_59 rfl rfl ?_
          refine g_getI (q := 63) f_X11_202 (by assumption) rfl dX11_comes_60 rfl ?_
          rw [g4]
          refine g_iload_n (q := 64) dX11_comes_63 rfl rfl ?_
          refine g_bipush (q := 66) (x := 112) dX11_comes_64 (by decide) rfl ?_
          refine g_icmpeq (t := 75) (q := 69) dX11_comes_66 (by decide) rfl (fun hq66 => ?_) (fun hq66 => ?_)
          · exact absurd hq66 (by decide)
          · refine g_iload_n (q := 70) dX11_comes_69 rfl rfl ?_
            refine g_bipush (q := 72) (x := 109) dX11_comes_70 (by decide) rfl ?_
            refine g_icmpne (t := 82) (q := 75) dX11_comes_72 (by decide) rfl (fun hq72 => ?_) (fun hq72 => ?_)
            · exact absurd rfl hq72
            · refine g_aload_n (q := 76) dX11_comes_75 rfl rfl ?_
              refine c_Vi (q := 79) (p_X11_figure0 hs t4 r4 hlq0 s4) k_X11_205 (by assumption) rfl (by decide) rfl rfl (Nat.le_of_ble_eq_true rfl) rfl rfl dX11_comes_76 rfl ?_
              rintro x1 vq5 ⟨o5, q1, bb1, hf1z, r5, s5⟩
              have e5_6 : vq5 (m + 6) = vq4 (m + 6) := o5.1 _ (by omega)
              rw [e4_6] at e5_6
              have e5_7 : vq5 (m + 7) = vq4 (m + 7) := o5.1 _ (by omega)
              rw [e4_7] at e5_7
              have e5_8 : vq5 (m + 8) = vq4 (m + 8) := o5.1 _ (by omega)
              rw [e4_8] at e5_8
              have e5_9 : vq5 (m + 9) = vq4 (m + 9) := o5.1 _ (by omega)
              rw [e4_9] at e5_9
              have e5_10 : vq5 (m + 10) = vq4 (m + 10) := o5.1 _ (by omega)
              rw [e4_10] at e5_10
              have a5 : ∀ a, a ≠ m → (a < m + 6 ∨ m + 11 ≤ a) → vq5 a = v a := fun a g1 g2 => (o5.1 a g1).trans (a4 a g1 g2)
              have b5 : ∀ k, k ≠ 7 → k ≠ 8 → k ≠ 9 → vq5 m k = v m k := fun k g1 g2 g3 => (o5.2 k g1 g2).trans (b4 k g1 g2 g3)
              have t5 := t4.fo o5
              have g5 : vq5 m 9 = nI q := (o5.2 9 (by decide) (by decide)).trans g4
              have hlq1 : q1 ≤ tx.length := fgr_le hf1z
              have hgq1 : q0 ≤ q1 := fgr_ge hf1z
              refine g_goto (q := 83) dX11_comes_79 (by decide) ?_
              refine g_iast (q := 84) (by assumption) rfl (by omega) (by decide) dX11_comes_83 rfl ?_
              refine g_gen (fun vq6 hvq6 => ?_)
              have e6_6 : vq6 (m + 6) = vq5 (m + 6) := by rw [hvq6, gu_2, gu_n _ _ (by omega)]
              rw [e5_6] at e6_6
              have e6_7 : vq6 (m + 7) = vq5 (m + 7) := by rw [hvq6, gu_2, gu_n _ _ (by omega)]
              rw [e5_7] at e6_7
              have e6_8 : vq6 (m + 8) = upd (v (m + 8)) q x1 := by rw [hvq6, gu_2, gu_s, e5_8]
              have e6_9 : vq6 (m + 9) = vq5 (m + 9) := by rw [hvq6, gu_2, gu_n _ _ (by omega)]
              rw [e5_9] at e6_9
              have e6_10 : vq6 (m + 10) = vq5 (m + 10) := by rw [hvq6, gu_2, gu_n _ _ (by omega)]
              rw [e5_10] at e6_10
              have a6 : ∀ a, a ≠ m → (a < m + 6 ∨ m + 11 ≤ a) → vq6 a = v a := fun a g1 g2 => by rw [hvq6, gu_2, gu_n _ _ (by omega)]; exact a5 a g1 g2
              have k6 : ∀ k, vq6 m k = vq5 m k := fun k => by rw [hvq6, gu_2, gu_n _ _ (by omega)]
              have b6 : ∀ k, k ≠ 7 → k ≠ 8 → k ≠ 9 → vq6 m k = v m k := fun k g1 g2 g3 => by rw [k6]; exact b5 k g1 g2 g3
              have t6 : TXm vq6 m tx := ⟨by rw [k6]; exact t5.1, t5.2.1, by rw [a6 _ (by omega) (by omega)]; exact hT.2.2⟩
              have r6 : vq6 m 7 = vq5 m 7 := k6 7
              have s6 : vq6 m 8 = vq5 m 8 := k6 8
              have g6 : vq6 m 9 = nI q := by rw [k6]; exact g5
              rw [r5] at r6
              rw [s5] at s6
              rcases bb1 with _ | _
              · refine g_aload_n (q := 85) dX11_comes_84 rfl rfl ?_
                refine g_getR (q := 88) f_X11_34 (by assumption) rfl dX11_comes_85 rfl ?_
                refine g_aload_n (q := 89) dX11_comes_88 rfl rfl ?_
                refine g_getI (q := 92) f_X11_202 (by assumption) rfl dX11_comes_89 rfl ?_
                rw [g6]
                refine g_iload_n (q := 93) dX11_comes_92 rfl rfl ?_
                refine g_bipush (q := 95) (x := 109) dX11_comes_93 (by decide) rfl ?_
                refine g_icmpne (t := 105) (q := 98) dX11_comes_95 (by decide) rfl (fun hq95 => ?_) (fun hq95 => ?_)
                · exact absurd rfl hq95
                · refine g_aload_n (q := 99) dX11_comes_98 rfl rfl ?_
                  refine c_Vi (q := 102) (p_X11_figure0 hs t6 r6 hlq1 s6) k_X11_205 (by assumption) rfl (by decide) rfl rfl (Nat.le_of_ble_eq_true rfl) rfl rfl dX11_comes_99 rfl ?_
                  rintro x2 vq7 ⟨o7, q2, bb2, hf2z, r7, s7⟩
                  have e7_6 : vq7 (m + 6) = vq6 (m + 6) := o7.1 _ (by omega)
                  rw [e6_6] at e7_6
                  have e7_7 : vq7 (m + 7) = vq6 (m + 7) := o7.1 _ (by omega)
                  rw [e6_7] at e7_7
                  have e7_8 : vq7 (m + 8) = vq6 (m + 8) := o7.1 _ (by omega)
                  rw [e6_8] at e7_8
                  have e7_9 : vq7 (m + 9) = vq6 (m + 9) := o7.1 _ (by omega)
                  rw [e6_9] at e7_9
                  have e7_10 : vq7 (m + 10) = vq6 (m + 10) := o7.1 _ (by omega)
                  rw [e6_10] at e7_10
                  have a7 : ∀ a, a ≠ m → (a < m + 6 ∨ m + 11 ≤ a) → vq7 a = v a := fun a g1 g2 => (o7.1 a g1).trans (a6 a g1 g2)
                  have b7 : ∀ k, k ≠ 7 → k ≠ 8 → k ≠ 9 → vq7 m k = v m k := fun k g1 g2 g3 => (o7.2 k g1 g2).trans (b6 k g1 g2 g3)
                  have t7 := t6.fo o7
                  have g7 : vq7 m 9 = nI q := (o7.2 9 (by decide) (by decide)).trans g6
                  have hlq2 : q2 ≤ tx.length := fgr_le hf2z
                  have hgq2 : q1 ≤ q2 := fgr_ge hf2z
                  refine g_goto (q := 106) dX11_comes_102 (by decide) ?_
                  refine g_iast (q := 107) (by assumption) rfl (by omega) (by decide) dX11_comes_106 rfl ?_
                  refine g_gen (fun vq8 hvq8 => ?_)
                  have e8_6 : vq8 (m + 6) = vq7 (m + 6) := by rw [hvq8, gu_2, gu_n _ _ (by omega)]
                  rw [e7_6] at e8_6
                  have e8_7 : vq8 (m + 7) = vq7 (m + 7) := by rw [hvq8, gu_2, gu_n _ _ (by omega)]
                  rw [e7_7] at e8_7
                  have e8_8 : vq8 (m + 8) = vq7 (m + 8) := by rw [hvq8, gu_2, gu_n _ _ (by omega)]
                  rw [e7_8] at e8_8
                  have e8_9 : vq8 (m + 9) = upd (v (m + 9)) q x2 := by rw [hvq8, gu_2, gu_s, e7_9]
                  have e8_10 : vq8 (m + 10) = vq7 (m + 10) := by rw [hvq8, gu_2, gu_n _ _ (by omega)]
                  rw [e7_10] at e8_10
                  have a8 : ∀ a, a ≠ m → (a < m + 6 ∨ m + 11 ≤ a) → vq8 a = v a := fun a g1 g2 => by rw [hvq8, gu_2, gu_n _ _ (by omega)]; exact a7 a g1 g2
                  have k8 : ∀ k, vq8 m k = vq7 m k := fun k => by rw [hvq8, gu_2, gu_n _ _ (by omega)]
                  have b8 : ∀ k, k ≠ 7 → k ≠ 8 → k ≠ 9 → vq8 m k = v m k := fun k g1 g2 g3 => by rw [k8]; exact b7 k g1 g2 g3
                  have t8 : TXm vq8 m tx := ⟨by rw [k8]; exact t7.1, t7.2.1, by rw [a8 _ (by omega) (by omega)]; exact hT.2.2⟩
                  have r8 : vq8 m 7 = vq7 m 7 := k8 7
                  have s8 : vq8 m 8 = vq7 m 8 := k8 8
                  have g8 : vq8 m 9 = nI q := by rw [k8]; exact g7
                  rw [r7] at r8
                  rw [s7] at s8
                  rcases bb2 with _ | _
                  · refine g_aload_n (q := 108) dX11_comes_107 rfl rfl ?_
                    refine g_dup (q := 109) dX11_comes_108 rfl rfl ?_
                    refine g_getI (q := 112) f_X11_202 (by assumption) rfl dX11_comes_109 rfl ?_
                    rw [g8]
                    refine g_iconst (q := 113) (x := 1) dX11_comes_112 (by decide) rfl ?_
                    refine g_iadd (q := 114) dX11_comes_113 rfl ?_
                    refine g_putI (q := 117) f_X11_202 (by assumption) rfl rfl rfl dX11_comes_114 rfl ?_
                    rw [nI_1]
                    refine g_gen (fun vq9 hvq9 => ?_)
                    have o9 : ∀ a, a ≠ m → vq9 a = vq8 a := fun a ha => by rw [hvq9, gu_2, gu_n _ _ ha]
                    have om9 : ∀ k, k ≠ 9 → vq9 m k = vq8 m k := fun k hk => by rw [hvq9, gu_2, gu_s, ud_n _ _ hk]
                    have x9z : vq9 m 9 = nI (q + 1) := by rw [hvq9, gu_2, gu_s, ud_s]
                    refine r_v dX11_comes_117 rfl rfl rfl ?_
                    have r9z : vq9 m 7 = nI q2 := by rw [om9 7 (by decide)]; exact r8
                    have s9z : vq9 m 8 = 0 := by rw [om9 8 (by decide)]; exact s8
                    have F0z := fun (g : Nat) (e : Bool) => fgr_flt (g := g) (f := 2) (e := e) hf0z hlp
                    have F1z := fun (g : Nat) (e : Bool) => fgr_flt (g := g) (f := 1) (e := e) hf1z hlq0
                    have F2z := fun (g : Nat) (e : Bool) => fgr_flt (g := g) (f := 0) (e := e) hf2z hlq1
                    have hfl : ∀ g, flt (tx.drop p) p g 3 false = flt (tx.drop q2) q2 g 0 false := fun g => by rw [((F0z g false).1 rfl).1, ((F1z g false).1 rfl).1, ((F2z g false).1 rfl).1]
                    have htz : tz (109 :: tx.drop p) = (109, x0, x1, x2) :: tz (tx.drop q2) := by
                      rw [tz_m rfl, ← ((F0z 0 false).1 rfl).2.1, ← ((F0z 0 false).1 rfl).2.2, ← ((F1z 0 false).1 rfl).2.1, ← ((F1z 0 false).1 rfl).2.2, ← ((F2z 0 false).1 rfl).2.1, ← ((F2z 0 false).1 rfl).2.2]
                    exact ⟨x0, x1, x2, q2, false, ⟨x9z, fun k g1 g2 g3 => by rw [om9 k g3]; exact b8 k g1 g2 g3, fun a g1 g2 => by rw [o9 a g1]; exact a8 a g1 g2, by rw [o9 _ (by omega)]; exact e8_6, by rw [o9 _ (by omega)]; exact e8_7, by rw [o9 _ (by omega)]; exact e8_8, by rw [o9 _ (by omega)]; exact e8_9, by rw [o9 _ (by omega)]; exact e8_10⟩, r9z, s9z, by omega, hlq2, fun _ => ⟨hfl, htz⟩, fun z => absurd z (by decide)⟩
                  · refine g_aload_n (q := 108) dX11_comes_107 rfl rfl ?_
                    refine g_dup (q := 109) dX11_comes_108 rfl rfl ?_
                    refine g_getI (q := 112) f_X11_202 (by assumption) rfl dX11_comes_109 rfl ?_
                    rw [g8]
                    refine g_iconst (q := 113) (x := 1) dX11_comes_112 (by decide) rfl ?_
                    refine g_iadd (q := 114) dX11_comes_113 rfl ?_
                    refine g_putI (q := 117) f_X11_202 (by assumption) rfl rfl rfl dX11_comes_114 rfl ?_
                    rw [nI_1]
                    refine g_gen (fun vq9 hvq9 => ?_)
                    have o9 : ∀ a, a ≠ m → vq9 a = vq8 a := fun a ha => by rw [hvq9, gu_2, gu_n _ _ ha]
                    have om9 : ∀ k, k ≠ 9 → vq9 m k = vq8 m k := fun k hk => by rw [hvq9, gu_2, gu_s, ud_n _ _ hk]
                    have x9z : vq9 m 9 = nI (q + 1) := by rw [hvq9, gu_2, gu_s, ud_s]
                    refine r_v dX11_comes_117 rfl rfl rfl ?_
                    have r9z : vq9 m 7 = nI q2 := by rw [om9 7 (by decide)]; exact r8
                    have s9z : vq9 m 8 = 1 := by rw [om9 8 (by decide)]; exact s8
                    have F0z := fun (g : Nat) (e : Bool) => fgr_flt (g := g) (f := 2) (e := e) hf0z hlp
                    have F1z := fun (g : Nat) (e : Bool) => fgr_flt (g := g) (f := 1) (e := e) hf1z hlq0
                    have F2z := fun (g : Nat) (e : Bool) => fgr_flt (g := g) (f := 0) (e := e) hf2z hlq1
                    have hfl : ∀ g, flt (tx.drop p) p g 3 false = some q2 := fun g => by rw [((F0z g false).1 rfl).1, ((F1z g false).1 rfl).1, (F2z g false).2 rfl]
                    exact ⟨x0, x1, x2, q2, true, ⟨x9z, fun k g1 g2 g3 => by rw [om9 k g3]; exact b8 k g1 g2 g3, fun a g1 g2 => by rw [o9 a g1]; exact a8 a g1 g2, by rw [o9 _ (by omega)]; exact e8_6, by rw [o9 _ (by omega)]; exact e8_7, by rw [o9 _ (by omega)]; exact e8_8, by rw [o9 _ (by omega)]; exact e8_9, by rw [o9 _ (by omega)]; exact e8_10⟩, r9z, s9z, by omega, hlq2, fun z => absurd z (by decide), fun _ => hfl⟩
              · refine g_aload_n (q := 85) dX11_comes_84 rfl rfl ?_
                refine g_getR (q := 88) f_X11_34 (by assumption) rfl dX11_comes_85 rfl ?_
                refine g_aload_n (q := 89) dX11_comes_88 rfl rfl ?_
                refine g_getI (q := 92) f_X11_202 (by assumption) rfl dX11_comes_89 rfl ?_
                rw [g6]
                refine g_iload_n (q := 93) dX11_comes_92 rfl rfl ?_
                refine g_bipush (q := 95) (x := 109) dX11_comes_93 (by decide) rfl ?_
                refine g_icmpne (t := 105) (q := 98) dX11_comes_95 (by decide) rfl (fun hq95 => ?_) (fun hq95 => ?_)
                · exact absurd rfl hq95
                · refine g_aload_n (q := 99) dX11_comes_98 rfl rfl ?_
                  refine c_Vi (q := 102) (p_X11_figure1 hs t6 r6 hlq1 s6) k_X11_205 (by assumption) rfl (by decide) rfl rfl (Nat.le_of_ble_eq_true rfl) rfl rfl dX11_comes_99 rfl ?_
                  rintro x2 vq7 ⟨o7, r7, s7⟩
                  have e7_6 : vq7 (m + 6) = vq6 (m + 6) := o7.1 _ (by omega)
                  rw [e6_6] at e7_6
                  have e7_7 : vq7 (m + 7) = vq6 (m + 7) := o7.1 _ (by omega)
                  rw [e6_7] at e7_7
                  have e7_8 : vq7 (m + 8) = vq6 (m + 8) := o7.1 _ (by omega)
                  rw [e6_8] at e7_8
                  have e7_9 : vq7 (m + 9) = vq6 (m + 9) := o7.1 _ (by omega)
                  rw [e6_9] at e7_9
                  have e7_10 : vq7 (m + 10) = vq6 (m + 10) := o7.1 _ (by omega)
                  rw [e6_10] at e7_10
                  have a7 : ∀ a, a ≠ m → (a < m + 6 ∨ m + 11 ≤ a) → vq7 a = v a := fun a g1 g2 => (o7.1 a g1).trans (a6 a g1 g2)
                  have b7 : ∀ k, k ≠ 7 → k ≠ 8 → k ≠ 9 → vq7 m k = v m k := fun k g1 g2 g3 => (o7.2 k g1 g2).trans (b6 k g1 g2 g3)
                  have t7 := t6.fo o7
                  have g7 : vq7 m 9 = nI q := (o7.2 9 (by decide) (by decide)).trans g6
                  refine g_goto (q := 106) dX11_comes_102 (by decide) ?_
                  refine g_iast (q := 107) (by assumption) rfl (by omega) (by decide) dX11_comes_106 rfl ?_
                  refine g_gen (fun vq8 hvq8 => ?_)
                  have e8_6 : vq8 (m + 6) = vq7 (m + 6) := by rw [hvq8, gu_2, gu_n _ _ (by omega)]
                  rw [e7_6] at e8_6
                  have e8_7 : vq8 (m + 7) = vq7 (m + 7) := by rw [hvq8, gu_2, gu_n _ _ (by omega)]
                  rw [e7_7] at e8_7
                  have e8_8 : vq8 (m + 8) = vq7 (m + 8) := by rw [hvq8, gu_2, gu_n _ _ (by omega)]
                  rw [e7_8] at e8_8
                  have e8_9 : vq8 (m + 9) = upd (v (m + 9)) q x2 := by rw [hvq8, gu_2, gu_s, e7_9]
                  have e8_10 : vq8 (m + 10) = vq7 (m + 10) := by rw [hvq8, gu_2, gu_n _ _ (by omega)]
                  rw [e7_10] at e8_10
                  have a8 : ∀ a, a ≠ m → (a < m + 6 ∨ m + 11 ≤ a) → vq8 a = v a := fun a g1 g2 => by rw [hvq8, gu_2, gu_n _ _ (by omega)]; exact a7 a g1 g2
                  have k8 : ∀ k, vq8 m k = vq7 m k := fun k => by rw [hvq8, gu_2, gu_n _ _ (by omega)]
                  have b8 : ∀ k, k ≠ 7 → k ≠ 8 → k ≠ 9 → vq8 m k = v m k := fun k g1 g2 g3 => by rw [k8]; exact b7 k g1 g2 g3
                  have t8 : TXm vq8 m tx := ⟨by rw [k8]; exact t7.1, t7.2.1, by rw [a8 _ (by omega) (by omega)]; exact hT.2.2⟩
                  have r8 : vq8 m 7 = vq7 m 7 := k8 7
                  have s8 : vq8 m 8 = vq7 m 8 := k8 8
                  have g8 : vq8 m 9 = nI q := by rw [k8]; exact g7
                  rw [r7] at r8
                  rw [s7] at s8
                  refine g_aload_n (q := 108) dX11_comes_107 rfl rfl ?_
                  refine g_dup (q := 109) dX11_comes_108 rfl rfl ?_
                  refine g_getI (q := 112) f_X11_202 (by assumption) rfl dX11_comes_109 rfl ?_
                  rw [g8]
                  refine g_iconst (q := 113) (x := 1) dX11_comes_112 (by decide) rfl ?_
                  refine g_iadd (q := 114) dX11_comes_113 rfl ?_
                  refine g_putI (q := 117) f_X11_202 (by assumption) rfl rfl rfl dX11_comes_114 rfl ?_
                  rw [nI_1]
                  refine g_gen (fun vq9 hvq9 => ?_)
                  have o9 : ∀ a, a ≠ m → vq9 a = vq8 a := fun a ha => by rw [hvq9, gu_2, gu_n _ _ ha]
                  have om9 : ∀ k, k ≠ 9 → vq9 m k = vq8 m k := fun k hk => by rw [hvq9, gu_2, gu_s, ud_n _ _ hk]
                  have x9z : vq9 m 9 = nI (q + 1) := by rw [hvq9, gu_2, gu_s, ud_s]
                  refine r_v dX11_comes_117 rfl rfl rfl ?_
                  have r9z : vq9 m 7 = nI q1 := by rw [om9 7 (by decide)]; exact r8
                  have s9z : vq9 m 8 = 1 := by rw [om9 8 (by decide)]; exact s8
                  have F0z := fun (g : Nat) (e : Bool) => fgr_flt (g := g) (f := 2) (e := e) hf0z hlp
                  have F1z := fun (g : Nat) (e : Bool) => fgr_flt (g := g) (f := 1) (e := e) hf1z hlq0
                  have hfl : ∀ g, flt (tx.drop p) p g 3 false = some q1 := fun g => by rw [((F0z g false).1 rfl).1, (F1z g false).2 rfl]
                  exact ⟨x0, x1, x2, q1, true, ⟨x9z, fun k g1 g2 g3 => by rw [om9 k g3]; exact b8 k g1 g2 g3, fun a g1 g2 => by rw [o9 a g1]; exact a8 a g1 g2, by rw [o9 _ (by omega)]; exact e8_6, by rw [o9 _ (by omega)]; exact e8_7, by rw [o9 _ (by omega)]; exact e8_8, by rw [o9 _ (by omega)]; exact e8_9, by rw [o9 _ (by omega)]; exact e8_10⟩, r9z, s9z, by omega, hlq1, fun z => absurd z (by decide), fun _ => hfl⟩
        · refine g_aload_n (q := 56) dX11_comes_55 rfl rfl ?_
          refine g_getR (q := 59) f_X11_31 (by assumption) rfl dX11_comes_56 rfl ?_
          refine g_aload_n (q := 60) dX11_comes_59 rfl rfl ?_
          refine g_getI (q := 63) f_X11_202 (by assumption) rfl dX11_comes_60 rfl ?_
          rw [g4]
          refine g_iload_n (q := 64) dX11_comes_63 rfl rfl ?_
          refine g_bipush (q := 66) (x := 112) dX11_comes_64 (by decide) rfl ?_
          refine g_icmpeq (t := 75) (q := 69) dX11_comes_66 (by decide) rfl (fun hq66 => ?_) (fun hq66 => ?_)
          · exact absurd hq66 (by decide)
          · refine g_iload_n (q := 70) dX11_comes_69 rfl rfl ?_
            refine g_bipush (q := 72) (x := 109) dX11_comes_70 (by decide) rfl ?_
            refine g_icmpne (t := 82) (q := 75) dX11_comes_72 (by decide) rfl (fun hq72 => ?_) (fun hq72 => ?_)
            · exact absurd rfl hq72
            · refine g_aload_n (q := 76) dX11_comes_75 rfl rfl ?_
              refine c_Vi (q := 79) (p_X11_figure1 hs t4 r4 hlq0 s4) k_X11_205 (by assumption) rfl (by decide) rfl rfl (Nat.le_of_ble_eq_true rfl) rfl rfl dX11_comes_76 rfl ?_
              rintro x1 vq5 ⟨o5, r5, s5⟩
              have e5_6 : vq5 (m + 6) = vq4 (m + 6) := o5.1 _ (by omega)
              rw [e4_6] at e5_6
              have e5_7 : vq5 (m + 7) = vq4 (m + 7) := o5.1 _ (by omega)
              rw [e4_7] at e5_7
              have e5_8 : vq5 (m + 8) = vq4 (m + 8) := o5.1 _ (by omega)
              rw [e4_8] at e5_8
              have e5_9 : vq5 (m + 9) = vq4 (m + 9) := o5.1 _ (by omega)
              rw [e4_9] at e5_9
              have e5_10 : vq5 (m + 10) = vq4 (m + 10) := o5.1 _ (by omega)
              rw [e4_10] at e5_10
              have a5 : ∀ a, a ≠ m → (a < m + 6 ∨ m + 11 ≤ a) → vq5 a = v a := fun a g1 g2 => (o5.1 a g1).trans (a4 a g1 g2)
              have b5 : ∀ k, k ≠ 7 → k ≠ 8 → k ≠ 9 → vq5 m k = v m k := fun k g1 g2 g3 => (o5.2 k g1 g2).trans (b4 k g1 g2 g3)
              have t5 := t4.fo o5
              have g5 : vq5 m 9 = nI q := (o5.2 9 (by decide) (by decide)).trans g4
              refine g_goto (q := 83) dX11_comes_79 (by decide) ?_
              refine g_iast (q := 84) (by assumption) rfl (by omega) (by decide) dX11_comes_83 rfl ?_
              refine g_gen (fun vq6 hvq6 => ?_)
              have e6_6 : vq6 (m + 6) = vq5 (m + 6) := by rw [hvq6, gu_2, gu_n _ _ (by omega)]
              rw [e5_6] at e6_6
              have e6_7 : vq6 (m + 7) = vq5 (m + 7) := by rw [hvq6, gu_2, gu_n _ _ (by omega)]
              rw [e5_7] at e6_7
              have e6_8 : vq6 (m + 8) = upd (v (m + 8)) q x1 := by rw [hvq6, gu_2, gu_s, e5_8]
              have e6_9 : vq6 (m + 9) = vq5 (m + 9) := by rw [hvq6, gu_2, gu_n _ _ (by omega)]
              rw [e5_9] at e6_9
              have e6_10 : vq6 (m + 10) = vq5 (m + 10) := by rw [hvq6, gu_2, gu_n _ _ (by omega)]
              rw [e5_10] at e6_10
              have a6 : ∀ a, a ≠ m → (a < m + 6 ∨ m + 11 ≤ a) → vq6 a = v a := fun a g1 g2 => by rw [hvq6, gu_2, gu_n _ _ (by omega)]; exact a5 a g1 g2
              have k6 : ∀ k, vq6 m k = vq5 m k := fun k => by rw [hvq6, gu_2, gu_n _ _ (by omega)]
              have b6 : ∀ k, k ≠ 7 → k ≠ 8 → k ≠ 9 → vq6 m k = v m k := fun k g1 g2 g3 => by rw [k6]; exact b5 k g1 g2 g3
              have t6 : TXm vq6 m tx := ⟨by rw [k6]; exact t5.1, t5.2.1, by rw [a6 _ (by omega) (by omega)]; exact hT.2.2⟩
              have r6 : vq6 m 7 = vq5 m 7 := k6 7
              have s6 : vq6 m 8 = vq5 m 8 := k6 8
              have g6 : vq6 m 9 = nI q := by rw [k6]; exact g5
              rw [r5] at r6
              rw [s5] at s6
              refine g_aload_n (q := 85) dX11_comes_84 rfl rfl ?_
              refine g_getR (q := 88) f_X11_34 (by assumption) rfl dX11_comes_85 rfl ?_
              refine g_aload_n (q := 89) dX11_comes_88 rfl rfl ?_
              refine g_getI (q := 92) f_X11_202 (by assumption) rfl dX11_comes_89 rfl ?_
              rw [g6]
              refine g_iload_n (q := 93) dX11_comes_92 rfl rfl ?_
              refine g_bipush (q := 95) (x := 109) dX11_comes_93 (by decide) rfl ?_
              refine g_icmpne (t := 105) (q := 98) dX11_comes_95 (by decide) rfl (fun hq95 => ?_) (fun hq95 => ?_)
              · exact absurd rfl hq95
              · refine g_aload_n (q := 99) dX11_comes_98 rfl rfl ?_
                refine c_Vi (q := 102) (p_X11_figure1 hs t6 r6 hlq0 s6) k_X11_205 (by assumption) rfl (by decide) rfl rfl (Nat.le_of_ble_eq_true rfl) rfl rfl dX11_comes_99 rfl ?_
                rintro x2 vq7 ⟨o7, r7, s7⟩
                have e7_6 : vq7 (m + 6) = vq6 (m + 6) := o7.1 _ (by omega)
                rw [e6_6] at e7_6
                have e7_7 : vq7 (m + 7) = vq6 (m + 7) := o7.1 _ (by omega)
                rw [e6_7] at e7_7
                have e7_8 : vq7 (m + 8) = vq6 (m + 8) := o7.1 _ (by omega)
                rw [e6_8] at e7_8
                have e7_9 : vq7 (m + 9) = vq6 (m + 9) := o7.1 _ (by omega)
                rw [e6_9] at e7_9
                have e7_10 : vq7 (m + 10) = vq6 (m + 10) := o7.1 _ (by omega)
                rw [e6_10] at e7_10
                have a7 : ∀ a, a ≠ m → (a < m + 6 ∨ m + 11 ≤ a) → vq7 a = v a := fun a g1 g2 => (o7.1 a g1).trans (a6 a g1 g2)
                have b7 : ∀ k, k ≠ 7 → k ≠ 8 → k ≠ 9 → vq7 m k = v m k := fun k g1 g2 g3 => (o7.2 k g1 g2).trans (b6 k g1 g2 g3)
                have t7 := t6.fo o7
                have g7 : vq7 m 9 = nI q := (o7.2 9 (by decide) (by decide)).trans g6
                refine g_goto (q := 106) dX11_comes_102 (by decide) ?_
                refine g_iast (q := 107) (by assumption) rfl (by omega) (by decide) dX11_comes_106 rfl ?_
                refine g_gen (fun vq8 hvq8 => ?_)
                have e8_6 : vq8 (m + 6) = vq7 (m + 6) := by rw [hvq8, gu_2, gu_n _ _ (by omega)]
                rw [e7_6] at e8_6
                have e8_7 : vq8 (m + 7) = vq7 (m + 7) := by rw [hvq8, gu_2, gu_n _ _ (by omega)]
                rw [e7_7] at e8_7
                have e8_8 : vq8 (m + 8) = vq7 (m + 8) := by rw [hvq8, gu_2, gu_n _ _ (by omega)]
                rw [e7_8] at e8_8
                have e8_9 : vq8 (m + 9) = upd (v (m + 9)) q x2 := by rw [hvq8, gu_2, gu_s, e7_9]
                have e8_10 : vq8 (m + 10) = vq7 (m + 10) := by rw [hvq8, gu_2, gu_n _ _ (by omega)]
                rw [e7_10] at e8_10
                have a8 : ∀ a, a ≠ m → (a < m + 6 ∨ m + 11 ≤ a) → vq8 a = v a := fun a g1 g2 => by rw [hvq8, gu_2, gu_n _ _ (by omega)]; exact a7 a g1 g2
                have k8 : ∀ k, vq8 m k = vq7 m k := fun k => by rw [hvq8, gu_2, gu_n _ _ (by omega)]
                have b8 : ∀ k, k ≠ 7 → k ≠ 8 → k ≠ 9 → vq8 m k = v m k := fun k g1 g2 g3 => by rw [k8]; exact b7 k g1 g2 g3
                have t8 : TXm vq8 m tx := ⟨by rw [k8]; exact t7.1, t7.2.1, by rw [a8 _ (by omega) (by omega)]; exact hT.2.2⟩
                have r8 : vq8 m 7 = vq7 m 7 := k8 7
                have s8 : vq8 m 8 = vq7 m 8 := k8 8
                have g8 : vq8 m 9 = nI q := by rw [k8]; exact g7
                rw [r7] at r8
                rw [s7] at s8
                refine g_aload_n (q := 108) dX11_comes_107 rfl rfl ?_
                refine g_dup (q := 109) dX11_comes_108 rfl rfl ?_
                refine g_getI (q := 112) f_X11_202 (by assumption) rfl dX11_comes_109 rfl ?_
                rw [g8]
                refine g_iconst (q := 113) (x := 1) dX11_comes_112 (by decide) rfl ?_
                refine g_iadd (q := 114) dX11_comes_113 rfl ?_
                refine g_putI (q := 117) f_X11_202 (by assumption) rfl rfl rfl dX11_comes_114 rfl ?_
                rw [nI_1]
                refine g_gen (fun vq9 hvq9 => ?_)
                have o9 : ∀ a, a ≠ m → vq9 a = vq8 a := fun a ha => by rw [hvq9, gu_2, gu_n _ _ ha]
                have om9 : ∀ k, k ≠ 9 → vq9 m k = vq8 m k := fun k hk => by rw [hvq9, gu_2, gu_s, ud_n _ _ hk]
                have x9z : vq9 m 9 = nI (q + 1) := by rw [hvq9, gu_2, gu_s, ud_s]
                refine r_v dX11_comes_117 rfl rfl rfl ?_
                have r9z : vq9 m 7 = nI q0 := by rw [om9 7 (by decide)]; exact r8
                have s9z : vq9 m 8 = 1 := by rw [om9 8 (by decide)]; exact s8
                have F0z := fun (g : Nat) (e : Bool) => fgr_flt (g := g) (f := 2) (e := e) hf0z hlp
                have hfl : ∀ g, flt (tx.drop p) p g 3 false = some q0 := fun g => by rw [(F0z g false).2 rfl]
                exact ⟨x0, x1, x2, q0, true, ⟨x9z, fun k g1 g2 g3 => by rw [om9 k g3]; exact b8 k g1 g2 g3, fun a g1 g2 => by rw [o9 a g1]; exact a8 a g1 g2, by rw [o9 _ (by omega)]; exact e8_6, by rw [o9 _ (by omega)]; exact e8_7, by rw [o9 _ (by omega)]; exact e8_8, by rw [o9 _ (by omega)]; exact e8_9, by rw [o9 _ (by omega)]; exact e8_10⟩, r9z, s9z, by omega, hlq0, fun z => absurd z (by decide), fun _ => hfl⟩
