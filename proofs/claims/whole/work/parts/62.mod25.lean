/-- the orders that were read -/
def ORD (v : gj_V) (m : Nat) (ts : List tok) : Prop := v m 9 = nI ts.length ∧ ts.length ≤ 120 ∧ ∀ (i : Nat) (o : tok), ts[i]? = some o → v (m + 6) i = o.1 ∧ v (m + 7) i = o.2.1 ∧ v (m + 8) i = o.2.2.1 ∧ v (m + 9) i = o.2.2.2

set_option maxRecDepth 100000 in
set_option maxHeartbeats 4000000 in
theorem p_X11_doesOne {X : gj_X} {lim : Nat} {σ : gj_H} {v : gj_V} {m sn n i : Nat} {A : aS} {t : Int32} {o : tok} (hs : msh σ m) (hM : MR (v (m + 2)) A t sn) (hI : IV A n sn) (hi : i < 120) (w0 : v (m + 6) i = o.1) (w1 : v (m + 7) i = o.2.1) (w2 : v (m + 8) i = o.2.2.1) (w3 : v (m + 9) i = o.2.2.2) (h3 : ∃ q, q ≤ 9 ∧ o.2.2.2 = nI q) (hlet : o.1 = 112 ∨ o.1 = 116 ∨ o.1 = 109) : gj_E X 4 m_X11_doesOne [.ref m, .int (nI i)] lim σ v (q_i lim σ (fun z v' => (z = 0 ∧ (a_one A o.1 o.2.1 o.2.2.1 o.2.2.2).1 = 0 ∨ z = 1 ∧ ¬ (a_one A o.1 o.2.1 o.2.2.1 o.2.2.2).1 = 0) ∧ mc v v' m (a_one A o.1 o.2.1 o.2.2.1 o.2.2.2).2 t sn)) := by
  obtain ⟨so, s1, s2, s3, s4, s5, s6, s7, s8, s9, s10, s11, s12⟩ := id hs
  have hn6 := hI.2.1.2.2.2.1
  refine gj_E_at (L := [some (.ref m), some (.int (nI i)), none, none]) (k := 2) rfl (by decide) rfl ?_
  refine g_aload_n (q := 1) dX11_doesOne_0 rfl rfl ?_
  refine g_getR (q := 4) f_X11_28 (by assumption) rfl dX11_doesOne_1 rfl ?_
  refine g_iload_n (q := 5) dX11_doesOne_4 rfl rfl ?_
  refine g_iald (q := 6) (by assumption) rfl (by omega) (by decide) dX11_doesOne_5 rfl ?_
  rw [w1]
  refine g_istore_n (q := 7) dX11_doesOne_6 rfl rfl rfl rfl ?_
  dsimp only [List.set]
  refine g_aload_n (q := 8) dX11_doesOne_7 rfl rfl ?_
  refine g_getR (q := 11) f_X11_31 (by assumption) rfl dX11_doesOne_8 rfl ?_
  refine g_iload_n (q := 12) dX11_doesOne_11 rfl rfl ?_
  refine g_iald (q := 13) (by assumption) rfl (by omega) (by decide) dX11_doesOne_12 rfl ?_
  rw [w2]
  refine g_istore_n (q := 14) dX11_doesOne_13 rfl rfl rfl rfl ?_
  dsimp only [List.set]
  refine g_aload_n (q := 15) dX11_doesOne_14 rfl rfl ?_
  refine g_getR (q := 18) f_X11_25 (by assumption) rfl dX11_doesOne_15 rfl ?_
  refine g_iload_n (q := 19) dX11_doesOne_18 rfl rfl ?_
  refine g_iald (q := 20) (by assumption) rfl (by omega) (by decide) dX11_doesOne_19 rfl ?_
  rw [w0]
  refine g_bipush (q := 22) (x := 112) dX11_doesOne_20 (by decide) rfl ?_
  refine g_icmpne (t := 49) (q := 25) dX11_doesOne_22 (by decide) rfl (fun hq22 => ?_) (fun hq22 => ?_)
  · refine g_aload_n (q := 50) dX11_doesOne_49 rfl rfl ?_
    refine g_getR (q := 53) f_X11_25 (by assumption) rfl dX11_doesOne_50 rfl ?_
    refine g_iload_n (q := 54) dX11_doesOne_53 rfl rfl ?_
    refine g_iald (q := 55) (by assumption) rfl (by omega) (by decide) dX11_doesOne_54 rfl ?_
    rw [w0]
    refine g_bipush (q := 57) (x := 116) dX11_doesOne_55 (by decide) rfl ?_
    refine g_icmpne (t := 84) (q := 60) dX11_doesOne_57 (by decide) rfl (fun hq57 => ?_) (fun hq57 => ?_)
    · have hm9 : o.1 = 109 := by
        rcases hlet with q | q | q
        · exact absurd q hq22
        · exact absurd q hq57
        · exact q
      refine g_aload_n (q := 85) dX11_doesOne_84 rfl rfl ?_
      refine g_iload_n (q := 86) dX11_doesOne_85 rfl rfl ?_
      refine c_Vi (q := 89) (p_X11_isBuffer hs hM hI.2.1.1 hn6) k_X11_136 (by assumption) rfl (by decide) rfl rfl (Nat.le_of_ble_eq_true rfl) rfl rfl dX11_doesOne_86 rfl ?_
      rintro z0 w9 ⟨hz0, hw9⟩
      subst w9
      refine g_ifeq (t := 130) (q := 92) dX11_doesOne_89 (by decide) rfl (fun hq89 => ?_) (fun hq89 => ?_)
      · rw [hz0] at hq89
        have hq89 := gn_b0 hq89
        have eo : a_one A o.1 o.2.1 o.2.2.1 o.2.2.2 = (0, A) := by rw [a_one, if_neg hq57, if_neg hq22, if_neg (fun z => hq89 z.1)]
        refine g_iconst (q := 131) (x := 0) dX11_doesOne_130 (by decide) rfl ?_
        refine r_z dX11_doesOne_131 rfl rfl rfl (by decide) ?_
        refine ⟨Or.inl ⟨rfl, ?_⟩, ?_⟩
        · rw [eo]
        · rw [eo]
          exact mc.rf hM
      · rw [hz0] at hq89
        have hq89 := gn_b1 hq89
        refine g_aload_n (q := 93) dX11_doesOne_92 rfl rfl ?_
        refine g_iload_n (q := 94) dX11_doesOne_93 rfl rfl ?_
        refine c_Vi (q := 97) (p_X11_isBuffer hs hM hI.2.1.1 hn6) k_X11_136 (by assumption) rfl (by decide) rfl rfl (Nat.le_of_ble_eq_true rfl) rfl rfl dX11_doesOne_94 rfl ?_
        rintro z0 w9 ⟨hz0, hw9⟩
        subst w9
        refine g_ifeq (t := 130) (q := 100) dX11_doesOne_97 (by decide) rfl (fun hq97 => ?_) (fun hq97 => ?_)
        · rw [hz0] at hq97
          have hq97 := gn_b0 hq97
          have eo : a_one A o.1 o.2.1 o.2.2.1 o.2.2.2 = (0, A) := by rw [a_one, if_neg hq57, if_neg hq22, if_neg (fun z => hq97 z.2.1)]
          refine g_iconst (q := 131) (x := 0) dX11_doesOne_130 (by decide) rfl ?_
          refine r_z dX11_doesOne_131 rfl rfl rfl (by decide) ?_
          refine ⟨Or.inl ⟨rfl, ?_⟩, ?_⟩
          · rw [eo]
          · rw [eo]
            exact mc.rf hM
        · rw [hz0] at hq97
          have hq97 := gn_b1 hq97
          refine g_iload_n (q := 101) dX11_doesOne_100 rfl rfl ?_
          refine g_iload_n (q := 102) dX11_doesOne_101 rfl rfl ?_
          refine g_icmpeq (t := 130) (q := 105) dX11_doesOne_102 (by decide) rfl (fun hq102 => ?_) (fun hq102 => ?_)
          · have eo : a_one A o.1 o.2.1 o.2.2.1 o.2.2.2 = (0, A) := by rw [a_one, if_neg hq57, if_neg hq22, if_neg (fun z => z.2.2 hq102)]
            refine g_iconst (q := 131) (x := 0) dX11_doesOne_130 (by decide) rfl ?_
            refine r_z dX11_doesOne_131 rfl rfl rfl (by decide) ?_
            refine ⟨Or.inl ⟨rfl, ?_⟩, ?_⟩
            · rw [eo]
            · rw [eo]
              exact mc.rf hM
          · have e0z : a_one A o.1 o.2.1 o.2.2.1 o.2.2.2 = (if nI (a_move A (iN o.2.1) (iN o.2.2.1) (iN o.2.2.2)).1 = o.2.2.2 then 1 else 0, (a_move A (iN o.2.1) (iN o.2.2.1) (iN o.2.2.2)).2) := by rw [a_one, if_neg hq57, if_neg hq22, if_pos ⟨hq89, hq97, hq102⟩]
            obtain ⟨j, hjn, ejz⟩ := a_has_of hI.2.1.1 (by omega) hq89
            have j6 : j < 6 := by omega
            have ijz : iN (nI j) = j := iN_n (by omega)
            obtain ⟨k, hkn, ekz⟩ := a_has_of hI.2.1.1 (by omega) hq97
            have k6 : k < 6 := by omega
            have ikz : iN (nI k) = k := iN_n (by omega)
            obtain ⟨q, hq, eqz⟩ := h3
            have iqz : iN (nI q) = q := iN_n (by omega)
            have hjk : j ≠ k := fun z => hq102 (by rw [ejz, ekz, z])
            rw [ejz, ekz]
            refine g_aload_n (q := 106) dX11_doesOne_105 rfl rfl ?_
            refine g_iload_n (q := 107) dX11_doesOne_106 rfl rfl ?_
            refine g_iload_n (q := 108) dX11_doesOne_107 rfl rfl ?_
            refine g_aload_n (q := 109) dX11_doesOne_108 rfl rfl ?_
            refine g_getR (q := 112) f_X11_34 (by assumption) rfl dX11_doesOne_109 rfl ?_
            refine g_iload_n (q := 113) dX11_doesOne_112 rfl rfl ?_
            refine g_iald (q := 114) (by assumption) rfl (by omega) (by decide) dX11_doesOne_113 rfl ?_
            rw [w3, eqz]
            refine c_Vi (q := 117) (p_X11_move hs hM (n := q) hI.1 j6 k6 hjk (by omega)) k_X11_155 (by assumption) rfl (by decide) rfl rfl (Nat.le_of_ble_eq_true rfl) rfl rfl dX11_doesOne_114 rfl ?_
            rintro y9 vq9 ⟨hy9, hc9⟩
            have w39 : vq9 (m + 9) = v (m + 9) := hc9.o _ (by omega)
            subst y9
            refine g_aload_n (q := 118) dX11_doesOne_117 rfl rfl ?_
            refine g_getR (q := 121) f_X11_34 (by assumption) rfl dX11_doesOne_118 rfl ?_
            refine g_iload_n (q := 122) dX11_doesOne_121 rfl rfl ?_
            refine g_iald (q := 123) (by assumption) rfl (by omega) (by decide) dX11_doesOne_122 rfl ?_
            refine g_icmpne (t := 130) (q := 126) dX11_doesOne_123 (by decide) rfl (fun hq123 => ?_) (fun hq123 => ?_)
            · rw [w39, w3, eqz] at hq123
              have eo : a_one A o.1 o.2.1 o.2.2.1 o.2.2.2 = (0, (a_move A j k q).2) := by rw [e0z, ejz, ekz, eqz, ijz, ikz, iqz, if_neg hq123]
              refine g_iconst (q := 131) (x := 0) dX11_doesOne_130 (by decide) rfl ?_
              refine r_z dX11_doesOne_131 rfl rfl rfl (by decide) ?_
              rw [ejz, ekz, eqz] at eo
              refine ⟨Or.inl ⟨rfl, ?_⟩, ?_⟩
              · rw [eo]
              · rw [eo]
                exact hc9
            · rw [w39, w3, eqz] at hq123
              have eo : a_one A o.1 o.2.1 o.2.2.1 o.2.2.2 = (1, (a_move A j k q).2) := by rw [e0z, ejz, ekz, eqz, ijz, ikz, iqz, if_pos hq123]
              refine g_iconst (q := 127) (x := 1) dX11_doesOne_126 (by decide) rfl ?_
              refine g_goto (q := 131) dX11_doesOne_127 (by decide) ?_
              refine r_z dX11_doesOne_131 rfl rfl rfl (by decide) ?_
              rw [ejz, ekz, eqz] at eo
              refine ⟨Or.inr ⟨rfl, ?_⟩, ?_⟩
              · rw [eo]; first | assumption | decide | (show ¬ (1 : Int32) = 0; decide)
              · rw [eo]
                exact hc9
    · refine g_aload_n (q := 61) dX11_doesOne_60 rfl rfl ?_
      refine g_iload_n (q := 62) dX11_doesOne_61 rfl rfl ?_
      refine c_Vi (q := 65) (p_X11_isBuffer hs hM hI.2.1.1 hn6) k_X11_136 (by assumption) rfl (by decide) rfl rfl (Nat.le_of_ble_eq_true rfl) rfl rfl dX11_doesOne_62 rfl ?_
      rintro z0 w9 ⟨hz0, hw9⟩
      subst w9
      refine g_ifeq (t := 82) (q := 68) dX11_doesOne_65 (by decide) rfl (fun hq65 => ?_) (fun hq65 => ?_)
      · rw [hz0] at hq65
        have hq65 := gn_b0 hq65
        have eo : a_one A o.1 o.2.1 o.2.2.1 o.2.2.2 = (0, A) := by rw [a_one, if_pos hq57, if_neg hq65]
        refine g_iconst (q := 83) (x := 0) dX11_doesOne_82 (by decide) rfl ?_
        refine r_z dX11_doesOne_83 rfl rfl rfl (by decide) ?_
        refine ⟨Or.inl ⟨rfl, ?_⟩, ?_⟩
        · rw [eo]
        · rw [eo]
          exact mc.rf hM
      · rw [hz0] at hq65
        have hq65 := gn_b1 hq65
        obtain ⟨j, hjn, ejz⟩ := a_has_of hI.2.1.1 (by omega) hq65
        have j6 : j < 6 := by omega
        have ijz : iN (nI j) = j := iN_n (by omega)
        rw [ejz]
        refine g_aload_n (q := 69) dX11_doesOne_68 rfl rfl ?_
        refine g_iload_n (q := 70) dX11_doesOne_69 rfl rfl ?_
        refine g_iconst (q := 71) (x := (-1)) dX11_doesOne_70 (by decide) rfl ?_
        refine c_Vi (q := 74) (p_X11_take hs hM (w := -1) j6 (hI.1 j j6).2.2) k_X11_95 (by assumption) rfl (by decide) rfl rfl (Nat.le_of_ble_eq_true rfl) rfl rfl dX11_doesOne_71 rfl ?_
        rintro y9 vq9 ⟨hy9, hc9⟩
        refine g_iconst (q := 75) (x := (-1)) dX11_doesOne_74 (by decide) rfl ?_
        refine g_icmpeq (t := 82) (q := 78) dX11_doesOne_75 (by decide) rfl (fun hq75 => ?_) (fun hq75 => ?_)
        · have ht : (a_take A j (-1)).1 = -5 := by
            by_cases z : (a_take A j (-1)).1 = -5
            · exact z
            · rw [hy9, if_neg z] at hq75
              exact absurd (b_take_kind (hI.1 j j6) z).2.2.1 (by rw [show (b_take (gB A j) (-1)).1 = -1 from hq75]; decide)
          have eo : a_one A o.1 o.2.1 o.2.2.1 o.2.2.2 = (0, (a_take A j (-1)).2) := by rw [a_one, if_pos hq57, if_pos hq65, ejz, ijz, if_pos ht]
          refine g_iconst (q := 83) (x := 0) dX11_doesOne_82 (by decide) rfl ?_
          refine r_z dX11_doesOne_83 rfl rfl rfl (by decide) ?_
          rw [ejz] at eo
          refine ⟨Or.inl ⟨rfl, ?_⟩, ?_⟩
          · rw [eo]
          · rw [eo]
            exact hc9
        · have ht : ¬ (a_take A j (-1)).1 = -5 := fun z => hq75 (by rw [hy9, if_pos z])
          have eo : a_one A o.1 o.2.1 o.2.2.1 o.2.2.2 = (1, (a_take A j (-1)).2) := by rw [a_one, if_pos hq57, if_pos hq65, ejz, ijz, if_neg ht]
          refine g_iconst (q := 79) (x := 1) dX11_doesOne_78 (by decide) rfl ?_
          refine g_goto (q := 83) dX11_doesOne_79 (by decide) ?_
          refine r_z dX11_doesOne_83 rfl rfl rfl (by decide) ?_
          rw [ejz] at eo
          refine ⟨Or.inr ⟨rfl, ?_⟩, ?_⟩
          · rw [eo]; first | assumption | decide | (show ¬ (1 : Int32) = 0; decide)
          · rw [eo]
            exact hc9
  · refine g_aload_n (q := 26) dX11_doesOne_25 rfl rfl ?_
    refine g_iload_n (q := 27) dX11_doesOne_26 rfl rfl ?_
    refine c_Vi (q := 30) (p_X11_isBuffer hs hM hI.2.1.1 hn6) k_X11_136 (by assumption) rfl (by decide) rfl rfl (Nat.le_of_ble_eq_true rfl) rfl rfl dX11_doesOne_27 rfl ?_
    rintro z0 w9 ⟨hz0, hw9⟩
    subst w9
    refine g_ifeq (t := 47) (q := 33) dX11_doesOne_30 (by decide) rfl (fun h30 => ?_) (fun h30 => ?_)
    · rw [hz0] at h30
      have h30 := gn_b0 h30
      have eo : a_one A o.1 o.2.1 o.2.2.1 o.2.2.2 = (0, A) := by rw [a_one, if_neg (by rw [hq22]; decide), if_pos hq22, if_neg h30]
      refine g_iconst (q := 48) (x := 0) dX11_doesOne_47 (by decide) rfl ?_
      refine r_z dX11_doesOne_48 rfl rfl rfl (by decide) ?_
      refine ⟨Or.inl ⟨rfl, ?_⟩, ?_⟩
      · rw [eo]
      · rw [eo]
        exact mc.rf hM
    · rw [hz0] at h30
      have h30 := gn_b1 h30
      obtain ⟨j, hjn, ejz⟩ := a_has_of hI.2.1.1 (by omega) h30
      have j6 : j < 6 := by omega
      have ijz : iN (nI j) = j := iN_n (by omega)
      rw [ejz]
      refine g_aload_n (q := 34) dX11_doesOne_33 rfl rfl ?_
      refine g_iload_n (q := 35) dX11_doesOne_34 rfl rfl ?_
      refine g_iload_n (q := 36) dX11_doesOne_35 rfl rfl ?_
      refine g_iconst (q := 37) (x := (-1)) dX11_doesOne_36 (by decide) rfl ?_
      refine c_Vi (q := 40) (p_X11_put hs hM j6 (k := o.2.2.1) (w := -1) (hI.1 j j6).1) k_X11_98 (by assumption) rfl (by decide) rfl rfl (Nat.le_of_ble_eq_true rfl) rfl rfl dX11_doesOne_37 rfl ?_
      rintro y9 vq9 ⟨hy9, hc9⟩
      refine g_ifeq (t := 47) (q := 43) dX11_doesOne_40 (by decide) rfl (fun hq40 => ?_) (fun hq40 => ?_)
      · rw [hy9] at hq40
        have eo : a_one A o.1 o.2.1 o.2.2.1 o.2.2.2 = (0, (a_put A j o.2.2.1 (-1)).2) := by rw [a_one, if_neg (by rw [hq22]; decide), if_pos hq22, if_pos h30, ejz, ijz]; exact Prod.ext hq40 rfl
        refine g_iconst (q := 48) (x := 0) dX11_doesOne_47 (by decide) rfl ?_
        refine r_z dX11_doesOne_48 rfl rfl rfl (by decide) ?_
        rw [ejz] at eo
        refine ⟨Or.inl ⟨rfl, ?_⟩, ?_⟩
        · rw [eo]
        · rw [eo]
          exact hc9
      · rw [hy9] at hq40
        have eo : a_one A o.1 o.2.1 o.2.2.1 o.2.2.2 = a_put A j o.2.2.1 (-1) := by rw [a_one, if_neg (by rw [hq22]; decide), if_pos hq22, if_pos h30, ejz, ijz]
        refine g_iconst (q := 44) (x := 1) dX11_doesOne_43 (by decide) rfl ?_
        refine g_goto (q := 48) dX11_doesOne_44 (by decide) ?_
        refine r_z dX11_doesOne_48 rfl rfl rfl (by decide) ?_
        rw [ejz] at eo
        refine ⟨Or.inr ⟨rfl, ?_⟩, ?_⟩
        · rw [eo]; first | assumption | decide | (show ¬ (1 : Int32) = 0; decide)
        · rw [eo]
          exact hc9
