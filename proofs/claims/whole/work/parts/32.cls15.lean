/-! ===== Text: its fault ===== -/
theorem fgo_le (c : Int32) : fgo c ≤ 3 := by
  unfold fgo
  repeat' split
  all_goals decide
theorem gn_dec (k : Nat) : nI (k + 1) + Int32.ofInt (-1) = nI k := by
  rw [← nI_1, Int32.add_assoc]
  exact Int32.add_zero _
theorem dr_cons {l : List Int32} {i : Nat} {c : Int32} {r : List Int32} (h : l.drop i = c :: r) : i < l.length ∧ l.getD i 0 = c ∧ l.drop (i + 1) = r := by
  have hi : i < l.length := by
    rcases Nat.lt_or_ge i l.length with q | q
    · exact q
    · rw [List.drop_eq_nil_of_le q] at h; exact absurd h (by simp)
  rw [List.drop_eq_getElem_cons hi] at h
  injection h with h1 h2
  refine ⟨hi, ?_, h2⟩
  rw [List.getD_eq_getElem?_getD, List.getElem?_eq_getElem hi]
  exact h1
theorem dr_nil {l : List Int32} {i : Nat} (h : l.drop i = []) (hi : i ≤ l.length) : i = l.length := by
  have := congrArg List.length h
  simp at this
  omega
theorem l_at_t {l : List Int32} {i : Nat} (h : i < l.length) (hl : l.length < 1000) : l_at l (nI i) = l.getD i 0 := by
  unfold l_at
  rw [if_neg (nI_pos (by omega)), if_neg (nI_ge h (by omega))]
  rw [show (nI i).toNatClampNeg = i from nI_clamp (by omega)]
theorem flt_n {i g f : Nat} {e : Bool} (h : e = true ∨ 0 < f ∨ 0 < g) : flt [] i g f e = some i := if_pos h
theorem flt_z {i g f : Nat} {e : Bool} (h : ¬ (e = true ∨ 0 < f ∨ 0 < g)) : flt [] i g f e = none := if_neg h
theorem gn_0lt {g : Nat} (h : ¬ nI g ≤ 0) : 0 < g := by
  rcases Nat.eq_zero_or_pos g with q | q
  · exact absurd (by rw [q]; decide) h
  · exact q
theorem gn_le0 {g : Nat} (hg : g < 100) (h : nI g ≤ 0) : g = 0 := Nat.le_zero.mp (gn_le (k := 0) h (by omega))

set_option maxRecDepth 100000 in
set_option maxHeartbeats 4000000 in
theorem p_X8_figuresOf {X : gj_X} {lim : Nat} {σ : gj_H} {v : gj_V} {c : Int32} : gj_E X 0 m_X8_figuresOf [.int c] lim σ v (q_i lim σ (fun z v' => z = nI (fgo c) ∧ v' = v)) := by
  by_cases hq2 : c = 112
  · subst hq2
    refine gj_E_at (L := [some (.int (112))]) (k := 0) rfl (by decide) rfl ?_
    refine g_iload_n (q := 1) dX8_figuresOf_0 rfl rfl ?_
    refine g_lookup (t := 36) (o := 35) dX8_figuresOf_1 (by decide) (by decide) (by decide) ?_
    refine g_iconst (q := 37) (x := 2) dX8_figuresOf_36 (by decide) rfl ?_
    refine r_i dX8_figuresOf_37 rfl rfl rfl ?_
    exact ⟨rfl, rfl⟩
  by_cases hq3 : c = 116
  · subst hq3
    refine gj_E_at (L := [some (.int (116))]) (k := 0) rfl (by decide) rfl ?_
    refine g_iload_n (q := 1) dX8_figuresOf_0 rfl rfl ?_
    refine g_lookup (t := 38) (o := 37) dX8_figuresOf_1 (by decide) (by decide) (by decide) ?_
    refine g_iconst (q := 39) (x := 1) dX8_figuresOf_38 (by decide) rfl ?_
    refine r_i dX8_figuresOf_39 rfl rfl rfl ?_
    exact ⟨rfl, rfl⟩
  by_cases hq4 : c = 109
  · subst hq4
    refine gj_E_at (L := [some (.int (109))]) (k := 0) rfl (by decide) rfl ?_
    refine g_iload_n (q := 1) dX8_figuresOf_0 rfl rfl ?_
    refine g_lookup (t := 40) (o := 39) dX8_figuresOf_1 (by decide) (by decide) (by decide) ?_
    refine g_iconst (q := 41) (x := 3) dX8_figuresOf_40 (by decide) rfl ?_
    refine r_i dX8_figuresOf_41 rfl rfl rfl ?_
    exact ⟨rfl, rfl⟩
  refine gj_E_at (L := [some (.int c)]) (k := 0) rfl (by decide) rfl ?_
  have k2 : ¬ c.toInt = 112 := fun e => hq2 (Int32.toInt_inj.mp (e.trans (by decide)))
  have k3 : ¬ c.toInt = 116 := fun e => hq3 (Int32.toInt_inj.mp (e.trans (by decide)))
  have k4 : ¬ c.toInt = 109 := fun e => hq4 (Int32.toInt_inj.mp (e.trans (by decide)))
  refine g_iload_n (q := 1) dX8_figuresOf_0 rfl rfl ?_
  refine g_lookup (t := 42) (o := 41) dX8_figuresOf_1 (by decide) (by simp [Op.lookupswitch.offset, k2, k3, k4, Ne.symm k2, Ne.symm k3, Ne.symm k4, eq_comm]) (by decide) ?_
  refine g_iconst (q := 43) (x := 0) dX8_figuresOf_42 (by decide) rfl ?_
  refine r_i dX8_figuresOf_43 rfl rfl rfl ?_
  exact ⟨by unfold fgo; rw [if_neg hq2, if_neg hq3, if_neg hq4]; rfl, rfl⟩

set_option maxRecDepth 100000 in
set_option maxHeartbeats 4000000 in
theorem p_X8_fault {X : gj_X} {lim : Nat} {σ : gj_H} {v : gj_V} {p : Nat} {tx : List Int32} (hs : tsh σ p) (hr : TR v p tx) : gj_E X 1 m_X8_fault [.ref p] lim σ v (q_i lim σ (fun z v' => z = fvo (flt tx 0 0 0 true) ∧ v' = v)) := by
  have hl := hr.2.1
  have sr := hs.1
  have lp : ∀ (r : List Int32) (i g f : Nat) (e : Bool), tx.drop i = r → i ≤ tx.length → g ≤ 4 → f ≤ 3 → gj_G X 1 m_X8_fault (q_i lim σ (fun z v' => z = fvo (flt r i g f e) ∧ v' = v)) lim σ v 0 0 9 [some (.ref p), some (.int (nI g)), some (.int (nI f)), some (.int (if e = true then 1 else 0)), some (.int (nI i)), none] [] := by
    intro r
    induction r with
    | nil =>
      intro i g f e hd hi hg hf
      have ei := dr_nil hd hi
      refine g_iload (q := 11) dX8_fault_9 rfl rfl ?_
      refine g_aload_n (q := 12) dX8_fault_11 rfl rfl ?_
      refine g_getI (q := 15) f_X8_15 (by assumption) rfl dX8_fault_12 rfl ?_
      refine g_icmpge (t := 117) (q := 18) dX8_fault_15 (by decide) rfl (fun hq15 => ?_) (fun hq15 => ?_)
      · refine g_iload_n (q := 118) dX8_fault_117 rfl rfl ?_
        refine g_ifne (t := 129) (q := 121) dX8_fault_118 (by decide) rfl (fun hq118 => ?_) (fun hq118 => ?_)
        · have hq118 := gn_b1 hq118
          refine g_aload_n (q := 130) dX8_fault_129 rfl rfl ?_
          refine g_getI (q := 133) f_X8_15 (by assumption) rfl dX8_fault_130 rfl ?_
          refine g_goto (q := 137) dX8_fault_133 (by decide) ?_
          refine r_i dX8_fault_137 rfl rfl rfl ?_
          first | (rw [flt_n (Or.inl hq118)]; exact ⟨by rw [hr.1, ei]; rfl, rfl⟩) | (rw [flt_n (Or.inr (Or.inl hq122))]; exact ⟨by rw [hr.1, ei]; rfl, rfl⟩) | (rw [flt_n (Or.inr (Or.inr hq126))]; exact ⟨by rw [hr.1, ei]; rfl, rfl⟩) | (rw [flt_z (by rintro (q | q | q); exact hq118 q; omega; omega)]; exact ⟨rfl, rfl⟩)
        · have hq118 := gn_b0 hq118
          refine g_iload_n (q := 122) dX8_fault_121 rfl rfl ?_
          refine g_ifgt (t := 129) (q := 125) dX8_fault_122 (by decide) rfl (fun hq122 => ?_) (fun hq122 => ?_)
          · have hq122 : 0 < f := gn_0lt (Int32.not_le.mpr hq122)
            refine g_aload_n (q := 130) dX8_fault_129 rfl rfl ?_
            refine g_getI (q := 133) f_X8_15 (by assumption) rfl dX8_fault_130 rfl ?_
            refine g_goto (q := 137) dX8_fault_133 (by decide) ?_
            refine r_i dX8_fault_137 rfl rfl rfl ?_
            first | (rw [flt_n (Or.inl hq118)]; exact ⟨by rw [hr.1, ei]; rfl, rfl⟩) | (rw [flt_n (Or.inr (Or.inl hq122))]; exact ⟨by rw [hr.1, ei]; rfl, rfl⟩) | (rw [flt_n (Or.inr (Or.inr hq126))]; exact ⟨by rw [hr.1, ei]; rfl, rfl⟩) | (rw [flt_z (by rintro (q | q | q); exact hq118 q; omega; omega)]; exact ⟨rfl, rfl⟩)
          · have hq122 : f = 0 := gn_le0 (by omega) (Int32.not_lt.mp hq122)
            refine g_iload_n (q := 126) dX8_fault_125 rfl rfl ?_
            refine g_ifle (t := 136) (q := 129) dX8_fault_126 (by decide) rfl (fun hq126 => ?_) (fun hq126 => ?_)
            · have hq126 : g = 0 := gn_le0 (by omega) hq126
              refine g_iconst (q := 137) (x := (-1)) dX8_fault_136 (by decide) rfl ?_
              refine r_i dX8_fault_137 rfl rfl rfl ?_
              first | (rw [flt_n (Or.inl hq118)]; exact ⟨by rw [hr.1, ei]; rfl, rfl⟩) | (rw [flt_n (Or.inr (Or.inl hq122))]; exact ⟨by rw [hr.1, ei]; rfl, rfl⟩) | (rw [flt_n (Or.inr (Or.inr hq126))]; exact ⟨by rw [hr.1, ei]; rfl, rfl⟩) | (rw [flt_z (by rintro (q | q | q); exact hq118 q; omega; omega)]; exact ⟨rfl, rfl⟩)
            · have hq126 : 0 < g := gn_0lt hq126
              refine g_aload_n (q := 130) dX8_fault_129 rfl rfl ?_
              refine g_getI (q := 133) f_X8_15 (by assumption) rfl dX8_fault_130 rfl ?_
              refine g_goto (q := 137) dX8_fault_133 (by decide) ?_
              refine r_i dX8_fault_137 rfl rfl rfl ?_
              first | (rw [flt_n (Or.inl hq118)]; exact ⟨by rw [hr.1, ei]; rfl, rfl⟩) | (rw [flt_n (Or.inr (Or.inl hq122))]; exact ⟨by rw [hr.1, ei]; rfl, rfl⟩) | (rw [flt_n (Or.inr (Or.inr hq126))]; exact ⟨by rw [hr.1, ei]; rfl, rfl⟩) | (rw [flt_z (by rintro (q | q | q); exact hq118 q; omega; omega)]; exact ⟨rfl, rfl⟩)
      · exact absurd (by rw [hr.1, ei]; exact Int32.le_refl _) hq15
    | cons c r ih =>
      intro i g f e hd hi hg hf
      obtain ⟨d1, d2, d3⟩ := dr_cons hd
      refine g_iload (q := 11) dX8_fault_9 rfl rfl ?_
      refine g_aload_n (q := 12) dX8_fault_11 rfl rfl ?_
      refine g_getI (q := 15) f_X8_15 (by assumption) rfl dX8_fault_12 rfl ?_
      refine g_icmpge (t := 117) (q := 18) dX8_fault_15 (by decide) rfl (fun hq15 => ?_) (fun hq15 => ?_)
      · rw [hr.1] at hq15
        exact absurd (gn_le hq15 (by omega)) (by omega)
      · refine g_aload_n (q := 19) dX8_fault_18 rfl rfl ?_
        refine g_iload (q := 21) dX8_fault_19 rfl rfl ?_
        refine c_Vi (q := 24) (p_X8_at hs hr) k_X8_23 hs.1 rfl (by decide) rfl rfl (Nat.le_of_ble_eq_true rfl) rfl rfl dX8_fault_21 rfl ?_
        rintro y w1 ⟨hy1, hw1⟩
        subst w1
        rw [l_at_t d1 (by omega), d2] at hy1
        subst y
        refine g_istore (q := 26) dX8_fault_24 rfl rfl rfl rfl ?_
        dsimp only [List.set]
        refine g_iload (q := 28) dX8_fault_26 rfl rfl ?_
        refine g_bipush (q := 30) (x := 32) dX8_fault_28 (by decide) rfl ?_
        refine g_icmpne (t := 36) (q := 33) dX8_fault_30 (by decide) rfl (fun hq30 => ?_) (fun hq30 => ?_)
        · refine g_iconst (q := 37) (x := 0) dX8_fault_36 (by decide) rfl ?_
          refine g_istore_n (q := 38) dX8_fault_37 rfl rfl rfl rfl ?_
          dsimp only [List.set]
          refine g_iload_n (q := 39) dX8_fault_38 rfl rfl ?_
          refine g_ifle (t := 63) (q := 42) dX8_fault_39 (by decide) rfl (fun hq39 => ?_) (fun hq39 => ?_)
          · have hfq0 : f = 0 := gn_le0 (by omega) hq39
            refine g_iload (q := 65) dX8_fault_63 rfl rfl ?_
            refine g_bipush (q := 67) (x := 40) dX8_fault_65 (by decide) rfl ?_
            refine g_icmpne (t := 81) (q := 70) dX8_fault_67 (by decide) rfl (fun hq67 => ?_) (fun hq67 => ?_)
            · refine g_iload (q := 83) dX8_fault_81 rfl rfl ?_
              refine g_bipush (q := 85) (x := 41) dX8_fault_83 (by decide) rfl ?_
              refine g_icmpne (t := 98) (q := 88) dX8_fault_85 (by decide) rfl (fun hq85 => ?_) (fun hq85 => ?_)
              · subst hfq0
                have n40 : ¬ (c = 40 ∧ g < 4) := fun q => by first | exact hq67 q.1 | exact hg4 q.2
                have n41 : ¬ (c = 41 ∧ 0 < g) := fun q => by first | exact hq85 q.1 | exact hg0 q.2
                refine g_iload (q := 100) dX8_fault_98 rfl rfl ?_
                refine c_Si (q := 103) p_X8_figuresOf k_X8_31 (by decide) rfl rfl (Nat.le_of_ble_eq_true rfl) rfl rfl dX8_fault_100 rfl ?_
                rintro y w1 ⟨rfl, hw1⟩
                subst w1
                have fg3 : fgo c ≤ 3 := fgo_le c
                refine g_istore_n (q := 104) dX8_fault_103 rfl rfl rfl rfl ?_
                dsimp only [List.set]
                refine g_iload_n (q := 105) dX8_fault_104 rfl rfl ?_
                refine g_ifne (t := 111) (q := 108) dX8_fault_105 (by decide) rfl (fun hq105 => ?_) (fun hq105 => ?_)
                · have hE : flt (c :: r) i g 0 e = flt r (i + 1) g (fgo c) false := by rw [flt, if_neg hq30, if_neg (by omega), if_neg n40, if_neg n41, if_neg (fun z => hq105 (by rw [z]; rfl))]
                  refine g_iinc (q := 114) (y := nI (i + 1)) dX8_fault_111 rfl (gn_inc i) rfl rfl rfl rfl ?_
                  dsimp only [List.set]
                  refine g_goto (q := 9) dX8_fault_114 (by decide) ?_
                  rw [hE]
                  refine g_wk (L' := [some (.ref p), some (.int (nI g)), some (.int (nI (fgo c))), some (.int (if false = true then 1 else 0)), some (.int (nI (i + 1))), none]) (by simp [gj_wk]) ?_
                  exact ih (i + 1) g (fgo c) false d3 (by omega) (by omega) (by omega)
                · have hE : flt (c :: r) i g 0 e = some i := by rw [flt, if_neg hq30, if_neg (by omega), if_neg n40, if_neg n41, if_pos (nI_inj6 (b := 0) (by omega) (by omega) hq105)]
                  refine g_iload (q := 110) dX8_fault_108 rfl rfl ?_
                  refine r_i dX8_fault_110 rfl rfl rfl ?_
                  rw [hE]
                  exact ⟨rfl, rfl⟩
              · refine g_iload_n (q := 89) dX8_fault_88 rfl rfl ?_
                refine g_ifle (t := 98) (q := 92) dX8_fault_89 (by decide) rfl (fun hq89 => ?_) (fun hq89 => ?_)
                · have hg0 : ¬ 0 < g := by have := gn_le0 (by omega) hq89; omega
                  subst hfq0
                  have n40 : ¬ (c = 40 ∧ g < 4) := fun q => by first | exact hq67 q.1 | exact hg4 q.2
                  have n41 : ¬ (c = 41 ∧ 0 < g) := fun q => by first | exact hq85 q.1 | exact hg0 q.2
                  refine g_iload (q := 100) dX8_fault_98 rfl rfl ?_
                  refine c_Si (q := 103) p_X8_figuresOf k_X8_31 (by decide) rfl rfl (Nat.le_of_ble_eq_true rfl) rfl rfl dX8_fault_100 rfl ?_
                  rintro y w1 ⟨rfl, hw1⟩
                  subst w1
                  have fg3 : fgo c ≤ 3 := fgo_le c
                  refine g_istore_n (q := 104) dX8_fault_103 rfl rfl rfl rfl ?_
                  dsimp only [List.set]
                  refine g_iload_n (q := 105) dX8_fault_104 rfl rfl ?_
                  refine g_ifne (t := 111) (q := 108) dX8_fault_105 (by decide) rfl (fun hq105 => ?_) (fun hq105 => ?_)
                  · have hE : flt (c :: r) i g 0 e = flt r (i + 1) g (fgo c) false := by rw [flt, if_neg hq30, if_neg (by omega), if_neg n40, if_neg n41, if_neg (fun z => hq105 (by rw [z]; rfl))]
                    refine g_iinc (q := 114) (y := nI (i + 1)) dX8_fault_111 rfl (gn_inc i) rfl rfl rfl rfl ?_
                    dsimp only [List.set]
                    refine g_goto (q := 9) dX8_fault_114 (by decide) ?_
                    rw [hE]
                    refine g_wk (L' := [some (.ref p), some (.int (nI g)), some (.int (nI (fgo c))), some (.int (if false = true then 1 else 0)), some (.int (nI (i + 1))), none]) (by simp [gj_wk]) ?_
                    exact ih (i + 1) g (fgo c) false d3 (by omega) (by omega) (by omega)
                  · have hE : flt (c :: r) i g 0 e = some i := by rw [flt, if_neg hq30, if_neg (by omega), if_neg n40, if_neg n41, if_pos (nI_inj6 (b := 0) (by omega) (by omega) hq105)]
                    refine g_iload (q := 110) dX8_fault_108 rfl rfl ?_
                    refine r_i dX8_fault_110 rfl rfl rfl ?_
                    rw [hE]
                    exact ⟨rfl, rfl⟩
                · have hg0 : 0 < g := gn_0lt hq89
                  obtain ⟨g0, rfl⟩ : ∃ g0, g = g0 + 1 := ⟨g - 1, by omega⟩
                  subst hfq0
                  have hE : flt (c :: r) i (g0 + 1) 0 e = flt r (i + 1) g0 0 false := by
                    rw [flt, if_neg hq30, if_neg (by omega), if_neg (fun q => absurd (q.1.symm.trans hq85) (by decide)), if_pos ⟨hq85, hg0⟩]; rfl
                  refine g_iinc (q := 95) (y := nI g0) dX8_fault_92 rfl (gn_dec g0) rfl rfl rfl rfl ?_
                  dsimp only [List.set]
                  refine g_goto (q := 111) dX8_fault_95 (by decide) ?_
                  refine g_iinc (q := 114) (y := nI (i + 1)) dX8_fault_111 rfl (gn_inc i) rfl rfl rfl rfl ?_
                  dsimp only [List.set]
                  refine g_goto (q := 9) dX8_fault_114 (by decide) ?_
                  rw [hE]
                  refine g_wk (L' := [some (.ref p), some (.int (nI g0)), some (.int (nI 0)), some (.int (if false = true then 1 else 0)), some (.int (nI (i + 1))), none]) (by simp [gj_wk]) ?_
                  exact ih (i + 1) g0 0 false d3 (by omega) (by omega) (by omega)
            · refine g_iload_n (q := 71) dX8_fault_70 rfl rfl ?_
              refine g_iconst (q := 72) (x := 4) dX8_fault_71 (by decide) rfl ?_
              refine g_icmpge (t := 81) (q := 75) dX8_fault_72 (by decide) rfl (fun hq72 => ?_) (fun hq72 => ?_)
              · have hg4 : ¬ g < 4 := fun z => absurd (gn_le (n := 4) hq72 (by omega)) (by omega)
                refine g_iload (q := 83) dX8_fault_81 rfl rfl ?_
                refine g_bipush (q := 85) (x := 41) dX8_fault_83 (by decide) rfl ?_
                refine g_icmpne (t := 98) (q := 88) dX8_fault_85 (by decide) rfl (fun hq85 => ?_) (fun hq85 => ?_)
                · subst hfq0
                  have n40 : ¬ (c = 40 ∧ g < 4) := fun q => by first | exact hq67 q.1 | exact hg4 q.2
                  have n41 : ¬ (c = 41 ∧ 0 < g) := fun q => by first | exact hq85 q.1 | exact hg0 q.2
                  refine g_iload (q := 100) dX8_fault_98 rfl rfl ?_
                  refine c_Si (q := 103) p_X8_figuresOf k_X8_31 (by decide) rfl rfl (Nat.le_of_ble_eq_true rfl) rfl rfl dX8_fault_100 rfl ?_
                  rintro y w1 ⟨rfl, hw1⟩
                  subst w1
                  have fg3 : fgo c ≤ 3 := fgo_le c
                  refine g_istore_n (q := 104) dX8_fault_103 rfl rfl rfl rfl ?_
                  dsimp only [List.set]
                  refine g_iload_n (q := 105) dX8_fault_104 rfl rfl ?_
                  refine g_ifne (t := 111) (q := 108) dX8_fault_105 (by decide) rfl (fun hq105 => ?_) (fun hq105 => ?_)
                  · have hE : flt (c :: r) i g 0 e = flt r (i + 1) g (fgo c) false := by rw [flt, if_neg hq30, if_neg (by omega), if_neg n40, if_neg n41, if_neg (fun z => hq105 (by rw [z]; rfl))]
                    refine g_iinc (q := 114) (y := nI (i + 1)) dX8_fault_111 rfl (gn_inc i) rfl rfl rfl rfl ?_
                    dsimp only [List.set]
                    refine g_goto (q := 9) dX8_fault_114 (by decide) ?_
                    rw [hE]
                    refine g_wk (L' := [some (.ref p), some (.int (nI g)), some (.int (nI (fgo c))), some (.int (if false = true then 1 else 0)), some (.int (nI (i + 1))), none]) (by simp [gj_wk]) ?_
                    exact ih (i + 1) g (fgo c) false d3 (by omega) (by omega) (by omega)
                  · have hE : flt (c :: r) i g 0 e = some i := by rw [flt, if_neg hq30, if_neg (by omega), if_neg n40, if_neg n41, if_pos (nI_inj6 (b := 0) (by omega) (by omega) hq105)]
                    refine g_iload (q := 110) dX8_fault_108 rfl rfl ?_
                    refine r_i dX8_fault_110 rfl rfl rfl ?_
                    rw [hE]
                    exact ⟨rfl, rfl⟩
                · refine g_iload_n (q := 89) dX8_fault_88 rfl rfl ?_
                  refine g_ifle (t := 98) (q := 92) dX8_fault_89 (by decide) rfl (fun hq89 => ?_) (fun hq89 => ?_)
                  · have hg0 : ¬ 0 < g := by have := gn_le0 (by omega) hq89; omega
                    subst hfq0
                    have n40 : ¬ (c = 40 ∧ g < 4) := fun q => by first | exact hq67 q.1 | exact hg4 q.2
                    have n41 : ¬ (c = 41 ∧ 0 < g) := fun q => by first | exact hq85 q.1 | exact hg0 q.2
                    refine g_iload (q := 100) dX8_fault_98 rfl rfl ?_
                    refine c_Si (q := 103) p_X8_figuresOf k_X8_31 (by decide) rfl rfl (Nat.le_of_ble_eq_true rfl) rfl rfl dX8_fault_100 rfl ?_
                    rintro y w1 ⟨rfl, hw1⟩
                    subst w1
                    have fg3 : fgo c ≤ 3 := fgo_le c
                    refine g_istore_n (q := 104) dX8_fault_103 rfl rfl rfl rfl ?_
                    dsimp only [List.set]
                    refine g_iload_n (q := 105) dX8_fault_104 rfl rfl ?_
                    refine g_ifne (t := 111) (q := 108) dX8_fault_105 (by decide) rfl (fun hq105 => ?_) (fun hq105 => ?_)
                    · have hE : flt (c :: r) i g 0 e = flt r (i + 1) g (fgo c) false := by rw [flt, if_neg hq30, if_neg (by omega), if_neg n40, if_neg n41, if_neg (fun z => hq105 (by rw [z]; rfl))]
                      refine g_iinc (q := 114) (y := nI (i + 1)) dX8_fault_111 rfl (gn_inc i) rfl rfl rfl rfl ?_
                      dsimp only [List.set]
                      refine g_goto (q := 9) dX8_fault_114 (by decide) ?_
                      rw [hE]
                      refine g_wk (L' := [some (.ref p), some (.int (nI g)), some (.int (nI (fgo c))), some (.int (if false = true then 1 else 0)), some (.int (nI (i + 1))), none]) (by simp [gj_wk]) ?_
                      exact ih (i + 1) g (fgo c) false d3 (by omega) (by omega) (by omega)
                    · have hE : flt (c :: r) i g 0 e = some i := by rw [flt, if_neg hq30, if_neg (by omega), if_neg n40, if_neg n41, if_pos (nI_inj6 (b := 0) (by omega) (by omega) hq105)]
                      refine g_iload (q := 110) dX8_fault_108 rfl rfl ?_
                      refine r_i dX8_fault_110 rfl rfl rfl ?_
                      rw [hE]
                      exact ⟨rfl, rfl⟩
                  · have hg0 : 0 < g := gn_0lt hq89
                    obtain ⟨g0, rfl⟩ : ∃ g0, g = g0 + 1 := ⟨g - 1, by omega⟩
                    subst hfq0
                    have hE : flt (c :: r) i (g0 + 1) 0 e = flt r (i + 1) g0 0 false := by
                      rw [flt, if_neg hq30, if_neg (by omega), if_neg (fun q => absurd (q.1.symm.trans hq85) (by decide)), if_pos ⟨hq85, hg0⟩]; rfl
                    refine g_iinc (q := 95) (y := nI g0) dX8_fault_92 rfl (gn_dec g0) rfl rfl rfl rfl ?_
                    dsimp only [List.set]
                    refine g_goto (q := 111) dX8_fault_95 (by decide) ?_
                    refine g_iinc (q := 114) (y := nI (i + 1)) dX8_fault_111 rfl (gn_inc i) rfl rfl rfl rfl ?_
                    dsimp only [List.set]
                    refine g_goto (q := 9) dX8_fault_114 (by decide) ?_
                    rw [hE]
                    refine g_wk (L' := [some (.ref p), some (.int (nI g0)), some (.int (nI 0)), some (.int (if false = true then 1 else 0)), some (.int (nI (i + 1))), none]) (by simp [gj_wk]) ?_
                    exact ih (i + 1) g0 0 false d3 (by omega) (by omega) (by omega)
              · have hg4 : g < 4 := gn_lt (n := 4) hq72 (by omega)
                subst hfq0
                have hE : flt (c :: r) i g 0 e = flt r (i + 1) (g + 1) 0 false := by rw [flt, if_neg hq30, if_neg (by omega), if_pos ⟨hq67, hg4⟩]
                refine g_iinc (q := 78) (y := nI (g + 1)) dX8_fault_75 rfl (gn_inc g) rfl rfl rfl rfl ?_
                dsimp only [List.set]
                refine g_goto (q := 111) dX8_fault_78 (by decide) ?_
                refine g_iinc (q := 114) (y := nI (i + 1)) dX8_fault_111 rfl (gn_inc i) rfl rfl rfl rfl ?_
                dsimp only [List.set]
                refine g_goto (q := 9) dX8_fault_114 (by decide) ?_
                rw [hE]
                refine g_wk (L' := [some (.ref p), some (.int (nI (g + 1))), some (.int (nI 0)), some (.int (if false = true then 1 else 0)), some (.int (nI (i + 1))), none]) (by simp [gj_wk]) ?_
                exact ih (i + 1) (g + 1) 0 false d3 (by omega) (by omega) (by omega)
          · have hfq1 : 0 < f := gn_0lt hq39
            obtain ⟨f0, rfl⟩ : ∃ f0, f = f0 + 1 := ⟨f - 1, by omega⟩
            refine g_iload (q := 44) dX8_fault_42 rfl rfl ?_
            refine g_bipush (q := 46) (x := 48) dX8_fault_44 (by decide) rfl ?_
            refine g_bipush (q := 48) (x := 57) dX8_fault_46 (by decide) rfl ?_
            refine c_Si (q := 51) p_X10_within k_X8_27 (by decide) rfl rfl (Nat.le_of_ble_eq_true rfl) rfl rfl dX8_fault_48 rfl ?_
            rintro z w1 ⟨rfl, hw1⟩
            subst w1
            refine g_ifne (t := 57) (q := 54) dX8_fault_51 (by decide) rfl (fun hq51 => ?_) (fun hq51 => ?_)
            · have hq51 := gn_b1 hq51
              have hE : flt (c :: r) i g (f0 + 1) e = flt r (i + 1) g f0 false := by rw [flt, if_neg hq30, if_pos hfq1, if_pos hq51]; rfl
              refine g_iinc (q := 60) (y := nI f0) dX8_fault_57 rfl (gn_dec f0) rfl rfl rfl rfl ?_
              dsimp only [List.set]
              refine g_goto (q := 111) dX8_fault_60 (by decide) ?_
              refine g_iinc (q := 114) (y := nI (i + 1)) dX8_fault_111 rfl (gn_inc i) rfl rfl rfl rfl ?_
              dsimp only [List.set]
              refine g_goto (q := 9) dX8_fault_114 (by decide) ?_
              rw [hE]
              refine g_wk (L' := [some (.ref p), some (.int (nI g)), some (.int (nI f0)), some (.int (if false = true then 1 else 0)), some (.int (nI (i + 1))), none]) (by simp [gj_wk]) ?_
              exact ih (i + 1) g f0 false d3 (by omega) (by omega) (by omega)
            · have hq51 := gn_b0 hq51
              have hE : flt (c :: r) i g (f0 + 1) e = some i := by rw [flt, if_neg hq30, if_pos hfq1, if_neg hq51]
              refine g_iload (q := 56) dX8_fault_54 rfl rfl ?_
              refine r_i dX8_fault_56 rfl rfl rfl ?_
              rw [hE]
              exact ⟨rfl, rfl⟩
        · have hE : flt (c :: r) i g f e = flt r (i + 1) g f e := by rw [flt, if_pos hq30]
          refine g_goto (q := 111) dX8_fault_33 (by decide) ?_
          refine g_iinc (q := 114) (y := nI (i + 1)) dX8_fault_111 rfl (gn_inc i) rfl rfl rfl rfl ?_
          dsimp only [List.set]
          refine g_goto (q := 9) dX8_fault_114 (by decide) ?_
          rw [hE]
          refine g_wk (L' := [some (.ref p), some (.int (nI g)), some (.int (nI f)), some (.int (if e = true then 1 else 0)), some (.int (nI (i + 1))), none]) (by simp [gj_wk]) ?_
          exact ih (i + 1) g f e d3 (by omega) (by omega) (by omega)
  refine gj_E_at (L := [some (.ref p), none, none, none, none, none]) (k := 5) rfl (by decide) rfl ?_
  refine g_iconst (q := 1) (x := 0) dX8_fault_0 (by decide) rfl ?_
  refine g_istore_n (q := 2) dX8_fault_1 rfl rfl rfl rfl ?_
  dsimp only [List.set]
  refine g_iconst (q := 3) (x := 0) dX8_fault_2 (by decide) rfl ?_
  refine g_istore_n (q := 4) dX8_fault_3 rfl rfl rfl rfl ?_
  dsimp only [List.set]
  refine g_iconst (q := 5) (x := 1) dX8_fault_4 (by decide) rfl ?_
  refine g_istore_n (q := 6) dX8_fault_5 rfl rfl rfl rfl ?_
  dsimp only [List.set]
  refine g_iconst (q := 7) (x := 0) dX8_fault_6 (by decide) rfl ?_
  refine g_istore (q := 9) dX8_fault_7 rfl rfl rfl rfl ?_
  dsimp only [List.set]
  exact lp tx 0 0 0 true rfl (by omega) (by omega) (by omega)
