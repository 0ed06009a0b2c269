/-! ===== the reference: reads ===== -/
theorem g4_pos {g : Nat} (hg : g ≤ 4) : 0 < nI g ↔ 0 < g := by
  obtain rfl | rfl | rfl | rfl | rfl : g = 0 ∨ g = 1 ∨ g = 2 ∨ g = 3 ∨ g = 4 := by omega
  all_goals decide
theorem g4_le {g : Nat} (hg : g ≤ 4) : nI g ≤ 0 ↔ g = 0 := by
  obtain rfl | rfl | rfl | rfl | rfl : g = 0 ∨ g = 1 ∨ g = 2 ∨ g = 3 ∨ g = 4 := by omega
  all_goals decide
theorem g4_ge {g : Nat} (hg : g ≤ 4) : 4 ≤ nI g ↔ g = 4 := by
  obtain rfl | rfl | rfl | rfl | rfl : g = 0 ∨ g = 1 ∨ g = 2 ∨ g = 3 ∨ g = 4 := by omega
  all_goals decide
/-- what reading comes to -/
def RQ (vb : gj_V) (m : Nat) (tx : List Int32) (z : Int32) (v' : gj_V) : Prop := (z = 1 ∧ flt tx 0 0 0 true = none ∧ ORD v' m (tz tx) ∧ MAT v' m (tz tx) ∨ z = 0 ∧ ∃ i, flt tx 0 0 0 true = some i ∧ i ≤ 120 ∧ v' m 7 = nI i) ∧ (∀ a, a ≠ m → (a < m + 6 ∨ m + 12 ≤ a) → v' a = vb a) ∧ ∀ k, k ≠ 7 → k ≠ 8 → k ≠ 9 → v' m k = vb m k
theorem RI.bad {vb w w1 : gj_V} {m p g : Nat} {tx : List Int32} {ts : List tok} (h : RI vb w m tx p g ts) (hf : flt tx 0 0 0 true = some p) (hw : w1 = gj_up2 w m 8 1) : RQ vb m tx 0 w1 := by
  obtain ⟨a1, a2, a3, a4, a5, a6, a7, a8, a9, a10, a11, a12, a13⟩ := h
  refine ⟨Or.inr ⟨rfl, p, hf, by have := a1.2.1; omega, by rw [hw, gu_2, gu_s, ud_n _ _ (by decide)]; exact a2⟩, fun a g1 g2 => by rw [hw, gu_2, gu_n _ _ g1]; exact a12 a g1 g2, fun k g1 g2 g3 => by rw [hw, gu_2, gu_s, ud_n _ _ g2]; exact a13 k g1 g2 g3⟩
theorem RI.good {vb w : gj_V} {m p g : Nat} {tx : List Int32} {ts : List tok} (h : RI vb w m tx p g ts) (hd : tx.drop p = []) (hg : g = 0) (ht : ¬ ts = []) : RQ vb m tx 1 w := ⟨Or.inl ⟨rfl, (h.fin hd).1 hg ht⟩, h.2.2.2.2.2.2.2.2.2.2.2.1, h.2.2.2.2.2.2.2.2.2.2.2.2⟩
theorem RI.badl {vb w w2 w3 : gj_V} {m p p2 g nfg : Nat} {tx : List Int32} {ts : List tok} {c x1 x2 x3 : Int32} (h : RI vb w m tx p g ts) (hd : tx.drop p = c :: tx.drop (p + 1)) (hw2 : w2 = gj_up2 w m 7 (nI (p + 1))) (hc : cmw w2 w3 m ts.length c x1 x2 x3) (h7 : w3 m 7 = nI p2) (hp2 : p2 ≤ tx.length) (hlet : c = 112 ∨ c = 116 ∨ c = 109) (hf : fgo c = nfg) (hn : ¬ nfg = 0) (hfl : flt (tx.drop (p + 1)) (p + 1) g nfg false = some p2) : RQ vb m tx 0 w3 := by
  obtain ⟨a1, a2, a3, a4, a5, a6, a7, a8, a9, a10, a11, a12, a13⟩ := h
  obtain ⟨c1, c2, c3, c4, c5, c6, c7, c8⟩ := hc
  have n32 : ¬ c = 32 := by rcases hlet with q | q | q <;> (rw [q]; decide)
  have n40 : ¬ c = 40 := by rcases hlet with q | q | q <;> (rw [q]; decide)
  have n41 : ¬ c = 41 := by rcases hlet with q | q | q <;> (rw [q]; decide)
  have o2 : ∀ a, a ≠ m → w2 a = w a := fun a ha => by rw [hw2, gu_2, gu_n _ _ ha]
  have k2 : ∀ k, k ≠ 7 → w2 m k = w m k := fun k hk => by rw [hw2, gu_2, gu_s, ud_n _ _ hk]
  refine ⟨Or.inr ⟨rfl, p2, ?_, by have := a1.2.1; omega, h7⟩, fun a g1 g2 => ?_, fun k g1 g2 g3 => ?_⟩
  · rw [a9, hd, flt, if_neg n32, if_neg (by omega), if_neg (fun z => n40 z.1), if_neg (fun z => n41 z.1), hf, if_neg hn, hfl]
  · rw [c3 a g1 (by omega), o2 a g1]; exact a12 a g1 g2
  · rw [c2 k g1 g2 g3, k2 k g1]; exact a13 k g1 g2 g3
theorem RI.flt0 {vb w : gj_V} {m p g : Nat} {tx : List Int32} {ts : List tok} {c : Int32} {q : List Int32} (h : RI vb w m tx p g ts) (hd : tx.drop p = c :: q) (n32 : ¬ c = 32) (h1 : ¬ (c = 40 ∧ g < 4)) (h2 : ¬ (c = 41 ∧ 0 < g)) (h3 : fgo c = 0) : flt tx 0 0 0 true = some p := by
  obtain ⟨a1, a2, a3, a4, a5, a6, a7, a8, a9, a10, a11, a12, a13⟩ := h
  rw [a9, hd, flt, if_neg n32, if_neg (by omega), if_neg h1, if_neg h2, if_pos h3]
/-- the heap when the byte has been passed -/
theorem RI.stp {vb w w2 : gj_V} {m p g : Nat} {tx : List Int32} {ts : List tok} (h : RI vb w m tx p g ts) (hw2 : w2 = gj_up2 w m 7 (nI (p + 1))) : TXm w2 m tx ∧ w2 m 7 = nI (p + 1) ∧ w2 m 8 = 0 ∧ w2 m 9 = nI ts.length ∧ w2 (m + 11) = w (m + 11) ∧ w2 (m + 10) = w (m + 10) := by
  obtain ⟨a1, a2, a3, a4, a5, a6, a7, a8, a9, a10, a11, a12, a13⟩ := h
  have o2 : ∀ a, a ≠ m → w2 a = w a := fun a ha => by rw [hw2, gu_2, gu_n _ _ ha]
  have k2 : ∀ k, k ≠ 7 → w2 m k = w m k := fun k hk => by rw [hw2, gu_2, gu_s, ud_n _ _ hk]
  exact ⟨⟨by rw [k2 6 (by decide)]; exact a1.1, a1.2.1, by rw [o2 _ (by omega)]; exact a1.2.2⟩, by rw [hw2, gu_2, gu_s, ud_s], by rw [k2 8 (by decide)]; exact a4, by rw [k2 9 (by decide)]; exact a5.1, o2 _ (by omega), o2 _ (by omega)⟩

theorem nI_0b {a : Nat} (ha : a ≤ 120) (h : nI a = 0) : a = 0 := (nI_eq (by omega) (by omega)).mp h

set_option maxRecDepth 100000 in
set_option maxHeartbeats 4000000 in
theorem reads_loop {X : gj_X} {lim : Nat} {σ : gj_H} {vb : gj_V} {m : Nat} {tx : List Int32} (hs : msh σ m) (hB : ∀ x ∈ tx, in_ x 0 127) : ∀ (K p g : Nat) (ts : List tok) (w : gj_V), tx.length - p < K → RI vb w m tx p g ts → gj_G X 3 m_X11_reads (q_i lim σ (fun z v' => RQ vb m tx z v')) lim σ w 0 0 17 [some (.ref m), some (.int (nI g)), none, none, none, none] [] := by
  obtain ⟨so, s1, s2, s3, s4, s5, s6, s7, s8, s9, s10, s11, s12⟩ := id hs
  intro K
  induction K with
  | zero => intro p g ts w hK hR; exact absurd hK (by omega)
  | succ K ih =>
    intro p g ts w hK hR
    have at43 : ∀ (w1 : gj_V) (p1 : Nat), RI vb w1 m tx p1 g ts → p ≤ p1 → (spk (tx.drop p1) = [] → 0 < g ∨ ts = []) → gj_G X 3 m_X11_reads (q_i lim σ (fun z v' => RQ vb m tx z v')) lim σ w1 0 0 43 [some (.ref m), some (.int (nI g)), none, none, none, none] [] := by
      intro w1 p1 hR1 hpp hcond
      refine g_aload_n (q := 44) dX11_reads_43 rfl rfl ?_
      refine c_Vi (q := 47) (p_X11_here hs hR1.1 hR1.2.1 hR1.2.2.1) k_X11_199 (by assumption) rfl (by decide) rfl rfl (Nat.le_of_ble_eq_true rfl) rfl rfl dX11_reads_44 rfl ?_
      rintro y2 vq2 ⟨hy2, p2, r1, r2, r3, hvq2⟩
      have hR2 := hR1.spk r1 r2 r3 hvq2
      have hl := hR2.1.2.1
      have hts := hR2.2.2.2.2.2.1
      have hg4 := hR2.2.2.2.2.2.2.1
      rcases hd2 : tx.drop p2 with _ | ⟨c, q⟩
      · have hy3 : y2 = -1 := by rw [hy2, ← r3, hd2]; rfl
        subst hy3
        have hfl := (hR2.fin hd2).2 (hcond (r3.symm.trans hd2))
        refine g_istore_n (q := 48) dX11_reads_47 rfl rfl rfl rfl ?_
        dsimp only [List.set]
        refine g_iload_n (q := 49) dX11_reads_48 rfl rfl ?_
        refine g_bipush (q := 51) (x := 40) dX11_reads_49 (by decide) rfl ?_
        refine g_icmpne (t := 63) (q := 54) dX11_reads_51 (by decide) rfl (fun hq51 => ?_) (fun hq51 => ?_)
        · refine g_iconst (q := 64) (x := 0) dX11_reads_63 (by decide) rfl ?_
          refine g_istore_n (q := 65) dX11_reads_64 rfl rfl rfl rfl ?_
          dsimp only [List.set]
          refine g_iload_n (q := 66) dX11_reads_65 rfl rfl ?_
          refine g_bipush (q := 68) (x := 41) dX11_reads_66 (by decide) rfl ?_
          refine g_icmpne (t := 79) (q := 71) dX11_reads_68 (by decide) rfl (fun hq68 => ?_) (fun hq68 => ?_)
          · refine g_iconst (q := 80) (x := 0) dX11_reads_79 (by decide) rfl ?_
            refine g_istore (q := 82) dX11_reads_80 rfl rfl rfl rfl ?_
            dsimp only [List.set]
            refine g_iload_n (q := 83) dX11_reads_82 rfl rfl ?_
            refine g_ifne (t := 109) (q := 86) dX11_reads_83 (by decide) rfl (fun hq83 => ?_) (fun hq83 => ?_)
            · exact absurd rfl hq83
            · refine g_iload (q := 88) dX11_reads_86 rfl rfl ?_
              refine g_ifne (t := 109) (q := 91) dX11_reads_88 (by decide) rfl (fun hq88 => ?_) (fun hq88 => ?_)
              · exact absurd rfl hq88
              · refine g_iload_n (q := 92) dX11_reads_91 rfl rfl ?_
                refine g_bipush (q := 94) (x := 112) dX11_reads_92 (by decide) rfl ?_
                refine g_icmpeq (t := 109) (q := 97) dX11_reads_94 (by decide) rfl (fun hq94 => ?_) (fun hq94 => ?_)
                · exact absurd hq94 (by decide)
                · refine g_iload_n (q := 98) dX11_reads_97 rfl rfl ?_
                  refine g_bipush (q := 100) (x := 116) dX11_reads_98 (by decide) rfl ?_
                  refine g_icmpeq (t := 109) (q := 103) dX11_reads_100 (by decide) rfl (fun hq100 => ?_) (fun hq100 => ?_)
                  · exact absurd hq100 (by decide)
                  · refine g_iload_n (q := 104) dX11_reads_103 rfl rfl ?_
                    refine g_bipush (q := 106) (x := 109) dX11_reads_104 (by decide) rfl ?_
                    refine g_icmpne (t := 202) (q := 109) dX11_reads_106 (by decide) rfl (fun hq106 => ?_) (fun hq106 => ?_)
                    · refine g_aload_n (q := 203) dX11_reads_202 rfl rfl ?_
                      refine g_iconst (q := 204) (x := 1) dX11_reads_203 (by decide) rfl ?_
                      refine g_putI (q := 207) f_X11_195 (by assumption) rfl rfl rfl dX11_reads_204 rfl ?_
                      refine g_gen (fun vq3 hvq3 => ?_)
                      have x8 : vq3 m 8 = 1 := by rw [hvq3, gu_2, gu_s, ud_s]
                      refine g_goto (q := 17) dX11_reads_207 (by decide) ?_
                      refine g_aload_n (q := 18) dX11_reads_17 rfl rfl ?_
                      refine g_getI (q := 21) f_X11_195 (by assumption) rfl dX11_reads_18 rfl ?_
                      rw [x8]
                      refine g_ifne (t := 210) (q := 24) dX11_reads_21 (by decide) rfl (fun hq21 => ?_) (fun hq21 => ?_)
                      · refine g_aload_n (q := 211) dX11_reads_210 rfl rfl ?_
                        refine g_getI (q := 214) f_X11_195 (by assumption) rfl dX11_reads_211 rfl ?_
                        rw [x8]
                        refine g_ifne (t := 221) (q := 217) dX11_reads_214 (by decide) rfl (fun hq214 => ?_) (fun hq214 => ?_)
                        · refine g_iconst (q := 222) (x := 0) dX11_reads_221 (by decide) rfl ?_
                          refine r_z dX11_reads_222 rfl rfl rfl (by decide) ?_
                          exact hR2.bad hfl hvq3
                        · exact absurd hq214 (by decide)
                      · exact absurd hq21 (by decide)
                    · exact absurd hq106 (by decide)
          · exact absurd hq68 (by decide)
        · exact absurd hq51 (by decide)
      · have hy3 : y2 = c := by rw [hy2, ← r3, hd2]; rfl
        subst hy3
        have n32 := spk_ne _ _ _ (r3.symm.trans hd2)
        obtain ⟨d1, d2, d3⟩ := dr_cons hd2
        have hd3 : tx.drop p2 = y2 :: tx.drop (p2 + 1) := by rw [hd2, d3]
        clear hy2 d2
        by_cases n40 : y2 = 40
        · subst n40
          by_cases hgl : g < 4
          · refine g_istore_n (q := 48) dX11_reads_47 rfl rfl rfl rfl ?_
            dsimp only [List.set]
            refine g_iload_n (q := 49) dX11_reads_48 rfl rfl ?_
            refine g_bipush (q := 51) (x := 40) dX11_reads_49 (by decide) rfl ?_
            refine g_icmpne (t := 63) (q := 54) dX11_reads_51 (by decide) rfl (fun hq51 => ?_) (fun hq51 => ?_)
            · exact absurd rfl hq51
            · refine g_iload_n (q := 55) dX11_reads_54 rfl rfl ?_
              refine g_iconst (q := 56) (x := 4) dX11_reads_55 (by decide) rfl ?_
              refine g_icmpge (t := 63) (q := 59) dX11_reads_56 (by decide) rfl (fun hq56 => ?_) (fun hq56 => ?_)
              · exact absurd ((g4_ge hg4).mp hq56) (by omega)
              · refine g_iconst (q := 60) (x := 1) dX11_reads_59 (by decide) rfl ?_
                refine g_goto (q := 64) dX11_reads_60 (by decide) ?_
                refine g_istore_n (q := 65) dX11_reads_64 rfl rfl rfl rfl ?_
                dsimp only [List.set]
                refine g_iload_n (q := 66) dX11_reads_65 rfl rfl ?_
                refine g_bipush (q := 68) (x := 41) dX11_reads_66 (by decide) rfl ?_
                refine g_icmpne (t := 79) (q := 71) dX11_reads_68 (by decide) rfl (fun hq68 => ?_) (fun hq68 => ?_)
                · refine g_iconst (q := 80) (x := 0) dX11_reads_79 (by decide) rfl ?_
                  refine g_istore (q := 82) dX11_reads_80 rfl rfl rfl rfl ?_
                  dsimp only [List.set]
                  refine g_iload_n (q := 83) dX11_reads_82 rfl rfl ?_
                  refine g_ifne (t := 109) (q := 86) dX11_reads_83 (by decide) rfl (fun hq83 => ?_) (fun hq83 => ?_)
                  · refine g_aload_n (q := 110) dX11_reads_109 rfl rfl ?_
                    refine g_dup (q := 111) dX11_reads_110 rfl rfl ?_
                    refine g_getI (q := 114) f_X11_192 (by assumption) rfl dX11_reads_111 rfl ?_
                    rw [hR2.2.1]
                    refine g_iconst (q := 115) (x := 1) dX11_reads_114 (by decide) rfl ?_
                    refine g_iadd (q := 116) dX11_reads_115 rfl ?_
                    refine g_putI (q := 119) f_X11_192 (by assumption) rfl rfl rfl dX11_reads_116 rfl ?_
                    rw [nI_1]
                    refine g_gen (fun vq3 hvq3 => ?_)
                    obtain ⟨t3, s7, s8, s9, s11v, s10v⟩ := hR2.stp hvq3
                    refine g_iload_n (q := 120) dX11_reads_119 rfl rfl ?_
                    refine g_ifeq (t := 136) (q := 123) dX11_reads_120 (by decide) rfl (fun hq120 => ?_) (fun hq120 => ?_)
                    · exact absurd hq120 (by decide)
                    · refine g_aload_n (q := 124) dX11_reads_123 rfl rfl ?_
                      refine g_getR (q := 127) f_X11_40 (by assumption) rfl dX11_reads_124 rfl ?_
                      refine g_iload_n (q := 128) dX11_reads_127 rfl rfl ?_
                      refine g_aload_n (q := 129) dX11_reads_128 rfl rfl ?_
                      refine g_getI (q := 132) f_X11_202 (by assumption) rfl dX11_reads_129 rfl ?_
                      rw [s9]
                      refine g_iast (q := 133) (by assumption) rfl (by omega) (by decide) dX11_reads_132 rfl ?_
                      refine g_gen (fun vq4 hvq4 => ?_)
                      have o4 : ∀ a, a ≠ m + 11 → vq4 a = vq3 a := fun a ha => by rw [hvq4, gu_2, gu_n _ _ ha]
                      have t4 : TXm vq4 m tx := ⟨by rw [o4 m (by omega)]; exact t3.1, t3.2.1, by rw [o4 _ (by omega)]; exact t3.2.2⟩
                      refine g_iinc (q := 136) (y := nI (g + 1)) dX11_reads_133 rfl (gn_inc g) rfl rfl rfl rfl ?_
                      dsimp only [List.set]
                      refine g_iload (q := 138) dX11_reads_136 rfl rfl ?_
                      refine g_ifeq (t := 159) (q := 141) dX11_reads_138 (by decide) rfl (fun hq138 => ?_) (fun hq138 => ?_)
                      · refine g_iload (q := 161) dX11_reads_159 rfl rfl ?_
                        refine g_ifeq (t := 173) (q := 164) dX11_reads_161 (by decide) rfl (fun hq161 => ?_) (fun hq161 => ?_)
                        · refine g_iconst (q := 174) (x := (-1)) dX11_reads_173 (by decide) rfl ?_
                          refine g_istore (q := 176) dX11_reads_174 rfl rfl rfl rfl ?_
                          dsimp only [List.set]
                          refine g_aload_n (q := 177) dX11_reads_176 rfl rfl ?_
                          refine g_iload_n (q := 178) dX11_reads_177 rfl rfl ?_
                          refine c_Vv (q := 181) (p_X11_comes_o hs t4 (by rw [o4 m (by omega)]; exact s7) (by omega) (by rw [o4 m (by omega)]; exact s8) (by rw [o4 m (by omega)]; exact s9) (by omega)) k_X11_208 (by assumption) rfl (by decide) rfl rfl (Nat.le_of_ble_eq_true rfl) rfl rfl dX11_reads_178 rfl ?_
                          rintro vq5 ⟨hcm, u7, u8⟩
                          refine g_iload (q := 183) dX11_reads_181 rfl rfl ?_
                          refine g_ifeq (t := 199) (q := 186) dX11_reads_183 (by decide) rfl (fun hq183 => ?_) (fun hq183 => ?_)
                          · refine g_goto (q := 207) dX11_reads_199 (by decide) ?_
                            refine g_goto (q := 17) dX11_reads_207 (by decide) ?_
                            refine g_wk (L' := [some (.ref m), some (.int (nI (g + 1))), none, none, none, none]) (by simp [gj_wk]) ?_
                            exact ih (p2 + 1) (g + 1) _ vq5 (by omega) (hR2.opn hd3 hgl hvq3 hvq4 hcm u7 u8)
                          · exact absurd rfl hq183
                        · exact absurd rfl hq161
                      · exact absurd rfl hq138
                  · exact absurd hq83 (by decide)
                · exact absurd hq68 (by decide)
          · have hfl := hR2.flt0 hd2 n32 (fun z => hgl z.2) (fun z => absurd z.1 (by decide)) rfl
            refine g_istore_n (q := 48) dX11_reads_47 rfl rfl rfl rfl ?_
            dsimp only [List.set]
            refine g_iload_n (q := 49) dX11_reads_48 rfl rfl ?_
            refine g_bipush (q := 51) (x := 40) dX11_reads_49 (by decide) rfl ?_
            refine g_icmpne (t := 63) (q := 54) dX11_reads_51 (by decide) rfl (fun hq51 => ?_) (fun hq51 => ?_)
            · exact absurd rfl hq51
            · refine g_iload_n (q := 55) dX11_reads_54 rfl rfl ?_
              refine g_iconst (q := 56) (x := 4) dX11_reads_55 (by decide) rfl ?_
              refine g_icmpge (t := 63) (q := 59) dX11_reads_56 (by decide) rfl (fun hq56 => ?_) (fun hq56 => ?_)
              · refine g_iconst (q := 64) (x := 0) dX11_reads_63 (by decide) rfl ?_
                refine g_istore_n (q := 65) dX11_reads_64 rfl rfl rfl rfl ?_
                dsimp only [List.set]
                refine g_iload_n (q := 66) dX11_reads_65 rfl rfl ?_
                refine g_bipush (q := 68) (x := 41) dX11_reads_66 (by decide) rfl ?_
                refine g_icmpne (t := 79) (q := 71) dX11_reads_68 (by decide) rfl (fun hq68 => ?_) (fun hq68 => ?_)
                · refine g_iconst (q := 80) (x := 0) dX11_reads_79 (by decide) rfl ?_
                  refine g_istore (q := 82) dX11_reads_80 rfl rfl rfl rfl ?_
                  dsimp only [List.set]
                  refine g_iload_n (q := 83) dX11_reads_82 rfl rfl ?_
                  refine g_ifne (t := 109) (q := 86) dX11_reads_83 (by decide) rfl (fun hq83 => ?_) (fun hq83 => ?_)
                  · exact absurd rfl hq83
                  · refine g_iload (q := 88) dX11_reads_86 rfl rfl ?_
                    refine g_ifne (t := 109) (q := 91) dX11_reads_88 (by decide) rfl (fun hq88 => ?_) (fun hq88 => ?_)
                    · exact absurd rfl hq88
                    · refine g_iload_n (q := 92) dX11_reads_91 rfl rfl ?_
                      refine g_bipush (q := 94) (x := 112) dX11_reads_92 (by decide) rfl ?_
                      refine g_icmpeq (t := 109) (q := 97) dX11_reads_94 (by decide) rfl (fun hq94 => ?_) (fun hq94 => ?_)
                      · exact absurd hq94 (by decide)
                      · refine g_iload_n (q := 98) dX11_reads_97 rfl rfl ?_
                        refine g_bipush (q := 100) (x := 116) dX11_reads_98 (by decide) rfl ?_
                        refine g_icmpeq (t := 109) (q := 103) dX11_reads_100 (by decide) rfl (fun hq100 => ?_) (fun hq100 => ?_)
                        · exact absurd hq100 (by decide)
                        · refine g_iload_n (q := 104) dX11_reads_103 rfl rfl ?_
                          refine g_bipush (q := 106) (x := 109) dX11_reads_104 (by decide) rfl ?_
                          refine g_icmpne (t := 202) (q := 109) dX11_reads_106 (by decide) rfl (fun hq106 => ?_) (fun hq106 => ?_)
                          · refine g_aload_n (q := 203) dX11_reads_202 rfl rfl ?_
                            refine g_iconst (q := 204) (x := 1) dX11_reads_203 (by decide) rfl ?_
                            refine g_putI (q := 207) f_X11_195 (by assumption) rfl rfl rfl dX11_reads_204 rfl ?_
                            refine g_gen (fun vq3 hvq3 => ?_)
                            have x8 : vq3 m 8 = 1 := by rw [hvq3, gu_2, gu_s, ud_s]
                            refine g_goto (q := 17) dX11_reads_207 (by decide) ?_
                            refine g_aload_n (q := 18) dX11_reads_17 rfl rfl ?_
                            refine g_getI (q := 21) f_X11_195 (by assumption) rfl dX11_reads_18 rfl ?_
                            rw [x8]
                            refine g_ifne (t := 210) (q := 24) dX11_reads_21 (by decide) rfl (fun hq21 => ?_) (fun hq21 => ?_)
                            · refine g_aload_n (q := 211) dX11_reads_210 rfl rfl ?_
                              refine g_getI (q := 214) f_X11_195 (by assumption) rfl dX11_reads_211 rfl ?_
                              rw [x8]
                              refine g_ifne (t := 221) (q := 217) dX11_reads_214 (by decide) rfl (fun hq214 => ?_) (fun hq214 => ?_)
                              · refine g_iconst (q := 222) (x := 0) dX11_reads_221 (by decide) rfl ?_
                                refine r_z dX11_reads_222 rfl rfl rfl (by decide) ?_
                                exact hR2.bad hfl hvq3
                              · exact absurd hq214 (by decide)
                            · exact absurd hq21 (by decide)
                          · exact absurd hq106 (by decide)
                · exact absurd hq68 (by decide)
              · exact absurd ((g4_ge hg4).mpr (by omega)) hq56
        by_cases n41 : y2 = 41
        · subst n41
          rcases g with _ | g
          · have hfl := hR2.flt0 hd2 n32 (fun z => absurd z.1 (by decide)) (fun z => absurd z.2 (by omega)) rfl
            refine g_istore_n (q := 48) dX11_reads_47 rfl rfl rfl rfl ?_
            dsimp only [List.set]
            refine g_iload_n (q := 49) dX11_reads_48 rfl rfl ?_
            refine g_bipush (q := 51) (x := 40) dX11_reads_49 (by decide) rfl ?_
            refine g_icmpne (t := 63) (q := 54) dX11_reads_51 (by decide) rfl (fun hq51 => ?_) (fun hq51 => ?_)
            · refine g_iconst (q := 64) (x := 0) dX11_reads_63 (by decide) rfl ?_
              refine g_istore_n (q := 65) dX11_reads_64 rfl rfl rfl rfl ?_
              dsimp only [List.set]
              refine g_iload_n (q := 66) dX11_reads_65 rfl rfl ?_
              refine g_bipush (q := 68) (x := 41) dX11_reads_66 (by decide) rfl ?_
              refine g_icmpne (t := 79) (q := 71) dX11_reads_68 (by decide) rfl (fun hq68 => ?_) (fun hq68 => ?_)
              · exact absurd rfl hq68
              · refine g_iload_n (q := 72) dX11_reads_71 rfl rfl ?_
                refine g_ifle (t := 79) (q := 75) dX11_reads_72 (by decide) rfl (fun hq72 => ?_) (fun hq72 => ?_)
                · refine g_iconst (q := 80) (x := 0) dX11_reads_79 (by decide) rfl ?_
                  refine g_istore (q := 82) dX11_reads_80 rfl rfl rfl rfl ?_
                  dsimp only [List.set]
                  refine g_iload_n (q := 83) dX11_reads_82 rfl rfl ?_
                  refine g_ifne (t := 109) (q := 86) dX11_reads_83 (by decide) rfl (fun hq83 => ?_) (fun hq83 => ?_)
                  · exact absurd rfl hq83
                  · refine g_iload (q := 88) dX11_reads_86 rfl rfl ?_
                    refine g_ifne (t := 109) (q := 91) dX11_reads_88 (by decide) rfl (fun hq88 => ?_) (fun hq88 => ?_)
                    · exact absurd rfl hq88
                    · refine g_iload_n (q := 92) dX11_reads_91 rfl rfl ?_
                      refine g_bipush (q := 94) (x := 112) dX11_reads_92 (by decide) rfl ?_
                      refine g_icmpeq (t := 109) (q := 97) dX11_reads_94 (by decide) rfl (fun hq94 => ?_) (fun hq94 => ?_)
                      · exact absurd hq94 (by decide)
                      · refine g_iload_n (q := 98) dX11_reads_97 rfl rfl ?_
                        refine g_bipush (q := 100) (x := 116) dX11_reads_98 (by decide) rfl ?_
                        refine g_icmpeq (t := 109) (q := 103) dX11_reads_100 (by decide) rfl (fun hq100 => ?_) (fun hq100 => ?_)
                        · exact absurd hq100 (by decide)
                        · refine g_iload_n (q := 104) dX11_reads_103 rfl rfl ?_
                          refine g_bipush (q := 106) (x := 109) dX11_reads_104 (by decide) rfl ?_
                          refine g_icmpne (t := 202) (q := 109) dX11_reads_106 (by decide) rfl (fun hq106 => ?_) (fun hq106 => ?_)
                          · refine g_aload_n (q := 203) dX11_reads_202 rfl rfl ?_
                            refine g_iconst (q := 204) (x := 1) dX11_reads_203 (by decide) rfl ?_
                            refine g_putI (q := 207) f_X11_195 (by assumption) rfl rfl rfl dX11_reads_204 rfl ?_
                            refine g_gen (fun vq3 hvq3 => ?_)
                            have x8 : vq3 m 8 = 1 := by rw [hvq3, gu_2, gu_s, ud_s]
                            refine g_goto (q := 17) dX11_reads_207 (by decide) ?_
                            refine g_aload_n (q := 18) dX11_reads_17 rfl rfl ?_
                            refine g_getI (q := 21) f_X11_195 (by assumption) rfl dX11_reads_18 rfl ?_
                            rw [x8]
                            refine g_ifne (t := 210) (q := 24) dX11_reads_21 (by decide) rfl (fun hq21 => ?_) (fun hq21 => ?_)
                            · refine g_aload_n (q := 211) dX11_reads_210 rfl rfl ?_
                              refine g_getI (q := 214) f_X11_195 (by assumption) rfl dX11_reads_211 rfl ?_
                              rw [x8]
                              refine g_ifne (t := 221) (q := 217) dX11_reads_214 (by decide) rfl (fun hq214 => ?_) (fun hq214 => ?_)
                              · refine g_iconst (q := 222) (x := 0) dX11_reads_221 (by decide) rfl ?_
                                refine r_z dX11_reads_222 rfl rfl rfl (by decide) ?_
                                exact hR2.bad hfl hvq3
                              · exact absurd hq214 (by decide)
                            · exact absurd hq21 (by decide)
                          · exact absurd hq106 (by decide)
                · exact absurd (show nI 0 ≤ 0 by decide) hq72
            · exact absurd hq51 (by decide)
          · obtain ⟨b0, o0, g1, g2, hb0, g4⟩ := hR2.2.2.2.2.2.2.2.2.2.1 g (by omega)
            have hb1 := ap_lt g1
            refine g_istore_n (q := 48) dX11_reads_47 rfl rfl rfl rfl ?_
            dsimp only [List.set]
            refine g_iload_n (q := 49) dX11_reads_48 rfl rfl ?_
            refine g_bipush (q := 51) (x := 40) dX11_reads_49 (by decide) rfl ?_
            refine g_icmpne (t := 63) (q := 54) dX11_reads_51 (by decide) rfl (fun hq51 => ?_) (fun hq51 => ?_)
            · refine g_iconst (q := 64) (x := 0) dX11_reads_63 (by decide) rfl ?_
              refine g_istore_n (q := 65) dX11_reads_64 rfl rfl rfl rfl ?_
              dsimp only [List.set]
              refine g_iload_n (q := 66) dX11_reads_65 rfl rfl ?_
              refine g_bipush (q := 68) (x := 41) dX11_reads_66 (by decide) rfl ?_
              refine g_icmpne (t := 79) (q := 71) dX11_reads_68 (by decide) rfl (fun hq68 => ?_) (fun hq68 => ?_)
              · exact absurd rfl hq68
              · refine g_iload_n (q := 72) dX11_reads_71 rfl rfl ?_
                refine g_ifle (t := 79) (q := 75) dX11_reads_72 (by decide) rfl (fun hq72 => ?_) (fun hq72 => ?_)
                · exact absurd ((g4_le hg4).mp hq72) (by omega)
                · refine g_iconst (q := 76) (x := 1) dX11_reads_75 (by decide) rfl ?_
                  refine g_goto (q := 80) dX11_reads_76 (by decide) ?_
                  refine g_istore (q := 82) dX11_reads_80 rfl rfl rfl rfl ?_
                  dsimp only [List.set]
                  refine g_iload_n (q := 83) dX11_reads_82 rfl rfl ?_
                  refine g_ifne (t := 109) (q := 86) dX11_reads_83 (by decide) rfl (fun hq83 => ?_) (fun hq83 => ?_)
                  · exact absurd rfl hq83
                  · refine g_iload (q := 88) dX11_reads_86 rfl rfl ?_
                    refine g_ifne (t := 109) (q := 91) dX11_reads_88 (by decide) rfl (fun hq88 => ?_) (fun hq88 => ?_)
                    · refine g_aload_n (q := 110) dX11_reads_109 rfl rfl ?_
                      refine g_dup (q := 111) dX11_reads_110 rfl rfl ?_
                      refine g_getI (q := 114) f_X11_192 (by assumption) rfl dX11_reads_111 rfl ?_
                      rw [hR2.2.1]
                      refine g_iconst (q := 115) (x := 1) dX11_reads_114 (by decide) rfl ?_
                      refine g_iadd (q := 116) dX11_reads_115 rfl ?_
                      refine g_putI (q := 119) f_X11_192 (by assumption) rfl rfl rfl dX11_reads_116 rfl ?_
                      rw [nI_1]
                      refine g_gen (fun vq3 hvq3 => ?_)
                      obtain ⟨t3, s7, s8, s9, s11v, s10v⟩ := hR2.stp hvq3
                      refine g_iload_n (q := 120) dX11_reads_119 rfl rfl ?_
                      refine g_ifeq (t := 136) (q := 123) dX11_reads_120 (by decide) rfl (fun hq120 => ?_) (fun hq120 => ?_)
                      · refine g_iload (q := 138) dX11_reads_136 rfl rfl ?_
                        refine g_ifeq (t := 159) (q := 141) dX11_reads_138 (by decide) rfl (fun hq138 => ?_) (fun hq138 => ?_)
                        · exact absurd hq138 (by decide)
                        · refine g_iinc (q := 144) (y := nI g) dX11_reads_141 rfl (gn_dec g) rfl rfl rfl rfl ?_
                          dsimp only [List.set]
                          refine g_aload_n (q := 145) dX11_reads_144 rfl rfl ?_
                          refine g_getR (q := 148) f_X11_37 (by assumption) rfl dX11_reads_145 rfl ?_
                          refine g_aload_n (q := 149) dX11_reads_148 rfl rfl ?_
                          refine g_getR (q := 152) f_X11_40 (by assumption) rfl dX11_reads_149 rfl ?_
                          refine g_iload_n (q := 153) dX11_reads_152 rfl rfl ?_
                          refine g_iald (q := 154) (by assumption) rfl (by omega) (by decide) dX11_reads_153 rfl ?_
                          rw [s11v, hb0]
                          refine g_aload_n (q := 155) dX11_reads_154 rfl rfl ?_
                          refine g_getI (q := 158) f_X11_202 (by assumption) rfl dX11_reads_155 rfl ?_
                          rw [s9]
                          refine g_iast (q := 159) (by assumption) rfl (by omega) (by decide) dX11_reads_158 rfl ?_
                          refine g_gen (fun vq4 hvq4 => ?_)
                          have o4 : ∀ a, a ≠ m + 10 → vq4 a = vq3 a := fun a ha => by rw [hvq4, gu_2, gu_n _ _ ha]
                          have t4 : TXm vq4 m tx := ⟨by rw [o4 m (by omega)]; exact t3.1, t3.2.1, by rw [o4 _ (by omega)]; exact t3.2.2⟩
                          refine g_iload (q := 161) dX11_reads_159 rfl rfl ?_
                          refine g_ifeq (t := 173) (q := 164) dX11_reads_161 (by decide) rfl (fun hq161 => ?_) (fun hq161 => ?_)
                          · exact absurd hq161 (by decide)
                          · refine g_aload_n (q := 165) dX11_reads_164 rfl rfl ?_
                            refine g_getR (q := 168) f_X11_40 (by assumption) rfl dX11_reads_165 rfl ?_
                            refine g_iload_n (q := 169) dX11_reads_168 rfl rfl ?_
                            refine g_iald (q := 170) (by assumption) rfl (by omega) (by decide) dX11_reads_169 rfl ?_
                            rw [o4 _ (by omega), s11v, hb0]
                            refine g_goto (q := 174) dX11_reads_170 (by decide) ?_
                            refine g_istore (q := 176) dX11_reads_174 rfl rfl rfl rfl ?_
                            dsimp only [List.set]
                            refine g_aload_n (q := 177) dX11_reads_176 rfl rfl ?_
                            refine g_iload_n (q := 178) dX11_reads_177 rfl rfl ?_
                            refine c_Vv (q := 181) (p_X11_comes_c hs t4 (by rw [o4 m (by omega)]; exact s7) (by omega) (by rw [o4 m (by omega)]; exact s8) (by rw [o4 m (by omega)]; exact s9) (by omega)) k_X11_208 (by assumption) rfl (by decide) rfl rfl (Nat.le_of_ble_eq_true rfl) rfl rfl dX11_reads_178 rfl ?_
                            rintro vq5 ⟨hcm, u7, u8⟩
                            have u9 := hcm.1
                            refine g_iload (q := 183) dX11_reads_181 rfl rfl ?_
                            refine g_ifeq (t := 199) (q := 186) dX11_reads_183 (by decide) rfl (fun hq183 => ?_) (fun hq183 => ?_)
                            · exact absurd hq183 (by decide)
                            · refine g_aload_n (q := 187) dX11_reads_186 rfl rfl ?_
                              refine g_getR (q := 190) f_X11_37 (by assumption) rfl dX11_reads_187 rfl ?_
                              refine g_iload (q := 192) dX11_reads_190 rfl rfl ?_
                              refine g_aload_n (q := 193) dX11_reads_192 rfl rfl ?_
                              refine g_getI (q := 196) f_X11_202 (by assumption) rfl dX11_reads_193 rfl ?_
                              rw [u9]
                              refine g_iconst (q := 197) (x := 1) dX11_reads_196 (by decide) rfl ?_
                              refine g_isub (q := 198) dX11_reads_197 rfl ?_
                              rw [rl_s]
                              refine g_iast (q := 199) (by assumption) rfl (by omega) (by decide) dX11_reads_198 rfl ?_
                              refine g_gen (fun vq6 hvq6 => ?_)
                              refine g_goto (q := 207) dX11_reads_199 (by decide) ?_
                              refine g_goto (q := 17) dX11_reads_207 (by decide) ?_
                              refine g_wk (L' := [some (.ref m), some (.int (nI g)), none, none, none, none]) (by simp [gj_wk]) ?_
                              exact ih (p2 + 1) g _ vq6 (by omega) (hR2.cls hd3 hvq3 hb0 hb1 hvq4 hcm u7 u8 hvq6)
                      · exact absurd rfl hq120
                    · exact absurd hq88 (by decide)
            · exact absurd hq51 (by decide)
        by_cases n112 : y2 = 112
        · subst n112
          refine g_istore_n (q := 48) dX11_reads_47 rfl rfl rfl rfl ?_
          dsimp only [List.set]
          refine g_iload_n (q := 49) dX11_reads_48 rfl rfl ?_
          refine g_bipush (q := 51) (x := 40) dX11_reads_49 (by decide) rfl ?_
          refine g_icmpne (t := 63) (q := 54) dX11_reads_51 (by decide) rfl (fun hq51 => ?_) (fun hq51 => ?_)
          · refine g_iconst (q := 64) (x := 0) dX11_reads_63 (by decide) rfl ?_
            refine g_istore_n (q := 65) dX11_reads_64 rfl rfl rfl rfl ?_
            dsimp only [List.set]
            refine g_iload_n (q := 66) dX11_reads_65 rfl rfl ?_
            refine g_bipush (q := 68) (x := 41) dX11_reads_66 (by decide) rfl ?_
            refine g_icmpne (t := 79) (q := 71) dX11_reads_68 (by decide) rfl (fun hq68 => ?_) (fun hq68 => ?_)
            · refine g_iconst (q := 80) (x := 0) dX11_reads_79 (by decide) rfl ?_
              refine g_istore (q := 82) dX11_reads_80 rfl rfl rfl rfl ?_
              dsimp only [List.set]
              refine g_iload_n (q := 83) dX11_reads_82 rfl rfl ?_
              refine g_ifne (t := 109) (q := 86) dX11_reads_83 (by decide) rfl (fun hq83 => ?_) (fun hq83 => ?_)
              · exact absurd rfl hq83
              · refine g_iload (q := 88) dX11_reads_86 rfl rfl ?_
                refine g_ifne (t := 109) (q := 91) dX11_reads_88 (by decide) rfl (fun hq88 => ?_) (fun hq88 => ?_)
                · exact absurd rfl hq88
                · refine g_iload_n (q := 92) dX11_reads_91 rfl rfl ?_
                  refine g_bipush (q := 94) (x := 112) dX11_reads_92 (by decide) rfl ?_
                  refine g_icmpeq (t := 109) (q := 97) dX11_reads_94 (by decide) rfl (fun hq94 => ?_) (fun hq94 => ?_)
                  · refine g_aload_n (q := 110) dX11_reads_109 rfl rfl ?_
                    refine g_dup (q := 111) dX11_reads_110 rfl rfl ?_
                    refine g_getI (q := 114) f_X11_192 (by assumption) rfl dX11_reads_111 rfl ?_
                    rw [hR2.2.1]
                    refine g_iconst (q := 115) (x := 1) dX11_reads_114 (by decide) rfl ?_
                    refine g_iadd (q := 116) dX11_reads_115 rfl ?_
                    refine g_putI (q := 119) f_X11_192 (by assumption) rfl rfl rfl dX11_reads_116 rfl ?_
                    rw [nI_1]
                    refine g_gen (fun vq3 hvq3 => ?_)
                    obtain ⟨t3, s7, s8, s9, -, -⟩ := hR2.stp hvq3
                    refine g_iload_n (q := 120) dX11_reads_119 rfl rfl ?_
                    refine g_ifeq (t := 136) (q := 123) dX11_reads_120 (by decide) rfl (fun hq120 => ?_) (fun hq120 => ?_)
                    · refine g_iload (q := 138) dX11_reads_136 rfl rfl ?_
                      refine g_ifeq (t := 159) (q := 141) dX11_reads_138 (by decide) rfl (fun hq138 => ?_) (fun hq138 => ?_)
                      · refine g_iload (q := 161) dX11_reads_159 rfl rfl ?_
                        refine g_ifeq (t := 173) (q := 164) dX11_reads_161 (by decide) rfl (fun hq161 => ?_) (fun hq161 => ?_)
                        · refine g_iconst (q := 174) (x := (-1)) dX11_reads_173 (by decide) rfl ?_
                          refine g_istore (q := 176) dX11_reads_174 rfl rfl rfl rfl ?_
                          dsimp only [List.set]
                          refine g_aload_n (q := 177) dX11_reads_176 rfl rfl ?_
                          refine g_iload_n (q := 178) dX11_reads_177 rfl rfl ?_
                          refine c_Vv (q := 181) (p_X11_comes_p hs t3 s7 (by omega) s8 s9 (by omega)) k_X11_208 (by assumption) rfl (by decide) rfl rfl (Nat.le_of_ble_eq_true rfl) rfl rfl dX11_reads_178 rfl ?_
                          rintro vq4 ⟨x1z, x2z, x3z, p3, bad, hcm, u7, u8, up, ul, ug, ub⟩
                          refine g_iload (q := 183) dX11_reads_181 rfl rfl ?_
                          refine g_ifeq (t := 199) (q := 186) dX11_reads_183 (by decide) rfl (fun hq183 => ?_) (fun hq183 => ?_)
                          · refine g_goto (q := 207) dX11_reads_199 (by decide) ?_
                            refine g_goto (q := 17) dX11_reads_207 (by decide) ?_
                            rcases bad with _ | _
                            · refine g_wk (L' := [some (.ref m), some (.int (nI g)), none, none, none, none]) (by simp [gj_wk]) ?_
                              exact ih p3 g _ vq4 (by omega) (hR2.ltr hd3 hvq3 hcm u7 u8 ul (by omega) (Or.inl rfl) (nfg := 2) rfl (by decide) ((ug rfl).1 g) (ug rfl).2)
                            · have u8 : vq4 m 8 = 1 := u8
                              refine g_aload_n (q := 18) dX11_reads_17 rfl rfl ?_
                              refine g_getI (q := 21) f_X11_195 (by assumption) rfl dX11_reads_18 rfl ?_
                              rw [u8]
                              refine g_ifne (t := 210) (q := 24) dX11_reads_21 (by decide) rfl (fun hq21 => ?_) (fun hq21 => ?_)
                              · refine g_aload_n (q := 211) dX11_reads_210 rfl rfl ?_
                                refine g_getI (q := 214) f_X11_195 (by assumption) rfl dX11_reads_211 rfl ?_
                                rw [u8]
                                refine g_ifne (t := 221) (q := 217) dX11_reads_214 (by decide) rfl (fun hq214 => ?_) (fun hq214 => ?_)
                                · refine g_iconst (q := 222) (x := 0) dX11_reads_221 (by decide) rfl ?_
                                  refine r_z dX11_reads_222 rfl rfl rfl (by decide) ?_
                                  exact hR2.badl hd3 hvq3 hcm u7 ul (Or.inl rfl) (nfg := 2) rfl (by decide) (ub rfl g)
                                · exact absurd hq214 (by decide)
                              · exact absurd hq21 (by decide)
                          · exact absurd rfl hq183
                        · exact absurd rfl hq161
                      · exact absurd rfl hq138
                    · exact absurd rfl hq120
                  · exact absurd rfl hq94
            · exact absurd hq68 (by decide)
          · exact absurd hq51 (by decide)
        by_cases n116 : y2 = 116
        · subst n116
          refine g_istore_n (q := 48) dX11_reads_47 rfl rfl rfl rfl ?_
          dsimp only [List.set]
          refine g_iload_n (q := 49) dX11_reads_48 rfl rfl ?_
          refine g_bipush (q := 51) (x := 40) dX11_reads_49 (by decide) rfl ?_
          refine g_icmpne (t := 63) (q := 54) dX11_reads_51 (by decide) rfl (fun hq51 => ?_) (fun hq51 => ?_)
          · refine g_iconst (q := 64) (x := 0) dX11_reads_63 (by decide) rfl ?_
            refine g_istore_n (q := 65) dX11_reads_64 rfl rfl rfl rfl ?_
            dsimp only [List.set]
            refine g_iload_n (q := 66) dX11_reads_65 rfl rfl ?_
            refine g_bipush (q := 68) (x := 41) dX11_reads_66 (by decide) rfl ?_
            refine g_icmpne (t := 79) (q := 71) dX11_reads_68 (by decide) rfl (fun hq68 => ?_) (fun hq68 => ?_)
            · refine g_iconst (q := 80) (x := 0) dX11_reads_79 (by decide) rfl ?_
              refine g_istore (q := 82) dX11_reads_80 rfl rfl rfl rfl ?_
              dsimp only [List.set]
              refine g_iload_n (q := 83) dX11_reads_82 rfl rfl ?_
              refine g_ifne (t := 109) (q := 86) dX11_reads_83 (by decide) rfl (fun hq83 => ?_) (fun hq83 => ?_)
              · exact absurd rfl hq83
              · refine g_iload (q := 88) dX11_reads_86 rfl rfl ?_
                refine g_ifne (t := 109) (q := 91) dX11_reads_88 (by decide) rfl (fun hq88 => ?_) (fun hq88 => ?_)
                · exact absurd rfl hq88
                · refine g_iload_n (q := 92) dX11_reads_91 rfl rfl ?_
                  refine g_bipush (q := 94) (x := 112) dX11_reads_92 (by decide) rfl ?_
                  refine g_icmpeq (t := 109) (q := 97) dX11_reads_94 (by decide) rfl (fun hq94 => ?_) (fun hq94 => ?_)
                  · exact absurd hq94 (by decide)
                  · refine g_iload_n (q := 98) dX11_reads_97 rfl rfl ?_
                    refine g_bipush (q := 100) (x := 116) dX11_reads_98 (by decide) rfl ?_
                    refine g_icmpeq (t := 109) (q := 103) dX11_reads_100 (by decide) rfl (fun hq100 => ?_) (fun hq100 => ?_)
                    · refine g_aload_n (q := 110) dX11_reads_109 rfl rfl ?_
                      refine g_dup (q := 111) dX11_reads_110 rfl rfl ?_
                      refine g_getI (q := 114) f_X11_192 (by assumption) rfl dX11_reads_111 rfl ?_
                      rw [hR2.2.1]
                      refine g_iconst (q := 115) (x := 1) dX11_reads_114 (by decide) rfl ?_
                      refine g_iadd (q := 116) dX11_reads_115 rfl ?_
                      refine g_putI (q := 119) f_X11_192 (by assumption) rfl rfl rfl dX11_reads_116 rfl ?_
                      rw [nI_1]
                      refine g_gen (fun vq3 hvq3 => ?_)
                      obtain ⟨t3, s7, s8, s9, -, -⟩ := hR2.stp hvq3
                      refine g_iload_n (q := 120) dX11_reads_119 rfl rfl ?_
                      refine g_ifeq (t := 136) (q := 123) dX11_reads_120 (by decide) rfl (fun hq120 => ?_) (fun hq120 => ?_)
                      · refine g_iload (q := 138) dX11_reads_136 rfl rfl ?_
                        refine g_ifeq (t := 159) (q := 141) dX11_reads_138 (by decide) rfl (fun hq138 => ?_) (fun hq138 => ?_)
                        · refine g_iload (q := 161) dX11_reads_159 rfl rfl ?_
                          refine g_ifeq (t := 173) (q := 164) dX11_reads_161 (by decide) rfl (fun hq161 => ?_) (fun hq161 => ?_)
                          · refine g_iconst (q := 174) (x := (-1)) dX11_reads_173 (by decide) rfl ?_
                            refine g_istore (q := 176) dX11_reads_174 rfl rfl rfl rfl ?_
                            dsimp only [List.set]
                            refine g_aload_n (q := 177) dX11_reads_176 rfl rfl ?_
                            refine g_iload_n (q := 178) dX11_reads_177 rfl rfl ?_
                            refine c_Vv (q := 181) (p_X11_comes_t hs t3 s7 (by omega) s8 s9 (by omega)) k_X11_208 (by assumption) rfl (by decide) rfl rfl (Nat.le_of_ble_eq_true rfl) rfl rfl dX11_reads_178 rfl ?_
                            rintro vq4 ⟨x1z, x2z, x3z, p3, bad, hcm, u7, u8, up, ul, ug, ub⟩
                            refine g_iload (q := 183) dX11_reads_181 rfl rfl ?_
                            refine g_ifeq (t := 199) (q := 186) dX11_reads_183 (by decide) rfl (fun hq183 => ?_) (fun hq183 => ?_)
                            · refine g_goto (q := 207) dX11_reads_199 (by decide) ?_
                              refine g_goto (q := 17) dX11_reads_207 (by decide) ?_
                              rcases bad with _ | _
                              · refine g_wk (L' := [some (.ref m), some (.int (nI g)), none, none, none, none]) (by simp [gj_wk]) ?_
                                exact ih p3 g _ vq4 (by omega) (hR2.ltr hd3 hvq3 hcm u7 u8 ul (by omega) (Or.inr (Or.inl rfl)) (nfg := 1) rfl (by decide) ((ug rfl).1 g) (ug rfl).2)
                              · have u8 : vq4 m 8 = 1 := u8
                                refine g_aload_n (q := 18) dX11_reads_17 rfl rfl ?_
                                refine g_getI (q := 21) f_X11_195 (by assumption) rfl dX11_reads_18 rfl ?_
                                rw [u8]
                                refine g_ifne (t := 210) (q := 24) dX11_reads_21 (by decide) rfl (fun hq21 => ?_) (fun hq21 => ?_)
                                · refine g_aload_n (q := 211) dX11_reads_210 rfl rfl ?_
                                  refine g_getI (q := 214) f_X11_195 (by assumption) rfl dX11_reads_211 rfl ?_
                                  rw [u8]
                                  refine g_ifne (t := 221) (q := 217) dX11_reads_214 (by decide) rfl (fun hq214 => ?_) (fun hq214 => ?_)
                                  · refine g_iconst (q := 222) (x := 0) dX11_reads_221 (by decide) rfl ?_
                                    refine r_z dX11_reads_222 rfl rfl rfl (by decide) ?_
                                    exact hR2.badl hd3 hvq3 hcm u7 ul (Or.inr (Or.inl rfl)) (nfg := 1) rfl (by decide) (ub rfl g)
                                  · exact absurd hq214 (by decide)
                                · exact absurd hq21 (by decide)
                            · exact absurd rfl hq183
                          · exact absurd rfl hq161
                        · exact absurd rfl hq138
                      · exact absurd rfl hq120
                    · exact absurd rfl hq100
            · exact absurd hq68 (by decide)
          · exact absurd hq51 (by decide)
        by_cases n109 : y2 = 109
        · subst n109
          refine g_istore_n (q := 48) dX11_reads_47 rfl rfl rfl rfl ?_
          dsimp only [List.set]
          refine g_iload_n (q := 49) dX11_reads_48 rfl rfl ?_
          refine g_bipush (q := 51) (x := 40) dX11_reads_49 (by decide) rfl ?_
          refine g_icmpne (t := 63) (q := 54) dX11_reads_51 (by decide) rfl (fun hq51 => ?_) (fun hq51 => ?_)
          · refine g_iconst (q := 64) (x := 0) dX11_reads_63 (by decide) rfl ?_
            refine g_istore_n (q := 65) dX11_reads_64 rfl rfl rfl rfl ?_
            dsimp only [List.set]
            refine g_iload_n (q := 66) dX11_reads_65 rfl rfl ?_
            refine g_bipush (q := 68) (x := 41) dX11_reads_66 (by decide) rfl ?_
            refine g_icmpne (t := 79) (q := 71) dX11_reads_68 (by decide) rfl (fun hq68 => ?_) (fun hq68 => ?_)
            · refine g_iconst (q := 80) (x := 0) dX11_reads_79 (by decide) rfl ?_
              refine g_istore (q := 82) dX11_reads_80 rfl rfl rfl rfl ?_
              dsimp only [List.set]
              refine g_iload_n (q := 83) dX11_reads_82 rfl rfl ?_
              refine g_ifne (t := 109) (q := 86) dX11_reads_83 (by decide) rfl (fun hq83 => ?_) (fun hq83 => ?_)
              · exact absurd rfl hq83
              · refine g_iload (q := 88) dX11_reads_86 rfl rfl ?_
                refine g_ifne (t := 109) (q := 91) dX11_reads_88 (by decide) rfl (fun hq88 => ?_) (fun hq88 => ?_)
                · exact absurd rfl hq88
                · refine g_iload_n (q := 92) dX11_reads_91 rfl rfl ?_
                  refine g_bipush (q := 94) (x := 112) dX11_reads_92 (by decide) rfl ?_
                  refine g_icmpeq (t := 109) (q := 97) dX11_reads_94 (by decide) rfl (fun hq94 => ?_) (fun hq94 => ?_)
                  · exact absurd hq94 (by decide)
                  · refine g_iload_n (q := 98) dX11_reads_97 rfl rfl ?_
                    refine g_bipush (q := 100) (x := 116) dX11_reads_98 (by decide) rfl ?_
                    refine g_icmpeq (t := 109) (q := 103) dX11_reads_100 (by decide) rfl (fun hq100 => ?_) (fun hq100 => ?_)
                    · exact absurd hq100 (by decide)
                    · refine g_iload_n (q := 104) dX11_reads_103 rfl rfl ?_
                      refine g_bipush (q := 106) (x := 109) dX11_reads_104 (by decide) rfl ?_
                      refine g_icmpne (t := 202) (q := 109) dX11_reads_106 (by decide) rfl (fun hq106 => ?_) (fun hq106 => ?_)
                      · exact absurd rfl hq106
                      · refine g_aload_n (q := 110) dX11_reads_109 rfl rfl ?_
                        refine g_dup (q := 111) dX11_reads_110 rfl rfl ?_
                        refine g_getI (q := 114) f_X11_192 (by assumption) rfl dX11_reads_111 rfl ?_
                        rw [hR2.2.1]
                        refine g_iconst (q := 115) (x := 1) dX11_reads_114 (by decide) rfl ?_
                        refine g_iadd (q := 116) dX11_reads_115 rfl ?_
                        refine g_putI (q := 119) f_X11_192 (by assumption) rfl rfl rfl dX11_reads_116 rfl ?_
                        rw [nI_1]
                        refine g_gen (fun vq3 hvq3 => ?_)
                        obtain ⟨t3, s7, s8, s9, -, -⟩ := hR2.stp hvq3
                        refine g_iload_n (q := 120) dX11_reads_119 rfl rfl ?_
                        refine g_ifeq (t := 136) (q := 123) dX11_reads_120 (by decide) rfl (fun hq120 => ?_) (fun hq120 => ?_)
                        · refine g_iload (q := 138) dX11_reads_136 rfl rfl ?_
                          refine g_ifeq (t := 159) (q := 141) dX11_reads_138 (by decide) rfl (fun hq138 => ?_) (fun hq138 => ?_)
                          · refine g_iload (q := 161) dX11_reads_159 rfl rfl ?_
                            refine g_ifeq (t := 173) (q := 164) dX11_reads_161 (by decide) rfl (fun hq161 => ?_) (fun hq161 => ?_)
                            · refine g_iconst (q := 174) (x := (-1)) dX11_reads_173 (by decide) rfl ?_
                              refine g_istore (q := 176) dX11_reads_174 rfl rfl rfl rfl ?_
                              dsimp only [List.set]
                              refine g_aload_n (q := 177) dX11_reads_176 rfl rfl ?_
                              refine g_iload_n (q := 178) dX11_reads_177 rfl rfl ?_
                              refine c_Vv (q := 181) (p_X11_comes_m hs t3 s7 (by omega) s8 s9 (by omega)) k_X11_208 (by assumption) rfl (by decide) rfl rfl (Nat.le_of_ble_eq_true rfl) rfl rfl dX11_reads_178 rfl ?_
                              rintro vq4 ⟨x1z, x2z, x3z, p3, bad, hcm, u7, u8, up, ul, ug, ub⟩
                              refine g_iload (q := 183) dX11_reads_181 rfl rfl ?_
                              refine g_ifeq (t := 199) (q := 186) dX11_reads_183 (by decide) rfl (fun hq183 => ?_) (fun hq183 => ?_)
                              · refine g_goto (q := 207) dX11_reads_199 (by decide) ?_
                                refine g_goto (q := 17) dX11_reads_207 (by decide) ?_
                                rcases bad with _ | _
                                · refine g_wk (L' := [some (.ref m), some (.int (nI g)), none, none, none, none]) (by simp [gj_wk]) ?_
                                  exact ih p3 g _ vq4 (by omega) (hR2.ltr hd3 hvq3 hcm u7 u8 ul (by omega) (Or.inr (Or.inr rfl)) (nfg := 3) rfl (by decide) ((ug rfl).1 g) (ug rfl).2)
                                · have u8 : vq4 m 8 = 1 := u8
                                  refine g_aload_n (q := 18) dX11_reads_17 rfl rfl ?_
                                  refine g_getI (q := 21) f_X11_195 (by assumption) rfl dX11_reads_18 rfl ?_
                                  rw [u8]
                                  refine g_ifne (t := 210) (q := 24) dX11_reads_21 (by decide) rfl (fun hq21 => ?_) (fun hq21 => ?_)
                                  · refine g_aload_n (q := 211) dX11_reads_210 rfl rfl ?_
                                    refine g_getI (q := 214) f_X11_195 (by assumption) rfl dX11_reads_211 rfl ?_
                                    rw [u8]
                                    refine g_ifne (t := 221) (q := 217) dX11_reads_214 (by decide) rfl (fun hq214 => ?_) (fun hq214 => ?_)
                                    · refine g_iconst (q := 222) (x := 0) dX11_reads_221 (by decide) rfl ?_
                                      refine r_z dX11_reads_222 rfl rfl rfl (by decide) ?_
                                      exact hR2.badl hd3 hvq3 hcm u7 ul (Or.inr (Or.inr rfl)) (nfg := 3) rfl (by decide) (ub rfl g)
                                    · exact absurd hq214 (by decide)
                                  · exact absurd hq21 (by decide)
                              · exact absurd rfl hq183
                            · exact absurd rfl hq161
                          · exact absurd rfl hq138
                        · exact absurd rfl hq120
            · exact absurd hq68 (by decide)
          · exact absurd hq51 (by decide)
        have hfl := hR2.flt0 hd2 n32 (fun z => n40 z.1) (fun z => n41 z.1) (by rw [fgo, if_neg n112, if_neg n116, if_neg n109])
        refine g_istore_n (q := 48) dX11_reads_47 rfl rfl rfl rfl ?_
        dsimp only [List.set]
        refine g_iload_n (q := 49) dX11_reads_48 rfl rfl ?_
        refine g_bipush (q := 51) (x := 40) dX11_reads_49 (by decide) rfl ?_
        refine g_icmpne (t := 63) (q := 54) dX11_reads_51 (by decide) rfl (fun hq51 => ?_) (fun hq51 => ?_)
        · refine g_iconst (q := 64) (x := 0) dX11_reads_63 (by decide) rfl ?_
          refine g_istore_n (q := 65) dX11_reads_64 rfl rfl rfl rfl ?_
          dsimp only [List.set]
          refine g_iload_n (q := 66) dX11_reads_65 rfl rfl ?_
          refine g_bipush (q := 68) (x := 41) dX11_reads_66 (by decide) rfl ?_
          refine g_icmpne (t := 79) (q := 71) dX11_reads_68 (by decide) rfl (fun hq68 => ?_) (fun hq68 => ?_)
          · refine g_iconst (q := 80) (x := 0) dX11_reads_79 (by decide) rfl ?_
            refine g_istore (q := 82) dX11_reads_80 rfl rfl rfl rfl ?_
            dsimp only [List.set]
            refine g_iload_n (q := 83) dX11_reads_82 rfl rfl ?_
            refine g_ifne (t := 109) (q := 86) dX11_reads_83 (by decide) rfl (fun hq83 => ?_) (fun hq83 => ?_)
            · exact absurd rfl hq83
            · refine g_iload (q := 88) dX11_reads_86 rfl rfl ?_
              refine g_ifne (t := 109) (q := 91) dX11_reads_88 (by decide) rfl (fun hq88 => ?_) (fun hq88 => ?_)
              · exact absurd rfl hq88
              · refine g_iload_n (q := 92) dX11_reads_91 rfl rfl ?_
                refine g_bipush (q := 94) (x := 112) dX11_reads_92 (by decide) rfl ?_
                refine g_icmpeq (t := 109) (q := 97) dX11_reads_94 (by decide) rfl (fun hq94 => ?_) (fun hq94 => ?_)
                · exact absurd hq94 n112
                · refine g_iload_n (q := 98) dX11_reads_97 rfl rfl ?_
                  refine g_bipush (q := 100) (x := 116) dX11_reads_98 (by decide) rfl ?_
                  refine g_icmpeq (t := 109) (q := 103) dX11_reads_100 (by decide) rfl (fun hq100 => ?_) (fun hq100 => ?_)
                  · exact absurd hq100 n116
                  · refine g_iload_n (q := 104) dX11_reads_103 rfl rfl ?_
                    refine g_bipush (q := 106) (x := 109) dX11_reads_104 (by decide) rfl ?_
                    refine g_icmpne (t := 202) (q := 109) dX11_reads_106 (by decide) rfl (fun hq106 => ?_) (fun hq106 => ?_)
                    · refine g_aload_n (q := 203) dX11_reads_202 rfl rfl ?_
                      refine g_iconst (q := 204) (x := 1) dX11_reads_203 (by decide) rfl ?_
                      refine g_putI (q := 207) f_X11_195 (by assumption) rfl rfl rfl dX11_reads_204 rfl ?_
                      refine g_gen (fun vq3 hvq3 => ?_)
                      have x8 : vq3 m 8 = 1 := by rw [hvq3, gu_2, gu_s, ud_s]
                      refine g_goto (q := 17) dX11_reads_207 (by decide) ?_
                      refine g_aload_n (q := 18) dX11_reads_17 rfl rfl ?_
                      refine g_getI (q := 21) f_X11_195 (by assumption) rfl dX11_reads_18 rfl ?_
                      rw [x8]
                      refine g_ifne (t := 210) (q := 24) dX11_reads_21 (by decide) rfl (fun hq21 => ?_) (fun hq21 => ?_)
                      · refine g_aload_n (q := 211) dX11_reads_210 rfl rfl ?_
                        refine g_getI (q := 214) f_X11_195 (by assumption) rfl dX11_reads_211 rfl ?_
                        rw [x8]
                        refine g_ifne (t := 221) (q := 217) dX11_reads_214 (by decide) rfl (fun hq214 => ?_) (fun hq214 => ?_)
                        · refine g_iconst (q := 222) (x := 0) dX11_reads_221 (by decide) rfl ?_
                          refine r_z dX11_reads_222 rfl rfl rfl (by decide) ?_
                          exact hR2.bad hfl hvq3
                        · exact absurd hq214 (by decide)
                      · exact absurd hq21 (by decide)
                    · exact absurd hq106 n109
          · exact absurd hq68 n41
        · exact absurd hq51 n40
    refine g_aload_n (q := 18) dX11_reads_17 rfl rfl ?_
    refine g_getI (q := 21) f_X11_195 (by assumption) rfl dX11_reads_18 rfl ?_
    rw [hR.2.2.2.1]
    refine g_ifne (t := 210) (q := 24) dX11_reads_21 (by decide) rfl (fun hq21 => ?_) (fun hq21 => ?_)
    · exact absurd rfl hq21
    · refine g_aload_n (q := 25) dX11_reads_24 rfl rfl ?_
      refine c_Vi (q := 28) (p_X11_here hs hR.1 hR.2.1 hR.2.2.1) k_X11_199 (by assumption) rfl (by decide) rfl rfl (Nat.le_of_ble_eq_true rfl) rfl rfl dX11_reads_25 rfl ?_
      rintro y0 vq1 ⟨hy, p1, q1, q2, q3, hvq1⟩
      have hR1 := hR.spk q1 q2 q3 hvq1
      have hg4 := hR1.2.2.2.2.2.2.1
      have hl := hR1.1.2.1
      have hts := hR1.2.2.2.2.2.1
      refine g_iconst (q := 29) (x := (-1)) dX11_reads_28 (by decide) rfl ?_
      refine g_icmpne (t := 43) (q := 32) dX11_reads_29 (by decide) rfl (fun hq29 => ?_) (fun hq29 => ?_)
      · refine at43 vq1 p1 hR1 (by omega) (fun hz => ?_)
        exfalso
        rw [q3, spk_spk] at hz
        exact hq29 (by rw [hy, hz]; rfl)
      · have hd : tx.drop p1 = [] := by
          rcases hd : tx.drop p1 with _ | ⟨c, q⟩
          · rfl
          · exfalso
            rw [← q3, hd] at hy
            have hy : y0 = c := hy
            have hm := hB c (List.mem_of_mem_drop (by rw [hd]; exact List.mem_cons_self))
            rw [← hy, hq29] at hm
            exact absurd hm (by decide)
        refine g_iload_n (q := 33) dX11_reads_32 rfl rfl ?_
        refine g_ifgt (t := 43) (q := 36) dX11_reads_33 (by decide) rfl (fun hq33 => ?_) (fun hq33 => ?_)
        · have hq33 := (g4_pos hg4).mp hq33
          exact at43 vq1 p1 hR1 (by omega) (fun _ => Or.inl hq33)
        · have hg0 : g = 0 := by
            rcases Nat.eq_zero_or_pos g with z | z
            · exact z
            · exact absurd ((g4_pos hg4).mpr z) hq33
          refine g_aload_n (q := 37) dX11_reads_36 rfl rfl ?_
          refine g_getI (q := 40) f_X11_202 (by assumption) rfl dX11_reads_37 rfl ?_
          rw [hR1.2.2.2.2.1.1]
          refine g_ifne (t := 210) (q := 43) dX11_reads_40 (by decide) rfl (fun hq40 => ?_) (fun hq40 => ?_)
          · have hne : ¬ ts = [] := fun z => hq40 (by rw [z]; rfl)
            refine g_aload_n (q := 211) dX11_reads_210 rfl rfl ?_
            refine g_getI (q := 214) f_X11_195 (by assumption) rfl dX11_reads_211 rfl ?_
            rw [hR1.2.2.2.1]
            refine g_ifne (t := 221) (q := 217) dX11_reads_214 (by decide) rfl (fun hq214 => ?_) (fun hq214 => ?_)
            · exact absurd rfl hq214
            · refine g_iconst (q := 218) (x := 1) dX11_reads_217 (by decide) rfl ?_
              refine g_goto (q := 222) dX11_reads_218 (by decide) ?_
              refine r_z dX11_reads_222 rfl rfl rfl (by decide) ?_
              exact hR1.good hd hg0 hne
          · have hte : ts = [] := by
              have := nI_0b (by omega) hq40
              exact List.length_eq_zero_iff.mp this
            exact at43 vq1 p1 hR1 (by omega) (fun _ => Or.inr hte)

set_option maxRecDepth 100000 in
set_option maxHeartbeats 4000000 in
theorem p_X11_reads {X : gj_X} {lim : Nat} {σ : gj_H} {v : gj_V} {m : Nat} {tx : List Int32} (hs : msh σ m) (hT : TXm v m tx) (hB : ∀ x ∈ tx, in_ x 0 127) : gj_E X 3 m_X11_reads [.ref m] lim σ v (q_i lim σ (fun z v' => RQ v m tx z v')) := by
  obtain ⟨so, s1, s2, s3, s4, s5, s6, s7, s8, s9, s10, s11, s12⟩ := id hs
  refine gj_E_at (L := [some (.ref m), none, none, none, none, none]) (k := 5) rfl (by decide) rfl ?_
  refine g_aload_n (q := 1) dX11_reads_0 rfl rfl ?_
  refine g_iconst (q := 2) (x := 0) dX11_reads_1 (by decide) rfl ?_
  refine g_putI (q := 5) f_X11_192 (by assumption) rfl rfl rfl dX11_reads_2 rfl ?_
  refine g_gen (fun vq1 hvq1 => ?_)
  refine g_aload_n (q := 6) dX11_reads_5 rfl rfl ?_
  refine g_iconst (q := 7) (x := 0) dX11_reads_6 (by decide) rfl ?_
  refine g_putI (q := 10) f_X11_195 (by assumption) rfl rfl rfl dX11_reads_7 rfl ?_
  refine g_gen (fun vq2 hvq2 => ?_)
  refine g_aload_n (q := 11) dX11_reads_10 rfl rfl ?_
  refine g_iconst (q := 12) (x := 0) dX11_reads_11 (by decide) rfl ?_
  refine g_putI (q := 15) f_X11_202 (by assumption) rfl rfl rfl dX11_reads_12 rfl ?_
  refine g_gen (fun vq3 hvq3 => ?_)
  refine g_iconst (q := 16) (x := 0) dX11_reads_15 (by decide) rfl ?_
  refine g_istore_n (q := 17) dX11_reads_16 rfl rfl rfl rfl ?_
  dsimp only [List.set]
  have o : ∀ a, a ≠ m → vq3 a = v a := fun a ha => by rw [hvq3, gu_2, gu_n _ _ ha, hvq2, gu_2, gu_n _ _ ha, hvq1, gu_2, gu_n _ _ ha]
  have ok : ∀ k, k ≠ 7 → k ≠ 8 → k ≠ 9 → vq3 m k = v m k := fun k g1 g2 g3 => by rw [hvq3, gu_2, gu_s, ud_n _ _ g3, hvq2, gu_2, gu_s, ud_n _ _ g2, hvq1, gu_2, gu_s, ud_n _ _ g1]
  have z7 : vq3 m 7 = nI 0 := by rw [hvq3, gu_2, gu_s, ud_n _ _ (by decide), hvq2, gu_2, gu_s, ud_n _ _ (by decide), hvq1, gu_2, gu_s, ud_s]; rfl
  have z8 : vq3 m 8 = 0 := by rw [hvq3, gu_2, gu_s, ud_n _ _ (by decide), hvq2, gu_2, gu_s, ud_s]
  have z9 : vq3 m 9 = nI 0 := by rw [hvq3, gu_2, gu_s, ud_s]; rfl
  refine reads_loop hs hB (tx.length + 1) 0 0 [] vq3 (by omega) ⟨⟨by rw [ok 6 (by decide) (by decide) (by decide)]; exact hT.1, hT.2.1, by rw [o _ (by omega)]; exact hT.2.2⟩, z7, by omega, z8, ⟨z9, by simp, fun i o hi => absurd hi (by simp)⟩, by simp, by omega, by simp, by simp, fun j hj => absurd hj (by omega), fun b o hb => absurd hb (by simp), fun a g1 _ => o a g1, ok⟩
