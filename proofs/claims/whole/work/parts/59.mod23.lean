def fo (v v' : gj_V) (m : Nat) : Prop := (∀ a, a ≠ m → v' a = v a) ∧ ∀ k, k ≠ 7 → k ≠ 8 → v' m k = v m k
theorem TXm.fo {v v' : gj_V} {m : Nat} {tx : List Int32} (h : TXm v m tx) (o : fo v v' m) : TXm v' m tx := by
  obtain ⟨h1, h2, h3⟩ := h
  exact ⟨by rw [o.2 6 (by decide) (by decide)]; exact h1, h2, by rw [o.1 _ (by omega)]; exact h3⟩
theorem fo.rf (v : gj_V) (m : Nat) : fo v v m := ⟨fun _ _ => rfl, fun _ _ _ => rfl⟩
theorem fo.tr {v v1 v2 : gj_V} {m : Nat} (h1 : fo v v1 m) (h2 : fo v1 v2 m) : fo v v2 m := ⟨fun a ha => (h2.1 a ha).trans (h1.1 a ha), fun k g1 g2 => (h2.2 k g1 g2).trans (h1.2 k g1 g2)⟩
theorem fo_u2 (v : gj_V) (m k : Nat) (x : Int32) (hk : k = 7 ∨ k = 8) : fo v (gj_up2 v m k x) m := ⟨fun a ha => gu_n _ _ ha, fun j g1 g2 => by rw [gu_2, gu_s, ud_n _ _ (by omega)]⟩
/-- a figure that is read: what it comes to -/
def fgr (tx : List Int32) (p : Nat) (z : Int32) (p2 : Nat) (bad : Bool) : Prop :=
  (bad = false ∧ ∃ c q, spk (tx.drop p) = c :: q ∧ in_ c 48 57 ∧ tx.drop p2 = q ∧ z = c - 48 ∧ p2 ≤ tx.length ∧ p < p2) ∨ (bad = true ∧ tx.drop p2 = spk (tx.drop p) ∧ p2 ≤ tx.length ∧ p ≤ p2 ∧ ∀ c q, spk (tx.drop p) = c :: q → ¬ in_ c 48 57)
theorem fgr_flt {tx : List Int32} {p p2 g f : Nat} {z : Int32} {b e : Bool} (h : fgr tx p z p2 b) (hp : p ≤ tx.length) : (b = false → flt (tx.drop p) p g (f + 1) e = flt (tx.drop p2) p2 g f false ∧ z = (nf (tx.drop p)).1 ∧ tx.drop p2 = (nf (tx.drop p)).2) ∧ (b = true → flt (tx.drop p) p g (f + 1) e = some p2) := by
  have hl := spk_len (tx.drop p)
  have key := flt_spk (tx.drop p) p g (f + 1) e
  rcases h with ⟨rfl, c, q, h1, h2, h3, h4, h5, h6⟩ | ⟨rfl, h1, h2, h3, h4⟩
  · refine ⟨fun _ => ?_, fun z => absurd z (by decide)⟩
    have hn := spk_ne _ _ _ h1
    rw [h1] at key hl
    have hlen : (tx.drop p2).length = q.length := by rw [h3]
    simp only [List.length_drop, List.length_cons] at key hl hlen
    rw [flt, if_neg hn, if_pos (by omega), if_pos h2] at key
    refine ⟨?_, ?_, ?_⟩
    · rw [key, h3]
      rw [show f + 1 - 1 = f by omega]
      congr 1
      omega
    · rw [← nf_spk, h1, nf, if_neg hn]; exact h4
    · rw [← nf_spk, h1, nf, if_neg hn]; exact h3
  · refine ⟨fun z => absurd z (by decide), fun _ => ?_⟩
    have hlen : (tx.drop p2).length = (spk (tx.drop p)).length := by rw [h1]
    simp only [List.length_drop] at hlen key hl
    rw [key]
    rcases hs : spk (tx.drop p) with _ | ⟨c, q⟩
    · rw [hs] at hlen
      rw [flt, if_pos (Or.inr (Or.inl (by omega)))]
      simp only [List.length_nil] at hlen ⊢
      congr 1
      omega
    · have hn := spk_ne _ _ _ hs
      rw [hs] at hlen
      rw [flt, if_neg hn, if_pos (by omega), if_neg (h4 c q hs)]
      congr 1
      omega

set_option maxRecDepth 100000 in
set_option maxHeartbeats 4000000 in
theorem p_X11_figure1 {X : gj_X} {lim : Nat} {σ : gj_H} {v : gj_V} {m p : Nat} {tx : List Int32} (hs : msh σ m) (hT : TXm v m tx) (hp7 : v m 7 = nI p) (hp : p ≤ tx.length) (hp8 : v m 8 = 1) : gj_E X 1 m_X11_figure [.ref m] lim σ v (q_i lim σ (fun z v' => fo v v' m ∧ v' m 7 = nI p ∧ v' m 8 = 1)) := by
  obtain ⟨so, s1, s2, s3, s4, s5, s6, s7, s8, s9, s10, s11, s12⟩ := id hs
  have hl := hT.2.1
  refine gj_E_at (L := [some (.ref m), none]) (k := 1) rfl (by decide) rfl ?_
  refine g_aload_n (q := 1) dX11_figure_0 rfl rfl ?_
  refine g_getI (q := 4) f_X11_195 (by assumption) rfl dX11_figure_1 rfl ?_
  rw [hp8]
  refine g_ifeq (t := 11) (q := 7) dX11_figure_4 (by decide) rfl (fun hq4 => ?_) (fun hq4 => ?_)
  · exact absurd hq4 (by decide)
  · refine g_iconst (q := 8) (x := (-1)) dX11_figure_7 (by decide) rfl ?_
    refine g_goto (q := 15) dX11_figure_8 (by decide) ?_
    refine g_istore_n (q := 16) dX11_figure_15 rfl rfl rfl rfl ?_
    dsimp only [List.set]
    refine g_aload_n (q := 17) dX11_figure_16 rfl rfl ?_
    refine g_aload_n (q := 18) dX11_figure_17 rfl rfl ?_
    refine g_getI (q := 21) f_X11_195 (by assumption) rfl dX11_figure_18 rfl ?_
    rw [hp8]
    refine g_ifne (t := 35) (q := 24) dX11_figure_21 (by decide) rfl (fun hq21 => ?_) (fun hq21 => ?_)
    · refine g_iconst (q := 36) (x := 1) dX11_figure_35 (by decide) rfl ?_
      refine g_goto (q := 40) dX11_figure_36 (by decide) ?_
      refine g_putI (q := 43) f_X11_195 (by assumption) rfl rfl rfl dX11_figure_40 rfl ?_
      refine g_gen (fun vq1 hvq1 => ?_)
      have x8 : vq1 m 8 = 1 := by rw [hvq1, gu_2, gu_s, ud_s]
      have x7 : vq1 m 7 = nI p := by rw [hvq1, gu_2, gu_s, ud_n _ _ (by decide)]; exact hp7
      have o1 : fo v vq1 m := by rw [hvq1]; exact fo_u2 _ _ _ _ (Or.inr rfl)
      refine g_aload_n (q := 44) dX11_figure_43 rfl rfl ?_
      refine g_dup (q := 45) dX11_figure_44 rfl rfl ?_
      refine g_getI (q := 48) f_X11_192 (by assumption) rfl dX11_figure_45 rfl ?_
      rw [x7]
      refine g_aload_n (q := 49) dX11_figure_48 rfl rfl ?_
      refine g_getI (q := 52) f_X11_195 (by assumption) rfl dX11_figure_49 rfl ?_
      rw [x8]
      refine g_ifeq (t := 59) (q := 55) dX11_figure_52 (by decide) rfl (fun hq52 => ?_) (fun hq52 => ?_)
      · exact absurd hq52 (by decide)
      · refine g_iconst (q := 56) (x := 0) dX11_figure_55 (by decide) rfl ?_
        refine g_goto (q := 60) dX11_figure_56 (by decide) ?_
        refine g_iadd (q := 61) dX11_figure_60 rfl ?_
        refine g_putI (q := 64) f_X11_192 (by assumption) rfl rfl rfl dX11_figure_61 rfl ?_
        rw [Int32.add_zero]
        refine g_gen (fun vq2 hvq2 => ?_)
        have y7 : vq2 m 7 = nI p := by rw [hvq2, gu_2, gu_s, ud_s]
        have y8 : vq2 m 8 = 1 := by rw [hvq2, gu_2, gu_s, ud_n _ _ (by decide)]; exact x8
        have o2 : fo v vq2 m := by rw [hvq2]; exact o1.tr (fo_u2 _ _ _ _ (Or.inl rfl))
        refine g_iload_n (q := 65) dX11_figure_64 rfl rfl ?_
        refine g_bipush (q := 67) (x := 48) dX11_figure_65 (by decide) rfl ?_
        refine g_isub (q := 68) dX11_figure_67 rfl ?_
        refine r_i dX11_figure_68 rfl rfl rfl ?_
        exact ⟨o2, y7, y8⟩
    · exact absurd hq21 (by decide)

set_option maxRecDepth 100000 in
set_option maxHeartbeats 4000000 in
theorem p_X11_figure0 {X : gj_X} {lim : Nat} {σ : gj_H} {v : gj_V} {m p : Nat} {tx : List Int32} (hs : msh σ m) (hT : TXm v m tx) (hp7 : v m 7 = nI p) (hp : p ≤ tx.length) (hp8 : v m 8 = 0) : gj_E X 1 m_X11_figure [.ref m] lim σ v (q_i lim σ (fun z v' => fo v v' m ∧ ∃ p2 bad, fgr tx p z p2 bad ∧ v' m 7 = nI p2 ∧ v' m 8 = (if bad = true then 1 else 0))) := by
  obtain ⟨so, s1, s2, s3, s4, s5, s6, s7, s8, s9, s10, s11, s12⟩ := id hs
  have hl := hT.2.1
  refine gj_E_at (L := [some (.ref m), none]) (k := 1) rfl (by decide) rfl ?_
  refine g_aload_n (q := 1) dX11_figure_0 rfl rfl ?_
  refine g_getI (q := 4) f_X11_195 (by assumption) rfl dX11_figure_1 rfl ?_
  rw [hp8]
  refine g_ifeq (t := 11) (q := 7) dX11_figure_4 (by decide) rfl (fun hq4 => ?_) (fun hq4 => ?_)
  · refine g_aload_n (q := 12) dX11_figure_11 rfl rfl ?_
    refine c_Vi (q := 15) (p_X11_here hs hT hp7 hp) k_X11_199 (by assumption) rfl (by decide) rfl rfl (Nat.le_of_ble_eq_true rfl) rfl rfl dX11_figure_12 rfl ?_
    rintro y vq1 ⟨hy1, p1, q1, q2, q3, hvq1⟩
    have x7 : vq1 m 7 = nI p1 := by rw [hvq1, gu_2, gu_s, ud_s]
    have x8 : vq1 m 8 = 0 := by rw [hvq1, gu_2, gu_s, ud_n _ _ (by decide)]; exact hp8
    have o1 : fo v vq1 m := by rw [hvq1]; exact fo_u2 _ _ _ _ (Or.inl rfl)
    refine g_istore_n (q := 16) dX11_figure_15 rfl rfl rfl rfl ?_
    dsimp only [List.set]
    refine g_aload_n (q := 17) dX11_figure_16 rfl rfl ?_
    refine g_aload_n (q := 18) dX11_figure_17 rfl rfl ?_
    refine g_getI (q := 21) f_X11_195 (by assumption) rfl dX11_figure_18 rfl ?_
    rw [x8]
    refine g_ifne (t := 35) (q := 24) dX11_figure_21 (by decide) rfl (fun hq21 => ?_) (fun hq21 => ?_)
    · exact absurd rfl hq21
    · refine g_iload_n (q := 25) dX11_figure_24 rfl rfl ?_
      refine g_bipush (q := 27) (x := 48) dX11_figure_25 (by decide) rfl ?_
      refine g_bipush (q := 29) (x := 57) dX11_figure_27 (by decide) rfl ?_
      refine c_Si (q := 32) p_X11_in k_X11_50 (by decide) rfl rfl (Nat.le_of_ble_eq_true rfl) rfl rfl dX11_figure_29 rfl ?_
      rintro z0 w1 ⟨hz0, hw1⟩
      subst w1
      refine g_ifne (t := 39) (q := 35) dX11_figure_32 (by decide) rfl (fun hq32 => ?_) (fun hq32 => ?_)
      · rw [hz0] at hq32
        have hq32 := gn_b1 hq32
        refine g_iconst (q := 40) (x := 0) dX11_figure_39 (by decide) rfl ?_
        refine g_putI (q := 43) f_X11_195 (by assumption) rfl rfl rfl dX11_figure_40 rfl ?_
        refine g_gen (fun vq2 hvq2 => ?_)
        have y8 : vq2 m 8 = 0 := by rw [hvq2, gu_2, gu_s, ud_s]
        have y7 : vq2 m 7 = nI p1 := by rw [hvq2, gu_2, gu_s, ud_n _ _ (by decide)]; exact x7
        have o2 : fo v vq2 m := by rw [hvq2]; exact o1.tr (fo_u2 _ _ _ _ (Or.inr rfl))
        refine g_aload_n (q := 44) dX11_figure_43 rfl rfl ?_
        refine g_dup (q := 45) dX11_figure_44 rfl rfl ?_
        refine g_getI (q := 48) f_X11_192 (by assumption) rfl dX11_figure_45 rfl ?_
        rw [y7]
        refine g_aload_n (q := 49) dX11_figure_48 rfl rfl ?_
        refine g_getI (q := 52) f_X11_195 (by assumption) rfl dX11_figure_49 rfl ?_
        rw [y8]
        refine g_ifeq (t := 59) (q := 55) dX11_figure_52 (by decide) rfl (fun hq52 => ?_) (fun hq52 => ?_)
        · refine g_iconst (q := 60) (x := 1) dX11_figure_59 (by decide) rfl ?_
          refine g_iadd (q := 61) dX11_figure_60 rfl ?_
          refine g_putI (q := 64) f_X11_192 (by assumption) rfl rfl rfl dX11_figure_61 rfl ?_
          rw [nI_1]
          refine g_gen (fun vq3 hvq3 => ?_)
          have z7 : vq3 m 7 = nI (p1 + 1) := by rw [hvq3, gu_2, gu_s, ud_s]
          have z8 : vq3 m 8 = 0 := by rw [hvq3, gu_2, gu_s, ud_n _ _ (by decide)]; exact y8
          have o3 : fo v vq3 m := by rw [hvq3]; exact o2.tr (fo_u2 _ _ _ _ (Or.inl rfl))
          refine g_iload_n (q := 65) dX11_figure_64 rfl rfl ?_
          refine g_bipush (q := 67) (x := 48) dX11_figure_65 (by decide) rfl ?_
          refine g_isub (q := 68) dX11_figure_67 rfl ?_
          refine r_i dX11_figure_68 rfl rfl rfl ?_
          rcases hsp : spk (tx.drop p) with _ | ⟨c, q⟩
          · rw [hsp] at hy1
            rw [hy1] at hq32
            exact absurd hq32 (by decide)
          · rw [hsp] at hy1 q3
            have hy2 : y = c := hy1
            obtain ⟨d1, d2, d3⟩ := dr_cons q3
            exact ⟨o3, p1 + 1, false, Or.inl ⟨rfl, c, q, hsp, by rw [← hy2]; exact hq32, d3, by rw [hy2], by omega, by omega⟩, z7, z8⟩
        · exact absurd rfl hq52
      · rw [hz0] at hq32
        have hq32 := gn_b0 hq32
        refine g_iconst (q := 36) (x := 1) dX11_figure_35 (by decide) rfl ?_
        refine g_goto (q := 40) dX11_figure_36 (by decide) ?_
        refine g_putI (q := 43) f_X11_195 (by assumption) rfl rfl rfl dX11_figure_40 rfl ?_
        refine g_gen (fun vq2 hvq2 => ?_)
        have y8 : vq2 m 8 = 1 := by rw [hvq2, gu_2, gu_s, ud_s]
        have y7 : vq2 m 7 = nI p1 := by rw [hvq2, gu_2, gu_s, ud_n _ _ (by decide)]; exact x7
        have o2 : fo v vq2 m := by rw [hvq2]; exact o1.tr (fo_u2 _ _ _ _ (Or.inr rfl))
        refine g_aload_n (q := 44) dX11_figure_43 rfl rfl ?_
        refine g_dup (q := 45) dX11_figure_44 rfl rfl ?_
        refine g_getI (q := 48) f_X11_192 (by assumption) rfl dX11_figure_45 rfl ?_
        rw [y7]
        refine g_aload_n (q := 49) dX11_figure_48 rfl rfl ?_
        refine g_getI (q := 52) f_X11_195 (by assumption) rfl dX11_figure_49 rfl ?_
        rw [y8]
        refine g_ifeq (t := 59) (q := 55) dX11_figure_52 (by decide) rfl (fun hq52 => ?_) (fun hq52 => ?_)
        · exact absurd hq52 (by decide)
        · refine g_iconst (q := 56) (x := 0) dX11_figure_55 (by decide) rfl ?_
          refine g_goto (q := 60) dX11_figure_56 (by decide) ?_
          refine g_iadd (q := 61) dX11_figure_60 rfl ?_
          refine g_putI (q := 64) f_X11_192 (by assumption) rfl rfl rfl dX11_figure_61 rfl ?_
          rw [Int32.add_zero]
          refine g_gen (fun vq3 hvq3 => ?_)
          have z7 : vq3 m 7 = nI p1 := by rw [hvq3, gu_2, gu_s, ud_s]
          have z8 : vq3 m 8 = 1 := by rw [hvq3, gu_2, gu_s, ud_n _ _ (by decide)]; exact y8
          have o3 : fo v vq3 m := by rw [hvq3]; exact o2.tr (fo_u2 _ _ _ _ (Or.inl rfl))
          refine g_iload_n (q := 65) dX11_figure_64 rfl rfl ?_
          refine g_bipush (q := 67) (x := 48) dX11_figure_65 (by decide) rfl ?_
          refine g_isub (q := 68) dX11_figure_67 rfl ?_
          refine r_i dX11_figure_68 rfl rfl rfl ?_
          refine ⟨o3, p1, true, Or.inr ⟨rfl, q3, q2, q1, fun c q hc => ?_⟩, z7, z8⟩
          rw [hc] at hy1
          exact fun z => hq32 (by rw [hy1]; exact z)
  · exact absurd rfl hq4
