theorem flt_le : ∀ (r : List Int32) (i g f : Nat) (e : Bool) (j : Nat), flt r i g f e = some j → j ≤ i + r.length
  | [], i, g, f, e, j, h => by
    unfold flt at h
    split at h
    · simp at h; simp; omega
    · simp at h
  | c :: r, i, g, f, e, j, h => by
    simp only [List.length_cons]
    unfold flt at h
    split at h
    · have := flt_le r _ _ _ _ j h; omega
    · split at h
      · split at h
        · have := flt_le r _ _ _ _ j h; omega
        · simp at h; omega
      · split at h
        · have := flt_le r _ _ _ _ j h; omega
        · split at h
          · have := flt_le r _ _ _ _ j h; omega
          · split at h
            · simp at h; omega
            · have := flt_le r _ _ _ _ j h; omega
theorem flt_m1 {tx : List Int32} (hl : tx.length ≤ 120) (h : fvo (flt tx 0 0 0 true) = -1) : flt tx 0 0 0 true = none := by
  cases hf : flt tx 0 0 0 true with
  | none => rfl
  | some j =>
    have hj := flt_le tx 0 0 0 true j hf
    rw [hf] at h
    exfalso
    have h2 : nI j = -1 := h
    have h3 : ¬ nI j < 0 := nI_pos (by omega)
    exact h3 (by rw [h2]; decide)

set_option maxRecDepth 100000 in
set_option maxHeartbeats 4000000 in
theorem p_X6_run {X : gj_X} {lim : Nat} {σ : gj_H} {v : gj_V} {x : Nat} {A : aS} {t : Int32} {tx : List Int32} {n sn : Nat} (hs : gsh σ x) (hC : CR v (x + 1) A t) (hT : TR v (x + 388) tx) (hI : IV A n sn) (hfl : flt tx 0 0 0 true = none) : gj_E X 5 m_X6_run [.ref (x + 390)] lim σ v (q_i lim σ (fun z v' => z = (z_does A tx).1 ∧ CR v' (x + 1) (z_does A tx).2 t ∧ fx v v' x)) := by
  obtain ⟨sx, hf, hh, ht, hrn, hia⟩ := id hs
  have sr := hrn.1
  have ht1 := ht.1
  have sf := hf.1
  refine gj_E_at (L := [some (.ref (x + 390)), none, none]) (k := 2) rfl (by decide) rfl ?_
  refine g_aload_n (q := 1) dX6_run_0 rfl rfl ?_
  refine g_iconst (q := 2) (x := 0) dX6_run_1 (by decide) rfl ?_
  refine g_putI (q := 5) f_X6_30 (by assumption) rfl rfl rfl dX6_run_2 rfl ?_
  refine g_aload_n (q := 6) dX6_run_5 rfl rfl ?_
  refine g_iconst (q := 7) (x := (-1)) dX6_run_6 (by decide) rfl ?_
  refine g_putI (q := 10) f_X6_34 (by assumption) rfl rfl rfl dX6_run_7 rfl ?_
  refine g_aload_n (q := 11) dX6_run_10 rfl rfl ?_
  refine g_iconst (q := 12) (x := 0) dX6_run_11 (by decide) rfl ?_
  refine g_putI (q := 15) f_X6_37 (by assumption) rfl rfl rfl dX6_run_12 rfl ?_
  refine g_aload_n (q := 16) dX6_run_15 rfl rfl ?_
  refine g_iconst (q := 17) (x := 0) dX6_run_16 (by decide) rfl ?_
  refine g_putI (q := 20) f_X6_40 (by assumption) rfl rfl rfl dX6_run_17 rfl ?_
  refine g_gen (fun vq1 hvq1 => ?_)
  have E1 : fx v vq1 x := by rw [hvq1]; exact fun a g1 g2 => by rw [gu_2, gu_n _ _ (by omega), gu_2, gu_n _ _ (by omega), gu_2, gu_n _ _ (by omega), gu_2, gu_n _ _ (by omega)]
  have eq0 : ∀ a, a ≠ x + 390 → vq1 a = v a := fun a ha => by rw [hvq1, gu_2, gu_n _ _ ha, gu_2, gu_n _ _ ha, gu_2, gu_n _ _ ha, gu_2, gu_n _ _ ha]
  have hN1 : RN vq1 x A t tx 0 [] 0 0 := by
    refine ⟨hC.keep (fun a g1 g2 => eq0 a (by omega)), hT.keep (eq0 _ (by omega)) (eq0 _ (by omega)), ?_, ?_, ?_, ?_, by simp, fun j q hj => absurd (rv_lt hj) (by simp)⟩ <;> (rw [hvq1]; simp only [gu_2, gu_s]; first | (simp [upd]; done) | (simp [upd]; decide))
  refine g_aload_n (q := 21) dX6_run_20 rfl rfl ?_
  refine c_Vv (q := 24) (p_X6_enterLevel hs hN1 (by simp)) k_X6_43 (by assumption) rfl (by decide) rfl rfl (Nat.le_of_ble_eq_true rfl) rfl rfl dX6_run_21 rfl ?_
  rintro vq2 ⟨hN2, E2⟩
  refine g_iconst (q := 25) (x := 0) dX6_run_24 (by decide) rfl ?_
  refine g_istore_n (q := 26) dX6_run_25 rfl rfl rfl rfl ?_
  dsimp only [List.set]
  exact run_loop hs tx.length tx 0 0 true (a_in A 6) 0 0 [(A.2, 0)] _ 0 vq2 (Nat.le_refl _) hN2 (E1.tr E2) rfl (by omega) hfl (by simp) (iv_in6 hI) (ivL_in hI.1 (fun q hq => absurd hq (by simp))) (Nat.lt_succ_self _) (Nat.le_refl _)

set_option maxRecDepth 100000 in
set_option maxHeartbeats 4000000 in
theorem p_X10_does {X : gj_X} {lim : Nat} {σ : gj_H} {v : gj_V} {x : Nat} {A : aS} {t : Int32} {l : List (aS × Int32)} {tx : List Int32} {c : Nat → Int32} {n sn : Nat} (hs : gsh σ x) (hG : GR v x A t l tx c) (hI : IV A n sn) : gj_E X 6 m_X10_does [.ref x] lim σ v (q_i lim σ (fun z v' => sp_does A t l tx c z (GR v' x) ∧ fr v v' x (x + 477))) := by
  obtain ⟨sx, hf, hh, ht, hrn, hia⟩ := id hs
  have hc := hG.2.2.2
  have hn6 := hI.2.1.2.2.2.1
  have hn1 := hI.2.1.2.2.1
  have sf := hf.1
  have sb := hf.2.1
  have ss := hf.2.2.1
  have sw := hf.2.2.2.1
  have hb6 := hf.2.2.2.2.2.2.1
  have hs6 := hf.2.2.2.2.2.2.2.1
  have hw6 := hf.2.2.2.2.2.2.2.2
  have sl := hf.2.2.2.2.1
  have sl1 := sl.1
  have hh1 := hh.1
  have ht1 := ht.1
  have hia1 := hia.1
  refine gj_E_at (L := [some (.ref x), none, none]) (k := 2) rfl (by decide) rfl ?_
  refine g_aload_n (q := 1) dX10_does_0 rfl rfl ?_
  refine g_getR (q := 4) f_X10_26 (by assumption) rfl dX10_does_1 rfl ?_
  refine c_Vi (q := 7) (p_X8_fault ht hG.2.2.1) k_X10_218 ht1 rfl (by decide) rfl rfl (Nat.le_of_ble_eq_true rfl) rfl rfl dX10_does_4 rfl ?_
  rintro y w1 ⟨hy1, hw1⟩
  subst w1
  have hl := hG.2.2.1.2.1
  refine g_istore_n (q := 8) dX10_does_7 rfl rfl rfl rfl ?_
  dsimp only [List.set]
  refine g_iload_n (q := 9) dX10_does_8 rfl rfl ?_
  refine g_iconst (q := 10) (x := (-1)) dX10_does_9 (by decide) rfl ?_
  refine g_icmpeq (t := 18) (q := 13) dX10_does_10 (by decide) rfl (fun hq10 => ?_) (fun hq10 => ?_)
  · rw [hy1] at hq10
    have hfl := flt_m1 hl hq10
    refine g_aload_n (q := 19) dX10_does_18 rfl rfl ?_
    refine g_getR (q := 22) f_X10_19 (by assumption) rfl dX10_does_19 rfl ?_
    refine g_aload_n (q := 23) dX10_does_22 rfl rfl ?_
    refine g_getR (q := 26) f_X10_10 (by assumption) rfl dX10_does_23 rfl ?_
    refine c_Vv (q := 29) (p_X3_keep hh hf (Or.inl (by omega)) hG.2.1.choose_spec hG.1) k_X10_54 (by assumption) rfl (by decide) rfl rfl (Nat.le_of_ble_eq_true rfl) rfl rfl dX10_does_26 rfl ?_
    rintro vq1 ⟨⟨nx1, hH1⟩, Fq1⟩
    have hG1 : GR vq1 x A t (h_push l (A, t)) tx c := hG.his hH1 Fq1
    have E1 : fr v vq1 x (x + 477) := Fq1.wide (by omega) (by omega)
    refine g_aload_n (q := 30) dX10_does_29 rfl rfl ?_
    refine g_getR (q := 33) f_X10_35 (by assumption) rfl dX10_does_30 rfl ?_
    refine c_Vi (q := 36) (p_X6_run hs hG1.1 hG1.2.2.1 hI hfl) k_X10_221 hrn.1 rfl (by decide) rfl rfl (Nat.le_of_ble_eq_true rfl) rfl rfl dX10_does_33 rfl ?_
    rintro z vq2 ⟨hz2, hCq2, Fq2⟩
    have hG2 : GR vq2 x (z_does A tx).2 t (h_push l (A, t)) tx c := ⟨hCq2, ⟨nx1, hH1.keep (fun a g1 g2 => Fq2 a (by omega) (by omega))⟩, hG1.2.2.1.keep (Fq2 _ (by omega) (by omega)) (Fq2 _ (by omega) (by omega)), by rw [Fq2 _ (by omega) (by omega)]; exact hG1.2.2.2⟩
    have E2 : fr v vq2 x (x + 477) := E1.tr (fun a ha => Fq2 a (by omega) (by omega))
    have iv2 : IV (z_does A tx).2 n sn := iv_run _ _ _ _ _ _ (iv_in6 hI) (ivL_in hI.1 (fun q hq => absurd hq (by simp))) (tkF_tz _ _ _ _ _ (Nat.le_refl _) hfl)
    refine g_istore_n (q := 37) dX10_does_36 rfl rfl rfl rfl ?_
    dsimp only [List.set]
    refine g_aload_n (q := 38) dX10_does_37 rfl rfl ?_
    refine g_getR (q := 41) f_X10_10 (by assumption) rfl dX10_does_38 rfl ?_
    refine c_Vv (q := 44) (p_X1_serve hf hG2.1 iv2.1 hn6 iv2.2.2.1 iv2.2.1.1) k_X10_79 (by assumption) rfl (by decide) rfl rfl (Nat.le_of_ble_eq_true rfl) rfl rfl dX10_does_41 rfl ?_
    rintro vq3 ⟨hCq3, Fq3⟩
    have hG3 := hG2.flo hCq3 Fq3
    have E3 : fr v vq3 x (x + 477) := E2.tr (Fq3.wide (by omega) (by omega))
    refine g_iload_n (q := 45) dX10_does_44 rfl rfl ?_
    refine r_i dX10_does_45 rfl rfl rfl ?_
    exact ⟨⟨fun i hi => absurd (hfl.symm.trans hi) (by simp), fun _ => ⟨hz2, hG3⟩⟩, E3⟩
  · rw [hy1] at hq10
    refine g_bipush (q := 15) (x := (-10)) dX10_does_13 (by decide) rfl ?_
    refine g_iload_n (q := 16) dX10_does_15 rfl rfl ?_
    refine g_isub (q := 17) dX10_does_16 rfl ?_
    refine r_i dX10_does_17 rfl rfl rfl ?_
    refine ⟨⟨fun i hi => ?_, fun hi => absurd (by rw [hi]; rfl) hq10⟩, fr.rf _ _ _⟩
    rw [hi] at hy1
    exact ⟨by rw [hy1]; rfl, hG⟩
