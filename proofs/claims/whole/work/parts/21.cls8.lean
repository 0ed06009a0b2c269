/-! ===== History: the states ===== -/
def hsh (σ : gj_H) (h : Nat) : Prop := σ h = some (.inl (3, [some (some (h + 1)), none, none])) ∧ σ (h + 1) = some (sh_ra 2 6 (h + 2) 55) ∧ ∀ i, i < 6 → fsh σ (h + 2 + 55 * i)
def HR (v : gj_V) (h : Nat) (l : List (aS × Int32)) (nx : Nat) : Prop := v h 1 = nI nx ∧ nx < 6 ∧ v h 2 = nI l.length ∧ l.length ≤ 6 ∧ (∀ i, i < 6 → ∃ A t, CR v (h + 2 + 55 * i) A t) ∧ ∀ (i : Nat) (p : aS × Int32), l[i]? = some p → ∃ A, agr p.1 A ∧ CR v (h + 2 + 55 * ((nx + 6 - l.length + i) % 6)) A p.2
def h_push (l : List (aS × Int32)) (p : aS × Int32) : List (aS × Int32) := if l.length < 6 then l ++ [p] else l.drop 1 ++ [p]
theorem HR.keep {v v' : gj_V} {h nx : Nat} {l : List (aS × Int32)} (H : HR v h l nx) (hf : ∀ a, h ≤ a → a < h + 332 → v' a = v a) : HR v' h l nx := by
  obtain ⟨h1, h2, h3, h4, h5, h6⟩ := H
  refine ⟨by rw [hf h (by omega) (by omega)]; exact h1, h2, by rw [hf h (by omega) (by omega)]; exact h3, h4, fun i hi => ?_, fun i p hp => ?_⟩
  · obtain ⟨A, t, hC⟩ := h5 i hi
    exact ⟨A, t, hC.keep (fun a g1 g2 => hf a (by omega) (by omega))⟩
  · obtain ⟨A, g, hC⟩ := h6 i p hp
    exact ⟨A, g, hC.keep (fun a g1 g2 => hf a (by omega) (by omega))⟩
theorem gn_rem6 {a : Nat} (h : a < 1000) : nI a - nI a / 6 * 6 = nI (a % 6) := pk_rem (d := 6) (by omega) (by omega) (by decide)
theorem h_push_len (l : List (aS × Int32)) (p : aS × Int32) (hl : l.length ≤ 6) : (h_push l p).length = min (l.length + 1) 6 := by
  unfold h_push
  split
  · simp; omega
  · simp; omega
theorem h_push_at (l : List (aS × Int32)) (p q : aS × Int32) (hl : l.length ≤ 6) (i : Nat) (h : (h_push l p)[i]? = some q) : (i + 1 = min (l.length + 1) 6 ∧ q = p) ∨ (i + 1 < min (l.length + 1) 6 ∧ l[if l.length < 6 then i else i + 1]? = some q) := by
  unfold h_push at h
  split at h
  · rename_i hl6
    rw [if_pos hl6]
    by_cases hi : i < l.length
    · rw [List.getElem?_append_left hi] at h
      exact Or.inr ⟨by omega, h⟩
    · rw [List.getElem?_append_right (by omega)] at h
      have hz := (List.getElem?_eq_some_iff.mp h).1
      simp at hz
      have : i - l.length = 0 := by omega
      rw [this] at h
      simp at h
      exact Or.inl ⟨by omega, h.symm⟩
  · rename_i hl6
    rw [if_neg hl6]
    by_cases hi : i < (l.drop 1).length
    · rw [List.getElem?_append_left hi, List.getElem?_drop, Nat.add_comm 1 i] at h
      simp at hi
      exact Or.inr ⟨by omega, h⟩
    · rw [List.getElem?_append_right (by omega)] at h
      have hz := (List.getElem?_eq_some_iff.mp h).1
      simp at hz hi
      have : i - (l.drop 1).length = 0 := by simp; omega
      rw [this] at h
      simp at h
      exact Or.inl ⟨by omega, h.symm⟩

set_option maxRecDepth 100000 in
set_option maxHeartbeats 4000000 in
theorem p_X3_keep {X : gj_X} {lim : Nat} {σ : gj_H} {v : gj_V} {h f nx : Nat} {l : List (aS × Int32)} {A : aS} {t : Int32} (hs : hsh σ h) (hf : fsh σ f) (hd : f + 55 ≤ h ∨ h + 332 ≤ f) (hH : HR v h l nx) (hC : CR v f A t) : gj_E X 3 m_X3_keep [.ref h, .ref f] lim σ v (q_v lim σ (fun v' => (∃ nx', HR v' h (h_push l (A, t)) nx') ∧ fr v v' h (h + 332))) := by
  obtain ⟨sh, sa, hq6⟩ := hs
  obtain ⟨eq1, hnx, eq2, hl, hq5, hq7⟩ := hH
  obtain ⟨A0, t0, hCo⟩ := hq5 nx hnx
  refine gj_E_at (L := [some (.ref h), some (.ref f)]) (k := 0) rfl (by decide) rfl ?_
  refine g_aload_n (q := 1) dX3_keep_0 rfl rfl ?_
  refine g_getR (q := 4) f_X3_11 (by assumption) rfl dX3_keep_1 rfl ?_
  refine g_aload_n (q := 5) dX3_keep_4 rfl rfl ?_
  refine g_getI (q := 8) f_X3_18 (by assumption) rfl dX3_keep_5 rfl ?_
  refine g_aald (q := 9) (by assumption) rfl eq1 (ra_at hnx) (by simp) dX3_keep_8 rfl ?_
  refine g_aload_n (q := 10) dX3_keep_9 rfl rfl ?_
  refine c_Vv (q := 13) (p_X1_copyFrom (hq6 nx hnx) hCo hf hC (by omega)) k_X3_22 (hq6 nx hnx).1 rfl (by decide) rfl rfl (Nat.le_of_ble_eq_true rfl) rfl rfl dX3_keep_10 rfl ?_
  rintro vq1 ⟨⟨A1, hag, hCq1⟩, Fq1⟩
  have ev : vq1 h = v h := Fq1 h (by omega)
  refine g_aload_n (q := 14) dX3_keep_13 rfl rfl ?_
  refine g_aload_n (q := 15) dX3_keep_14 rfl rfl ?_
  refine g_getI (q := 18) f_X3_18 (by assumption) rfl dX3_keep_15 rfl ?_
  refine g_iconst (q := 19) (x := 1) dX3_keep_18 (by decide) rfl ?_
  refine g_iadd (q := 20) dX3_keep_19 rfl ?_
  refine g_bipush (q := 22) (x := 6) dX3_keep_20 (by decide) rfl ?_
  refine g_irem (q := 23) dX3_keep_22 (by decide) rfl ?_
  refine g_putI (q := 26) f_X3_18 (by assumption) rfl rfl rfl dX3_keep_23 rfl ?_
  refine g_gen (fun vq2 hvq2 => ?_)
  rw [ev, eq1, show nI nx + 1 = nI (nx + 1) from nI_1 nx, gn_rem6 (by omega)] at hvq2
  refine g_aload_n (q := 27) dX3_keep_26 rfl rfl ?_
  refine g_aload_n (q := 28) dX3_keep_27 rfl rfl ?_
  refine g_getI (q := 31) f_X3_26 (by assumption) rfl dX3_keep_28 rfl ?_
  have ev2 : vq2 h 2 = nI l.length := by rw [hvq2, gu_2, gu_s, ud_n _ _ (by decide), ev]; exact eq2
  rw [ev2]
  refine g_iconst (q := 32) (x := 1) dX3_keep_31 (by decide) rfl ?_
  refine g_iadd (q := 33) dX3_keep_32 rfl ?_
  refine g_bipush (q := 35) (x := 6) dX3_keep_33 (by decide) rfl ?_
  refine g_min (q := 38) k_X3_29 (Nat.le_of_ble_eq_true rfl) (Nat.le_refl 0) (Nat.le_refl 0) dX3_keep_35 rfl ?_
  refine g_putI (q := 41) f_X3_26 (by assumption) rfl rfl rfl dX3_keep_38 rfl ?_
  refine g_gen (fun vq3 hvq3 => ?_)
  rw [show nI l.length + 1 = nI (l.length + 1) from nI_1 _, show (6 : Int32) = nI 6 from rfl, gn_min (i := l.length + 1) (j := 6) (by omega) (by omega)] at hvq3
  refine r_v dX3_keep_41 rfl rfl rfl ?_
  have fr3 : ∀ a, a ≠ h → vq3 a = vq1 a := fun a ha => by rw [hvq3, gu_2, gu_n _ _ ha, hvq2, gu_2, gu_n _ _ ha]
  refine ⟨⟨(nx + 1) % 6, ?_, by omega, ?_, ?_, fun i hi => ?_, fun i q hq => ?_⟩, fun a ha => ?_⟩
  · rw [hvq3, gu_2, gu_s, ud_n _ _ (by decide), hvq2, gu_2, gu_s, ud_s]
  · rw [hvq3, gu_2, gu_s, ud_s, h_push_len l _ hl]
  · rw [h_push_len l _ hl]; omega
  · by_cases e : i = nx
    · subst e; exact ⟨A1, t, hCq1.keep (fun a g1 g2 => fr3 a (by omega))⟩
    · obtain ⟨A2, t2, hCq2⟩ := hq5 i hi
      exact ⟨A2, t2, hCq2.keep (fun a g1 g2 => by rw [fr3 a (by omega)]; exact Fq1 a (by omega))⟩
  · rw [h_push_len l _ hl]
    rcases h_push_at l (A, t) q hl i hq with ⟨g1, rfl⟩ | ⟨g1, g2⟩
    · refine ⟨A1, hag, ?_⟩
      rw [show ((nx + 1) % 6 + 6 - min (l.length + 1) 6 + i) % 6 = nx by omega]
      exact hCq1.keep (fun a k1 k2 => fr3 a (by omega))
    · obtain ⟨A2, k1, k2⟩ := hq7 _ q g2
      refine ⟨A2, k1, ?_⟩
      have em : ((nx + 1) % 6 + 6 - min (l.length + 1) 6 + i) % 6 = (nx + 6 - l.length + (if l.length < 6 then i else i + 1)) % 6 := by split <;> omega
      have ne : (nx + 6 - l.length + (if l.length < 6 then i else i + 1)) % 6 ≠ nx := by split <;> omega
      rw [em]
      generalize (nx + 6 - l.length + (if l.length < 6 then i else i + 1)) % 6 = z at *
      exact k2.keep (fun a g3 g4 => by rw [fr3 a (by omega)]; exact Fq1 a (by omega))
  · rw [fr3 a (by omega)]; exact Fq1 a (by omega)

theorem agr.tr {A C D : aS} (h1 : agr A C) (h2 : agr C D) : agr A D := by
  obtain ⟨a1, a2, a3, a4, a5, a6, a7, a8⟩ := h1
  obtain ⟨b1, b2, b3, b4, b5, b6, b7, b8⟩ := h2
  refine ⟨fun c hc => ⟨fun k hk => ((b1 c hc).1 k hk).trans ((a1 c hc).1 k hk), fun k g1 g2 => ((b1 c hc).2.1 k g1 g2).trans ((a1 c hc).2.1 k g1 g2), (b1 c hc).2.2.1.trans (a1 c hc).2.2.1, (b1 c hc).2.2.2.trans (a1 c hc).2.2.2⟩, fun s hs k hk => (b2 s hs k hk).trans (a2 s hs k hk), fun w hw k hk => (b3 w hw k hk).trans (a3 w hw k hk), fun k hk => (b4 k hk).trans (a4 k hk), b5.trans a5, b6.trans a6, b7.trans a7, b8.trans a8⟩

set_option maxRecDepth 100000 in
set_option maxHeartbeats 4000000 in
theorem p_X3_giveBack {X : gj_X} {lim : Nat} {σ : gj_H} {v : gj_V} {h f nx : Nat} {l : List (aS × Int32)} {q : aS × Int32} {A : aS} {t : Int32} (hs : hsh σ h) (hf : fsh σ f) (hd : f + 55 ≤ h ∨ h + 332 ≤ f) (hH : HR v h (l ++ [q]) nx) (hC : CR v f A t) : gj_E X 3 m_X3_giveBack [.ref h, .ref f] lim σ v (q_v lim σ (fun v' => (∃ A', agr q.1 A' ∧ CR v' f A' q.2) ∧ (∃ nx', HR v' h l nx') ∧ ∀ a, a ≠ h → (a < f ∨ f + 55 ≤ a) → v' a = v a)) := by
  obtain ⟨sh, sa, hq6⟩ := hs
  obtain ⟨eq1, hnx, eq2, hl, hq5, hq7⟩ := hH
  refine gj_E_at (L := [some (.ref h), some (.ref f)]) (k := 0) rfl (by decide) rfl ?_
  refine g_aload_n (q := 1) dX3_giveBack_0 rfl rfl ?_
  refine g_getI (q := 4) f_X3_26 (by assumption) rfl dX3_giveBack_1 rfl ?_
  refine g_ifle (t := 46) (q := 7) dX3_giveBack_4 (by decide) rfl (fun hq4 => ?_) (fun hq4 => ?_)
  · rw [eq2] at hq4
    exact absurd (gn_le (n := (l ++ [q]).length) (k := 0) hq4 (by omega)) (by simp)
  · refine g_aload_n (q := 8) dX3_giveBack_7 rfl rfl ?_
    refine g_aload_n (q := 9) dX3_giveBack_8 rfl rfl ?_
    refine g_getI (q := 12) f_X3_18 (by assumption) rfl dX3_giveBack_9 rfl ?_
    refine g_bipush (q := 14) (x := 6) dX3_giveBack_12 (by decide) rfl ?_
    refine g_iadd (q := 15) dX3_giveBack_14 rfl ?_
    refine g_iconst (q := 16) (x := 1) dX3_giveBack_15 (by decide) rfl ?_
    refine g_isub (q := 17) dX3_giveBack_16 rfl ?_
    refine g_bipush (q := 19) (x := 6) dX3_giveBack_17 (by decide) rfl ?_
    refine g_irem (q := 20) dX3_giveBack_19 (by decide) rfl ?_
    refine g_putI (q := 23) f_X3_18 (by assumption) rfl rfl rfl dX3_giveBack_20 rfl ?_
    refine g_gen (fun vq2 hvq2 => ?_)
    rw [eq1, show (6 : Int32) = nI 6 from rfl, show (1 : Int32) = nI 1 from rfl, nI_add, pk_sub (by omega), show nI 6 = (6 : Int32) from rfl, gn_rem6 (by omega)] at hvq2
    have ev2 : vq2 h 2 = nI (l ++ [q]).length := by rw [hvq2, gu_2, gu_s, ud_n _ _ (by decide)]; exact eq2
    refine g_aload_n (q := 24) dX3_giveBack_23 rfl rfl ?_
    refine g_dup (q := 25) dX3_giveBack_24 rfl rfl ?_
    refine g_getI (q := 28) f_X3_26 (by assumption) rfl dX3_giveBack_25 rfl ?_
    refine g_iconst (q := 29) (x := 1) dX3_giveBack_28 (by decide) rfl ?_
    refine g_isub (q := 30) dX3_giveBack_29 rfl ?_
    refine g_putI (q := 33) f_X3_26 (by assumption) rfl rfl rfl dX3_giveBack_30 rfl ?_
    refine g_gen (fun vq3 hvq3 => ?_)
    rw [ev2, show (1 : Int32) = nI 1 from rfl, pk_sub (by simp), show (l ++ [q]).length - 1 = l.length from by simp] at hvq3
    have fr3 : ∀ a, a ≠ h → vq3 a = v a := fun a ha => by rw [hvq3, gu_2, gu_n _ _ ha, hvq2, gu_2, gu_n _ _ ha]
    have eq3 : vq3 h 1 = nI ((nx + 6 - 1) % 6) := by rw [hvq3, gu_2, gu_s, ud_n _ _ (by decide), hvq2, gu_2, gu_s, ud_s]
    have eq4 : vq3 h 2 = nI l.length := by rw [hvq3, gu_2, gu_s, ud_s]
    have hCq3 : CR vq3 f A t := hC.keep (fun a g1 g2 => fr3 a (by omega))
    obtain ⟨A2, k1, k2⟩ := hq7 l.length q (by simp)
    rw [show (nx + 6 - (l ++ [q]).length + l.length) % 6 = (nx + 6 - 1) % 6 from by simp at hl ⊢; omega] at k2
    have k3 : CR vq3 (h + 2 + 55 * ((nx + 6 - 1) % 6)) A2 q.2 := k2.keep (fun a g1 g2 => fr3 a (by omega))
    refine g_aload_n (q := 34) dX3_giveBack_33 rfl rfl ?_
    refine g_aload_n (q := 35) dX3_giveBack_34 rfl rfl ?_
    refine g_getR (q := 38) f_X3_11 (by assumption) rfl dX3_giveBack_35 rfl ?_
    refine g_aload_n (q := 39) dX3_giveBack_38 rfl rfl ?_
    refine g_getI (q := 42) f_X3_18 (by assumption) rfl dX3_giveBack_39 rfl ?_
    refine g_aald (q := 43) (by assumption) rfl eq3 (ra_at (show (nx + 6 - 1) % 6 < 6 by omega)) (by simp) dX3_giveBack_42 rfl ?_
    refine c_Vv (q := 46) (p_X1_copyFrom hf hCq3 (hq6 ((nx + 6 - 1) % 6) (by omega)) k3 (by omega)) k_X3_22 hf.1 rfl (by decide) rfl rfl (Nat.le_of_ble_eq_true rfl) rfl rfl dX3_giveBack_43 rfl ?_
    rintro vq4 ⟨⟨A4, hag, hCq4⟩, Fq4⟩
    refine r_v dX3_giveBack_46 rfl rfl rfl ?_
    refine ⟨⟨A4, agr.tr k1 hag, hCq4⟩, ⟨(nx + 6 - 1) % 6, ?_, by omega, ?_, by simp at hl; omega, fun i hi => ?_, fun i p hp => ?_⟩, fun a ha1 ha2 => ?_⟩
    · rw [Fq4 h (by omega)]; exact eq3
    · rw [Fq4 h (by omega)]; exact eq4
    · obtain ⟨B1, t1, c1⟩ := hq5 i hi
      exact ⟨B1, t1, c1.keep (fun a g1 g2 => by rw [Fq4 a (by omega)]; exact fr3 a (by omega))⟩
    · have hil := (List.getElem?_eq_some_iff.mp hp).1
      obtain ⟨B1, c0, c1⟩ := hq7 i p (by rw [List.getElem?_append_left hil]; exact hp)
      refine ⟨B1, c0, ?_⟩
      rw [show (nx + 6 - (l ++ [q]).length + i) % 6 = ((nx + 6 - 1) % 6 + 6 - l.length + i) % 6 from by simp at hl ⊢; omega] at c1
      exact c1.keep (fun a g1 g2 => by rw [Fq4 a (by omega)]; exact fr3 a (by omega))
    · rw [Fq4 a ha2]; exact fr3 a ha1

/-! ===== ItemsAhead ===== -/
def ish (σ : gj_H) (q : Nat) : Prop := σ q = some (.inl (4, [some (some (q + 1))])) ∧ σ (q + 1) = some (sh_ra 4 6 (q + 2) 2) ∧ ∀ b, b < 6 → rsh σ (q + 2 + 2 * b)
def IR (v : gj_V) (q : Nat) (ls : Nat → List Int32) : Prop := ∀ b, b < 6 → rr v (q + 2 + 2 * b) (ls b)
theorem IR.keep {v v' : gj_V} {q : Nat} {ls : Nat → List Int32} (h : IR v q ls) (hf : ∀ a, q ≤ a → a < q + 14 → v' a = v a) : IR v' q ls := fun b hb => (h b hb).keep (hf _ (by omega) (by omega)) (hf _ (by omega) (by omega))
def a_res (A : aS) (n : Nat) (ls : Nat → List Int32) : aS := (A.1, fun i => if i < n then ls i else A.2 i)
theorem a_res_s (A : aS) (n : Nat) (ls : Nat → List Int32) : sL (a_res A n ls) n (ls n) = a_res A (n + 1) ls := by
  simp only [sL, a_res]
  congr 1
  funext i
  by_cases h : i = n
  · subst h; rw [vu_s, if_pos (by omega)]
  · rw [vu_n _ _ h]
    by_cases h2 : i < n
    · rw [if_pos h2, if_pos (by omega)]
    · rw [if_neg h2, if_neg (by omega)]
theorem a_res_0 (A : aS) (ls : Nat → List Int32) : a_res A 0 ls = A := by simp [a_res]

set_option maxRecDepth 100000 in
set_option maxHeartbeats 4000000 in
theorem p_X4_keep {X : gj_X} {lim : Nat} {σ : gj_H} {v : gj_V} {q f : Nat} {A : aS} {t : Int32} (hs : ish σ q) (hf : fsh σ f) (hd : f + 55 ≤ q ∨ q + 14 ≤ f) (hC : CR v f A t) : gj_E X 1 m_X4_keep [.ref q, .ref f] lim σ v (q_v lim σ (fun v' => IR v' q A.2 ∧ fr v v' q (q + 14))) := by
  obtain ⟨sq, sr, hq6⟩ := hs
  obtain ⟨sf, sb, ss, sw, sl, sm, hb6, hs6, hw6⟩ := id hf
  have lp : ∀ (k : Nat) (b : Nat) (w : gj_V), fr v w q (q + 14) → (∀ c, c < b → rr w (q + 2 + 2 * c) (A.2 c)) → b + k = 6 → gj_G X 1 m_X4_keep (q_v lim σ (fun v' => IR v' q A.2 ∧ fr v v' q (q + 14))) lim σ w 0 0 2 [some (.ref q), some (.ref f), some (.int (nI b))] [] := by
    intro k
    induction k with
    | zero =>
      intro b w Gw hI hk
      refine g_iload_n (q := 3) dX4_keep_2 rfl rfl ?_
      refine g_bipush (q := 5) (x := 6) dX4_keep_3 (by decide) rfl ?_
      refine g_icmpge (t := 32) (q := 8) dX4_keep_5 (by decide) rfl (fun hq5 => ?_) (fun hq5 => ?_)
      · refine r_v dX4_keep_32 rfl rfl rfl ?_
        exact ⟨fun c hc => hI c (by omega), Gw⟩
      · exact absurd (nI_le (show 6 ≤ b by omega) (by omega)) hq5
    | succ k ih =>
      intro b w Gw hI hk
      have hCw : CR w f A t := hC.keep (fun a hq1 hq2 => Gw a (by omega))
      refine g_iload_n (q := 3) dX4_keep_2 rfl rfl ?_
      refine g_bipush (q := 5) (x := 6) dX4_keep_3 (by decide) rfl ?_
      refine g_icmpge (t := 32) (q := 8) dX4_keep_5 (by decide) rfl (fun hq5 => ?_) (fun hq5 => ?_)
      · exact absurd (gn_le (n := 6) hq5 (by decide)) (by omega)
      · refine g_aload_n (q := 9) dX4_keep_8 rfl rfl ?_
        refine g_getR (q := 12) f_X4_11 (by assumption) rfl dX4_keep_9 rfl ?_
        refine g_iload_n (q := 13) dX4_keep_12 rfl rfl ?_
        refine g_aald (q := 14) (by assumption) rfl rfl (ra_at (show b < 6 by omega)) (by simp) dX4_keep_13 rfl ?_
        refine g_aload_n (q := 15) dX4_keep_14 rfl rfl ?_
        refine g_getR (q := 18) f_X4_18 (by assumption) rfl dX4_keep_15 rfl ?_
        refine g_iload_n (q := 19) dX4_keep_18 rfl rfl ?_
        refine g_aald (q := 20) (by assumption) rfl rfl (ra_at (show b < 6 by omega)) (by simp) dX4_keep_19 rfl ?_
        refine g_getR (q := 23) f_X4_24 (hb6 b (by omega)).1 rfl dX4_keep_20 rfl ?_
        refine c_Vv (q := 26) (p_X5_copyFrom (hq6 b (by omega)) (hb6 b (by omega)).2.2.1 (hCw.2.2.1 b (by omega)).2.2.1 ⟨by omega, by omega, by omega⟩) k_X4_30 (hq6 b (by omega)).1 rfl (by decide) rfl rfl (Nat.le_of_ble_eq_true rfl) rfl rfl dX4_keep_23 rfl ?_
        rintro w1 ⟨hrq1, hfq1⟩
        have G1 : fr v w1 q (q + 14) := Gw.tr (hfq1.fr (by omega) (by omega))
        refine g_iinc (q := 29) (y := nI (b + 1)) dX4_keep_26 rfl (gn_inc b) rfl rfl rfl rfl ?_
        dsimp only [List.set]
        refine g_goto (q := 2) dX4_keep_29 (by decide) ?_
        refine ih (b + 1) w1 G1 (fun c hc => ?_) (by omega)
        by_cases e : c = b
        · subst e; exact hrq1
        · exact (hI c (by omega)).keep (hfq1 _ (by omega) (by omega)) (hfq1 _ (by omega) (by omega))
  refine gj_E_at (L := [some (.ref q), some (.ref f), none]) (k := 1) rfl (by decide) rfl ?_
  refine g_iconst (q := 1) (x := 0) dX4_keep_0 (by decide) rfl ?_
  refine g_istore_n (q := 2) dX4_keep_1 rfl rfl rfl rfl ?_
  dsimp only [List.set]
  exact lp 6 0 v (fr.rf _ _ _) (fun c hc => by omega) (by omega)

set_option maxRecDepth 100000 in
set_option maxHeartbeats 4000000 in
theorem p_X4_giveBack {X : gj_X} {lim : Nat} {σ : gj_H} {v : gj_V} {q f : Nat} {A : aS} {t : Int32} (hs : ish σ q) (hf : fsh σ f) (hd : f + 55 ≤ q ∨ q + 14 ≤ f) {ls : Nat → List Int32} (hC : CR v f A t) (hI : IR v q ls) : gj_E X 1 m_X4_giveBack [.ref q, .ref f] lim σ v (q_v lim σ (fun v' => CR v' f (a_res A 6 ls) t ∧ fr v v' f (f + 55))) := by
  obtain ⟨sq, sr, hq6⟩ := hs
  obtain ⟨sf, sb, ss, sw, sl, sm, hb6, hs6, hw6⟩ := id hf
  have lp : ∀ (k : Nat) (b : Nat) (w : gj_V), CR w f (a_res A b ls) t → fr v w f (f + 55) → b + k = 6 → gj_G X 1 m_X4_giveBack (q_v lim σ (fun v' => CR v' f (a_res A 6 ls) t ∧ fr v v' f (f + 55))) lim σ w 0 0 2 [some (.ref q), some (.ref f), some (.int (nI b))] [] := by
    intro k
    induction k with
    | zero =>
      intro b w hCw Gw hk
      refine g_iload_n (q := 3) dX4_giveBack_2 rfl rfl ?_
      refine g_bipush (q := 5) (x := 6) dX4_giveBack_3 (by decide) rfl ?_
      refine g_icmpge (t := 32) (q := 8) dX4_giveBack_5 (by decide) rfl (fun hq5 => ?_) (fun hq5 => ?_)
      · refine r_v dX4_giveBack_32 rfl rfl rfl ?_
        rw [show b = 6 by omega] at hCw
        exact ⟨hCw, Gw⟩
      · exact absurd (nI_le (show 6 ≤ b by omega) (by omega)) hq5
    | succ k ih =>
      intro b w hCw Gw hk
      have hIw : IR w q ls := hI.keep (fun a hq1 hq2 => Gw a (by omega))
      refine g_iload_n (q := 3) dX4_giveBack_2 rfl rfl ?_
      refine g_bipush (q := 5) (x := 6) dX4_giveBack_3 (by decide) rfl ?_
      refine g_icmpge (t := 32) (q := 8) dX4_giveBack_5 (by decide) rfl (fun hq5 => ?_) (fun hq5 => ?_)
      · exact absurd (gn_le (n := 6) hq5 (by decide)) (by omega)
      · refine g_aload_n (q := 9) dX4_giveBack_8 rfl rfl ?_
        refine g_getR (q := 12) f_X4_18 (by assumption) rfl dX4_giveBack_9 rfl ?_
        refine g_iload_n (q := 13) dX4_giveBack_12 rfl rfl ?_
        refine g_aald (q := 14) (by assumption) rfl rfl (ra_at (show b < 6 by omega)) (by simp) dX4_giveBack_13 rfl ?_
        refine g_getR (q := 17) f_X4_24 (hb6 b (by omega)).1 rfl dX4_giveBack_14 rfl ?_
        refine g_aload_n (q := 18) dX4_giveBack_17 rfl rfl ?_
        refine g_getR (q := 21) f_X4_11 (by assumption) rfl dX4_giveBack_18 rfl ?_
        refine g_iload_n (q := 22) dX4_giveBack_21 rfl rfl ?_
        refine g_aald (q := 23) (by assumption) rfl rfl (ra_at (show b < 6 by omega)) (by simp) dX4_giveBack_22 rfl ?_
        refine c_Vv (q := 26) (p_X5_copyFrom (hb6 b (by omega)).2.2.1 (hq6 b (by omega)) (hIw b (by omega)) ⟨by omega, by omega, by omega⟩) k_X4_30 (hb6 b (by omega)).2.2.1.1 rfl (by decide) rfl rfl (Nat.le_of_ble_eq_true rfl) rfl rfl dX4_giveBack_23 rfl ?_
        rintro w1 ⟨hrq1, hfq1⟩
        have hCq1 := hCw.buf (show b < 6 by omega) ((hCw.2.2.1 b (by omega)).it hrq1 hfq1) (hfq1.fr (by omega) (by omega))
        rw [sB_items _ _ _ (by omega), a_res_s] at hCq1
        have G1 : fr v w1 f (f + 55) := Gw.tr (hfq1.fr (by omega) (by omega))
        refine g_iinc (q := 29) (y := nI (b + 1)) dX4_giveBack_26 rfl (gn_inc b) rfl rfl rfl rfl ?_
        dsimp only [List.set]
        refine g_goto (q := 2) dX4_giveBack_29 (by decide) ?_
        exact ih (b + 1) w1 hCq1 G1 (by omega)
  refine gj_E_at (L := [some (.ref q), some (.ref f), none]) (k := 1) rfl (by decide) rfl ?_
  refine g_iconst (q := 1) (x := 0) dX4_giveBack_0 (by decide) rfl ?_
  refine g_istore_n (q := 2) dX4_giveBack_1 rfl rfl rfl rfl ?_
  dsimp only [List.set]
  exact lp 6 0 v (by rw [a_res_0]; exact hC) (fr.rf _ _ _) (by omega)

/-! ===== Text ===== -/
def tsh (σ : gj_H) (x : Nat) : Prop := σ x = some (.inl (8, [some (some (x + 1)), none])) ∧ σ (x + 1) = some (sh_i 120)
def TR (v : gj_V) (x : Nat) (l : List Int32) : Prop := v x 1 = nI l.length ∧ l.length ≤ 120 ∧ ∀ i, i < l.length → v (x + 1) i = l.getD i 0
theorem TR.keep {v v' : gj_V} {x : Nat} {l : List Int32} (h : TR v x l) (h1 : v' x = v x) (h2 : v' (x + 1) = v (x + 1)) : TR v' x l := by
  unfold TR at *
  rw [h1, h2]; exact h

set_option maxRecDepth 100000 in
set_option maxHeartbeats 4000000 in
theorem p_X8_isFull {X : gj_X} {lim : Nat} {σ : gj_H} {v : gj_V} {r : Nat} {l : List Int32} (hs : tsh σ r) (hr : TR v r l) : gj_E X 0 m_X8_isFull [.ref r] lim σ v (q_i lim σ (fun x v' => x = (if 120 ≤ l.length then 1 else 0) ∧ v' = v)) := by
  obtain ⟨hs1, hs2⟩ := hs
  obtain ⟨eq1, eq2, eq3⟩ := id hr
  refine gj_E_at (L := [some (.ref r)]) (k := 0) rfl (by decide) rfl ?_
  refine g_aload_n (q := 1) dX8_isFull_0 rfl rfl ?_
  refine g_getI (q := 4) f_X8_15 (by assumption) rfl dX8_isFull_1 rfl ?_
  refine g_bipush (q := 6) (x := 120) dX8_isFull_4 (by decide) rfl ?_
  refine g_icmplt (t := 13) (q := 9) dX8_isFull_6 (by decide) rfl (fun hq6 => ?_) (fun hq6 => ?_)
  · rw [eq1] at hq6
    refine g_iconst (q := 14) (x := 0) dX8_isFull_13 (by decide) rfl ?_
    refine r_z dX8_isFull_14 rfl rfl rfl (by decide) ?_
    refine ⟨?_, rfl⟩
    first | (rw [if_neg (fun h => nI_nlt (a := l.length) (b := 120) h (by omega) hq6)]; done) | (rw [if_pos (Nat.le_of_not_lt fun h => hq6 (nI_lt h (by decide)))]; done)
  · rw [eq1] at hq6
    refine g_iconst (q := 10) (x := 1) dX8_isFull_9 (by decide) rfl ?_
    refine g_goto (q := 14) dX8_isFull_10 (by decide) ?_
    refine r_z dX8_isFull_14 rfl rfl rfl (by decide) ?_
    refine ⟨?_, rfl⟩
    first | (rw [if_neg (fun h => nI_nlt (a := l.length) (b := 120) h (by omega) hq6)]; done) | (rw [if_pos (Nat.le_of_not_lt fun h => hq6 (nI_lt h (by decide)))]; done)

set_option maxRecDepth 100000 in
set_option maxHeartbeats 4000000 in
theorem p_X8_add {X : gj_X} {lim : Nat} {σ : gj_H} {v : gj_V} {r : Nat} {l : List Int32} (hs : tsh σ r) (hr : TR v r l) {x : Int32} (hl : l.length < 120) : gj_E X 1 m_X8_add [.ref r, .int x] lim σ v (q_v lim σ (fun v' => TR v' r (l ++ [x]) ∧ fr2 v v' r)) := by
  obtain ⟨hs1, hs2⟩ := hs
  obtain ⟨eq1, eq2, eq3⟩ := id hr
  refine gj_E_at (L := [some (.ref r), some (.int x)]) (k := 0) rfl (by decide) rfl ?_
  refine g_aload_n (q := 1) dX8_add_0 rfl rfl ?_
  refine c_Vi (q := 4) (p_X8_isFull ⟨hs1, hs2⟩ hr) k_X8_19 (by assumption) rfl (by decide) rfl rfl (Nat.le_of_ble_eq_true rfl) rfl rfl dX8_add_1 rfl ?_
  rintro z vq1 ⟨rfl, hvq1⟩
  subst vq1
  refine g_ifne (t := 27) (q := 7) dX8_add_4 (by decide) rfl (fun hq4 => ?_) (fun hq4 => ?_)
  · exact absurd (gn_b1 hq4) (by omega)
  · refine g_aload_n (q := 8) dX8_add_7 rfl rfl ?_
    refine g_getR (q := 11) f_X8_9 (by assumption) rfl dX8_add_8 rfl ?_
    refine g_aload_n (q := 12) dX8_add_11 rfl rfl ?_
    refine g_getI (q := 15) f_X8_15 (by assumption) rfl dX8_add_12 rfl ?_
    refine g_iload_n (q := 16) dX8_add_15 rfl rfl ?_
    refine g_iast (q := 17) (by assumption) eq1 hl (by decide) dX8_add_16 rfl ?_
    refine g_aload_n (q := 18) dX8_add_17 rfl rfl ?_
    refine g_dup (q := 19) dX8_add_18 rfl rfl ?_
    refine g_getI (q := 22) f_X8_15 (by assumption) rfl dX8_add_19 rfl ?_
    refine g_iconst (q := 23) (x := 1) dX8_add_22 (by decide) rfl ?_
    refine g_iadd (q := 24) dX8_add_23 rfl ?_
    refine g_putI (q := 27) f_X8_15 (by assumption) rfl rfl rfl dX8_add_24 rfl ?_
    refine r_v dX8_add_27 rfl rfl rfl ?_
    refine ⟨⟨?_, by simp; omega, fun i hi => ?_⟩, fun a hq1 hq2 => ?_⟩
    · simp [gu_2, gu_s, gu_n, ud_s, eq1, nI_1]
    · rw [gd_app l x i (by simpa using hi)]
      simp only [gu_2]
      rw [gu_n _ _ (by omega), gu_s]
      by_cases e : i = l.length
      · subst e; simp [ud_s]
      · rw [ud_n _ _ e, if_neg e]; exact eq3 i (by simp at hi; omega)
    · simp only [gu_2]
      rw [gu_n _ _ hq1, gu_n _ _ hq2]

set_option maxRecDepth 100000 in
set_option maxHeartbeats 4000000 in
theorem p_X8_at {X : gj_X} {lim : Nat} {σ : gj_H} {v : gj_V} {r : Nat} {l : List Int32} (hs : tsh σ r) (hr : TR v r l) {i : Int32} : gj_E X 0 m_X8_at [.ref r, .int i] lim σ v (q_i lim σ (fun x v' => x = l_at l i ∧ v' = v)) := by
  obtain ⟨hs1, hs2⟩ := hs
  obtain ⟨eq1, eq2, eq3⟩ := id hr
  refine gj_E_at (L := [some (.ref r), some (.int i)]) (k := 0) rfl (by decide) rfl ?_
  refine g_iload_n (q := 1) dX8_at_0 rfl rfl ?_
  refine g_iflt (t := 21) (q := 4) dX8_at_1 (by decide) rfl (fun hq1 => ?_) (fun hq1 => ?_)
  · refine g_iconst (q := 22) (x := (-1)) dX8_at_21 (by decide) rfl ?_
    refine r_i dX8_at_22 rfl rfl rfl ?_
    refine ⟨?_, rfl⟩
    first | (rw [l_at, if_pos hq1]; done) | (rw [l_at, if_neg hq1, if_pos hq9]; done) | (rw [l_at, if_neg hq1, if_neg hq9, nI_clamp (by omega)]; exact eq3 j hj)
  · refine g_iload_n (q := 5) dX8_at_4 rfl rfl ?_
    refine g_aload_n (q := 6) dX8_at_5 rfl rfl ?_
    refine g_getI (q := 9) f_X8_15 (by assumption) rfl dX8_at_6 rfl ?_
    refine g_icmpge (t := 21) (q := 12) dX8_at_9 (by decide) rfl (fun hq9 => ?_) (fun hq9 => ?_)
    · rw [eq1] at hq9
      refine g_iconst (q := 22) (x := (-1)) dX8_at_21 (by decide) rfl ?_
      refine r_i dX8_at_22 rfl rfl rfl ?_
      refine ⟨?_, rfl⟩
      first | (rw [l_at, if_pos hq1]; done) | (rw [l_at, if_neg hq1, if_pos hq9]; done) | (rw [l_at, if_neg hq1, if_neg hq9, nI_clamp (by omega)]; exact eq3 j hj)
    · rw [eq1] at hq9
      obtain ⟨j, hj, rfl⟩ := gn_ix (by omega) hq1 hq9
      refine g_aload_n (q := 13) dX8_at_12 rfl rfl ?_
      refine g_getR (q := 16) f_X8_9 (by assumption) rfl dX8_at_13 rfl ?_
      refine g_iload_n (q := 17) dX8_at_16 rfl rfl ?_
      refine g_iald (q := 18) (by assumption) rfl (Nat.lt_of_lt_of_le hj eq2) (by decide) dX8_at_17 rfl ?_
      refine g_goto (q := 22) dX8_at_18 (by decide) ?_
      refine r_i dX8_at_22 rfl rfl rfl ?_
      refine ⟨?_, rfl⟩
      first | (rw [l_at, if_pos hq1]; done) | (rw [l_at, if_neg hq1, if_pos hq9]; done) | (rw [l_at, if_neg hq1, if_neg hq9, nI_clamp (by omega)]; exact eq3 j hj)
