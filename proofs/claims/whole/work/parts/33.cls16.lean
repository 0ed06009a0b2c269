/-! ===== Runner ===== -/
abbrev stk : Type := List ((Nat → List Int32) × Int32)
def RN (v : gj_V) (x : Nat) (A : aS) (t : Int32) (tx : List Int32) (p : Nat) (s : stk) (d c : Int32) : Prop :=
  CR v (x + 1) A t ∧ TR v (x + 388) tx ∧ v (x + 390) 4 = nI p ∧ v (x + 390) 5 = nI s.length - 1 ∧ v (x + 390) 6 = d ∧ v (x + 390) 7 = c ∧ s.length ≤ 5 ∧ ∀ (j : Nat) (q : (Nat → List Int32) × Int32), s.reverse[j]? = some q → IR v (x + 390 + 3 + 14 * j) q.1 ∧ v (x + 390 + 2) j = q.2
def fx (v v' : gj_V) (x : Nat) : Prop := ∀ a, (a < x + 1 ∨ x + 56 ≤ a) → (a < x + 390 ∨ x + 463 ≤ a) → v' a = v a
theorem fx.rf (v : gj_V) (x : Nat) : fx v v x := fun _ _ _ => rfl
theorem fx.tr {v v1 v2 : gj_V} {x : Nat} (h1 : fx v v1 x) (h2 : fx v1 v2 x) : fx v v2 x := fun a g1 g2 => (h2 a g1 g2).trans (h1 a g1 g2)
theorem rv_lt {s : stk} {j : Nat} {q : (Nat → List Int32) × Int32} (h : s.reverse[j]? = some q) : j < s.length := by
  have := (List.getElem?_eq_some_iff.mp h).1
  simpa using this
theorem RN.pl {v : gj_V} {x p : Nat} {A : aS} {t d c : Int32} {tx : List Int32} {s : stk} (h : RN v x A t tx p s d c) (k : Nat) (z : Int32) (hk : 4 ≤ k) :
    CR (gj_up2 v (x + 390) k z) (x + 1) A t ∧ TR (gj_up2 v (x + 390) k z) (x + 388) tx ∧ (∀ (j : Nat) (q : (Nat → List Int32) × Int32), s.reverse[j]? = some q → IR (gj_up2 v (x + 390) k z) (x + 390 + 3 + 14 * j) q.1 ∧ gj_up2 v (x + 390) k z (x + 390 + 2) j = q.2) ∧ fx v (gj_up2 v (x + 390) k z) x ∧ ∀ m, gj_up2 v (x + 390) k z (x + 390) m = upd (v (x + 390)) k z m := by
  obtain ⟨h1, h2, h3, h4, h5, h6, h7, h8⟩ := h
  refine ⟨h1.keep (fun a g1 g2 => gu_n _ _ (by omega)), h2.keep (gu_n _ _ (by omega)) (gu_n _ _ (by omega)), fun j q hj => ?_, fun a g1 g2 => gu_n _ _ (by omega), fun m => by rw [gu_2, gu_s]⟩
  obtain ⟨e1, e2⟩ := h8 j q hj
  exact ⟨e1.keep (fun a g1 g2 => gu_n _ _ (by omega)), by rw [gu_2, gu_n _ _ (by omega)]; exact e2⟩
theorem RN.f4 {v : gj_V} {x p p' : Nat} {A : aS} {t d c : Int32} {tx : List Int32} {s : stk} {z : Int32} (h : RN v x A t tx p s d c) (e : z = nI p') : RN (gj_up2 v (x + 390) 4 z) x A t tx p' s d c := by
  obtain ⟨k1, k2, k3, k4, k5⟩ := h.pl 4 z (by omega)
  obtain ⟨h1, h2, h3, h4, h5, h6, h7, h8⟩ := h
  exact ⟨k1, k2, by rw [k5, ud_s, e], by rw [k5, ud_n _ _ (by decide)]; exact h4, by rw [k5, ud_n _ _ (by decide)]; exact h5, by rw [k5, ud_n _ _ (by decide)]; exact h6, h7, k3⟩
theorem RN.f6 {v : gj_V} {x p : Nat} {A : aS} {t d c : Int32} {tx : List Int32} {s : stk} (h : RN v x A t tx p s d c) (z : Int32) : RN (gj_up2 v (x + 390) 6 z) x A t tx p s z c := by
  obtain ⟨k1, k2, k3, k4, k5⟩ := h.pl 6 z (by omega)
  obtain ⟨h1, h2, h3, h4, h5, h6, h7, h8⟩ := h
  exact ⟨k1, k2, by rw [k5, ud_n _ _ (by decide)]; exact h3, by rw [k5, ud_n _ _ (by decide)]; exact h4, by rw [k5, ud_s], by rw [k5, ud_n _ _ (by decide)]; exact h6, h7, k3⟩
theorem RN.f7 {v : gj_V} {x p : Nat} {A : aS} {t d c : Int32} {tx : List Int32} {s : stk} (h : RN v x A t tx p s d c) (z : Int32) : RN (gj_up2 v (x + 390) 7 z) x A t tx p s d z := by
  obtain ⟨k1, k2, k3, k4, k5⟩ := h.pl 7 z (by omega)
  obtain ⟨h1, h2, h3, h4, h5, h6, h7, h8⟩ := h
  exact ⟨k1, k2, by rw [k5, ud_n _ _ (by decide)]; exact h3, by rw [k5, ud_n _ _ (by decide)]; exact h4, by rw [k5, ud_n _ _ (by decide)]; exact h5, by rw [k5, ud_s], h7, k3⟩
/-- the floor changes alone -/
theorem RN.flo {v v' : gj_V} {x p : Nat} {A A' : aS} {t t' d c : Int32} {tx : List Int32} {s : stk} (h : RN v x A t tx p s d c) (hC : CR v' (x + 1) A' t') (hf : fr v v' (x + 1) (x + 1 + 55)) : RN v' x A' t' tx p s d c := by
  obtain ⟨h1, h2, h3, h4, h5, h6, h7, h8⟩ := h
  have e := hf (x + 390) (by omega)
  refine ⟨hC, h2.keep (hf _ (by omega)) (hf _ (by omega)), by rw [e]; exact h3, by rw [e]; exact h4, by rw [e]; exact h5, by rw [e]; exact h6, h7, fun j q hj => ?_⟩
  obtain ⟨e1, e2⟩ := h8 j q hj
  exact ⟨e1.keep (fun a g1 g2 => hf a (by omega)), by rw [hf _ (by omega)]; exact e2⟩
theorem fr.fx {v v' : gj_V} {x : Nat} (h : fr v v' (x + 1) (x + 1 + 55)) : fx v v' x := fun a g1 g2 => h a (by omega)
theorem rl_lt {k : Nat} (h : k ≤ 4) : ¬ (4 : Int32) ≤ nI k - 1 := by
  rcases (show k = 0 ∨ k = 1 ∨ k = 2 ∨ k = 3 ∨ k = 4 by omega) with rfl | rfl | rfl | rfl | rfl <;> decide
theorem rl_s {k : Nat} : nI (k + 1) - 1 = nI k := by rw [← nI_1, Int32.add_sub_cancel]
theorem rl_p {k : Nat} : nI k - 1 + 1 = nI k := Int32.sub_add_cancel _ _
theorem rl_0 {k : Nat} (h : k < 100) : ¬ nI (k + 1) - 1 < 0 := by rw [rl_s]; exact nI_pos (by omega)
theorem rv_s (s : stk) (q : (Nat → List Int32) × Int32) (j : Nat) (z : (Nat → List Int32) × Int32) (h : (q :: s).reverse[j]? = some z) : (j < s.length ∧ s.reverse[j]? = some z) ∨ (j = s.length ∧ z = q) := by
  have hl := rv_lt h
  rw [List.reverse_cons] at h
  simp only [List.length_cons] at hl
  by_cases e : j < s.length
  · rw [List.getElem?_append_left (by simpa using e)] at h
    exact Or.inl ⟨e, h⟩
  · have ej : j = s.length := by omega
    subst ej
    rw [List.getElem?_append_right (by simp)] at h
    simp at h
    exact Or.inr ⟨rfl, h.symm⟩
theorem rv_t (s : stk) (q : (Nat → List Int32) × Int32) : (q :: s).reverse[s.length]? = some q := by
  rw [List.reverse_cons, List.getElem?_append_right (by simp)]
  simp
theorem rv_i (s : stk) (q : (Nat → List Int32) × Int32) (j : Nat) (z : (Nat → List Int32) × Int32) (h : s.reverse[j]? = some z) : (q :: s).reverse[j]? = some z := by
  rw [List.reverse_cons, List.getElem?_append_left (by simpa using rv_lt h)]
  exact h

set_option maxRecDepth 100000 in
set_option maxHeartbeats 4000000 in
theorem p_X6_nextByte {X : gj_X} {lim : Nat} {σ : gj_H} {v : gj_V} {x p : Nat} {A : aS} {t d c : Int32} {tx : List Int32} {s : stk} (hs : gsh σ x) (hN : RN v x A t tx p s d c)  : gj_E X 1 m_X6_nextByte [.ref (x + 390)] lim σ v (q_i lim σ (fun z v' => z = l_at tx (nI p) ∧ RN v' x A t tx (p + 1) s d c ∧ fx v v' x)) := by
  obtain ⟨sx, hf, hh, ht, hrn, hia⟩ := id hs
  have sr := hrn.1
  have sa := hrn.2.1
  have si := hrn.2.2.1
  have hi5 := hrn.2.2.2
  have ht1 := ht.1
  have sf := hf.1
  have sm := hf.2.2.2.2.2.1
  refine gj_E_at (L := [some (.ref (x + 390)), none]) (k := 1) rfl (by decide) rfl ?_
  refine g_aload_n (q := 1) dX6_nextByte_0 rfl rfl ?_
  refine g_getR (q := 4) f_X6_21 (by assumption) rfl dX6_nextByte_1 rfl ?_
  refine g_aload_n (q := 5) dX6_nextByte_4 rfl rfl ?_
  refine g_getI (q := 8) f_X6_30 (by assumption) rfl dX6_nextByte_5 rfl ?_
  rw [hN.2.2.1]
  refine c_Vi (q := 11) (p_X8_at ht hN.2.1) k_X6_116 ht1 rfl (by decide) rfl rfl (Nat.le_of_ble_eq_true rfl) rfl rfl dX6_nextByte_8 rfl ?_
  rintro y w1 ⟨rfl, hw1⟩
  subst w1
  refine g_istore_n (q := 12) dX6_nextByte_11 rfl rfl rfl rfl ?_
  dsimp only [List.set]
  refine g_aload_n (q := 13) dX6_nextByte_12 rfl rfl ?_
  refine g_dup (q := 14) dX6_nextByte_13 rfl rfl ?_
  refine g_getI (q := 17) f_X6_30 (by assumption) rfl dX6_nextByte_14 rfl ?_
  refine g_iconst (q := 18) (x := 1) dX6_nextByte_17 (by decide) rfl ?_
  refine g_iadd (q := 19) dX6_nextByte_18 rfl ?_
  refine g_putI (q := 22) f_X6_30 (by assumption) rfl rfl rfl dX6_nextByte_19 rfl ?_
  refine g_gen (fun vq1 hvq1 => ?_)
  have hN1 : RN vq1 x A t tx (p + 1) s d c := by rw [hvq1]; exact hN.f4 (by rw [hN.2.2.1, nI_1])
  have E1 : fx v vq1 x := by rw [hvq1]; exact (hN.pl 4 _ (by omega)).2.2.2.1
  refine g_iload_n (q := 23) dX6_nextByte_22 rfl rfl ?_
  refine r_i dX6_nextByte_23 rfl rfl rfl ?_
  exact ⟨rfl, hN1, E1⟩

set_option maxRecDepth 100000 in
set_option maxHeartbeats 4000000 in
theorem p_X6_nextFigure {X : gj_X} {lim : Nat} {σ : gj_H} {v : gj_V} {x p : Nat} {A : aS} {t d c : Int32} {tx : List Int32} {s : stk} (hs : gsh σ x) (hN : RN v x A t tx p s d c) {r : List Int32} {i g f : Nat} {e : Bool} (hd : tx.drop p = r) (hp : p ≤ tx.length) (hfl : flt r i g (f + 1) e = none) : gj_E X 2 m_X6_nextFigure [.ref (x + 390)] lim σ v (q_i lim σ (fun z v' => z = (nf r).1 ∧ ∃ p', tx.drop p' = (nf r).2 ∧ p' ≤ tx.length ∧ RN v' x A t tx p' s d c ∧ fx v v' x)) := by
  obtain ⟨sx, hf, hh, ht, hrn, hia⟩ := id hs
  have sr := hrn.1
  have sa := hrn.2.1
  have si := hrn.2.2.1
  have hi5 := hrn.2.2.2
  have ht1 := ht.1
  have sf := hf.1
  have sm := hf.2.2.2.2.2.1
  have hl := hN.2.1.2.1
  have lp : ∀ (r : List Int32) (p i : Nat) (e : Bool) (w : gj_V), RN w x A t tx p s d c → fx v w x → tx.drop p = r → p ≤ tx.length → flt r i g (f + 1) e = none → gj_G X 2 m_X6_nextFigure (q_i lim σ (fun z v' => z = (nf r).1 ∧ ∃ p', tx.drop p' = (nf r).2 ∧ p' ≤ tx.length ∧ RN v' x A t tx p' s d c ∧ fx v v' x)) lim σ w 0 0 0 [some (.ref (x + 390))] [] := by
    intro r
    induction r with
    | nil =>
      intro p i e w hNw Ew hd hp hfl
      unfold flt at hfl
      rw [if_pos (Or.inr (Or.inl (by omega)))] at hfl
      exact absurd hfl (by simp)
    | cons b r ih =>
      intro p i e w hNw Ew hd hp hfl
      obtain ⟨d1, d2, d3⟩ := dr_cons hd
      refine g_aload_n (q := 1) dX6_nextFigure_0 rfl rfl ?_
      refine g_getI (q := 4) f_X6_30 (by assumption) rfl dX6_nextFigure_1 rfl ?_
      refine g_aload_n (q := 5) dX6_nextFigure_4 rfl rfl ?_
      refine g_getR (q := 8) f_X6_21 (by assumption) rfl dX6_nextFigure_5 rfl ?_
      refine g_getI (q := 11) f_X6_46 (by assumption) rfl dX6_nextFigure_8 rfl ?_
      refine g_icmpge (t := 43) (q := 14) dX6_nextFigure_11 (by decide) rfl (fun hq11 => ?_) (fun hq11 => ?_)
      · rw [hNw.2.2.1, hNw.2.1.1] at hq11
        exact absurd (gn_le hq11 (by omega)) (by omega)
      · refine g_aload_n (q := 15) dX6_nextFigure_14 rfl rfl ?_
        refine g_getR (q := 18) f_X6_21 (by assumption) rfl dX6_nextFigure_15 rfl ?_
        refine g_aload_n (q := 19) dX6_nextFigure_18 rfl rfl ?_
        refine g_getI (q := 22) f_X6_30 (by assumption) rfl dX6_nextFigure_19 rfl ?_
        refine c_Vi (q := 25) (p_X8_at ht hNw.2.1) k_X6_116 ht1 rfl (by decide) rfl rfl (Nat.le_of_ble_eq_true rfl) rfl rfl dX6_nextFigure_22 rfl ?_
        rintro y w1 ⟨hy1, hw1⟩
        subst w1
        rw [hNw.2.2.1, l_at_t d1 (by omega), d2] at hy1
        subst y
        refine g_bipush (q := 27) (x := 32) dX6_nextFigure_25 (by decide) rfl ?_
        refine g_icmpne (t := 43) (q := 30) dX6_nextFigure_27 (by decide) rfl (fun hq27 => ?_) (fun hq27 => ?_)
        · have en : nf (b :: r) = (b - 48, r) := by rw [nf, if_neg hq27]
          rw [en]
          refine g_aload_n (q := 44) dX6_nextFigure_43 rfl rfl ?_
          refine c_Vi (q := 47) (p_X6_nextByte hs hNw) k_X6_51 (by assumption) rfl (by decide) rfl rfl (Nat.le_of_ble_eq_true rfl) rfl rfl dX6_nextFigure_44 rfl ?_
          rintro y vq1 ⟨hy1, hN1, E1⟩
          rw [l_at_t d1 (by omega), d2] at hy1
          refine g_bipush (q := 49) (x := 48) dX6_nextFigure_47 (by decide) rfl ?_
          refine g_isub (q := 50) dX6_nextFigure_49 rfl ?_
          refine r_i dX6_nextFigure_50 rfl rfl rfl ?_
          exact ⟨by rw [hy1], p + 1, d3, by omega, hN1, Ew.tr E1⟩
        · have en : nf (b :: r) = nf r := by rw [nf, if_pos hq27]
          rw [en]
          have hgo : flt r (i + 1) g (f + 1) e = none := by rw [flt, if_pos hq27] at hfl; exact hfl
          refine g_aload_n (q := 31) dX6_nextFigure_30 rfl rfl ?_
          refine g_dup (q := 32) dX6_nextFigure_31 rfl rfl ?_
          refine g_getI (q := 35) f_X6_30 (by assumption) rfl dX6_nextFigure_32 rfl ?_
          refine g_iconst (q := 36) (x := 1) dX6_nextFigure_35 (by decide) rfl ?_
          refine g_iadd (q := 37) dX6_nextFigure_36 rfl ?_
          refine g_putI (q := 40) f_X6_30 (by assumption) rfl rfl rfl dX6_nextFigure_37 rfl ?_
          refine g_gen (fun vq1 hvq1 => ?_)
          have hN1 : RN vq1 x A t tx (p + 1) s d c := by rw [hvq1]; exact hNw.f4 (by rw [hNw.2.2.1, nI_1])
          have E1 : fx v vq1 x := by rw [hvq1]; exact Ew.tr (hNw.pl 4 _ (by omega)).2.2.2.1
          refine g_goto (q := 0) dX6_nextFigure_40 (by decide) ?_
          exact ih (p + 1) (i + 1) e vq1 hN1 E1 d3 (by omega) hgo
  refine gj_E_at (L := [some (.ref (x + 390))]) (k := 0) rfl (by decide) rfl ?_
  exact lp r p i e v hN (fx.rf _ _) hd hp hfl


theorem gn_leB {g : Nat} (hg : g < 1000) (h : nI g ≤ 0) : g = 0 := Nat.le_zero.mp (gn_le (k := 0) h (by omega))

set_option maxRecDepth 100000 in
set_option maxHeartbeats 4000000 in
theorem p_X6_skipGroup {X : gj_X} {lim : Nat} {σ : gj_H} {v : gj_V} {x p : Nat} {A : aS} {t d c : Int32} {tx : List Int32} {s : stk} (hs : gsh σ x) (hN : RN v x A t tx p s d c) (hp : p ≤ tx.length) : gj_E X 2 m_X6_skipGroup [.ref (x + 390)] lim σ v (q_v lim σ (fun v' => ∃ p', tx.drop p' = skB 1 (tx.drop p) ∧ p' ≤ tx.length ∧ RN v' x A t tx p' s d c ∧ fx v v' x)) := by
  obtain ⟨sx, hf, hh, ht, hrn, hia⟩ := id hs
  have sr := hrn.1
  have sa := hrn.2.1
  have si := hrn.2.2.1
  have hi5 := hrn.2.2.2
  have ht1 := ht.1
  have sf := hf.1
  have sm := hf.2.2.2.2.2.1
  have hl := hN.2.1.2.1
  have lp : ∀ (r : List Int32) (p j i : Nat) (w : gj_V), RN w x A t tx p s d c → fx v w x → tx.drop p = r → p ≤ tx.length → j + r.length ≤ 200 → i ≤ p → gj_G X 2 m_X6_skipGroup (q_v lim σ (fun v' => ∃ p', tx.drop p' = skB j r ∧ p' ≤ tx.length ∧ RN v' x A t tx p' s d c ∧ fx v v' x)) lim σ w 0 0 4 [some (.ref (x + 390)), some (.int (nI j)), some (.int (nI i)), none] [] := by
    intro r
    induction r with
    | nil =>
      intro p j i w hNw Ew hd hp hj hi
      refine g_iload_n (q := 5) dX6_skipGroup_4 rfl rfl ?_
      refine g_bipush (q := 7) (x := 120) dX6_skipGroup_5 (by decide) rfl ?_
      refine g_icmpge (t := 60) (q := 10) dX6_skipGroup_7 (by decide) rfl (fun hq7 => ?_) (fun hq7 => ?_)
      · refine r_v dX6_skipGroup_60 rfl rfl rfl ?_
        exact ⟨p, by rw [hd]; cases j <;> rfl, hp, hNw, Ew⟩
      · refine g_aload_n (q := 11) dX6_skipGroup_10 rfl rfl ?_
        refine g_getI (q := 14) f_X6_30 (by assumption) rfl dX6_skipGroup_11 rfl ?_
        refine g_aload_n (q := 15) dX6_skipGroup_14 rfl rfl ?_
        refine g_getR (q := 18) f_X6_21 (by assumption) rfl dX6_skipGroup_15 rfl ?_
        refine g_getI (q := 21) f_X6_46 (by assumption) rfl dX6_skipGroup_18 rfl ?_
        refine g_icmpge (t := 60) (q := 24) dX6_skipGroup_21 (by decide) rfl (fun hq21 => ?_) (fun hq21 => ?_)
        · refine r_v dX6_skipGroup_60 rfl rfl rfl ?_
          exact ⟨p, by rw [hd]; cases j <;> rfl, hp, hNw, Ew⟩
        · exact absurd (by rw [hNw.2.2.1, hNw.2.1.1, dr_nil hd hp]; exact Int32.le_refl _) hq21
    | cons b r ih =>
      intro p j i w hNw Ew hd hp hj hi
      obtain ⟨d1, d2, d3⟩ := dr_cons hd
      refine g_iload_n (q := 5) dX6_skipGroup_4 rfl rfl ?_
      refine g_bipush (q := 7) (x := 120) dX6_skipGroup_5 (by decide) rfl ?_
      refine g_icmpge (t := 60) (q := 10) dX6_skipGroup_7 (by decide) rfl (fun hq7 => ?_) (fun hq7 => ?_)
      · exact absurd (gn_le (n := 120) hq7 (by decide)) (by omega)
      · refine g_aload_n (q := 11) dX6_skipGroup_10 rfl rfl ?_
        refine g_getI (q := 14) f_X6_30 (by assumption) rfl dX6_skipGroup_11 rfl ?_
        refine g_aload_n (q := 15) dX6_skipGroup_14 rfl rfl ?_
        refine g_getR (q := 18) f_X6_21 (by assumption) rfl dX6_skipGroup_15 rfl ?_
        refine g_getI (q := 21) f_X6_46 (by assumption) rfl dX6_skipGroup_18 rfl ?_
        refine g_icmpge (t := 60) (q := 24) dX6_skipGroup_21 (by decide) rfl (fun hq21 => ?_) (fun hq21 => ?_)
        · rw [hNw.2.2.1, hNw.2.1.1] at hq21
          exact absurd (gn_le hq21 (by omega)) (by omega)
        · refine g_iload_n (q := 25) dX6_skipGroup_24 rfl rfl ?_
          refine g_ifle (t := 60) (q := 28) dX6_skipGroup_25 (by decide) rfl (fun hq25 => ?_) (fun hq25 => ?_)
          · have hq25 : j = 0 := gn_leB (by omega) hq25
            subst hq25
            refine r_v dX6_skipGroup_60 rfl rfl rfl ?_
            exact ⟨p, by rw [hd]; rfl, hp, hNw, Ew⟩
          · have hq25 : 0 < j := gn_0lt hq25
            obtain ⟨j0, rfl⟩ : ∃ j0, j = j0 + 1 := ⟨j - 1, by omega⟩
            refine g_aload_n (q := 29) dX6_skipGroup_28 rfl rfl ?_
            refine c_Vi (q := 32) (p_X6_nextByte hs hNw) k_X6_51 (by assumption) rfl (by decide) rfl rfl (Nat.le_of_ble_eq_true rfl) rfl rfl dX6_skipGroup_29 rfl ?_
            rintro y vq1 ⟨hy1, hN1, E1⟩
            rw [l_at_t d1 (by omega), d2] at hy1
            subst y
            refine g_istore_n (q := 33) dX6_skipGroup_32 rfl rfl rfl rfl ?_
            dsimp only [List.set]
            refine g_iload_n (q := 34) dX6_skipGroup_33 rfl rfl ?_
            refine g_bipush (q := 36) (x := 40) dX6_skipGroup_34 (by decide) rfl ?_
            refine g_icmpne (t := 45) (q := 39) dX6_skipGroup_36 (by decide) rfl (fun hq36 => ?_) (fun hq36 => ?_)
            · refine g_iload_n (q := 46) dX6_skipGroup_45 rfl rfl ?_
              refine g_bipush (q := 48) (x := 41) dX6_skipGroup_46 (by decide) rfl ?_
              refine g_icmpne (t := 54) (q := 51) dX6_skipGroup_48 (by decide) rfl (fun hq48 => ?_) (fun hq48 => ?_)
              · refine g_iinc (q := 57) (y := nI (i + 1)) dX6_skipGroup_54 rfl (gn_inc i) rfl rfl rfl rfl ?_
                dsimp only [List.set]
                refine g_goto (q := 4) dX6_skipGroup_57 (by decide) ?_
                have hE : skB (j0 + 1) (b :: r) = skB (j0 + 1) r := by rw [skB, if_neg hq36, if_neg hq48]
                rw [hE]
                refine g_wk (L' := [some (.ref (x + 390)), some (.int (nI (j0 + 1))), some (.int (nI (i + 1))), none]) (by simp [gj_wk]) ?_
                exact ih (p + 1) (j0 + 1) (i + 1) vq1 hN1 (Ew.tr E1) d3 (by omega) (by simp only [List.length_cons] at hj; omega) (by omega)
              · refine g_iinc (q := 54) (y := nI j0) dX6_skipGroup_51 rfl (gn_dec j0) rfl rfl rfl rfl ?_
                dsimp only [List.set]
                refine g_iinc (q := 57) (y := nI (i + 1)) dX6_skipGroup_54 rfl (gn_inc i) rfl rfl rfl rfl ?_
                dsimp only [List.set]
                refine g_goto (q := 4) dX6_skipGroup_57 (by decide) ?_
                have hE : skB (j0 + 1) (b :: r) = skB j0 r := by rw [skB, if_neg hq36, if_pos hq48]
                rw [hE]
                refine g_wk (L' := [some (.ref (x + 390)), some (.int (nI j0)), some (.int (nI (i + 1))), none]) (by simp [gj_wk]) ?_
                exact ih (p + 1) j0 (i + 1) vq1 hN1 (Ew.tr E1) d3 (by omega) (by simp only [List.length_cons] at hj; omega) (by omega)
            · refine g_iinc (q := 42) (y := nI ((j0 + 1) + 1)) dX6_skipGroup_39 rfl (gn_inc (j0 + 1)) rfl rfl rfl rfl ?_
              dsimp only [List.set]
              refine g_goto (q := 54) dX6_skipGroup_42 (by decide) ?_
              refine g_iinc (q := 57) (y := nI (i + 1)) dX6_skipGroup_54 rfl (gn_inc i) rfl rfl rfl rfl ?_
              dsimp only [List.set]
              refine g_goto (q := 4) dX6_skipGroup_57 (by decide) ?_
              have hE : skB (j0 + 1) (b :: r) = skB (j0 + 1 + 1) r := by rw [skB, if_pos hq36]
              rw [hE]
              refine g_wk (L' := [some (.ref (x + 390)), some (.int (nI (j0 + 1 + 1))), some (.int (nI (i + 1))), none]) (by simp [gj_wk]) ?_
              exact ih (p + 1) (j0 + 1 + 1) (i + 1) vq1 hN1 (Ew.tr E1) d3 (by omega) (by simp only [List.length_cons] at hj; omega) (by omega)
  refine gj_E_at (L := [some (.ref (x + 390)), none, none, none]) (k := 3) rfl (by decide) rfl ?_
  refine g_iconst (q := 1) (x := 1) dX6_skipGroup_0 (by decide) rfl ?_
  refine g_istore_n (q := 2) dX6_skipGroup_1 rfl rfl rfl rfl ?_
  dsimp only [List.set]
  refine g_iconst (q := 3) (x := 0) dX6_skipGroup_2 (by decide) rfl ?_
  refine g_istore_n (q := 4) dX6_skipGroup_3 rfl rfl rfl rfl ?_
  dsimp only [List.set]
  exact lp (tx.drop p) p 1 0 v hN (fx.rf _ _) rfl hp (by simp; omega) (Nat.zero_le _)

set_option maxRecDepth 100000 in
set_option maxHeartbeats 4000000 in
theorem p_X6_enterLevel {X : gj_X} {lim : Nat} {σ : gj_H} {v : gj_V} {x p : Nat} {A : aS} {t d c : Int32} {tx : List Int32} {s : stk} (hs : gsh σ x) (hN : RN v x A t tx p s d c) (hl4 : s.length ≤ 4) : gj_E X 2 m_X6_enterLevel [.ref (x + 390)] lim σ v (q_v lim σ (fun v' => RN v' x (a_in A 6) t tx p ((A.2, d) :: s) d c ∧ fx v v' x)) := by
  obtain ⟨sx, hf, hh, ht, hrn, hia⟩ := id hs
  have sr := hrn.1
  have sa := hrn.2.1
  have si := hrn.2.2.1
  have hi5 := hrn.2.2.2
  have ht1 := ht.1
  have sf := hf.1
  have sm := hf.2.2.2.2.2.1
  refine gj_E_at (L := [some (.ref (x + 390))]) (k := 0) rfl (by decide) rfl ?_
  refine g_aload_n (q := 1) dX6_enterLevel_0 rfl rfl ?_
  refine g_getI (q := 4) f_X6_34 (by assumption) rfl dX6_enterLevel_1 rfl ?_
  refine g_iconst (q := 5) (x := 4) dX6_enterLevel_4 (by decide) rfl ?_
  refine g_icmpge (t := 57) (q := 8) dX6_enterLevel_5 (by decide) rfl (fun hq5 => ?_) (fun hq5 => ?_)
  · rw [hN.2.2.2.1] at hq5
    exact absurd hq5 (rl_lt hl4)
  · refine g_aload_n (q := 9) dX6_enterLevel_8 rfl rfl ?_
    refine g_dup (q := 10) dX6_enterLevel_9 rfl rfl ?_
    refine g_getI (q := 13) f_X6_34 (by assumption) rfl dX6_enterLevel_10 rfl ?_
    refine g_iconst (q := 14) (x := 1) dX6_enterLevel_13 (by decide) rfl ?_
    refine g_iadd (q := 15) dX6_enterLevel_14 rfl ?_
    refine g_putI (q := 18) f_X6_34 (by assumption) rfl rfl rfl dX6_enterLevel_15 rfl ?_
    refine g_gen (fun vq1 hvq1 => ?_)
    rw [hN.2.2.2.1, rl_p] at hvq1
    obtain ⟨k1, k2, k3, k4, k5⟩ := hN.pl 5 (nI s.length) (by omega)
    rw [← hvq1] at k1 k2 k3 k4
    have k6 : ∀ m, vq1 (x + 390) m = upd (v (x + 390)) 5 (nI s.length) m := by rw [hvq1]; exact k5
    refine g_aload_n (q := 19) dX6_enterLevel_18 rfl rfl ?_
    refine g_getR (q := 22) f_X6_25 (by assumption) rfl dX6_enterLevel_19 rfl ?_
    refine g_getR (q := 25) f_X6_68 (by assumption) rfl dX6_enterLevel_22 rfl ?_
    refine c_Vv (q := 28) (p_X2_enter sm) k_X6_74 sm rfl (by decide) rfl rfl (Nat.le_of_ble_eq_true rfl) rfl rfl dX6_enterLevel_25 rfl ?_
    rintro vq2 hvq2
    rw [k1.2.1] at hvq2
    have hCq2 : CR vq2 (x + 1) (a_in A 6) t := by rw [hvq2]; exact k1.mas _
    have Fq2 : fr vq1 vq2 (x + 1) (x + 1 + 55) := by rw [hvq2]; exact fr.up (by omega) (by omega)
    have eq2 : vq2 (x + 390) = vq1 (x + 390) := Fq2 _ (by omega)
    refine g_aload_n (q := 29) dX6_enterLevel_28 rfl rfl ?_
    refine g_getR (q := 32) f_X6_11 (by assumption) rfl dX6_enterLevel_29 rfl ?_
    refine g_aload_n (q := 33) dX6_enterLevel_32 rfl rfl ?_
    refine g_getI (q := 36) f_X6_34 (by assumption) rfl dX6_enterLevel_33 rfl ?_
    rw [eq2, k6, ud_s]
    refine g_aald (q := 37) (by assumption) rfl rfl (ra_at (show s.length < 5 by omega)) (by simp) dX6_enterLevel_36 rfl ?_
    refine g_aload_n (q := 38) dX6_enterLevel_37 rfl rfl ?_
    refine g_getR (q := 41) f_X6_25 (by assumption) rfl dX6_enterLevel_38 rfl ?_
    refine c_Vv (q := 44) (p_X4_keep (hi5 s.length (by omega)) hf (Or.inl (by omega)) hCq2) k_X6_79 (hi5 s.length (by omega)).1 rfl (by decide) rfl rfl (Nat.le_of_ble_eq_true rfl) rfl rfl dX6_enterLevel_41 rfl ?_
    rintro vq3 ⟨hI3, Fq3⟩
    have eq3 : vq3 (x + 390) = vq1 (x + 390) := (Fq3 _ (by omega)).trans eq2
    refine g_aload_n (q := 45) dX6_enterLevel_44 rfl rfl ?_
    refine g_getR (q := 48) f_X6_17 (by assumption) rfl dX6_enterLevel_45 rfl ?_
    refine g_aload_n (q := 49) dX6_enterLevel_48 rfl rfl ?_
    refine g_getI (q := 52) f_X6_34 (by assumption) rfl dX6_enterLevel_49 rfl ?_
    rw [eq3, k6, ud_s]
    refine g_aload_n (q := 53) dX6_enterLevel_52 rfl rfl ?_
    refine g_getI (q := 56) f_X6_37 (by assumption) rfl dX6_enterLevel_53 rfl ?_
    rw [eq3, k6, ud_n _ _ (by decide), hN.2.2.2.2.1]
    refine g_iast (q := 57) (by assumption) rfl (by omega) (by decide) dX6_enterLevel_56 rfl ?_
    refine g_gen (fun vq4 hvq4 => ?_)
    have eq4 : ∀ a, a ≠ x + 390 + 2 → vq4 a = vq3 a := fun a ha => by rw [hvq4]; exact gu_n _ _ ha
    refine r_v dX6_enterLevel_57 rfl rfl rfl ?_
    obtain ⟨hq1, hq2, hq3, hq4, hq5, hq6, hq7, hq8⟩ := id hN
    refine ⟨⟨?_, ?_, ?_, ?_, ?_, ?_, by simp; omega, ?_⟩, ?_⟩
    · exact hCq2.keep (fun a g1 g2 => by rw [eq4 a (by omega), Fq3 a (by omega)])
    · exact k2.keep (by rw [eq4 _ (by omega), Fq3 _ (by omega), Fq2 _ (by omega)]) (by rw [eq4 _ (by omega), Fq3 _ (by omega), Fq2 _ (by omega)])
    · rw [eq4 _ (by omega), eq3, k6, ud_n _ _ (by decide)]; exact hq3
    · rw [eq4 _ (by omega), eq3, k6, ud_s, List.length_cons, rl_s]
    · rw [eq4 _ (by omega), eq3, k6, ud_n _ _ (by decide)]; exact hq5
    · rw [eq4 _ (by omega), eq3, k6, ud_n _ _ (by decide)]; exact hq6
    · intro j q hj
      rcases rv_s s _ j q hj with ⟨g1, g2⟩ | ⟨g1, g2⟩
      · obtain ⟨eq5, eq6⟩ := hq8 j q g2
        refine ⟨eq5.keep (fun a q1 q2 => by rw [eq4 a (by omega), Fq3 a (by omega), Fq2 a (by omega), hvq1]; exact gu_n _ _ (by omega)), ?_⟩
        rw [hvq4, gu_2, gu_s, ud_n _ _ (by omega), Fq3 _ (by omega), Fq2 _ (by omega), hvq1, gu_2, gu_n _ _ (by omega)]
        exact eq6
      · rw [g2, g1]
        refine ⟨hI3.keep (fun a q1 q2 => eq4 a (by omega)), ?_⟩
        rw [hvq4, gu_2, gu_s, ud_s]
    · exact fun a q1 q2 => by rw [eq4 a (by omega), Fq3 a (by omega), Fq2 a (by omega)]; exact k4 a q1 q2
