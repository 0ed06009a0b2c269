theorem bal_at {ts : List tok} {i g : Nat} {o : tok} (h : bal g (ts.drop i)) (ho : ts[i]? = some o) : ts.drop i = o :: ts.drop (i + 1) ∧ i < ts.length := by
  obtain ⟨hi, he⟩ := List.getElem?_eq_some_iff.mp ho
  rw [List.drop_eq_getElem_cons hi, he]
  exact ⟨rfl, hi⟩
theorem DA.opn {v0 v v1 v2 v3 v4 : gj_V} {m sn i : Nat} {ts : List tok} {A : aS} {t d : Int32} {s : stk} {o : tok} (h : DA v0 v m sn ts A t s i) (hs : 1 ≤ s.length) (ho : ts[i]? = some o) (h4 : o.1 = 40) (hc : mc v v1 m (a_in A 6) t sn) (hv2 : v2 = gj_up2 v1 (m + 11) (s.length - 1) (nI i)) (hv3 : v3 = gj_up v2 (m + 4) (la (v2 (m + 4)) (v2 (m + 2)) s.length 54)) (hv4 : v4 = gj_up2 v3 (m + 12) s.length d) : DA v0 v4 m sn ts (a_in A 6) t ((A.2, d) :: s) (i + 1) := by
  obtain ⟨h1, h2, h3, h6⟩ := h
  have e4 : ∀ a, a ≠ m + 12 → v4 a = v3 a := fun a ha => by rw [hv4, gu_2, gu_n _ _ ha]
  have e3 : ∀ a, a ≠ m + 4 → v3 a = v2 a := fun a ha => by rw [hv3, gu_n _ _ ha]
  have e2 : ∀ a, a ≠ m + 11 → v2 a = v1 a := fun a ha => by rw [hv2, gu_2, gu_n _ _ ha]
  have e1 : ∀ a, a ≠ m + 2 → v1 a = v a := fun a ha => hc.o a ha
  have f12 : v4 (m + 12) = upd (v (m + 12)) s.length d := by rw [hv4, gu_2, gu_s, e3 _ (by omega), e2 _ (by omega), e1 _ (by omega)]
  have f11 : v4 (m + 11) = upd (v (m + 11)) (s.length - 1) (nI i) := by rw [e4 _ (by omega), e3 _ (by omega), hv2, gu_2, gu_s, e1 _ (by omega)]
  have f2 : v4 (m + 2) = v1 (m + 2) := by rw [e4 _ (by omega), e3 _ (by omega), e2 _ (by omega)]
  have f4 : v4 (m + 4) = la (v (m + 4)) (v1 (m + 2)) s.length 54 := by rw [e4 _ (by omega), hv3, gu_s, e2 _ (by omega), e2 _ (by omega), e1 _ (by omega)]
  obtain ⟨hi, he⟩ := List.getElem?_eq_some_iff.mp ho
  refine ⟨by rw [f2]; exact hc.M, fun a g1 g2 g3 g4 => by rw [e4 a g4, e3 a g2, e2 a g3, e1 a g1]; exact h2 a g1 g2 g3 g4, fun j q hj => ?_, fun j hj => ?_⟩
  · rcases rv_s s _ j q hj with ⟨k1, k2⟩ | ⟨k1, k2⟩
    · obtain ⟨r1, r2⟩ := h3 j q k2
      refine ⟨?_, by rw [f12, ud_n _ _ (by omega)]; exact r2⟩
      rw [f4]
      exact r1.keep (fun x g1 g2 => if_neg (by omega))
    · rw [k2, k1]
      refine ⟨?_, by rw [f12, ud_s]⟩
      rw [f4]
      show asd _ s.length (a_in A 6).2
      exact asd_la hc.M
  · simp only [List.length_cons] at hj ⊢
    by_cases e : j = s.length - 1
    · subst e
      refine ⟨i, o, ho, h4, by rw [f11, ud_s], ?_⟩
      rw [show s.length + 1 - 1 - (s.length - 1) = 1 by omega]
    · obtain ⟨b, q, g1, g2, g3, g4⟩ := h6 j (by omega)
      refine ⟨b, q, g1, g2, by rw [f11, ud_n _ _ e]; exact g3, ?_⟩
      rw [g4, List.drop_eq_getElem_cons hi, he]
      obtain ⟨k, hk⟩ : ∃ k, s.length - 1 - j = k + 1 := ⟨s.length - 1 - j - 1, by omega⟩
      rw [hk, show s.length + 1 - 1 - j = k + 2 by omega]
      simp only [skT]
      rw [if_pos h4]
theorem DA.cls {v0 v v1 : gj_V} {m sn i : Nat} {ts : List tok} {A : aS} {t : Int32} {s : stk} {q : (Nat → List Int32) × Int32} {o : tok} (h : DA v0 v m sn ts A t (q :: s) i) (hs : 1 ≤ s.length) (ho : ts[i]? = some o) (h4 : o.1 = 41) (hc : mc v v1 m (a_out A 6) t sn) : DA v0 v1 m sn ts (a_out A 6) t s (i + 1) := by
  obtain ⟨h1, h2, h3, h6⟩ := h.now hc
  obtain ⟨hi, he⟩ := List.getElem?_eq_some_iff.mp ho
  refine ⟨h1, h2, fun j z hj => h3 j z (rv_i s q j z hj), fun j hj => ?_⟩
  obtain ⟨b, z, g1, g2, g3, g4⟩ := h6 j (by simp; omega)
  refine ⟨b, z, g1, g2, g3, ?_⟩
  rw [g4, List.drop_eq_getElem_cons hi, he]
  simp only [List.length_cons]
  obtain ⟨k, hk⟩ : ∃ k, s.length - 1 - j = k := ⟨_, rfl⟩
  rw [hk, show s.length + 1 - 1 - j = k + 1 by omega]
  simp only [skT]
  rw [if_neg (by rw [h4]; decide), if_pos h4]
theorem DA.und {v0 v v1 : gj_V} {m sn i e b : Nat} {ts : List tok} {A A' : aS} {t : Int32} {s : stk} {q : (Nat → List Int32) × Int32} {o : tok} (h : DA v0 v m sn ts A t (q :: s) i) (ho : ts[i]? = some o) (h4 : ¬ o.1 = 40) (h5 : ¬ o.1 = 41) (hc : mc v v1 m A' t sn) (hb : ts.drop (e + 1) = skT 1 (ts.drop (i + 1))) : DA v0 v1 m sn ts A' t s (e + 1) := by
  obtain ⟨h1, h2, h3, h6⟩ := (h.step ho h4 h5).now hc
  refine ⟨h1, h2, fun j z hj => h3 j z (rv_i s q j z hj), fun j hj => ?_⟩
  obtain ⟨b, z, g1, g2, g3, g4⟩ := h6 j (by simp; omega)
  refine ⟨b, z, g1, g2, g3, ?_⟩
  rw [g4, hb, skT_skT]
  simp only [List.length_cons]
  congr 1
  omega
