/-! ===== reading: groups open, mates ===== -/
def OPN (f : Nat → Int32) (g : Nat) (ts : List tok) : Prop := ∀ j, j < g → ∃ b o, ts[b]? = some o ∧ o.1 = 40 ∧ f j = nI b ∧ ∀ rest, skT 1 (ts.drop (b + 1) ++ rest) = skT (g - j) rest
def MTS (h f : Nat → Int32) (g : Nat) (ts : List tok) : Prop := ∀ (b : Nat) (o : tok), ts[b]? = some o → o.1 = 40 → (∃ j, j < g ∧ f j = nI b) ∨ ∃ e, h b = nI e ∧ e < ts.length ∧ ∀ rest, skT 1 (ts.drop (b + 1) ++ rest) = ts.drop (e + 1) ++ rest
theorem ap_at {ts : List tok} {o : tok} {b : Nat} {x : tok} (h : (ts ++ [o])[b]? = some x) : (b < ts.length ∧ ts[b]? = some x) ∨ (b = ts.length ∧ x = o) := by
  have hl := (List.getElem?_eq_some_iff.mp h).1
  simp at hl
  by_cases e : b < ts.length
  · rw [List.getElem?_append_left e] at h; exact Or.inl ⟨e, h⟩
  · have eb : b = ts.length := by omega
    subst eb
    rw [List.getElem?_append_right (Nat.le_refl _)] at h
    simp at h
    exact Or.inr ⟨rfl, h.symm⟩
theorem ap_dr {ts : List tok} {o : tok} {b : Nat} (h : b < ts.length) (rest : List tok) : (ts ++ [o]).drop (b + 1) ++ rest = ts.drop (b + 1) ++ (o :: rest) := by
  rw [List.drop_append_of_le_length (by omega), List.append_assoc]; rfl
theorem ap_lt {ts : List tok} {b : Nat} {x : tok} (h : ts[b]? = some x) : b < ts.length := (List.getElem?_eq_some_iff.mp h).1
theorem ap_in {ts : List tok} {o : tok} {b : Nat} {x : tok} (h : ts[b]? = some x) : (ts ++ [o])[b]? = some x := by
  rw [List.getElem?_append_left (ap_lt h)]; exact h
/-- an order that is no parenthesis -/
theorem OPN.ltr {f : Nat → Int32} {g : Nat} {ts : List tok} {o : tok} (h : OPN f g ts) (h4 : ¬ o.1 = 40) (h5 : ¬ o.1 = 41) : OPN f g (ts ++ [o]) := by
  intro j hj
  obtain ⟨b, x, g1, g2, g3, g4⟩ := h j hj
  refine ⟨b, x, ap_in g1, g2, g3, fun rest => ?_⟩
  rw [ap_dr (ap_lt g1), g4]
  obtain ⟨k, hk⟩ : ∃ k, g - j = k + 1 := ⟨g - j - 1, by omega⟩
  rw [hk]
  simp only [skT]
  rw [if_neg h4, if_neg h5]
theorem MTS.ltr {h h' f : Nat → Int32} {g : Nat} {ts : List tok} {o : tok} (H : MTS h f g ts) (h4 : ¬ o.1 = 40) (hh : ∀ b, b < ts.length → h' b = h b) : MTS h' f g (ts ++ [o]) := by
  intro b x hb hx
  rcases ap_at hb with ⟨k1, k2⟩ | ⟨k1, k2⟩
  · rcases H b x k2 hx with q | ⟨e, e1, e2, e3⟩
    · exact Or.inl q
    · refine Or.inr ⟨e, by rw [hh b k1]; exact e1, by simp; omega, fun rest => ?_⟩
      rw [ap_dr k1, e3, ap_dr e2]
  · rw [k2] at hx; exact absurd hx h4
/-- a group opens -/
theorem OPN.opn {f : Nat → Int32} {g : Nat} {ts : List tok} {o : tok} (h : OPN f g ts) (h4 : o.1 = 40) : OPN (upd f g (nI ts.length)) (g + 1) (ts ++ [o]) := by
  intro j hj
  by_cases e : j = g
  · subst e
    refine ⟨ts.length, o, by simp, h4, ud_s _ _ _, fun rest => ?_⟩
    rw [List.drop_eq_nil_of_le (by simp), show j + 1 - j = 1 by omega]; rfl
  · obtain ⟨b, x, g1, g2, g3, g4⟩ := h j (by omega)
    refine ⟨b, x, ap_in g1, g2, by rw [ud_n _ _ e]; exact g3, fun rest => ?_⟩
    rw [ap_dr (ap_lt g1), g4]
    obtain ⟨k, hk⟩ : ∃ k, g - j = k + 1 := ⟨g - j - 1, by omega⟩
    rw [hk, show g + 1 - j = k + 2 by omega]
    simp only [skT]
    rw [if_pos h4]
theorem MTS.opn {h h' f : Nat → Int32} {g : Nat} {ts : List tok} {o : tok} (H : MTS h f g ts) (hh : ∀ b, b < ts.length → h' b = h b) : MTS h' (upd f g (nI ts.length)) (g + 1) (ts ++ [o]) := by
  intro b x hb hx
  rcases ap_at hb with ⟨k1, k2⟩ | ⟨k1, k2⟩
  · rcases H b x k2 hx with ⟨j, q1, q2⟩ | ⟨e, e1, e2, e3⟩
    · exact Or.inl ⟨j, by omega, by rw [ud_n _ _ (by omega)]; exact q2⟩
    · refine Or.inr ⟨e, by rw [hh b k1]; exact e1, by simp; omega, fun rest => ?_⟩
      rw [ap_dr k1, e3, ap_dr e2]
  · exact Or.inl ⟨g, by omega, by rw [ud_s, k1]⟩
/-- a group ends -/
theorem OPN.cls {f : Nat → Int32} {g : Nat} {ts : List tok} {o : tok} (h : OPN f (g + 1) ts) (h4 : o.1 = 41) : OPN f g (ts ++ [o]) := by
  intro j hj
  obtain ⟨b, x, g1, g2, g3, g4⟩ := h j (by omega)
  refine ⟨b, x, ap_in g1, g2, g3, fun rest => ?_⟩
  rw [ap_dr (ap_lt g1), g4]
  rw [show g + 1 - j = (g - j) + 1 by omega]
  simp only [skT]
  rw [if_neg (by rw [h4]; decide), if_pos h4]
theorem MTS.cls {h h' f : Nat → Int32} {g b0 : Nat} {ts : List tok} {o : tok} (H : MTS h f (g + 1) ts) (HO : OPN f (g + 1) ts) (h4 : o.1 = 41) (hb0 : f g = nI b0) (hl : ts.length < 1000) (hb1 : b0 < 1000) (hh : ∀ b, b < ts.length → b ≠ b0 → h' b = h b) (h0 : h' b0 = nI ts.length) : MTS h' f g (ts ++ [o]) := by
  intro b x hb hx
  rcases ap_at hb with ⟨k1, k2⟩ | ⟨k1, k2⟩
  · by_cases e : b = b0
    · subst e
      obtain ⟨b', x', g1, g2, g3, g4⟩ := HO g (by omega)
      have hb' := ap_lt g1
      have eb : b' = b := nI_inj6b (by omega) (by omega) (g3.symm.trans hb0)
      subst eb
      refine Or.inr ⟨ts.length, h0, by simp, fun rest => ?_⟩
      rw [ap_dr k1, g4, show g + 1 - g = 1 by omega, List.drop_eq_nil_of_le (by simp)]
      simp only [skT]
      rw [if_neg (by rw [h4]; decide), if_pos h4]
      rfl
    · rcases H b x k2 hx with ⟨j, q1, q2⟩ | ⟨e2, e1, e3, e4⟩
      · by_cases ej : j = g
        · subst ej
          exact absurd (nI_inj6b (by omega) (by omega) (q2.symm.trans hb0)) e
        · exact Or.inl ⟨j, by omega, q2⟩
      · refine Or.inr ⟨e2, by rw [hh b k1 e]; exact e1, by simp; omega, fun rest => ?_⟩
        rw [ap_dr k1, e4, ap_dr e3]
  · rw [k2] at hx; rw [h4] at hx; exact absurd hx (by decide)
theorem ORD.add {v v' : gj_V} {m : Nat} {ts : List tok} {c x1 x2 x3 : Int32} (h : ORD v m ts) (hl : ts.length < 120) (hw : cmw v v' m ts.length c x1 x2 x3) : ORD v' m (ts ++ [(c, x1, x2, x3)]) := by
  obtain ⟨h1, h2, h3⟩ := h
  obtain ⟨w1, w2, w3, w4, w5, w6, w7, w8⟩ := hw
  refine ⟨by rw [w1]; simp, by simp; omega, fun i o ho => ?_⟩
  rcases ap_at ho with ⟨k1, k2⟩ | ⟨k1, k2⟩
  · rw [w4, w5, w6, w7, ud_n _ _ (by omega), ud_n _ _ (by omega), ud_n _ _ (by omega), ud_n _ _ (by omega)]
    exact h3 i o k2
  · subst k1 k2
    rw [w4, w5, w6, w7]
    exact ⟨ud_s _ _ _, ud_s _ _ _, ud_s _ _ _, ud_s _ _ _⟩
