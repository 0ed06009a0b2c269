theorem isE_ap {ts : List tok} {o : tok} : (ts ++ [o]).isEmpty = false := by simp
/-- a group opens -/
theorem RI.opn {vb w w2 w3 w4 : gj_V} {m p g : Nat} {tx : List Int32} {ts : List tok} (h : RI vb w m tx p g ts) (hd : tx.drop p = 40 :: tx.drop (p + 1)) (hg : g < 4) (hw2 : w2 = gj_up2 w m 7 (nI (p + 1))) (hw3 : w3 = gj_up2 w2 (m + 11) g (nI ts.length)) (hc : cmw w3 w4 m ts.length 40 0 0 0) (h7 : w4 m 7 = nI (p + 1)) (h8 : w4 m 8 = 0) : RI vb w4 m tx (p + 1) (g + 1) (ts ++ [(40, 0, 0, 0)]) := by
  obtain ⟨a1, a2, a3, a4, a5, a6, a7, a8, a9, a10, a11, a12, a13⟩ := h
  have hpl : p < tx.length := (dr_cons hd).1
  have o2 : ∀ a, a ≠ m → w2 a = w a := fun a ha => by rw [hw2, gu_2, gu_n _ _ ha]
  have k2 : ∀ k, k ≠ 7 → w2 m k = w m k := fun k hk => by rw [hw2, gu_2, gu_s, ud_n _ _ hk]
  have o3 : ∀ a, a ≠ m + 11 → w3 a = w2 a := fun a ha => by rw [hw3, gu_2, gu_n _ _ ha]
  have hO3 : ORD w3 m ts := ⟨by rw [o3 _ (by omega), k2 9 (by decide)]; exact a5.1, a5.2.1, by rw [o3 _ (by omega), o3 _ (by omega), o3 _ (by omega), o3 _ (by omega), o2 _ (by omega), o2 _ (by omega), o2 _ (by omega), o2 _ (by omega)]; exact a5.2.2⟩
  have hO4 := hO3.add (by have := a1.2.1; omega) hc
  obtain ⟨c1, c2, c3, c4, c5, c6, c7, c8⟩ := hc
  have e11 : w4 (m + 11) = upd (w (m + 11)) g (nI ts.length) := by rw [c3 _ (by omega) (by omega), hw3, gu_2, gu_s, o2 _ (by omega)]
  have e10 : w4 (m + 10) = upd (w (m + 10)) ts.length (-1) := by rw [c8, o3 _ (by omega), o2 _ (by omega)]
  refine ⟨⟨by rw [c2 6 (by decide) (by decide) (by decide), o3 _ (by omega), k2 6 (by decide)]; exact a1.1, a1.2.1, by rw [c3 _ (by omega) (by omega), o3 _ (by omega), o2 _ (by omega)]; exact a1.2.2⟩, h7, by omega, h8, hO4, by simp; omega, by omega, ?_, ?_, by rw [e11]; exact a10.opn rfl, ?_, fun a g1 g2 => ?_, fun k g1 g2 g3 => ?_⟩
  · rw [a8, hd, tz_par (Or.inl rfl)]; simp
  · rw [a9, hd, flt, if_neg (by decide), if_neg (by omega), if_pos ⟨rfl, hg⟩, isE_ap]
  · rw [e10, e11]
    exact a11.opn (fun b hb => ud_n _ _ (by omega))
  · rw [c3 a g1 (by omega), o3 a (by omega), o2 a g1]; exact a12 a g1 g2
  · rw [c2 k g1 g2 g3, o3 _ (by omega), k2 k g1]; exact a13 k g1 g2 g3
/-- a group ends -/
theorem RI.cls {vb w w2 w3 w4 w5 : gj_V} {m p g b0 : Nat} {tx : List Int32} {ts : List tok} (h : RI vb w m tx p (g + 1) ts) (hd : tx.drop p = 41 :: tx.drop (p + 1)) (hw2 : w2 = gj_up2 w m 7 (nI (p + 1))) (hb0 : w (m + 11) g = nI b0) (hb1 : b0 < ts.length) (hw3 : w3 = gj_up2 w2 (m + 10) b0 (nI ts.length)) (hc : cmw w3 w4 m ts.length 41 0 0 0) (h7 : w4 m 7 = nI (p + 1)) (h8 : w4 m 8 = 0) (hw5 : w5 = gj_up2 w4 (m + 10) b0 (nI ts.length)) : RI vb w5 m tx (p + 1) g (ts ++ [(41, 0, 0, 0)]) := by
  obtain ⟨a1, a2, a3, a4, a5, a6, a7, a8, a9, a10, a11, a12, a13⟩ := h
  have hpl : p < tx.length := (dr_cons hd).1
  have hl := a1.2.1
  have o2 : ∀ a, a ≠ m → w2 a = w a := fun a ha => by rw [hw2, gu_2, gu_n _ _ ha]
  have k2 : ∀ k, k ≠ 7 → w2 m k = w m k := fun k hk => by rw [hw2, gu_2, gu_s, ud_n _ _ hk]
  have o3 : ∀ a, a ≠ m + 10 → w3 a = w2 a := fun a ha => by rw [hw3, gu_2, gu_n _ _ ha]
  have o5 : ∀ a, a ≠ m + 10 → w5 a = w4 a := fun a ha => by rw [hw5, gu_2, gu_n _ _ ha]
  have hO3 : ORD w3 m ts := ⟨by rw [o3 _ (by omega), k2 9 (by decide)]; exact a5.1, a5.2.1, by rw [o3 _ (by omega), o3 _ (by omega), o3 _ (by omega), o3 _ (by omega), o2 _ (by omega), o2 _ (by omega), o2 _ (by omega), o2 _ (by omega)]; exact a5.2.2⟩
  have hO4 := hO3.add (by omega) hc
  have hO5 : ORD w5 m (ts ++ [(41, 0, 0, 0)]) := ⟨by rw [o5 _ (by omega)]; exact hO4.1, hO4.2.1, by rw [o5 _ (by omega), o5 _ (by omega), o5 _ (by omega), o5 _ (by omega)]; exact hO4.2.2⟩
  obtain ⟨c1, c2, c3, c4, c5, c6, c7, c8⟩ := hc
  have e11 : w5 (m + 11) = w (m + 11) := by rw [o5 _ (by omega), c3 _ (by omega) (by omega), o3 _ (by omega), o2 _ (by omega)]
  have e10 : w5 (m + 10) = upd (upd (upd (w (m + 10)) b0 (nI ts.length)) ts.length (-1)) b0 (nI ts.length) := by rw [hw5, gu_2, gu_s, c8, hw3, gu_2, gu_s, o2 _ (by omega)]
  refine ⟨⟨by rw [o5 _ (by omega), c2 6 (by decide) (by decide) (by decide), o3 _ (by omega), k2 6 (by decide)]; exact a1.1, a1.2.1, by rw [o5 _ (by omega), c3 _ (by omega) (by omega), o3 _ (by omega), o2 _ (by omega)]; exact a1.2.2⟩, by rw [o5 _ (by omega)]; exact h7, by omega, by rw [o5 _ (by omega)]; exact h8, hO5, by simp; omega, by omega, ?_, ?_, by rw [e11]; exact a10.cls rfl, ?_, fun a g1 g2 => ?_, fun k g1 g2 g3 => ?_⟩
  · rw [a8, hd, tz_par (Or.inr rfl)]; simp
  · rw [a9, hd, flt, if_neg (by decide), if_neg (by omega), if_neg (fun z => absurd z.1 (by decide)), if_pos ⟨rfl, by omega⟩, isE_ap, show g + 1 - 1 = g by omega]
  · rw [e10, e11]
    exact a11.cls a10 rfl hb0 (by omega) (by omega) (fun b hb hne => by rw [ud_n _ _ hne, ud_n _ _ (by omega), ud_n _ _ hne]) (ud_s _ _ _)
  · rw [o5 a (by omega), c3 a g1 (by omega), o3 a (by omega), o2 a g1]; exact a12 a g1 g2
  · rw [o5 _ (by omega), c2 k g1 g2 g3, o3 _ (by omega), k2 k g1]; exact a13 k g1 g2 g3
