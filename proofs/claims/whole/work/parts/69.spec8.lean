/-- a letter has come, its figures with it -/
theorem RI.ltr {vb w w2 w3 : gj_V} {m p p2 g nfg : Nat} {tx : List Int32} {ts : List tok} {c x1 x2 x3 : Int32} (h : RI vb w m tx p g ts) (hd : tx.drop p = c :: tx.drop (p + 1)) (hw2 : w2 = gj_up2 w m 7 (nI (p + 1))) (hc : cmw w2 w3 m ts.length c x1 x2 x3) (h7 : w3 m 7 = nI p2) (h8 : w3 m 8 = 0) (hp2 : p2 ≤ tx.length) (hlt : p < p2) (hlet : c = 112 ∨ c = 116 ∨ c = 109) (hf : fgo c = nfg) (hn : ¬ nfg = 0) (hfl : flt (tx.drop (p + 1)) (p + 1) g nfg false = flt (tx.drop p2) p2 g 0 false) (htz : tz (c :: tx.drop (p + 1)) = (c, x1, x2, x3) :: tz (tx.drop p2)) : RI vb w3 m tx p2 g (ts ++ [(c, x1, x2, x3)]) := by
  obtain ⟨a1, a2, a3, a4, a5, a6, a7, a8, a9, a10, a11, a12, a13⟩ := h
  have hpl : p < tx.length := (dr_cons hd).1
  have o2 : ∀ a, a ≠ m → w2 a = w a := fun a ha => by rw [hw2, gu_2, gu_n _ _ ha]
  have k2 : ∀ k, k ≠ 7 → w2 m k = w m k := fun k hk => by rw [hw2, gu_2, gu_s, ud_n _ _ hk]
  have n32 : ¬ c = 32 := by rcases hlet with q | q | q <;> (rw [q]; decide)
  have n40 : ¬ c = 40 := by rcases hlet with q | q | q <;> (rw [q]; decide)
  have n41 : ¬ c = 41 := by rcases hlet with q | q | q <;> (rw [q]; decide)
  have hO2 : ORD w2 m ts := ⟨by rw [k2 9 (by decide)]; exact a5.1, a5.2.1, by rw [o2 _ (by omega), o2 _ (by omega), o2 _ (by omega), o2 _ (by omega)]; exact a5.2.2⟩
  have hO3 := hO2.add (by have := a1.2.1; omega) hc
  obtain ⟨c1, c2, c3, c4, c5, c6, c7, c8⟩ := hc
  have e11 : w3 (m + 11) = w (m + 11) := by rw [c3 _ (by omega) (by omega), o2 _ (by omega)]
  have e10 : w3 (m + 10) = upd (w (m + 10)) ts.length (-1) := by rw [c8, o2 _ (by omega)]
  refine ⟨⟨by rw [c2 6 (by decide) (by decide) (by decide), k2 6 (by decide)]; exact a1.1, a1.2.1, by rw [c3 _ (by omega) (by omega), o2 _ (by omega)]; exact a1.2.2⟩, h7, hp2, h8, hO3, by simp; omega, a7, ?_, ?_, by rw [e11]; exact a10.ltr n40 n41, ?_, fun a g1 g2 => ?_, fun k g1 g2 g3 => ?_⟩
  · rw [a8, hd, htz]; simp
  · rw [a9, hd, flt, if_neg n32, if_neg (by omega), if_neg (fun z => n40 z.1), if_neg (fun z => n41 z.1), hf, if_neg hn, hfl]
    congr 1
    simp
  · rw [e10, e11]
    exact a11.ltr n40 (fun b hb => ud_n _ _ (by omega))
  · rw [c3 a g1 (by omega), o2 a g1]; exact a12 a g1 g2
  · rw [c2 k g1 g2 g3, k2 k g1]; exact a13 k g1 g2 g3
