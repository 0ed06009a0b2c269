/-! ===== reading: what stands at each turn ===== -/
def RI (vb w : gj_V) (m : Nat) (tx : List Int32) (p g : Nat) (ts : List tok) : Prop := TXm w m tx ∧ w m 7 = nI p ∧ p ≤ tx.length ∧ w m 8 = 0 ∧ ORD w m ts ∧ ts.length ≤ p ∧ g ≤ 4 ∧ tz tx = ts ++ tz (tx.drop p) ∧ flt tx 0 0 0 true = flt (tx.drop p) p g 0 ts.isEmpty ∧ OPN (w (m + 11)) g ts ∧ MTS (w (m + 10)) (w (m + 11)) g ts ∧ (∀ a, a ≠ m → (a < m + 6 ∨ m + 12 ≤ a) → w a = vb a) ∧ ∀ k, k ≠ 7 → k ≠ 8 → k ≠ 9 → w m k = vb m k
/-- moved to the byte that comes next -/
theorem RI.spk {vb w w1 : gj_V} {m p p1 g : Nat} {tx : List Int32} {ts : List tok} (h : RI vb w m tx p g ts) (h1 : p ≤ p1) (h2 : p1 ≤ tx.length) (h3 : tx.drop p1 = spk (tx.drop p)) (hw : w1 = gj_up2 w m 7 (nI p1)) : RI vb w1 m tx p1 g ts := by
  obtain ⟨a1, a2, a3, a4, a5, a6, a7, a8, a9, a10, a11, a12, a13⟩ := h
  have o : ∀ a, a ≠ m → w1 a = w a := fun a ha => by rw [hw, gu_2, gu_n _ _ ha]
  have ok : ∀ k, k ≠ 7 → w1 m k = w m k := fun k hk => by rw [hw, gu_2, gu_s, ud_n _ _ hk]
  refine ⟨⟨by rw [ok 6 (by decide)]; exact a1.1, a1.2.1, by rw [o _ (by omega)]; exact a1.2.2⟩, by rw [hw, gu_2, gu_s, ud_s], h2, by rw [ok 8 (by decide)]; exact a4, ⟨by rw [ok 9 (by decide)]; exact a5.1, a5.2.1, by rw [o _ (by omega), o _ (by omega), o _ (by omega), o _ (by omega)]; exact a5.2.2⟩, by omega, a7, by rw [h3, tz_spk]; exact a8, ?_, by rw [o _ (by omega)]; exact a10, by rw [o _ (by omega), o _ (by omega)]; exact a11, fun a g1 g2 => by rw [o a g1]; exact a12 a g1 g2, fun k g1 g2 g3 => by rw [ok k g1]; exact a13 k g1 g2 g3⟩
  rw [a9, flt_spk, h3]
  have hl := congrArg List.length h3
  have := spk_len (tx.drop p)
  simp only [List.length_drop] at hl this ⊢
  congr 1
  omega
/-- the end of the text -/
theorem RI.fin {vb w : gj_V} {m p g : Nat} {tx : List Int32} {ts : List tok} (h : RI vb w m tx p g ts) (hd : tx.drop p = []) : (g = 0 → ¬ ts = [] → flt tx 0 0 0 true = none ∧ ORD w m (tz tx) ∧ MAT w m (tz tx)) ∧ (0 < g ∨ ts = [] → flt tx 0 0 0 true = some p) := by
  obtain ⟨a1, a2, a3, a4, a5, a6, a7, a8, a9, a10, a11, a12, a13⟩ := h
  rw [hd] at a8 a9
  have et : tz tx = ts := by rw [a8]; simp [tz, tkz]
  refine ⟨fun hg hts => ?_, fun hq => ?_⟩
  · subst hg
    have ee : ts.isEmpty = false := by rw [List.isEmpty_eq_false_iff]; exact hts
    refine ⟨by rw [a9, flt, ee, if_neg (by simp)], by rw [et]; exact a5, ?_⟩
    rw [et]
    intro b o hb ho
    rcases a11 b o hb ho with ⟨j, hj, -⟩ | ⟨e, e1, e2, e3⟩
    · exact absurd hj (by omega)
    · have := e3 []
      simp only [List.append_nil] at this
      exact ⟨e, e1, e2, this⟩
  · rw [a9, flt, if_pos]
    rcases hq with q | q
    · exact Or.inr (Or.inr q)
    · exact Or.inl (by rw [q]; rfl)
