/-! ===== invariants of a value begun anew, of one that agrees ===== -/
theorem IV_agr {C A : aS} {n sn : Nat} (h : IV C n sn) (g : agr C A) : IV A n sn := by
  obtain ⟨g1, g2, g3, g4, g5, g6, g7, g8⟩ := g
  obtain ⟨hB, ⟨s1, s2, s3, s4, s5, s6⟩, ⟨w1, w2, w3, w4⟩, ⟨q1, q2, q3⟩⟩ := h
  refine ⟨fun b hb => ?_, ⟨by rw [g5]; exact s1, by rw [g6]; exact s2, s3, s4, s5, fun s hs => ?_⟩, ⟨fun w hw => ?_, by rw [g8]; exact w2, by rw [g8]; exact w3, by rw [g8]; exact w4⟩, ⟨fun b hb => ?_, fun b c hb hc hbc => ?_, fun b h1 h2 => ?_⟩⟩
  · have k := hB b hb
    obtain ⟨-, k2, k3, k4⟩ := g1 b hb
    unfold ivb gB at *
    dsimp only at *
    rw [k2 3 (by omega) (by omega), k3]; exact k
  · have k := g2 s (by omega)
    have h := s6 s hs
    unfold ivs at *
    rw [k 0 (by omega), k 1 (by omega), k 2 (by omega), k 4 (by omega), k 5 (by omega), k 6 (by omega), k 7 (by omega), k 8 (by omega)]; exact h
  · have k := g3 w hw
    have h := w1 w hw
    unfold noW ivw at *
    rw [k 0 (by omega), k 1 (by omega), k 2 (by omega), g8]; exact h
  · rw [(g1 b hb).2.2.2]; exact q1 b hb
  · rw [(g1 b hb).2.2.2, (g1 c hc).2.2.2]; exact q2 b c hb hc hbc
  · rw [(g1 b h2).2.2.2, (g1 b h2).1 0 (by omega)]; exact q3 b h1 h2
theorem IV_nwr {k : Int32} {A : aS} (h : nwr k A) (hk : in_ k 1 6) : ∃ n, IV A n 0 := by
  obtain ⟨g1, g2, g3, g4, g5, g6, g7⟩ := h
  obtain ⟨n, hn, rfl⟩ := nI_of2 (n := 6) (M := 6) (by decide) (fun z => absurd (Int32.le_trans hk.1 (Int32.le_of_lt z)) (by decide)) hk.2
  have hn1 : 1 ≤ n := gn_le (n := 1) hk.1 (by omega)
  refine ⟨n, fun b hb => ?_, ⟨g4, g5, hn1, hn, by omega, fun s hs => absurd hs (by omega)⟩, ⟨fun w hw => Or.inl ⟨⟨(g2 w hw).1, (g2 w hw).2.1, (g2 w hw).2.2.1⟩, by rw [g7]; simp⟩, by rw [g7]; simp, by rw [g7]; simp, by rw [g7]; simp⟩, ⟨fun b hb => ?_, fun b c hb hc hbc => ?_, fun b h1 h2 => ?_⟩⟩
  · obtain ⟨-, ⟨k3, -⟩, e1, -⟩ := g1 b hb
    unfold ivb gB
    dsimp only
    rw [k3, e1]
    exact ⟨by decide, by simp, by simp⟩
  · rw [(g1 b hb).2.2.2]; simp
  · rw [(g1 b hb).2.2.2]; simp
  · exact ⟨(g1 b h2).2.2.2, (g1 b h2).1 0 (by omega)⟩
/-- the states kept: all as they may be -/
def ivH (l : List (aS × Int32)) : Prop := ∀ p ∈ l, ∃ n sn, IV p.1 n sn
theorem ivH_push {l : List (aS × Int32)} {A : aS} {t : Int32} {n sn : Nat} (h : ivH l) (hA : IV A n sn) : ivH (h_push l (A, t)) := by
  intro p hp
  unfold h_push at hp
  split at hp
  · rcases List.mem_append.mp hp with hp | hp
    · exact h p hp
    · rw [List.mem_singleton.mp hp]; exact ⟨n, sn, hA⟩
  · rcases List.mem_append.mp hp with hp | hp
    · exact h p (List.mem_of_mem_drop hp)
    · rw [List.mem_singleton.mp hp]; exact ⟨n, sn, hA⟩
theorem iv_does {A : aS} {n sn : Nat} {tx : List Int32} (h : IV A n sn) (hfl : flt tx 0 0 0 true = none) : IV (z_does A tx).2 n sn :=
  iv_run _ _ _ _ _ _ (iv_in6 h) (ivL_in h.1 (fun q hq => absurd hq (by simp))) (tkF_tz _ _ _ _ _ (Nat.le_refl _) hfl)
