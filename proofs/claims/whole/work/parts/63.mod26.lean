/-! ===== the reference: doing all orders ===== -/
def bal : Nat → List tok → Prop
  | g, [] => g = 0
  | g, o :: r => if o.1 = 40 then g < 4 ∧ bal (g + 1) r else if o.1 = 41 then 0 < g ∧ bal (g - 1) r else (o.1 = 112 ∨ o.1 = 116 ∨ o.1 = 109) ∧ (0 ≤ o.2.2.1 ∧ o.2.2.1 ≤ 9) ∧ (∃ q, q ≤ 9 ∧ o.2.2.2 = nI q) ∧ bal g r
theorem bal_tz : ∀ (k : Nat) (r : List Int32) (i g : Nat) (e : Bool), r.length ≤ k → flt r i g 0 e = none → bal g (tz r)
  | k, [], i, g, e, _, h => by
    unfold flt at h
    split at h
    · exact absurd h (by simp)
    · rename_i hn
      show g = 0
      omega
  | k + 1, c :: r, i, g, e, hk, h => by
    simp only [List.length_cons] at hk
    rcases flt_c h with ⟨hc, h⟩ | ⟨hc, hg, h⟩ | ⟨hc, hg, h⟩ | ⟨hc, h⟩ | ⟨hc, h⟩ | ⟨hc, h⟩
    · rw [tz_32 hc]; exact bal_tz k r _ _ _ (by omega) h
    · rw [tz_par (Or.inl hc)]; unfold bal; rw [if_pos hc]; exact ⟨hg, bal_tz k r _ _ _ (by omega) h⟩
    · rw [tz_par (Or.inr hc)]; unfold bal; rw [if_neg (by rw [hc]; decide), if_pos hc]; exact ⟨hg, bal_tz k r _ _ _ (by omega) h⟩
    · obtain ⟨-, a2, i1, a3⟩ := nf_ok r _ g 1 _ h
      obtain ⟨⟨a, ha, ea⟩, b2, i2, b3⟩ := nf_ok _ _ g 0 _ a3
      rw [tz_p hc]; unfold bal; rw [if_neg (show ¬ c = 40 by rw [hc]; decide), if_neg (show ¬ c = 41 by rw [hc]; decide)]
      exact ⟨Or.inl hc, by dsimp only; rw [ea]; exact gn_09' ha, ⟨0, by omega, rfl⟩, bal_tz k _ _ _ _ (by omega) b3⟩
    · obtain ⟨-, a2, i1, a3⟩ := nf_ok r _ g 0 _ h
      rw [tz_t hc]; unfold bal; rw [if_neg (show ¬ c = 40 by rw [hc]; decide), if_neg (show ¬ c = 41 by rw [hc]; decide)]
      exact ⟨Or.inr (Or.inl hc), ⟨show (0 : Int32) ≤ 0 by decide, show (0 : Int32) ≤ 9 by decide⟩, ⟨0, by omega, rfl⟩, bal_tz k _ _ _ _ (by omega) a3⟩
    · obtain ⟨-, a2, i1, a3⟩ := nf_ok r _ g 2 _ h
      obtain ⟨⟨a, ha, ea⟩, b2, i2, b3⟩ := nf_ok _ _ g 1 _ a3
      obtain ⟨⟨d, hd, ed⟩, c2, i3, c3⟩ := nf_ok _ _ g 0 _ b3
      rw [tz_m hc]; unfold bal; rw [if_neg (show ¬ c = 40 by rw [hc]; decide), if_neg (show ¬ c = 41 by rw [hc]; decide)]
      exact ⟨Or.inr (Or.inr hc), by dsimp only; rw [ea]; exact gn_09' ha, ⟨d, hd, ed⟩, bal_tz k _ _ _ _ (by omega) c3⟩
theorem bal_sk : ∀ (r : List tok) (g j : Nat), bal g r → j ≤ g → bal (g - j) (skT j r)
  | r, g, 0, h, _ => by rw [skT_0]; exact h
  | [], g, j + 1, h, hj => by have : g = 0 := h; omega
  | o :: r, g, j + 1, h, hj => by
    unfold bal at h
    simp only [skT]
    by_cases h4 : o.1 = 40
    · rw [if_pos h4] at h ⊢
      have := bal_sk r (g + 1) (j + 2) h.2 (by omega)
      rw [show g + 1 - (j + 2) = g - (j + 1) by omega] at this
      exact this
    · rw [if_neg h4] at h ⊢
      by_cases h5 : o.1 = 41
      · rw [if_pos h5] at h ⊢
        have := bal_sk r (g - 1) j h.2 (by omega)
        rw [show g - 1 - j = g - (j + 1) by omega] at this
        exact this
      · rw [if_neg h5] at h ⊢
        exact bal_sk r g (j + 1) h.2.2.2 hj
theorem skT_skT : ∀ (r : List tok) (i j : Nat), skT i (skT j r) = skT (i + j) r
  | r, i, 0 => by rw [skT_0]; rfl
  | [], i, j + 1 => by cases i <;> rfl
  | o :: r, i, j + 1 => by
    rw [show i + (j + 1) = (i + j) + 1 by omega]
    simp only [skT]
    split
    · rw [skT_skT r i (j + 2)]; rfl
    · split
      · exact skT_skT r i j
      · rw [skT_skT r i (j + 1)]; rfl
/-- each ( has its mate -/
def MAT (v : gj_V) (m : Nat) (ts : List tok) : Prop := ∀ (b : Nat) (o : tok), ts[b]? = some o → o.1 = 40 → ∃ e, v (m + 10) b = nI e ∧ e < ts.length ∧ skT 1 (ts.drop (b + 1)) = ts.drop (e + 1)
/-- what stands while the orders are done: level s.length - 1, at place i -/
def DA (v0 v : gj_V) (m sn : Nat) (ts : List tok) (A : aS) (t : Int32) (s : stk) (i : Nat) : Prop :=
  MR (v (m + 2)) A t sn ∧ (∀ a, a ≠ m + 2 → a ≠ m + 4 → a ≠ m + 11 → a ≠ m + 12 → v a = v0 a) ∧ (∀ (j : Nat) (q : (Nat → List Int32) × Int32), s.reverse[j]? = some q → asd (v (m + 4)) j q.1 ∧ v (m + 12) j = q.2) ∧ ∀ j, j + 1 < s.length → ∃ b o, ts[b]? = some o ∧ o.1 = 40 ∧ v (m + 11) j = nI b ∧ skT 1 (ts.drop (b + 1)) = skT (s.length - 1 - j) (ts.drop i)
theorem DA.now {v0 v v' : gj_V} {m sn i : Nat} {ts : List tok} {A A' : aS} {t : Int32} {s : stk} (h : DA v0 v m sn ts A t s i) (hc : mc v v' m A' t sn) : DA v0 v' m sn ts A' t s i := by
  obtain ⟨h1, h2, h3, h4⟩ := h
  have o := fun a ha => hc.o a ha
  refine ⟨hc.M, fun a g1 g2 g3 g4 => by rw [o a g1]; exact h2 a g1 g2 g3 g4, fun j q hj => ?_, fun j hj => ?_⟩
  · rw [o _ (by omega), o _ (by omega)]; exact h3 j q hj
  · rw [o _ (by omega)]; exact h4 j hj
theorem DA.step {v0 v : gj_V} {m sn i : Nat} {ts : List tok} {A : aS} {t : Int32} {s : stk} {o : tok} (h : DA v0 v m sn ts A t s i) (ho : ts[i]? = some o) (h4 : ¬ o.1 = 40) (h5 : ¬ o.1 = 41) : DA v0 v m sn ts A t s (i + 1) := by
  obtain ⟨h1, h2, h3, h6⟩ := h
  refine ⟨h1, h2, h3, fun j hj => ?_⟩
  obtain ⟨b, q, g1, g2, g3, g4⟩ := h6 j hj
  refine ⟨b, q, g1, g2, g3, ?_⟩
  have hi := (List.getElem?_eq_some_iff.mp ho)
  obtain ⟨hi, he⟩ := hi
  rw [g4, List.drop_eq_getElem_cons hi, he]
  obtain ⟨k, hk⟩ : ∃ k, s.length - 1 - j = k + 1 := ⟨s.length - 1 - j - 1, by omega⟩
  rw [hk]
  simp only [skT]
  rw [if_neg h4, if_neg h5]
