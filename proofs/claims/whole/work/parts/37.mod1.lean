/-! ===== the reference: its row of numbers ===== -/
def mz (N : Nat → Int32) (A : aS) (t : Int32) : Prop := N 0 = A.1 40 5 ∧ N 1 = A.1 40 6 ∧ N 2 = t ∧ N 3 = A.1 40 8 ∧ N 4 = nI (A.2 20).length ∧ (∀ i, i < (A.2 20).length → N (300 + i) = (A.2 20).getD i 0) ∧ (A.2 20).length ≤ 6
def mb (N : Nat → Int32) (b : Nat) (f : Nat → Int32) (li lq : List Int32) : Prop := N (10 + 24 * b + 0) = nI li.length ∧ N (10 + 24 * b + 1) = f 3 ∧ N (10 + 24 * b + 2) = f 4 ∧ N (10 + 24 * b + 3) = f 5 ∧ N (10 + 24 * b + 4) = f 6 ∧ N (10 + 24 * b + 5) = f 7 ∧ N (10 + 24 * b + 6) = f 8 ∧ N (10 + 24 * b + 7) = nI lq.length ∧ (∀ i, i < lq.length → N (10 + 24 * b + 8 + i) = lq.getD i 0) ∧ (∀ i, i < li.length → N (10 + 24 * b + 14 + i) = li.getD i 0) ∧ li.length ≤ 6 ∧ lq.length ≤ 6
def mg (N : Nat → Int32) (g : Nat) (f : Nat → Int32) : Prop := ∀ k, k < 4 → N (160 + 4 * g + k) = f k
def ms (N : Nat → Int32) (s : Nat) (S : Nat → Int32) : Prop := (∀ k, k < 7 → N (190 + 12 * s + k) = S k) ∧ (S 6 = 1 → N (190 + 12 * s + 7) = S 7) ∧ (¬ S 6 = 0 → N (190 + 12 * s + 8) = S 8) ∧ ∀ k, 9 ≤ k → k < 12 → N (190 + 12 * s + k) = S k
def mw (N : Nat → Int32) (w : Nat) (W : Nat → Int32) : Prop := N (270 + 5 * w + 0) = (if W 1 = -1 then 0 else 1) ∧ N (270 + 5 * w + 1) = W 0 ∧ N (270 + 5 * w + 2) = W 1 ∧ N (270 + 5 * w + 3) = W 2 ∧ N (270 + 5 * w + 4) = W 3
def MR (N : Nat → Int32) (A : aS) (t : Int32) (sn : Nat) : Prop := mz N A t ∧ (∀ b, b < 6 → mb N b (A.1 (10 + b)) (A.2 b) (A.2 (10 + b))) ∧ (∀ g, g < 7 → mg N g (A.1 g)) ∧ (∀ s, s < sn → ms N s (A.1 (20 + s))) ∧ (∀ s, sn ≤ s → s < 6 → ∀ k, k < 12 → N (190 + 12 * s + k) = 0) ∧ (∀ w, w < 6 → mw N w (A.1 (30 + w))) ∧ sn ≤ 6
/-- what lies outside lo .. hi stays -/
def nf2 (N N' : Nat → Int32) (lo hi : Nat) : Prop := ∀ i, (i < lo ∨ hi ≤ i) → N' i = N i
section MRS
variable {N N' : Nat → Int32} {A : aS} {t : Int32} {sn : Nat}
theorem mz.keep (h : mz N A t) (h1 : ∀ i, i < 10 → N' i = N i) (h2 : ∀ i, 300 ≤ i → i < 310 → N' i = N i) : mz N' A t := by
  obtain ⟨a, b, c, d, e, f, g⟩ := h
  exact ⟨by rw [h1 _ (by omega)]; exact a, by rw [h1 _ (by omega)]; exact b, by rw [h1 _ (by omega)]; exact c, by rw [h1 _ (by omega)]; exact d, by rw [h1 _ (by omega)]; exact e, fun i hi => by rw [h2 _ (by omega) (by omega)]; exact f i hi, g⟩
theorem mb.keep {b : Nat} {f : Nat → Int32} {li lq : List Int32} (h : mb N b f li lq) (h1 : ∀ i, 10 + 24 * b ≤ i → i < 34 + 24 * b → N' i = N i) : mb N' b f li lq := by
  obtain ⟨a0, a1, a2, a3, a4, a5, a6, a7, a8, a9, a10, a11⟩ := h
  refine ⟨?_, ?_, ?_, ?_, ?_, ?_, ?_, ?_, fun i hi => ?_, fun i hi => ?_, a10, a11⟩ <;> rw [h1 _ (by omega) (by omega)] <;> first | assumption | exact a8 i hi | exact a9 i hi
theorem mg.keep {g : Nat} {f : Nat → Int32} (h : mg N g f) (h1 : ∀ i, 160 + 4 * g ≤ i → i < 164 + 4 * g → N' i = N i) : mg N' g f := fun k hk => by rw [h1 _ (by omega) (by omega)]; exact h k hk
theorem ms.keep {s : Nat} {S : Nat → Int32} (h : ms N s S) (h1 : ∀ i, 190 + 12 * s ≤ i → i < 202 + 12 * s → N' i = N i) : ms N' s S :=
  ⟨fun k hk => by rw [h1 _ (by omega) (by omega)]; exact h.1 k hk, fun q => by rw [h1 _ (by omega) (by omega)]; exact h.2.1 q, fun q => by rw [h1 _ (by omega) (by omega)]; exact h.2.2.1 q, fun k q1 q2 => by rw [h1 _ (by omega) (by omega)]; exact h.2.2.2 k q1 q2⟩
theorem mw.keep {w : Nat} {W : Nat → Int32} (h : mw N w W) (h1 : ∀ i, 270 + 5 * w ≤ i → i < 275 + 5 * w → N' i = N i) : mw N' w W := by
  obtain ⟨a, b, c, d, e⟩ := h
  exact ⟨by rw [h1 _ (by omega) (by omega)]; exact a, by rw [h1 _ (by omega) (by omega)]; exact b, by rw [h1 _ (by omega) (by omega)]; exact c, by rw [h1 _ (by omega) (by omega)]; exact d, by rw [h1 _ (by omega) (by omega)]; exact e⟩
theorem MR.gate {g : Nat} {f : Nat → Int32} (h : MR N A t sn) (hg : g < 7) (hN : nf2 N N' (160 + 4 * g) (164 + 4 * g)) (hk : mg N' g f) : MR N' (sR A g f) t sn := by
  obtain ⟨h1, h2, h3, h4, h5, h6, h7⟩ := h
  have o : ∀ i, 7 ≤ i → (sR A g f).1 i = A.1 i := fun i hi => vu_n _ _ (by omega)
  refine ⟨?_, fun b hb => ?_, fun z hz => ?_, fun s hs => ?_, fun s q1 q2 k hk => ?_, fun w hw => ?_, h7⟩
  · have k := h1.keep (N' := N') (fun i hi => hN i (by omega)) (fun i a b => hN i (by omega))
    unfold mz at *
    rw [o 40 (by omega)]; exact k
  · rw [o _ (by omega)]; exact (h2 b hb).keep (fun i a b => hN i (by omega))
  · by_cases e : z = g
    · subst e; rw [sR_s]; exact hk
    · rw [show (sR A g f).1 z = A.1 z from vu_n _ _ e]; exact (h3 z hz).keep (fun i a b => hN i (by omega))
  · rw [o _ (by omega)]; exact (h4 s hs).keep (fun i a b => hN i (by omega))
  · rw [hN _ (by omega)]; exact h5 s q1 q2 k hk
  · rw [o _ (by omega)]; exact (h6 w hw).keep (fun i a b => hN i (by omega))
theorem MR.buf {b : Nat} {f : Nat → Int32} {li lq : List Int32} (h : MR N A t sn) (hb : b < 6) (hN : nf2 N N' (10 + 24 * b) (34 + 24 * b)) (hk : mb N' b f li lq) : MR N' (sB A b (A.1 b, f, li, lq)) t sn := by
  obtain ⟨h1, h2, h3, h4, h5, h6, h7⟩ := h
  have o : ∀ i, 16 ≤ i → (sB A b (A.1 b, f, li, lq)).1 i = A.1 i := fun i hi => sB_r _ _ _ _ (by omega) (by omega)
  have eb := gB_s A b (A.1 b, f, li, lq) hb
  refine ⟨?_, fun z hz => ?_, fun z hz => ?_, fun s hs => ?_, fun s q1 q2 k hk => ?_, fun w hw => ?_, h7⟩
  · have k := h1.keep (N' := N') (fun i hi => hN i (by omega)) (fun i a b => hN i (by omega))
    unfold mz at *
    rw [o 40 (by omega), sB_l _ _ _ _ (by omega) (by omega)]; exact k
  · by_cases e : z = b
    · subst e
      have e1 : (sB A z (A.1 z, f, li, lq)).1 (10 + z) = f := congrArg (fun q => q.2.1) eb
      have e2 : (sB A z (A.1 z, f, li, lq)).2 z = li := congrArg (fun q => q.2.2.1) eb
      have e3 : (sB A z (A.1 z, f, li, lq)).2 (10 + z) = lq := congrArg (fun q => q.2.2.2) eb
      rw [e1, e2, e3]; exact hk
    · rw [sB_r _ _ _ _ (by omega) (by omega), sB_l _ _ _ _ (by omega) (by omega), sB_l _ _ _ _ (by omega) (by omega)]
      exact (h2 z hz).keep (fun i a b => hN i (by omega))
  · have eg : (sB A b (A.1 b, f, li, lq)).1 z = A.1 z := by
      by_cases e : z = b
      · subst e; exact congrArg (fun q => q.1) eb
      · exact sB_r _ _ _ _ e (by omega)
    rw [eg]; exact (h3 z hz).keep (fun i a b => hN i (by omega))
  · rw [o _ (by omega)]; exact (h4 s hs).keep (fun i a b => hN i (by omega))
  · rw [hN _ (by omega)]; exact h5 s q1 q2 k hk
  · rw [o _ (by omega)]; exact (h6 w hw).keep (fun i a b => hN i (by omega))
theorem MR.stat {s : Nat} {S : Nat → Int32} (h : MR N A t sn) (hs : s < sn) (hN : nf2 N N' (190 + 12 * s) (202 + 12 * s)) (hk : ms N' s S) : MR N' (sR A (20 + s) S) t sn := by
  obtain ⟨h1, h2, h3, h4, h5, h6, h7⟩ := h
  have o : ∀ i, i ≠ 20 + s → (sR A (20 + s) S).1 i = A.1 i := fun i hi => vu_n _ _ hi
  refine ⟨?_, fun b hb => ?_, fun z hz => ?_, fun z hz => ?_, fun z q1 q2 k hk => ?_, fun w hw => ?_, h7⟩
  · have k := h1.keep (N' := N') (fun i hi => hN i (by omega)) (fun i a b => hN i (by omega))
    unfold mz at *
    rw [o 40 (by omega)]; exact k
  · rw [o _ (by omega)]; exact (h2 b hb).keep (fun i a b => hN i (by omega))
  · rw [o _ (by omega)]; exact (h3 z hz).keep (fun i a b => hN i (by omega))
  · by_cases e : z = s
    · subst e; rw [sR_s]; exact hk
    · rw [o _ (by omega)]; exact (h4 z hz).keep (fun i a b => hN i (by omega))
  · rw [hN _ (by omega)]; exact h5 z q1 q2 k hk
  · rw [o _ (by omega)]; exact (h6 w hw).keep (fun i a b => hN i (by omega))
theorem MR.work {w : Nat} {W : Nat → Int32} (h : MR N A t sn) (hw : w < 6) (hN : nf2 N N' (270 + 5 * w) (275 + 5 * w)) (hk : mw N' w W) : MR N' (sR A (30 + w) W) t sn := by
  obtain ⟨h1, h2, h3, h4, h5, h6, h7⟩ := h
  have o : ∀ i, i ≠ 30 + w → (sR A (30 + w) W).1 i = A.1 i := fun i hi => vu_n _ _ hi
  refine ⟨?_, fun b hb => ?_, fun z hz => ?_, fun z hz => ?_, fun z q1 q2 k hk => ?_, fun z hz => ?_, h7⟩
  · have k := h1.keep (N' := N') (fun i hi => hN i (by omega)) (fun i a b => hN i (by omega))
    unfold mz at *
    rw [o 40 (by omega)]; exact k
  · rw [o _ (by omega)]; exact (h2 b hb).keep (fun i a b => hN i (by omega))
  · rw [o _ (by omega)]; exact (h3 z hz).keep (fun i a b => hN i (by omega))
  · rw [o _ (by omega)]; exact (h4 z hz).keep (fun i a b => hN i (by omega))
  · rw [hN _ (by omega)]; exact h5 z q1 q2 k hk
  · by_cases e : z = w
    · subst e; rw [sR_s]; exact hk
    · rw [o _ (by omega)]; exact (h6 z hz).keep (fun i a b => hN i (by omega))
theorem MR.line {l : List Int32} (h : MR N A t sn) (hN : ∀ i, i ≠ 4 → (i < 300 ∨ 310 ≤ i) → N' i = N i) (h4 : N' 4 = nI l.length) (hk : ∀ i, i < l.length → N' (300 + i) = l.getD i 0) (hl : l.length ≤ 6) : MR N' (sL A 20 l) t sn := by
  obtain ⟨⟨m0, m1, m2, m3, m4, m5, m6⟩, h2, h3, h4', h5, h6, h7⟩ := h
  have o : ∀ i, i ≠ 20 → (sL A 20 l).2 i = A.2 i := fun i hi => vu_n _ _ hi
  have e : (sL A 20 l).2 20 = l := by simp only [sL]; exact vu_s _ _ _
  refine ⟨⟨?_, ?_, ?_, ?_, ?_, ?_, ?_⟩, fun b hb => ?_, fun z hz => ?_, fun z hz => ?_, fun z q1 q2 k hk => ?_, fun w hw => ?_, h7⟩
  · rw [hN _ (by omega) (by omega)]; exact m0
  · rw [hN _ (by omega) (by omega)]; exact m1
  · rw [hN _ (by omega) (by omega)]; exact m2
  · rw [hN _ (by omega) (by omega)]; exact m3
  · rw [e]; exact h4
  · rw [e]; exact hk
  · rw [e]; exact hl
  · rw [o _ (by omega), o _ (by omega)]; exact (h2 b hb).keep (fun i a b => hN i (by omega) (by omega))
  · exact (h3 z hz).keep (fun i a b => hN i (by omega) (by omega))
  · exact (h4' z hz).keep (fun i a b => hN i (by omega) (by omega))
  · rw [hN _ (by omega) (by omega)]; exact h5 z q1 q2 k hk
  · exact (h6 w hw).keep (fun i a b => hN i (by omega) (by omega))
/-- a number of the head -/
theorem MR.hd3 {z : Int32} (h : MR N A t sn) : MR (upd N 3 z) (sR A 40 (upd (A.1 40) 8 z)) t sn := by
  obtain ⟨⟨m0, m1, m2, m3, m4, m5, m6⟩, h2, h3, h4, h5, h6, h7⟩ := h
  have o : ∀ i, i ≠ 40 → (sR A 40 (upd (A.1 40) 8 z)).1 i = A.1 i := fun i hi => vu_n _ _ hi
  have e : (sR A 40 (upd (A.1 40) 8 z)).1 40 = upd (A.1 40) 8 z := sR_s _ _ _
  have n : ∀ i, i ≠ 3 → upd N 3 z i = N i := fun i hi => ud_n _ _ hi
  refine ⟨⟨?_, ?_, ?_, ?_, ?_, ?_, m6⟩, fun b hb => ?_, fun g hg => ?_, fun s hs => ?_, fun s q1 q2 k hk => ?_, fun w hw => ?_, h7⟩
  · rw [n _ (by decide), e, ud_n _ _ (by decide)]; exact m0
  · rw [n _ (by decide), e, ud_n _ _ (by decide)]; exact m1
  · rw [n _ (by decide)]; exact m2
  · rw [e, ud_s, ud_s]
  · rw [n _ (by decide)]; exact m4
  · intro i hi; rw [n _ (by omega)]; exact m5 i hi
  · rw [o _ (by omega)]; exact (h2 b hb).keep (fun i a b => n i (by omega))
  · rw [o _ (by omega)]; exact (h3 g hg).keep (fun i a b => n i (by omega))
  · rw [o _ (by omega)]; exact (h4 s hs).keep (fun i a b => n i (by omega))
  · rw [n _ (by omega)]; exact h5 s q1 q2 k hk
  · rw [o _ (by omega)]; exact (h6 w hw).keep (fun i a b => n i (by omega))
theorem MR.hd2 {z : Int32} (h : MR N A t sn) : MR (upd N 2 z) A z sn := by
  obtain ⟨⟨m0, m1, m2, m3, m4, m5, m6⟩, h2, h3, h4, h5, h6, h7⟩ := h
  have n : ∀ i, i ≠ 2 → upd N 2 z i = N i := fun i hi => ud_n _ _ hi
  refine ⟨⟨?_, ?_, ?_, ?_, ?_, ?_, m6⟩, fun b hb => ?_, fun g hg => ?_, fun s hs => ?_, fun s q1 q2 k hk => ?_, fun w hw => ?_, h7⟩
  · rw [n _ (by decide)]; exact m0
  · rw [n _ (by decide)]; exact m1
  · rw [ud_s]
  · rw [n _ (by decide)]; exact m3
  · rw [n _ (by decide)]; exact m4
  · intro i hi; rw [n _ (by omega)]; exact m5 i hi
  · exact (h2 b hb).keep (fun i a b => n i (by omega))
  · exact (h3 g hg).keep (fun i a b => n i (by omega))
  · exact (h4 s hs).keep (fun i a b => n i (by omega))
  · rw [n _ (by omega)]; exact h5 s q1 q2 k hk
  · exact (h6 w hw).keep (fun i a b => n i (by omega))
end MRS
/-- the reference at m -/
def msh (σ : gj_H) (m : Nat) : Prop := σ m = some (.inl (11, [some (some (m + 1)), some (some (m + 2)), none, some (some (m + 3)), some (some (m + 4)), some (some (m + 5)), none, none, none, none, some (some (m + 6)), some (some (m + 7)), some (some (m + 8)), some (some (m + 9)), some (some (m + 10)), some (some (m + 11)), some (some (m + 12))])) ∧ σ (m + 1) = some (sh_i 3) ∧ σ (m + 2) = some (sh_i 320) ∧ σ (m + 3) = some (sh_i 1920) ∧ σ (m + 4) = some (sh_i 324) ∧ σ (m + 5) = some (sh_i 120) ∧ σ (m + 6) = some (sh_i 120) ∧ σ (m + 7) = some (sh_i 120) ∧ σ (m + 8) = some (sh_i 120) ∧ σ (m + 9) = some (sh_i 120) ∧ σ (m + 10) = some (sh_i 120) ∧ σ (m + 11) = some (sh_i 5) ∧ σ (m + 12) = some (sh_i 5)
/-- the row of numbers has changed, nothing else -/
def mc (v v' : gj_V) (m : Nat) (A : aS) (t : Int32) (sn : Nat) : Prop := ∃ N, v' = gj_up v (m + 2) N ∧ MR N A t sn
theorem mc.M {v v' : gj_V} {m sn : Nat} {A : aS} {t : Int32} (h : mc v v' m A t sn) : MR (v' (m + 2)) A t sn := by
  obtain ⟨N, rfl, h⟩ := h
  rw [gu_s]; exact h
theorem mc.tr {v v1 v2 : gj_V} {m sn sn' : Nat} {A A' : aS} {t t' : Int32} (h1 : mc v v1 m A t sn) (h2 : mc v1 v2 m A' t' sn') : mc v v2 m A' t' sn' := by
  obtain ⟨N, rfl, h⟩ := h1
  obtain ⟨N', rfl, h'⟩ := h2
  exact ⟨N', gu_u _ _ _ _, h'⟩
theorem mc.rf {v : gj_V} {m sn : Nat} {A : aS} {t : Int32} (h : MR (v (m + 2)) A t sn) : mc v v m A t sn := ⟨v (m + 2), (gu_id _ _).symm, h⟩
theorem mc.o {v v' : gj_V} {m sn : Nat} {A : aS} {t : Int32} (h : mc v v' m A t sn) (a : Nat) (ha : a ≠ m + 2) : v' a = v a := by
  obtain ⟨N, rfl, h⟩ := h
  exact gu_n _ _ ha
