/-! ===== stations ===== -/
abbrev iN (x : Int32) : Nat := x.toNatClampNeg
theorem iN_n {i : Nat} (h : i < 100) : iN (nI i) = i := nI_clamp (by omega)
/-- what no step of a buffer touches -/
def co (A C : aS) : Prop := (∀ i, 16 ≤ i → C.1 i = A.1 i) ∧ ∀ i, 6 ≤ i → C.2 i = A.2 i
theorem co.rf (A : aS) : co A A := ⟨fun _ _ => rfl, fun _ _ => rfl⟩
theorem co.tr {A C D : aS} (h1 : co A C) (h2 : co C D) : co A D := ⟨fun i hi => (h2.1 i hi).trans (h1.1 i hi), fun i hi => (h2.2 i hi).trans (h1.2 i hi)⟩
theorem co_R {A : aS} {g : Nat} {f : Nat → Int32} (hg : g < 16) : co A (sR A g f) := ⟨fun i hi => by simp only [sR]; exact vu_n _ _ (by omega), fun i hi => rfl⟩
theorem co_s {A : aS} {b : Nat} {B : bS} (hb : b < 6) (hq : B.2.2.2 = A.2 (10 + b)) : co A (sB A b B) := by
  refine ⟨fun i hi => sB_r _ _ _ _ (by omega) (by omega), fun i hi => ?_⟩
  simp only [sB]
  rw [hq]
  by_cases e : i = 10 + b
  · subst e; rw [vu_s]
  · rw [vu_n _ _ e, vu_n _ _ (by omega)]
theorem b_put_q (B : bS) (k w : Int32) : (b_put B k w).2.2.2.2 = B.2.2.2 := by unfold b_put; split <;> rfl
theorem b_take_q (B : bS) (w : Int32) : (b_take B w).2.2.2.2 = B.2.2.2 := by unfold b_take; split <;> rfl
theorem co_put {A : aS} {b : Nat} {k w : Int32} (hb : b < 6) : co A (a_put A b k w).2 := co_s hb (b_put_q _ _ _)
theorem co_take {A : aS} {b : Nat} {w : Int32} (hb : b < 6) : co A (a_take A b w).2 := co_s hb (b_take_q _ _)
theorem co_give {A : aS} {b : Nat} (hb : b < 6) : co A (a_give A b).2 := co_s hb rfl
theorem co_two {A : aS} {lo hi : Nat} {b : Bool} (h1 : lo < 6) (h2 : hi < 6) : co A (a_two A lo hi b) := by
  unfold a_two
  split
  · exact (co_R (by omega)).tr (co_R (by omega))
  · exact (co_R (by omega)).tr (co_R (by omega))
theorem co_L {A : aS} {b : Nat} {l : List Int32} (hb : b < 6) : co A (sL A b l) := ⟨fun i hi => rfl, fun i hi => by simp only [sL]; exact vu_n _ _ (by omega)⟩
theorem co_mv1 {A : aS} {i j : Nat} (hi : i < 6) (hj : j < 6) : co A (a_mv1 A i j).2 := by
  unfold a_mv1
  split
  · exact co_take hi
  · split
    · exact ((co_take hi).tr (co_put hj)).tr (co_L hi)
    · exact (co_take hi).tr (co_put hj)
theorem co_mvs {i j : Nat} (hi : i < 6) (hj : j < 6) : ∀ (n : Nat) (A : aS), co A (a_mvs i j n A).2
  | 0, A => co.rf A
  | n + 1, A => by
    unfold a_mvs
    split
    · exact co_mv1 hi hj
    · exact (co_mv1 hi hj).tr (co_mvs hi hj n _)
theorem co_move {A : aS} {i j n : Nat} (hi : i < 6) (hj : j < 6) : co A (a_move A i j n).2 :=
  (((co_R (by omega)).tr (co_R (by omega))).tr (co_mvs hi hj n _)).tr (co_two (by omega) (by omega))
/-- a station as it may be -/
def ivs (n : Nat) (S : Nat → Int32) : Prop := (∃ i, i < n ∧ S 0 = nI i) ∧ (S 1 = -1 ∨ ∃ j, j < n ∧ S 1 = nI j) ∧ (∃ o, o < n ∧ S 2 = nI o) ∧ (0 ≤ S 4 ∧ S 4 ≤ 9) ∧ (S 5 = -1 ∨ ∃ g, g < n ∧ S 5 = nI g) ∧ (S 6 = 0 ∧ S 7 = 0 ∧ S 8 = -1 ∨ S 6 = 1 ∧ (0 ≤ S 8 ∧ S 8 ≤ 9) ∨ S 6 = 2 ∧ S 7 = 0 ∧ (0 ≤ S 8 ∧ S 8 ≤ 9))
def ivS (A : aS) (n sn : Nat) : Prop := A.1 40 5 = nI n ∧ A.1 40 6 = nI sn ∧ 1 ≤ n ∧ n ≤ 6 ∧ sn ≤ 6 ∧ ∀ s, s < sn → ivs n (A.1 (20 + s))
theorem ivS_co {A C : aS} {n sn : Nat} (h : ivS A n sn) (hc : co A C) : ivS C n sn := by
  obtain ⟨h1, h2, h3, h4, h5, h6⟩ := h
  exact ⟨by rw [hc.1 40 (by omega)]; exact h1, by rw [hc.1 40 (by omega)]; exact h2, h3, h4, h5, fun s hs => by rw [hc.1 _ (by omega)]; exact h6 s hs⟩
theorem ivS_st {A : aS} {n sn s : Nat} {f : Nat → Int32} (h : ivS A n sn) (hs : s < 6) (hf : ivs n f) : ivS (sR A (20 + s) f) n sn := by
  obtain ⟨h1, h2, h3, h4, h5, h6⟩ := h
  refine ⟨?_, ?_, h3, h4, h5, fun z hz => ?_⟩
  · simp only [sR]; rw [vu_n _ _ (by omega)]; exact h1
  · simp only [sR]; rw [vu_n _ _ (by omega)]; exact h2
  · simp only [sR]
    by_cases e : z = s
    · subst e; rw [vu_s]; exact hf
    · rw [vu_n _ _ (by omega)]; exact h6 z hz
theorem ivS_40 {A : aS} {n sn k : Nat} {x : Int32} (h : ivS A n sn) (h5' : k ≠ 5) (h6' : k ≠ 6) : ivS (sR A 40 (upd (A.1 40) k x)) n sn := by
  obtain ⟨h1, h2, h3, h4, h5, h6⟩ := h
  refine ⟨?_, ?_, h3, h4, h5, fun z hz => ?_⟩
  · simp only [sR]; rw [vu_s, ud_n _ _ (Ne.symm h5')]; exact h1
  · simp only [sR]; rw [vu_s, ud_n _ _ (Ne.symm h6')]; exact h2
  · simp only [sR]; rw [vu_n _ _ (by omega)]; exact h6 z hz
theorem gn_m1 {j : Nat} (h : j < 100) : ¬ nI j = -1 := by
  intro e
  have := congrArg Int32.toInt e
  rw [nI_toInt (by omega)] at this
  have h2 : (-1 : Int32).toInt = -1 := by decide
  omega
theorem gn_m5 {j : Nat} (h : j < 100) : ¬ nI j = -5 := by
  intro e
  have := congrArg Int32.toInt e
  rw [nI_toInt (by omega)] at this
  have h2 : (-5 : Int32).toInt = -5 := by decide
  omega
theorem a_has_n {A : aS} {n j : Nat} (h : A.1 40 5 = nI n) (hj : j < n) (hn : n < 100) : a_has A (nI j) := ⟨nI_pos (by omega), by rw [h]; exact nI_ge hj (by omega)⟩
theorem a_has_m1 {A : aS} : ¬ a_has A (-1) := fun h => h.1 (by decide)
theorem a_has_of {A : aS} {n : Nat} {b : Int32} (h : A.1 40 5 = nI n) (hn : n < 100) (hb : a_has A b) : ∃ j, j < n ∧ b = nI j := gn_ix (by omega) hb.1 (by rw [← h]; exact hb.2)
theorem gn_09 {x : Int32} (h : 0 ≤ x ∧ x ≤ 9) : ∃ a, a ≤ 9 ∧ x = nI a := nI_of2 (by decide) (Int32.not_lt.mpr h.1) h.2
theorem gn_09' {a : Nat} (h : a ≤ 9) : 0 ≤ nI a ∧ nI a ≤ 9 := ⟨nI_pos' (by omega), nI_le h (by decide)⟩
theorem ivs_on {n : Nat} {S : Nat → Int32} (h : ivs n S) : ivs n (as_on S) := by
  obtain ⟨h0, h1, h2, h4, h5, h6⟩ := h
  unfold as_on
  split
  · rename_i e6
    have h8 : 0 ≤ S 8 ∧ S 8 ≤ 9 := by
      rcases h6 with h | h | h
      · rw [h.1] at e6; exact absurd e6 (by decide)
      · exact h.2
      · exact h.2.2
    split
    · rename_i e7
      refine ⟨?_, ?_, ?_, ?_, ?_, ?_⟩ <;> simp only [upd] <;> simp only [Nat.reduceEqDiff, if_true, if_false, reduceIte] <;> first | exact h0 | exact h1 | exact h2 | exact h4 | exact h5 | skip
      exact Or.inr (Or.inr ⟨trivial, e7, h8⟩)
    · refine ⟨?_, ?_, ?_, ?_, ?_, ?_⟩ <;> simp only [upd] <;> simp only [Nat.reduceEqDiff, if_true, if_false, reduceIte] <;> first | exact h0 | exact h1 | exact h2 | exact h4 | exact h5 | skip
      exact Or.inr (Or.inl ⟨e6, h8⟩)
  · exact ⟨h0, h1, h2, h4, h5, h6⟩
theorem ivs_idle {n : Nat} {S : Nat → Int32} {x : Int32} (h : ivs n S) : ivs n (upd (as_idle S) 9 x) := by
  obtain ⟨h0, h1, h2, h4, h5, h6⟩ := h
  unfold as_idle
  refine ⟨?_, ?_, ?_, ?_, ?_, ?_⟩ <;> simp only [upd] <;> simp only [Nat.reduceEqDiff, if_true, if_false, reduceIte] <;> first | exact h0 | exact h1 | exact h2 | exact h4 | exact h5 | skip
  exact Or.inl ⟨trivial, trivial, trivial⟩
theorem ivs_held {n k : Nat} {S : Nat → Int32} {x : Int32} (h : ivs n S) (hk : 9 ≤ k) : ivs n (upd S k x) := by
  obtain ⟨h0, h1, h2, h4, h5, h6⟩ := h
  refine ⟨?_, ?_, ?_, ?_, ?_, ?_⟩
  · rw [ud_n _ _ (by omega)]; exact h0
  · rw [ud_n _ _ (by omega)]; exact h1
  · rw [ud_n _ _ (by omega)]; exact h2
  · rw [ud_n _ _ (by omega)]; exact h4
  · rw [ud_n _ _ (by omega)]; exact h5
  · rw [ud_n _ _ (by omega), ud_n _ _ (by omega), ud_n _ _ (by omega)]; exact h6
theorem gn_rem {a : Nat} (h : a < 1000) : nI a - nI a / 10 * 10 = nI (a % 10) := pk_rem (d := 10) (by omega) (by omega) (by decide)
theorem ivs_load {n : Nat} {S : Nat → Int32} {x : Int32} (h : ivs n S) (hx : x = -5 ∨ ∃ a, a ≤ 18 ∧ x = nI a) : ivs n (as_load S x) := by
  unfold as_load
  split
  · exact ivs_held h (by omega)
  · rename_i hne
    obtain ⟨h0, h1, h2, h4, h5, h6⟩ := h
    have h8 : 0 ≤ (x + S 4) - (x + S 4) / 10 * 10 ∧ (x + S 4) - (x + S 4) / 10 * 10 ≤ 9 := by
      rcases hx with hx | ⟨a, ha, rfl⟩
      · exact absurd hx hne
      · obtain ⟨c, hc, e⟩ := gn_09 h4
        rw [e, nI_add, gn_rem (by omega)]
        exact gn_09' (by omega)
    refine ⟨?_, ?_, ?_, ?_, ?_, ?_⟩ <;> simp only [upd] <;> simp only [Nat.reduceEqDiff, if_true, if_false, reduceIte] <;> first | exact h0 | exact h1 | exact h2 | exact h4 | exact h5 | skip
    exact Or.inr (Or.inl ⟨trivial, h8⟩)
/-! a station's steps -/
def a_dlv (A : aS) (s : Nat) : Int32 × aS :=
  if (a_put A (iN (A.1 (20 + s) 2)) (A.1 (20 + s) 8) (-1)).1 = 0 then (0, sR (a_put A (iN (A.1 (20 + s) 2)) (A.1 (20 + s) 8) (-1)).2 (20 + s) (upd (A.1 (20 + s)) 10 (A.1 (20 + s) 10 + 1)))
  else (1, sR (a_put A (iN (A.1 (20 + s) 2)) (A.1 (20 + s) 8) (-1)).2 (20 + s) (upd (as_idle (A.1 (20 + s))) 9 (A.1 (20 + s) 9 + 1)))
abbrev a_can (A : aS) (b : Nat) (nd : Int32) : Prop := nd ≤ nI (A.2 b).length ∧ A.1 (10 + b) 7 = -1
abbrev a_okp (A : aS) (lo hi : Nat) (nd : Int32) : Prop := a_can A lo nd ∧ a_can A hi nd
def a_p0 (A : aS) (i j : Nat) : aS := a_in (a_in A (min i j)) (max i j)
def a_p1 (C : aS) (lo hi : Nat) : Int32 × aS := ((a_give C lo).1 + (a_give (a_give C lo).2 hi).1, a_two (a_give (a_give C lo).2 hi).2 lo hi false)
def a_pair (A : aS) (i j : Nat) : Int32 × aS :=
  if a_okp A (min i j) (max i j) (if i = j then 2 else 1) then a_p1 (a_p0 A i j) (min i j) (max i j) else (-5, a_two (a_p0 A i j) (min i j) (max i j) true)
def a_get (A : aS) (s : Nat) : Int32 × aS := if A.1 (20 + s) 1 = -1 then a_take A (iN (A.1 (20 + s) 0)) (-1) else a_pair A (iN (A.1 (20 + s) 0)) (iN (A.1 (20 + s) 1))
def a_on (A : aS) (s : Nat) : aS := sR A (20 + s) (as_on (A.1 (20 + s)))
def a_w1 (A : aS) (s : Nat) : Int32 × aS := if (a_on A s).1 (20 + s) 6 = 2 then a_dlv (a_on A s) s else (0, a_on A s)
def a_wrk (A : aS) (s : Nat) : Int32 × aS :=
  if (a_w1 A s).2.1 (20 + s) 6 = 0 then ((a_w1 A s).1, sR (a_get (a_w1 A s).2 s).2 (20 + s) (as_load ((a_w1 A s).2.1 (20 + s)) (a_get (a_w1 A s).2 s).1)) else a_w1 A s
def a_ung (A : aS) : aS := sR A 40 (upd (A.1 40) 8 (A.1 40 8 + 1))
def a_tst (A : aS) (s : Nat) : Int32 × aS := if A.1 (20 + s) 5 = -1 then a_wrk (a_ung A) s else ((a_wrk (a_in A (iN (A.1 (20 + s) 5))) s).1, a_out (a_wrk (a_in A (iN (A.1 (20 + s) 5))) s).2 (iN (A.1 (20 + s) 5)))
def a_tks : Nat → Nat → aS → Int32 × aS
  | 0, _, A => (0, A)
  | k + 1, s, A => ((a_tst A s).1 + (a_tks k (s + 1) (a_tst A s).2).1, (a_tks k (s + 1) (a_tst A s).2).2)
theorem a_in_l (A : aS) (g i : Nat) : (a_in A g).2 i = A.2 i := rfl
theorem a_in_r {A : aS} {g i : Nat} (h : i ≠ g) : (a_in A g).1 i = A.1 i := vu_n _ _ h
theorem a_give_kind {A : aS} {b : Nat} (h : ivB A) (hb : b < 6) (hne : ¬ A.2 b = []) : 0 ≤ (a_give A b).1 ∧ (a_give A b).1 ≤ 9 := (h b hb).2.2 _ (gd_mem (List.length_pos_iff.mpr hne))
theorem l_ne {l : List Int32} {nd : Nat} (h : nI nd ≤ nI l.length) (h1 : 1 ≤ nd) (h2 : nd < 100) : ¬ l = [] := by
  intro e
  have := gn_le h (by omega)
  rw [e] at this
  simp at this
  omega
/-- the second of two is there -/
theorem a_pair_ne {A : aS} {i j : Nat} (h : ivB A) (hi : i < 6) (hj : j < 6) (hok : a_okp A (min i j) (max i j) (if i = j then 2 else 1)) : ¬ A.2 (min i j) = [] ∧ ¬ (a_give (a_p0 A i j) (min i j)).2.2 (max i j) = [] := by
  unfold a_p0
  by_cases e : i = j
  · subst e
    rw [if_pos rfl] at hok
    simp only [Nat.min_self, Nat.max_self] at *
    have hl := gn_le (n := 2) hok.1.1 (by decide)
    refine ⟨fun z => by rw [z] at hl; simp at hl, ?_⟩
    have e2 : (a_give (a_in (a_in A i) i) i).2.2 i = (A.2 i).eraseIdx 0 := by
      show (gB (a_give (a_in (a_in A i) i) i).2 i).2.2.1 = _
      rw [show (a_give (a_in (a_in A i) i) i).2 = sB (a_in (a_in A i) i) i (b_give (gB (a_in (a_in A i) i) i)).2 from rfl, gB_s _ _ _ hi]
      rfl
    rw [e2]
    intro z
    have h3 : ((A.2 i).eraseIdx 0).length = 0 := by rw [z]; rfl
    rw [List.length_eraseIdx, if_pos (by omega)] at h3
    omega
  · rw [if_neg e] at hok
    have hne : max i j ≠ min i j := by omega
    have e2 : (a_give (a_in (a_in A (min i j)) (max i j)) (min i j)).2.2 (max i j) = A.2 (max i j) := by
      show (sB (a_in (a_in A (min i j)) (max i j)) (min i j) _).2 (max i j) = _
      rw [sB_l _ _ _ _ hne (by omega)]
      rfl
    rw [e2]
    exact ⟨l_ne (nd := 1) hok.1.1 (by omega) (by omega), l_ne (nd := 1) hok.2.1 (by omega) (by omega)⟩
theorem ivB_give {A : aS} {b : Nat} (h : ivB A) (hb : b < 6) : ivB (a_give A b).2 := ivB_s h hb (ivb_give (h b hb))
theorem two_give {C : aS} {lo hi : Nat} (hI : ivB C) (hlo : lo < 6) (hhi : hi < 6) (n1 : ¬ C.2 lo = []) (n2 : ¬ (a_give C lo).2.2 hi = []) : ivB (a_give (a_give C lo).2 hi).2 ∧ co C (a_give (a_give C lo).2 hi).2 ∧ ∃ a, a ≤ 18 ∧ (a_give C lo).1 + (a_give (a_give C lo).2 hi).1 = nI a := by
  have hI1 : ivB (a_give C lo).2 := ivB_give hI hlo
  have c1 : co C (a_give C lo).2 := co_give hlo
  have k1 := a_give_kind hI hlo n1
  generalize a_give C lo = r at *
  have k2 := a_give_kind hI1 hhi n2
  have hI2 : ivB (a_give r.2 hi).2 := ivB_give hI1 hhi
  have c2 : co r.2 (a_give r.2 hi).2 := co_give hhi
  refine ⟨hI2, c1.tr c2, ?_⟩
  obtain ⟨a, ha, ea⟩ := gn_09 k1
  obtain ⟨c, hc, ec⟩ := gn_09 k2
  exact ⟨a + c, by omega, by rw [ea, ec, nI_add]⟩
theorem a_p0_ok {A : aS} {i j : Nat} (h : ivB A) (hi : i < 6) (hj : j < 6) : ivB (a_p0 A i j) ∧ co A (a_p0 A i j) ∧ (a_p0 A i j).2 = A.2 := by
  have c1 : co A (a_in A (min i j)) := co_R (by omega)
  have c2 : co (a_in A (min i j)) (a_in (a_in A (min i j)) (max i j)) := co_R (by omega)
  exact ⟨ivB_in (ivB_in h (by omega)) (by omega), c1.tr c2, rfl⟩
theorem a_p1_ok {C : aS} {lo hi : Nat} (hI : ivB C) (hlo : lo < 6) (hhi : hi < 6) (n1 : ¬ C.2 lo = []) (n2 : ¬ (a_give C lo).2.2 hi = []) : ivB (a_p1 C lo hi).2 ∧ co C (a_p1 C lo hi).2 ∧ ∃ a, a ≤ 18 ∧ (a_p1 C lo hi).1 = nI a := by
  obtain ⟨g1, g2, g3⟩ := two_give hI hlo hhi n1 n2
  unfold a_p1
  generalize a_give (a_give C lo).2 hi = r at *
  have c4 : co r.2 (a_two r.2 lo hi false) := co_two hlo hhi
  have g4 : ivB (a_two r.2 lo hi false) := ivB_two g1 (by omega) (by omega)
  have g5 := g2.tr c4
  dsimp only
  exact ⟨g4, g5, g3⟩
theorem a_pair_ok {A : aS} {i j : Nat} (h : ivB A) (hi : i < 6) (hj : j < 6) : ivB (a_pair A i j).2 ∧ co A (a_pair A i j).2 ∧ ((a_pair A i j).1 = -5 ∨ ∃ a, a ≤ 18 ∧ (a_pair A i j).1 = nI a) := by
  obtain ⟨p1, p2, p3⟩ := a_p0_ok h hi hj
  have hmi : min i j < 6 := by omega
  have hma : max i j < 6 := by omega
  by_cases hok : a_okp A (min i j) (max i j) (if i = j then 2 else 1)
  · obtain ⟨n1, n2⟩ := a_pair_ne h hi hj hok
    rw [← p3] at n1
    obtain ⟨g1, g2, g3⟩ := a_p1_ok p1 hmi hma n1 n2
    rw [show a_pair A i j = a_p1 (a_p0 A i j) (min i j) (max i j) from if_pos hok]
    exact ⟨g1, p2.tr g2, Or.inr g3⟩
  · rw [show a_pair A i j = (-5, a_two (a_p0 A i j) (min i j) (max i j) true) from if_neg hok]
    have c4 : co (a_p0 A i j) (a_two (a_p0 A i j) (min i j) (max i j) true) := co_two hmi hma
    have g4 : ivB (a_two (a_p0 A i j) (min i j) (max i j) true) := ivB_two p1 (by omega) (by omega)
    have g5 := p2.tr c4
    dsimp only
    exact ⟨g4, g5, Or.inl rfl⟩
