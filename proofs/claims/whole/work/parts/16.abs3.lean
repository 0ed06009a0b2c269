/-! ===== what a tick leaves as it was ===== -/
def nb (n : Nat) (A C : aS) : Prop := ∀ b, n ≤ b → b < 6 → C.1 b = A.1 b ∧ C.2 (10 + b) = A.2 (10 + b)
theorem nb.rf (n : Nat) (A : aS) : nb n A A := fun _ _ _ => ⟨rfl, rfl⟩
theorem nb.tr {n : Nat} {A C D : aS} (h1 : nb n A C) (h2 : nb n C D) : nb n A D := fun b hb h6 => ⟨(h2 b hb h6).1.trans (h1 b hb h6).1, (h2 b hb h6).2.trans (h1 b hb h6).2⟩
theorem nb_s {n c : Nat} {A : aS} {B : bS} (hc : c < n) (hn : n ≤ 6) : nb n A (sB A c B) := fun b hb h6 => ⟨sB_r _ _ _ _ (by omega) (by omega), sB_l _ _ _ _ (by omega) (by omega)⟩
theorem nb_R {n i : Nat} {A : aS} {f : Nat → Int32} (hi : i < n ∨ 6 ≤ i) : nb n A (sR A i f) := fun b hb h6 => ⟨by simp only [sR]; exact vu_n _ _ (by omega), rfl⟩
theorem nb_L {n i : Nat} {A : aS} {l : List Int32} (hi : i < 10 ∨ 16 ≤ i ∨ i < 10 + n) : nb n A (sL A i l) := fun b hb h6 => ⟨rfl, by simp only [sL]; exact vu_n _ _ (by omega)⟩
theorem nb_put {n b : Nat} {A : aS} {k w : Int32} (hb : b < n) (hn : n ≤ 6) : nb n A (a_put A b k w).2 := nb_s hb hn
theorem nb_take {n b : Nat} {A : aS} {w : Int32} (hb : b < n) (hn : n ≤ 6) : nb n A (a_take A b w).2 := nb_s hb hn
theorem nb_give {n b : Nat} {A : aS} (hb : b < n) (hn : n ≤ 6) : nb n A (a_give A b).2 := nb_s hb hn
theorem nb_two {n lo hi : Nat} {A : aS} {b : Bool} (h1 : lo < n) (h2 : hi < n) : nb n A (a_two A lo hi b) := by
  unfold a_two
  split
  · have c1 : nb n A (a_thr A hi) := nb_R (Or.inl h2)
    have c2 : nb n (a_thr A hi) (a_thr (a_thr A hi) lo) := nb_R (Or.inl h1)
    exact c1.tr c2
  · have c1 : nb n A (a_out A hi) := nb_R (Or.inl h2)
    have c2 : nb n (a_out A hi) (a_out (a_out A hi) lo) := nb_R (Or.inl h1)
    exact c1.tr c2
theorem nb_mv1 {n i j : Nat} {A : aS} (hi : i < n) (hj : j < n) (hn : n ≤ 6) : nb n A (a_mv1 A i j).2 := by
  unfold a_mv1
  have c1 : nb n A (a_take A i (-1)).2 := nb_take hi hn
  have c2 : nb n (a_take A i (-1)).2 (a_put (a_take A i (-1)).2 j (a_take A i (-1)).1 (-1)).2 := nb_put hj hn
  split
  · exact c1
  · split
    · have c3 : nb n _ (sL (a_put (a_take A i (-1)).2 j (a_take A i (-1)).1 (-1)).2 i ((a_take A i (-1)).1 :: (a_put (a_take A i (-1)).2 j (a_take A i (-1)).1 (-1)).2.2 i)) := nb_L (Or.inl (by omega))
      exact (c1.tr c2).tr c3
    · exact c1.tr c2
theorem nb_mvs {n i j : Nat} (hi : i < n) (hj : j < n) (hn : n ≤ 6) : ∀ (m : Nat) (A : aS), nb n A (a_mvs i j m A).2
  | 0, A => nb.rf n A
  | m + 1, A => by
    unfold a_mvs
    split
    · exact nb_mv1 hi hj hn
    · exact (nb_mv1 hi hj hn).tr (nb_mvs hi hj hn m _)
theorem nb_p0 {n i j : Nat} {A : aS} (hi : i < n) (hj : j < n) : nb n A (a_p0 A i j) := by
  have c1 : nb n A (a_in A (min i j)) := nb_R (Or.inl (by omega))
  have c2 : nb n (a_in A (min i j)) (a_in (a_in A (min i j)) (max i j)) := nb_R (Or.inl (by omega))
  exact c1.tr c2
theorem nb_move {n i j m : Nat} {A : aS} (hi : i < n) (hj : j < n) (hn : n ≤ 6) : nb n A (a_move A i j m).2 := by
  have c1 : nb n A (a_p0 A i j) := nb_p0 hi hj
  have c2 : nb n (a_p0 A i j) (a_mvs i j m (a_p0 A i j)).2 := nb_mvs hi hj hn m _
  have c3 : nb n (a_mvs i j m (a_p0 A i j)).2 (a_two (a_mvs i j m (a_p0 A i j)).2 (min i j) (max i j) (decide ((a_mvs i j m (a_p0 A i j)).1 < m))) := nb_two (by omega) (by omega)
  exact (c1.tr c2).tr c3
theorem nb_pair {n i j : Nat} {A : aS} (hi : i < n) (hj : j < n) (hn : n ≤ 6) : nb n A (a_pair A i j).2 := by
  have c1 : nb n A (a_p0 A i j) := nb_p0 hi hj
  by_cases hok : a_okp A (min i j) (max i j) (if i = j then 2 else 1)
  · rw [show a_pair A i j = a_p1 (a_p0 A i j) (min i j) (max i j) from if_pos hok]
    unfold a_p1
    generalize a_p0 A i j = C at *
    have c2 : nb n C (a_give C (min i j)).2 := nb_give (by omega) hn
    generalize a_give C (min i j) = r at *
    have c3 : nb n r.2 (a_give r.2 (max i j)).2 := nb_give (by omega) hn
    generalize a_give r.2 (max i j) = r2 at *
    have c4 : nb n r2.2 (a_two r2.2 (min i j) (max i j) false) := nb_two (by omega) (by omega)
    dsimp only
    exact ((c1.tr c2).tr c3).tr c4
  · rw [show a_pair A i j = (-5, a_two (a_p0 A i j) (min i j) (max i j) true) from if_neg hok]
    generalize a_p0 A i j = C at *
    have c4 : nb n C (a_two C (min i j) (max i j) true) := nb_two (by omega) (by omega)
    dsimp only
    exact c1.tr c4
/-- what a tick of station s leaves -/
def ct (s : Nat) (A C : aS) : Prop := (∀ i, 16 ≤ i → i ≠ 20 + s → i ≠ 40 → C.1 i = A.1 i) ∧ (∀ k, k ≠ 8 → C.1 40 k = A.1 40 k) ∧ ∀ i, 6 ≤ i → C.2 i = A.2 i
theorem ct.rf (s : Nat) (A : aS) : ct s A A := ⟨fun _ _ _ _ => rfl, fun _ _ => rfl, fun _ _ => rfl⟩
theorem ct.tr {s : Nat} {A C D : aS} (h1 : ct s A C) (h2 : ct s C D) : ct s A D := ⟨fun i a b c => (h2.1 i a b c).trans (h1.1 i a b c), fun k a => (h2.2.1 k a).trans (h1.2.1 k a), fun i a => (h2.2.2 i a).trans (h1.2.2 i a)⟩
theorem co.ct {s : Nat} {A C : aS} (h : co A C) : ct s A C := ⟨fun i a _ _ => h.1 i a, fun k _ => by rw [h.1 40 (by omega)], h.2⟩
theorem ct_st {s : Nat} {A : aS} {f : Nat → Int32} (hs : s < 6) : ct s A (sR A (20 + s) f) := ⟨fun i a b c => by simp only [sR]; exact vu_n _ _ b, fun k _ => by simp only [sR]; rw [vu_n _ _ (by omega)], fun _ _ => rfl⟩
theorem ct_ung {s : Nat} {A : aS} : ct s A (a_ung A) := ⟨fun i a b c => by simp only [a_ung, sR]; exact vu_n _ _ c, fun k hk => by simp only [a_ung, sR]; rw [vu_s, ud_n _ _ hk], fun _ _ => rfl⟩
/-- all that a step of a station keeps -/
def ok1 (n sn s : Nat) (A C : aS) : Prop := ivB C ∧ ivS C n sn ∧ ct s A C ∧ nb n A C
theorem ok1.tr {n sn s : Nat} {A C D : aS} (h1 : ok1 n sn s A C) (h2 : ok1 n sn s C D) : ok1 n sn s A D := ⟨h2.1, h2.2.1, h1.2.2.1.tr h2.2.2.1, h1.2.2.2.tr h2.2.2.2⟩
theorem ok1_co {n sn s : Nat} {A C : aS} (hS : ivS A n sn) (h1 : ivB C) (h2 : co A C) (h3 : nb n A C) : ok1 n sn s A C := ⟨h1, ivS_co hS h2, h2.ct, h3⟩
theorem ok1_st {n sn s : Nat} {A : aS} {f : Nat → Int32} (hB : ivB A) (hS : ivS A n sn) (hs : s < 6) (hf : ivs n f) : ok1 n sn s A (sR A (20 + s) f) := ⟨ivB_R hB (Or.inr (by omega)), ivS_st hS hs hf, ct_st hs, nb_R (Or.inr (by omega))⟩
theorem sR_s (A : aS) (i : Nat) (f : Nat → Int32) : (sR A i f).1 i = f := vu_s _ _ _
theorem a_on_ok {n sn s : Nat} {A : aS} (hB : ivB A) (hS : ivS A n sn) (hs : s < sn) : ok1 n sn s A (a_on A s) ∧ (a_on A s).1 (20 + s) = as_on (A.1 (20 + s)) := by
  have h6 : s < 6 := Nat.lt_of_lt_of_le hs hS.2.2.2.2.1
  exact ⟨ok1_st hB hS h6 (ivs_on (hS.2.2.2.2.2 s hs)), sR_s _ _ _⟩
theorem as_on_9 (S : Nat → Int32) : as_on S 9 = S 9 := by
  unfold as_on
  split
  · split <;> simp [upd]
  · rfl
theorem a_dlv_ok {n sn s : Nat} {A : aS} (hB : ivB A) (hS : ivS A n sn) (hs : s < sn) (h2 : A.1 (20 + s) 6 = 2) : ok1 n sn s A (a_dlv A s).2 ∧ (a_dlv A s).2.1 (20 + s) 9 = A.1 (20 + s) 9 + (a_dlv A s).1 ∧ ((a_dlv A s).1 = 0 ∨ (a_dlv A s).1 = 1) := by
  have h6 : s < 6 := Nat.lt_of_lt_of_le hs hS.2.2.2.2.1
  have hv := hS.2.2.2.2.2 s hs
  obtain ⟨o, ho, eo⟩ := hv.2.2.1
  have hk : 0 ≤ A.1 (20 + s) 8 ∧ A.1 (20 + s) 8 ≤ 9 := by
    rcases hv.2.2.2.2.2 with h | h | h
    · rw [h.1] at h2; exact absurd h2 (by decide)
    · exact h.2
    · exact h.2.2
  have hn := hS.2.2.2.1
  have ei : iN (A.1 (20 + s) 2) = o := by rw [eo]; exact iN_n (by omega)
  unfold a_dlv
  rw [ei]
  have c1 : ok1 n sn s A (a_put A o (A.1 (20 + s) 8) (-1)).2 := ok1_co hS (ivB_put hB (by omega) hk) (co_put (by omega)) (nb_put ho hn)
  generalize a_put A o (A.1 (20 + s) 8) (-1) = r at *
  split
  · have c2 : ok1 n sn s r.2 (sR r.2 (20 + s) (upd (A.1 (20 + s)) 10 (A.1 (20 + s) 10 + 1))) := ok1_st c1.1 c1.2.1 h6 (ivs_held hv (by omega))
    dsimp only
    refine ⟨c1.tr c2, ?_, Or.inl rfl⟩
    rw [sR_s, ud_n _ _ (by decide)]; simp
  · have c2 : ok1 n sn s r.2 (sR r.2 (20 + s) (upd (as_idle (A.1 (20 + s))) 9 (A.1 (20 + s) 9 + 1))) := ok1_st c1.1 c1.2.1 h6 (ivs_idle hv)
    dsimp only
    refine ⟨c1.tr c2, ?_, Or.inr rfl⟩
    rw [sR_s, ud_s]
theorem a_w1_ok {n sn s : Nat} {A : aS} (hB : ivB A) (hS : ivS A n sn) (hs : s < sn) : ok1 n sn s A (a_w1 A s).2 ∧ (a_w1 A s).2.1 (20 + s) 9 = A.1 (20 + s) 9 + (a_w1 A s).1 ∧ ((a_w1 A s).1 = 0 ∨ (a_w1 A s).1 = 1) := by
  obtain ⟨c1, e1⟩ := a_on_ok hB hS hs
  have e9 : (a_on A s).1 (20 + s) 9 = A.1 (20 + s) 9 := by rw [e1]; exact as_on_9 _
  unfold a_w1
  generalize a_on A s = C at *
  split
  · rename_i h2
    obtain ⟨g1, g2, g3⟩ := a_dlv_ok c1.1 c1.2.1 hs h2
    exact ⟨c1.tr g1, by rw [g2, e9], g3⟩
  · dsimp only
    exact ⟨c1, by rw [e9]; simp, Or.inl rfl⟩
theorem a_get_ok {n sn s : Nat} {A : aS} (hB : ivB A) (hS : ivS A n sn) (hs : s < sn) : ok1 n sn s A (a_get A s).2 ∧ co A (a_get A s).2 ∧ ((a_get A s).1 = -5 ∨ ∃ a, a ≤ 18 ∧ (a_get A s).1 = nI a) := by
  have hv := hS.2.2.2.2.2 s hs
  have hn := hS.2.2.2.1
  obtain ⟨i, hi, ei⟩ := hv.1
  have ei2 : iN (A.1 (20 + s) 0) = i := by rw [ei]; exact iN_n (by omega)
  unfold a_get
  rw [ei2]
  split
  · have c1 : co A (a_take A i (-1)).2 := co_take (by omega)
    refine ⟨ok1_co hS (ivB_take hB (by omega)) c1 (nb_take hi hn), c1, ?_⟩
    by_cases hk : (a_take A i (-1)).1 = -5
    · exact Or.inl hk
    · obtain ⟨a, ha, ea⟩ := gn_09 (b_take_kind (hB i (by omega)) hk).2.2
      exact Or.inr ⟨a, by omega, ea⟩
  · rename_i hne
    obtain ⟨j, hj, ej⟩ := hv.2.1.resolve_left hne
    have ej2 : iN (A.1 (20 + s) 1) = j := by rw [ej]; exact iN_n (by omega)
    rw [ej2]
    obtain ⟨g1, g2, g3⟩ := a_pair_ok hB (show i < 6 by omega) (show j < 6 by omega)
    exact ⟨ok1_co hS g1 g2 (nb_pair hi hj hn), g2, g3⟩
theorem as_load_9 (S : Nat → Int32) (x : Int32) : as_load S x 9 = S 9 := by
  unfold as_load
  split <;> simp [upd]
theorem a_wrk_ok {n sn s : Nat} {A : aS} (hB : ivB A) (hS : ivS A n sn) (hs : s < sn) : ok1 n sn s A (a_wrk A s).2 ∧ (a_wrk A s).2.1 (20 + s) 9 = A.1 (20 + s) 9 + (a_wrk A s).1 := by
  have h6 : s < 6 := Nat.lt_of_lt_of_le hs hS.2.2.2.2.1
  obtain ⟨c1, e1, -⟩ := a_w1_ok hB hS hs
  unfold a_wrk
  generalize a_w1 A s = r at *
  split
  · obtain ⟨c2, c3, c4⟩ := a_get_ok c1.1 c1.2.1 hs
    have hv : ivs n (r.2.1 (20 + s)) := c1.2.1.2.2.2.2.2 s hs
    generalize a_get r.2 s = r2 at *
    have c5 : ok1 n sn s r2.2 (sR r2.2 (20 + s) (as_load (r.2.1 (20 + s)) r2.1)) := ok1_st c2.1 c2.2.1 h6 (ivs_load hv c4)
    dsimp only
    refine ⟨(c1.tr c2).tr c5, ?_⟩
    rw [sR_s, as_load_9, e1]
  · exact ⟨c1, e1⟩
theorem a_tst_ok {n sn s : Nat} {A : aS} (hB : ivB A) (hS : ivS A n sn) (hs : s < sn) : ok1 n sn s A (a_tst A s).2 ∧ (a_tst A s).2.1 (20 + s) 9 = A.1 (20 + s) 9 + (a_tst A s).1 := by
  have h6 : s < 6 := Nat.lt_of_lt_of_le hs hS.2.2.2.2.1
  have hv := hS.2.2.2.2.2 s hs
  have hn := hS.2.2.2.1
  unfold a_tst
  split
  · have c0 : ok1 n sn s A (a_ung A) := ⟨ivB_R hB (Or.inr (by omega)), ivS_40 hS (by decide) (by decide), ct_ung, nb_R (Or.inr (by omega))⟩
    have e0 : (a_ung A).1 (20 + s) = A.1 (20 + s) := by
      simp only [a_ung, sR]; exact vu_n _ _ (by omega)
    obtain ⟨c1, e1⟩ := a_wrk_ok c0.1 c0.2.1 hs
    exact ⟨c0.tr c1, by rw [e1, e0]⟩
  · rename_i hne
    obtain ⟨g, hg, eg⟩ := hv.2.2.2.2.1.resolve_left hne
    have eg2 : iN (A.1 (20 + s) 5) = g := by rw [eg]; exact iN_n (by omega)
    rw [eg2]
    have c0 : ok1 n sn s A (a_in A g) := ok1_co hS (ivB_in hB (by omega)) (co_R (by omega)) (nb_R (Or.inl hg))
    have e0 : (a_in A g).1 (20 + s) = A.1 (20 + s) := a_in_r (by omega)
    obtain ⟨c1, e1⟩ := a_wrk_ok c0.1 c0.2.1 hs
    rw [e0] at e1
    generalize a_wrk (a_in A g) s = r at *
    have c2 : ok1 n sn s r.2 (a_out r.2 g) := ok1_co c1.2.1 (ivB_out c1.1 (by omega)) (co_R (by omega)) (nb_R (Or.inl hg))
    dsimp only
    refine ⟨(c0.tr c1).tr c2, ?_⟩
    rw [← e1]
    have : (a_out r.2 g).1 (20 + s) = r.2.1 (20 + s) := vu_n _ _ (by omega)
    rw [this]
/-- a whole tick -/
def cs (A C : aS) : Prop := (∀ i, 26 ≤ i → i ≠ 40 → C.1 i = A.1 i) ∧ (∀ k, k ≠ 8 → C.1 40 k = A.1 40 k) ∧ ∀ i, 6 ≤ i → C.2 i = A.2 i
theorem cs.rf (A : aS) : cs A A := ⟨fun _ _ _ => rfl, fun _ _ => rfl, fun _ _ => rfl⟩
theorem cs.tr {A C D : aS} (h1 : cs A C) (h2 : cs C D) : cs A D := ⟨fun i a b => (h2.1 i a b).trans (h1.1 i a b), fun k a => (h2.2.1 k a).trans (h1.2.1 k a), fun i a => (h2.2.2 i a).trans (h1.2.2 i a)⟩
theorem ct.cs {s : Nat} {A C : aS} (h : ct s A C) (hs : s < 6) : cs A C := ⟨fun i a b => h.1 i (by omega) (by omega) b, h.2.1, h.2.2⟩
theorem co.cs {A C : aS} (h : co A C) : cs A C := ⟨fun i a _ => h.1 i (by omega), fun k _ => by rw [h.1 40 (by omega)], h.2⟩
/-- how many were made by stations s on -/
def mdk : Nat → Nat → aS → Int32
  | 0, _, _ => 0
  | k + 1, s, A => A.1 (20 + s) 9 + mdk k (s + 1) A
theorem mdk_congr : ∀ (k s : Nat) (A C : aS), (∀ j, s ≤ j → j < s + k → C.1 (20 + j) = A.1 (20 + j)) → mdk k s C = mdk k s A
  | 0, s, A, C, h => rfl
  | k + 1, s, A, C, h => by
    unfold mdk
    rw [h s (Nat.le_refl s) (by omega), mdk_congr k (s + 1) A C (fun j h1 h2 => h j (by omega) (by omega))]
theorem a_tks_ok {n sn : Nat} : ∀ (k s : Nat) (A : aS), ivB A → ivS A n sn → s + k = sn → ivB (a_tks k s A).2 ∧ ivS (a_tks k s A).2 n sn ∧ cs A (a_tks k s A).2 ∧ nb n A (a_tks k s A).2 ∧ mdk k s (a_tks k s A).2 = mdk k s A + (a_tks k s A).1 ∧ ∀ j, j < s → (a_tks k s A).2.1 (20 + j) = A.1 (20 + j)
  | 0, s, A, hB, hS, _ => ⟨hB, hS, cs.rf A, nb.rf n A, by simp [mdk, a_tks], fun _ _ => rfl⟩
  | k + 1, s, A, hB, hS, hk => by
    have hs : s < sn := by omega
    have h6 : s < 6 := Nat.lt_of_lt_of_le hs hS.2.2.2.2.1
    obtain ⟨c1, e1⟩ := a_tst_ok hB hS hs
    unfold a_tks
    generalize a_tst A s = r at *
    obtain ⟨g1, g2, g3, g4, g5, g6⟩ := a_tks_ok k (s + 1) r.2 c1.1 c1.2.1 (by omega)
    generalize a_tks k (s + 1) r.2 = r2 at *
    dsimp only
    refine ⟨g1, g2, (c1.2.2.1.cs h6).tr g3, c1.2.2.2.tr g4, ?_, fun j hj => ?_⟩
    · unfold mdk
      rw [g6 s (by omega), e1, g5, mdk_congr k (s + 1) A r.2 (fun j h1 h2 => c1.2.2.1.1 _ (by omega) (by omega) (by have := hS.2.2.2.2.1; omega))]
      simp only [Int32.add_assoc]
      congr 1
      rw [← Int32.add_assoc, ← Int32.add_assoc, Int32.add_comm r.1]
    · rw [g6 j (by omega)]
      exact c1.2.2.1.1 _ (by omega) (by omega) (by omega)
