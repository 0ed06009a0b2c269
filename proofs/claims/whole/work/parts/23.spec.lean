/-! ===== what each call asks: of class and reference alike ===== -/
abbrev gP : Type := aS → Int32 → List (aS × Int32) → List Int32 → (Nat → Int32) → Prop
def ivQ (A : aS) (n : Nat) : Prop := (∀ b, b < 6 → (∀ x ∈ A.2 (10 + b), ∃ w, w < 6 ∧ x = nI w) ∧ (A.2 (10 + b)).Nodup ∧ (A.2 (10 + b)).length ≤ 6) ∧ (∀ b c, b < 6 → c < 6 → b ≠ c → ∀ x ∈ A.2 (10 + b), x ∉ A.2 (10 + c)) ∧ ∀ b, n ≤ b → b < 6 → A.2 (10 + b) = [] ∧ A.1 b 0 = 0
theorem ivQ_t {A C : aS} {n : Nat} (h : ivQ A n) (hl : ∀ b, b < 6 → C.2 (10 + b) = A.2 (10 + b)) (hb : nb n A C) : ivQ C n := by
  obtain ⟨h1, h2, h3⟩ := h
  refine ⟨fun b h6 => ?_, fun b c g1 g2 g3 => ?_, fun b g1 g2 => ?_⟩
  · rw [hl b h6]; exact h1 b h6
  · rw [hl b g1, hl c g2]; exact h2 b c g1 g2 g3
  · rw [hl b g2, (hb b g1 g2).1]; exact h3 b g1 g2
def IV (A : aS) (n sn : Nat) : Prop := ivB A ∧ ivS A n sn ∧ ivW A n ∧ ivQ A n
theorem IV_co {A C : aS} {n sn : Nat} (h : IV A n sn) (hB : ivB C) (hc : co A C) (hb : nb n A C) : IV C n sn :=
  ⟨hB, ivS_co h.2.1 hc, ivW_eq h.2.2.1 (fun w hw => hc.1 _ (by omega)) (hc.2 20 (by omega)), ivQ_t h.2.2.2 (fun b hb => hc.2 _ (by omega)) hb⟩
theorem IV_srv {A : aS} {n sn : Nat} (h : IV A n sn) : IV (a_srv 7 A) n sn := by
  have o := a_srv_ok (n := n) h.2.1.2.2.2.1 7 A h.1 h.2.2.1
  exact ⟨o.1, o.iv h.2.1, o.2.1, ivQ_t h.2.2.2 (fun b hb => o.2.2.2.1 _ (by omega) (by omega)) o.2.2.2.2⟩
theorem IV_tks {A : aS} {n sn : Nat} (h : IV A n sn) : IV (a_tks sn 0 A).2 n sn := by
  obtain ⟨g1, g2, g3, g4, -, -⟩ := a_tks_ok (n := n) (sn := sn) sn 0 A h.1 h.2.1 (by omega)
  exact ⟨g1, g2, ivW_eq h.2.2.1 (fun w hw => g3.1 _ (by omega) (by omega)) (g3.2.2 20 (by omega)), ivQ_t h.2.2.2 (fun b hb => g3.2.2 _ (by omega)) g4⟩
def z_rooms (A : aS) (j : Nat) (w : Int32) : aS := a_srv 7 (sR A (10 + j) (upd (A.1 (10 + j)) 3 w))
def sp_rooms (A : aS) (t : Int32) (l : List (aS × Int32)) (tx : List Int32) (c : Nat → Int32) (b w z : Int32) (G : gP) : Prop :=
  if a_has A b ∧ in_ w 1 6 then z = A.1 (10 + iN b) 3 ∧ G (z_rooms A (iN b) w) t (h_push l (A, t)) tx c else z = -2 ∧ G A t l tx (upd c 5 (c 5 + 1))
theorem iv_room1 {A : aS} {n sn j : Nat} {w : Int32} (h : IV A n sn) (hj : j < n) (hw : in_ w 1 6) : IV (sR A (10 + j) (upd (A.1 (10 + j)) 3 w)) n sn := by
  have hn := h.2.1.2.2.2.1
  have hc : co A (sR A (10 + j) (upd (A.1 (10 + j)) 3 w)) := co_R (by omega)
  refine IV_co h (fun c hc6 => ?_) hc (nb_R (Or.inr (by omega)))
  have h1 := h.1 c hc6
  unfold ivb at *
  simp only [gB, sR] at *
  by_cases e : c = j
  · subst e; rw [vu_s, ud_s]; exact ⟨hw.2, h1.2⟩
  · rw [vu_n _ _ (by omega)]; exact h1
def z_stat (A : aS) (sn : Nat) (x0 x1 x2 x3 x4 : Int32) : aS := sR (sR A (20 + sn) (as_set (A.1 (20 + sn)) x0 x1 x2 x3 x4)) 40 (upd (A.1 40) 6 (nI sn + 1))
abbrev c_stat (A : aS) (x0 x1 x2 x3 x4 : Int32) : Prop := a_has A x0 ∧ (x1 = -1 ∨ a_has A x1) ∧ a_has A x2 ∧ in_ x3 1 9 ∧ in_ x4 0 9
def sp_stat (A : aS) (t : Int32) (l : List (aS × Int32)) (tx : List Int32) (c : Nat → Int32) (x0 x1 x2 x3 x4 z : Int32) (G : gP) : Prop :=
  if c_stat A x0 x1 x2 x3 x4 then (if A.1 40 6 < 6 then z = A.1 40 6 ∧ G (z_stat A (iN (A.1 40 6)) x0 x1 x2 x3 x4) t (h_push l (A, t)) tx c else z = -4 ∧ G A t l tx (upd c 7 (c 7 + 1))) else z = -2 ∧ G A t l tx (upd c 5 (c 5 + 1))
theorem iv_stat {A : aS} {n sn : Nat} {x0 x1 x2 x3 x4 : Int32} (h : IV A n sn) (hs : sn < 6) (hc : c_stat A x0 x1 x2 x3 x4) : IV (z_stat A sn x0 x1 x2 x3 x4) n (sn + 1) := by
  obtain ⟨hB, ⟨s1, s2, s3, s4, s5, s6⟩, hW, hQ⟩ := h
  obtain ⟨c0, c1, c2, c3, c4⟩ := hc
  have hv : ivs n (as_set (A.1 (20 + sn)) x0 x1 x2 x3 x4) := by
    unfold as_set as_idle
    refine ⟨?_, ?_, ?_, ?_, ?_, ?_⟩ <;> simp only [upd] <;> simp only [Nat.reduceEqDiff, if_true, if_false, reduceIte]
    · exact a_has_of s1 (by omega) c0
    · rcases c1 with c1 | c1
      · exact Or.inl c1
      · exact Or.inr (a_has_of s1 (by omega) c1)
    · exact a_has_of s1 (by omega) c2
    · exact c4
    · exact Or.inl trivial
    · exact Or.inl ⟨trivial, trivial, trivial⟩
  refine ⟨?_, ⟨?_, ?_, s3, s4, by omega, fun s hs' => ?_⟩, ?_, ?_⟩
  · exact ivB_R (ivB_R hB (Or.inr (by omega))) (Or.inr (by omega))
  · simp only [z_stat, sR]; rw [vu_s, ud_n _ _ (by decide)]; exact s1
  · simp only [z_stat, sR]; rw [vu_s, ud_s, nI_1]
  · simp only [z_stat, sR]; rw [vu_n _ _ (by omega)]
    by_cases e : s = sn
    · subst e; rw [vu_s]; exact hv
    · rw [vu_n _ _ (by omega)]; exact s6 s (by omega)
  · exact ivW_eq hW (fun w hw => by simp only [z_stat, sR]; rw [vu_n _ _ (by omega), vu_n _ _ (by omega)]) rfl
  · have n1 : nb n A (sR A (20 + sn) (as_set (A.1 (20 + sn)) x0 x1 x2 x3 x4)) := nb_R (Or.inr (by omega))
    have n2 : nb n (sR A (20 + sn) (as_set (A.1 (20 + sn)) x0 x1 x2 x3 x4)) (z_stat A sn x0 x1 x2 x3 x4) := nb_R (Or.inr (by omega))
    exact ivQ_t hQ (fun b hb => rfl) (n1.tr n2)
def z_guard (A : aS) (s : Nat) (b : Int32) : aS := sR A (20 + s) (upd (A.1 (20 + s)) 5 b)
def sp_guards (A : aS) (t : Int32) (l : List (aS × Int32)) (tx : List Int32) (c : Nat → Int32) (s b z : Int32) (G : gP) : Prop :=
  if a_hasS A s ∧ (b = -1 ∨ a_has A b) then z = A.1 (20 + iN s) 5 ∧ G (z_guard A (iN s) b) t (h_push l (A, t)) tx c else z = -2 ∧ G A t l tx (upd c 5 (c 5 + 1))
theorem iv_guard {A : aS} {n sn s : Nat} {b : Int32} (h : IV A n sn) (hs : s < sn) (hb : b = -1 ∨ a_has A b) : IV (z_guard A s b) n sn := by
  have h6 : s < 6 := Nat.lt_of_lt_of_le hs h.2.1.2.2.2.2.1
  have hv := h.2.1.2.2.2.2.2 s hs
  have hf : ivs n (upd (A.1 (20 + s)) 5 b) := by
    obtain ⟨h0, h1, h2, h4, h5, h6⟩ := hv
    refine ⟨?_, ?_, ?_, ?_, ?_, ?_⟩ <;> simp only [upd] <;> simp only [Nat.reduceEqDiff, if_true, if_false, reduceIte] <;> first | exact h0 | exact h1 | exact h2 | exact h4 | exact h6 | skip
    rcases hb with hb | hb
    · exact Or.inl hb
    · exact Or.inr (a_has_of h.2.1.1 (by have := h.2.1.2.2.2.1; omega) hb)
  have o := ok1_st (s := s) h.1 h.2.1 h6 hf
  exact ⟨o.1, o.2.1, ivW_eq h.2.2.1 (fun w hw => o.2.2.1.1 _ (by omega) (by omega) (by omega)) rfl, ivQ_t h.2.2.2 (fun b hb => rfl) o.2.2.2⟩
def a_tcks (sn : Nat) : Nat → aS → Int32 × aS
  | 0, A => (0, A)
  | k + 1, A => ((a_tks sn 0 A).1 + (a_tcks sn k (a_srv 7 (a_tks sn 0 A).2)).1, (a_tcks sn k (a_srv 7 (a_tks sn 0 A).2)).2)
theorem iv_tcks {n sn : Nat} : ∀ (k : Nat) (A : aS), IV A n sn → IV (a_tcks sn k A).2 n sn
  | 0, A, h => h
  | k + 1, A, h => by unfold a_tcks; exact iv_tcks k _ (IV_srv (IV_tks h))
def sp_ticks (A : aS) (t : Int32) (l : List (aS × Int32)) (tx : List Int32) (c : Nat → Int32) (k z : Int32) (G : gP) : Prop :=
  if in_ k 1 30 then z = (a_tcks (iN (A.1 40 6)) (iN k) A).1 ∧ G (a_tcks (iN (A.1 40 6)) (iN k) A).2 (t + k) (h_push l (A, t)) tx c else z = -2 ∧ G A t l tx (upd c 5 (c 5 + 1))
def sp_puts (A : aS) (t : Int32) (l : List (aS × Int32)) (tx : List Int32) (c : Nat → Int32) (b k z : Int32) (G : gP) : Prop :=
  if a_has A b ∧ in_ k 0 9 then z = (if (a_put A (iN b) k (-1)).1 = 0 then -5 else nI ((a_put A (iN b) k (-1)).2.2 (iN b)).length) ∧ G (a_srv 7 (a_put A (iN b) k (-1)).2) t (h_push l (A, t)) tx c else z = -2 ∧ G A t l tx (upd c 5 (c 5 + 1))
theorem iv_put {A : aS} {n sn j : Nat} {k w : Int32} (h : IV A n sn) (hj : j < n) (hk : 0 ≤ k ∧ k ≤ 9) : IV (a_put A j k w).2 n sn := by
  have hn := h.2.1.2.2.2.1
  exact IV_co h (ivB_put h.1 (by omega) hk) (co_put (by omega)) (nb_put hj hn)
theorem iv_take {A : aS} {n sn j : Nat} {w : Int32} (h : IV A n sn) (hj : j < n) : IV (a_take A j w).2 n sn := by
  have hn := h.2.1.2.2.2.1
  exact IV_co h (ivB_take h.1 (by omega)) (co_take (by omega)) (nb_take hj hn)
def sp_takes (A : aS) (t : Int32) (l : List (aS × Int32)) (tx : List Int32) (c : Nat → Int32) (b z : Int32) (G : gP) : Prop :=
  if a_has A b then z = (a_take A (iN b) (-1)).1 ∧ G (a_srv 7 (a_take A (iN b) (-1)).2) t (h_push l (A, t)) tx c else z = -2 ∧ G A t l tx (upd c 5 (c 5 + 1))
theorem iv_move {A : aS} {n sn i j m : Nat} (h : IV A n sn) (hi : i < n) (hj : j < n) (hij : i ≠ j) : IV (a_move A i j m).2 n sn := by
  have hn := h.2.1.2.2.2.1
  exact IV_co h (ivB_move h.1 (by omega) (by omega) hij) (co_move (by omega) (by omega)) (nb_move hi hj hn)
theorem iv_res {A C : aS} {n sn : Nat} (h : IV C n sn) (hA : ivB A) : IV (a_res C 6 A.2) n sn := by
  refine IV_co h (fun b hb => ?_) ⟨fun i hi => rfl, fun i hi => ?_⟩ (fun b h1 h2 => ⟨rfl, ?_⟩)
  · have h1 := hA b hb
    have h2 := h.1 b hb
    unfold ivb at *
    simp only [gB, a_res] at *
    rw [if_pos hb]
    exact ⟨h2.1, h1.2⟩
  · simp only [a_res]; rw [if_neg (by omega)]
  · simp only [a_res]; rw [if_neg (by omega)]
abbrev c_moves (A : aS) (a b n u : Int32) : Prop := a_has A a ∧ a_has A b ∧ ¬ a = b ∧ in_ n 1 9 ∧ in_ u 0 1
def z_moves (A : aS) (i j n : Nat) (u : Int32) : Int32 × aS :=
  if (a_move A i j n).1 < n then (if u = 1 then (-100, a_srv 7 (a_res (a_move A i j n).2 6 A.2)) else (-100 - nI (a_move A i j n).1, a_srv 7 (a_move A i j n).2)) else (nI n, a_srv 7 (a_move A i j n).2)
def sp_moves (A : aS) (t : Int32) (l : List (aS × Int32)) (tx : List Int32) (c : Nat → Int32) (a b n u z : Int32) (G : gP) : Prop :=
  if c_moves A a b n u then z = (z_moves A (iN a) (iN b) (iN n) u).1 ∧ G (z_moves A (iN a) (iN b) (iN n) u).2 t (h_push l (A, t)) tx c else z = -2 ∧ G A t l tx (upd c 5 (c 5 + 1))
theorem iv_moves {A : aS} {n sn i j m : Nat} {u : Int32} (h : IV A n sn) (hi : i < n) (hj : j < n) (hij : i ≠ j) : IV (z_moves A i j m u).2 n sn := by
  have h1 := iv_move (m := m) h hi hj hij
  have h2 := iv_res h1 h.1
  unfold z_moves
  generalize a_move A i j m = r at *
  split
  · split
    · dsimp only; exact IV_srv h2
    · dsimp only; exact IV_srv h1
  · dsimp only; exact IV_srv h1
