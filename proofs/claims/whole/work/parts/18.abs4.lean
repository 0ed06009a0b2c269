/-! ===== workers: wishes, the line, serving ===== -/
def a_try (A : aS) (w : Nat) : Int32 × aS :=
  if A.1 (30 + w) 1 = 0 then
    (if (a_put A (iN (A.1 (30 + w) 0)) (A.1 (30 + w) 2) (nI w)).1 = 0 then (0, (a_put A (iN (A.1 (30 + w) 0)) (A.1 (30 + w) 2) (nI w)).2)
     else (1, sR (a_put A (iN (A.1 (30 + w) 0)) (A.1 (30 + w) 2) (nI w)).2 (30 + w) (aw_no (A.1 (30 + w)))))
  else
    (if (a_take A (iN (A.1 (30 + w) 0)) (nI w)).1 = -5 then (0, (a_take A (iN (A.1 (30 + w) 0)) (nI w)).2)
     else (1, sR (a_take A (iN (A.1 (30 + w) 0)) (nI w)).2 (30 + w) (aw_no (upd (A.1 (30 + w)) 3 (a_take A (iN (A.1 (30 + w) 0)) (nI w)).1))))
def a_sf : Nat → Nat → aS → Int32 × aS
  | 0, _, A => (0, A)
  | k + 1, i, A => if (a_try A (iN ((A.2 20).getD i 0))).1 = 0 then a_sf k (i + 1) (a_try A (iN ((A.2 20).getD i 0))).2
    else (1, sL (a_try A (iN ((A.2 20).getD i 0))).2 20 ((A.2 20).eraseIdx i))
def a_srv : Nat → aS → aS
  | 0, A => A
  | k + 1, A => if (a_sf (A.2 20).length 0 A).1 = 0 then (a_sf (A.2 20).length 0 A).2 else a_srv k (a_sf (A.2 20).length 0 A).2
/-- a wish as it may be -/
def ivw (n : Nat) (W : Nat → Int32) : Prop := ∃ b, b < n ∧ W 0 = nI b ∧ (W 1 = 0 ∧ (0 ≤ W 2 ∧ W 2 ≤ 9) ∨ W 1 = 1 ∧ W 2 = -1)
def noW (W : Nat → Int32) : Prop := W 0 = -1 ∧ W 1 = -1 ∧ W 2 = -1
def ivW (A : aS) (n : Nat) : Prop := (∀ w, w < 6 → (noW (A.1 (30 + w)) ∧ ¬ nI w ∈ A.2 20) ∨ (ivw n (A.1 (30 + w)) ∧ nI w ∈ A.2 20)) ∧ (∀ x ∈ A.2 20, ∃ w, w < 6 ∧ x = nI w) ∧ (A.2 20).Nodup ∧ (A.2 20).length ≤ 6
theorem noW_no (W : Nat → Int32) : noW (aw_no W) := by
  unfold noW aw_no
  simp [upd]
theorem ivw_wish {n : Nat} {W : Nat → Int32} (h : ivw n W) : ¬ W 1 = -1 := by
  obtain ⟨b, -, -, h | h⟩ := h
  · rw [h.1]; decide
  · rw [h.1]; decide
theorem ivW_wait {A : aS} {n w : Nat} (h : ivW A n) (hw : w < 6) : ¬ A.1 (30 + w) 1 = -1 ↔ nI w ∈ A.2 20 := by
  rcases h.1 w hw with ⟨h1, h2⟩ | ⟨h1, h2⟩
  · exact ⟨fun z => absurd h1.2.1 z, fun z => absurd z h2⟩
  · exact ⟨fun _ => h2, fun _ => ivw_wish h1⟩
/-- rows of stations and workers but w's, lists but the buffers', stay -/
def cw (w : Nat) (A C : aS) : Prop := (∀ i, 16 ≤ i → i ≠ 30 + w → C.1 i = A.1 i) ∧ ∀ i, 6 ≤ i → C.2 i = A.2 i
theorem co.cw {A C : aS} (h : co A C) (w : Nat) : cw w A C := ⟨fun i a _ => h.1 i a, h.2⟩
theorem cw_R {A C : aS} {w : Nat} {f : Nat → Int32} (h : co A C) : cw w A (sR C (30 + w) f) := ⟨fun i a b => by simp only [sR]; rw [vu_n _ _ b]; exact h.1 i a, h.2⟩
theorem a_try_ok {A : aS} {n w : Nat} (hB : ivB A) (hn : n ≤ 6) (hw : w < 6) (hW : ivw n (A.1 (30 + w))) : ivB (a_try A w).2 ∧ cw w A (a_try A w).2 ∧ nb n A (a_try A w).2 ∧ ((a_try A w).1 = 0 ∧ (a_try A w).2.1 (30 + w) = A.1 (30 + w) ∨ (a_try A w).1 = 1 ∧ noW ((a_try A w).2.1 (30 + w))) := by
  obtain ⟨b, hb, eb, hk⟩ := hW
  have eb2 : iN (A.1 (30 + w) 0) = b := by rw [eb]; exact iN_n (by omega)
  unfold a_try
  rw [eb2]
  split
  · rename_i h0
    have hk2 : 0 ≤ A.1 (30 + w) 2 ∧ A.1 (30 + w) 2 ≤ 9 := by
      rcases hk with h | h
      · exact h.2
      · rw [h.1] at h0; exact absurd h0 (by decide)
    have c1 : co A (a_put A b (A.1 (30 + w) 2) (nI w)).2 := co_put (by omega)
    have c2 : ivB (a_put A b (A.1 (30 + w) 2) (nI w)).2 := ivB_put hB (by omega) hk2
    have c3 : nb n A (a_put A b (A.1 (30 + w) 2) (nI w)).2 := nb_put hb hn
    generalize a_put A b (A.1 (30 + w) 2) (nI w) = r at *
    split
    · dsimp only
      exact ⟨c2, c1.cw w, c3, Or.inl ⟨rfl, c1.1 _ (by omega)⟩⟩
    · dsimp only
      have c4 : nb n r.2 (sR r.2 (30 + w) (aw_no (A.1 (30 + w)))) := nb_R (Or.inr (by omega))
      refine ⟨ivB_R c2 (Or.inr (by omega)), cw_R c1, c3.tr c4, Or.inr ⟨rfl, ?_⟩⟩
      rw [sR_s]; exact noW_no _
  · have c1 : co A (a_take A b (nI w)).2 := co_take (by omega)
    have c2 : ivB (a_take A b (nI w)).2 := ivB_take hB (by omega)
    have c3 : nb n A (a_take A b (nI w)).2 := nb_take hb hn
    generalize a_take A b (nI w) = r at *
    split
    · dsimp only
      exact ⟨c2, c1.cw w, c3, Or.inl ⟨rfl, c1.1 _ (by omega)⟩⟩
    · dsimp only
      have c4 : nb n r.2 (sR r.2 (30 + w) (aw_no (upd (A.1 (30 + w)) 3 r.1))) := nb_R (Or.inr (by omega))
      refine ⟨ivB_R c2 (Or.inr (by omega)), cw_R c1, c3.tr c4, Or.inr ⟨rfl, ?_⟩⟩
      rw [sR_s]; exact noW_no _
theorem a_try_01 (A : aS) (w : Nat) : (a_try A w).1 = 0 ∨ (a_try A w).1 = 1 := by
  unfold a_try
  split <;> split <;> simp
/-- all that serving keeps: stations and the floor's row, queues, gates beyond -/
def ok2 (n : Nat) (A C : aS) : Prop := ivB C ∧ ivW C n ∧ (∀ i, 16 ≤ i → (i < 30 ∨ 36 ≤ i) → C.1 i = A.1 i) ∧ (∀ i, 6 ≤ i → i ≠ 20 → C.2 i = A.2 i) ∧ nb n A C
theorem ok2.rf {n : Nat} {A : aS} (h1 : ivB A) (h2 : ivW A n) : ok2 n A A := ⟨h1, h2, fun _ _ _ => rfl, fun _ _ _ => rfl, nb.rf n A⟩
theorem ok2.tr {n : Nat} {A C D : aS} (h1 : ok2 n A C) (h2 : ok2 n C D) : ok2 n A D := ⟨h2.1, h2.2.1, fun i a b => (h2.2.2.1 i a b).trans (h1.2.2.1 i a b), fun i a b => (h2.2.2.2.1 i a b).trans (h1.2.2.2.1 i a b), h1.2.2.2.2.tr h2.2.2.2.2⟩
theorem ok2.iv {n sn : Nat} {A C : aS} (h : ok2 n A C) (hS : ivS A n sn) : ivS C n sn := by
  obtain ⟨h1, h2, h3, h4, h5, h6⟩ := hS
  exact ⟨by rw [h.2.2.1 40 (by omega) (by omega)]; exact h1, by rw [h.2.2.1 40 (by omega) (by omega)]; exact h2, h3, h4, h5, fun s hs => by rw [h.2.2.1 _ (by omega) (by omega)]; exact h6 s hs⟩
/-- the worker at a place of the line -/
theorem ivW_at {A : aS} {n i : Nat} (h : ivW A n) (hi : i < (A.2 20).length) : ∃ w, w < 6 ∧ (A.2 20).getD i 0 = nI w ∧ iN ((A.2 20).getD i 0) = w ∧ ivw n (A.1 (30 + w)) := by
  obtain ⟨w, hw, e⟩ := h.2.1 _ (gd_mem hi)
  refine ⟨w, hw, e, by rw [e]; exact iN_n (by omega), ?_⟩
  rcases h.1 w hw with ⟨h1, h2⟩ | ⟨h1, h2⟩
  · exact absurd (e ▸ gd_mem hi) h2
  · exact h1
theorem nI_inj6 {a b : Nat} (ha : a < 100) (hb : b < 100) (h : nI a = nI b) : a = b := (nI_eq (by omega) (by omega)).mp h
