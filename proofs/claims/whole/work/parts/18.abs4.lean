/-! ===== workers: wishes, the line, serving ===== -/
def a_try (A : aS) (w : Nat) : Int32 × aS :=
  if A.1 (30 + w) 1 = 0 then
    (if (a_put A (iN (A.1 (30 + w) 0)) (A.1 (30 + w) 2) (nI w)).1 = 0 then (0, (a_put A (iN (A.1 (30 + w) 0)) (A.1 (30 + w) 2) (nI w)).2)
     else (1, sR (a_put A (iN (A.1 (30 + w) 0)) (A.1 (30 + w) 2) (nI w)).2 (30 + w) (aw_no (A.1 (30 + w)))))
  else
    (if (a_take A (iN (A.1 (30 + w) 0)) (nI w)).1 = -5 then (0, (a_take A (iN (A.1 (30 + w) 0)) (nI w)).2)
     else (1, sR (a_take A (iN (A.1 (30 + w) 0)) (nI w)).2 (30 + w) (aw_no (upd (A.1 (30 + w)) 3 (a_take A (iN (A.1 (30 + w) 0)) (nI w)).1))))
def a_sf : Nat → Nat → aS → Int32 × aS
  | 0, _, A => (0, A)
  | k + 1, i, A => if (a_try A (iN ((A.2 20).getD i 0))).1 = 0 then a_sf k (i + 1) (a_try A (iN ((A.2 20).getD i 0))).2
    else (1, sL (a_try A (iN ((A.2 20).getD i 0))).2 20 ((A.2 20).eraseIdx i))
def a_srv : Nat → aS → aS
  | 0, A => A
  | k + 1, A => if (a_sf (A.2 20).length 0 A).1 = 0 then (a_sf (A.2 20).length 0 A).2 else a_srv k (a_sf (A.2 20).length 0 A).2
/-- a wish as it may be -/
def ivw (n : Nat) (W : Nat → Int32) : Prop := ∃ b, b < n ∧ W 0 = nI b ∧ (W 1 = 0 ∧ (0 ≤ W 2 ∧ W 2 ≤ 9) ∨ W 1 = 1 ∧ W 2 = -1)
def noW (W : Nat → Int32) : Prop := W 0 = -1 ∧ W 1 = -1 ∧ W 2 = -1
def ivW (A : aS) (n : Nat) : Prop := (∀ w, w < 6 → (noW (A.1 (30 + w)) ∧ ¬ nI w ∈ A.2 20) ∨ (ivw n (A.1 (30 + w)) ∧ nI w ∈ A.2 20)) ∧ (∀ x ∈ A.2 20, ∃ w, w < 6 ∧ x = nI w) ∧ (A.2 20).Nodup ∧ (A.2 20).length ≤ 6
theorem noW_no (W : Nat → Int32) : noW (aw_no W) := by
  unfold noW aw_no
  simp [upd]
theorem ivw_wish {n : Nat} {W : Nat → Int32} (h : ivw n W) : ¬ W 1 = -1 := by
  obtain ⟨b, -, -, h | h⟩ := h
  · rw [h.1]; decide
  · rw [h.1]; decide
theorem ivW_wait {A : aS} {n w : Nat} (h : ivW A n) (hw : w < 6) : ¬ A.1 (30 + w) 1 = -1 ↔ nI w ∈ A.2 20 := by
  rcases h.1 w hw with ⟨h1, h2⟩ | ⟨h1, h2⟩
  · exact ⟨fun z => absurd h1.2.1 z, fun z => absurd z h2⟩
  · exact ⟨fun _ => h2, fun _ => ivw_wish h1⟩
/-- rows of stations and workers but w's, lists but the buffers', stay -/
def cw (w : Nat) (A C : aS) : Prop := (∀ i, 16 ≤ i → i ≠ 30 + w → C.1 i = A.1 i) ∧ ∀ i, 6 ≤ i → C.2 i = A.2 i
theorem co.cw {A C : aS} (h : co A C) (w : Nat) : cw w A C := ⟨fun i a _ => h.1 i a, h.2⟩
theorem cw_R {A C : aS} {w : Nat} {f : Nat → Int32} (h : co A C) : cw w A (sR C (30 + w) f) := ⟨fun i a b => by simp only [sR]; rw [vu_n _ _ b]; exact h.1 i a, h.2⟩
theorem a_try_ok {A : aS} {n w : Nat} (hB : ivB A) (hn : n ≤ 6) (hw : w < 6) (hW : ivw n (A.1 (30 + w))) : ivB (a_try A w).2 ∧ cw w A (a_try A w).2 ∧ nb n A (a_try A w).2 ∧ ((a_try A w).1 = 0 ∧ (a_try A w).2.1 (30 + w) = A.1 (30 + w) ∨ (a_try A w).1 = 1 ∧ noW ((a_try A w).2.1 (30 + w))) := by
  obtain ⟨b, hb, eb, hk⟩ := hW
  have eb2 : iN (A.1 (30 + w) 0) = b := by rw [eb]; exact iN_n (by omega)
  unfold a_try
  rw [eb2]
  split
  · rename_i h0
    have hk2 : 0 ≤ A.1 (30 + w) 2 ∧ A.1 (30 + w) 2 ≤ 9 := by
      rcases hk with h | h
      · exact h.2
      · rw [h.1] at h0; exact absurd h0 (by decide)
    have c1 : co A (a_put A b (A.1 (30 + w) 2) (nI w)).2 := co_put (by omega)
    have c2 : ivB (a_put A b (A.1 (30 + w) 2) (nI w)).2 := ivB_put hB (by omega) hk2
    have c3 : nb n A (a_put A b (A.1 (30 + w) 2) (nI w)).2 := nb_put hb hn
    generalize a_put A b (A.1 (30 + w) 2) (nI w) = r at *
    split
    · dsimp only
      exact ⟨c2, c1.cw w, c3, Or.inl ⟨rfl, c1.1 _ (by omega)⟩⟩
    · dsimp only
      have c4 : nb n r.2 (sR r.2 (30 + w) (aw_no (A.1 (30 + w)))) := nb_R (Or.inr (by omega))
      refine ⟨ivB_R c2 (Or.inr (by omega)), cw_R c1, c3.tr c4, Or.inr ⟨rfl, ?_⟩⟩
      rw [sR_s]; exact noW_no _
  · have c1 : co A (a_take A b (nI w)).2 := co_take (by omega)
    have c2 : ivB (a_take A b (nI w)).2 := ivB_take hB (by omega)
    have c3 : nb n A (a_take A b (nI w)).2 := nb_take hb hn
    generalize a_take A b (nI w) = r at *
    split
    · dsimp only
      exact ⟨c2, c1.cw w, c3, Or.inl ⟨rfl, c1.1 _ (by omega)⟩⟩
    · dsimp only
      have c4 : nb n r.2 (sR r.2 (30 + w) (aw_no (upd (A.1 (30 + w)) 3 r.1))) := nb_R (Or.inr (by omega))
      refine ⟨ivB_R c2 (Or.inr (by omega)), cw_R c1, c3.tr c4, Or.inr ⟨rfl, ?_⟩⟩
      rw [sR_s]; exact noW_no _
theorem a_try_01 (A : aS) (w : Nat) : (a_try A w).1 = 0 ∨ (a_try A w).1 = 1 := by
  unfold a_try
  split <;> split <;> simp
/-- all that serving keeps: stations and the floor's row, queues, gates beyond -/
def ok2 (n : Nat) (A C : aS) : Prop := ivB C ∧ ivW C n ∧ (∀ i, 16 ≤ i → (i < 30 ∨ 36 ≤ i) → C.1 i = A.1 i) ∧ (∀ i, 6 ≤ i → i ≠ 20 → C.2 i = A.2 i) ∧ nb n A C
theorem ok2.rf {n : Nat} {A : aS} (h1 : ivB A) (h2 : ivW A n) : ok2 n A A := ⟨h1, h2, fun _ _ _ => rfl, fun _ _ _ => rfl, nb.rf n A⟩
theorem ok2.tr {n : Nat} {A C D : aS} (h1 : ok2 n A C) (h2 : ok2 n C D) : ok2 n A D := ⟨h2.1, h2.2.1, fun i a b => (h2.2.2.1 i a b).trans (h1.2.2.1 i a b), fun i a b => (h2.2.2.2.1 i a b).trans (h1.2.2.2.1 i a b), h1.2.2.2.2.tr h2.2.2.2.2⟩
theorem ok2.iv {n sn : Nat} {A C : aS} (h : ok2 n A C) (hS : ivS A n sn) : ivS C n sn := by
  obtain ⟨h1, h2, h3, h4, h5, h6⟩ := hS
  exact ⟨by rw [h.2.2.1 40 (by omega) (by omega)]; exact h1, by rw [h.2.2.1 40 (by omega) (by omega)]; exact h2, h3, h4, h5, fun s hs => by rw [h.2.2.1 _ (by omega) (by omega)]; exact h6 s hs⟩
/-- the worker at a place of the line -/
theorem ivW_at {A : aS} {n i : Nat} (h : ivW A n) (hi : i < (A.2 20).length) : ∃ w, w < 6 ∧ (A.2 20).getD i 0 = nI w ∧ iN ((A.2 20).getD i 0) = w ∧ ivw n (A.1 (30 + w)) := by
  obtain ⟨w, hw, e⟩ := h.2.1 _ (gd_mem hi)
  refine ⟨w, hw, e, by rw [e]; exact iN_n (by omega), ?_⟩
  rcases h.1 w hw with ⟨h1, h2⟩ | ⟨h1, h2⟩
  · exact absurd (e ▸ gd_mem hi) h2
  · exact h1
theorem nI_inj6 {a b : Nat} (ha : a < 100) (hb : b < 100) (h : nI a = nI b) : a = b := (nI_eq (by omega) (by omega)).mp h
theorem gd_some {l : List Int32} {i : Nat} (hi : i < l.length) : l[i]? = some (l.getD i 0) := by
  rw [List.getD_eq_getElem?_getD, List.getElem?_eq_getElem hi]; rfl
theorem er_mem {l : List Int32} {i : Nat} {x : Int32} (hn : l.Nodup) (hi : i < l.length) : x ∈ l.eraseIdx i ↔ x ∈ l ∧ x ≠ l.getD i 0 := by
  rw [List.mem_eraseIdx_iff_getElem?]
  constructor
  · rintro ⟨j, hj, e⟩
    refine ⟨List.mem_of_getElem? e, fun z => hj ?_⟩
    have hjl := (List.getElem?_eq_some_iff.mp e).1
    have h2 : l[j]? = l[i]? := by rw [e, gd_some hi, z]
    exact (List.getElem?_inj hjl hn).mp h2
  · rintro ⟨h1, h2⟩
    obtain ⟨j, hj⟩ := List.getElem?_of_mem h1
    refine ⟨j, fun z => h2 ?_, hj⟩
    subst z
    rw [gd_some hi] at hj
    exact (Option.some.inj hj).symm
theorem ivW_eq {A C : aS} {n : Nat} (h : ivW A n) (h1 : ∀ w, w < 6 → C.1 (30 + w) = A.1 (30 + w)) (h2 : C.2 20 = A.2 20) : ivW C n := by
  obtain ⟨g1, g2, g3, g4⟩ := h
  unfold ivW
  rw [h2]
  exact ⟨fun w hw => by rw [h1 w hw]; exact g1 w hw, g2, g3, g4⟩
theorem ivW_del {A C : aS} {n i w : Nat} (h : ivW A n) (hi : i < (A.2 20).length) (hw : w < 6) (e : (A.2 20).getD i 0 = nI w) (h1 : ∀ z, z < 6 → z ≠ w → C.1 (30 + z) = A.1 (30 + z)) (h2 : noW (C.1 (30 + w))) (h3 : C.2 20 = (A.2 20).eraseIdx i) : ivW C n := by
  obtain ⟨g1, g2, g3, g4⟩ := h
  unfold ivW
  rw [h3]
  refine ⟨fun z hz => ?_, fun x hx => g2 x (List.mem_of_mem_eraseIdx hx), g3.eraseIdx i, ?_⟩
  · by_cases ez : z = w
    · subst ez
      refine Or.inl ⟨h2, fun hm => ?_⟩
      exact ((er_mem g3 hi).mp hm).2 e.symm
    · rw [h1 z hz ez, er_mem g3 hi, e]
      have hne : nI z ≠ nI w := fun q => ez (nI_inj6 (by omega) (by omega) q)
      rcases g1 z hz with ⟨k1, k2⟩ | ⟨k1, k2⟩
      · exact Or.inl ⟨k1, fun hm => k2 hm.1⟩
      · exact Or.inr ⟨k1, k2, hne⟩
  · have := List.length_eraseIdx_le (A.2 20) i
    omega
theorem a_sf_ok {n : Nat} (hn : n ≤ 6) : ∀ (k i : Nat) (A : aS), ivB A → ivW A n → i + k = (A.2 20).length → ok2 n A (a_sf k i A).2 ∧ ((a_sf k i A).1 = 0 ∧ (a_sf k i A).2.2 20 = A.2 20 ∨ (a_sf k i A).1 = 1 ∧ ((a_sf k i A).2.2 20).length + 1 = (A.2 20).length)
  | 0, i, A, hB, hW, _ => ⟨ok2.rf hB hW, Or.inl ⟨rfl, rfl⟩⟩
  | k + 1, i, A, hB, hW, hk => by
    have hi : i < (A.2 20).length := by omega
    obtain ⟨w, hw, e1, e2, hv⟩ := ivW_at hW hi
    unfold a_sf
    rw [e2]
    obtain ⟨c1, c2, c3, c4⟩ := a_try_ok hB hn hw hv
    generalize a_try A w = r at *
    have hl : r.2.2 20 = A.2 20 := c2.2 20 (by omega)
    have hr : ∀ z, z < 6 → z ≠ w → r.2.1 (30 + z) = A.1 (30 + z) := fun z hz hzw => c2.1 _ (by omega) (by omega)
    split
    · rename_i h0
      have hrow : r.2.1 (30 + w) = A.1 (30 + w) := by
        rcases c4 with h | h
        · exact h.2
        · rw [h.1] at h0; exact absurd h0 (by decide)
      have hW2 : ivW r.2 n := ivW_eq hW (fun z hz => by
        by_cases ez : z = w
        · subst ez; exact hrow
        · exact hr z hz ez) hl
      have o1 : ok2 n A r.2 := ⟨c1, hW2, fun j a b => c2.1 j a (by omega), fun j a b => c2.2 j a, c3⟩
      obtain ⟨g1, g2⟩ := a_sf_ok hn k (i + 1) r.2 c1 hW2 (by rw [hl]; omega)
      rw [hl] at g2
      exact ⟨o1.tr g1, g2⟩
    · rename_i h0
      have hno : noW (r.2.1 (30 + w)) := by
        rcases c4 with h | h
        · exact absurd h.1 h0
        · exact h.2
      dsimp only
      refine ⟨⟨?_, ?_, fun j a b => ?_, fun j a b => ?_, ?_⟩, Or.inr ⟨rfl, ?_⟩⟩
      · intro c hc
        rw [gB_l _ _ _ _ (by omega) (by omega)]; exact c1 c hc
      · refine ivW_del hW hi hw e1 (fun z hz hzw => hr z hz hzw) hno ?_
        simp only [sL]; rw [vu_s]
      · exact c2.1 j a (by omega)
      · simp only [sL]; rw [vu_n _ _ b]; exact c2.2 j a
      · exact c3.tr (nb_L (Or.inr (Or.inl (by omega))))
      · simp only [sL]; rw [vu_s, List.length_eraseIdx, if_pos hi]; omega
theorem a_srv_ok {n : Nat} (hn : n ≤ 6) : ∀ (k : Nat) (A : aS), ivB A → ivW A n → ok2 n A (a_srv k A)
  | 0, A, hB, hW => ok2.rf hB hW
  | k + 1, A, hB, hW => by
    obtain ⟨g1, -⟩ := a_sf_ok hn (A.2 20).length 0 A hB hW (by omega)
    unfold a_srv
    generalize a_sf (A.2 20).length 0 A = r at *
    split
    · exact g1
    · exact g1.tr (a_srv_ok hn k r.2 g1.1 g1.2.1)
