/-! ===== Row: a short list ===== -/
theorem gn_inc (k : Nat) : nI k + Int32.ofInt 1 = nI (k + 1) := nI_1 k
theorem gn_ix {i : Int32} {n : Nat} (hn : n < 2147483648) (h1 : ¬ i < 0) (h2 : ¬ nI n ≤ i) : ∃ j : Nat, j < n ∧ i = nI j := by
  rcases pk_ix i (n := n) hn with h | h | h
  · exact absurd h h1
  · exact absurd h h2
  · exact h
theorem gn_lt {n k : Nat} (h : ¬ nI n ≤ nI k) (hk : k < 2147483648) : k < n := Nat.lt_of_not_le fun hle => h (nI_le hle hk)
theorem gn_le {n k : Nat} (h : nI n ≤ nI k) (hn : n < 2147483648) : n ≤ k := Nat.le_of_not_lt fun hlt => nI_ge hlt hn h
abbrev sh_row (r : Nat) : gj_S := .inl (5, [some (some (r + 1)), none])
abbrev sh_i (n : Nat) : gj_S := .inr (.inl n)
def rsh (σ : gj_H) (r : Nat) : Prop := σ r = some (sh_row r) ∧ σ (r + 1) = some (sh_i 6)
def rr (v : gj_V) (r : Nat) (l : List Int32) : Prop := v r 1 = nI l.length ∧ l.length ≤ 6 ∧ ∀ i, i < l.length → v (r + 1) i = l.getD i 0
def fr2 (v v' : gj_V) (r : Nat) : Prop := ∀ a, a ≠ r → a ≠ r + 1 → v' a = v a
def l_at (l : List Int32) (i : Int32) : Int32 := if i < 0 then -1 else if nI l.length ≤ i then -1 else l.getD i.toNatClampNeg 0
def l_pl (l : List Int32) (w : Int32) : Int32 := if l.idxOf w < l.length then nI (l.idxOf w) else -1
theorem rr.keep {v v' : gj_V} {r : Nat} {l : List Int32} (h : rr v r l) (h1 : v' r = v r) (h2 : v' (r + 1) = v (r + 1)) : rr v' r l := by
  unfold rr at *
  rw [h1, h2]
  exact h
theorem gd_app (l : List Int32) (x : Int32) (i : Nat) (h : i < l.length + 1) : (l ++ [x]).getD i 0 = if i = l.length then x else l.getD i 0 := by
  simp only [List.getD_eq_getElem?_getD]
  by_cases hi : i = l.length
  · subst hi; simp
  · rw [if_neg hi, List.getElem?_append_left (by omega)]
theorem gd_cons (l : List Int32) (x : Int32) (i : Nat) : (x :: l).getD i 0 = if i = 0 then x else l.getD (i - 1) 0 := by
  rcases i with _ | i <;> simp
theorem gd_erase (l : List Int32) (k i : Nat) : (l.eraseIdx k).getD i 0 = if i < k then l.getD i 0 else l.getD (i + 1) 0 := by
  simp only [List.getD_eq_getElem?_getD, List.getElem?_eraseIdx]
  split <;> rfl
theorem gd_idx (l : List Int32) (w : Int32) (k : Nat) (hk : k < l.length) (h1 : l.getD k 0 = w) (h2 : ∀ j, j < k → l.getD j 0 ≠ w) : l.idxOf w = k := by
  have hg : l[k]? = some w := by
    rw [List.getElem?_eq_getElem hk]
    rw [List.getD_eq_getElem?_getD, List.getElem?_eq_getElem hk] at h1
    simpa using h1
  have hle : l.idxOf w ≤ k := by
    apply Nat.le_of_not_lt
    intro hlt
    have := List.not_of_lt_findIdx (p := (· == w)) (xs := l) (i := k) hlt
    rw [List.getElem?_eq_getElem hk] at hg
    simp at hg
    simp [hg] at this
  rcases Nat.lt_or_eq_of_le hle with hlt | he
  · exfalso
    have hl : l.idxOf w < l.length := Nat.lt_trans hlt hk
    have h3 := List.getElem_idxOf hl
    apply h2 _ hlt
    rw [List.getD_eq_getElem?_getD, List.getElem?_eq_getElem hl]
    simpa using h3
  · exact he
theorem gd_noidx (l : List Int32) (w : Int32) (h2 : ∀ j, j < l.length → l.getD j 0 ≠ w) : ¬ l.idxOf w < l.length := by
  intro hl
  have h3 := List.getElem_idxOf hl
  apply h2 _ hl
  rw [List.getD_eq_getElem?_getD, List.getElem?_eq_getElem hl]
  simpa using h3

set_option maxRecDepth 100000 in
set_option maxHeartbeats 4000000 in
theorem p_X5_at {X : gj_X} {lim : Nat} {σ : gj_H} {v : gj_V} {r : Nat} {i : Int32} {l : List Int32} (hs : rsh σ r) (hr : rr v r l) : gj_E X 0 m_X5_at [.ref r, .int i] lim σ v (q_i lim σ (fun x v' => x = l_at l i ∧ v' = v)) := by
  obtain ⟨hs1, hs2⟩ := hs
  obtain ⟨eq1, eq2, eq3⟩ := hr
  refine gj_E_at (L := [some (.ref r), some (.int i)]) (k := 0) rfl (by decide) rfl ?_
  refine g_iload_n (q := 1) dX5_at_0 rfl rfl ?_
  refine g_iflt (t := 21) (q := 4) dX5_at_1 (by decide) rfl (fun hq1 => ?_) (fun hq1 => ?_)
  · refine g_iconst (q := 22) (x := (-1)) dX5_at_21 (by decide) rfl ?_
    refine r_i dX5_at_22 rfl rfl rfl ?_
    refine ⟨?_, rfl⟩
    first | (rw [l_at, if_pos hq1]; done) | (rw [l_at, if_neg hq1, if_pos hq9]; done) | (rw [l_at, if_neg hq1, if_neg hq9, nI_clamp (by omega)]; exact eq3 j hj)
  · refine g_iload_n (q := 5) dX5_at_4 rfl rfl ?_
    refine g_aload_n (q := 6) dX5_at_5 rfl rfl ?_
    refine g_getI (q := 9) f_X5_15 (by assumption) rfl dX5_at_6 rfl ?_
    refine g_icmpge (t := 21) (q := 12) dX5_at_9 (by decide) rfl (fun hq9 => ?_) (fun hq9 => ?_)
    · rw [eq1] at hq9
      refine g_iconst (q := 22) (x := (-1)) dX5_at_21 (by decide) rfl ?_
      refine r_i dX5_at_22 rfl rfl rfl ?_
      refine ⟨?_, rfl⟩
      first | (rw [l_at, if_pos hq1]; done) | (rw [l_at, if_neg hq1, if_pos hq9]; done) | (rw [l_at, if_neg hq1, if_neg hq9, nI_clamp (by omega)]; exact eq3 j hj)
    · rw [eq1] at hq9
      obtain ⟨j, hj, rfl⟩ := gn_ix (by omega) hq1 hq9
      refine g_aload_n (q := 13) dX5_at_12 rfl rfl ?_
      refine g_getR (q := 16) f_X5_9 (by assumption) rfl dX5_at_13 rfl ?_
      refine g_iload_n (q := 17) dX5_at_16 rfl rfl ?_
      refine g_iald (q := 18) (by assumption) rfl (Nat.lt_of_lt_of_le hj eq2) (by decide) dX5_at_17 rfl ?_
      refine g_goto (q := 22) dX5_at_18 (by decide) ?_
      refine r_i dX5_at_22 rfl rfl rfl ?_
      refine ⟨?_, rfl⟩
      first | (rw [l_at, if_pos hq1]; done) | (rw [l_at, if_neg hq1, if_pos hq9]; done) | (rw [l_at, if_neg hq1, if_neg hq9, nI_clamp (by omega)]; exact eq3 j hj)

set_option maxRecDepth 100000 in
set_option maxHeartbeats 4000000 in
theorem p_X5_placeOf {X : gj_X} {lim : Nat} {σ : gj_H} {v : gj_V} {r : Nat} {w : Int32} {l : List Int32} (hs : rsh σ r) (hr : rr v r l) : gj_E X 0 m_X5_placeOf [.ref r, .int w] lim σ v (q_i lim σ (fun x v' => x = l_pl l w ∧ v' = v)) := by
  obtain ⟨hs1, hs2⟩ := hs
  obtain ⟨eq1, eq2, eq3⟩ := hr
  refine gj_E_at (L := [some (.ref r), some (.int w), none]) (k := 1) rfl (by decide) rfl ?_
  have loop : ∀ n k, k ≤ l.length → l.length - k < n → (∀ j, j < k → l.getD j 0 ≠ w) → gj_G X 0 m_X5_placeOf (q_i lim σ (fun x v' => x = l_pl l w ∧ v' = v)) lim σ v 0 0 2 [some (.ref r), some (.int w), some (.int (nI k))] [] := by
    intro n
    induction n with
    | zero => intro k _ h; omega
    | succ n ih =>
      intro k hk0 hm hn
      refine g_iload_n (q := 3) dX5_placeOf_2 rfl rfl ?_
      refine g_aload_n (q := 4) dX5_placeOf_3 rfl rfl ?_
      refine g_getI (q := 7) f_X5_15 (by assumption) rfl dX5_placeOf_4 rfl ?_
      refine g_icmpge (t := 28) (q := 10) dX5_placeOf_7 (by decide) rfl (fun hq7 => ?_) (fun hq7 => ?_)
      · rw [eq1] at hq7
        refine g_iconst (q := 29) (x := (-1)) dX5_placeOf_28 (by decide) rfl ?_
        refine r_i dX5_placeOf_29 rfl rfl rfl ?_
        refine ⟨?_, rfl⟩
        rw [l_pl, if_neg (gd_noidx l w (fun j hj => hn j (Nat.lt_of_lt_of_le hj (gn_le hq7 (by omega)))))]
      · rw [eq1] at hq7
        have hk : k < l.length := gn_lt hq7 (by omega)
        refine g_aload_n (q := 11) dX5_placeOf_10 rfl rfl ?_
        refine g_getR (q := 14) f_X5_9 (by assumption) rfl dX5_placeOf_11 rfl ?_
        refine g_iload_n (q := 15) dX5_placeOf_14 rfl rfl ?_
        refine g_iald (q := 16) (by assumption) rfl (Nat.lt_of_lt_of_le hk eq2) (by decide) dX5_placeOf_15 rfl ?_
        refine g_iload_n (q := 17) dX5_placeOf_16 rfl rfl ?_
        refine g_icmpne (t := 22) (q := 20) dX5_placeOf_17 (by decide) rfl (fun hq17 => ?_) (fun hq17 => ?_)
        · refine g_iinc (q := 25) (y := nI (k + 1)) dX5_placeOf_22 rfl (gn_inc k) rfl rfl rfl rfl ?_
          dsimp only [List.set]
          refine g_goto (q := 2) dX5_placeOf_25 (by decide) ?_
          exact ih (k + 1) (by omega) (by omega) (fun j hj => by
            by_cases e : j = k
            · subst e; rw [← eq3 j hk]; exact hq17
            · exact hn j (by omega))
        · refine g_iload_n (q := 21) dX5_placeOf_20 rfl rfl ?_
          refine r_i dX5_placeOf_21 rfl rfl rfl ?_
          refine ⟨?_, rfl⟩
          have eq4 := gd_idx l w k hk (by rw [← eq3 k hk]; exact hq17) hn
          rw [l_pl, eq4, if_pos hk]
  refine g_iconst (q := 1) (x := 0) dX5_placeOf_0 (by decide) rfl ?_
  refine g_istore_n (q := 2) dX5_placeOf_1 rfl rfl rfl rfl ?_
  dsimp only [List.set]
  exact loop (l.length + 1) 0 (by omega) (by omega) (fun j hj => by omega)

set_option maxRecDepth 100000 in
set_option maxHeartbeats 4000000 in
theorem p_X5_addLast {X : gj_X} {lim : Nat} {σ : gj_H} {v : gj_V} {r : Nat} {x : Int32} {l : List Int32} (hs : rsh σ r) (hr : rr v r l) (hl : l.length < 6) : gj_E X 0 m_X5_addLast [.ref r, .int x] lim σ v (q_v lim σ (fun v' => rr v' r (l ++ [x]) ∧ fr2 v v' r)) := by
  obtain ⟨hs1, hs2⟩ := hs
  obtain ⟨eq1, eq2, eq3⟩ := hr
  refine gj_E_at (L := [some (.ref r), some (.int x)]) (k := 0) rfl (by decide) rfl ?_
  refine g_aload_n (q := 1) dX5_addLast_0 rfl rfl ?_
  refine g_getI (q := 4) f_X5_15 (by assumption) rfl dX5_addLast_1 rfl ?_
  refine g_bipush (q := 6) (x := 6) dX5_addLast_4 (by decide) rfl ?_
  refine g_icmpge (t := 29) (q := 9) dX5_addLast_6 (by decide) rfl (fun hq6 => ?_) (fun hq6 => ?_)
  · rw [eq1] at hq6
    exact absurd hq6 (nI_ge (a := l.length) (b := 6) hl (by decide))
  · refine g_aload_n (q := 10) dX5_addLast_9 rfl rfl ?_
    refine g_getR (q := 13) f_X5_9 (by assumption) rfl dX5_addLast_10 rfl ?_
    refine g_aload_n (q := 14) dX5_addLast_13 rfl rfl ?_
    refine g_getI (q := 17) f_X5_15 (by assumption) rfl dX5_addLast_14 rfl ?_
    refine g_iload_n (q := 18) dX5_addLast_17 rfl rfl ?_
    refine g_iast (q := 19) (by assumption) eq1 hl (by decide) dX5_addLast_18 rfl ?_
    refine g_aload_n (q := 20) dX5_addLast_19 rfl rfl ?_
    refine g_dup (q := 21) dX5_addLast_20 rfl rfl ?_
    refine g_getI (q := 24) f_X5_15 (by assumption) rfl dX5_addLast_21 rfl ?_
    refine g_iconst (q := 25) (x := 1) dX5_addLast_24 (by decide) rfl ?_
    refine g_iadd (q := 26) dX5_addLast_25 rfl ?_
    refine g_putI (q := 29) f_X5_15 (by assumption) rfl rfl rfl dX5_addLast_26 rfl ?_
    refine r_v dX5_addLast_29 rfl rfl rfl ?_
    refine ⟨⟨?_, by simp; omega, fun i hi => ?_⟩, fun a hq1 hq2 => ?_⟩
    · simp [gu_2, gu_s, gu_n, ud_s, eq1, nI_1]
    · rw [gd_app l x i (by simpa using hi)]
      simp only [gu_2]
      rw [gu_n _ _ (by omega), gu_s]
      by_cases e : i = l.length
      · subst e; simp [ud_s]
      · rw [ud_n _ _ e, if_neg e]; exact eq3 i (by simp at hi; omega)
    · simp only [gu_2]
      rw [gu_n _ _ hq1, gu_n _ _ hq2]

set_option maxRecDepth 100000 in
set_option maxHeartbeats 4000000 in
theorem p_X5_addFirst {X : gj_X} {lim : Nat} {σ : gj_H} {v : gj_V} {r : Nat} {x : Int32} {l : List Int32} (hs : rsh σ r) (hr : rr v r l) (hl : l.length < 6) : gj_E X 0 m_X5_addFirst [.ref r, .int x] lim σ v (q_v lim σ (fun v' => rr v' r (x :: l) ∧ fr2 v v' r)) := by
  obtain ⟨hs1, hs2⟩ := hs
  obtain ⟨eq1, eq2, eq3⟩ := hr
  refine gj_E_at (L := [some (.ref r), some (.int x)]) (k := 0) rfl (by decide) rfl ?_
  refine g_aload_n (q := 1) dX5_addFirst_0 rfl rfl ?_
  refine g_getI (q := 4) f_X5_15 (by assumption) rfl dX5_addFirst_1 rfl ?_
  refine g_bipush (q := 6) (x := 6) dX5_addFirst_4 (by decide) rfl ?_
  refine g_icmpge (t := 43) (q := 9) dX5_addFirst_6 (by decide) rfl (fun hq6 => ?_) (fun hq6 => ?_)
  · rw [eq1] at hq6
    exact absurd hq6 (nI_ge (a := l.length) (b := 6) hl (by decide))
  · refine g_aload_n (q := 10) dX5_addFirst_9 rfl rfl ?_
    refine g_getR (q := 13) f_X5_9 (by assumption) rfl dX5_addFirst_10 rfl ?_
    refine g_iconst (q := 14) (x := 0) dX5_addFirst_13 (by decide) rfl ?_
    refine g_aload_n (q := 15) dX5_addFirst_14 rfl rfl ?_
    refine g_getR (q := 18) f_X5_9 (by assumption) rfl dX5_addFirst_15 rfl ?_
    refine g_iconst (q := 19) (x := 1) dX5_addFirst_18 (by decide) rfl ?_
    refine g_aload_n (q := 20) dX5_addFirst_19 rfl rfl ?_
    refine g_getI (q := 23) f_X5_15 (by assumption) rfl dX5_addFirst_20 rfl ?_
    refine g_acopy (q := 26) k_X5_19 hs2 hs2 (sp := 0) (dp := 1) (k := l.length) rfl rfl eq1 (by omega) (by omega) (by decide) (by decide) (Nat.le_of_ble_eq_true rfl) dX5_addFirst_23 rfl ?_
    refine g_aload_n (q := 27) dX5_addFirst_26 rfl rfl ?_
    refine g_getR (q := 30) f_X5_9 (by assumption) rfl dX5_addFirst_27 rfl ?_
    refine g_iconst (q := 31) (x := 0) dX5_addFirst_30 (by decide) rfl ?_
    refine g_iload_n (q := 32) dX5_addFirst_31 rfl rfl ?_
    refine g_iast (q := 33) (by assumption) (k := 0) rfl (by decide) (by decide) dX5_addFirst_32 rfl ?_
    refine g_aload_n (q := 34) dX5_addFirst_33 rfl rfl ?_
    refine g_dup (q := 35) dX5_addFirst_34 rfl rfl ?_
    refine g_getI (q := 38) f_X5_15 (by assumption) rfl dX5_addFirst_35 rfl ?_
    refine g_iconst (q := 39) (x := 1) dX5_addFirst_38 (by decide) rfl ?_
    refine g_iadd (q := 40) dX5_addFirst_39 rfl ?_
    refine g_putI (q := 43) f_X5_15 (by assumption) rfl rfl rfl dX5_addFirst_40 rfl ?_
    refine r_v dX5_addFirst_43 rfl rfl rfl ?_
    refine ⟨⟨?_, by simp; omega, fun i hi => ?_⟩, fun a hq1 hq2 => ?_⟩
    · simp [gu_2, gu_s, gu_n, ud_s, eq1, nI_1]
    · rw [gd_cons l x i]
      simp only [gu_2, gu_s, gu_u]
      rw [gu_n _ _ (by omega), gu_s]
      by_cases e : i = 0
      · subst e; simp [ud_s]
      · rw [ud_n _ _ e, if_neg e]
        have hi2 : i < l.length + 1 := by simpa using hi
        rw [va_cpy, if_pos (by omega), Nat.zero_add]
        exact eq3 (i - 1) (by omega)
    · simp only [gu_2]
      rw [gu_n _ _ hq1, gu_n _ _ hq2, gu_n _ _ hq2]

set_option maxRecDepth 100000 in
set_option maxHeartbeats 4000000 in
theorem p_X5_removeAt {X : gj_X} {lim : Nat} {σ : gj_H} {v : gj_V} {r k : Nat} {l : List Int32} (hs : rsh σ r) (hr : rr v r l) (hk : k < l.length) : gj_E X 0 m_X5_removeAt [.ref r, .int (nI k)] lim σ v (q_i lim σ (fun x v' => x = l.getD k 0 ∧ rr v' r (l.eraseIdx k) ∧ fr2 v v' r)) := by
  obtain ⟨hs1, hs2⟩ := hs
  obtain ⟨eq1, eq2, eq3⟩ := hr
  refine gj_E_at (L := [some (.ref r), some (.int (nI k)), none]) (k := 1) rfl (by decide) rfl ?_
  refine g_iload_n (q := 1) dX5_removeAt_0 rfl rfl ?_
  refine g_iflt (t := 12) (q := 4) dX5_removeAt_1 (by decide) rfl (fun hq1 => ?_) (fun hq1 => ?_)
  · exact absurd hq1 (nI_pos (by omega))
  · refine g_iload_n (q := 5) dX5_removeAt_4 rfl rfl ?_
    refine g_aload_n (q := 6) dX5_removeAt_5 rfl rfl ?_
    refine g_getI (q := 9) f_X5_15 (by assumption) rfl dX5_removeAt_6 rfl ?_
    refine g_icmplt (t := 14) (q := 12) dX5_removeAt_9 (by decide) rfl (fun hq9 => ?_) (fun hq9 => ?_)
    · refine g_aload_n (q := 15) dX5_removeAt_14 rfl rfl ?_
      refine g_getR (q := 18) f_X5_9 (by assumption) rfl dX5_removeAt_15 rfl ?_
      refine g_iload_n (q := 19) dX5_removeAt_18 rfl rfl ?_
      refine g_iald (q := 20) (by assumption) rfl (by omega) (by decide) dX5_removeAt_19 rfl ?_
      refine g_istore_n (q := 21) dX5_removeAt_20 rfl rfl rfl rfl ?_
      dsimp only [List.set]
      refine g_aload_n (q := 22) dX5_removeAt_21 rfl rfl ?_
      refine g_dup (q := 23) dX5_removeAt_22 rfl rfl ?_
      refine g_getI (q := 26) f_X5_15 (by assumption) rfl dX5_removeAt_23 rfl ?_
      refine g_iconst (q := 27) (x := 1) dX5_removeAt_26 (by decide) rfl ?_
      refine g_isub (q := 28) dX5_removeAt_27 rfl ?_
      refine g_putI (q := 31) f_X5_15 (by assumption) rfl rfl rfl dX5_removeAt_28 rfl ?_
      refine g_aload_n (q := 32) dX5_removeAt_31 rfl rfl ?_
      refine g_getR (q := 35) f_X5_9 (by assumption) rfl dX5_removeAt_32 rfl ?_
      refine g_iload_n (q := 36) dX5_removeAt_35 rfl rfl ?_
      refine g_iconst (q := 37) (x := 1) dX5_removeAt_36 (by decide) rfl ?_
      refine g_iadd (q := 38) dX5_removeAt_37 rfl ?_
      refine g_aload_n (q := 39) dX5_removeAt_38 rfl rfl ?_
      refine g_getR (q := 42) f_X5_9 (by assumption) rfl dX5_removeAt_39 rfl ?_
      refine g_iload_n (q := 43) dX5_removeAt_42 rfl rfl ?_
      refine g_aload_n (q := 44) dX5_removeAt_43 rfl rfl ?_
      refine g_getI (q := 47) f_X5_15 (by assumption) rfl dX5_removeAt_44 rfl ?_
      refine g_iload_n (q := 48) dX5_removeAt_47 rfl rfl ?_
      refine g_isub (q := 49) dX5_removeAt_48 rfl ?_
      refine g_acopy (q := 52) k_X5_19 hs2 hs2 (sp := k + 1) (dp := k) (k := l.length - 1 - k) (nI_1 k) rfl (by simp only [gu_2, gu_s, ud_s, eq1]; rw [show (1 : Int32) = nI 1 from rfl, pk_sub (by omega), pk_sub (by omega)]) (by omega) (by omega) (by decide) (by decide) (Nat.le_of_ble_eq_true rfl) dX5_removeAt_49 rfl ?_
      refine g_iload_n (q := 53) dX5_removeAt_52 rfl rfl ?_
      refine r_i dX5_removeAt_53 rfl rfl rfl ?_
      have hlen : (l.eraseIdx k).length = l.length - 1 := by rw [List.length_eraseIdx, if_pos hk]
      refine ⟨eq3 k hk, ⟨?_, by omega, fun i hi => ?_⟩, fun a hq1 hq2 => ?_⟩
      · rw [gu_n _ _ (by omega), gu_2, gu_s, ud_s, eq1, hlen]
        rw [show (1 : Int32) = nI 1 from rfl, pk_sub (by omega)]
      · rw [gu_s, gd_erase]
        simp only [gu_2, gu_n _ _ (show r + 1 ≠ r by omega), va_cpy]
        rw [hlen] at hi
        by_cases e : i < k
        · rw [if_neg (by omega), if_pos e]; exact eq3 i (by omega)
        · rw [if_pos (by omega), if_neg e, show k + 1 + (i - k) = i + 1 by omega]; exact eq3 (i + 1) (by omega)
      · rw [gu_n _ _ hq2, gu_2, gu_n _ _ hq1]
    · rw [eq1] at hq9
      exact absurd (nI_lt hk (by omega)) hq9

set_option maxRecDepth 100000 in
set_option maxHeartbeats 4000000 in
theorem p_X5_removeAt_none {X : gj_X} {lim : Nat} {σ : gj_H} {v : gj_V} {r : Nat} (hs : rsh σ r) (hr : rr v r []) : gj_E X 0 m_X5_removeAt [.ref r, .int 0] lim σ v (q_i lim σ (fun x v' => x = -1 ∧ v' = v)) := by
  obtain ⟨hs1, hs2⟩ := hs
  obtain ⟨eq1, eq2, eq3⟩ := hr
  refine gj_E_at (L := [some (.ref r), some (.int 0), none]) (k := 1) rfl (by decide) rfl ?_
  refine g_iload_n (q := 1) dX5_removeAt_0 rfl rfl ?_
  refine g_iflt (t := 12) (q := 4) dX5_removeAt_1 (by decide) rfl (fun hq1 => ?_) (fun hq1 => ?_)
  · exact absurd hq1 (by decide)
  · refine g_iload_n (q := 5) dX5_removeAt_4 rfl rfl ?_
    refine g_aload_n (q := 6) dX5_removeAt_5 rfl rfl ?_
    refine g_getI (q := 9) f_X5_15 (by assumption) rfl dX5_removeAt_6 rfl ?_
    refine g_icmplt (t := 14) (q := 12) dX5_removeAt_9 (by decide) rfl (fun hq9 => ?_) (fun hq9 => ?_)
    · rw [eq1] at hq9
      exact absurd hq9 (by decide)
    · refine g_iconst (q := 13) (x := (-1)) dX5_removeAt_12 (by decide) rfl ?_
      refine r_i dX5_removeAt_13 rfl rfl rfl ?_
      exact ⟨rfl, rfl⟩

set_option maxRecDepth 100000 in
set_option maxHeartbeats 4000000 in
theorem p_X5_copyFrom {X : gj_X} {lim : Nat} {σ : gj_H} {v : gj_V} {r z : Nat} {l : List Int32} (hs : rsh σ r) (hz : rsh σ z) (hr : rr v z l) (hne : z ≠ r ∧ z ≠ r + 1 ∧ z + 1 ≠ r) : gj_E X 0 m_X5_copyFrom [.ref r, .ref z] lim σ v (q_v lim σ (fun v' => rr v' r l ∧ fr2 v v' r)) := by
  obtain ⟨hs1, hs2⟩ := hs
  obtain ⟨eq1, eq2, eq3⟩ := hr
  obtain ⟨hz1, hz2⟩ := hz
  refine gj_E_at (L := [some (.ref r), some (.ref z)]) (k := 0) rfl (by decide) rfl ?_
  refine g_aload_n (q := 1) dX5_copyFrom_0 rfl rfl ?_
  refine g_getR (q := 4) f_X5_9 (by assumption) rfl dX5_copyFrom_1 rfl ?_
  refine g_iconst (q := 5) (x := 0) dX5_copyFrom_4 (by decide) rfl ?_
  refine g_aload_n (q := 6) dX5_copyFrom_5 rfl rfl ?_
  refine g_getR (q := 9) f_X5_9 (by assumption) rfl dX5_copyFrom_6 rfl ?_
  refine g_iconst (q := 10) (x := 0) dX5_copyFrom_9 (by decide) rfl ?_
  refine g_bipush (q := 12) (x := 6) dX5_copyFrom_10 (by decide) rfl ?_
  refine g_acopy (q := 15) k_X5_19 hz2 hs2 (sp := 0) (dp := 0) (k := 6) rfl rfl rfl (by decide) (by decide) (by decide) (by decide) (Nat.le_of_ble_eq_true rfl) dX5_copyFrom_12 rfl ?_
  refine g_aload_n (q := 16) dX5_copyFrom_15 rfl rfl ?_
  refine g_aload_n (q := 17) dX5_copyFrom_16 rfl rfl ?_
  refine g_getI (q := 20) f_X5_15 (by assumption) rfl dX5_copyFrom_17 rfl ?_
  refine g_putI (q := 23) f_X5_15 (by assumption) rfl rfl rfl dX5_copyFrom_20 rfl ?_
  refine r_v dX5_copyFrom_23 rfl rfl rfl ?_
  refine ⟨⟨?_, eq2, fun i hi => ?_⟩, fun a hq1 hq2 => ?_⟩
  · simp [gu_2, gu_s, ud_s, gu_n _ _ hne.2.1, eq1]
  · rw [gu_2, gu_n _ _ (by omega), gu_s, va_cpy, if_pos (by omega), Nat.sub_zero, Nat.zero_add]; exact eq3 i hi
  · rw [gu_2, gu_n _ _ hq1, gu_n _ _ hq2]
