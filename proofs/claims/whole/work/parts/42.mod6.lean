/-! ===== the reference: laying aside, giving back ===== -/
def laF (N : Nat → Int32) (c : Nat) : Int32 := if c % 9 = 8 then N (10 + 24 * (c / 9) + 0) else N (10 + 24 * (c / 9) + 14 + c % 9)
def la (S N : Nat → Int32) (p c : Nat) : Nat → Int32 := fun j => if 54 * p ≤ j ∧ j < 54 * p + c then laF N (j - 54 * p) else S j
theorem la_0 (S N : Nat → Int32) (p : Nat) : la S N p 0 = S := funext fun j => if_neg (by omega)
theorem la_s (S N : Nat → Int32) (p c : Nat) : upd (la S N p c) (54 * p + c) (laF N c) = la S N p (c + 1) := by
  funext j
  unfold upd la
  by_cases e : j = 54 * p + c
  · subst e; rw [if_pos rfl, if_pos (by omega), show 54 * p + c - 54 * p = c by omega]
  · rw [if_neg e]
    by_cases h : 54 * p ≤ j ∧ j < 54 * p + c
    · rw [if_pos h, if_pos (by omega)]
    · rw [if_neg h, if_neg (by omega)]
/-- the items that lie aside at place p -/
def asd (S : Nat → Int32) (p : Nat) (ls : Nat → List Int32) : Prop := ∀ b, b < 6 → S (54 * p + 9 * b + 8) = nI (ls b).length ∧ (ls b).length ≤ 6 ∧ ∀ i, i < (ls b).length → S (54 * p + 9 * b + i) = (ls b).getD i 0
theorem asd_la {S N : Nat → Int32} {A : aS} {t : Int32} {sn p : Nat} (h : MR N A t sn) : asd (la S N p 54) p A.2 := by
  intro b hb
  obtain ⟨a0, a1, a2, a3, a4, a5, a6, a7, a8, a9, a10, a11⟩ := h.2.1 b hb
  refine ⟨?_, a10, fun i hi => ?_⟩
  · unfold la laF
    rw [if_pos (by omega), if_pos (by omega), show (54 * p + 9 * b + 8 - 54 * p) / 9 = b by omega]; exact a0
  · unfold la laF
    rw [if_pos (by omega), if_neg (by omega), show (54 * p + 9 * b + i - 54 * p) / 9 = b by omega, show (54 * p + 9 * b + i - 54 * p) % 9 = i by omega]; exact a9 i hi
theorem asd.keep {S S' : Nat → Int32} {p : Nat} {ls : Nat → List Int32} (h : asd S p ls) (hk : ∀ j, 54 * p ≤ j → j < 54 * p + 54 → S' j = S j) : asd S' p ls := fun b hb => ⟨by rw [hk _ (by omega) (by omega)]; exact (h b hb).1, (h b hb).2.1, fun i hi => by have := (h b hb).2.1; rw [hk _ (by omega) (by omega)]; exact (h b hb).2.2 i hi⟩
def un (N S : Nat → Int32) (p b i : Nat) : Nat → Int32 := fun j => if 10 ≤ j ∧ 14 ≤ (j - 10) % 24 ∧ ((j - 10) / 24 < b ∧ (j - 10) % 24 < 22 ∨ (j - 10) / 24 = b ∧ (j - 10) % 24 < 14 + i) then S (54 * p + 9 * ((j - 10) / 24) + ((j - 10) % 24 - 14)) else if 10 ≤ j ∧ (j - 10) % 24 = 0 ∧ (j - 10) / 24 < b then S (54 * p + 9 * ((j - 10) / 24) + 8) else N j
theorem un_0 (N S : Nat → Int32) (p : Nat) : un N S p 0 0 = N := by
  funext j; unfold un; rw [if_neg (by omega), if_neg (by omega)]
theorem un_i (N S : Nat → Int32) (p b i : Nat) (hi : i < 8) : upd (un N S p b i) (10 + 24 * b + 14 + i) (S (54 * p + 9 * b + i)) = un N S p b (i + 1) := by
  funext j
  unfold upd
  by_cases e : j = 10 + 24 * b + 14 + i
  · subst e
    rw [if_pos rfl]
    unfold un
    rw [if_pos (by omega), show (10 + 24 * b + 14 + i - 10) / 24 = b by omega, show (10 + 24 * b + 14 + i - 10) % 24 - 14 = i by omega]
  · rw [if_neg e]
    unfold un
    by_cases h1 : 10 ≤ j ∧ 14 ≤ (j - 10) % 24 ∧ ((j - 10) / 24 < b ∧ (j - 10) % 24 < 22 ∨ (j - 10) / 24 = b ∧ (j - 10) % 24 < 14 + i)
    · rw [if_pos h1, if_pos (by omega)]
    · have h3 : ¬ (10 ≤ j ∧ 14 ≤ (j - 10) % 24 ∧ ((j - 10) / 24 < b ∧ (j - 10) % 24 < 22 ∨ (j - 10) / 24 = b ∧ (j - 10) % 24 < 14 + (i + 1))) := by omega
      rw [if_neg h1, if_neg h3]
theorem un_b (N S : Nat → Int32) (p b : Nat) : upd (un N S p b 8) (10 + 24 * b + 0) (S (54 * p + 9 * b + 8)) = un N S p (b + 1) 0 := by
  funext j
  unfold upd
  by_cases e : j = 10 + 24 * b + 0
  · subst e
    rw [if_pos rfl]
    unfold un
    rw [if_neg (by omega), if_pos (by omega), show (10 + 24 * b + 0 - 10) / 24 = b by omega]
  · rw [if_neg e]
    unfold un
    by_cases h1 : 10 ≤ j ∧ 14 ≤ (j - 10) % 24 ∧ ((j - 10) / 24 < b ∧ (j - 10) % 24 < 22 ∨ (j - 10) / 24 = b ∧ (j - 10) % 24 < 14 + 8)
    · rw [if_pos h1, if_pos (by omega)]
    · have h3 : ¬ (10 ≤ j ∧ 14 ≤ (j - 10) % 24 ∧ ((j - 10) / 24 < b + 1 ∧ (j - 10) % 24 < 22 ∨ (j - 10) / 24 = b + 1 ∧ (j - 10) % 24 < 14 + 0)) := by omega
      rw [if_neg h1, if_neg h3]
      by_cases h2 : 10 ≤ j ∧ (j - 10) % 24 = 0 ∧ (j - 10) / 24 < b
      · rw [if_pos h2, if_pos (by omega)]
      · rw [if_neg h2, if_neg (by omega)]
theorem un_o {N S : Nat → Int32} {p j : Nat} (h : j < 10 ∨ 154 ≤ j ∨ (1 ≤ (j - 10) % 24 ∧ (j - 10) % 24 < 14)) : un N S p 6 0 j = N j := by
  unfold un; rw [if_neg (by omega), if_neg (by omega)]
theorem MR_un {N S : Nat → Int32} {A : aS} {t : Int32} {sn p : Nat} {ls : Nat → List Int32} (h : MR N A t sn) (hS : asd S p ls) : MR (un N S p 6 0) (a_res A 6 ls) t sn := by
  obtain ⟨h1, h2, h3, h4, h5, h6, h7⟩ := h
  refine ⟨?_, fun b hb => ?_, fun g hg => (h3 g hg).keep (fun i a b => un_o (by omega)), fun s hs => (h4 s hs).keep (fun i a b => un_o (by omega)), fun s q1 q2 k hk => by rw [un_o (by omega)]; exact h5 s q1 q2 k hk, fun w hw => (h6 w hw).keep (fun i a b => un_o (by omega)), h7⟩
  · have k := h1.keep (N' := un N S p 6 0) (fun i hi => un_o (by omega)) (fun i a b => un_o (by omega))
    unfold mz at *
    simp only [a_res]
    rw [if_neg (by omega)]; exact k
  · obtain ⟨a0, a1, a2, a3, a4, a5, a6, a7, a8, a9, a10, a11⟩ := h2 b hb
    obtain ⟨s0, s1, s2⟩ := hS b hb
    simp only [a_res]
    rw [if_pos hb, if_neg (by omega)]
    refine ⟨?_, by rw [un_o (by omega)]; exact a1, by rw [un_o (by omega)]; exact a2, by rw [un_o (by omega)]; exact a3, by rw [un_o (by omega)]; exact a4, by rw [un_o (by omega)]; exact a5, by rw [un_o (by omega)]; exact a6, by rw [un_o (by omega)]; exact a7, fun i hi => by rw [un_o (by omega)]; exact a8 i hi, fun i hi => ?_, s1, a11⟩
    · unfold un; rw [if_neg (by omega), if_pos (by omega), show (10 + 24 * b + 0 - 10) / 24 = b by omega]; exact s0
    · unfold un; rw [if_pos (by omega), show (10 + 24 * b + 14 + i - 10) / 24 = b by omega, show (10 + 24 * b + 14 + i - 10) % 24 - 14 = i by omega]; exact s2 i hi

set_option maxRecDepth 100000 in
set_option maxHeartbeats 4000000 in
theorem p_X11_laysAside {X : gj_X} {lim : Nat} {σ : gj_H} {v : gj_V} {m sn : Nat} {A : aS} {t : Int32} (hs : msh σ m) (hM : MR (v (m + 2)) A t sn) {p : Nat} (hp : p < 6) : gj_E X 1 m_X11_laysAside [.ref m, .int (nI p)] lim σ v (q_v lim σ (fun v' => v' = gj_up v (m + 4) (la (v (m + 4)) (v (m + 2)) p 54))) := by
  obtain ⟨so, s1, s2, s3, s4, s5, s6, s7, s8, s9, s10, s11, s12⟩ := id hs
  have lo : ∀ (kb b : Nat) (w : gj_V), w = gj_up v (m + 4) (la (v (m + 4)) (v (m + 2)) p (9 * b)) → b + kb = 6 → gj_G X 1 m_X11_laysAside (q_v lim σ (fun v' => v' = gj_up v (m + 4) (la (v (m + 4)) (v (m + 2)) p 54))) lim σ w 0 0 2 [some (.ref m), some (.int (nI p)), some (.int (nI b)), none] [] := by
    intro kb
    induction kb with
    | zero =>
      intro b w hw hk
      have eb : b = 6 := by omega
      subst b
      refine g_iload_n (q := 3) dX11_laysAside_2 rfl rfl ?_
      refine g_bipush (q := 5) (x := 6) dX11_laysAside_3 (by decide) rfl ?_
      refine g_icmpge (t := 78) (q := 8) dX11_laysAside_5 (by decide) rfl (fun hq5 => ?_) (fun hq5 => ?_)
      · refine r_v dX11_laysAside_78 rfl rfl rfl ?_
        exact hw
      · exact absurd (Int32.le_refl _) hq5
    | succ kb ihb =>
      intro b w hw hk
      have li : ∀ (k i : Nat) (w : gj_V), w = gj_up v (m + 4) (la (v (m + 4)) (v (m + 2)) p (9 * b + i)) → i + k = 9 → gj_G X 1 m_X11_laysAside (q_v lim σ (fun v' => v' = gj_up v (m + 4) (la (v (m + 4)) (v (m + 2)) p 54))) lim σ w 0 0 10 [some (.ref m), some (.int (nI p)), some (.int (nI b)), some (.int (nI i))] [] := by
        intro k
        induction k with
        | zero =>
          intro i w hw hk
          have ei : i = 9 := by omega
          subst i
          refine g_iload_n (q := 11) dX11_laysAside_10 rfl rfl ?_
          refine g_bipush (q := 13) (x := 9) dX11_laysAside_11 (by decide) rfl ?_
          refine g_icmpge (t := 72) (q := 16) dX11_laysAside_13 (by decide) rfl (fun hq13 => ?_) (fun hq13 => ?_)
          · refine g_iinc (q := 75) (y := nI (b + 1)) dX11_laysAside_72 rfl (gn_inc b) rfl rfl rfl rfl ?_
            dsimp only [List.set]
            refine g_goto (q := 2) dX11_laysAside_75 (by decide) ?_
            refine g_wk (L' := [some (.ref m), some (.int (nI p)), some (.int (nI (b + 1))), none]) (by simp [gj_wk]) ?_
            exact ihb (b + 1) w (by rw [show 9 * (b + 1) = 9 * b + 9 by omega]; exact hw) (by omega)
          · exact absurd (Int32.le_refl _) hq13
        | succ k ih =>
          intro i w hw hk
          have n4 := congrFun hw (m + 4)
          rw [gu_s] at n4
          have n2 := congrFun hw (m + 2)
          rw [gu_n _ _ (by omega)] at n2
          refine g_iload_n (q := 11) dX11_laysAside_10 rfl rfl ?_
          refine g_bipush (q := 13) (x := 9) dX11_laysAside_11 (by decide) rfl ?_
          refine g_icmpge (t := 72) (q := 16) dX11_laysAside_13 (by decide) rfl (fun hq13 => ?_) (fun hq13 => ?_)
          · exact absurd (gn_le (n := 9) hq13 (by omega)) (by omega)
          · refine g_aload_n (q := 17) dX11_laysAside_16 rfl rfl ?_
            refine g_getR (q := 20) f_X11_19 (by assumption) rfl dX11_laysAside_17 rfl ?_
            refine g_bipush (q := 22) (x := 54) dX11_laysAside_20 (by decide) rfl ?_
            refine g_iload_n (q := 23) dX11_laysAside_22 rfl rfl ?_
            refine g_imul (q := 24) dX11_laysAside_23 rfl ?_
            refine g_bipush (q := 26) (x := 9) dX11_laysAside_24 (by decide) rfl ?_
            refine g_iload_n (q := 27) dX11_laysAside_26 rfl rfl ?_
            refine g_imul (q := 28) dX11_laysAside_27 rfl ?_
            refine g_iadd (q := 29) dX11_laysAside_28 rfl ?_
            refine g_iload_n (q := 30) dX11_laysAside_29 rfl rfl ?_
            refine g_iadd (q := 31) dX11_laysAside_30 rfl ?_
            refine g_iload_n (q := 32) dX11_laysAside_31 rfl rfl ?_
            refine g_bipush (q := 34) (x := 8) dX11_laysAside_32 (by decide) rfl ?_
            refine g_icmpne (t := 51) (q := 37) dX11_laysAside_34 (by decide) rfl (fun hq34 => ?_) (fun hq34 => ?_)
            · have hi8 : ¬ i = 8 := fun z => hq34 (by rw [z]; rfl)
              refine g_aload_n (q := 52) dX11_laysAside_51 rfl rfl ?_
              refine g_getR (q := 55) f_X11_13 (by assumption) rfl dX11_laysAside_52 rfl ?_
              refine g_iload_n (q := 56) dX11_laysAside_55 rfl rfl ?_
              refine c_Si (q := 59) (p_X11_atBuffer (b := b)) k_X11_54 (by decide) rfl rfl (Nat.le_of_ble_eq_true rfl) rfl rfl dX11_laysAside_56 rfl ?_
              rintro z0 w1 ⟨hz0, hw1⟩
              subst w1
              subst z0
              refine g_bipush (q := 61) (x := 14) dX11_laysAside_59 (by decide) rfl ?_
              refine g_iadd (q := 62) dX11_laysAside_61 rfl ?_
              refine g_iload_n (q := 63) dX11_laysAside_62 rfl rfl ?_
              refine g_iadd (q := 64) dX11_laysAside_63 rfl ?_
              refine g_iald (q := 65) (by assumption) (by first | (simp only [gn_lit, nI_add, pk_mul]; exact rfl) | exact rfl) (by omega) (by decide) dX11_laysAside_64 rfl ?_
              refine g_iast (q := 66) (by assumption) (show 54 * nI p + 9 * nI b + nI i = nI (54 * p + (9 * b + i)) by simp only [gn_lit, nI_add, pk_mul, Nat.add_assoc]) (by omega) (by decide) dX11_laysAside_65 rfl ?_
              refine g_gen (fun vq3 hvq3 => ?_)
              have eF : laF (v (m + 2)) (9 * b + i) = v (m + 2) (10 + 24 * b + 14 + i) := by
                unfold laF
                rw [if_neg (by omega), show (9 * b + i) / 9 = b by omega, show (9 * b + i) % 9 = i by omega]
              rw [gu_2, n4, n2, ← eF, la_s, hw, gu_u] at hvq3
              refine g_iinc (q := 69) (y := nI (i + 1)) dX11_laysAside_66 rfl (gn_inc i) rfl rfl rfl rfl ?_
              dsimp only [List.set]
              refine g_goto (q := 10) dX11_laysAside_69 (by decide) ?_
              exact ih (i + 1) vq3 (by rw [← Nat.add_assoc]; exact hvq3) (by omega)
            · have hi8 : i = 8 := nI_inj6 (by omega) (by omega) hq34
              refine g_aload_n (q := 38) dX11_laysAside_37 rfl rfl ?_
              refine g_getR (q := 41) f_X11_13 (by assumption) rfl dX11_laysAside_38 rfl ?_
              refine g_iload_n (q := 42) dX11_laysAside_41 rfl rfl ?_
              refine c_Si (q := 45) (p_X11_atBuffer (b := b)) k_X11_54 (by decide) rfl rfl (Nat.le_of_ble_eq_true rfl) rfl rfl dX11_laysAside_42 rfl ?_
              rintro z0 w1 ⟨hz0, hw1⟩
              subst w1
              subst z0
              refine g_iconst (q := 46) (x := 0) dX11_laysAside_45 (by decide) rfl ?_
              refine g_iadd (q := 47) dX11_laysAside_46 rfl ?_
              refine g_iald (q := 48) (by assumption) (by first | (simp only [gn_lit, nI_add, pk_mul]; exact rfl) | exact rfl) (by omega) (by decide) dX11_laysAside_47 rfl ?_
              refine g_goto (q := 65) dX11_laysAside_48 (by decide) ?_
              refine g_iast (q := 66) (by assumption) (show 54 * nI p + 9 * nI b + nI i = nI (54 * p + (9 * b + i)) by simp only [gn_lit, nI_add, pk_mul, Nat.add_assoc]) (by omega) (by decide) dX11_laysAside_65 rfl ?_
              refine g_gen (fun vq3 hvq3 => ?_)
              have eF : laF (v (m + 2)) (9 * b + i) = v (m + 2) (10 + 24 * b + 0) := by
                unfold laF
                rw [if_pos (by omega), show (9 * b + i) / 9 = b by omega]
              rw [gu_2, n4, n2, ← eF, la_s, hw, gu_u] at hvq3
              refine g_iinc (q := 69) (y := nI (i + 1)) dX11_laysAside_66 rfl (gn_inc i) rfl rfl rfl rfl ?_
              dsimp only [List.set]
              refine g_goto (q := 10) dX11_laysAside_69 (by decide) ?_
              exact ih (i + 1) vq3 (by rw [← Nat.add_assoc]; exact hvq3) (by omega)
      refine g_iload_n (q := 3) dX11_laysAside_2 rfl rfl ?_
      refine g_bipush (q := 5) (x := 6) dX11_laysAside_3 (by decide) rfl ?_
      refine g_icmpge (t := 78) (q := 8) dX11_laysAside_5 (by decide) rfl (fun hq5 => ?_) (fun hq5 => ?_)
      · exact absurd (gn_le (n := 6) hq5 (by omega)) (by omega)
      · refine g_iconst (q := 9) (x := 0) dX11_laysAside_8 (by decide) rfl ?_
        refine g_istore_n (q := 10) dX11_laysAside_9 rfl rfl rfl rfl ?_
        dsimp only [List.set]
        exact li 9 0 w hw (by omega)
  refine gj_E_at (L := [some (.ref m), some (.int (nI p)), none, none]) (k := 2) rfl (by decide) rfl ?_
  refine g_iconst (q := 1) (x := 0) dX11_laysAside_0 (by decide) rfl ?_
  refine g_istore_n (q := 2) dX11_laysAside_1 rfl rfl rfl rfl ?_
  dsimp only [List.set]
  exact lo 6 0 v (by rw [la_0, gu_id]) (by omega)

set_option maxRecDepth 100000 in
set_option maxHeartbeats 4000000 in
theorem p_X11_undoes {X : gj_X} {lim : Nat} {σ : gj_H} {v : gj_V} {m sn : Nat} {A : aS} {t : Int32} (hs : msh σ m) (hM : MR (v (m + 2)) A t sn) {p : Nat} (hp : p < 6) {ls : Nat → List Int32} (hS : asd (v (m + 4)) p ls) : gj_E X 1 m_X11_undoes [.ref m, .int (nI p)] lim σ v (q_v lim σ (fun v' => mc v v' m (a_res A 6 ls) t sn)) := by
  obtain ⟨so, s1, s2, s3, s4, s5, s6, s7, s8, s9, s10, s11, s12⟩ := id hs
  have lo : ∀ (kb b : Nat) (w : gj_V), w = gj_up v (m + 2) (un (v (m + 2)) (v (m + 4)) p b 0) → b + kb = 6 → gj_G X 1 m_X11_undoes (q_v lim σ (fun v' => mc v v' m (a_res A 6 ls) t sn)) lim σ w 0 0 2 [some (.ref m), some (.int (nI p)), some (.int (nI b)), none] [] := by
    intro kb
    induction kb with
    | zero =>
      intro b w hw hk
      have eb : b = 6 := by omega
      subst b
      refine g_iload_n (q := 3) dX11_undoes_2 rfl rfl ?_
      refine g_bipush (q := 5) (x := 6) dX11_undoes_3 (by decide) rfl ?_
      refine g_icmpge (t := 86) (q := 8) dX11_undoes_5 (by decide) rfl (fun hq5 => ?_) (fun hq5 => ?_)
      · refine r_v dX11_undoes_86 rfl rfl rfl ?_
        exact ⟨_, hw, MR_un hM hS⟩
      · exact absurd (Int32.le_refl _) hq5
    | succ kb ihb =>
      intro b w hw hk
      have li : ∀ (k i : Nat) (w : gj_V), w = gj_up v (m + 2) (un (v (m + 2)) (v (m + 4)) p b i) → i + k = 8 → gj_G X 1 m_X11_undoes (q_v lim σ (fun v' => mc v v' m (a_res A 6 ls) t sn)) lim σ w 0 0 10 [some (.ref m), some (.int (nI p)), some (.int (nI b)), some (.int (nI i))] [] := by
        intro k
        induction k with
        | zero =>
          intro i w hw hk
          have ei : i = 8 := by omega
          subst i
          have n2 := congrFun hw (m + 2)
          rw [gu_s] at n2
          have n4 := congrFun hw (m + 4)
          rw [gu_n _ _ (by omega)] at n4
          refine g_iload_n (q := 11) dX11_undoes_10 rfl rfl ?_
          refine g_bipush (q := 13) (x := 8) dX11_undoes_11 (by decide) rfl ?_
          refine g_icmpge (t := 52) (q := 16) dX11_undoes_13 (by decide) rfl (fun hq13 => ?_) (fun hq13 => ?_)
          · refine g_aload_n (q := 53) dX11_undoes_52 rfl rfl ?_
            refine g_getR (q := 56) f_X11_13 (by assumption) rfl dX11_undoes_53 rfl ?_
            refine g_iload_n (q := 57) dX11_undoes_56 rfl rfl ?_
            refine c_Si (q := 60) (p_X11_atBuffer (b := b)) k_X11_54 (by decide) rfl rfl (Nat.le_of_ble_eq_true rfl) rfl rfl dX11_undoes_57 rfl ?_
            rintro z0 w1 ⟨hz0, hw1⟩
            subst w1
            subst z0
            refine g_iconst (q := 61) (x := 0) dX11_undoes_60 (by decide) rfl ?_
            refine g_iadd (q := 62) dX11_undoes_61 rfl ?_
            refine g_aload_n (q := 63) dX11_undoes_62 rfl rfl ?_
            refine g_getR (q := 66) f_X11_19 (by assumption) rfl dX11_undoes_63 rfl ?_
            refine g_bipush (q := 68) (x := 54) dX11_undoes_66 (by decide) rfl ?_
            refine g_iload_n (q := 69) dX11_undoes_68 rfl rfl ?_
            refine g_imul (q := 70) dX11_undoes_69 rfl ?_
            refine g_bipush (q := 72) (x := 9) dX11_undoes_70 (by decide) rfl ?_
            refine g_iload_n (q := 73) dX11_undoes_72 rfl rfl ?_
            refine g_imul (q := 74) dX11_undoes_73 rfl ?_
            refine g_iadd (q := 75) dX11_undoes_74 rfl ?_
            refine g_bipush (q := 77) (x := 8) dX11_undoes_75 (by decide) rfl ?_
            refine g_iadd (q := 78) dX11_undoes_77 rfl ?_
            refine g_iald (q := 79) (by assumption) (show 54 * nI p + 9 * nI b + 8 = nI (54 * p + 9 * b + 8) by simp only [gn_lit, nI_add, pk_mul]) (by omega) (by decide) dX11_undoes_78 rfl ?_
            refine g_iast (q := 80) (by assumption) (by first | (simp only [gn_lit, nI_add, pk_mul]; exact rfl) | exact rfl) (by omega) (by decide) dX11_undoes_79 rfl ?_
            refine g_gen (fun vq3 hvq3 => ?_)
            rw [gu_2, n2, n4, un_b, hw, gu_u] at hvq3
            refine g_iinc (q := 83) (y := nI (b + 1)) dX11_undoes_80 rfl (gn_inc b) rfl rfl rfl rfl ?_
            dsimp only [List.set]
            refine g_goto (q := 2) dX11_undoes_83 (by decide) ?_
            refine g_wk (L' := [some (.ref m), some (.int (nI p)), some (.int (nI (b + 1))), none]) (by simp [gj_wk]) ?_
            exact ihb (b + 1) vq3 hvq3 (by omega)
          · exact absurd (Int32.le_refl _) hq13
        | succ k ih =>
          intro i w hw hk
          have n2 := congrFun hw (m + 2)
          rw [gu_s] at n2
          have n4 := congrFun hw (m + 4)
          rw [gu_n _ _ (by omega)] at n4
          refine g_iload_n (q := 11) dX11_undoes_10 rfl rfl ?_
          refine g_bipush (q := 13) (x := 8) dX11_undoes_11 (by decide) rfl ?_
          refine g_icmpge (t := 52) (q := 16) dX11_undoes_13 (by decide) rfl (fun hq13 => ?_) (fun hq13 => ?_)
          · exact absurd (gn_le (n := 8) hq13 (by omega)) (by omega)
          · refine g_aload_n (q := 17) dX11_undoes_16 rfl rfl ?_
            refine g_getR (q := 20) f_X11_13 (by assumption) rfl dX11_undoes_17 rfl ?_
            refine g_iload_n (q := 21) dX11_undoes_20 rfl rfl ?_
            refine c_Si (q := 24) (p_X11_atBuffer (b := b)) k_X11_54 (by decide) rfl rfl (Nat.le_of_ble_eq_true rfl) rfl rfl dX11_undoes_21 rfl ?_
            rintro z0 w1 ⟨hz0, hw1⟩
            subst w1
            subst z0
            refine g_bipush (q := 26) (x := 14) dX11_undoes_24 (by decide) rfl ?_
            refine g_iadd (q := 27) dX11_undoes_26 rfl ?_
            refine g_iload_n (q := 28) dX11_undoes_27 rfl rfl ?_
            refine g_iadd (q := 29) dX11_undoes_28 rfl ?_
            refine g_aload_n (q := 30) dX11_undoes_29 rfl rfl ?_
            refine g_getR (q := 33) f_X11_19 (by assumption) rfl dX11_undoes_30 rfl ?_
            refine g_bipush (q := 35) (x := 54) dX11_undoes_33 (by decide) rfl ?_
            refine g_iload_n (q := 36) dX11_undoes_35 rfl rfl ?_
            refine g_imul (q := 37) dX11_undoes_36 rfl ?_
            refine g_bipush (q := 39) (x := 9) dX11_undoes_37 (by decide) rfl ?_
            refine g_iload_n (q := 40) dX11_undoes_39 rfl rfl ?_
            refine g_imul (q := 41) dX11_undoes_40 rfl ?_
            refine g_iadd (q := 42) dX11_undoes_41 rfl ?_
            refine g_iload_n (q := 43) dX11_undoes_42 rfl rfl ?_
            refine g_iadd (q := 44) dX11_undoes_43 rfl ?_
            refine g_iald (q := 45) (by assumption) (show 54 * nI p + 9 * nI b + nI i = nI (54 * p + 9 * b + i) by simp only [gn_lit, nI_add, pk_mul]) (by omega) (by decide) dX11_undoes_44 rfl ?_
            refine g_iast (q := 46) (by assumption) (by first | (simp only [gn_lit, nI_add, pk_mul]; exact rfl) | exact rfl) (by omega) (by decide) dX11_undoes_45 rfl ?_
            refine g_gen (fun vq3 hvq3 => ?_)
            rw [gu_2, n2, n4, un_i _ _ _ _ _ (by omega), hw, gu_u] at hvq3
            refine g_iinc (q := 49) (y := nI (i + 1)) dX11_undoes_46 rfl (gn_inc i) rfl rfl rfl rfl ?_
            dsimp only [List.set]
            refine g_goto (q := 10) dX11_undoes_49 (by decide) ?_
            exact ih (i + 1) vq3 hvq3 (by omega)
      refine g_iload_n (q := 3) dX11_undoes_2 rfl rfl ?_
      refine g_bipush (q := 5) (x := 6) dX11_undoes_3 (by decide) rfl ?_
      refine g_icmpge (t := 86) (q := 8) dX11_undoes_5 (by decide) rfl (fun hq5 => ?_) (fun hq5 => ?_)
      · exact absurd (gn_le (n := 6) hq5 (by omega)) (by omega)
      · refine g_iconst (q := 9) (x := 0) dX11_undoes_8 (by decide) rfl ?_
        refine g_istore_n (q := 10) dX11_undoes_9 rfl rfl rfl rfl ?_
        dsimp only [List.set]
        exact li 8 0 w hw (by omega)
  refine gj_E_at (L := [some (.ref m), some (.int (nI p)), none, none]) (k := 2) rfl (by decide) rfl ?_
  refine g_iconst (q := 1) (x := 0) dX11_undoes_0 (by decide) rfl ?_
  refine g_istore_n (q := 2) dX11_undoes_1 rfl rfl rfl rfl ?_
  dsimp only [List.set]
  exact lo 6 0 v (by rw [un_0, gu_id]) (by omega)
