/-! ===== the reference: all that it holds ===== -/
theorem MR.cong {N N' : Nat → Int32} {A : aS} {t : Int32} {sn : Nat} (h : MR N A t sn) (hN : ∀ j, j < 320 → N' j = N j) : MR N' A t sn := by
  obtain ⟨h1, h2, h3, h4, h5, h6, h7⟩ := h
  exact ⟨h1.keep (fun i hi => hN i (by omega)) (fun i a b => hN i (by omega)), fun b hb => (h2 b hb).keep (fun i a c => hN i (by omega)), fun g hg => (h3 g hg).keep (fun i a c => hN i (by omega)), fun s hs => (h4 s hs).keep (fun i a c => hN i (by omega)), fun s q1 q2 k hk => by rw [hN _ (by omega)]; exact h5 s q1 q2 k hk, fun w hw => (h6 w hw).keep (fun i a c => hN i (by omega)), h7⟩
abbrev sno (A : aS) : Nat := iN (A.1 40 6)
def mK (K : Nat → Int32) (l : List (aS × Int32)) : Prop := l.length ≤ 6 ∧ ∀ (i : Nat) (p : aS × Int32), l[i]? = some p → MR (fun j => K (320 * i + j)) p.1 p.2 (sno p.1)
def MG (v : gj_V) (m : Nat) (A : aS) (t : Int32) (l : List (aS × Int32)) (tx : List Int32) (c : Nat → Int32) : Prop := MR (v (m + 2)) A t (sno A) ∧ (v (m + 1) 0 = c 5 ∧ v (m + 1) 1 = c 6 ∧ v (m + 1) 2 = c 7) ∧ v m 2 = nI l.length ∧ mK (v (m + 3)) l ∧ v m 6 = nI tx.length ∧ tx.length ≤ 120 ∧ ∀ i, i < tx.length → v (m + 5) i = tx.getD i 0
def fm (v v' : gj_V) (m : Nat) : Prop := ∀ a, (a < m ∨ m + 13 ≤ a) → v' a = v a
theorem fm.rf (v : gj_V) (m : Nat) : fm v v m := fun _ _ => rfl
theorem fm.tr {v v1 v2 : gj_V} {m : Nat} (h1 : fm v v1 m) (h2 : fm v1 v2 m) : fm v v2 m := fun a g => (h2 a g).trans (h1 a g)
section MGS
variable {v v' : gj_V} {m : Nat} {A A' : aS} {t t' : Int32} {l : List (aS × Int32)} {tx : List Int32} {c : Nat → Int32} {sn : Nat}
theorem mc.fm (h : mc v v' m A t sn) : fm v v' m := fun a ha => h.o a (by omega)
theorem MG.now (h : MG v m A t l tx c) (hc : mc v v' m A' t' sn) (e : sno A' = sn) : MG v' m A' t' l tx c := by
  obtain ⟨h1, h2, h3, h4, h5, h6, h7⟩ := h
  have o := fun a ha => hc.o a ha
  refine ⟨by rw [e]; exact hc.M, ?_, ?_, ?_, ?_, h6, ?_⟩
  · rw [o _ (by omega)]; exact h2
  · rw [o _ (by omega)]; exact h3
  · rw [o _ (by omega)]; exact h4
  · rw [o _ (by omega)]; exact h5
  · rw [o _ (by omega)]; exact h7
/-- cells that nothing speaks of -/
theorem MG.oth (h : MG v m A t l tx c) (o : ∀ a, a = m + 1 ∨ a = m + 2 ∨ a = m + 3 ∨ a = m + 5 → v' a = v a) (o2 : v' m 2 = v m 2) (o6 : v' m 6 = v m 6) : MG v' m A t l tx c := by
  obtain ⟨h1, h2, h3, h4, h5, h6, h7⟩ := h
  refine ⟨?_, ?_, ?_, ?_, ?_, h6, ?_⟩
  · rw [o _ (by omega)]; exact h1
  · rw [o _ (by omega)]; exact h2
  · rw [o2]; exact h3
  · rw [o _ (by omega)]; exact h4
  · rw [o6]; exact h5
  · rw [o _ (by omega)]; exact h7
end MGS
def sh5 (K : Nat → Int32) (i : Nat) : Nat → Int32 := fun j => if j < i then K (j + 320) else K j
theorem sh5_0 (K : Nat → Int32) : sh5 K 0 = K := funext fun j => if_neg (by omega)
theorem sh5_s (K : Nat → Int32) (i : Nat) : upd (sh5 K i) i (sh5 K i (i + 320)) = sh5 K (i + 1) := by
  funext j
  unfold upd sh5
  by_cases e : j = i
  · subst e; rw [if_pos rfl, if_neg (by omega), if_pos (by omega)]
  · rw [if_neg e]
    by_cases h : j < i
    · rw [if_pos h, if_pos (by omega)]
    · rw [if_neg h, if_neg (by omega)]
def cpn (K N : Nat → Int32) (s i : Nat) : Nat → Int32 := fun j => if 320 * s ≤ j ∧ j < 320 * s + i then N (j - 320 * s) else K j
theorem cpn_0 (K N : Nat → Int32) (s : Nat) : cpn K N s 0 = K := funext fun j => if_neg (by omega)
theorem cpn_s (K N : Nat → Int32) (s i : Nat) : upd (cpn K N s i) (320 * s + i) (N i) = cpn K N s (i + 1) := by
  funext j
  unfold upd cpn
  by_cases e : j = 320 * s + i
  · subst e; rw [if_pos rfl, if_pos (by omega), show 320 * s + i - 320 * s = i by omega]
  · rw [if_neg e]
    by_cases h : 320 * s ≤ j ∧ j < 320 * s + i
    · rw [if_pos h, if_pos (by omega)]
    · rw [if_neg h, if_neg (by omega)]
theorem mK_push {K N : Nat → Int32} {l : List (aS × Int32)} {A : aS} {t : Int32} (h : mK K l) (hl : l.length < 6) (hM : MR N A t (sno A)) : mK (cpn K N l.length 320) (l ++ [(A, t)]) := by
  refine ⟨by simp; omega, fun i p hp => ?_⟩
  by_cases e : i < l.length
  · rw [List.getElem?_append_left e] at hp
    refine (h.2 i p hp).cong (fun j hj => ?_)
    exact if_neg (by omega)
  · have hi := (List.getElem?_eq_some_iff.mp hp).1
    simp at hi
    have ei : i = l.length := by omega
    subst ei
    rw [List.getElem?_append_right (Nat.le_refl _)] at hp
    simp at hp
    subst hp
    refine hM.cong (fun j hj => ?_)
    have : cpn K N l.length 320 (320 * l.length + j) = N (320 * l.length + j - 320 * l.length) := if_pos (by omega)
    rw [this]; congr 1; omega
theorem mK_drop {K : Nat → Int32} {l : List (aS × Int32)} (h : mK K l) : mK (sh5 K 1600) (l.drop 1) := by
  refine ⟨by simp; have := h.1; omega, fun i p hp => ?_⟩
  rw [List.getElem?_drop] at hp
  have hi := (List.getElem?_eq_some_iff.mp hp).1
  have h6 := h.1
  refine (h.2 (1 + i) p hp).cong (fun j hj => ?_)
  have : sh5 K 1600 (320 * i + j) = K (320 * i + j + 320) := if_pos (by omega)
  rw [this]; congr 1; omega

set_option maxRecDepth 100000 in
set_option maxHeartbeats 4000000 in
theorem p_X11_bad {X : gj_X} {lim : Nat} {σ : gj_H} {v : gj_V} {m : Nat} {A : aS} {t : Int32} {l : List (aS × Int32)} {tx : List Int32} {c : Nat → Int32} (hs : msh σ m) (hG : MG v m A t l tx c) : gj_E X 0 m_X11_bad [.ref m] lim σ v (q_i lim σ (fun z v' => z = (-2) ∧ MG v' m A t l tx (upd c 5 (c 5 + 1)) ∧ fm v v' m)) := by
  obtain ⟨so, s1, s2, s3, s4, s5, s6, s7, s8, s9, s10, s11, s12⟩ := id hs
  refine gj_E_at (L := [some (.ref m)]) (k := 0) rfl (by decide) rfl ?_
  refine g_aload_n (q := 1) dX11_bad_0 rfl rfl ?_
  refine g_getR (q := 4) f_X11_7 (by assumption) rfl dX11_bad_1 rfl ?_
  refine g_iconst (q := 5) (x := 0) dX11_bad_4 (by decide) rfl ?_
  refine g_dup2 (q := 6) dX11_bad_5 rfl rfl rfl ?_
  refine g_iald (q := 7) (by assumption) (show (0 : Int32) = nI 0 from rfl) (by decide) (by decide) dX11_bad_6 rfl ?_
  refine g_iconst (q := 8) (x := 1) dX11_bad_7 (by decide) rfl ?_
  refine g_iadd (q := 9) dX11_bad_8 rfl ?_
  refine g_iast (q := 10) (by assumption) (show (0 : Int32) = nI 0 from rfl) (by decide) (by decide) dX11_bad_9 rfl ?_
  refine g_bipush (q := 12) (x := (-2)) dX11_bad_10 (by decide) rfl ?_
  refine r_i dX11_bad_12 rfl rfl rfl ?_
  obtain ⟨hq1, hq2, hq3, hq4, hq5, hq6, hq7⟩ := hG
  refine ⟨rfl, ⟨by rw [gu_2, gu_n _ _ (by omega)]; exact hq1, ⟨by rw [gu_2, gu_s, ud_s, ud_s, hq2.1], by rw [gu_2, gu_s, ud_n _ _ (by decide), ud_n _ _ (by decide)]; exact hq2.2.1, by rw [gu_2, gu_s, ud_n _ _ (by decide), ud_n _ _ (by decide)]; exact hq2.2.2⟩, by rw [gu_2, gu_n _ _ (by omega)]; exact hq3, by rw [gu_2, gu_n _ _ (by omega)]; exact hq4, by rw [gu_2, gu_n _ _ (by omega)]; exact hq5, hq6, by rw [gu_2, gu_n _ _ (by omega)]; exact hq7⟩, fun a ha => gu_n _ _ (by omega)⟩

set_option maxRecDepth 100000 in
set_option maxHeartbeats 4000000 in
theorem p_X11_no {X : gj_X} {lim : Nat} {σ : gj_H} {v : gj_V} {m : Nat} {A : aS} {t : Int32} {l : List (aS × Int32)} {tx : List Int32} {c : Nat → Int32} (hs : msh σ m) (hG : MG v m A t l tx c) : gj_E X 0 m_X11_no [.ref m] lim σ v (q_i lim σ (fun z v' => z = (-3) ∧ MG v' m A t l tx (upd c 6 (c 6 + 1)) ∧ fm v v' m)) := by
  obtain ⟨so, s1, s2, s3, s4, s5, s6, s7, s8, s9, s10, s11, s12⟩ := id hs
  refine gj_E_at (L := [some (.ref m)]) (k := 0) rfl (by decide) rfl ?_
  refine g_aload_n (q := 1) dX11_no_0 rfl rfl ?_
  refine g_getR (q := 4) f_X11_7 (by assumption) rfl dX11_no_1 rfl ?_
  refine g_iconst (q := 5) (x := 1) dX11_no_4 (by decide) rfl ?_
  refine g_dup2 (q := 6) dX11_no_5 rfl rfl rfl ?_
  refine g_iald (q := 7) (by assumption) (show (1 : Int32) = nI 1 from rfl) (by decide) (by decide) dX11_no_6 rfl ?_
  refine g_iconst (q := 8) (x := 1) dX11_no_7 (by decide) rfl ?_
  refine g_iadd (q := 9) dX11_no_8 rfl ?_
  refine g_iast (q := 10) (by assumption) (show (1 : Int32) = nI 1 from rfl) (by decide) (by decide) dX11_no_9 rfl ?_
  refine g_bipush (q := 12) (x := (-3)) dX11_no_10 (by decide) rfl ?_
  refine r_i dX11_no_12 rfl rfl rfl ?_
  obtain ⟨hq1, hq2, hq3, hq4, hq5, hq6, hq7⟩ := hG
  refine ⟨rfl, ⟨by rw [gu_2, gu_n _ _ (by omega)]; exact hq1, ⟨by rw [gu_2, gu_s, ud_n _ _ (by decide), ud_n _ _ (by decide)]; exact hq2.1, by rw [gu_2, gu_s, ud_s, ud_s, hq2.2.1], by rw [gu_2, gu_s, ud_n _ _ (by decide), ud_n _ _ (by decide)]; exact hq2.2.2⟩, by rw [gu_2, gu_n _ _ (by omega)]; exact hq3, by rw [gu_2, gu_n _ _ (by omega)]; exact hq4, by rw [gu_2, gu_n _ _ (by omega)]; exact hq5, hq6, by rw [gu_2, gu_n _ _ (by omega)]; exact hq7⟩, fun a ha => gu_n _ _ (by omega)⟩

set_option maxRecDepth 100000 in
set_option maxHeartbeats 4000000 in
theorem p_X11_full {X : gj_X} {lim : Nat} {σ : gj_H} {v : gj_V} {m : Nat} {A : aS} {t : Int32} {l : List (aS × Int32)} {tx : List Int32} {c : Nat → Int32} (hs : msh σ m) (hG : MG v m A t l tx c) : gj_E X 0 m_X11_full [.ref m] lim σ v (q_i lim σ (fun z v' => z = (-4) ∧ MG v' m A t l tx (upd c 7 (c 7 + 1)) ∧ fm v v' m)) := by
  obtain ⟨so, s1, s2, s3, s4, s5, s6, s7, s8, s9, s10, s11, s12⟩ := id hs
  refine gj_E_at (L := [some (.ref m)]) (k := 0) rfl (by decide) rfl ?_
  refine g_aload_n (q := 1) dX11_full_0 rfl rfl ?_
  refine g_getR (q := 4) f_X11_7 (by assumption) rfl dX11_full_1 rfl ?_
  refine g_iconst (q := 5) (x := 2) dX11_full_4 (by decide) rfl ?_
  refine g_dup2 (q := 6) dX11_full_5 rfl rfl rfl ?_
  refine g_iald (q := 7) (by assumption) (show (2 : Int32) = nI 2 from rfl) (by decide) (by decide) dX11_full_6 rfl ?_
  refine g_iconst (q := 8) (x := 1) dX11_full_7 (by decide) rfl ?_
  refine g_iadd (q := 9) dX11_full_8 rfl ?_
  refine g_iast (q := 10) (by assumption) (show (2 : Int32) = nI 2 from rfl) (by decide) (by decide) dX11_full_9 rfl ?_
  refine g_bipush (q := 12) (x := (-4)) dX11_full_10 (by decide) rfl ?_
  refine r_i dX11_full_12 rfl rfl rfl ?_
  obtain ⟨hq1, hq2, hq3, hq4, hq5, hq6, hq7⟩ := hG
  refine ⟨rfl, ⟨by rw [gu_2, gu_n _ _ (by omega)]; exact hq1, ⟨by rw [gu_2, gu_s, ud_n _ _ (by decide), ud_n _ _ (by decide)]; exact hq2.1, by rw [gu_2, gu_s, ud_n _ _ (by decide), ud_n _ _ (by decide)]; exact hq2.2.1, by rw [gu_2, gu_s, ud_s, ud_s, hq2.2.2]⟩, by rw [gu_2, gu_n _ _ (by omega)]; exact hq3, by rw [gu_2, gu_n _ _ (by omega)]; exact hq4, by rw [gu_2, gu_n _ _ (by omega)]; exact hq5, hq6, by rw [gu_2, gu_n _ _ (by omega)]; exact hq7⟩, fun a ha => gu_n _ _ (by omega)⟩

set_option maxRecDepth 100000 in
set_option maxHeartbeats 4000000 in
theorem p_X11_leavesState {X : gj_X} {lim : Nat} {σ : gj_H} {v : gj_V} {m : Nat} {A : aS} {t : Int32} {l : List (aS × Int32)} {tx : List Int32} {c : Nat → Int32} (hs : msh σ m) (hG : MG v m A t l tx c) : gj_E X 0 m_X11_leavesState [.ref m] lim σ v (q_v lim σ (fun v' => (MG v' m A t (h_push l (A, t)) tx c ∧ v' (m + 2) = v (m + 2)) ∧ fm v v' m)) := by
  obtain ⟨so, s1, s2, s3, s4, s5, s6, s7, s8, s9, s10, s11, s12⟩ := id hs
  have mid : ∀ (w : gj_V) (l1 : List (aS × Int32)), mK (w (m + 3)) l1 → l1.length < 6 → h_push l (A, t) = l1 ++ [(A, t)] → w m 2 = nI l1.length → w m 6 = v m 6 → (∀ a, a ≠ m → a ≠ m + 3 → w a = v a) → gj_G X 0 m_X11_leavesState (q_v lim σ (fun v' => (MG v' m A t (h_push l (A, t)) tx c ∧ v' (m + 2) = v (m + 2)) ∧ fm v v' m)) lim σ w 0 0 52 [some (.ref m), some (.int (nI 0))] [] := by
    intro w l1 g1 hl5 hp g2 g6 g3
    have en : w (m + 2) = v (m + 2) := g3 _ (by omega) (by omega)
    have lp : ∀ (k i : Nat) (x : gj_V), x = gj_up w (m + 3) (cpn (w (m + 3)) (w (m + 2)) l1.length i) → i + k = 320 → gj_G X 0 m_X11_leavesState (q_v lim σ (fun v' => (MG v' m A t (h_push l (A, t)) tx c ∧ v' (m + 2) = v (m + 2)) ∧ fm v v' m)) lim σ x 0 0 52 [some (.ref m), some (.int (nI i))] [] := by
     intro k
     induction k with
     | zero =>
      intro i x hx hk
      have ei : i = 320 := by omega
      subst i
      have eq3 := congrFun hx (m + 3)
      rw [gu_s] at eq3
      have eq2 := congrFun hx (m + 2)
      rw [gu_n _ _ (by omega)] at eq2
      have em : ∀ k, x m k = w m k := fun k => by rw [hx, gu_n _ _ (by omega)]
      refine g_iload_n (q := 53) dX11_leavesState_52 rfl rfl ?_
      refine g_sipush (q := 56) (x := 320) dX11_leavesState_53 (by decide) rfl ?_
      refine g_icmpge (t := 86) (q := 59) dX11_leavesState_56 (by decide) rfl (fun hq56 => ?_) (fun hq56 => ?_)
      · refine g_aload_n (q := 87) dX11_leavesState_86 rfl rfl ?_
        refine g_dup (q := 88) dX11_leavesState_87 rfl rfl ?_
        refine g_getI (q := 91) f_X11_61 (by assumption) rfl dX11_leavesState_88 rfl ?_
        rw [em 2, g2]
        refine g_iconst (q := 92) (x := 1) dX11_leavesState_91 (by decide) rfl ?_
        refine g_iadd (q := 93) dX11_leavesState_92 rfl ?_
        refine g_putI (q := 96) f_X11_61 (by assumption) rfl rfl rfl dX11_leavesState_93 rfl ?_
        rw [show nI l1.length + 1 = nI (l1.length + 1) from nI_1 _]
        refine g_gen (fun vq9 hvq9 => ?_)
        have x0 : ∀ a, a ≠ m → vq9 a = x a := fun a ha => by rw [hvq9, gu_2]; exact gu_n _ _ ha
        have x2 : vq9 m 2 = nI (l1.length + 1) := by rw [hvq9, gu_2, gu_s, ud_s]
        have x6 : vq9 m 6 = x m 6 := by rw [hvq9, gu_2, gu_s]; exact ud_n _ _ (by decide)
        refine r_v dX11_leavesState_96 rfl rfl rfl ?_
        obtain ⟨hq1, hq2, hq3, hq4, hq5, hq6, hq7⟩ := hG
        have o : ∀ a, a ≠ m → a ≠ m + 3 → vq9 a = v a := fun a q1 q2 => by rw [x0 a q1, hx, gu_n _ _ q2]; exact g3 a q1 q2
        have hk : mK (vq9 (m + 3)) (l1 ++ [(A, t)]) := by
          rw [x0 _ (by omega), hx, gu_s, en]
          exact mK_push g1 hl5 hq1
        refine ⟨⟨⟨?_, ?_, ?_, ?_, ?_, hq6, ?_⟩, o _ (by omega) (by omega)⟩, fun a ha => o a (by omega) (by omega)⟩
        · rw [o _ (by omega) (by omega)]; exact hq1
        · rw [o _ (by omega) (by omega)]; exact hq2
        · rw [x2, hp]; simp
        · rw [hp]; exact hk
        · rw [x6, em 6, g6]; exact hq5
        · rw [o _ (by omega) (by omega)]; exact hq7
      · exact absurd (Int32.le_refl _) hq56
     | succ k ih =>
      intro i x hx hk
      have eq3 := congrFun hx (m + 3)
      rw [gu_s] at eq3
      have eq2 := congrFun hx (m + 2)
      rw [gu_n _ _ (by omega)] at eq2
      have em : ∀ k, x m k = w m k := fun k => by rw [hx, gu_n _ _ (by omega)]
      refine g_iload_n (q := 53) dX11_leavesState_52 rfl rfl ?_
      refine g_sipush (q := 56) (x := 320) dX11_leavesState_53 (by decide) rfl ?_
      refine g_icmpge (t := 86) (q := 59) dX11_leavesState_56 (by decide) rfl (fun hq56 => ?_) (fun hq56 => ?_)
      · exact absurd (gn_le (n := 320) hq56 (by omega)) (by omega)
      · refine g_aload_n (q := 60) dX11_leavesState_59 rfl rfl ?_
        refine g_getR (q := 63) f_X11_16 (by assumption) rfl dX11_leavesState_60 rfl ?_
        refine g_sipush (q := 66) (x := 320) dX11_leavesState_63 (by decide) rfl ?_
        refine g_aload_n (q := 67) dX11_leavesState_66 rfl rfl ?_
        refine g_getI (q := 70) f_X11_61 (by assumption) rfl dX11_leavesState_67 rfl ?_
        rw [em 2, g2]
        refine g_imul (q := 71) dX11_leavesState_70 rfl ?_
        refine g_iload_n (q := 72) dX11_leavesState_71 rfl rfl ?_
        refine g_iadd (q := 73) dX11_leavesState_72 rfl ?_
        refine g_aload_n (q := 74) dX11_leavesState_73 rfl rfl ?_
        refine g_getR (q := 77) f_X11_13 (by assumption) rfl dX11_leavesState_74 rfl ?_
        refine g_iload_n (q := 78) dX11_leavesState_77 rfl rfl ?_
        refine g_iald (q := 79) (by assumption) rfl (by omega) (by decide) dX11_leavesState_78 rfl ?_
        refine g_iast (q := 80) (by assumption) (show 320 * nI l1.length + nI i = nI (320 * l1.length + i) by simp only [gn_lit, nI_add, pk_mul]) (by omega) (by decide) dX11_leavesState_79 rfl ?_
        refine g_gen (fun x3 hxq3 => ?_)
        rw [gu_2, eq3, eq2, cpn_s, hx, gu_u] at hxq3
        refine g_iinc (q := 83) (y := nI (i + 1)) dX11_leavesState_80 rfl (gn_inc i) rfl rfl rfl rfl ?_
        dsimp only [List.set]
        refine g_goto (q := 52) dX11_leavesState_83 (by decide) ?_
        exact ih (i + 1) x3 hxq3 (by omega)
    exact lp 320 0 w (by rw [cpn_0, gu_id]) (by omega)
  have lp1 : l.length = 6 → ∀ (k i : Nat) (x : gj_V), x = gj_up v (m + 3) (sh5 (v (m + 3)) i) → i + k = 1600 → gj_G X 0 m_X11_leavesState (q_v lim σ (fun v' => (MG v' m A t (h_push l (A, t)) tx c ∧ v' (m + 2) = v (m + 2)) ∧ fm v v' m)) lim σ x 0 0 11 [some (.ref m), some (.int (nI i))] [] := by
      intro hl6 k
      induction k with
      | zero =>
        intro i x hx hk
        have ei : i = 1600 := by omega
        subst i
        have eq3 := congrFun hx (m + 3)
        rw [gu_s] at eq3
        have em : ∀ k, x m k = v m k := fun k => by rw [hx, gu_n _ _ (by omega)]
        refine g_iload_n (q := 12) dX11_leavesState_11 rfl rfl ?_
        refine g_sipush (q := 15) (x := 1600) dX11_leavesState_12 (by decide) rfl ?_
        refine g_icmpge (t := 40) (q := 18) dX11_leavesState_15 (by decide) rfl (fun hq15 => ?_) (fun hq15 => ?_)
        · refine g_aload_n (q := 41) dX11_leavesState_40 rfl rfl ?_
          refine g_dup (q := 42) dX11_leavesState_41 rfl rfl ?_
          refine g_getI (q := 45) f_X11_61 (by assumption) rfl dX11_leavesState_42 rfl ?_
          rw [em 2, hG.2.2.1, hl6]
          refine g_iconst (q := 46) (x := 1) dX11_leavesState_45 (by decide) rfl ?_
          refine g_isub (q := 47) dX11_leavesState_46 rfl ?_
          refine g_putI (q := 50) f_X11_61 (by assumption) rfl rfl rfl dX11_leavesState_47 rfl ?_
          refine g_gen (fun vq9 hvq9 => ?_)
          have x0 : ∀ a, a ≠ m → vq9 a = x a := fun a ha => by rw [hvq9, gu_2]; exact gu_n _ _ ha
          have x2 : vq9 m 2 = nI 5 := by rw [hvq9, gu_2, gu_s, ud_s]; decide
          have x6 : vq9 m 6 = v m 6 := by rw [hvq9, gu_2, gu_s, ud_n _ _ (by decide)]; exact em 6
          refine g_iconst (q := 51) (x := 0) dX11_leavesState_50 (by decide) rfl ?_
          refine g_istore_n (q := 52) dX11_leavesState_51 rfl rfl rfl rfl ?_
          dsimp only [List.set]
          exact mid vq9 (l.drop 1) (by rw [x0 _ (by omega), eq3]; exact mK_drop hG.2.2.2.1) (by simp; omega) (by unfold h_push; rw [if_neg (by omega)]) (by rw [x2]; simp [hl6]) x6 (fun a q1 q2 => by rw [x0 a q1, hx, gu_n _ _ q2])
        · exact absurd (Int32.le_refl _) hq15
      | succ k ih =>
        intro i x hx hk
        have eq3 := congrFun hx (m + 3)
        rw [gu_s] at eq3
        have em : ∀ k, x m k = v m k := fun k => by rw [hx, gu_n _ _ (by omega)]
        refine g_iload_n (q := 12) dX11_leavesState_11 rfl rfl ?_
        refine g_sipush (q := 15) (x := 1600) dX11_leavesState_12 (by decide) rfl ?_
        refine g_icmpge (t := 40) (q := 18) dX11_leavesState_15 (by decide) rfl (fun hq15 => ?_) (fun hq15 => ?_)
        · exact absurd (gn_le (n := 1600) hq15 (by omega)) (by omega)
        · refine g_aload_n (q := 19) dX11_leavesState_18 rfl rfl ?_
          refine g_getR (q := 22) f_X11_16 (by assumption) rfl dX11_leavesState_19 rfl ?_
          refine g_iload_n (q := 23) dX11_leavesState_22 rfl rfl ?_
          refine g_aload_n (q := 24) dX11_leavesState_23 rfl rfl ?_
          refine g_getR (q := 27) f_X11_16 (by assumption) rfl dX11_leavesState_24 rfl ?_
          refine g_iload_n (q := 28) dX11_leavesState_27 rfl rfl ?_
          refine g_sipush (q := 31) (x := 320) dX11_leavesState_28 (by decide) rfl ?_
          refine g_iadd (q := 32) dX11_leavesState_31 rfl ?_
          refine g_iald (q := 33) (by assumption) (show nI i + 320 = nI (i + 320) by simp only [gn_lit, nI_add, pk_mul]) (by omega) (by decide) dX11_leavesState_32 rfl ?_
          refine g_iast (q := 34) (by assumption) rfl (by omega) (by decide) dX11_leavesState_33 rfl ?_
          refine g_gen (fun x3 hxq3 => ?_)
          rw [gu_2, eq3, sh5_s, hx, gu_u] at hxq3
          refine g_iinc (q := 37) (y := nI (i + 1)) dX11_leavesState_34 rfl (gn_inc i) rfl rfl rfl rfl ?_
          dsimp only [List.set]
          refine g_goto (q := 11) dX11_leavesState_37 (by decide) ?_
          exact ih (i + 1) x3 hxq3 (by omega)
  refine gj_E_at (L := [some (.ref m), none]) (k := 1) rfl (by decide) rfl ?_
  refine g_aload_n (q := 1) dX11_leavesState_0 rfl rfl ?_
  refine g_getI (q := 4) f_X11_61 (by assumption) rfl dX11_leavesState_1 rfl ?_
  rw [hG.2.2.1]
  refine g_bipush (q := 6) (x := 6) dX11_leavesState_4 (by decide) rfl ?_
  refine g_icmpne (t := 50) (q := 9) dX11_leavesState_6 (by decide) rfl (fun hq6 => ?_) (fun hq6 => ?_)
  · have hl6 : l.length < 6 := by
      have := hG.2.2.2.1.1
      rcases Nat.lt_or_ge l.length 6 with q | q
      · exact q
      · exact absurd (by rw [show l.length = 6 by omega]; rfl) hq6
    refine g_iconst (q := 51) (x := 0) dX11_leavesState_50 (by decide) rfl ?_
    refine g_istore_n (q := 52) dX11_leavesState_51 rfl rfl rfl rfl ?_
    dsimp only [List.set]
    exact mid v l hG.2.2.2.1 hl6 (by unfold h_push; rw [if_pos hl6]) hG.2.2.1 rfl (fun _ _ _ => rfl)
  · have hl6 : l.length = 6 := nI_inj6 (b := 6) (by have := hG.2.2.2.1.1; omega) (by omega) hq6
    refine g_iconst (q := 10) (x := 0) dX11_leavesState_9 (by decide) rfl ?_
    refine g_istore_n (q := 11) dX11_leavesState_10 rfl rfl rfl rfl ?_
    dsimp only [List.set]
    exact lp1 hl6 1600 0 v (by rw [sh5_0, gu_id]) (by omega)
