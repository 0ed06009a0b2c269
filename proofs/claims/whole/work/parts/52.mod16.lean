/-! ===== the reference: queues ===== -/
def a_qo (A : aS) (w : Int32) : Nat → Nat → Int32 → Int32
  | 0, _, f => f
  | k + 1, b, f => a_qo A w k (b + 1) (if w ∈ A.2 (10 + b) then nI b else f)
theorem qo_no {A : aS} {w : Int32} : ∀ (k b : Nat) (f : Int32), (∀ c, b ≤ c → c < b + k → ¬ w ∈ A.2 (10 + c)) → a_qo A w k b f = f
  | 0, b, f, _ => rfl
  | k + 1, b, f, h => by
    unfold a_qo
    rw [if_neg (h b (by omega) (by omega))]
    exact qo_no k (b + 1) f (fun c h1 h2 => h c (by omega) (by omega))
theorem qo_yes {A : aS} {w : Int32} {c0 : Nat} : ∀ (k b : Nat) (f : Int32), b ≤ c0 → c0 < b + k → w ∈ A.2 (10 + c0) → (∀ c, b ≤ c → c < b + k → c ≠ c0 → ¬ w ∈ A.2 (10 + c)) → a_qo A w k b f = nI c0
  | 0, b, f, h1, h2, _, _ => by omega
  | k + 1, b, f, h1, h2, hm, h => by
    unfold a_qo
    by_cases e : b = c0
    · subst e
      rw [if_pos hm]
      exact qo_no k (b + 1) _ (fun c g1 g2 => h c (by omega) (by omega) (by omega))
    · rw [if_neg (h b (by omega) (by omega) e)]
      exact qo_yes k (b + 1) f (by omega) (by omega) hm (fun c g1 g2 g3 => h c (by omega) (by omega) g3)
theorem qo_qa {A : aS} {n : Nat} {w : Int32} (h : ivQ A n) (hn : n ≤ 6) : a_qo A w 6 0 (-1) = a_qa n 0 A w := by
  rcases a_qa_cases n 0 A w with e | ⟨c0, -, h2, e⟩
  · have hno := (a_qa_none n 0 A w h (by omega)).mp e
    rw [e]
    refine qo_no 6 0 _ (fun c _ hc => ?_)
    by_cases e2 : c < n
    · exact hno c (by omega) (by omega)
    · rw [(h.2.2 c (by omega) (by omega)).1]; simp
  · obtain ⟨-, -, hm⟩ := a_qa_some n 0 A w h (by omega) c0 e (by omega)
    rw [e]
    exact qo_yes 6 0 _ (by omega) (by omega) hm (fun c _ hc hne hx => h.2.1 c c0 (by omega) (by omega) hne w hx hm)
theorem tk_s {l : List Int32} {i : Nat} {w : Int32} (h : i < l.length) : (w ∈ l.take (i + 1)) ↔ (w ∈ l.take i ∨ l.getD i 0 = w) := by
  rw [List.take_succ_eq_append_getElem h, List.mem_append, List.mem_singleton, List.getD_eq_getElem?_getD, List.getElem?_eq_getElem h]
  exact ⟨fun q => q.imp id Eq.symm, fun q => q.imp id Eq.symm⟩
theorem ix_ne {l : List Int32} {i : Nat} {w : Int32} (h : i < l.idxOf w) (hl : i < l.length) : ¬ l.getD i 0 = w := by
  intro e
  rw [List.getD_eq_getElem?_getD, List.getElem?_eq_getElem hl] at e
  have e2 : l[i] = w := e
  have := List.not_of_lt_findIdx h
  simp [e2] at this

theorem ifq {p q : Prop} [Decidable p] [Decidable q] {a b : Int32} (h : p ↔ q) : (if p then a else b) = if q then a else b := by
  by_cases hp : p
  · rw [if_pos hp, if_pos (h.mp hp)]
  · rw [if_neg hp, if_neg (fun z => hp (h.mpr z))]

set_option maxRecDepth 100000 in
set_option maxHeartbeats 4000000 in
theorem p_X11_queueOf {X : gj_X} {lim : Nat} {σ : gj_H} {v : gj_V} {m sn : Nat} {A : aS} {t : Int32} (hs : msh σ m) (hM : MR (v (m + 2)) A t sn) {w : Int32} {n : Nat} (hQ : ivQ A n) (hn6 : n ≤ 6) : gj_E X 1 m_X11_queueOf [.ref m, .int w] lim σ v (q_i lim σ (fun z v' => z = a_qa n 0 A w ∧ v' = v)) := by
  obtain ⟨so, s1, s2, s3, s4, s5, s6, s7, s8, s9, s10, s11, s12⟩ := id hs
  have lo : ∀ (kb b : Nat) (f : Int32), b + kb = 6 → gj_G X 1 m_X11_queueOf (q_i lim σ (fun z v' => z = a_qo A w kb b f ∧ v' = v)) lim σ v 0 0 4 [some (.ref m), some (.int w), some (.int f), some (.int (nI b)), none] [] := by
    intro kb
    induction kb with
    | zero =>
      intro b f hk
      have eb : b = 6 := by omega
      subst b
      refine g_iload_n (q := 5) dX11_queueOf_4 rfl rfl ?_
      refine g_bipush (q := 7) (x := 6) dX11_queueOf_5 (by decide) rfl ?_
      refine g_icmpge (t := 67) (q := 10) dX11_queueOf_7 (by decide) rfl (fun hq7 => ?_) (fun hq7 => ?_)
      · refine g_iload_n (q := 68) dX11_queueOf_67 rfl rfl ?_
        refine r_i dX11_queueOf_68 rfl rfl rfl ?_
        exact ⟨rfl, rfl⟩
      · exact absurd (Int32.le_refl _) hq7
    | succ kb ihb =>
      intro b f hk
      have hB := hM.2.1 b (by omega)
      have q7 := hB.2.2.2.2.2.2.2.1
      have q8 := hB.2.2.2.2.2.2.2.2.1
      have q11 := hB.2.2.2.2.2.2.2.2.2.2.2
      have li : ∀ (k i : Nat), i + k = (A.2 (10 + b)).length → gj_G X 1 m_X11_queueOf (q_i lim σ (fun z v' => z = a_qo A w (kb + 1) b f ∧ v' = v)) lim σ v 0 0 13 [some (.ref m), some (.int w), some (.int (if w ∈ (A.2 (10 + b)).take i then nI b else f)), some (.int (nI b)), some (.int (nI i))] [] := by
        intro k
        induction k with
        | zero =>
          intro i hk
          have ei : i = (A.2 (10 + b)).length := by omega
          subst i
          refine g_iload (q := 15) dX11_queueOf_13 rfl rfl ?_
          refine g_aload_n (q := 16) dX11_queueOf_15 rfl rfl ?_
          refine g_getR (q := 19) f_X11_13 (by assumption) rfl dX11_queueOf_16 rfl ?_
          refine g_iload_n (q := 20) dX11_queueOf_19 rfl rfl ?_
          refine c_Si (q := 23) (p_X11_atBuffer (b := b)) k_X11_54 (by decide) rfl rfl (Nat.le_of_ble_eq_true rfl) rfl rfl dX11_queueOf_20 rfl ?_
          rintro z0 w1 ⟨hz0, hw1⟩
          subst w1
          subst z0
          refine g_bipush (q := 25) (x := 7) dX11_queueOf_23 (by decide) rfl ?_
          refine g_iadd (q := 26) dX11_queueOf_25 rfl ?_
          refine g_iald (q := 27) (by assumption) (by first | (simp only [gn_lit, nI_add, pk_mul]; exact rfl) | exact rfl) (by omega) (by decide) dX11_queueOf_26 rfl ?_
          refine g_icmpge (t := 61) (q := 30) dX11_queueOf_27 (by decide) rfl (fun hq27 => ?_) (fun hq27 => ?_)
          · refine g_iinc (q := 64) (y := nI (b + 1)) dX11_queueOf_61 rfl (gn_inc b) rfl rfl rfl rfl ?_
            dsimp only [List.set]
            refine g_goto (q := 4) dX11_queueOf_64 (by decide) ?_
            refine g_wk (L' := [some (.ref m), some (.int w), some (.int (if w ∈ A.2 (10 + b) then nI b else f)), some (.int (nI (b + 1))), none]) (by simp [gj_wk, List.take_length]) ?_
            exact ihb (b + 1) _ (by omega)
          · rw [q7] at hq27
            exact absurd (Int32.le_refl _) hq27
        | succ k ih =>
          intro i hk
          have hil : i < (A.2 (10 + b)).length := by omega
          refine g_iload (q := 15) dX11_queueOf_13 rfl rfl ?_
          refine g_aload_n (q := 16) dX11_queueOf_15 rfl rfl ?_
          refine g_getR (q := 19) f_X11_13 (by assumption) rfl dX11_queueOf_16 rfl ?_
          refine g_iload_n (q := 20) dX11_queueOf_19 rfl rfl ?_
          refine c_Si (q := 23) (p_X11_atBuffer (b := b)) k_X11_54 (by decide) rfl rfl (Nat.le_of_ble_eq_true rfl) rfl rfl dX11_queueOf_20 rfl ?_
          rintro z0 w1 ⟨hz0, hw1⟩
          subst w1
          subst z0
          refine g_bipush (q := 25) (x := 7) dX11_queueOf_23 (by decide) rfl ?_
          refine g_iadd (q := 26) dX11_queueOf_25 rfl ?_
          refine g_iald (q := 27) (by assumption) (by first | (simp only [gn_lit, nI_add, pk_mul]; exact rfl) | exact rfl) (by omega) (by decide) dX11_queueOf_26 rfl ?_
          refine g_icmpge (t := 61) (q := 30) dX11_queueOf_27 (by decide) rfl (fun hq27 => ?_) (fun hq27 => ?_)
          · rw [q7] at hq27
            exact absurd (gn_le hq27 (by omega)) (by omega)
          · refine g_aload_n (q := 31) dX11_queueOf_30 rfl rfl ?_
            refine g_getR (q := 34) f_X11_13 (by assumption) rfl dX11_queueOf_31 rfl ?_
            refine g_iload_n (q := 35) dX11_queueOf_34 rfl rfl ?_
            refine c_Si (q := 38) (p_X11_atBuffer (b := b)) k_X11_54 (by decide) rfl rfl (Nat.le_of_ble_eq_true rfl) rfl rfl dX11_queueOf_35 rfl ?_
            rintro z0 w1 ⟨hz0, hw1⟩
            subst w1
            subst z0
            refine g_bipush (q := 40) (x := 8) dX11_queueOf_38 (by decide) rfl ?_
            refine g_iadd (q := 41) dX11_queueOf_40 rfl ?_
            refine g_iload (q := 43) dX11_queueOf_41 rfl rfl ?_
            refine g_iadd (q := 44) dX11_queueOf_43 rfl ?_
            refine g_iald (q := 45) (by assumption) (by first | (simp only [gn_lit, nI_add, pk_mul]; exact rfl) | exact rfl) (by omega) (by decide) dX11_queueOf_44 rfl ?_
            refine g_iload_n (q := 46) dX11_queueOf_45 rfl rfl ?_
            refine g_icmpne (t := 53) (q := 49) dX11_queueOf_46 (by decide) rfl (fun hq46 => ?_) (fun hq46 => ?_)
            · rw [q8 i hil] at hq46
              refine g_iload_n (q := 54) dX11_queueOf_53 rfl rfl ?_
              refine g_istore_n (q := 55) dX11_queueOf_54 rfl rfl rfl rfl ?_
              dsimp only [List.set]
              refine g_iinc (q := 58) (y := nI (i + 1)) dX11_queueOf_55 rfl (gn_inc i) rfl rfl rfl rfl ?_
              dsimp only [List.set]
              refine g_goto (q := 13) dX11_queueOf_58 (by decide) ?_
              refine g_wk (L' := [some (.ref m), some (.int w), some (.int (if w ∈ (A.2 (10 + b)).take (i + 1) then nI b else f)), some (.int (nI b)), some (.int (nI (i + 1)))]) ?_ (ih (i + 1) (by omega))
              rw [show (if w ∈ (A.2 (10 + b)).take (i + 1) then nI b else f) = if w ∈ (A.2 (10 + b)).take i then nI b else f from ifq ((tk_s hil).trans ⟨fun q => q.resolve_right hq46, Or.inl⟩)]
              simp [gj_wk]
            · rw [q8 i hil] at hq46
              refine g_iload_n (q := 50) dX11_queueOf_49 rfl rfl ?_
              refine g_goto (q := 54) dX11_queueOf_50 (by decide) ?_
              refine g_istore_n (q := 55) dX11_queueOf_54 rfl rfl rfl rfl ?_
              dsimp only [List.set]
              refine g_iinc (q := 58) (y := nI (i + 1)) dX11_queueOf_55 rfl (gn_inc i) rfl rfl rfl rfl ?_
              dsimp only [List.set]
              refine g_goto (q := 13) dX11_queueOf_58 (by decide) ?_
              refine g_wk (L' := [some (.ref m), some (.int w), some (.int (if w ∈ (A.2 (10 + b)).take (i + 1) then nI b else f)), some (.int (nI b)), some (.int (nI (i + 1)))]) ?_ (ih (i + 1) (by omega))
              rw [if_pos ((tk_s hil).mpr (Or.inr hq46))]
              simp [gj_wk]
      refine g_iload_n (q := 5) dX11_queueOf_4 rfl rfl ?_
      refine g_bipush (q := 7) (x := 6) dX11_queueOf_5 (by decide) rfl ?_
      refine g_icmpge (t := 67) (q := 10) dX11_queueOf_7 (by decide) rfl (fun hq7 => ?_) (fun hq7 => ?_)
      · exact absurd (gn_le (n := 6) hq7 (by omega)) (by omega)
      · refine g_iconst (q := 11) (x := 0) dX11_queueOf_10 (by decide) rfl ?_
        refine g_istore (q := 13) dX11_queueOf_11 rfl rfl rfl rfl ?_
        dsimp only [List.set]
        refine g_wk (L' := [some (.ref m), some (.int w), some (.int (if w ∈ (A.2 (10 + b)).take 0 then nI b else f)), some (.int (nI b)), some (.int (nI 0))]) ?_ (li (A.2 (10 + b)).length 0 (by omega))
        rw [if_neg (by simp)]
        simp [gj_wk]
        rfl
  rw [← qo_qa hQ hn6]
  refine gj_E_at (L := [some (.ref m), some (.int w), none, none, none]) (k := 3) rfl (by decide) rfl ?_
  refine g_iconst (q := 1) (x := (-1)) dX11_queueOf_0 (by decide) rfl ?_
  refine g_istore_n (q := 2) dX11_queueOf_1 rfl rfl rfl rfl ?_
  dsimp only [List.set]
  refine g_iconst (q := 3) (x := 0) dX11_queueOf_2 (by decide) rfl ?_
  refine g_istore_n (q := 4) dX11_queueOf_3 rfl rfl rfl rfl ?_
  dsimp only [List.set]
  exact lo 6 0 (-1) (by omega)

theorem mb_quit {N N' : Nat → Int32} {b i : Nat} {f : Nat → Int32} {li lq : List Int32} (h : mb N b f li lq) (hl : i < lq.length) (q8 : ∀ j, j < lq.length - 1 → N' (10 + 24 * b + 8 + j) = if j < i then N (10 + 24 * b + 8 + j) else N (10 + 24 * b + 8 + j + 1)) (q7 : N' (10 + 24 * b + 7) = nI (lq.length - 1)) (qo : ∀ j, (j < 10 + 24 * b + 8 ∨ 10 + 24 * b + 14 ≤ j) → j ≠ 10 + 24 * b + 7 → N' j = N j) : mb N' b f li (lq.eraseIdx i) := by
  obtain ⟨a0, a1, a2, a3, a4, a5, a6, a7, a8, a9, a10, a11⟩ := h
  refine ⟨?_, ?_, ?_, ?_, ?_, ?_, ?_, by rw [q7, er_len hl], fun j hj => ?_, fun j hj => ?_, a10, by rw [er_len hl]; omega⟩
  · rw [qo _ (by omega) (by omega)]; exact a0
  · rw [qo _ (by omega) (by omega)]; exact a1
  · rw [qo _ (by omega) (by omega)]; exact a2
  · rw [qo _ (by omega) (by omega)]; exact a3
  · rw [qo _ (by omega) (by omega)]; exact a4
  · rw [qo _ (by omega) (by omega)]; exact a5
  · rw [qo _ (by omega) (by omega)]; exact a6
  · rw [er_len hl] at hj
    rw [q8 j hj, er_at]
    by_cases e : j < i
    · rw [if_pos e, if_pos e]; exact a8 j (by omega)
    · rw [if_neg e, if_neg e]; exact a8 (j + 1) (by omega)
  · rw [qo _ (by omega) (by omega)]; exact a9 j hj

set_option maxRecDepth 100000 in
set_option maxHeartbeats 4000000 in
theorem p_X11_goesFromQueue {X : gj_X} {lim : Nat} {σ : gj_H} {v : gj_V} {m sn : Nat} {A : aS} {t : Int32} (hs : msh σ m) (hM : MR (v (m + 2)) A t sn) {b : Nat} {w : Int32} (hb : b < 6) (hm : w ∈ A.2 (10 + b)) : gj_E X 1 m_X11_goesFromQueue [.ref m, .int (nI b), .int w] lim σ v (q_v lim σ (fun v' => mc v v' m (z_quit A w b) t sn)) := by
  obtain ⟨so, s1, s2, s3, s4, s5, s6, s7, s8, s9, s10, s11, s12⟩ := id hs
  have hB := hM.2.1 b hb
  have q7 := hB.2.2.2.2.2.2.2.1
  have q8 := hB.2.2.2.2.2.2.2.2.1
  have q11 := hB.2.2.2.2.2.2.2.2.2.2.2
  have hlt := idx_lt hm
  have l2 : ∀ (k c : Nat) (w' : gj_V), w' = gj_up v (m + 2) (shl (upd (v (m + 2)) (10 + 24 * b + 7) (nI ((A.2 (10 + b)).length - 1))) (10 + 24 * b + 8 + (A.2 (10 + b)).idxOf w) c) → c + k = (A.2 (10 + b)).length - 1 - (A.2 (10 + b)).idxOf w → gj_G X 1 m_X11_goesFromQueue (q_v lim σ (fun v' => mc v v' m (z_quit A w b) t sn)) lim σ w' 0 0 47 [some (.ref m), some (.int (nI b)), some (.int w), some (.int (nI (10 + 24 * b))), some (.int (nI ((A.2 (10 + b)).idxOf w))), some (.int (nI ((A.2 (10 + b)).idxOf w + c)))] [] := by
    intro k
    induction k with
    | zero =>
      intro c w' hw hk
      have nw := congrFun hw (m + 2)
      rw [gu_s] at nw
      have ec : c = (A.2 (10 + b)).length - 1 - (A.2 (10 + b)).idxOf w := by omega
      refine g_iload (q := 49) dX11_goesFromQueue_47 rfl rfl ?_
      refine g_aload_n (q := 50) dX11_goesFromQueue_49 rfl rfl ?_
      refine g_getR (q := 53) f_X11_13 (by assumption) rfl dX11_goesFromQueue_50 rfl ?_
      refine g_iload_n (q := 54) dX11_goesFromQueue_53 rfl rfl ?_
      refine g_bipush (q := 56) (x := 7) dX11_goesFromQueue_54 (by decide) rfl ?_
      refine g_iadd (q := 57) dX11_goesFromQueue_56 rfl ?_
      refine g_iald (q := 58) (by assumption) (by first | (simp only [gn_lit, nI_add, pk_mul]; exact rfl) | exact rfl) (by omega) (by decide) dX11_goesFromQueue_57 rfl ?_
      refine g_icmpge (t := 93) (q := 61) dX11_goesFromQueue_58 (by decide) rfl (fun hq58 => ?_) (fun hq58 => ?_)
      · refine r_v dX11_goesFromQueue_93 rfl rfl rfl ?_
        unfold z_quit
        rw [← sB_queue A b _ hb]
        refine ⟨_, hw, hM.buf hb (fun j hj => ?_) (show mb _ b (A.1 (10 + b)) (A.2 b) ((A.2 (10 + b)).eraseIdx ((A.2 (10 + b)).idxOf w)) from mb_quit hB hlt (fun j hj => ?_) ?_ (fun j g1 g2 => ?_))⟩
        · rw [shl_o (by omega), ud_n _ _ (by omega)]
        · by_cases e : j < (A.2 (10 + b)).idxOf w
          · rw [if_pos e, shl_o (by omega), ud_n _ _ (by omega)]
          · rw [if_neg e, shl_i (by omega), ud_n _ _ (by omega)]
        · rw [shl_o (by omega), ud_s]
        · rw [shl_o (by omega), ud_n _ _ g2]
      · rw [nw, shl_o (by omega), ud_s] at hq58
        exact absurd (by rw [show (A.2 (10 + b)).length - 1 = (A.2 (10 + b)).idxOf w + c by omega]; exact Int32.le_refl _) hq58
    | succ k ih =>
      intro c w' hw hk
      have nw := congrFun hw (m + 2)
      rw [gu_s] at nw
      refine g_iload (q := 49) dX11_goesFromQueue_47 rfl rfl ?_
      refine g_aload_n (q := 50) dX11_goesFromQueue_49 rfl rfl ?_
      refine g_getR (q := 53) f_X11_13 (by assumption) rfl dX11_goesFromQueue_50 rfl ?_
      refine g_iload_n (q := 54) dX11_goesFromQueue_53 rfl rfl ?_
      refine g_bipush (q := 56) (x := 7) dX11_goesFromQueue_54 (by decide) rfl ?_
      refine g_iadd (q := 57) dX11_goesFromQueue_56 rfl ?_
      refine g_iald (q := 58) (by assumption) (by first | (simp only [gn_lit, nI_add, pk_mul]; exact rfl) | exact rfl) (by omega) (by decide) dX11_goesFromQueue_57 rfl ?_
      refine g_icmpge (t := 93) (q := 61) dX11_goesFromQueue_58 (by decide) rfl (fun hq58 => ?_) (fun hq58 => ?_)
      · rw [nw, shl_o (by omega), ud_s] at hq58
        exact absurd (gn_le hq58 (by omega)) (by omega)
      · refine g_aload_n (q := 62) dX11_goesFromQueue_61 rfl rfl ?_
        refine g_getR (q := 65) f_X11_13 (by assumption) rfl dX11_goesFromQueue_62 rfl ?_
        refine g_iload_n (q := 66) dX11_goesFromQueue_65 rfl rfl ?_
        refine g_bipush (q := 68) (x := 8) dX11_goesFromQueue_66 (by decide) rfl ?_
        refine g_iadd (q := 69) dX11_goesFromQueue_68 rfl ?_
        refine g_iload (q := 71) dX11_goesFromQueue_69 rfl rfl ?_
        refine g_iadd (q := 72) dX11_goesFromQueue_71 rfl ?_
        refine g_aload_n (q := 73) dX11_goesFromQueue_72 rfl rfl ?_
        refine g_getR (q := 76) f_X11_13 (by assumption) rfl dX11_goesFromQueue_73 rfl ?_
        refine g_iload_n (q := 77) dX11_goesFromQueue_76 rfl rfl ?_
        refine g_bipush (q := 79) (x := 8) dX11_goesFromQueue_77 (by decide) rfl ?_
        refine g_iadd (q := 80) dX11_goesFromQueue_79 rfl ?_
        refine g_iload (q := 82) dX11_goesFromQueue_80 rfl rfl ?_
        refine g_iadd (q := 83) dX11_goesFromQueue_82 rfl ?_
        refine g_iconst (q := 84) (x := 1) dX11_goesFromQueue_83 (by decide) rfl ?_
        refine g_iadd (q := 85) dX11_goesFromQueue_84 rfl ?_
        refine g_iald (q := 86) (by assumption) (show nI (10 + 24 * b) + 8 + nI ((A.2 (10 + b)).idxOf w + c) + 1 = nI (10 + 24 * b + 8 + (A.2 (10 + b)).idxOf w + c + 1) by simp only [gn_lit, nI_add, pk_mul, Nat.add_assoc]) (by omega) (by decide) dX11_goesFromQueue_85 rfl ?_
        refine g_iast (q := 87) (by assumption) (show nI (10 + 24 * b) + 8 + nI ((A.2 (10 + b)).idxOf w + c) = nI (10 + 24 * b + 8 + (A.2 (10 + b)).idxOf w + c) by simp only [gn_lit, nI_add, pk_mul, Nat.add_assoc]) (by omega) (by decide) dX11_goesFromQueue_86 rfl ?_
        refine g_gen (fun vq3 hvq3 => ?_)
        rw [gu_2, nw, shl_s, hw, gu_u] at hvq3
        refine g_iinc (q := 90) (y := nI (((A.2 (10 + b)).idxOf w + c) + 1)) dX11_goesFromQueue_87 rfl (gn_inc ((A.2 (10 + b)).idxOf w + c)) rfl rfl rfl rfl ?_
        dsimp only [List.set]
        refine g_goto (q := 47) dX11_goesFromQueue_90 (by decide) ?_
        rw [show (A.2 (10 + b)).idxOf w + c + 1 = (A.2 (10 + b)).idxOf w + (c + 1) by omega]
        exact ih (c + 1) vq3 hvq3 (by omega)
  have l1 : ∀ (k i : Nat), i + k = (A.2 (10 + b)).idxOf w → gj_G X 1 m_X11_goesFromQueue (q_v lim σ (fun v' => mc v v' m (z_quit A w b) t sn)) lim σ v 0 0 8 [some (.ref m), some (.int (nI b)), some (.int w), some (.int (nI (10 + 24 * b))), some (.int (nI i)), none] [] := by
    intro k
    induction k with
    | zero =>
      intro i hk
      have ei : i = (A.2 (10 + b)).idxOf w := by omega
      subst i
      refine g_aload_n (q := 9) dX11_goesFromQueue_8 rfl rfl ?_
      refine g_getR (q := 12) f_X11_13 (by assumption) rfl dX11_goesFromQueue_9 rfl ?_
      refine g_iload_n (q := 13) dX11_goesFromQueue_12 rfl rfl ?_
      refine g_bipush (q := 15) (x := 8) dX11_goesFromQueue_13 (by decide) rfl ?_
      refine g_iadd (q := 16) dX11_goesFromQueue_15 rfl ?_
      refine g_iload (q := 18) dX11_goesFromQueue_16 rfl rfl ?_
      refine g_iadd (q := 19) dX11_goesFromQueue_18 rfl ?_
      refine g_iald (q := 20) (by assumption) (by first | (simp only [gn_lit, nI_add, pk_mul]; exact rfl) | exact rfl) (by omega) (by decide) dX11_goesFromQueue_19 rfl ?_
      refine g_iload_n (q := 21) dX11_goesFromQueue_20 rfl rfl ?_
      refine g_icmpeq (t := 30) (q := 24) dX11_goesFromQueue_21 (by decide) rfl (fun hq21 => ?_) (fun hq21 => ?_)
      · refine g_aload_n (q := 31) dX11_goesFromQueue_30 rfl rfl ?_
        refine g_getR (q := 34) f_X11_13 (by assumption) rfl dX11_goesFromQueue_31 rfl ?_
        refine g_iload_n (q := 35) dX11_goesFromQueue_34 rfl rfl ?_
        refine g_bipush (q := 37) (x := 7) dX11_goesFromQueue_35 (by decide) rfl ?_
        refine g_iadd (q := 38) dX11_goesFromQueue_37 rfl ?_
        refine g_dup2 (q := 39) dX11_goesFromQueue_38 rfl rfl rfl ?_
        refine g_iald (q := 40) (by assumption) (by first | (simp only [gn_lit, nI_add, pk_mul]; exact rfl) | exact rfl) (by omega) (by decide) dX11_goesFromQueue_39 rfl ?_
        refine g_iconst (q := 41) (x := 1) dX11_goesFromQueue_40 (by decide) rfl ?_
        refine g_isub (q := 42) dX11_goesFromQueue_41 rfl ?_
        refine g_iast (q := 43) (by assumption) (by first | (simp only [gn_lit, nI_add, pk_mul]; exact rfl) | exact rfl) (by omega) (by decide) dX11_goesFromQueue_42 rfl ?_
        refine g_gen (fun vq1 hvq1 => ?_)
        rw [gu_2, q7] at hvq1
        rw [show nI (A.2 (10 + b)).length - 1 = nI ((A.2 (10 + b)).length - 1) by rw [show (A.2 (10 + b)).length = (A.2 (10 + b)).length - 1 + 1 by omega, rl_s]; rfl] at hvq1
        refine g_iload (q := 45) dX11_goesFromQueue_43 rfl rfl ?_
        refine g_istore (q := 47) dX11_goesFromQueue_45 rfl rfl rfl rfl ?_
        dsimp only [List.set]
        exact l2 ((A.2 (10 + b)).length - 1 - (A.2 (10 + b)).idxOf w) 0 vq1 (by rw [shl_0]; exact hvq1) (by omega)
      · rw [q8 _ hlt, idx_at hm] at hq21
        exact absurd rfl hq21
    | succ k ih =>
      intro i hk
      refine g_aload_n (q := 9) dX11_goesFromQueue_8 rfl rfl ?_
      refine g_getR (q := 12) f_X11_13 (by assumption) rfl dX11_goesFromQueue_9 rfl ?_
      refine g_iload_n (q := 13) dX11_goesFromQueue_12 rfl rfl ?_
      refine g_bipush (q := 15) (x := 8) dX11_goesFromQueue_13 (by decide) rfl ?_
      refine g_iadd (q := 16) dX11_goesFromQueue_15 rfl ?_
      refine g_iload (q := 18) dX11_goesFromQueue_16 rfl rfl ?_
      refine g_iadd (q := 19) dX11_goesFromQueue_18 rfl ?_
      refine g_iald (q := 20) (by assumption) (by first | (simp only [gn_lit, nI_add, pk_mul]; exact rfl) | exact rfl) (by omega) (by decide) dX11_goesFromQueue_19 rfl ?_
      refine g_iload_n (q := 21) dX11_goesFromQueue_20 rfl rfl ?_
      refine g_icmpeq (t := 30) (q := 24) dX11_goesFromQueue_21 (by decide) rfl (fun hq21 => ?_) (fun hq21 => ?_)
      · rw [q8 i (by omega)] at hq21
        exact absurd hq21 (ix_ne (by omega) (by omega))
      · refine g_iinc (q := 27) (y := nI (i + 1)) dX11_goesFromQueue_24 rfl (gn_inc i) rfl rfl rfl rfl ?_
        dsimp only [List.set]
        refine g_goto (q := 8) dX11_goesFromQueue_27 (by decide) ?_
        exact ih (i + 1) (by omega)
  refine gj_E_at (L := [some (.ref m), some (.int (nI b)), some (.int w), none, none, none]) (k := 3) rfl (by decide) rfl ?_
  refine g_iload_n (q := 1) dX11_goesFromQueue_0 rfl rfl ?_
  refine c_Si (q := 4) (p_X11_atBuffer (b := b)) k_X11_54 (by decide) rfl rfl (Nat.le_of_ble_eq_true rfl) rfl rfl dX11_goesFromQueue_1 rfl ?_
  rintro z0 w1 ⟨hz0, hw1⟩
  subst w1
  subst z0
  refine g_istore_n (q := 5) dX11_goesFromQueue_4 rfl rfl rfl rfl ?_
  dsimp only [List.set]
  refine g_iconst (q := 6) (x := 0) dX11_goesFromQueue_5 (by decide) rfl ?_
  refine g_istore (q := 8) dX11_goesFromQueue_6 rfl rfl rfl rfl ?_
  dsimp only [List.set]
  exact l1 ((A.2 (10 + b)).idxOf w) 0 (by omega)

set_option maxRecDepth 100000 in
set_option maxHeartbeats 4000000 in
theorem p_X11_quits {X : gj_X} {lim : Nat} {σ : gj_H} {v : gj_V} {m : Nat} {A : aS} {t : Int32} {l : List (aS × Int32)} {tx : List Int32} {c : Nat → Int32} {n sn : Nat} (hs : msh σ m) (hG : MG v m A t l tx c) (hI : IV A n sn) {w : Int32} : gj_E X 6 m_X11_quits [.ref m, .int w] lim σ v (q_i lim σ (fun z v' => sp_quits A t l tx c w z (MG v' m) ∧ fm v v' m)) := by
  obtain ⟨so, s1, s2, s3, s4, s5, s6, s7, s8, s9, s10, s11, s12⟩ := id hs
  have hn6 := hI.2.1.2.2.2.1
  have hn1 := hI.2.1.2.2.1
  have hsn6 := hI.2.1.2.2.2.2.1
  have esn : sno A = sn := sn_eq hI
  have hM0 := hG.1
  refine gj_E_at (L := [some (.ref m), some (.int w), none]) (k := 1) rfl (by decide) rfl ?_
  refine g_iload_n (q := 1) dX11_quits_0 rfl rfl ?_
  refine c_Si (q := 4) p_X11_isWorker k_X11_162 (by decide) rfl rfl (Nat.le_of_ble_eq_true rfl) rfl rfl dX11_quits_1 rfl ?_
  rintro z w1 ⟨rfl, hw1⟩
  subst w1
  refine g_ifne (t := 12) (q := 7) dX11_quits_4 (by decide) rfl (fun hq4 => ?_) (fun hq4 => ?_)
  · have hq4 := gn_b1 hq4
    refine g_aload_n (q := 13) dX11_quits_12 rfl rfl ?_
    refine g_iload_n (q := 14) dX11_quits_13 rfl rfl ?_
    refine c_Vi (q := 17) (p_X11_queueOf hs hG.1 hI.2.2.2 hn6) k_X11_165 (by assumption) rfl (by decide) rfl rfl (Nat.le_of_ble_eq_true rfl) rfl rfl dX11_quits_14 rfl ?_
    rintro y w1 ⟨hy1, hw1⟩
    subst w1
    rw [← nn_eq hI] at hy1
    refine g_istore_n (q := 18) dX11_quits_17 rfl rfl rfl rfl ?_
    dsimp only [List.set]
    refine g_iload_n (q := 19) dX11_quits_18 rfl rfl ?_
    refine g_iconst (q := 20) (x := (-1)) dX11_quits_19 (by decide) rfl ?_
    refine g_icmpne (t := 28) (q := 23) dX11_quits_20 (by decide) rfl (fun hq20 => ?_) (fun hq20 => ?_)
    · rw [hy1] at hq20
      obtain ⟨j, -, hj, ey⟩ := (a_qa_cases (nn A) 0 A w).resolve_left hq20
      rw [nn_eq hI] at hj
      have j6 : j < 6 := by omega
      rw [hy1, ey]
      have ej : iN (nI j) = j := iN_n (by omega)
      obtain ⟨-, -, hm⟩ := a_qa_some (nn A) 0 A w hI.2.2.2 (by rw [nn_eq hI]; omega) j ey j6
      refine g_aload_n (q := 29) dX11_quits_28 rfl rfl ?_
      refine c_Vv (q := 32) (p_X11_leavesState hs hG) k_X11_133 (by assumption) rfl (by decide) rfl rfl (Nat.le_of_ble_eq_true rfl) rfl rfl dX11_quits_29 rfl ?_
      rintro vq1 ⟨⟨hG1, n1⟩, E1⟩
      have hM1 := hG1.1
      refine g_aload_n (q := 33) dX11_quits_32 rfl rfl ?_
      refine g_iload_n (q := 34) dX11_quits_33 rfl rfl ?_
      refine g_iload_n (q := 35) dX11_quits_34 rfl rfl ?_
      refine c_Vv (q := 38) (p_X11_goesFromQueue hs hM1 j6 hm) k_X11_168 (by assumption) rfl (by decide) rfl rfl (Nat.le_of_ble_eq_true rfl) rfl rfl dX11_quits_35 rfl ?_
      rintro vq2 hc2
      have iv2 : IV (z_quit A w j) n sn := iv_quit hI (by omega)
      have hG2 := hG1.now hc2 ((sn_eq iv2).trans esn.symm)
      have E2 := E1.tr hc2.fm
      refine g_iload_n (q := 39) dX11_quits_38 rfl rfl ?_
      refine r_i dX11_quits_39 rfl rfl rfl ?_
      rw [sp_quits, if_pos hq4, if_neg hq20, ey, ej]
      exact ⟨⟨rfl, hG2⟩, E2⟩
    · rw [hy1] at hq20
      refine g_aload_n (q := 24) dX11_quits_23 rfl rfl ?_
      refine c_Vi (q := 27) (p_X11_no hs hG) k_X11_65 (by assumption) rfl (by decide) rfl rfl (Nat.le_of_ble_eq_true rfl) rfl rfl dX11_quits_24 rfl ?_
      rintro z w1 ⟨hz1, hG1, E1⟩
      refine r_i dX11_quits_27 rfl rfl rfl ?_
      rw [sp_quits, if_pos hq4, if_pos hq20]
      exact ⟨⟨hz1, hG1⟩, E1⟩
  · have hq4 := gn_b0 hq4
    refine g_aload_n (q := 8) dX11_quits_7 rfl rfl ?_
    refine c_Vi (q := 11) (p_X11_bad hs hG) k_X11_130 (by assumption) rfl (by decide) rfl rfl (Nat.le_of_ble_eq_true rfl) rfl rfl dX11_quits_8 rfl ?_
    rintro z w1 ⟨hz1, hG1, E1⟩
    refine r_i dX11_quits_11 rfl rfl rfl ?_
    rw [sp_quits, if_neg (by intro h; first | exact hq4 h)]
    exact ⟨⟨hz1, hG1⟩, E1⟩

set_option maxRecDepth 100000 in
set_option maxHeartbeats 4000000 in
theorem cancM_loop {X : gj_X} {lim : Nat} {σ : gj_H} {v : gj_V} {m : Nat} {A : aS} {t : Int32} {l : List (aS × Int32)} {tx : List Int32} {c : Nat → Int32} {n sn : Nat} (hs : msh σ m) (hG : MG v m A t l tx c) (hI : IV A n sn) {j : Nat} (j6 : j < 6) (hm : nI j ∈ A.2 20) : ∀ (vq1 : gj_V), MG vq1 m A t (h_push l (A, t)) tx c → fm v vq1 m → gj_G X 6 m_X11_cancels (q_i lim σ (fun z v' => (z = nI ((z_canc A j).2 20).length ∧ MG v' m (z_canc A j) t (h_push l (A, t)) tx c) ∧ fm v v' m)) lim σ vq1 0 0 37 [some (.ref m), some (.int (nI j)), some (.int (nI 0))] [] := by
  obtain ⟨so, s1, s2, s3, s4, s5, s6, s7, s8, s9, s10, s11, s12⟩ := id hs
  have hn6 := hI.2.1.2.2.2.1
  have hn1 := hI.2.1.2.2.1
  have hsn6 := hI.2.1.2.2.2.2.1
  have esn : sno A = sn := sn_eq hI
  have hM0 := hG.1
  have hlt := idx_lt hm
  have hll := hI.2.2.1.2.2.2
  have lp : ∀ (vq1 : gj_V), MG vq1 m A t (h_push l (A, t)) tx c → fm v vq1 m → ∀ (k i : Nat), i + k = (A.2 20).idxOf (nI j) → gj_G X 6 m_X11_cancels (q_i lim σ (fun z v' => (z = nI ((z_canc A j).2 20).length ∧ MG v' m (z_canc A j) t (h_push l (A, t)) tx c) ∧ fm v v' m)) lim σ vq1 0 0 37 [some (.ref m), some (.int (nI j)), some (.int (nI i))] [] := by
    intro vq1 hG1 E1 k
    have hM1 := hG1.1
    have q5 := hM1.1.2.2.2.2.2.1
    induction k with
    | zero =>
      intro i hk
      have ei : i = (A.2 20).idxOf (nI j) := by omega
      subst i
      refine g_aload_n (q := 38) dX11_cancels_37 rfl rfl ?_
      refine g_getR (q := 41) f_X11_13 (by assumption) rfl dX11_cancels_38 rfl ?_
      refine g_sipush (q := 44) (x := 300) dX11_cancels_41 (by decide) rfl ?_
      refine g_iload_n (q := 45) dX11_cancels_44 rfl rfl ?_
      refine g_iadd (q := 46) dX11_cancels_45 rfl ?_
      refine g_iald (q := 47) (by assumption) (show 300 + nI ((A.2 20).idxOf (nI j)) = nI (300 + (A.2 20).idxOf (nI j)) by simp only [gn_lit, nI_add, pk_mul]) (by omega) (by decide) dX11_cancels_46 rfl ?_
      refine g_iload_n (q := 48) dX11_cancels_47 rfl rfl ?_
      refine g_icmpeq (t := 57) (q := 51) dX11_cancels_48 (by decide) rfl (fun hq48 => ?_) (fun hq48 => ?_)
      · refine g_aload_n (q := 58) dX11_cancels_57 rfl rfl ?_
        refine g_iload_n (q := 59) dX11_cancels_58 rfl rfl ?_
        refine c_Vv (q := 62) (p_X11_goesFromLine hs hM1 (i := (A.2 20).idxOf (nI j)) (w := j) hlt j6 (idx_at hm)) k_X11_109 (by assumption) rfl (by decide) rfl rfl (Nat.le_of_ble_eq_true rfl) rfl rfl dX11_cancels_59 rfl ?_
        rintro vq2 hc2
        have iv2 : IV (z_canc A j) n sn := iv_canc hI j6 hm
        have hG2 := hG1.now hc2 ((sn_eq iv2).trans esn.symm)
        have E2 := E1.tr hc2.fm
        refine g_aload_n (q := 63) dX11_cancels_62 rfl rfl ?_
        refine g_getR (q := 66) f_X11_13 (by assumption) rfl dX11_cancels_63 rfl ?_
        refine g_iconst (q := 67) (x := 4) dX11_cancels_66 (by decide) rfl ?_
        refine g_iald (q := 68) (by assumption) (show (4 : Int32) = nI 4 from rfl) (by omega) (by decide) dX11_cancels_67 rfl ?_
        rw [hG2.1.1.2.2.2.2.1]
        refine r_i dX11_cancels_68 rfl rfl rfl ?_
        exact ⟨⟨rfl, hG2⟩, E2⟩
      · rw [q5 _ hlt, idx_at hm] at hq48
        exact absurd rfl hq48
    | succ k ih =>
      intro i hk
      refine g_aload_n (q := 38) dX11_cancels_37 rfl rfl ?_
      refine g_getR (q := 41) f_X11_13 (by assumption) rfl dX11_cancels_38 rfl ?_
      refine g_sipush (q := 44) (x := 300) dX11_cancels_41 (by decide) rfl ?_
      refine g_iload_n (q := 45) dX11_cancels_44 rfl rfl ?_
      refine g_iadd (q := 46) dX11_cancels_45 rfl ?_
      refine g_iald (q := 47) (by assumption) (show 300 + nI i = nI (300 + i) by simp only [gn_lit, nI_add, pk_mul]) (by omega) (by decide) dX11_cancels_46 rfl ?_
      refine g_iload_n (q := 48) dX11_cancels_47 rfl rfl ?_
      refine g_icmpeq (t := 57) (q := 51) dX11_cancels_48 (by decide) rfl (fun hq48 => ?_) (fun hq48 => ?_)
      · rw [q5 i (by omega)] at hq48
        exact absurd hq48 (ix_ne (by omega) (by omega))
      · refine g_iinc (q := 54) (y := nI (i + 1)) dX11_cancels_51 rfl (gn_inc i) rfl rfl rfl rfl ?_
        dsimp only [List.set]
        refine g_goto (q := 37) dX11_cancels_54 (by decide) ?_
        exact ih (i + 1) (by omega)
  exact fun vq1 hG1 E1 => lp vq1 hG1 E1 ((A.2 20).idxOf (nI j)) 0 (by omega)


set_option maxRecDepth 100000 in
set_option maxHeartbeats 4000000 in
theorem p_X11_cancels {X : gj_X} {lim : Nat} {σ : gj_H} {v : gj_V} {m : Nat} {A : aS} {t : Int32} {l : List (aS × Int32)} {tx : List Int32} {c : Nat → Int32} {n sn : Nat} (hs : msh σ m) (hG : MG v m A t l tx c) (hI : IV A n sn) {w : Int32} : gj_E X 6 m_X11_cancels [.ref m, .int w] lim σ v (q_i lim σ (fun z v' => sp_canc A t l tx c w z (MG v' m) ∧ fm v v' m)) := by
  obtain ⟨so, s1, s2, s3, s4, s5, s6, s7, s8, s9, s10, s11, s12⟩ := id hs
  have hn6 := hI.2.1.2.2.2.1
  have hn1 := hI.2.1.2.2.1
  have hsn6 := hI.2.1.2.2.2.2.1
  have esn : sno A = sn := sn_eq hI
  have hM0 := hG.1
  refine gj_E_at (L := [some (.ref m), some (.int w), none]) (k := 1) rfl (by decide) rfl ?_
  refine g_iload_n (q := 1) dX11_cancels_0 rfl rfl ?_
  refine c_Si (q := 4) p_X11_isWorker k_X11_162 (by decide) rfl rfl (Nat.le_of_ble_eq_true rfl) rfl rfl dX11_cancels_1 rfl ?_
  rintro z w1 ⟨rfl, hw1⟩
  subst w1
  refine g_ifne (t := 12) (q := 7) dX11_cancels_4 (by decide) rfl (fun hq4 => ?_) (fun hq4 => ?_)
  · have hq4 := gn_b1 hq4
    have hcd := hq4
    obtain ⟨j, j6, rfl⟩ := gn_05 hq4
    have ej : iN (nI j) = j := iN_n (by omega)
    refine g_aload_n (q := 13) dX11_cancels_12 rfl rfl ?_
    refine g_getR (q := 16) f_X11_13 (by assumption) rfl dX11_cancels_13 rfl ?_
    refine g_iload_n (q := 17) dX11_cancels_16 rfl rfl ?_
    refine c_Si (q := 20) (p_X11_workerAt (b := j)) k_X11_58 (by decide) rfl rfl (Nat.le_of_ble_eq_true rfl) rfl rfl dX11_cancels_17 rfl ?_
    rintro z0 w1 ⟨hz0, hw1⟩
    subst w1
    subst z0
    refine g_iconst (q := 21) (x := 0) dX11_cancels_20 (by decide) rfl ?_
    refine g_iadd (q := 22) dX11_cancels_21 rfl ?_
    refine g_iald (q := 23) (by assumption) (by first | (simp only [gn_lit, nI_add, pk_mul]; exact rfl) | exact rfl) (by omega) (by decide) dX11_cancels_22 rfl ?_
    rw [(hM0.2.2.2.2.2.1 j j6).1]
    refine g_ifne (t := 31) (q := 26) dX11_cancels_23 (by decide) rfl (fun hq23 => ?_) (fun hq23 => ?_)
    · have hq23 := gn_w1 hq23
      refine g_aload_n (q := 32) dX11_cancels_31 rfl rfl ?_
      refine c_Vv (q := 35) (p_X11_leavesState hs hG) k_X11_133 (by assumption) rfl (by decide) rfl rfl (Nat.le_of_ble_eq_true rfl) rfl rfl dX11_cancels_32 rfl ?_
      rintro vq1 ⟨⟨hG1, n1⟩, E1⟩
      have hM1 := hG1.1
      refine g_iconst (q := 36) (x := 0) dX11_cancels_35 (by decide) rfl ?_
      refine g_istore_n (q := 37) dX11_cancels_36 rfl rfl rfl rfl ?_
      dsimp only [List.set]
      have hh := cancM_loop (X := X) (lim := lim) hs hG hI j6 ((ivW_wait hI.2.2.1 j6).mp hq23) vq1 hG1 E1
      have es : ∀ z vv, sp_canc A t l tx c (nI j) z (MG vv m) = (z = nI ((z_canc A j).2 20).length ∧ MG vv m (z_canc A j) t (h_push l (A, t)) tx c) := fun z vv => by rw [sp_canc, if_pos hcd, ej, if_neg hq23]
      simp only [es]
      exact hh
    · have hq23 := gn_w0 hq23
      refine g_aload_n (q := 27) dX11_cancels_26 rfl rfl ?_
      refine c_Vi (q := 30) (p_X11_no hs hG) k_X11_65 (by assumption) rfl (by decide) rfl rfl (Nat.le_of_ble_eq_true rfl) rfl rfl dX11_cancels_27 rfl ?_
      rintro z w1 ⟨hz1, hG1, E1⟩
      refine r_i dX11_cancels_30 rfl rfl rfl ?_
      rw [sp_canc, if_pos hcd, ej, if_pos hq23]
      exact ⟨⟨hz1, hG1⟩, E1⟩
  · have hq4 := gn_b0 hq4
    refine g_aload_n (q := 8) dX11_cancels_7 rfl rfl ?_
    refine c_Vi (q := 11) (p_X11_bad hs hG) k_X11_130 (by assumption) rfl (by decide) rfl rfl (Nat.le_of_ble_eq_true rfl) rfl rfl dX11_cancels_8 rfl ?_
    rintro z w1 ⟨hz1, hG1, E1⟩
    refine r_i dX11_cancels_11 rfl rfl rfl ?_
    rw [sp_canc, if_neg (by intro h; first | exact hq4 h)]
    exact ⟨⟨hz1, hG1⟩, E1⟩
