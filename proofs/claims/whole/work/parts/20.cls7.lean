/-! ===== Floor: queues, told, copied, begun anew ===== -/
def a_qa : Nat → Nat → aS → Int32 → Int32
  | 0, _, _, _ => -1
  | k + 1, b, A, w => if l_pl (A.2 (10 + b)) w = -1 then a_qa k (b + 1) A w else nI b
def a_st (n : Nat) (A : aS) (w : Int32) : Nat → Int32 → Int32
  | 0, _ => 0
  | k + 1, z => if a_qa n 0 A z = -1 then 0 else if A.1 (10 + iN (a_qa n 0 A z)) 7 = w then 1 else a_st n A w k (A.1 (10 + iN (a_qa n 0 A z)) 7)
def a_bits (n : Nat) (A : aS) : Nat → Nat → Int32 → Int32
  | 0, _, x => x
  | k + 1, w, x => a_bits n A k (w + 1) (if a_st n A (nI w) 6 (nI w) = 0 then x else x ||| ((1 : Int32) <<< (nI w &&& 31)))
def a_its (A : aS) : Nat → Nat → Int32 → Int32
  | 0, _, x => x
  | k + 1, b, x => a_its A k (b + 1) (x + nI (A.2 b).length)
def a_ens (A : aS) : Nat → Nat → Int32 → Int32
  | 0, _, x => x
  | k + 1, b, x => a_ens A k (b + 1) (x + A.1 b 0)
def a_wt (A : aS) (n : Nat) (t : Int32) (k : Nat) : Int32 := match k with
  | 0 => A.1 40 5
  | 1 => A.1 40 6
  | 2 => t
  | 3 => A.1 40 8
  | 4 => A.1 6 0
  | 5 => A.1 6 3
  | 6 => A.1 6 2
  | 7 => a_its A n 0 0
  | 8 => a_ens A n 0 (A.1 6 0)
  | _ => nI (A.2 20).length
theorem a_qa_lt : ∀ (k b : Nat) (A : aS) (w : Int32), b + k ≤ 6 → a_qa k b A w = -1 ∨ ∃ c, c < 6 ∧ a_qa k b A w = nI c
  | 0, b, A, w, h => Or.inl rfl
  | k + 1, b, A, w, h => by
    unfold a_qa
    split
    · exact a_qa_lt k (b + 1) A w (by omega)
    · exact Or.inr ⟨b, by omega, rfl⟩
theorem a_qa_ltn : ∀ (k b : Nat) (A : aS) (w : Int32), a_qa k b A w = -1 ∨ ∃ c, c < b + k ∧ a_qa k b A w = nI c
  | 0, b, A, w => Or.inl rfl
  | k + 1, b, A, w => by
    unfold a_qa
    split
    · rcases a_qa_ltn k (b + 1) A w with h | ⟨c, hc, e⟩
      · exact Or.inl h
      · exact Or.inr ⟨c, by omega, e⟩
    · exact Or.inr ⟨b, by omega, rfl⟩

set_option maxRecDepth 100000 in
set_option maxHeartbeats 4000000 in
theorem p_X1_queuedAt {X : gj_X} {lim : Nat} {σ : gj_H} {v : gj_V} {f : Nat} {A : aS} {t : Int32} (hs : fsh σ f) (hC : CR v f A t) {n : Nat} (hn : A.1 40 5 = nI n) (hn6 : n ≤ 6) {w : Int32} : gj_E X 1 m_X1_queuedAt [.ref f, .int w] lim σ v (q_i lim σ (fun x v' => x = a_qa n 0 A w ∧ v' = v)) := by
  obtain ⟨sf, sb, ss, sw, sl, sm, hb6, hs6, hw6⟩ := id hs
  have lp : ∀ (k : Nat) (b : Nat), b + k = n → gj_G X 1 m_X1_queuedAt (q_i lim σ (fun x v' => x = a_qa k b A w ∧ v' = v)) lim σ v 0 0 2 [some (.ref f), some (.int w), some (.int (nI b))] [] := by
    intro k
    induction k with
    | zero =>
      intro b hk
      refine g_iload_n (q := 3) dX1_queuedAt_2 rfl rfl ?_
      refine g_aload_n (q := 4) dX1_queuedAt_3 rfl rfl ?_
      refine g_getI (q := 7) f_X1_58 (by assumption) rfl dX1_queuedAt_4 rfl ?_
      refine g_icmpge (t := 35) (q := 10) dX1_queuedAt_7 (by decide) rfl (fun hq7 => ?_) (fun hq7 => ?_)
      · refine g_iconst (q := 36) (x := (-1)) dX1_queuedAt_35 (by decide) rfl ?_
        refine r_i dX1_queuedAt_36 rfl rfl rfl ?_
        exact ⟨rfl, rfl⟩
      · rw [hC.fl 5 (by decide), hn] at hq7
        exact absurd (nI_le (show n ≤ b by omega) (by omega)) hq7
    | succ k ih =>
      intro b hk
      refine g_iload_n (q := 3) dX1_queuedAt_2 rfl rfl ?_
      refine g_aload_n (q := 4) dX1_queuedAt_3 rfl rfl ?_
      refine g_getI (q := 7) f_X1_58 (by assumption) rfl dX1_queuedAt_4 rfl ?_
      refine g_icmpge (t := 35) (q := 10) dX1_queuedAt_7 (by decide) rfl (fun hq7 => ?_) (fun hq7 => ?_)
      · rw [hC.fl 5 (by decide), hn] at hq7
        exact absurd (gn_le hq7 (by omega)) (by omega)
      · refine g_aload_n (q := 11) dX1_queuedAt_10 rfl rfl ?_
        refine g_getR (q := 14) f_X1_11 (by assumption) rfl dX1_queuedAt_11 rfl ?_
        refine g_iload_n (q := 15) dX1_queuedAt_14 rfl rfl ?_
        refine g_aald (q := 16) (by assumption) rfl rfl (ra_at (show b < 6 by omega)) (by simp) dX1_queuedAt_15 rfl ?_
        refine g_getR (q := 19) f_X1_199 (hb6 b (by omega)).1 rfl dX1_queuedAt_16 rfl ?_
        refine g_iload_n (q := 20) dX1_queuedAt_19 rfl rfl ?_
        refine c_Vi (q := 23) (p_X5_placeOf (hb6 b (by omega)).2.2.2 (hC.2.2.1 b (by omega)).2.2.2) k_X1_202 (hb6 b (by omega)).2.2.2.1 rfl (by decide) rfl rfl (Nat.le_of_ble_eq_true rfl) rfl rfl dX1_queuedAt_20 rfl ?_
        rintro x w1 ⟨hxq1, hw1⟩
        subst w1
        refine g_iconst (q := 24) (x := (-1)) dX1_queuedAt_23 (by decide) rfl ?_
        refine g_icmpeq (t := 29) (q := 27) dX1_queuedAt_24 (by decide) rfl (fun hq24 => ?_) (fun hq24 => ?_)
        · rw [hxq1] at hq24
          have hq24 : l_pl (A.2 (10 + b)) w = -1 := hq24
          refine g_iinc (q := 32) (y := nI (b + 1)) dX1_queuedAt_29 rfl (gn_inc b) rfl rfl rfl rfl ?_
          dsimp only [List.set]
          refine g_goto (q := 2) dX1_queuedAt_32 (by decide) ?_
          rw [a_qa, if_pos hq24]
          exact ih (b + 1) (by omega)
        · rw [hxq1] at hq24
          have hq24 : ¬ l_pl (A.2 (10 + b)) w = -1 := hq24
          refine g_iload_n (q := 28) dX1_queuedAt_27 rfl rfl ?_
          refine r_i dX1_queuedAt_28 rfl rfl rfl ?_
          rw [a_qa, if_neg hq24]
          exact ⟨rfl, rfl⟩
  refine gj_E_at (L := [some (.ref f), some (.int w), none]) (k := 1) rfl (by decide) rfl ?_
  refine g_iconst (q := 1) (x := 0) dX1_queuedAt_0 (by decide) rfl ?_
  refine g_istore_n (q := 2) dX1_queuedAt_1 rfl rfl rfl rfl ?_
  dsimp only [List.set]
  exact lp n 0 (by omega)

set_option maxRecDepth 100000 in
set_option maxHeartbeats 4000000 in
theorem p_X1_isStuck {X : gj_X} {lim : Nat} {σ : gj_H} {v : gj_V} {f : Nat} {A : aS} {t : Int32} (hs : fsh σ f) (hC : CR v f A t) {n : Nat} (hn : A.1 40 5 = nI n) (hn6 : n ≤ 6) {w : Int32} : gj_E X 2 m_X1_isStuck [.ref f, .int w] lim σ v (q_i lim σ (fun x v' => x = a_st n A w 6 w ∧ v' = v)) := by
  obtain ⟨sf, sb, ss, sw, sl, sm, hb6, hs6, hw6⟩ := id hs
  have lp : ∀ (k : Nat) (r : Nat) (z : Int32), r + k = 6 → gj_G X 2 m_X1_isStuck (q_i lim σ (fun x v' => x = a_st n A w k z ∧ v' = v)) lim σ v 0 0 4 [some (.ref f), some (.int w), some (.int z), some (.int (nI r)), none] [] := by
    intro k
    induction k with
    | zero =>
      intro r z hk
      refine g_iload_n (q := 5) dX1_isStuck_4 rfl rfl ?_
      refine g_bipush (q := 7) (x := 6) dX1_isStuck_5 (by decide) rfl ?_
      refine g_icmpge (t := 52) (q := 10) dX1_isStuck_7 (by decide) rfl (fun hq7 => ?_) (fun hq7 => ?_)
      · refine g_iconst (q := 53) (x := 0) dX1_isStuck_52 (by decide) rfl ?_
        refine r_z dX1_isStuck_53 rfl rfl rfl (by decide) ?_
        exact ⟨rfl, rfl⟩
      · exact absurd (nI_le (show 6 ≤ r by omega) (by omega)) hq7
    | succ k ih =>
      intro r z hk
      refine g_iload_n (q := 5) dX1_isStuck_4 rfl rfl ?_
      refine g_bipush (q := 7) (x := 6) dX1_isStuck_5 (by decide) rfl ?_
      refine g_icmpge (t := 52) (q := 10) dX1_isStuck_7 (by decide) rfl (fun hq7 => ?_) (fun hq7 => ?_)
      · exact absurd (gn_le (n := 6) hq7 (by decide)) (by omega)
      · refine g_aload_n (q := 11) dX1_isStuck_10 rfl rfl ?_
        refine g_iload_n (q := 12) dX1_isStuck_11 rfl rfl ?_
        refine c_Vi (q := 15) (p_X1_queuedAt hs hC hn hn6) k_X1_208 sf rfl (by decide) rfl rfl (Nat.le_of_ble_eq_true rfl) rfl rfl dX1_isStuck_12 rfl ?_
        rintro x w1 ⟨hxq1, hw1⟩
        subst w1
        rw [hxq1]
        refine g_istore (q := 17) dX1_isStuck_15 rfl rfl rfl rfl ?_
        dsimp only [List.set]
        refine g_aload_n (q := 18) dX1_isStuck_17 rfl rfl ?_
        refine g_iload (q := 20) dX1_isStuck_18 rfl rfl ?_
        refine c_Vi (q := 23) (p_X1_hasBuffer hs hC) k_X1_70 sf rfl (by decide) rfl rfl (Nat.le_of_ble_eq_true rfl) rfl rfl dX1_isStuck_20 rfl ?_
        rintro y w1 ⟨rfl, hw1⟩
        subst w1
        refine g_ifne (t := 28) (q := 26) dX1_isStuck_23 (by decide) rfl (fun hq23 => ?_) (fun hq23 => ?_)
        · have hq23 := gn_b1 hq23
          have hq20 : ¬ a_qa n 0 A z = -1 := fun h => a_has_m1 (by rw [h] at hq23; exact hq23)
          obtain ⟨c, hc, ec⟩ := (a_qa_lt n 0 A z (by omega)).resolve_left hq20
          have ec2 : iN (a_qa n 0 A z) = c := by rw [ec]; exact iN_n (by omega)
          refine g_aload_n (q := 29) dX1_isStuck_28 rfl rfl ?_
          refine g_getR (q := 32) f_X1_11 (by assumption) rfl dX1_isStuck_29 rfl ?_
          refine g_iload (q := 34) dX1_isStuck_32 rfl rfl ?_
          refine g_aald (q := 35) (by assumption) rfl ec (ra_at hc) (by simp) dX1_isStuck_34 rfl ?_
          refine g_getI (q := 38) f_X1_211 (hb6 c hc).1 rfl dX1_isStuck_35 rfl ?_
          rw [(hC.2.2.1 c hc).2.1]
          rw [show (gB A c).2.1 = A.1 (10 + c) from rfl]
          refine g_istore_n (q := 39) dX1_isStuck_38 rfl rfl rfl rfl ?_
          dsimp only [List.set]
          refine g_iload_n (q := 40) dX1_isStuck_39 rfl rfl ?_
          refine g_iload_n (q := 41) dX1_isStuck_40 rfl rfl ?_
          refine g_icmpne (t := 46) (q := 44) dX1_isStuck_41 (by decide) rfl (fun hq41 => ?_) (fun hq41 => ?_)
          · refine g_iinc (q := 49) (y := nI (r + 1)) dX1_isStuck_46 rfl (gn_inc r) rfl rfl rfl rfl ?_
            dsimp only [List.set]
            refine g_goto (q := 4) dX1_isStuck_49 (by decide) ?_
            refine g_wk (L' := [some (.ref f), some (.int w), some (.int (A.1 (10 + c) 7)), some (.int (nI (r + 1))), none]) (by simp [gj_wk]) ?_
            rw [a_st, if_neg hq20, ec2, if_neg hq41]
            exact ih (r + 1) _ (by omega)
          · refine g_iconst (q := 45) (x := 1) dX1_isStuck_44 (by decide) rfl ?_
            refine r_z dX1_isStuck_45 rfl rfl rfl (by decide) ?_
            rw [a_st, if_neg hq20, ec2, if_pos hq41]
            exact ⟨rfl, rfl⟩
        · have hq23 := gn_b0 hq23
          have hq20 : a_qa n 0 A z = -1 := by
            rcases a_qa_ltn n 0 A z with h | ⟨c, hc, ec⟩
            · exact h
            · exact absurd (by rw [ec]; exact a_has_n hn (by omega) (by omega)) hq23
          refine g_iconst (q := 27) (x := 0) dX1_isStuck_26 (by decide) rfl ?_
          refine r_z dX1_isStuck_27 rfl rfl rfl (by decide) ?_
          rw [a_st, if_pos hq20]
          exact ⟨rfl, rfl⟩
  refine gj_E_at (L := [some (.ref f), some (.int w), none, none, none]) (k := 3) rfl (by decide) rfl ?_
  refine g_iload_n (q := 1) dX1_isStuck_0 rfl rfl ?_
  refine g_istore_n (q := 2) dX1_isStuck_1 rfl rfl rfl rfl ?_
  dsimp only [List.set]
  refine g_iconst (q := 3) (x := 0) dX1_isStuck_2 (by decide) rfl ?_
  refine g_istore_n (q := 4) dX1_isStuck_3 rfl rfl rfl rfl ?_
  dsimp only [List.set]
  exact lp 6 0 w (by omega)

set_option maxRecDepth 100000 in
set_option maxHeartbeats 4000000 in
theorem p_X1_stuckBits {X : gj_X} {lim : Nat} {σ : gj_H} {v : gj_V} {f : Nat} {A : aS} {t : Int32} (hs : fsh σ f) (hC : CR v f A t) {n : Nat} (hn : A.1 40 5 = nI n) (hn6 : n ≤ 6) : gj_E X 3 m_X1_stuckBits [.ref f] lim σ v (q_i lim σ (fun x v' => x = a_bits n A 6 0 0 ∧ v' = v)) := by
  obtain ⟨sf, sb, ss, sw, sl, sm, hb6, hs6, hw6⟩ := id hs
  have lp : ∀ (k : Nat) (r : Nat) (a : Int32), r + k = 6 → gj_G X 3 m_X1_stuckBits (q_i lim σ (fun x v' => x = a_bits n A k r a ∧ v' = v)) lim σ v 0 0 4 [some (.ref f), some (.int a), some (.int (nI r))] [] := by
    intro k
    induction k with
    | zero =>
      intro r a hk
      refine g_iload_n (q := 5) dX1_stuckBits_4 rfl rfl ?_
      refine g_bipush (q := 7) (x := 6) dX1_stuckBits_5 (by decide) rfl ?_
      refine g_icmpge (t := 30) (q := 10) dX1_stuckBits_7 (by decide) rfl (fun hq7 => ?_) (fun hq7 => ?_)
      · refine g_iload_n (q := 31) dX1_stuckBits_30 rfl rfl ?_
        refine r_i dX1_stuckBits_31 rfl rfl rfl ?_
        exact ⟨rfl, rfl⟩
      · exact absurd (nI_le (show 6 ≤ r by omega) (by omega)) hq7
    | succ k ih =>
      intro r a hk
      refine g_iload_n (q := 5) dX1_stuckBits_4 rfl rfl ?_
      refine g_bipush (q := 7) (x := 6) dX1_stuckBits_5 (by decide) rfl ?_
      refine g_icmpge (t := 30) (q := 10) dX1_stuckBits_7 (by decide) rfl (fun hq7 => ?_) (fun hq7 => ?_)
      · exact absurd (gn_le (n := 6) hq7 (by decide)) (by omega)
      · refine g_aload_n (q := 11) dX1_stuckBits_10 rfl rfl ?_
        refine g_iload_n (q := 12) dX1_stuckBits_11 rfl rfl ?_
        refine c_Vi (q := 15) (p_X1_isStuck hs hC hn hn6) k_X1_205 sf rfl (by decide) rfl rfl (Nat.le_of_ble_eq_true rfl) rfl rfl dX1_stuckBits_12 rfl ?_
        rintro x w1 ⟨hxq1, hw1⟩
        subst w1
        refine g_ifeq (t := 24) (q := 18) dX1_stuckBits_15 (by decide) rfl (fun hq15 => ?_) (fun hq15 => ?_)
        · rw [hxq1] at hq15
          refine g_iinc (q := 27) (y := nI (r + 1)) dX1_stuckBits_24 rfl (gn_inc r) rfl rfl rfl rfl ?_
          dsimp only [List.set]
          refine g_goto (q := 4) dX1_stuckBits_27 (by decide) ?_
          rw [a_bits]
          first | (rw [if_pos hq15]; exact ih (r + 1) _ (by omega)) | (rw [if_neg hq15]; exact ih (r + 1) _ (by omega))
        · rw [hxq1] at hq15
          refine g_iload_n (q := 19) dX1_stuckBits_18 rfl rfl ?_
          refine g_iconst (q := 20) (x := 1) dX1_stuckBits_19 (by decide) rfl ?_
          refine g_iload_n (q := 21) dX1_stuckBits_20 rfl rfl ?_
          refine g_ishl (q := 22) dX1_stuckBits_21 rfl ?_
          refine g_ior (q := 23) dX1_stuckBits_22 rfl ?_
          refine g_istore_n (q := 24) dX1_stuckBits_23 rfl rfl rfl rfl ?_
          dsimp only [List.set]
          refine g_iinc (q := 27) (y := nI (r + 1)) dX1_stuckBits_24 rfl (gn_inc r) rfl rfl rfl rfl ?_
          dsimp only [List.set]
          refine g_goto (q := 4) dX1_stuckBits_27 (by decide) ?_
          rw [a_bits]
          first | (rw [if_pos hq15]; exact ih (r + 1) _ (by omega)) | (rw [if_neg hq15]; exact ih (r + 1) _ (by omega))
  refine gj_E_at (L := [some (.ref f), none, none]) (k := 2) rfl (by decide) rfl ?_
  refine g_iconst (q := 1) (x := 0) dX1_stuckBits_0 (by decide) rfl ?_
  refine g_istore_n (q := 2) dX1_stuckBits_1 rfl rfl rfl rfl ?_
  dsimp only [List.set]
  refine g_iconst (q := 3) (x := 0) dX1_stuckBits_2 (by decide) rfl ?_
  refine g_istore_n (q := 4) dX1_stuckBits_3 rfl rfl rfl rfl ?_
  dsimp only [List.set]
  exact lp 6 0 0 (by omega)

set_option maxRecDepth 100000 in
set_option maxHeartbeats 4000000 in
theorem p_X1_allItems {X : gj_X} {lim : Nat} {σ : gj_H} {v : gj_V} {f : Nat} {A : aS} {t : Int32} (hs : fsh σ f) (hC : CR v f A t) {n : Nat} (hn : A.1 40 5 = nI n) (hn6 : n ≤ 6) : gj_E X 0 m_X1_allItems [.ref f] lim σ v (q_i lim σ (fun x v' => x = a_its A n 0 0 ∧ v' = v)) := by
  obtain ⟨sf, sb, ss, sw, sl, sm, hb6, hs6, hw6⟩ := id hs
  have lp : ∀ (k : Nat) (b : Nat) (a : Int32), b + k = n → gj_G X 0 m_X1_allItems (q_i lim σ (fun x v' => x = a_its A k b a ∧ v' = v)) lim σ v 0 0 4 [some (.ref f), some (.int a), some (.int (nI b))] [] := by
    intro k
    induction k with
    | zero =>
      intro b a hk
      refine g_iload_n (q := 5) dX1_allItems_4 rfl rfl ?_
      refine g_aload_n (q := 6) dX1_allItems_5 rfl rfl ?_
      refine g_getI (q := 9) f_X1_58 (by assumption) rfl dX1_allItems_6 rfl ?_
      refine g_icmpge (t := 33) (q := 12) dX1_allItems_9 (by decide) rfl (fun hq9 => ?_) (fun hq9 => ?_)
      · refine g_iload_n (q := 34) dX1_allItems_33 rfl rfl ?_
        refine r_i dX1_allItems_34 rfl rfl rfl ?_
        exact ⟨rfl, rfl⟩
      · rw [hC.fl 5 (by decide), hn] at hq9
        exact absurd (nI_le (show n ≤ b by omega) (by omega)) hq9
    | succ k ih =>
      intro b a hk
      refine g_iload_n (q := 5) dX1_allItems_4 rfl rfl ?_
      refine g_aload_n (q := 6) dX1_allItems_5 rfl rfl ?_
      refine g_getI (q := 9) f_X1_58 (by assumption) rfl dX1_allItems_6 rfl ?_
      refine g_icmpge (t := 33) (q := 12) dX1_allItems_9 (by decide) rfl (fun hq9 => ?_) (fun hq9 => ?_)
      · rw [hC.fl 5 (by decide), hn] at hq9
        exact absurd (gn_le hq9 (by omega)) (by omega)
      · refine g_iload_n (q := 13) dX1_allItems_12 rfl rfl ?_
        refine g_aload_n (q := 14) dX1_allItems_13 rfl rfl ?_
        refine g_getR (q := 17) f_X1_11 (by assumption) rfl dX1_allItems_14 rfl ?_
        refine g_iload_n (q := 18) dX1_allItems_17 rfl rfl ?_
        refine g_aald (q := 19) (by assumption) rfl rfl (ra_at (show b < 6 by omega)) (by simp) dX1_allItems_18 rfl ?_
        refine g_getR (q := 22) f_X1_105 (hb6 b (by omega)).1 rfl dX1_allItems_19 rfl ?_
        refine g_getI (q := 25) f_X1_53 (hb6 b (by omega)).2.2.1.1 rfl dX1_allItems_22 rfl ?_
        rw [(hC.2.2.1 b (by omega)).2.2.1.1]
        rw [show (gB A b).2.2.1 = A.2 b from rfl]
        refine g_iadd (q := 26) dX1_allItems_25 rfl ?_
        refine g_istore_n (q := 27) dX1_allItems_26 rfl rfl rfl rfl ?_
        dsimp only [List.set]
        refine g_iinc (q := 30) (y := nI (b + 1)) dX1_allItems_27 rfl (gn_inc b) rfl rfl rfl rfl ?_
        dsimp only [List.set]
        refine g_goto (q := 4) dX1_allItems_30 (by decide) ?_
        rw [a_its]
        exact ih (b + 1) _ (by omega)
  refine gj_E_at (L := [some (.ref f), none, none]) (k := 2) rfl (by decide) rfl ?_
  refine g_iconst (q := 1) (x := 0) dX1_allItems_0 (by decide) rfl ?_
  refine g_istore_n (q := 2) dX1_allItems_1 rfl rfl rfl rfl ?_
  dsimp only [List.set]
  refine g_iconst (q := 3) (x := 0) dX1_allItems_2 (by decide) rfl ?_
  refine g_istore_n (q := 4) dX1_allItems_3 rfl rfl rfl rfl ?_
  dsimp only [List.set]
  exact lp n 0 0 (by omega)

set_option maxRecDepth 100000 in
set_option maxHeartbeats 4000000 in
theorem p_X1_allEntries {X : gj_X} {lim : Nat} {σ : gj_H} {v : gj_V} {f : Nat} {A : aS} {t : Int32} (hs : fsh σ f) (hC : CR v f A t) {n : Nat} (hn : A.1 40 5 = nI n) (hn6 : n ≤ 6) : gj_E X 0 m_X1_allEntries [.ref f] lim σ v (q_i lim σ (fun x v' => x = a_ens A n 0 (A.1 6 0) ∧ v' = v)) := by
  obtain ⟨sf, sb, ss, sw, sl, sm, hb6, hs6, hw6⟩ := id hs
  have lp : ∀ (k : Nat) (b : Nat) (a : Int32), b + k = n → gj_G X 0 m_X1_allEntries (q_i lim σ (fun x v' => x = a_ens A k b a ∧ v' = v)) lim σ v 0 0 10 [some (.ref f), some (.int a), some (.int (nI b))] [] := by
    intro k
    induction k with
    | zero =>
      intro b a hk
      refine g_iload_n (q := 11) dX1_allEntries_10 rfl rfl ?_
      refine g_aload_n (q := 12) dX1_allEntries_11 rfl rfl ?_
      refine g_getI (q := 15) f_X1_58 (by assumption) rfl dX1_allEntries_12 rfl ?_
      refine g_icmpge (t := 39) (q := 18) dX1_allEntries_15 (by decide) rfl (fun hq15 => ?_) (fun hq15 => ?_)
      · refine g_iload_n (q := 40) dX1_allEntries_39 rfl rfl ?_
        refine r_i dX1_allEntries_40 rfl rfl rfl ?_
        exact ⟨rfl, rfl⟩
      · rw [hC.fl 5 (by decide), hn] at hq15
        exact absurd (nI_le (show n ≤ b by omega) (by omega)) hq15
    | succ k ih =>
      intro b a hk
      refine g_iload_n (q := 11) dX1_allEntries_10 rfl rfl ?_
      refine g_aload_n (q := 12) dX1_allEntries_11 rfl rfl ?_
      refine g_getI (q := 15) f_X1_58 (by assumption) rfl dX1_allEntries_12 rfl ?_
      refine g_icmpge (t := 39) (q := 18) dX1_allEntries_15 (by decide) rfl (fun hq15 => ?_) (fun hq15 => ?_)
      · rw [hC.fl 5 (by decide), hn] at hq15
        exact absurd (gn_le hq15 (by omega)) (by omega)
      · refine g_iload_n (q := 19) dX1_allEntries_18 rfl rfl ?_
        refine g_aload_n (q := 20) dX1_allEntries_19 rfl rfl ?_
        refine g_getR (q := 23) f_X1_11 (by assumption) rfl dX1_allEntries_20 rfl ?_
        refine g_iload_n (q := 24) dX1_allEntries_23 rfl rfl ?_
        refine g_aald (q := 25) (by assumption) rfl rfl (ra_at (show b < 6 by omega)) (by simp) dX1_allEntries_24 rfl ?_
        refine g_getR (q := 28) f_X1_80 (hb6 b (by omega)).1 rfl dX1_allEntries_25 rfl ?_
        refine g_getI (q := 31) f_X1_214 (hb6 b (by omega)).2.1 rfl dX1_allEntries_28 rfl ?_
        rw [hC.gv (show b < 6 by omega)]
        refine g_iadd (q := 32) dX1_allEntries_31 rfl ?_
        refine g_istore_n (q := 33) dX1_allEntries_32 rfl rfl rfl rfl ?_
        dsimp only [List.set]
        refine g_iinc (q := 36) (y := nI (b + 1)) dX1_allEntries_33 rfl (gn_inc b) rfl rfl rfl rfl ?_
        dsimp only [List.set]
        refine g_goto (q := 10) dX1_allEntries_36 (by decide) ?_
        rw [a_ens]
        exact ih (b + 1) _ (by omega)
  refine gj_E_at (L := [some (.ref f), none, none]) (k := 2) rfl (by decide) rfl ?_
  refine g_aload_n (q := 1) dX1_allEntries_0 rfl rfl ?_
  refine g_getR (q := 4) f_X1_39 (by assumption) rfl dX1_allEntries_1 rfl ?_
  refine g_getI (q := 7) f_X1_214 (by assumption) rfl dX1_allEntries_4 rfl ?_
  rw [hC.2.1]
  refine g_istore_n (q := 8) dX1_allEntries_7 rfl rfl rfl rfl ?_
  dsimp only [List.set]
  refine g_iconst (q := 9) (x := 0) dX1_allEntries_8 (by decide) rfl ?_
  refine g_istore_n (q := 10) dX1_allEntries_9 rfl rfl rfl rfl ?_
  dsimp only [List.set]
  exact lp n 0 _ (by omega)

set_option maxRecDepth 100000 in
set_option maxHeartbeats 4000000 in
theorem p_X1_worksTold {X : gj_X} {lim : Nat} {σ : gj_H} {v : gj_V} {f : Nat} {A : aS} {t : Int32} (hs : fsh σ f) (hC : CR v f A t) {n : Nat} (hn : A.1 40 5 = nI n) (hn6 : n ≤ 6) {k : Nat} (hk : k < 10) : gj_E X 1 m_X1_worksTold [.ref f, .int (nI k)] lim σ v (q_i lim σ (fun x v' => x = a_wt A n t k ∧ v' = v)) := by
  obtain ⟨sf, sb, ss, sw, sl, sm, hb6, hs6, hw6⟩ := id hs
  refine gj_E_at (L := [some (.ref f), some (.int (nI k))]) (k := 0) rfl (by decide) rfl ?_
  rcases (show k = 0 ∨ k = 1 ∨ k = 2 ∨ k = 3 ∨ k = 4 ∨ k = 5 ∨ k = 6 ∨ k = 7 ∨ k = 8 ∨ k = 9 by omega) with rfl | rfl | rfl | rfl | rfl | rfl | rfl | rfl | rfl | rfl
  · refine g_iload_n (q := 1) dX1_worksTold_0 rfl rfl ?_
    refine g_tableIn (t := 52) (o := 51) dX1_worksTold_1 (by decide) (by decide) (by decide) (by decide) ?_
    refine g_aload_n (q := 53) dX1_worksTold_52 rfl rfl ?_
    refine g_getI (q := 56) f_X1_58 (by assumption) rfl dX1_worksTold_53 rfl ?_
    refine r_i dX1_worksTold_56 rfl rfl rfl ?_
    exact ⟨hC.fl 5 (by decide), rfl⟩
  · refine g_iload_n (q := 1) dX1_worksTold_0 rfl rfl ?_
    refine g_tableIn (t := 57) (o := 56) dX1_worksTold_1 (by decide) (by decide) (by decide) (by decide) ?_
    refine g_aload_n (q := 58) dX1_worksTold_57 rfl rfl ?_
    refine g_getI (q := 61) f_X1_61 (by assumption) rfl dX1_worksTold_58 rfl ?_
    refine r_i dX1_worksTold_61 rfl rfl rfl ?_
    exact ⟨hC.fl 6 (by decide), rfl⟩
  · refine g_iload_n (q := 1) dX1_worksTold_0 rfl rfl ?_
    refine g_tableIn (t := 62) (o := 61) dX1_worksTold_1 (by decide) (by decide) (by decide) (by decide) ?_
    refine g_aload_n (q := 63) dX1_worksTold_62 rfl rfl ?_
    refine g_getI (q := 66) f_X1_64 (by assumption) rfl dX1_worksTold_63 rfl ?_
    refine r_i dX1_worksTold_66 rfl rfl rfl ?_
    exact ⟨(show v f 7 = t by rw [hC.1, ud_s]), rfl⟩
  · refine g_iload_n (q := 1) dX1_worksTold_0 rfl rfl ?_
    refine g_tableIn (t := 67) (o := 66) dX1_worksTold_1 (by decide) (by decide) (by decide) (by decide) ?_
    refine g_aload_n (q := 68) dX1_worksTold_67 rfl rfl ?_
    refine g_getI (q := 71) f_X1_67 (by assumption) rfl dX1_worksTold_68 rfl ?_
    refine r_i dX1_worksTold_71 rfl rfl rfl ?_
    exact ⟨hC.fl 8 (by decide), rfl⟩
  · refine g_iload_n (q := 1) dX1_worksTold_0 rfl rfl ?_
    refine g_tableIn (t := 72) (o := 71) dX1_worksTold_1 (by decide) (by decide) (by decide) (by decide) ?_
    refine g_aload_n (q := 73) dX1_worksTold_72 rfl rfl ?_
    refine g_getR (q := 76) f_X1_39 (by assumption) rfl dX1_worksTold_73 rfl ?_
    refine g_getI (q := 79) f_X1_214 (by assumption) rfl dX1_worksTold_76 rfl ?_
    refine r_i dX1_worksTold_79 rfl rfl rfl ?_
    exact ⟨congrFun hC.2.1 _, rfl⟩
  · refine g_iload_n (q := 1) dX1_worksTold_0 rfl rfl ?_
    refine g_tableIn (t := 80) (o := 79) dX1_worksTold_1 (by decide) (by decide) (by decide) (by decide) ?_
    refine g_aload_n (q := 81) dX1_worksTold_80 rfl rfl ?_
    refine g_getR (q := 84) f_X1_39 (by assumption) rfl dX1_worksTold_81 rfl ?_
    refine g_getI (q := 87) f_X1_217 (by assumption) rfl dX1_worksTold_84 rfl ?_
    refine r_i dX1_worksTold_87 rfl rfl rfl ?_
    exact ⟨congrFun hC.2.1 _, rfl⟩
  · refine g_iload_n (q := 1) dX1_worksTold_0 rfl rfl ?_
    refine g_tableIn (t := 88) (o := 87) dX1_worksTold_1 (by decide) (by decide) (by decide) (by decide) ?_
    refine g_aload_n (q := 89) dX1_worksTold_88 rfl rfl ?_
    refine g_getR (q := 92) f_X1_39 (by assumption) rfl dX1_worksTold_89 rfl ?_
    refine g_getI (q := 95) f_X1_220 (by assumption) rfl dX1_worksTold_92 rfl ?_
    refine r_i dX1_worksTold_95 rfl rfl rfl ?_
    exact ⟨congrFun hC.2.1 _, rfl⟩
  · refine g_iload_n (q := 1) dX1_worksTold_0 rfl rfl ?_
    refine g_tableIn (t := 96) (o := 95) dX1_worksTold_1 (by decide) (by decide) (by decide) (by decide) ?_
    refine g_aload_n (q := 97) dX1_worksTold_96 rfl rfl ?_
    refine c_Vi (q := 100) (p_X1_allItems hs hC hn hn6) k_X1_223 sf rfl (by decide) rfl rfl (Nat.le_of_ble_eq_true rfl) rfl rfl dX1_worksTold_97 rfl ?_
    rintro x w1 ⟨hxq1, hw1⟩
    subst w1
    refine r_i dX1_worksTold_100 rfl rfl rfl ?_
    exact ⟨hxq1, rfl⟩
  · refine g_iload_n (q := 1) dX1_worksTold_0 rfl rfl ?_
    refine g_tableIn (t := 101) (o := 100) dX1_worksTold_1 (by decide) (by decide) (by decide) (by decide) ?_
    refine g_aload_n (q := 102) dX1_worksTold_101 rfl rfl ?_
    refine c_Vi (q := 105) (p_X1_allEntries hs hC hn hn6) k_X1_226 sf rfl (by decide) rfl rfl (Nat.le_of_ble_eq_true rfl) rfl rfl dX1_worksTold_102 rfl ?_
    rintro x w1 ⟨hxq1, hw1⟩
    subst w1
    refine r_i dX1_worksTold_105 rfl rfl rfl ?_
    exact ⟨hxq1, rfl⟩
  · refine g_iload_n (q := 1) dX1_worksTold_0 rfl rfl ?_
    refine g_tableOut (t := 106) dX1_worksTold_1 (by decide) (by decide) ?_
    refine g_aload_n (q := 107) dX1_worksTold_106 rfl rfl ?_
    refine g_getR (q := 110) f_X1_32 (by assumption) rfl dX1_worksTold_107 rfl ?_
    refine g_getI (q := 113) f_X1_53 sl.1 rfl dX1_worksTold_110 rfl ?_
    refine r_i dX1_worksTold_113 rfl rfl rfl ?_
    exact ⟨hC.2.2.2.2.2.1, rfl⟩

/-- two values that agree where it counts -/
def agb (c : Nat) (C A : aS) : Prop := (∀ k, k < 4 → A.1 c k = C.1 c k) ∧ (∀ k, 3 ≤ k → k < 9 → A.1 (10 + c) k = C.1 (10 + c) k) ∧ A.2 c = C.2 c ∧ A.2 (10 + c) = C.2 (10 + c)
def ags (s : Nat) (C A : aS) : Prop := ∀ k, k < 12 → A.1 (20 + s) k = C.1 (20 + s) k
def agw (w : Nat) (C A : aS) : Prop := ∀ k, k < 4 → A.1 (30 + w) k = C.1 (30 + w) k
def agr (C A : aS) : Prop := (∀ c, c < 6 → agb c C A) ∧ (∀ s, s < 6 → ags s C A) ∧ (∀ w, w < 6 → agw w C A) ∧ (∀ k, k < 4 → A.1 6 k = C.1 6 k) ∧ A.1 40 5 = C.1 40 5 ∧ A.1 40 6 = C.1 40 6 ∧ A.1 40 8 = C.1 40 8 ∧ A.2 20 = C.2 20
theorem agb_s {A C : aS} {b : Nat} (hb : b < 6) : agb b C (sB A b (b_cp (gB A b) (gB C b))) := by
  have e := gB_s A b (b_cp (gB A b) (gB C b)) hb
  have e1 : (sB A b (b_cp (gB A b) (gB C b))).1 b = ag_cp 4 (A.1 b) (C.1 b) := congrArg Prod.fst e
  have e2 : (sB A b (b_cp (gB A b) (gB C b))).1 (10 + b) = (b_cp (gB A b) (gB C b)).2.1 := congrArg (fun z => z.2.1) e
  refine ⟨fun k hk => ?_, fun k h1 h2 => ?_, congrArg (fun z => z.2.2.1) e, congrArg (fun z => z.2.2.2) e⟩
  · rw [e1, ag_cp, if_pos hk]
  · rw [e2]
    show upd (upd (upd (upd (upd (upd (A.1 (10 + b)) 3 (C.1 (10 + b) 3)) 4 (C.1 (10 + b) 4)) 5 (C.1 (10 + b) 5)) 6 (C.1 (10 + b) 6)) 7 (C.1 (10 + b) 7)) 8 (C.1 (10 + b) 8) k = _
    rcases (show k = 3 ∨ k = 4 ∨ k = 5 ∨ k = 6 ∨ k = 7 ∨ k = 8 by omega) with rfl | rfl | rfl | rfl | rfl | rfl <;> simp [upd]
theorem agb_n {A C : aS} {b c : Nat} {B : bS} (hb : b < 6) (hc : c < 6) (h : agb c C A) (hne : c ≠ b) : agb c C (sB A b B) := by
  unfold agb at *
  rw [sB_r _ _ _ _ hne (by omega), sB_r _ _ _ _ (by omega) (by omega), sB_l _ _ _ _ hne (by omega), sB_l _ _ _ _ (by omega) (by omega)]
  exact h
theorem agb_R {A C : aS} {i c : Nat} {f : Nat → Int32} (h : agb c C A) (h1 : i ≠ c) (h2 : i ≠ 10 + c) : agb c C (sR A i f) := by
  unfold agb at *
  simp only [sR]
  rw [vu_n _ _ (Ne.symm h1), vu_n _ _ (Ne.symm h2)]
  exact h
theorem agb_L {A C : aS} {i c : Nat} {l : List Int32} (h : agb c C A) (h1 : i ≠ c) (h2 : i ≠ 10 + c) : agb c C (sL A i l) := by
  unfold agb at *
  simp only [sL]
  rw [vu_n _ _ (Ne.symm h1), vu_n _ _ (Ne.symm h2)]
  exact h

set_option maxRecDepth 100000 in
set_option maxHeartbeats 4000000 in
theorem p_X1_copyFrom {X : gj_X} {lim : Nat} {σ : gj_H} {v : gj_V} {f : Nat} {A : aS} {t : Int32} (hs : fsh σ f) (hC : CR v f A t) {g : Nat} {C : aS} {u : Int32} (hz : fsh σ g) (hD : CR v g C u) (hne : g + 55 ≤ f ∨ f + 55 ≤ g) : gj_E X 2 m_X1_copyFrom [.ref f, .ref g] lim σ v (q_v lim σ (fun v' => (∃ A', agr C A' ∧ CR v' f A' u) ∧ fr v v' f (f + 55))) := by
  obtain ⟨sf, sb, ss, sw, sl, sm, hb6, hs6, hw6⟩ := id hs
  obtain ⟨zf, zb, zs, zw, zl, zm, zb6, zs6, zw6⟩ := id hz
  have tl : ∀ (D : aS) (w : gj_V), CR w f D t → fr v w f (f + 55) → ((∀ c, c < 6 → agb c C D) ∧ (∀ s, s < 6 → ags s C D) ∧ ∀ z, z < 6 → agw z C D) → gj_G X 2 m_X1_copyFrom (q_v lim σ (fun v' => (∃ A', agr C A' ∧ CR v' f A' u) ∧ fr v v' f (f + 55))) lim σ w 0 0 87 [some (.ref f), some (.ref g), none] [] := by
    intro D w hCw Gw hI
    have hDw : CR w g C u := hD.keep (fun a hq1 hq2 => Gw a (by omega))
    refine g_aload_n (q := 88) dX1_copyFrom_87 rfl rfl ?_
    refine g_getR (q := 91) f_X1_32 (by assumption) rfl dX1_copyFrom_88 rfl ?_
    refine g_aload_n (q := 92) dX1_copyFrom_91 rfl rfl ?_
    refine g_getR (q := 95) f_X1_32 (by assumption) rfl dX1_copyFrom_92 rfl ?_
    refine c_Vv (q := 98) (p_X5_copyFrom sl zl hDw.2.2.2.2.2 ⟨by omega, by omega, by omega⟩) k_X1_239 sl.1 rfl (by decide) rfl rfl (Nat.le_of_ble_eq_true rfl) rfl rfl dX1_copyFrom_95 rfl ?_
    rintro w1 ⟨hrq1, hfq1⟩
    have hCq1 := hCw.line hrq1 hfq1
    have G1 : fr v w1 f (f + 55) := Gw.tr (hfq1.fr (by omega) (by omega))
    have hD1 : CR w1 g C u := hD.keep (fun a hq1 hq2 => G1 a (by omega))
    refine g_aload_n (q := 99) dX1_copyFrom_98 rfl rfl ?_
    refine g_getR (q := 102) f_X1_39 (by assumption) rfl dX1_copyFrom_99 rfl ?_
    refine g_aload_n (q := 103) dX1_copyFrom_102 rfl rfl ?_
    refine g_getR (q := 106) f_X1_39 (by assumption) rfl dX1_copyFrom_103 rfl ?_
    refine c_Vv (q := 109) (p_X2_copyFrom sm zm (by omega)) k_X1_242 sm rfl (by decide) rfl rfl (Nat.le_of_ble_eq_true rfl) rfl rfl dX1_copyFrom_106 rfl ?_
    rintro w2 hw2
    rw [hCq1.2.1, hD1.2.1] at hw2
    have hCq2 := hCq1.mas (ag_cp 4 ((sL D 20 (C.2 20)).1 6) (C.1 6))
    rw [← hw2] at hCq2
    have G2 : fr v w2 f (f + 55) := by rw [hw2]; exact G1.tr (fr.up (by omega) (by omega))
    have hD2 : CR w2 g C u := hD.keep (fun a hq1 hq2 => G2 a (by omega))
    generalize eE : sR (sL D 20 (C.2 20)) 6 (ag_cp 4 ((sL D 20 (C.2 20)).1 6) (C.1 6)) = E at hCq2
    refine g_aload_n (q := 110) dX1_copyFrom_109 rfl rfl ?_
    refine g_aload_n (q := 111) dX1_copyFrom_110 rfl rfl ?_
    refine g_getI (q := 114) f_X1_58 zf rfl dX1_copyFrom_111 rfl ?_
    refine g_putI (q := 117) f_X1_58 (by assumption) rfl rfl rfl dX1_copyFrom_114 rfl ?_
    refine g_gen (fun w3 hw3 => ?_)
    rw [hD2.fl 5 (by decide)] at hw3
    have hCq3 := hCq2.flo (k := 5) (x := C.1 40 5) (by decide)
    rw [← hw3] at hCq3
    have G3 : fr v w3 f (f + 55) := by rw [hw3]; exact G2.tr (fr.up2 (by omega) (by omega))
    have hD3 : CR w3 g C u := hD.keep (fun a hq1 hq2 => G3 a (by omega))
    refine g_aload_n (q := 118) dX1_copyFrom_117 rfl rfl ?_
    refine g_aload_n (q := 119) dX1_copyFrom_118 rfl rfl ?_
    refine g_getI (q := 122) f_X1_61 zf rfl dX1_copyFrom_119 rfl ?_
    refine g_putI (q := 125) f_X1_61 (by assumption) rfl rfl rfl dX1_copyFrom_122 rfl ?_
    refine g_gen (fun w4 hw4 => ?_)
    rw [hD3.fl 6 (by decide)] at hw4
    have hCq4 := hCq3.flo (k := 6) (x := C.1 40 6) (by decide)
    rw [← hw4] at hCq4
    have G4 : fr v w4 f (f + 55) := by rw [hw4]; exact G3.tr (fr.up2 (by omega) (by omega))
    have hD4 : CR w4 g C u := hD.keep (fun a hq1 hq2 => G4 a (by omega))
    refine g_aload_n (q := 126) dX1_copyFrom_125 rfl rfl ?_
    refine g_aload_n (q := 127) dX1_copyFrom_126 rfl rfl ?_
    refine g_getI (q := 130) f_X1_64 zf rfl dX1_copyFrom_127 rfl ?_
    refine g_putI (q := 133) f_X1_64 (by assumption) rfl rfl rfl dX1_copyFrom_130 rfl ?_
    refine g_gen (fun w5 hw5 => ?_)
    rw [show w4 g 7 = u from by rw [hD4.1, ud_s]] at hw5
    have hCq5 := hCq4.tick (x := u)
    rw [← hw5] at hCq5
    have G5 : fr v w5 f (f + 55) := by rw [hw5]; exact G4.tr (fr.up2 (by omega) (by omega))
    have hD5 : CR w5 g C u := hD.keep (fun a hq1 hq2 => G5 a (by omega))
    refine g_aload_n (q := 134) dX1_copyFrom_133 rfl rfl ?_
    refine g_aload_n (q := 135) dX1_copyFrom_134 rfl rfl ?_
    refine g_getI (q := 138) f_X1_67 zf rfl dX1_copyFrom_135 rfl ?_
    refine g_putI (q := 141) f_X1_67 (by assumption) rfl rfl rfl dX1_copyFrom_138 rfl ?_
    refine g_gen (fun w6 hw6x => ?_)
    rw [hD5.fl 8 (by decide)] at hw6x
    have hCq6 := hCq5.flo (k := 8) (x := C.1 40 8) (by decide)
    rw [← hw6x] at hCq6
    have G6 : fr v w6 f (f + 55) := by rw [hw6x]; exact G5.tr (fr.up2 (by omega) (by omega))
    refine r_v dX1_copyFrom_141 rfl rfl rfl ?_
    refine ⟨⟨_, ?_, hCq6⟩, G6⟩
    subst eE
    refine ⟨fun c hc => ?_, fun s hs => ?_, fun w hw => ?_, fun k hk => ?_, ?_, ?_, ?_, ?_⟩
    · refine agb_R (agb_R (agb_R (agb_R (agb_L (hI.1 c hc) ?_ ?_) ?_ ?_) ?_ ?_) ?_ ?_) ?_ ?_ <;> omega
    · intro k hk
      simp only [sR, sL]
      rw [vu_n _ _ (by omega), vu_n _ _ (by omega), vu_n _ _ (by omega), vu_n _ _ (by omega)]
      exact hI.2.1 s hs k hk
    · intro k hk
      simp only [sR, sL]
      rw [vu_n _ _ (by omega), vu_n _ _ (by omega), vu_n _ _ (by omega), vu_n _ _ (by omega)]
      exact hI.2.2 w hw k hk
    · simp only [sR, sL]
      rw [vu_n _ _ (by omega), vu_n _ _ (by omega), vu_n _ _ (by omega), vu_s, ag_cp, if_pos hk]
    · simp [sR, sL, vu_s, upd]
    · simp [sR, sL, vu_s, upd]
    · simp [sR, sL, vu_s, upd]
    · simp [sR, sL, vu_s]
  have l3 : ∀ (k : Nat) (b : Nat) (D : aS) (w : gj_V), CR w f D t → fr v w f (f + 55) → ((∀ c, c < 6 → agb c C D) ∧ (∀ s, s < 6 → ags s C D) ∧ ∀ z, z < b → agw z C D) → b + k = 6 → gj_G X 2 m_X1_copyFrom (q_v lim σ (fun v' => (∃ A', agr C A' ∧ CR v' f A' u) ∧ fr v v' f (f + 55))) lim σ w 0 0 60 [some (.ref f), some (.ref g), some (.int (nI b))] [] := by
    intro k
    induction k with
    | zero =>
      intro b D w hCw Gw hI hk
      refine g_iload_n (q := 61) dX1_copyFrom_60 rfl rfl ?_
      refine g_bipush (q := 63) (x := 6) dX1_copyFrom_61 (by decide) rfl ?_
      refine g_icmpge (t := 87) (q := 66) dX1_copyFrom_63 (by decide) rfl (fun hq63 => ?_) (fun hq63 => ?_)
      · refine g_wk (L' := [some (.ref f), some (.ref g), none]) (by simp [gj_wk]) ?_
        exact tl D w hCw Gw ⟨hI.1, hI.2.1, fun z hz => hI.2.2 z (by omega)⟩
      · exact absurd (nI_le (show 6 ≤ b by omega) (by omega)) hq63
    | succ k ih =>
      intro b D w hCw Gw hI hk
      have hDw : CR w g C u := hD.keep (fun a hq1 hq2 => Gw a (by omega))
      refine g_iload_n (q := 61) dX1_copyFrom_60 rfl rfl ?_
      refine g_bipush (q := 63) (x := 6) dX1_copyFrom_61 (by decide) rfl ?_
      refine g_icmpge (t := 87) (q := 66) dX1_copyFrom_63 (by decide) rfl (fun hq63 => ?_) (fun hq63 => ?_)
      · exact absurd (gn_le (n := 6) hq63 (by decide)) (by omega)
      · refine g_aload_n (q := 67) dX1_copyFrom_66 rfl rfl ?_
        refine g_getR (q := 70) f_X1_25 (by assumption) rfl dX1_copyFrom_67 rfl ?_
        refine g_iload_n (q := 71) dX1_copyFrom_70 rfl rfl ?_
        refine g_aald (q := 72) (by assumption) rfl rfl (ra_at (show b < 6 by omega)) (by simp) dX1_copyFrom_71 rfl ?_
        refine g_aload_n (q := 73) dX1_copyFrom_72 rfl rfl ?_
        refine g_getR (q := 76) f_X1_25 (by assumption) rfl dX1_copyFrom_73 rfl ?_
        refine g_iload_n (q := 77) dX1_copyFrom_76 rfl rfl ?_
        refine g_aald (q := 78) (by assumption) rfl rfl (ra_at (show b < 6 by omega)) (by simp) dX1_copyFrom_77 rfl ?_
        refine c_Vv (q := 81) (p_X9_copyFrom (hw6 b (by omega)) (zw6 b (by omega)) (by omega)) k_X1_236 (hw6 b (by omega)) rfl (by decide) rfl rfl (Nat.le_of_ble_eq_true rfl) rfl rfl dX1_copyFrom_78 rfl ?_
        rintro w1 hw1
        rw [hCw.2.2.2.2.1 b (by omega), hDw.2.2.2.2.1 b (by omega)] at hw1
        have hCq1 := hCw.work (show b < 6 by omega) (ag_cp 4 (D.1 (30 + b)) (C.1 (30 + b)))
        rw [← hw1] at hCq1
        have G1 : fr v w1 f (f + 55) := by rw [hw1]; exact Gw.tr (fr.up (by omega) (by omega))
        refine g_iinc (q := 84) (y := nI (b + 1)) dX1_copyFrom_81 rfl (gn_inc b) rfl rfl rfl rfl ?_
        dsimp only [List.set]
        refine g_goto (q := 60) dX1_copyFrom_84 (by decide) ?_
        refine ih (b + 1) _ w1 hCq1 G1 ⟨fun c hc => agb_R (hI.1 c hc) (by omega) (by omega), fun s hs k hk => ?_, fun z hz kk hkk => ?_⟩ (by omega)
        · simp only [sR]; rw [vu_n _ _ (by omega)]; exact hI.2.1 s hs k hk
        · simp only [sR]
          by_cases e : z = b
          · subst e; rw [vu_s, ag_cp, if_pos hkk]
          · rw [vu_n _ _ (by omega)]; exact hI.2.2 z (by omega) kk hkk
  have l2 : ∀ (k : Nat) (b : Nat) (D : aS) (w : gj_V), CR w f D t → fr v w f (f + 55) → ((∀ c, c < 6 → agb c C D) ∧ (∀ s, s < b → ags s C D)) → b + k = 6 → gj_G X 2 m_X1_copyFrom (q_v lim σ (fun v' => (∃ A', agr C A' ∧ CR v' f A' u) ∧ fr v v' f (f + 55))) lim σ w 0 0 31 [some (.ref f), some (.ref g), some (.int (nI b))] [] := by
    intro k
    induction k with
    | zero =>
      intro b D w hCw Gw hI hk
      refine g_iload_n (q := 32) dX1_copyFrom_31 rfl rfl ?_
      refine g_bipush (q := 34) (x := 6) dX1_copyFrom_32 (by decide) rfl ?_
      refine g_icmpge (t := 58) (q := 37) dX1_copyFrom_34 (by decide) rfl (fun hq34 => ?_) (fun hq34 => ?_)
      · refine g_iconst (q := 59) (x := 0) dX1_copyFrom_58 (by decide) rfl ?_
        refine g_istore_n (q := 60) dX1_copyFrom_59 rfl rfl rfl rfl ?_
        dsimp only [List.set]
        exact l3 6 0 D w hCw Gw ⟨hI.1, fun s hs => hI.2 s (by omega), fun z hz => by omega⟩ (by omega)
      · exact absurd (nI_le (show 6 ≤ b by omega) (by omega)) hq34
    | succ k ih =>
      intro b D w hCw Gw hI hk
      have hDw : CR w g C u := hD.keep (fun a hq1 hq2 => Gw a (by omega))
      refine g_iload_n (q := 32) dX1_copyFrom_31 rfl rfl ?_
      refine g_bipush (q := 34) (x := 6) dX1_copyFrom_32 (by decide) rfl ?_
      refine g_icmpge (t := 58) (q := 37) dX1_copyFrom_34 (by decide) rfl (fun hq34 => ?_) (fun hq34 => ?_)
      · exact absurd (gn_le (n := 6) hq34 (by decide)) (by omega)
      · refine g_aload_n (q := 38) dX1_copyFrom_37 rfl rfl ?_
        refine g_getR (q := 41) f_X1_19 (by assumption) rfl dX1_copyFrom_38 rfl ?_
        refine g_iload_n (q := 42) dX1_copyFrom_41 rfl rfl ?_
        refine g_aald (q := 43) (by assumption) rfl rfl (ra_at (show b < 6 by omega)) (by simp) dX1_copyFrom_42 rfl ?_
        refine g_aload_n (q := 44) dX1_copyFrom_43 rfl rfl ?_
        refine g_getR (q := 47) f_X1_19 (by assumption) rfl dX1_copyFrom_44 rfl ?_
        refine g_iload_n (q := 48) dX1_copyFrom_47 rfl rfl ?_
        refine g_aald (q := 49) (by assumption) rfl rfl (ra_at (show b < 6 by omega)) (by simp) dX1_copyFrom_48 rfl ?_
        refine c_Vv (q := 52) (p_X7_copyFrom (hs6 b (by omega)) (zs6 b (by omega)) (by omega)) k_X1_233 (hs6 b (by omega)) rfl (by decide) rfl rfl (Nat.le_of_ble_eq_true rfl) rfl rfl dX1_copyFrom_49 rfl ?_
        rintro w1 hw1
        rw [hCw.2.2.2.1 b (by omega), hDw.2.2.2.1 b (by omega)] at hw1
        have hCq1 := hCw.stat (show b < 6 by omega) (ag_cp 12 (D.1 (20 + b)) (C.1 (20 + b)))
        rw [← hw1] at hCq1
        have G1 : fr v w1 f (f + 55) := by rw [hw1]; exact Gw.tr (fr.up (by omega) (by omega))
        refine g_iinc (q := 55) (y := nI (b + 1)) dX1_copyFrom_52 rfl (gn_inc b) rfl rfl rfl rfl ?_
        dsimp only [List.set]
        refine g_goto (q := 31) dX1_copyFrom_55 (by decide) ?_
        refine ih (b + 1) _ w1 hCq1 G1 ⟨fun c hc => agb_R (hI.1 c hc) (by omega) (by omega), fun z hz kk hkk => ?_⟩ (by omega)
        · simp only [sR]
          by_cases e : z = b
          · subst e; rw [vu_s, ag_cp, if_pos hkk]
          · rw [vu_n _ _ (by omega)]; exact hI.2 z (by omega) kk hkk
  have l1 : ∀ (k : Nat) (b : Nat) (D : aS) (w : gj_V), CR w f D t → fr v w f (f + 55) → (∀ c, c < b → agb c C D) → b + k = 6 → gj_G X 2 m_X1_copyFrom (q_v lim σ (fun v' => (∃ A', agr C A' ∧ CR v' f A' u) ∧ fr v v' f (f + 55))) lim σ w 0 0 2 [some (.ref f), some (.ref g), some (.int (nI b))] [] := by
    intro k
    induction k with
    | zero =>
      intro b D w hCw Gw hI hk
      refine g_iload_n (q := 3) dX1_copyFrom_2 rfl rfl ?_
      refine g_bipush (q := 5) (x := 6) dX1_copyFrom_3 (by decide) rfl ?_
      refine g_icmpge (t := 29) (q := 8) dX1_copyFrom_5 (by decide) rfl (fun hq5 => ?_) (fun hq5 => ?_)
      · refine g_iconst (q := 30) (x := 0) dX1_copyFrom_29 (by decide) rfl ?_
        refine g_istore_n (q := 31) dX1_copyFrom_30 rfl rfl rfl rfl ?_
        dsimp only [List.set]
        exact l2 6 0 D w hCw Gw ⟨fun c hc => hI c (by omega), fun s hs => by omega⟩ (by omega)
      · exact absurd (nI_le (show 6 ≤ b by omega) (by omega)) hq5
    | succ k ih =>
      intro b D w hCw Gw hI hk
      have hDw : CR w g C u := hD.keep (fun a hq1 hq2 => Gw a (by omega))
      refine g_iload_n (q := 3) dX1_copyFrom_2 rfl rfl ?_
      refine g_bipush (q := 5) (x := 6) dX1_copyFrom_3 (by decide) rfl ?_
      refine g_icmpge (t := 29) (q := 8) dX1_copyFrom_5 (by decide) rfl (fun hq5 => ?_) (fun hq5 => ?_)
      · exact absurd (gn_le (n := 6) hq5 (by decide)) (by omega)
      · refine g_aload_n (q := 9) dX1_copyFrom_8 rfl rfl ?_
        refine g_getR (q := 12) f_X1_11 (by assumption) rfl dX1_copyFrom_9 rfl ?_
        refine g_iload_n (q := 13) dX1_copyFrom_12 rfl rfl ?_
        refine g_aald (q := 14) (by assumption) rfl rfl (ra_at (show b < 6 by omega)) (by simp) dX1_copyFrom_13 rfl ?_
        refine g_aload_n (q := 15) dX1_copyFrom_14 rfl rfl ?_
        refine g_getR (q := 18) f_X1_11 (by assumption) rfl dX1_copyFrom_15 rfl ?_
        refine g_iload_n (q := 19) dX1_copyFrom_18 rfl rfl ?_
        refine g_aald (q := 20) (by assumption) rfl rfl (ra_at (show b < 6 by omega)) (by simp) dX1_copyFrom_19 rfl ?_
        refine c_Vv (q := 23) (p_X0_copyFrom (hb6 b (by omega)) (hCw.2.2.1 b (by omega)) (zb6 b (by omega)) (hDw.2.2.1 b (by omega)) (by omega)) k_X1_229 (hb6 b (by omega)).1 rfl (by decide) rfl rfl (Nat.le_of_ble_eq_true rfl) rfl rfl dX1_copyFrom_20 rfl ?_
        rintro w1 ⟨hBq1, Fq1⟩
        have hCq1 := hCw.buf (show b < 6 by omega) hBq1 Fq1
        have G1 : fr v w1 f (f + 55) := Gw.tr (Fq1.wide (by omega) (by omega))
        refine g_iinc (q := 26) (y := nI (b + 1)) dX1_copyFrom_23 rfl (gn_inc b) rfl rfl rfl rfl ?_
        dsimp only [List.set]
        refine g_goto (q := 2) dX1_copyFrom_26 (by decide) ?_
        refine ih (b + 1) _ w1 hCq1 G1 (fun c hc => ?_) (by omega)
        by_cases e : c = b
        · subst e; exact agb_s (by omega)
        · exact agb_n (by omega) (by omega) (hI c (by omega)) e
  refine gj_E_at (L := [some (.ref f), some (.ref g), none]) (k := 1) rfl (by decide) rfl ?_
  refine g_iconst (q := 1) (x := 0) dX1_copyFrom_0 (by decide) rfl ?_
  refine g_istore_n (q := 2) dX1_copyFrom_1 rfl rfl rfl rfl ?_
  dsimp only [List.set]
  exact l1 6 0 A v hC (fr.rf _ _ _) (fun c hc => by omega) (by omega)

/-- a value begun anew, where it counts -/
def nwb (c : Nat) (A : aS) : Prop := (∀ k, k < 4 → A.1 c k = 0) ∧ (A.1 (10 + c) 3 = 2 ∧ A.1 (10 + c) 4 = 0 ∧ A.1 (10 + c) 5 = 0 ∧ A.1 (10 + c) 6 = 0 ∧ A.1 (10 + c) 7 = -1 ∧ A.1 (10 + c) 8 = 0) ∧ A.2 c = [] ∧ A.2 (10 + c) = []
def nww (w : Nat) (A : aS) : Prop := A.1 (30 + w) 0 = -1 ∧ A.1 (30 + w) 1 = -1 ∧ A.1 (30 + w) 2 = -1 ∧ A.1 (30 + w) 3 = -1
def nwr (n : Int32) (A : aS) : Prop := (∀ c, c < 6 → nwb c A) ∧ (∀ w, w < 6 → nww w A) ∧ (∀ k, k < 4 → A.1 6 k = 0) ∧ A.1 40 5 = n ∧ A.1 40 6 = 0 ∧ A.1 40 8 = 0 ∧ A.2 20 = []
theorem nwb_s {A : aS} {b : Nat} (hb : b < 6) : nwb b (sB A b (b_new (gB A b))) := by
  have e := gB_s A b (b_new (gB A b)) hb
  have e1 : (sB A b (b_new (gB A b))).1 b = ag_cp 4 (A.1 b) (fun _ => 0) := congrArg Prod.fst e
  have e2 : (sB A b (b_new (gB A b))).1 (10 + b) = (b_new (gB A b)).2.1 := congrArg (fun z => z.2.1) e
  refine ⟨fun k hk => ?_, ?_, congrArg (fun z => z.2.2.1) e, congrArg (fun z => z.2.2.2) e⟩
  · rw [e1, ag_cp, if_pos hk]
  · rw [e2]
    unfold b_new
    refine ⟨?_, ?_, ?_, ?_, ?_, ?_⟩ <;> simp [upd]
theorem nwb_n {A : aS} {b c : Nat} {B : bS} (hb : b < 6) (hc : c < 6) (h : nwb c A) (hne : c ≠ b) : nwb c (sB A b B) := by
  unfold nwb at *
  rw [sB_r _ _ _ _ hne (by omega), sB_r _ _ _ _ (by omega) (by omega), sB_l _ _ _ _ hne (by omega), sB_l _ _ _ _ (by omega) (by omega)]
  exact h
theorem nwb_R {A : aS} {i c : Nat} {f : Nat → Int32} (h : nwb c A) (h1 : i ≠ c) (h2 : i ≠ 10 + c) : nwb c (sR A i f) := by
  unfold nwb at *
  simp only [sR]
  rw [vu_n _ _ (Ne.symm h1), vu_n _ _ (Ne.symm h2)]
  exact h
theorem nwb_L {A : aS} {i c : Nat} {l : List Int32} (h : nwb c A) (h1 : i ≠ c) (h2 : i ≠ 10 + c) : nwb c (sL A i l) := by
  unfold nwb at *
  simp only [sL]
  rw [vu_n _ _ (Ne.symm h1), vu_n _ _ (Ne.symm h2)]
  exact h

set_option maxRecDepth 100000 in
set_option maxHeartbeats 4000000 in
theorem p_X1_startAnew {X : gj_X} {lim : Nat} {σ : gj_H} {v : gj_V} {f : Nat} {A : aS} {t : Int32} (hs : fsh σ f) (hC : CR v f A t) {n : Int32} : gj_E X 2 m_X1_startAnew [.ref f, .int n] lim σ v (q_v lim σ (fun v' => (∃ A', nwr n A' ∧ CR v' f A' 0) ∧ fr v v' f (f + 55))) := by
  obtain ⟨sf, sb, ss, sw, sl, sm, hb6, hs6, hw6⟩ := id hs
  have tl : ∀ (D : aS) (w : gj_V), CR w f D t → fr v w f (f + 55) → ((∀ c, c < 6 → nwb c D) ∧ ∀ z, z < 6 → nww z D) → gj_G X 2 m_X1_startAnew (q_v lim σ (fun v' => (∃ A', nwr n A' ∧ CR v' f A' 0) ∧ fr v v' f (f + 55))) lim σ w 0 0 46 [some (.ref f), some (.int n), none] [] := by
    intro D w hCw Gw hI
    refine g_aload_n (q := 47) dX1_startAnew_46 rfl rfl ?_
    refine g_getR (q := 50) f_X1_32 (by assumption) rfl dX1_startAnew_47 rfl ?_
    refine g_iconst (q := 51) (x := 0) dX1_startAnew_50 (by decide) rfl ?_
    refine g_putI (q := 54) f_X1_53 sl.1 rfl rfl rfl dX1_startAnew_51 rfl ?_
    refine g_gen (fun w1 hw1 => ?_)
    have hCq1 : CR w1 f (sL D 20 []) t := by rw [hw1]; exact hCw.line rr_zero.1 rr_zero.2
    have G1 : fr v w1 f (f + 55) := by rw [hw1]; exact Gw.tr (fr.up2 (by omega) (by omega))
    refine g_aload_n (q := 55) dX1_startAnew_54 rfl rfl ?_
    refine g_getR (q := 58) f_X1_39 (by assumption) rfl dX1_startAnew_55 rfl ?_
    refine c_Vv (q := 61) (p_X2_startAnew sm) k_X1_57 sm rfl (by decide) rfl rfl (Nat.le_of_ble_eq_true rfl) rfl rfl dX1_startAnew_58 rfl ?_
    rintro w2 hw2
    rw [hCq1.2.1] at hw2
    have hCq2 := hCq1.mas (ag_cp 4 ((sL D 20 []).1 6) (fun _ => 0))
    rw [← hw2] at hCq2
    have G2 : fr v w2 f (f + 55) := by rw [hw2]; exact G1.tr (fr.up (by omega) (by omega))
    refine g_aload_n (q := 62) dX1_startAnew_61 rfl rfl ?_
    refine g_iload_n (q := 63) dX1_startAnew_62 rfl rfl ?_
    refine g_putI (q := 66) f_X1_58 (by assumption) rfl rfl rfl dX1_startAnew_63 rfl ?_
    refine g_gen (fun w3 hw3 => ?_)
    have hCq3 := hCq2.flo (k := 5) (x := n) (by decide)
    rw [← hw3] at hCq3
    have G3 : fr v w3 f (f + 55) := by rw [hw3]; exact G2.tr (fr.up2 (by omega) (by omega))
    refine g_aload_n (q := 67) dX1_startAnew_66 rfl rfl ?_
    refine g_iconst (q := 68) (x := 0) dX1_startAnew_67 (by decide) rfl ?_
    refine g_putI (q := 71) f_X1_61 (by assumption) rfl rfl rfl dX1_startAnew_68 rfl ?_
    refine g_gen (fun w4 hw4 => ?_)
    have hCq4 := hCq3.flo (k := 6) (x := 0) (by decide)
    rw [← hw4] at hCq4
    have G4 : fr v w4 f (f + 55) := by rw [hw4]; exact G3.tr (fr.up2 (by omega) (by omega))
    refine g_aload_n (q := 72) dX1_startAnew_71 rfl rfl ?_
    refine g_iconst (q := 73) (x := 0) dX1_startAnew_72 (by decide) rfl ?_
    refine g_putI (q := 76) f_X1_64 (by assumption) rfl rfl rfl dX1_startAnew_73 rfl ?_
    refine g_gen (fun w5 hw5 => ?_)
    have hCq5 := hCq4.tick (x := 0)
    rw [← hw5] at hCq5
    have G5 : fr v w5 f (f + 55) := by rw [hw5]; exact G4.tr (fr.up2 (by omega) (by omega))
    refine g_aload_n (q := 77) dX1_startAnew_76 rfl rfl ?_
    refine g_iconst (q := 78) (x := 0) dX1_startAnew_77 (by decide) rfl ?_
    refine g_putI (q := 81) f_X1_67 (by assumption) rfl rfl rfl dX1_startAnew_78 rfl ?_
    refine g_gen (fun w6 hw6 => ?_)
    have hCq6 := hCq5.flo (k := 8) (x := 0) (by decide)
    rw [← hw6] at hCq6
    have G6 : fr v w6 f (f + 55) := by rw [hw6]; exact G5.tr (fr.up2 (by omega) (by omega))
    refine r_v dX1_startAnew_81 rfl rfl rfl ?_
    refine ⟨⟨_, ?_, hCq6⟩, G6⟩
    refine ⟨fun c hc => ?_, fun w hw => ?_, fun k hk => ?_, ?_, ?_, ?_, ?_⟩
    · refine nwb_R (nwb_R (nwb_R (nwb_R (nwb_L (hI.1 c hc) ?_ ?_) ?_ ?_) ?_ ?_) ?_ ?_) ?_ ?_ <;> omega
    · unfold nww
      simp only [sR, sL]
      rw [vu_n _ _ (by omega), vu_n _ _ (by omega), vu_n _ _ (by omega), vu_n _ _ (by omega)]
      exact hI.2 w hw
    · simp only [sR, sL]
      rw [vu_n _ _ (by omega), vu_n _ _ (by omega), vu_n _ _ (by omega), vu_s, ag_cp, if_pos hk]
    · simp [sR, sL, vu_s, upd]
    · simp [sR, sL, vu_s, upd]
    · simp [sR, sL, vu_s, upd]
    · simp [sR, sL, vu_s]
  have l2 : ∀ (k : Nat) (b : Nat) (D : aS) (w : gj_V), CR w f D t → fr v w f (f + 55) → ((∀ c, c < 6 → nwb c D) ∧ ∀ z, z < b → nww z D) → b + k = 6 → gj_G X 2 m_X1_startAnew (q_v lim σ (fun v' => (∃ A', nwr n A' ∧ CR v' f A' 0) ∧ fr v v' f (f + 55))) lim σ w 0 0 25 [some (.ref f), some (.int n), some (.int (nI b))] [] := by
    intro k
    induction k with
    | zero =>
      intro b D w hCw Gw hI hk
      refine g_iload_n (q := 26) dX1_startAnew_25 rfl rfl ?_
      refine g_bipush (q := 28) (x := 6) dX1_startAnew_26 (by decide) rfl ?_
      refine g_icmpge (t := 46) (q := 31) dX1_startAnew_28 (by decide) rfl (fun hq28 => ?_) (fun hq28 => ?_)
      · refine g_wk (L' := [some (.ref f), some (.int n), none]) (by simp [gj_wk]) ?_
        exact tl D w hCw Gw ⟨hI.1, fun z hz => hI.2 z (by omega)⟩
      · exact absurd (nI_le (show 6 ≤ b by omega) (by omega)) hq28
    | succ k ih =>
      intro b D w hCw Gw hI hk
      refine g_iload_n (q := 26) dX1_startAnew_25 rfl rfl ?_
      refine g_bipush (q := 28) (x := 6) dX1_startAnew_26 (by decide) rfl ?_
      refine g_icmpge (t := 46) (q := 31) dX1_startAnew_28 (by decide) rfl (fun hq28 => ?_) (fun hq28 => ?_)
      · exact absurd (gn_le (n := 6) hq28 (by decide)) (by omega)
      · refine g_aload_n (q := 32) dX1_startAnew_31 rfl rfl ?_
        refine g_getR (q := 35) f_X1_25 (by assumption) rfl dX1_startAnew_32 rfl ?_
        refine g_iload_n (q := 36) dX1_startAnew_35 rfl rfl ?_
        refine g_aald (q := 37) (by assumption) rfl rfl (ra_at (show b < 6 by omega)) (by simp) dX1_startAnew_36 rfl ?_
        refine c_Vv (q := 40) (p_X9_startAnew (hw6 b (by omega))) k_X1_52 (hw6 b (by omega)) rfl (by decide) rfl rfl (Nat.le_of_ble_eq_true rfl) rfl rfl dX1_startAnew_37 rfl ?_
        rintro w1 hw1
        rw [hCw.2.2.2.2.1 b (by omega)] at hw1
        have hCq1 := hCw.work (show b < 6 by omega) (upd (aw_no (D.1 (30 + b))) 3 (-1))
        rw [← hw1] at hCq1
        have G1 : fr v w1 f (f + 55) := by rw [hw1]; exact Gw.tr (fr.up (by omega) (by omega))
        refine g_iinc (q := 43) (y := nI (b + 1)) dX1_startAnew_40 rfl (gn_inc b) rfl rfl rfl rfl ?_
        dsimp only [List.set]
        refine g_goto (q := 25) dX1_startAnew_43 (by decide) ?_
        refine ih (b + 1) _ w1 hCq1 G1 ⟨fun c hc => nwb_R (hI.1 c hc) (by omega) (by omega), fun z hz => ?_⟩ (by omega)
        unfold nww
        simp only [sR]
        by_cases e : z = b
        · subst e; rw [vu_s]; simp [aw_no, upd]
        · rw [vu_n _ _ (by omega)]; exact hI.2 z (by omega)
  have l1 : ∀ (k : Nat) (b : Nat) (D : aS) (w : gj_V), CR w f D t → fr v w f (f + 55) → (∀ c, c < b → nwb c D) → b + k = 6 → gj_G X 2 m_X1_startAnew (q_v lim σ (fun v' => (∃ A', nwr n A' ∧ CR v' f A' 0) ∧ fr v v' f (f + 55))) lim σ w 0 0 2 [some (.ref f), some (.int n), some (.int (nI b))] [] := by
    intro k
    induction k with
    | zero =>
      intro b D w hCw Gw hI hk
      refine g_iload_n (q := 3) dX1_startAnew_2 rfl rfl ?_
      refine g_bipush (q := 5) (x := 6) dX1_startAnew_3 (by decide) rfl ?_
      refine g_icmpge (t := 23) (q := 8) dX1_startAnew_5 (by decide) rfl (fun hq5 => ?_) (fun hq5 => ?_)
      · refine g_iconst (q := 24) (x := 0) dX1_startAnew_23 (by decide) rfl ?_
        refine g_istore_n (q := 25) dX1_startAnew_24 rfl rfl rfl rfl ?_
        dsimp only [List.set]
        exact l2 6 0 D w hCw Gw ⟨fun c hc => hI c (by omega), fun s hs => by omega⟩ (by omega)
      · exact absurd (nI_le (show 6 ≤ b by omega) (by omega)) hq5
    | succ k ih =>
      intro b D w hCw Gw hI hk
      refine g_iload_n (q := 3) dX1_startAnew_2 rfl rfl ?_
      refine g_bipush (q := 5) (x := 6) dX1_startAnew_3 (by decide) rfl ?_
      refine g_icmpge (t := 23) (q := 8) dX1_startAnew_5 (by decide) rfl (fun hq5 => ?_) (fun hq5 => ?_)
      · exact absurd (gn_le (n := 6) hq5 (by decide)) (by omega)
      · refine g_aload_n (q := 9) dX1_startAnew_8 rfl rfl ?_
        refine g_getR (q := 12) f_X1_11 (by assumption) rfl dX1_startAnew_9 rfl ?_
        refine g_iload_n (q := 13) dX1_startAnew_12 rfl rfl ?_
        refine g_aald (q := 14) (by assumption) rfl rfl (ra_at (show b < 6 by omega)) (by simp) dX1_startAnew_13 rfl ?_
        refine c_Vv (q := 17) (p_X0_startAnew (hb6 b (by omega)) (hCw.2.2.1 b (by omega))) k_X1_50 (hb6 b (by omega)).1 rfl (by decide) rfl rfl (Nat.le_of_ble_eq_true rfl) rfl rfl dX1_startAnew_14 rfl ?_
        rintro w1 ⟨hBq1, Fq1⟩
        have hCq1 := hCw.buf (show b < 6 by omega) hBq1 Fq1
        have G1 : fr v w1 f (f + 55) := Gw.tr (Fq1.wide (by omega) (by omega))
        refine g_iinc (q := 20) (y := nI (b + 1)) dX1_startAnew_17 rfl (gn_inc b) rfl rfl rfl rfl ?_
        dsimp only [List.set]
        refine g_goto (q := 2) dX1_startAnew_20 (by decide) ?_
        refine ih (b + 1) _ w1 hCq1 G1 (fun c hc => ?_) (by omega)
        by_cases e : c = b
        · subst e; exact nwb_s (by omega)
        · exact nwb_n (by omega) (by omega) (hI c (by omega)) e
  refine gj_E_at (L := [some (.ref f), some (.int n), none]) (k := 1) rfl (by decide) rfl ?_
  refine g_iconst (q := 1) (x := 0) dX1_startAnew_0 (by decide) rfl ?_
  refine g_istore_n (q := 2) dX1_startAnew_1 rfl rfl rfl rfl ?_
  dsimp only [List.set]
  exact l1 6 0 A v hC (fr.rf _ _ _) (fun c hc => by omega) (by omega)
