/-! ===== Buffer ===== -/
theorem g_gen {X : gj_X} {d : Nat} {M : gj_M} {Q : gj_Q} {lim : Nat} {σ : gj_H} {v : gj_V} {kc ks pc : Nat} {L : List (Option Value)} {st : List Value} (k : ∀ v2, v2 = v → gj_G X d M Q lim σ v2 kc ks pc L st) : gj_G X d M Q lim σ v kc ks pc L st := k v rfl
def fr (v v' : gj_V) (lo hi : Nat) : Prop := ∀ a, (a < lo ∨ hi ≤ a) → v' a = v a
theorem fr.rf (v : gj_V) (lo hi : Nat) : fr v v lo hi := fun _ _ => rfl
theorem fr.tr {v v1 v2 : gj_V} {lo hi : Nat} (h1 : fr v v1 lo hi) (h2 : fr v1 v2 lo hi) : fr v v2 lo hi := fun a h => (h2 a h).trans (h1 a h)
theorem fr.up {v : gj_V} {a lo hi : Nat} {f : Nat → Int32} (h1 : lo ≤ a) (h2 : a < hi) : fr v (gj_up v a f) lo hi := fun b h => gu_n v f (by omega)
theorem fr.up2 {v : gj_V} {a k lo hi : Nat} {x : Int32} (h1 : lo ≤ a) (h2 : a < hi) : fr v (gj_up2 v a k x) lo hi := fun b h => gu_n v _ (by omega)
theorem fr2.fr {v v' : gj_V} {r lo hi : Nat} (h : fr2 v v' r) (h1 : lo ≤ r) (h2 : r + 1 < hi) : fr v v' lo hi := fun b hb => h b (by omega) (by omega)
theorem fr.wide {v v' : gj_V} {lo hi lo' hi' : Nat} (h : fr v v' lo hi) (h1 : lo' ≤ lo) (h2 : hi ≤ hi') : fr v v' lo' hi' := fun b hb => h b (by omega)
abbrev bS : Type := (Nat → Int32) × (Nat → Int32) × List Int32 × List Int32
abbrev sh_buf (p : Nat) : gj_S := .inl (0, [some (some (p + 1)), some (some (p + 2)), some (some (p + 4)), none, none, none, none, none, none])
def bsh (σ : gj_H) (p : Nat) : Prop := σ p = some (sh_buf p) ∧ σ (p + 1) = some sh_gate ∧ rsh σ (p + 2) ∧ rsh σ (p + 4)
def br (v : gj_V) (p : Nat) (B : bS) : Prop := v (p + 1) = B.1 ∧ v p = B.2.1 ∧ rr v (p + 2) B.2.2.1 ∧ rr v (p + 4) B.2.2.2
theorem br.f {v : gj_V} {p : Nat} {B : bS} (h : br v p B) (k : Nat) (x : Int32) : br (gj_up2 v p k x) p (B.1, upd B.2.1 k x, B.2.2) := by
  obtain ⟨h1, h2, h3, h4⟩ := h
  refine ⟨?_, ?_, h3.keep ?_ ?_, h4.keep ?_ ?_⟩
  · rw [gu_2, gu_n _ _ (by omega)]; exact h1
  · rw [gu_2, gu_s, h2]
  all_goals (rw [gu_2, gu_n _ _ (by omega)])
theorem br.g {v : gj_V} {p : Nat} {B : bS} (h : br v p B) (g : Nat → Int32) : br (gj_up v (p + 1) g) p (g, B.2) := by
  obtain ⟨h1, h2, h3, h4⟩ := h
  refine ⟨?_, ?_, h3.keep ?_ ?_, h4.keep ?_ ?_⟩
  · rw [gu_s]
  · rw [gu_n _ _ (by omega)]; exact h2
  all_goals (rw [gu_n _ _ (by omega)])
theorem br.it {v v' : gj_V} {p : Nat} {B : bS} {l : List Int32} (h : br v p B) (h' : rr v' (p + 2) l) (hf : fr2 v v' (p + 2)) : br v' p (B.1, B.2.1, l, B.2.2.2) := by
  obtain ⟨h1, h2, h3, h4⟩ := h
  exact ⟨by rw [hf _ (by omega) (by omega)]; exact h1, by rw [hf _ (by omega) (by omega)]; exact h2, h', h4.keep (hf _ (by omega) (by omega)) (hf _ (by omega) (by omega))⟩
theorem br.qu {v v' : gj_V} {p : Nat} {B : bS} {l : List Int32} (h : br v p B) (h' : rr v' (p + 4) l) (hf : fr2 v v' (p + 4)) : br v' p (B.1, B.2.1, B.2.2.1, l) := by
  obtain ⟨h1, h2, h3, h4⟩ := h
  exact ⟨by rw [hf _ (by omega) (by omega)]; exact h1, by rw [hf _ (by omega) (by omega)]; exact h2, h3.keep (hf _ (by omega) (by omega)) (hf _ (by omega) (by omega)), h'⟩
theorem br.keep {v v' : gj_V} {p : Nat} {B : bS} (h : br v p B) (hf : ∀ a, p ≤ a → a < p + 6 → v' a = v a) : br v' p B := by
  obtain ⟨h1, h2, h3, h4⟩ := h
  exact ⟨by rw [hf _ (by omega) (by omega)]; exact h1, by rw [hf _ (by omega) (by omega)]; exact h2, h3.keep (hf _ (by omega) (by omega)) (hf _ (by omega) (by omega)), h4.keep (hf _ (by omega) (by omega)) (hf _ (by omega) (by omega))⟩
abbrev b_kept (B : bS) (w : Int32) : Prop := ¬ B.2.1 7 = -1 ∧ ¬ B.2.1 7 = w
def b_put (B : bS) (k w : Int32) : Int32 × bS := if B.2.1 3 ≤ nI B.2.2.1.length ∨ b_kept B w then (0, (ag_thr (ag_in B.1), B.2))
  else (1, (ag_out (ag_in B.1), upd (upd B.2.1 4 (B.2.1 4 + 1)) 6 (if B.2.1 6 < nI (B.2.2.1.length + 1) then nI (B.2.2.1.length + 1) else B.2.1 6), B.2.2.1 ++ [k], B.2.2.2))
def b_take (B : bS) (w : Int32) : Int32 × bS := if B.2.2.1 = [] ∨ b_kept B w then (-5, (ag_thr (ag_in B.1), B.2))
  else (B.2.2.1.getD 0 0, (ag_out (ag_in B.1), upd B.2.1 5 (B.2.1 5 + 1), B.2.2.1.eraseIdx 0, B.2.2.2))
def b_give (B : bS) : Int32 × bS := (B.2.2.1.getD 0 0, (B.1, upd B.2.1 5 (B.2.1 5 + 1), B.2.2.1.eraseIdx 0, B.2.2.2))
def b_keep (B : bS) (w : Int32) : Int32 × bS := if b_kept B w then (-5, (ag_out (ag_in B.1), B.2.1, B.2.2.1, B.2.2.2 ++ [w]))
  else (B.2.1 8 + 1, (ag_out (ag_in B.1), upd (upd B.2.1 7 w) 8 (B.2.1 8 + 1), B.2.2))
def b_let (B : bS) : Int32 × bS := if B.2.1 8 - 1 = 0 then
    (B.2.1 8 - 1, if B.2.2.2 = [] then (ag_out (ag_in B.1), upd (upd (upd B.2.1 8 (B.2.1 8 - 1)) 7 (-1)) 8 0, B.2.2.1, []) else (ag_out (ag_in B.1), upd (upd (upd B.2.1 8 (B.2.1 8 - 1)) 7 (B.2.2.2.getD 0 0)) 8 (if B.2.2.2.getD 0 0 = -1 then 0 else 1), B.2.2.1, B.2.2.2.eraseIdx 0))
  else (B.2.1 8 - 1, (ag_out (ag_in B.1), upd B.2.1 8 (B.2.1 8 - 1), B.2.2))
def b_told (B : bS) (k : Nat) : Int32 := match k with
  | 0 => nI B.2.2.1.length
  | 1 => B.2.1 3
  | 2 => B.2.1 4
  | 3 => B.2.1 5
  | 4 => B.2.1 6
  | 5 => B.1 0
  | 6 => B.1 3
  | _ => B.1 2
def b_ktold (B : bS) (k : Nat) : Int32 := match k with
  | 0 => B.2.1 7
  | 1 => B.2.1 8
  | _ => nI B.2.2.2.length
def b_new (B : bS) : bS := (ag_cp 4 B.1 (fun _ => 0), upd (upd (upd (upd (upd (upd B.2.1 3 2) 4 0) 5 0) 6 0) 7 (-1)) 8 0, [], [])
def b_cp (B C : bS) : bS := (ag_cp 4 B.1 C.1, upd (upd (upd (upd (upd (upd B.2.1 3 (C.2.1 3)) 4 (C.2.1 4)) 5 (C.2.1 5)) 6 (C.2.1 6)) 7 (C.2.1 7)) 8 (C.2.1 8), C.2.2.1, C.2.2.2)

set_option maxRecDepth 100000 in
set_option maxHeartbeats 4000000 in
theorem p_X0_isKeptByAnother {X : gj_X} {lim : Nat} {σ : gj_H} {v : gj_V} {p : Nat} {B : bS} (hs : bsh σ p) (hB : br v p B) {w : Int32} : gj_E X 0 m_X0_isKeptByAnother [.ref p, .int w] lim σ v (q_i lim σ (fun x v' => x = (if b_kept B w then 1 else 0) ∧ v' = v)) := by
  obtain ⟨s0, s1, s2, s3⟩ := hs
  have s4 := s2.1
  have s5 := s3.1
  refine gj_E_at (L := [some (.ref p), some (.int w)]) (k := 0) rfl (by decide) rfl ?_
  refine g_aload_n (q := 1) dX0_isKeptByAnother_0 rfl rfl ?_
  refine g_getI (q := 4) f_X0_71 (by assumption) rfl dX0_isKeptByAnother_1 rfl ?_
  refine g_iconst (q := 5) (x := (-1)) dX0_isKeptByAnother_4 (by decide) rfl ?_
  refine g_icmpeq (t := 20) (q := 8) dX0_isKeptByAnother_5 (by decide) rfl (fun hq5 => ?_) (fun hq5 => ?_)
  · rw [hB.2.1] at hq5
    refine g_iconst (q := 21) (x := 0) dX0_isKeptByAnother_20 (by decide) rfl ?_
    refine r_z dX0_isKeptByAnother_21 rfl rfl rfl (by decide) ?_
    refine ⟨?_, rfl⟩
    simp_all
  · rw [hB.2.1] at hq5
    refine g_aload_n (q := 9) dX0_isKeptByAnother_8 rfl rfl ?_
    refine g_getI (q := 12) f_X0_71 (by assumption) rfl dX0_isKeptByAnother_9 rfl ?_
    refine g_iload_n (q := 13) dX0_isKeptByAnother_12 rfl rfl ?_
    refine g_icmpeq (t := 20) (q := 16) dX0_isKeptByAnother_13 (by decide) rfl (fun hq13 => ?_) (fun hq13 => ?_)
    · rw [hB.2.1] at hq13
      refine g_iconst (q := 21) (x := 0) dX0_isKeptByAnother_20 (by decide) rfl ?_
      refine r_z dX0_isKeptByAnother_21 rfl rfl rfl (by decide) ?_
      refine ⟨?_, rfl⟩
      simp_all
    · rw [hB.2.1] at hq13
      refine g_iconst (q := 17) (x := 1) dX0_isKeptByAnother_16 (by decide) rfl ?_
      refine g_goto (q := 21) dX0_isKeptByAnother_17 (by decide) ?_
      refine r_z dX0_isKeptByAnother_21 rfl rfl rfl (by decide) ?_
      refine ⟨?_, rfl⟩
      simp_all

set_option maxRecDepth 100000 in
set_option maxHeartbeats 4000000 in
theorem p_X0_canGive {X : gj_X} {lim : Nat} {σ : gj_H} {v : gj_V} {p : Nat} {B : bS} (hs : bsh σ p) (hB : br v p B) {n : Int32} : gj_E X 0 m_X0_canGive [.ref p, .int n] lim σ v (q_i lim σ (fun x v' => x = (if n ≤ nI B.2.2.1.length ∧ B.2.1 7 = -1 then 1 else 0) ∧ v' = v)) := by
  obtain ⟨s0, s1, s2, s3⟩ := hs
  have s4 := s2.1
  have s5 := s3.1
  refine gj_E_at (L := [some (.ref p), some (.int n)]) (k := 0) rfl (by decide) rfl ?_
  refine g_aload_n (q := 1) dX0_canGive_0 rfl rfl ?_
  refine g_getR (q := 4) f_X0_21 (by assumption) rfl dX0_canGive_1 rfl ?_
  refine g_getI (q := 7) f_X0_31 (by assumption) rfl dX0_canGive_4 rfl ?_
  refine g_iload_n (q := 8) dX0_canGive_7 rfl rfl ?_
  refine g_icmplt (t := 23) (q := 11) dX0_canGive_8 (by decide) rfl (fun hq8 => ?_) (fun hq8 => ?_)
  · rw [hB.2.2.1.1] at hq8
    refine g_iconst (q := 24) (x := 0) dX0_canGive_23 (by decide) rfl ?_
    refine r_z dX0_canGive_24 rfl rfl rfl (by decide) ?_
    refine ⟨?_, rfl⟩
    first | (rw [if_neg (fun h => Int32.not_lt.mpr h.1 hq8)]; done) | (rw [if_neg (fun h => hq16 h.2)]; done) | (rw [if_pos ⟨Int32.not_lt.mp hq8, hq16⟩]; done)
  · rw [hB.2.2.1.1] at hq8
    refine g_aload_n (q := 12) dX0_canGive_11 rfl rfl ?_
    refine g_getI (q := 15) f_X0_71 (by assumption) rfl dX0_canGive_12 rfl ?_
    refine g_iconst (q := 16) (x := (-1)) dX0_canGive_15 (by decide) rfl ?_
    refine g_icmpne (t := 23) (q := 19) dX0_canGive_16 (by decide) rfl (fun hq16 => ?_) (fun hq16 => ?_)
    · rw [hB.2.1] at hq16
      refine g_iconst (q := 24) (x := 0) dX0_canGive_23 (by decide) rfl ?_
      refine r_z dX0_canGive_24 rfl rfl rfl (by decide) ?_
      refine ⟨?_, rfl⟩
      first | (rw [if_neg (fun h => Int32.not_lt.mpr h.1 hq8)]; done) | (rw [if_neg (fun h => hq16 h.2)]; done) | (rw [if_pos ⟨Int32.not_lt.mp hq8, hq16⟩]; done)
    · rw [hB.2.1] at hq16
      refine g_iconst (q := 20) (x := 1) dX0_canGive_19 (by decide) rfl ?_
      refine g_goto (q := 24) dX0_canGive_20 (by decide) ?_
      refine r_z dX0_canGive_24 rfl rfl rfl (by decide) ?_
      refine ⟨?_, rfl⟩
      first | (rw [if_neg (fun h => Int32.not_lt.mpr h.1 hq8)]; done) | (rw [if_neg (fun h => hq16 h.2)]; done) | (rw [if_pos ⟨Int32.not_lt.mp hq8, hq16⟩]; done)

set_option maxRecDepth 100000 in
set_option maxHeartbeats 4000000 in
theorem p_X0_put {X : gj_X} {lim : Nat} {σ : gj_H} {v : gj_V} {p : Nat} {B : bS} (hs : bsh σ p) (hB : br v p B) {k w : Int32} (hroom : B.2.1 3 ≤ 6) : gj_E X 1 m_X0_put [.ref p, .int k, .int w] lim σ v (q_i lim σ (fun x v' => x = (b_put B k w).1 ∧ br v' p (b_put B k w).2 ∧ fr v v' p (p + 6))) := by
  obtain ⟨s0, s1, s2, s3⟩ := hs
  have s4 := s2.1
  have s5 := s3.1
  have hBq0 := hB
  have Fq0 : fr v v p (p + 6) := fr.rf _ _ _
  refine gj_E_at (L := [some (.ref p), some (.int k), some (.int w)]) (k := 0) rfl (by decide) rfl ?_
  refine g_aload_n (q := 1) dX0_put_0 rfl rfl ?_
  refine g_getR (q := 4) f_X0_12 (by assumption) rfl dX0_put_1 rfl ?_
  refine c_Vv (q := 7) (p_X2_enter s1) k_X0_28 (by assumption) rfl (by decide) rfl rfl (Nat.le_of_ble_eq_true rfl) rfl rfl dX0_put_4 rfl ?_
  rintro vq1 hvq1
  have hBq1 : br vq1 p (ag_in B.1, B.2) := by rw [hvq1, hBq0.1]; exact hBq0.g _
  have Fq1 : fr v vq1 p (p + 6) := by rw [hvq1]; exact Fq0.tr (fr.up (by omega) (by omega))
  clear hvq1
  refine g_aload_n (q := 8) dX0_put_7 rfl rfl ?_
  refine g_getR (q := 11) f_X0_21 (by assumption) rfl dX0_put_8 rfl ?_
  refine g_getI (q := 14) f_X0_31 (by assumption) rfl dX0_put_11 rfl ?_
  refine g_aload_n (q := 15) dX0_put_14 rfl rfl ?_
  refine g_getI (q := 18) f_X0_35 (by assumption) rfl dX0_put_15 rfl ?_
  refine g_icmpge (t := 29) (q := 21) dX0_put_18 (by decide) rfl (fun hq18 => ?_) (fun hq18 => ?_)
  · rw [hBq1.2.1, hBq1.2.2.1.1] at hq18
    refine g_aload_n (q := 30) dX0_put_29 rfl rfl ?_
    refine g_getR (q := 33) f_X0_12 (by assumption) rfl dX0_put_30 rfl ?_
    refine c_Vv (q := 36) (p_X2_leaveThrown s1) k_X0_42 (by assumption) rfl (by decide) rfl rfl (Nat.le_of_ble_eq_true rfl) rfl rfl dX0_put_33 rfl ?_
    rintro vq3 hvq3
    have hBq3 : br vq3 p (ag_thr (ag_in B.1), B.2) := by rw [hvq3, hBq1.1]; exact hBq1.g _
    have Fq3 : fr v vq3 p (p + 6) := by rw [hvq3]; exact Fq1.tr (fr.up (by omega) (by omega))
    clear hvq3
    refine g_iconst (q := 37) (x := 0) dX0_put_36 (by decide) rfl ?_
    refine r_z dX0_put_37 rfl rfl rfl (by decide) ?_
    have e : b_put B k w = (0, (ag_thr (ag_in B.1), B.2)) := by
      rw [b_put, if_pos]
      first | exact Or.inl hq18 | exact Or.inr hq26
    rw [e]
    exact ⟨rfl, hBq3, Fq3⟩
  · rw [hBq1.2.1, hBq1.2.2.1.1] at hq18
    refine g_aload_n (q := 22) dX0_put_21 rfl rfl ?_
    refine g_iload_n (q := 23) dX0_put_22 rfl rfl ?_
    refine c_Vi (q := 26) (p_X0_isKeptByAnother ⟨s0, s1, s2, s3⟩ hBq1) k_X0_38 (by assumption) rfl (by decide) rfl rfl (Nat.le_of_ble_eq_true rfl) rfl rfl dX0_put_23 rfl ?_
    rintro x vq2 ⟨rfl, hvq2⟩
    subst vq2
    refine g_ifeq (t := 38) (q := 29) dX0_put_26 (by decide) rfl (fun hq26 => ?_) (fun hq26 => ?_)
    · have hq26 := gn_b0 hq26
      have hl : B.2.2.1.length < 6 := gn_lt (fun h => hq18 (Int32.le_trans hroom h)) (by have := hB.2.2.1.2.1; omega)
      refine g_aload_n (q := 39) dX0_put_38 rfl rfl ?_
      refine g_getR (q := 42) f_X0_21 (by assumption) rfl dX0_put_39 rfl ?_
      refine g_iload_n (q := 43) dX0_put_42 rfl rfl ?_
      refine c_Vv (q := 46) (p_X5_addLast s2 hBq1.2.2.1 hl) k_X0_45 (by assumption) rfl (by decide) rfl rfl (Nat.le_of_ble_eq_true rfl) rfl rfl dX0_put_43 rfl ?_
      rintro vq3 ⟨hrq3, hfq3⟩
      have hBq3 := hBq1.it hrq3 hfq3
      have Fq3 : fr v vq3 p (p + 6) := Fq1.tr (hfq3.fr (by omega) (by omega))
      refine g_aload_n (q := 47) dX0_put_46 rfl rfl ?_
      refine g_dup (q := 48) dX0_put_47 rfl rfl ?_
      refine g_getI (q := 51) f_X0_49 (by assumption) rfl dX0_put_48 rfl ?_
      refine g_iconst (q := 52) (x := 1) dX0_put_51 (by decide) rfl ?_
      refine g_iadd (q := 53) dX0_put_52 rfl ?_
      refine g_putI (q := 56) f_X0_49 (by assumption) rfl rfl rfl dX0_put_53 rfl ?_
      refine g_gen (fun vq4 hvq4 => ?_)
      have hBq4 : br vq4 p (ag_in B.1, upd B.2.1 4 (B.2.1 4 + 1), B.2.2.1 ++ [k], B.2.2.2) := by
        have := hBq3.f 4 (vq3 p 4 + 1)
        rw [hBq3.2.1] at this
        rw [hvq4, hBq3.2.1]; exact this
      have Fq4 : fr v vq4 p (p + 6) := by rw [hvq4]; exact Fq3.tr (fr.up2 (by omega) (by omega))
      clear hvq4
      refine g_aload_n (q := 57) dX0_put_56 rfl rfl ?_
      refine g_aload_n (q := 58) dX0_put_57 rfl rfl ?_
      refine g_getI (q := 61) f_X0_52 (by assumption) rfl dX0_put_58 rfl ?_
      refine g_aload_n (q := 62) dX0_put_61 rfl rfl ?_
      refine g_getR (q := 65) f_X0_21 (by assumption) rfl dX0_put_62 rfl ?_
      refine g_getI (q := 68) f_X0_31 (by assumption) rfl dX0_put_65 rfl ?_
      refine g_max (q := 71) k_X0_55 (Nat.le_of_ble_eq_true rfl) (Nat.le_refl 0) (Nat.le_refl 0) dX0_put_68 rfl ?_
      refine g_putI (q := 74) f_X0_52 (by assumption) rfl rfl rfl dX0_put_71 rfl ?_
      refine g_gen (fun vq5 hvq5 => ?_)
      have hBq5 : br vq5 p (ag_in B.1, upd (upd B.2.1 4 (B.2.1 4 + 1)) 6 (if B.2.1 6 < nI (B.2.2.1.length + 1) then nI (B.2.2.1.length + 1) else B.2.1 6), B.2.2.1 ++ [k], B.2.2.2) := by
        have := hBq4.f 6 (if vq4 p 6 < vq4 (p + 2) 1 then vq4 (p + 2) 1 else vq4 p 6)
        rw [hBq4.2.1, hBq4.2.2.1.1] at this
        rw [hvq5, hBq4.2.1, hBq4.2.2.1.1]
        simpa [ud_n] using this
      have Fq5 : fr v vq5 p (p + 6) := by rw [hvq5]; exact Fq4.tr (fr.up2 (by omega) (by omega))
      clear hvq5
      refine g_aload_n (q := 75) dX0_put_74 rfl rfl ?_
      refine g_getR (q := 78) f_X0_12 (by assumption) rfl dX0_put_75 rfl ?_
      refine c_Vv (q := 81) (p_X2_leave s1) k_X0_61 (by assumption) rfl (by decide) rfl rfl (Nat.le_of_ble_eq_true rfl) rfl rfl dX0_put_78 rfl ?_
      rintro vq6 hvq6
      have hBq6 : br vq6 p (ag_out (ag_in B.1), upd (upd B.2.1 4 (B.2.1 4 + 1)) 6 (if B.2.1 6 < nI (B.2.2.1.length + 1) then nI (B.2.2.1.length + 1) else B.2.1 6), B.2.2.1 ++ [k], B.2.2.2) := by rw [hvq6, hBq5.1]; exact hBq5.g _
      have Fq6 : fr v vq6 p (p + 6) := by rw [hvq6]; exact Fq5.tr (fr.up (by omega) (by omega))
      clear hvq6
      refine g_iconst (q := 82) (x := 1) dX0_put_81 (by decide) rfl ?_
      refine r_z dX0_put_82 rfl rfl rfl (by decide) ?_
      have e : b_put B k w = (1, (ag_out (ag_in B.1), upd (upd B.2.1 4 (B.2.1 4 + 1)) 6 (if B.2.1 6 < nI (B.2.2.1.length + 1) then nI (B.2.2.1.length + 1) else B.2.1 6), B.2.2.1 ++ [k], B.2.2.2)) := by
        rw [b_put, if_neg]
        intro h
        rcases h with h | h
        · exact hq18 h
        · exact hq26 h
      rw [e]
      exact ⟨rfl, hBq6, Fq6⟩
    · have hq26 := gn_b1 hq26
      refine g_aload_n (q := 30) dX0_put_29 rfl rfl ?_
      refine g_getR (q := 33) f_X0_12 (by assumption) rfl dX0_put_30 rfl ?_
      refine c_Vv (q := 36) (p_X2_leaveThrown s1) k_X0_42 (by assumption) rfl (by decide) rfl rfl (Nat.le_of_ble_eq_true rfl) rfl rfl dX0_put_33 rfl ?_
      rintro vq3 hvq3
      have hBq3 : br vq3 p (ag_thr (ag_in B.1), B.2) := by rw [hvq3, hBq1.1]; exact hBq1.g _
      have Fq3 : fr v vq3 p (p + 6) := by rw [hvq3]; exact Fq1.tr (fr.up (by omega) (by omega))
      clear hvq3
      refine g_iconst (q := 37) (x := 0) dX0_put_36 (by decide) rfl ?_
      refine r_z dX0_put_37 rfl rfl rfl (by decide) ?_
      have e : b_put B k w = (0, (ag_thr (ag_in B.1), B.2)) := by
        rw [b_put, if_pos]
        first | exact Or.inl hq18 | exact Or.inr hq26
      rw [e]
      exact ⟨rfl, hBq3, Fq3⟩

theorem l_nil {l : List Int32} (h : nI l.length = 0) (hl : l.length < 100) : l = [] := by
  have : nI l.length = nI 0 := h
  rw [nI_eq (by omega) (by decide)] at this
  exact List.length_eq_zero_iff.mp this
set_option maxRecDepth 100000 in
set_option maxHeartbeats 4000000 in
theorem p_X0_take {X : gj_X} {lim : Nat} {σ : gj_H} {v : gj_V} {p : Nat} {B : bS} (hs : bsh σ p) (hB : br v p B) {w : Int32} : gj_E X 1 m_X0_take [.ref p, .int w] lim σ v (q_i lim σ (fun x v' => x = (b_take B w).1 ∧ br v' p (b_take B w).2 ∧ fr v v' p (p + 6))) := by
  obtain ⟨s0, s1, s2, s3⟩ := hs
  have s4 := s2.1
  have s5 := s3.1
  have hBq0 := hB
  have Fq0 : fr v v p (p + 6) := fr.rf _ _ _
  refine gj_E_at (L := [some (.ref p), some (.int w), none]) (k := 1) rfl (by decide) rfl ?_
  refine g_aload_n (q := 1) dX0_take_0 rfl rfl ?_
  refine g_getR (q := 4) f_X0_12 (by assumption) rfl dX0_take_1 rfl ?_
  refine c_Vv (q := 7) (p_X2_enter s1) k_X0_28 (by assumption) rfl (by decide) rfl rfl (Nat.le_of_ble_eq_true rfl) rfl rfl dX0_take_4 rfl ?_
  rintro vq1 hvq1
  have hBq1 : br vq1 p (ag_in B.1, B.2) := by rw [hvq1, hBq0.1]; exact hBq0.g _
  have Fq1 : fr v vq1 p (p + 6) := by rw [hvq1]; exact Fq0.tr (fr.up (by omega) (by omega))
  clear hvq1
  refine g_aload_n (q := 8) dX0_take_7 rfl rfl ?_
  refine g_getR (q := 11) f_X0_21 (by assumption) rfl dX0_take_8 rfl ?_
  refine g_getI (q := 14) f_X0_31 (by assumption) rfl dX0_take_11 rfl ?_
  refine g_ifeq (t := 25) (q := 17) dX0_take_14 (by decide) rfl (fun hq14 => ?_) (fun hq14 => ?_)
  · rw [hBq1.2.2.1.1] at hq14
    have hq14 : B.2.2.1 = [] := l_nil hq14 (by have := hB.2.2.1.2.1; omega)
    refine g_aload_n (q := 26) dX0_take_25 rfl rfl ?_
    refine g_getR (q := 29) f_X0_12 (by assumption) rfl dX0_take_26 rfl ?_
    refine c_Vv (q := 32) (p_X2_leaveThrown s1) k_X0_42 (by assumption) rfl (by decide) rfl rfl (Nat.le_of_ble_eq_true rfl) rfl rfl dX0_take_29 rfl ?_
    rintro vq3 hvq3
    have hBq3 : br vq3 p (ag_thr (ag_in B.1), B.2) := by rw [hvq3, hBq1.1]; exact hBq1.g _
    have Fq3 : fr v vq3 p (p + 6) := by rw [hvq3]; exact Fq1.tr (fr.up (by omega) (by omega))
    clear hvq3
    refine g_bipush (q := 34) (x := (-5)) dX0_take_32 (by decide) rfl ?_
    refine r_i dX0_take_34 rfl rfl rfl ?_
    have e : b_take B w = (-5, (ag_thr (ag_in B.1), B.2)) := by
      rw [b_take, if_pos]
      first | exact Or.inl hq14 | exact Or.inr hq22
    rw [e]
    exact ⟨rfl, hBq3, Fq3⟩
  · rw [hBq1.2.2.1.1] at hq14
    have hq14 : ¬ B.2.2.1 = [] := fun h => hq14 (by simp [h]; rfl)
    refine g_aload_n (q := 18) dX0_take_17 rfl rfl ?_
    refine g_iload_n (q := 19) dX0_take_18 rfl rfl ?_
    refine c_Vi (q := 22) (p_X0_isKeptByAnother ⟨s0, s1, s2, s3⟩ hBq1) k_X0_38 (by assumption) rfl (by decide) rfl rfl (Nat.le_of_ble_eq_true rfl) rfl rfl dX0_take_19 rfl ?_
    rintro x vq2 ⟨rfl, hvq2⟩
    subst vq2
    refine g_ifeq (t := 35) (q := 25) dX0_take_22 (by decide) rfl (fun hq22 => ?_) (fun hq22 => ?_)
    · have hq22 := gn_b0 hq22
      refine g_aload_n (q := 36) dX0_take_35 rfl rfl ?_
      refine g_dup (q := 37) dX0_take_36 rfl rfl ?_
      refine g_getI (q := 40) f_X0_64 (by assumption) rfl dX0_take_37 rfl ?_
      refine g_iconst (q := 41) (x := 1) dX0_take_40 (by decide) rfl ?_
      refine g_iadd (q := 42) dX0_take_41 rfl ?_
      refine g_putI (q := 45) f_X0_64 (by assumption) rfl rfl rfl dX0_take_42 rfl ?_
      refine g_gen (fun vq4 hvq4 => ?_)
      have hBq4 : br vq4 p (ag_in B.1, upd B.2.1 5 (B.2.1 5 + 1), B.2.2.1, B.2.2.2) := by
        have := hBq1.f 5 (vq1 p 5 + 1)
        rw [hBq1.2.1] at this
        rw [hvq4, hBq1.2.1]; exact this
      have Fq4 : fr v vq4 p (p + 6) := by rw [hvq4]; exact Fq1.tr (fr.up2 (by omega) (by omega))
      clear hvq4
      refine g_aload_n (q := 46) dX0_take_45 rfl rfl ?_
      refine g_getR (q := 49) f_X0_21 (by assumption) rfl dX0_take_46 rfl ?_
      refine g_iconst (q := 50) (x := 0) dX0_take_49 (by decide) rfl ?_
      refine c_Vi (q := 53) (p_X5_removeAt (k := 0) s2 hBq4.2.2.1 (List.length_pos_iff.mpr hq14)) k_X0_67 (by assumption) rfl (by decide) rfl rfl (Nat.le_of_ble_eq_true rfl) rfl rfl dX0_take_50 rfl ?_
      rintro x vq5 ⟨hxq5, hrq5, hfq5⟩
      have hBq5 := hBq4.it hrq5 hfq5
      have Fq5 : fr v vq5 p (p + 6) := Fq4.tr (hfq5.fr (by omega) (by omega))
      refine g_istore_n (q := 54) dX0_take_53 rfl rfl rfl rfl ?_
      dsimp only [List.set]
      refine g_aload_n (q := 55) dX0_take_54 rfl rfl ?_
      refine g_getR (q := 58) f_X0_12 (by assumption) rfl dX0_take_55 rfl ?_
      refine c_Vv (q := 61) (p_X2_leave s1) k_X0_61 (by assumption) rfl (by decide) rfl rfl (Nat.le_of_ble_eq_true rfl) rfl rfl dX0_take_58 rfl ?_
      rintro vq6 hvq6
      have hBq6 : br vq6 p (ag_out (ag_in B.1), upd B.2.1 5 (B.2.1 5 + 1), B.2.2.1.eraseIdx 0, B.2.2.2) := by rw [hvq6, hBq5.1]; exact hBq5.g _
      have Fq6 : fr v vq6 p (p + 6) := by rw [hvq6]; exact Fq5.tr (fr.up (by omega) (by omega))
      clear hvq6
      refine g_iload_n (q := 62) dX0_take_61 rfl rfl ?_
      refine r_i dX0_take_62 rfl rfl rfl ?_
      have e : b_take B w = (B.2.2.1.getD 0 0, (ag_out (ag_in B.1), upd B.2.1 5 (B.2.1 5 + 1), B.2.2.1.eraseIdx 0, B.2.2.2)) := by
        rw [b_take, if_neg]
        intro h
        rcases h with h | h
        · exact hq14 h
        · exact hq22 h
      rw [e]
      exact ⟨hxq5, hBq6, Fq6⟩
    · have hq22 := gn_b1 hq22
      refine g_aload_n (q := 26) dX0_take_25 rfl rfl ?_
      refine g_getR (q := 29) f_X0_12 (by assumption) rfl dX0_take_26 rfl ?_
      refine c_Vv (q := 32) (p_X2_leaveThrown s1) k_X0_42 (by assumption) rfl (by decide) rfl rfl (Nat.le_of_ble_eq_true rfl) rfl rfl dX0_take_29 rfl ?_
      rintro vq3 hvq3
      have hBq3 : br vq3 p (ag_thr (ag_in B.1), B.2) := by rw [hvq3, hBq1.1]; exact hBq1.g _
      have Fq3 : fr v vq3 p (p + 6) := by rw [hvq3]; exact Fq1.tr (fr.up (by omega) (by omega))
      clear hvq3
      refine g_bipush (q := 34) (x := (-5)) dX0_take_32 (by decide) rfl ?_
      refine r_i dX0_take_34 rfl rfl rfl ?_
      have e : b_take B w = (-5, (ag_thr (ag_in B.1), B.2)) := by
        rw [b_take, if_pos]
        first | exact Or.inl hq14 | exact Or.inr hq22
      rw [e]
      exact ⟨rfl, hBq3, Fq3⟩

set_option maxRecDepth 100000 in
set_option maxHeartbeats 4000000 in
theorem p_X0_giveFirst {X : gj_X} {lim : Nat} {σ : gj_H} {v : gj_V} {p : Nat} {B : bS} (hs : bsh σ p) (hB : br v p B) (hne : ¬ B.2.2.1 = []) : gj_E X 1 m_X0_giveFirst [.ref p] lim σ v (q_i lim σ (fun x v' => x = (b_give B).1 ∧ br v' p (b_give B).2 ∧ fr v v' p (p + 6))) := by
  obtain ⟨s0, s1, s2, s3⟩ := hs
  have s4 := s2.1
  have s5 := s3.1
  have hBq0 := hB
  have Fq0 : fr v v p (p + 6) := fr.rf _ _ _
  refine gj_E_at (L := [some (.ref p)]) (k := 0) rfl (by decide) rfl ?_
  refine g_aload_n (q := 1) dX0_giveFirst_0 rfl rfl ?_
  refine g_dup (q := 2) dX0_giveFirst_1 rfl rfl ?_
  refine g_getI (q := 5) f_X0_64 (by assumption) rfl dX0_giveFirst_2 rfl ?_
  refine g_iconst (q := 6) (x := 1) dX0_giveFirst_5 (by decide) rfl ?_
  refine g_iadd (q := 7) dX0_giveFirst_6 rfl ?_
  refine g_putI (q := 10) f_X0_64 (by assumption) rfl rfl rfl dX0_giveFirst_7 rfl ?_
  refine g_gen (fun vq4 hvq4 => ?_)
  have hBq4 : br vq4 p (B.1, upd B.2.1 5 (B.2.1 5 + 1), B.2.2) := by
    have := hBq0.f 5 (v p 5 + 1)
    rw [hBq0.2.1] at this
    rw [hvq4, hBq0.2.1]; exact this
  have Fq4 : fr v vq4 p (p + 6) := by rw [hvq4]; exact Fq0.tr (fr.up2 (by omega) (by omega))
  clear hvq4
  refine g_aload_n (q := 11) dX0_giveFirst_10 rfl rfl ?_
  refine g_getR (q := 14) f_X0_21 (by assumption) rfl dX0_giveFirst_11 rfl ?_
  refine g_iconst (q := 15) (x := 0) dX0_giveFirst_14 (by decide) rfl ?_
  refine c_Vi (q := 18) (p_X5_removeAt (k := 0) s2 hBq4.2.2.1 (List.length_pos_iff.mpr hne)) k_X0_67 (by assumption) rfl (by decide) rfl rfl (Nat.le_of_ble_eq_true rfl) rfl rfl dX0_giveFirst_15 rfl ?_
  rintro x vq5 ⟨hxq5, hrq5, hfq5⟩
  have hBq5 := hBq4.it hrq5 hfq5
  have Fq5 : fr v vq5 p (p + 6) := Fq4.tr (hfq5.fr (by omega) (by omega))
  refine r_i dX0_giveFirst_18 rfl rfl rfl ?_
  exact ⟨hxq5, hBq5, Fq5⟩

set_option maxRecDepth 100000 in
set_option maxHeartbeats 4000000 in
theorem p_X0_keepFor {X : gj_X} {lim : Nat} {σ : gj_H} {v : gj_V} {p : Nat} {B : bS} (hs : bsh σ p) (hB : br v p B) {w : Int32} (hq : b_kept B w → B.2.2.2.length < 6) : gj_E X 1 m_X0_keepFor [.ref p, .int w] lim σ v (q_i lim σ (fun x v' => x = (b_keep B w).1 ∧ br v' p (b_keep B w).2 ∧ fr v v' p (p + 6))) := by
  obtain ⟨s0, s1, s2, s3⟩ := hs
  have s4 := s2.1
  have s5 := s3.1
  have hBq0 := hB
  have Fq0 : fr v v p (p + 6) := fr.rf _ _ _
  refine gj_E_at (L := [some (.ref p), some (.int w), none]) (k := 1) rfl (by decide) rfl ?_
  refine g_aload_n (q := 1) dX0_keepFor_0 rfl rfl ?_
  refine g_getR (q := 4) f_X0_12 (by assumption) rfl dX0_keepFor_1 rfl ?_
  refine c_Vv (q := 7) (p_X2_enter s1) k_X0_28 (by assumption) rfl (by decide) rfl rfl (Nat.le_of_ble_eq_true rfl) rfl rfl dX0_keepFor_4 rfl ?_
  rintro vq1 hvq1
  have hBq1 : br vq1 p (ag_in B.1, B.2) := by rw [hvq1, hBq0.1]; exact hBq0.g _
  have Fq1 : fr v vq1 p (p + 6) := by rw [hvq1]; exact Fq0.tr (fr.up (by omega) (by omega))
  clear hvq1
  refine g_bipush (q := 9) (x := (-5)) dX0_keepFor_7 (by decide) rfl ?_
  refine g_istore_n (q := 10) dX0_keepFor_9 rfl rfl rfl rfl ?_
  dsimp only [List.set]
  refine g_aload_n (q := 11) dX0_keepFor_10 rfl rfl ?_
  refine g_iload_n (q := 12) dX0_keepFor_11 rfl rfl ?_
  refine c_Vi (q := 15) (p_X0_isKeptByAnother ⟨s0, s1, s2, s3⟩ hBq1) k_X0_38 (by assumption) rfl (by decide) rfl rfl (Nat.le_of_ble_eq_true rfl) rfl rfl dX0_keepFor_12 rfl ?_
  rintro x vq2 ⟨rfl, hvq2⟩
  subst vq2
  refine g_ifeq (t := 29) (q := 18) dX0_keepFor_15 (by decide) rfl (fun hq15 => ?_) (fun hq15 => ?_)
  · have hq15 := gn_b0 hq15
    refine g_aload_n (q := 30) dX0_keepFor_29 rfl rfl ?_
    refine g_iload_n (q := 31) dX0_keepFor_30 rfl rfl ?_
    refine g_putI (q := 34) f_X0_71 (by assumption) rfl rfl rfl dX0_keepFor_31 rfl ?_
    refine g_gen (fun vq3 hvq3 => ?_)
    have hBq3 : br vq3 p (ag_in B.1, upd B.2.1 7 w, B.2.2) := by rw [hvq3]; exact hBq1.f 7 _
    have Fq3 : fr v vq3 p (p + 6) := by rw [hvq3]; exact Fq1.tr (fr.up2 (by omega) (by omega))
    clear hvq3
    refine g_aload_n (q := 35) dX0_keepFor_34 rfl rfl ?_
    refine g_dup (q := 36) dX0_keepFor_35 rfl rfl ?_
    refine g_getI (q := 39) f_X0_74 (by assumption) rfl dX0_keepFor_36 rfl ?_
    refine g_iconst (q := 40) (x := 1) dX0_keepFor_39 (by decide) rfl ?_
    refine g_iadd (q := 41) dX0_keepFor_40 rfl ?_
    refine g_putI (q := 44) f_X0_74 (by assumption) rfl rfl rfl dX0_keepFor_41 rfl ?_
    refine g_gen (fun vq4 hvq4 => ?_)
    have hBq4 : br vq4 p (ag_in B.1, upd (upd B.2.1 7 w) 8 (B.2.1 8 + 1), B.2.2) := by
      have := hBq3.f 8 (vq3 p 8 + 1)
      rw [hBq3.2.1] at this
      rw [hvq4, hBq3.2.1]
      simpa [ud_n] using this
    have Fq4 : fr v vq4 p (p + 6) := by rw [hvq4]; exact Fq3.tr (fr.up2 (by omega) (by omega))
    clear hvq4
    refine g_aload_n (q := 45) dX0_keepFor_44 rfl rfl ?_
    refine g_getI (q := 48) f_X0_74 (by assumption) rfl dX0_keepFor_45 rfl ?_
    refine g_istore_n (q := 49) dX0_keepFor_48 rfl rfl rfl rfl ?_
    dsimp only [List.set]
    refine g_aload_n (q := 50) dX0_keepFor_49 rfl rfl ?_
    refine g_getR (q := 53) f_X0_12 (by assumption) rfl dX0_keepFor_50 rfl ?_
    refine c_Vv (q := 56) (p_X2_leave s1) k_X0_61 (by assumption) rfl (by decide) rfl rfl (Nat.le_of_ble_eq_true rfl) rfl rfl dX0_keepFor_53 rfl ?_
    rintro vq6 hvq6
    rw [hBq4.1] at hvq6
    have hBq6 := hBq4.g (ag_out (ag_in B.1))
    have Fq6 := Fq4.tr (fr.up (f := ag_out (ag_in B.1)) (show p ≤ p + 1 by omega) (show p + 1 < p + 6 by omega))
    rw [← hvq6] at hBq6 Fq6
    clear hvq6
    refine g_iload_n (q := 57) dX0_keepFor_56 rfl rfl ?_
    refine r_i dX0_keepFor_57 rfl rfl rfl ?_
    first | (rw [b_keep, if_pos hq15]; exact ⟨rfl, hBq6, Fq6⟩) | (rw [b_keep, if_neg hq15]; refine ⟨?_, hBq6, Fq6⟩; rw [hBq4.2.1]; simp [ud_s])
  · have hq15 := gn_b1 hq15
    refine g_aload_n (q := 19) dX0_keepFor_18 rfl rfl ?_
    refine g_getR (q := 22) f_X0_25 (by assumption) rfl dX0_keepFor_19 rfl ?_
    refine g_iload_n (q := 23) dX0_keepFor_22 rfl rfl ?_
    refine c_Vv (q := 26) (p_X5_addLast s3 hBq1.2.2.2 (hq hq15)) k_X0_45 (by assumption) rfl (by decide) rfl rfl (Nat.le_of_ble_eq_true rfl) rfl rfl dX0_keepFor_23 rfl ?_
    rintro vq3 ⟨hrq3, hfq3⟩
    have hBq4 := hBq1.qu hrq3 hfq3
    have Fq4 : fr v vq3 p (p + 6) := Fq1.tr (hfq3.fr (by omega) (by omega))
    refine g_goto (q := 49) dX0_keepFor_26 (by decide) ?_
    refine g_aload_n (q := 50) dX0_keepFor_49 rfl rfl ?_
    refine g_getR (q := 53) f_X0_12 (by assumption) rfl dX0_keepFor_50 rfl ?_
    refine c_Vv (q := 56) (p_X2_leave s1) k_X0_61 (by assumption) rfl (by decide) rfl rfl (Nat.le_of_ble_eq_true rfl) rfl rfl dX0_keepFor_53 rfl ?_
    rintro vq6 hvq6
    rw [hBq4.1] at hvq6
    have hBq6 := hBq4.g (ag_out (ag_in B.1))
    have Fq6 := Fq4.tr (fr.up (f := ag_out (ag_in B.1)) (show p ≤ p + 1 by omega) (show p + 1 < p + 6 by omega))
    rw [← hvq6] at hBq6 Fq6
    clear hvq6
    refine g_iload_n (q := 57) dX0_keepFor_56 rfl rfl ?_
    refine r_i dX0_keepFor_57 rfl rfl rfl ?_
    first | (rw [b_keep, if_pos hq15]; exact ⟨rfl, hBq6, Fq6⟩) | (rw [b_keep, if_neg hq15]; refine ⟨?_, hBq6, Fq6⟩; rw [hBq4.2.1]; simp [ud_s])

set_option maxRecDepth 100000 in
set_option maxHeartbeats 4000000 in
theorem p_X0_letGo {X : gj_X} {lim : Nat} {σ : gj_H} {v : gj_V} {p : Nat} {B : bS} (hs : bsh σ p) (hB : br v p B) : gj_E X 1 m_X0_letGo [.ref p] lim σ v (q_i lim σ (fun x v' => x = (b_let B).1 ∧ br v' p (b_let B).2 ∧ fr v v' p (p + 6))) := by
  obtain ⟨s0, s1, s2, s3⟩ := hs
  have s4 := s2.1
  have s5 := s3.1
  have hBq0 := hB
  have Fq0 : fr v v p (p + 6) := fr.rf _ _ _
  refine gj_E_at (L := [some (.ref p), none]) (k := 1) rfl (by decide) rfl ?_
  by_cases hq : B.2.2.2 = []
  · refine g_aload_n (q := 1) dX0_letGo_0 rfl rfl ?_
    refine g_getR (q := 4) f_X0_12 (by assumption) rfl dX0_letGo_1 rfl ?_
    refine c_Vv (q := 7) (p_X2_enter s1) k_X0_28 (by assumption) rfl (by decide) rfl rfl (Nat.le_of_ble_eq_true rfl) rfl rfl dX0_letGo_4 rfl ?_
    rintro vq1 hvq1
    have hBq1 : br vq1 p (ag_in B.1, B.2) := by rw [hvq1, hBq0.1]; exact hBq0.g _
    have Fq1 : fr v vq1 p (p + 6) := by rw [hvq1]; exact Fq0.tr (fr.up (by omega) (by omega))
    clear hvq1
    refine g_aload_n (q := 8) dX0_letGo_7 rfl rfl ?_
    refine g_dup (q := 9) dX0_letGo_8 rfl rfl ?_
    refine g_getI (q := 12) f_X0_74 (by assumption) rfl dX0_letGo_9 rfl ?_
    refine g_iconst (q := 13) (x := 1) dX0_letGo_12 (by decide) rfl ?_
    refine g_isub (q := 14) dX0_letGo_13 rfl ?_
    refine g_putI (q := 17) f_X0_74 (by assumption) rfl rfl rfl dX0_letGo_14 rfl ?_
    refine g_gen (fun vq2 hvq2 => ?_)
    have hBq2 : br vq2 p (ag_in B.1, upd B.2.1 8 (B.2.1 8 - 1), B.2.2) := by
      have := hBq1.f 8 (vq1 p 8 - 1)
      rw [hBq1.2.1] at this
      rw [hvq2, hBq1.2.1]; exact this
    have Fq2 : fr v vq2 p (p + 6) := by rw [hvq2]; exact Fq1.tr (fr.up2 (by omega) (by omega))
    clear hvq2
    have eq8 : vq2 p 8 = B.2.1 8 - 1 := by rw [hBq2.2.1]; simp [ud_s]
    refine g_aload_n (q := 18) dX0_letGo_17 rfl rfl ?_
    refine g_getI (q := 21) f_X0_74 (by assumption) rfl dX0_letGo_18 rfl ?_
    refine g_istore_n (q := 22) dX0_letGo_21 rfl rfl rfl rfl ?_
    dsimp only [List.set]
    refine g_aload_n (q := 23) dX0_letGo_22 rfl rfl ?_
    refine g_getI (q := 26) f_X0_74 (by assumption) rfl dX0_letGo_23 rfl ?_
    refine g_ifne (t := 58) (q := 29) dX0_letGo_26 (by decide) rfl (fun hq26 => ?_) (fun hq26 => ?_)
    · rw [eq8] at hq26
      have hBq5 := hBq2
      have Fq5 := Fq2
      refine g_aload_n (q := 59) dX0_letGo_58 rfl rfl ?_
      refine g_getR (q := 62) f_X0_12 (by assumption) rfl dX0_letGo_59 rfl ?_
      refine c_Vv (q := 65) (p_X2_leave s1) k_X0_61 (by assumption) rfl (by decide) rfl rfl (Nat.le_of_ble_eq_true rfl) rfl rfl dX0_letGo_62 rfl ?_
      rintro vq6 hvq6
      rw [hBq5.1] at hvq6
      have hBq6 := hBq5.g (ag_out (ag_in B.1))
      have Fq6 := Fq5.tr (fr.up (f := ag_out (ag_in B.1)) (show p ≤ p + 1 by omega) (show p + 1 < p + 6 by omega))
      rw [← hvq6] at hBq6 Fq6
      clear hvq6
      refine g_iload_n (q := 66) dX0_letGo_65 rfl rfl ?_
      refine r_i dX0_letGo_66 rfl rfl rfl ?_
      first | (rw [b_let, if_neg hq26]; exact ⟨eq8, hBq6, Fq6⟩) | (rw [b_let, if_pos hq26, if_pos hq]; exact ⟨eq8, hBq6, Fq6⟩) | (rw [b_let, if_pos hq26, if_neg hq]; exact ⟨eq8, hBq6, Fq6⟩)
    · rw [eq8] at hq26
      refine g_aload_n (q := 30) dX0_letGo_29 rfl rfl ?_
      refine g_aload_n (q := 31) dX0_letGo_30 rfl rfl ?_
      refine g_getR (q := 34) f_X0_25 (by assumption) rfl dX0_letGo_31 rfl ?_
      refine g_iconst (q := 35) (x := 0) dX0_letGo_34 (by decide) rfl ?_
      refine c_Vi (q := 38) (p_X5_removeAt_none s3 (by have := hBq2.2.2.2; simp only [hq] at this; exact this)) k_X0_67 (by assumption) rfl (by decide) rfl rfl (Nat.le_of_ble_eq_true rfl) rfl rfl dX0_letGo_35 rfl ?_
      rintro x vq3 ⟨rfl, hvq3⟩
      subst vq3
      refine g_putI (q := 41) f_X0_71 (by assumption) rfl rfl rfl dX0_letGo_38 rfl ?_
      refine g_gen (fun vq4 hvq4 => ?_)
      have hBq4 : br vq4 p (ag_in B.1, upd (upd B.2.1 8 (B.2.1 8 - 1)) 7 (-1), B.2.2.1, []) := by
        rw [hvq4]
        have := hBq2.f 7 (-1)
        refine ⟨this.1, this.2.1, this.2.2.1, ?_⟩
        have hh := this.2.2.2
        simp only [hq] at hh
        exact hh
      have Fq4 : fr v vq4 p (p + 6) := by rw [hvq4]; exact Fq2.tr (fr.up2 (by omega) (by omega))
      clear hvq4
      refine g_aload_n (q := 42) dX0_letGo_41 rfl rfl ?_
      refine g_aload_n (q := 43) dX0_letGo_42 rfl rfl ?_
      refine g_getI (q := 46) f_X0_71 (by assumption) rfl dX0_letGo_43 rfl ?_
      refine g_iconst (q := 47) (x := (-1)) dX0_letGo_46 (by decide) rfl ?_
      refine g_icmpne (t := 54) (q := 50) dX0_letGo_47 (by decide) rfl (fun hq47 => ?_) (fun hq47 => ?_)
      · exact absurd (show vq4 p 7 = -1 by rw [hBq4.2.1]; simp [ud_s]) hq47
      · refine g_iconst (q := 51) (x := 0) dX0_letGo_50 (by decide) rfl ?_
        refine g_goto (q := 55) dX0_letGo_51 (by decide) ?_
        refine g_putI (q := 58) f_X0_74 (by assumption) rfl rfl rfl dX0_letGo_55 rfl ?_
        refine g_gen (fun vq5 hvq5 => ?_)
        have hBq5 : br vq5 p (ag_in B.1, upd (upd (upd B.2.1 8 (B.2.1 8 - 1)) 7 (-1)) 8 0, B.2.2.1, []) := by rw [hvq5]; exact hBq4.f 8 0
        have Fq5 : fr v vq5 p (p + 6) := by rw [hvq5]; exact Fq4.tr (fr.up2 (by omega) (by omega))
        refine g_aload_n (q := 59) dX0_letGo_58 rfl rfl ?_
        refine g_getR (q := 62) f_X0_12 (by assumption) rfl dX0_letGo_59 rfl ?_
        refine c_Vv (q := 65) (p_X2_leave s1) k_X0_61 (by assumption) rfl (by decide) rfl rfl (Nat.le_of_ble_eq_true rfl) rfl rfl dX0_letGo_62 rfl ?_
        rintro vq6 hvq6
        rw [hBq5.1] at hvq6
        have hBq6 := hBq5.g (ag_out (ag_in B.1))
        have Fq6 := Fq5.tr (fr.up (f := ag_out (ag_in B.1)) (show p ≤ p + 1 by omega) (show p + 1 < p + 6 by omega))
        rw [← hvq6] at hBq6 Fq6
        clear hvq6
        refine g_iload_n (q := 66) dX0_letGo_65 rfl rfl ?_
        refine r_i dX0_letGo_66 rfl rfl rfl ?_
        first | (rw [b_let, if_neg hq26]; exact ⟨eq8, hBq6, Fq6⟩) | (rw [b_let, if_pos hq26, if_pos hq]; exact ⟨eq8, hBq6, Fq6⟩) | (rw [b_let, if_pos hq26, if_neg hq]; exact ⟨eq8, hBq6, Fq6⟩)
  · refine g_aload_n (q := 1) dX0_letGo_0 rfl rfl ?_
    refine g_getR (q := 4) f_X0_12 (by assumption) rfl dX0_letGo_1 rfl ?_
    refine c_Vv (q := 7) (p_X2_enter s1) k_X0_28 (by assumption) rfl (by decide) rfl rfl (Nat.le_of_ble_eq_true rfl) rfl rfl dX0_letGo_4 rfl ?_
    rintro vq1 hvq1
    have hBq1 : br vq1 p (ag_in B.1, B.2) := by rw [hvq1, hBq0.1]; exact hBq0.g _
    have Fq1 : fr v vq1 p (p + 6) := by rw [hvq1]; exact Fq0.tr (fr.up (by omega) (by omega))
    clear hvq1
    refine g_aload_n (q := 8) dX0_letGo_7 rfl rfl ?_
    refine g_dup (q := 9) dX0_letGo_8 rfl rfl ?_
    refine g_getI (q := 12) f_X0_74 (by assumption) rfl dX0_letGo_9 rfl ?_
    refine g_iconst (q := 13) (x := 1) dX0_letGo_12 (by decide) rfl ?_
    refine g_isub (q := 14) dX0_letGo_13 rfl ?_
    refine g_putI (q := 17) f_X0_74 (by assumption) rfl rfl rfl dX0_letGo_14 rfl ?_
    refine g_gen (fun vq2 hvq2 => ?_)
    have hBq2 : br vq2 p (ag_in B.1, upd B.2.1 8 (B.2.1 8 - 1), B.2.2) := by
      have := hBq1.f 8 (vq1 p 8 - 1)
      rw [hBq1.2.1] at this
      rw [hvq2, hBq1.2.1]; exact this
    have Fq2 : fr v vq2 p (p + 6) := by rw [hvq2]; exact Fq1.tr (fr.up2 (by omega) (by omega))
    clear hvq2
    have eq8 : vq2 p 8 = B.2.1 8 - 1 := by rw [hBq2.2.1]; simp [ud_s]
    refine g_aload_n (q := 18) dX0_letGo_17 rfl rfl ?_
    refine g_getI (q := 21) f_X0_74 (by assumption) rfl dX0_letGo_18 rfl ?_
    refine g_istore_n (q := 22) dX0_letGo_21 rfl rfl rfl rfl ?_
    dsimp only [List.set]
    refine g_aload_n (q := 23) dX0_letGo_22 rfl rfl ?_
    refine g_getI (q := 26) f_X0_74 (by assumption) rfl dX0_letGo_23 rfl ?_
    refine g_ifne (t := 58) (q := 29) dX0_letGo_26 (by decide) rfl (fun hq26 => ?_) (fun hq26 => ?_)
    · rw [eq8] at hq26
      have hBq5 := hBq2
      have Fq5 := Fq2
      refine g_aload_n (q := 59) dX0_letGo_58 rfl rfl ?_
      refine g_getR (q := 62) f_X0_12 (by assumption) rfl dX0_letGo_59 rfl ?_
      refine c_Vv (q := 65) (p_X2_leave s1) k_X0_61 (by assumption) rfl (by decide) rfl rfl (Nat.le_of_ble_eq_true rfl) rfl rfl dX0_letGo_62 rfl ?_
      rintro vq6 hvq6
      rw [hBq5.1] at hvq6
      have hBq6 := hBq5.g (ag_out (ag_in B.1))
      have Fq6 := Fq5.tr (fr.up (f := ag_out (ag_in B.1)) (show p ≤ p + 1 by omega) (show p + 1 < p + 6 by omega))
      rw [← hvq6] at hBq6 Fq6
      clear hvq6
      refine g_iload_n (q := 66) dX0_letGo_65 rfl rfl ?_
      refine r_i dX0_letGo_66 rfl rfl rfl ?_
      first | (rw [b_let, if_neg hq26]; exact ⟨eq8, hBq6, Fq6⟩) | (rw [b_let, if_pos hq26, if_pos hq]; exact ⟨eq8, hBq6, Fq6⟩) | (rw [b_let, if_pos hq26, if_neg hq]; exact ⟨eq8, hBq6, Fq6⟩)
    · rw [eq8] at hq26
      refine g_aload_n (q := 30) dX0_letGo_29 rfl rfl ?_
      refine g_aload_n (q := 31) dX0_letGo_30 rfl rfl ?_
      refine g_getR (q := 34) f_X0_25 (by assumption) rfl dX0_letGo_31 rfl ?_
      refine g_iconst (q := 35) (x := 0) dX0_letGo_34 (by decide) rfl ?_
      refine c_Vi (q := 38) (p_X5_removeAt (k := 0) s3 hBq2.2.2.2 (List.length_pos_iff.mpr hq)) k_X0_67 (by assumption) rfl (by decide) rfl rfl (Nat.le_of_ble_eq_true rfl) rfl rfl dX0_letGo_35 rfl ?_
      rintro x vq3 ⟨rfl, hrq3, hfq3⟩
      have hBq3 := hBq2.qu hrq3 hfq3
      have Fq3 : fr v vq3 p (p + 6) := Fq2.tr (hfq3.fr (by omega) (by omega))
      refine g_putI (q := 41) f_X0_71 (by assumption) rfl rfl rfl dX0_letGo_38 rfl ?_
      refine g_gen (fun vq4 hvq4 => ?_)
      have hBq4 : br vq4 p (ag_in B.1, upd (upd B.2.1 8 (B.2.1 8 - 1)) 7 (B.2.2.2.getD 0 0), B.2.2.1, B.2.2.2.eraseIdx 0) := by rw [hvq4]; exact hBq3.f 7 _
      have Fq4 : fr v vq4 p (p + 6) := by rw [hvq4]; exact Fq3.tr (fr.up2 (by omega) (by omega))
      clear hvq4
      have eq7 : vq4 p 7 = B.2.2.2.getD 0 0 := by rw [hBq4.2.1]; simp [ud_s]
      refine g_aload_n (q := 42) dX0_letGo_41 rfl rfl ?_
      refine g_aload_n (q := 43) dX0_letGo_42 rfl rfl ?_
      refine g_getI (q := 46) f_X0_71 (by assumption) rfl dX0_letGo_43 rfl ?_
      refine g_iconst (q := 47) (x := (-1)) dX0_letGo_46 (by decide) rfl ?_
      refine g_icmpne (t := 54) (q := 50) dX0_letGo_47 (by decide) rfl (fun hq47 => ?_) (fun hq47 => ?_)
      · rw [eq7] at hq47
        refine g_iconst (q := 55) (x := 1) dX0_letGo_54 (by decide) rfl ?_
        refine g_putI (q := 58) f_X0_74 (by assumption) rfl rfl rfl dX0_letGo_55 rfl ?_
        refine g_gen (fun vq5 hvq5 => ?_)
        have hBq5 : br vq5 p (ag_in B.1, upd (upd (upd B.2.1 8 (B.2.1 8 - 1)) 7 (B.2.2.2.getD 0 0)) 8 (if B.2.2.2.getD 0 0 = -1 then 0 else 1), B.2.2.1, B.2.2.2.eraseIdx 0) := by
          have := hBq4.f 8 (if B.2.2.2.getD 0 0 = -1 then 0 else 1)
          rw [hvq5]
          first | (rw [if_pos hq47] at this ⊢; exact this) | (rw [if_neg hq47] at this ⊢; exact this)
        have Fq5 : fr v vq5 p (p + 6) := by rw [hvq5]; exact Fq4.tr (fr.up2 (by omega) (by omega))
        refine g_aload_n (q := 59) dX0_letGo_58 rfl rfl ?_
        refine g_getR (q := 62) f_X0_12 (by assumption) rfl dX0_letGo_59 rfl ?_
        refine c_Vv (q := 65) (p_X2_leave s1) k_X0_61 (by assumption) rfl (by decide) rfl rfl (Nat.le_of_ble_eq_true rfl) rfl rfl dX0_letGo_62 rfl ?_
        rintro vq6 hvq6
        rw [hBq5.1] at hvq6
        have hBq6 := hBq5.g (ag_out (ag_in B.1))
        have Fq6 := Fq5.tr (fr.up (f := ag_out (ag_in B.1)) (show p ≤ p + 1 by omega) (show p + 1 < p + 6 by omega))
        rw [← hvq6] at hBq6 Fq6
        clear hvq6
        refine g_iload_n (q := 66) dX0_letGo_65 rfl rfl ?_
        refine r_i dX0_letGo_66 rfl rfl rfl ?_
        first | (rw [b_let, if_neg hq26]; exact ⟨eq8, hBq6, Fq6⟩) | (rw [b_let, if_pos hq26, if_pos hq]; exact ⟨eq8, hBq6, Fq6⟩) | (rw [b_let, if_pos hq26, if_neg hq]; exact ⟨eq8, hBq6, Fq6⟩)
      · rw [eq7] at hq47
        refine g_iconst (q := 51) (x := 0) dX0_letGo_50 (by decide) rfl ?_
        refine g_goto (q := 55) dX0_letGo_51 (by decide) ?_
        refine g_putI (q := 58) f_X0_74 (by assumption) rfl rfl rfl dX0_letGo_55 rfl ?_
        refine g_gen (fun vq5 hvq5 => ?_)
        have hBq5 : br vq5 p (ag_in B.1, upd (upd (upd B.2.1 8 (B.2.1 8 - 1)) 7 (B.2.2.2.getD 0 0)) 8 (if B.2.2.2.getD 0 0 = -1 then 0 else 1), B.2.2.1, B.2.2.2.eraseIdx 0) := by
          have := hBq4.f 8 (if B.2.2.2.getD 0 0 = -1 then 0 else 1)
          rw [hvq5]
          first | (rw [if_pos hq47] at this ⊢; exact this) | (rw [if_neg hq47] at this ⊢; exact this)
        have Fq5 : fr v vq5 p (p + 6) := by rw [hvq5]; exact Fq4.tr (fr.up2 (by omega) (by omega))
        refine g_aload_n (q := 59) dX0_letGo_58 rfl rfl ?_
        refine g_getR (q := 62) f_X0_12 (by assumption) rfl dX0_letGo_59 rfl ?_
        refine c_Vv (q := 65) (p_X2_leave s1) k_X0_61 (by assumption) rfl (by decide) rfl rfl (Nat.le_of_ble_eq_true rfl) rfl rfl dX0_letGo_62 rfl ?_
        rintro vq6 hvq6
        rw [hBq5.1] at hvq6
        have hBq6 := hBq5.g (ag_out (ag_in B.1))
        have Fq6 := Fq5.tr (fr.up (f := ag_out (ag_in B.1)) (show p ≤ p + 1 by omega) (show p + 1 < p + 6 by omega))
        rw [← hvq6] at hBq6 Fq6
        clear hvq6
        refine g_iload_n (q := 66) dX0_letGo_65 rfl rfl ?_
        refine r_i dX0_letGo_66 rfl rfl rfl ?_
        first | (rw [b_let, if_neg hq26]; exact ⟨eq8, hBq6, Fq6⟩) | (rw [b_let, if_pos hq26, if_pos hq]; exact ⟨eq8, hBq6, Fq6⟩) | (rw [b_let, if_pos hq26, if_neg hq]; exact ⟨eq8, hBq6, Fq6⟩)

set_option maxRecDepth 100000 in
set_option maxHeartbeats 4000000 in
theorem p_X0_bufferTold {X : gj_X} {lim : Nat} {σ : gj_H} {v : gj_V} {p : Nat} {B : bS} (hs : bsh σ p) (hB : br v p B) {k : Nat} (hk : k < 8) : gj_E X 0 m_X0_bufferTold [.ref p, .int (nI k)] lim σ v (q_i lim σ (fun x v' => x = b_told B k ∧ v' = v)) := by
  obtain ⟨s0, s1, s2, s3⟩ := hs
  have s4 := s2.1
  have s5 := s3.1
  refine gj_E_at (L := [some (.ref p), some (.int (nI k))]) (k := 0) rfl (by decide) rfl ?_
  rcases (show k = 0 ∨ k = 1 ∨ k = 2 ∨ k = 3 ∨ k = 4 ∨ k = 5 ∨ k = 6 ∨ k = 7 by omega) with rfl | rfl | rfl | rfl | rfl | rfl | rfl | rfl
  · refine g_iload_n (q := 1) dX0_bufferTold_0 rfl rfl ?_
    refine g_tableIn (t := 44) (o := 43) dX0_bufferTold_1 (by decide) (by decide) (by decide) (by decide) ?_
    refine g_aload_n (q := 45) dX0_bufferTold_44 rfl rfl ?_
    refine g_getR (q := 48) f_X0_21 (by assumption) rfl dX0_bufferTold_45 rfl ?_
    refine g_getI (q := 51) f_X0_31 (by assumption) rfl dX0_bufferTold_48 rfl ?_
    refine r_i dX0_bufferTold_51 rfl rfl rfl ?_
    exact ⟨by first | exact congrFun hB.2.1 _ | exact congrFun hB.1 _ | exact hB.2.2.1.1 | exact hB.2.2.2.1, rfl⟩
  · refine g_iload_n (q := 1) dX0_bufferTold_0 rfl rfl ?_
    refine g_tableIn (t := 52) (o := 51) dX0_bufferTold_1 (by decide) (by decide) (by decide) (by decide) ?_
    refine g_aload_n (q := 53) dX0_bufferTold_52 rfl rfl ?_
    refine g_getI (q := 56) f_X0_35 (by assumption) rfl dX0_bufferTold_53 rfl ?_
    refine r_i dX0_bufferTold_56 rfl rfl rfl ?_
    exact ⟨by first | exact congrFun hB.2.1 _ | exact congrFun hB.1 _ | exact hB.2.2.1.1 | exact hB.2.2.2.1, rfl⟩
  · refine g_iload_n (q := 1) dX0_bufferTold_0 rfl rfl ?_
    refine g_tableIn (t := 57) (o := 56) dX0_bufferTold_1 (by decide) (by decide) (by decide) (by decide) ?_
    refine g_aload_n (q := 58) dX0_bufferTold_57 rfl rfl ?_
    refine g_getI (q := 61) f_X0_49 (by assumption) rfl dX0_bufferTold_58 rfl ?_
    refine r_i dX0_bufferTold_61 rfl rfl rfl ?_
    exact ⟨by first | exact congrFun hB.2.1 _ | exact congrFun hB.1 _ | exact hB.2.2.1.1 | exact hB.2.2.2.1, rfl⟩
  · refine g_iload_n (q := 1) dX0_bufferTold_0 rfl rfl ?_
    refine g_tableIn (t := 62) (o := 61) dX0_bufferTold_1 (by decide) (by decide) (by decide) (by decide) ?_
    refine g_aload_n (q := 63) dX0_bufferTold_62 rfl rfl ?_
    refine g_getI (q := 66) f_X0_64 (by assumption) rfl dX0_bufferTold_63 rfl ?_
    refine r_i dX0_bufferTold_66 rfl rfl rfl ?_
    exact ⟨by first | exact congrFun hB.2.1 _ | exact congrFun hB.1 _ | exact hB.2.2.1.1 | exact hB.2.2.2.1, rfl⟩
  · refine g_iload_n (q := 1) dX0_bufferTold_0 rfl rfl ?_
    refine g_tableIn (t := 67) (o := 66) dX0_bufferTold_1 (by decide) (by decide) (by decide) (by decide) ?_
    refine g_aload_n (q := 68) dX0_bufferTold_67 rfl rfl ?_
    refine g_getI (q := 71) f_X0_52 (by assumption) rfl dX0_bufferTold_68 rfl ?_
    refine r_i dX0_bufferTold_71 rfl rfl rfl ?_
    exact ⟨by first | exact congrFun hB.2.1 _ | exact congrFun hB.1 _ | exact hB.2.2.1.1 | exact hB.2.2.2.1, rfl⟩
  · refine g_iload_n (q := 1) dX0_bufferTold_0 rfl rfl ?_
    refine g_tableIn (t := 72) (o := 71) dX0_bufferTold_1 (by decide) (by decide) (by decide) (by decide) ?_
    refine g_aload_n (q := 73) dX0_bufferTold_72 rfl rfl ?_
    refine g_getR (q := 76) f_X0_12 (by assumption) rfl dX0_bufferTold_73 rfl ?_
    refine g_getI (q := 79) f_X0_77 (by assumption) rfl dX0_bufferTold_76 rfl ?_
    refine r_i dX0_bufferTold_79 rfl rfl rfl ?_
    exact ⟨by first | exact congrFun hB.2.1 _ | exact congrFun hB.1 _ | exact hB.2.2.1.1 | exact hB.2.2.2.1, rfl⟩
  · refine g_iload_n (q := 1) dX0_bufferTold_0 rfl rfl ?_
    refine g_tableIn (t := 80) (o := 79) dX0_bufferTold_1 (by decide) (by decide) (by decide) (by decide) ?_
    refine g_aload_n (q := 81) dX0_bufferTold_80 rfl rfl ?_
    refine g_getR (q := 84) f_X0_12 (by assumption) rfl dX0_bufferTold_81 rfl ?_
    refine g_getI (q := 87) f_X0_80 (by assumption) rfl dX0_bufferTold_84 rfl ?_
    refine r_i dX0_bufferTold_87 rfl rfl rfl ?_
    exact ⟨by first | exact congrFun hB.2.1 _ | exact congrFun hB.1 _ | exact hB.2.2.1.1 | exact hB.2.2.2.1, rfl⟩
  · refine g_iload_n (q := 1) dX0_bufferTold_0 rfl rfl ?_
    refine g_tableOut (t := 88) dX0_bufferTold_1 (by decide) (by decide) ?_
    refine g_aload_n (q := 89) dX0_bufferTold_88 rfl rfl ?_
    refine g_getR (q := 92) f_X0_12 (by assumption) rfl dX0_bufferTold_89 rfl ?_
    refine g_getI (q := 95) f_X0_83 (by assumption) rfl dX0_bufferTold_92 rfl ?_
    refine r_i dX0_bufferTold_95 rfl rfl rfl ?_
    exact ⟨by first | exact congrFun hB.2.1 _ | exact congrFun hB.1 _ | exact hB.2.2.1.1 | exact hB.2.2.2.1, rfl⟩

set_option maxRecDepth 100000 in
set_option maxHeartbeats 4000000 in
theorem p_X0_keepingTold {X : gj_X} {lim : Nat} {σ : gj_H} {v : gj_V} {p : Nat} {B : bS} (hs : bsh σ p) (hB : br v p B) {k : Nat} (hk : k < 3) : gj_E X 0 m_X0_keepingTold [.ref p, .int (nI k)] lim σ v (q_i lim σ (fun x v' => x = b_ktold B k ∧ v' = v)) := by
  obtain ⟨s0, s1, s2, s3⟩ := hs
  have s4 := s2.1
  have s5 := s3.1
  refine gj_E_at (L := [some (.ref p), some (.int (nI k))]) (k := 0) rfl (by decide) rfl ?_
  rcases (show k = 0 ∨ k = 1 ∨ k = 2 by omega) with rfl | rfl | rfl
  · refine g_iload_n (q := 1) dX0_keepingTold_0 rfl rfl ?_
    refine g_lookup (t := 28) (o := 27) dX0_keepingTold_1 (by decide) (by decide) (by decide) ?_
    refine g_aload_n (q := 29) dX0_keepingTold_28 rfl rfl ?_
    refine g_getI (q := 32) f_X0_71 (by assumption) rfl dX0_keepingTold_29 rfl ?_
    refine r_i dX0_keepingTold_32 rfl rfl rfl ?_
    exact ⟨by first | exact congrFun hB.2.1 _ | exact congrFun hB.1 _ | exact hB.2.2.1.1 | exact hB.2.2.2.1, rfl⟩
  · refine g_iload_n (q := 1) dX0_keepingTold_0 rfl rfl ?_
    refine g_lookup (t := 33) (o := 32) dX0_keepingTold_1 (by decide) (by decide) (by decide) ?_
    refine g_aload_n (q := 34) dX0_keepingTold_33 rfl rfl ?_
    refine g_getI (q := 37) f_X0_74 (by assumption) rfl dX0_keepingTold_34 rfl ?_
    refine r_i dX0_keepingTold_37 rfl rfl rfl ?_
    exact ⟨by first | exact congrFun hB.2.1 _ | exact congrFun hB.1 _ | exact hB.2.2.1.1 | exact hB.2.2.2.1, rfl⟩
  · refine g_iload_n (q := 1) dX0_keepingTold_0 rfl rfl ?_
    refine g_lookup (t := 38) (o := 37) dX0_keepingTold_1 (by decide) (by decide) (by decide) ?_
    refine g_aload_n (q := 39) dX0_keepingTold_38 rfl rfl ?_
    refine g_getR (q := 42) f_X0_25 (by assumption) rfl dX0_keepingTold_39 rfl ?_
    refine g_getI (q := 45) f_X0_31 (by assumption) rfl dX0_keepingTold_42 rfl ?_
    refine r_i dX0_keepingTold_45 rfl rfl rfl ?_
    exact ⟨by first | exact congrFun hB.2.1 _ | exact congrFun hB.1 _ | exact hB.2.2.1.1 | exact hB.2.2.2.1, rfl⟩

theorem rr_zero {v : gj_V} {r : Nat} : rr (gj_up2 v r 1 0) r [] ∧ fr2 v (gj_up2 v r 1 0) r := by
  refine ⟨⟨by rw [gu_2, gu_s, ud_s]; rfl, by simp, fun i hi => by simp at hi⟩, fun a h1 h2 => by rw [gu_2, gu_n _ _ h1]⟩
set_option maxRecDepth 100000 in
set_option maxHeartbeats 4000000 in
theorem p_X0_startAnew {X : gj_X} {lim : Nat} {σ : gj_H} {v : gj_V} {p : Nat} {B : bS} (hs : bsh σ p) (hB : br v p B) : gj_E X 1 m_X0_startAnew [.ref p] lim σ v (q_v lim σ (fun v' => br v' p (b_new B) ∧ fr v v' p (p + 6))) := by
  obtain ⟨s0, s1, s2, s3⟩ := hs
  have s4 := s2.1
  have s5 := s3.1
  have hBq0 := hB
  have Fq0 : fr v v p (p + 6) := fr.rf _ _ _
  refine gj_E_at (L := [some (.ref p)]) (k := 0) rfl (by decide) rfl ?_
  refine g_aload_n (q := 1) dX0_startAnew_0 rfl rfl ?_
  refine g_getR (q := 4) f_X0_12 (by assumption) rfl dX0_startAnew_1 rfl ?_
  refine c_Vv (q := 7) (p_X2_startAnew s1) k_X0_86 (by assumption) rfl (by decide) rfl rfl (Nat.le_of_ble_eq_true rfl) rfl rfl dX0_startAnew_4 rfl ?_
  rintro vq1 hvq1
  have hBq1 : br vq1 p (ag_cp 4 B.1 (fun _ => 0), B.2) := by rw [hvq1, hBq0.1]; exact hBq0.g _
  have Fq1 : fr v vq1 p (p + 6) := by rw [hvq1]; exact fr.up (by omega) (by omega)
  clear hvq1
  refine g_aload_n (q := 8) dX0_startAnew_7 rfl rfl ?_
  refine g_getR (q := 11) f_X0_21 (by assumption) rfl dX0_startAnew_8 rfl ?_
  refine g_iconst (q := 12) (x := 0) dX0_startAnew_11 (by decide) rfl ?_
  refine g_putI (q := 15) f_X0_31 (by assumption) rfl rfl rfl dX0_startAnew_12 rfl ?_
  refine g_gen (fun vq2 hvq2 => ?_)
  have hBq2 : br vq2 p (ag_cp 4 B.1 (fun _ => 0), B.2.1, [], B.2.2.2) := by rw [hvq2]; exact hBq1.it rr_zero.1 rr_zero.2
  have Fq2 : fr v vq2 p (p + 6) := by rw [hvq2]; exact Fq1.tr (fr.up2 (by omega) (by omega))
  clear hvq2
  refine g_aload_n (q := 16) dX0_startAnew_15 rfl rfl ?_
  refine g_getR (q := 19) f_X0_25 (by assumption) rfl dX0_startAnew_16 rfl ?_
  refine g_iconst (q := 20) (x := 0) dX0_startAnew_19 (by decide) rfl ?_
  refine g_putI (q := 23) f_X0_31 (by assumption) rfl rfl rfl dX0_startAnew_20 rfl ?_
  refine g_gen (fun vq3 hvq3 => ?_)
  have hBq3 : br vq3 p (ag_cp 4 B.1 (fun _ => 0), B.2.1, [], []) := by rw [hvq3]; exact hBq2.qu rr_zero.1 rr_zero.2
  have Fq3 : fr v vq3 p (p + 6) := by rw [hvq3]; exact Fq2.tr (fr.up2 (by omega) (by omega))
  clear hvq3
  refine g_aload_n (q := 24) dX0_startAnew_23 rfl rfl ?_
  refine g_iconst (q := 25) (x := 2) dX0_startAnew_24 (by decide) rfl ?_
  refine g_putI (q := 28) f_X0_35 (by assumption) rfl rfl rfl dX0_startAnew_25 rfl ?_
  refine g_gen (fun vq4 hvq4 => ?_)
  have hBq4 : br vq4 p (ag_cp 4 B.1 (fun _ => 0), upd B.2.1 3 2, [], []) := by rw [hvq4]; exact hBq3.f 3 _
  have Fq4 : fr v vq4 p (p + 6) := by rw [hvq4]; exact Fq3.tr (fr.up2 (by omega) (by omega))
  clear hvq4
  refine g_aload_n (q := 29) dX0_startAnew_28 rfl rfl ?_
  refine g_iconst (q := 30) (x := 0) dX0_startAnew_29 (by decide) rfl ?_
  refine g_putI (q := 33) f_X0_49 (by assumption) rfl rfl rfl dX0_startAnew_30 rfl ?_
  refine g_gen (fun vq5 hvq5 => ?_)
  have hBq5 : br vq5 p (ag_cp 4 B.1 (fun _ => 0), upd (upd B.2.1 3 2) 4 0, [], []) := by rw [hvq5]; exact hBq4.f 4 _
  have Fq5 : fr v vq5 p (p + 6) := by rw [hvq5]; exact Fq4.tr (fr.up2 (by omega) (by omega))
  clear hvq5
  refine g_aload_n (q := 34) dX0_startAnew_33 rfl rfl ?_
  refine g_iconst (q := 35) (x := 0) dX0_startAnew_34 (by decide) rfl ?_
  refine g_putI (q := 38) f_X0_64 (by assumption) rfl rfl rfl dX0_startAnew_35 rfl ?_
  refine g_gen (fun vq6 hvq6 => ?_)
  have hBq6 : br vq6 p (ag_cp 4 B.1 (fun _ => 0), upd (upd (upd B.2.1 3 2) 4 0) 5 0, [], []) := by rw [hvq6]; exact hBq5.f 5 _
  have Fq6 : fr v vq6 p (p + 6) := by rw [hvq6]; exact Fq5.tr (fr.up2 (by omega) (by omega))
  clear hvq6
  refine g_aload_n (q := 39) dX0_startAnew_38 rfl rfl ?_
  refine g_iconst (q := 40) (x := 0) dX0_startAnew_39 (by decide) rfl ?_
  refine g_putI (q := 43) f_X0_52 (by assumption) rfl rfl rfl dX0_startAnew_40 rfl ?_
  refine g_gen (fun vq7 hvq7 => ?_)
  have hBq7 : br vq7 p (ag_cp 4 B.1 (fun _ => 0), upd (upd (upd (upd B.2.1 3 2) 4 0) 5 0) 6 0, [], []) := by rw [hvq7]; exact hBq6.f 6 _
  have Fq7 : fr v vq7 p (p + 6) := by rw [hvq7]; exact Fq6.tr (fr.up2 (by omega) (by omega))
  clear hvq7
  refine g_aload_n (q := 44) dX0_startAnew_43 rfl rfl ?_
  refine g_iconst (q := 45) (x := (-1)) dX0_startAnew_44 (by decide) rfl ?_
  refine g_putI (q := 48) f_X0_71 (by assumption) rfl rfl rfl dX0_startAnew_45 rfl ?_
  refine g_gen (fun vq8 hvq8 => ?_)
  have hBq8 : br vq8 p (ag_cp 4 B.1 (fun _ => 0), upd (upd (upd (upd (upd B.2.1 3 2) 4 0) 5 0) 6 0) 7 (-1), [], []) := by rw [hvq8]; exact hBq7.f 7 _
  have Fq8 : fr v vq8 p (p + 6) := by rw [hvq8]; exact Fq7.tr (fr.up2 (by omega) (by omega))
  clear hvq8
  refine g_aload_n (q := 49) dX0_startAnew_48 rfl rfl ?_
  refine g_iconst (q := 50) (x := 0) dX0_startAnew_49 (by decide) rfl ?_
  refine g_putI (q := 53) f_X0_74 (by assumption) rfl rfl rfl dX0_startAnew_50 rfl ?_
  refine g_gen (fun vq9 hvq9 => ?_)
  have hBq9 : br vq9 p (ag_cp 4 B.1 (fun _ => 0), upd (upd (upd (upd (upd (upd B.2.1 3 2) 4 0) 5 0) 6 0) 7 (-1)) 8 0, [], []) := by rw [hvq9]; exact hBq8.f 8 _
  have Fq9 : fr v vq9 p (p + 6) := by rw [hvq9]; exact Fq8.tr (fr.up2 (by omega) (by omega))
  clear hvq9
  refine r_v dX0_startAnew_53 rfl rfl rfl ?_
  exact ⟨hBq9, Fq9⟩

set_option maxRecDepth 100000 in
set_option maxHeartbeats 4000000 in
theorem p_X0_copyFrom {X : gj_X} {lim : Nat} {σ : gj_H} {v : gj_V} {p : Nat} {B : bS} (hs : bsh σ p) (hB : br v p B) {z : Nat} {C : bS} (hz : bsh σ z) (hC : br v z C) (hne : z + 6 ≤ p ∨ p + 6 ≤ z) : gj_E X 1 m_X0_copyFrom [.ref p, .ref z] lim σ v (q_v lim σ (fun v' => br v' p (b_cp B C) ∧ fr v v' p (p + 6))) := by
  obtain ⟨s0, s1, s2, s3⟩ := hs
  have s4 := s2.1
  have s5 := s3.1
  obtain ⟨t0, t1, t2, t3⟩ := hz
  have t4 := t2.1
  have t5 := t3.1
  have hBq0 := hB
  have Fq0 : fr v v p (p + 6) := fr.rf _ _ _
  refine gj_E_at (L := [some (.ref p), some (.ref z)]) (k := 0) rfl (by decide) rfl ?_
  refine g_aload_n (q := 1) dX0_copyFrom_0 rfl rfl ?_
  refine g_getR (q := 4) f_X0_12 (by assumption) rfl dX0_copyFrom_1 rfl ?_
  refine g_aload_n (q := 5) dX0_copyFrom_4 rfl rfl ?_
  refine g_getR (q := 8) f_X0_12 (by assumption) rfl dX0_copyFrom_5 rfl ?_
  refine c_Vv (q := 11) (p_X2_copyFrom s1 t1 (by omega)) k_X0_89 (by assumption) rfl (by decide) rfl rfl (Nat.le_of_ble_eq_true rfl) rfl rfl dX0_copyFrom_8 rfl ?_
  rintro vq1 hvq1
  have hBq1 : br vq1 p (ag_cp 4 B.1 C.1, B.2) := by rw [hvq1, hBq0.1, hC.1]; exact hBq0.g _
  have Fq1 : fr v vq1 p (p + 6) := by rw [hvq1]; exact fr.up (by omega) (by omega)
  clear hvq1
  have hCq1 : br vq1 z C := hC.keep (fun a hq1 hq2 => Fq1 a (by omega))
  refine g_aload_n (q := 12) dX0_copyFrom_11 rfl rfl ?_
  refine g_getR (q := 15) f_X0_21 (by assumption) rfl dX0_copyFrom_12 rfl ?_
  refine g_aload_n (q := 16) dX0_copyFrom_15 rfl rfl ?_
  refine g_getR (q := 19) f_X0_21 (by assumption) rfl dX0_copyFrom_16 rfl ?_
  refine c_Vv (q := 22) (p_X5_copyFrom s2 t2 hCq1.2.2.1 ⟨by omega, by omega, by omega⟩) k_X0_93 (by assumption) rfl (by decide) rfl rfl (Nat.le_of_ble_eq_true rfl) rfl rfl dX0_copyFrom_19 rfl ?_
  rintro vq2 ⟨hrq2, hfq2⟩
  have hBq2 := hBq1.it hrq2 hfq2
  have Fq2 : fr v vq2 p (p + 6) := Fq1.tr (hfq2.fr (by omega) (by omega))
  have hCq2 : br vq2 z C := hC.keep (fun a hq1 hq2 => Fq2 a (by omega))
  refine g_aload_n (q := 23) dX0_copyFrom_22 rfl rfl ?_
  refine g_getR (q := 26) f_X0_25 (by assumption) rfl dX0_copyFrom_23 rfl ?_
  refine g_aload_n (q := 27) dX0_copyFrom_26 rfl rfl ?_
  refine g_getR (q := 30) f_X0_25 (by assumption) rfl dX0_copyFrom_27 rfl ?_
  refine c_Vv (q := 33) (p_X5_copyFrom s3 t3 hCq2.2.2.2 ⟨by omega, by omega, by omega⟩) k_X0_93 (by assumption) rfl (by decide) rfl rfl (Nat.le_of_ble_eq_true rfl) rfl rfl dX0_copyFrom_30 rfl ?_
  rintro vq3 ⟨hrq3, hfq3⟩
  have hBq3 := hBq2.qu hrq3 hfq3
  have Fq3 : fr v vq3 p (p + 6) := Fq2.tr (hfq3.fr (by omega) (by omega))
  have hCq3 : br vq3 z C := hC.keep (fun a hq1 hq2 => Fq3 a (by omega))
  refine g_aload_n (q := 34) dX0_copyFrom_33 rfl rfl ?_
  refine g_aload_n (q := 35) dX0_copyFrom_34 rfl rfl ?_
  refine g_getI (q := 38) f_X0_35 (by assumption) rfl dX0_copyFrom_35 rfl ?_
  refine g_putI (q := 41) f_X0_35 (by assumption) rfl rfl rfl dX0_copyFrom_38 rfl ?_
  refine g_gen (fun vq4 hvq4 => ?_)
  have hBq4 : br vq4 p (ag_cp 4 B.1 C.1, upd B.2.1 3 (C.2.1 3), C.2.2.1, C.2.2.2) := by rw [hvq4, hCq3.2.1]; exact hBq3.f 3 _
  have Fq4 : fr v vq4 p (p + 6) := by rw [hvq4]; exact Fq3.tr (fr.up2 (by omega) (by omega))
  clear hvq4
  have hCq4 : br vq4 z C := hC.keep (fun a hq1 hq2 => Fq4 a (by omega))
  refine g_aload_n (q := 42) dX0_copyFrom_41 rfl rfl ?_
  refine g_aload_n (q := 43) dX0_copyFrom_42 rfl rfl ?_
  refine g_getI (q := 46) f_X0_49 (by assumption) rfl dX0_copyFrom_43 rfl ?_
  refine g_putI (q := 49) f_X0_49 (by assumption) rfl rfl rfl dX0_copyFrom_46 rfl ?_
  refine g_gen (fun vq5 hvq5 => ?_)
  have hBq5 : br vq5 p (ag_cp 4 B.1 C.1, upd (upd B.2.1 3 (C.2.1 3)) 4 (C.2.1 4), C.2.2.1, C.2.2.2) := by rw [hvq5, hCq4.2.1]; exact hBq4.f 4 _
  have Fq5 : fr v vq5 p (p + 6) := by rw [hvq5]; exact Fq4.tr (fr.up2 (by omega) (by omega))
  clear hvq5
  have hCq5 : br vq5 z C := hC.keep (fun a hq1 hq2 => Fq5 a (by omega))
  refine g_aload_n (q := 50) dX0_copyFrom_49 rfl rfl ?_
  refine g_aload_n (q := 51) dX0_copyFrom_50 rfl rfl ?_
  refine g_getI (q := 54) f_X0_64 (by assumption) rfl dX0_copyFrom_51 rfl ?_
  refine g_putI (q := 57) f_X0_64 (by assumption) rfl rfl rfl dX0_copyFrom_54 rfl ?_
  refine g_gen (fun vq6 hvq6 => ?_)
  have hBq6 : br vq6 p (ag_cp 4 B.1 C.1, upd (upd (upd B.2.1 3 (C.2.1 3)) 4 (C.2.1 4)) 5 (C.2.1 5), C.2.2.1, C.2.2.2) := by rw [hvq6, hCq5.2.1]; exact hBq5.f 5 _
  have Fq6 : fr v vq6 p (p + 6) := by rw [hvq6]; exact Fq5.tr (fr.up2 (by omega) (by omega))
  clear hvq6
  have hCq6 : br vq6 z C := hC.keep (fun a hq1 hq2 => Fq6 a (by omega))
  refine g_aload_n (q := 58) dX0_copyFrom_57 rfl rfl ?_
  refine g_aload_n (q := 59) dX0_copyFrom_58 rfl rfl ?_
  refine g_getI (q := 62) f_X0_52 (by assumption) rfl dX0_copyFrom_59 rfl ?_
  refine g_putI (q := 65) f_X0_52 (by assumption) rfl rfl rfl dX0_copyFrom_62 rfl ?_
  refine g_gen (fun vq7 hvq7 => ?_)
  have hBq7 : br vq7 p (ag_cp 4 B.1 C.1, upd (upd (upd (upd B.2.1 3 (C.2.1 3)) 4 (C.2.1 4)) 5 (C.2.1 5)) 6 (C.2.1 6), C.2.2.1, C.2.2.2) := by rw [hvq7, hCq6.2.1]; exact hBq6.f 6 _
  have Fq7 : fr v vq7 p (p + 6) := by rw [hvq7]; exact Fq6.tr (fr.up2 (by omega) (by omega))
  clear hvq7
  have hCq7 : br vq7 z C := hC.keep (fun a hq1 hq2 => Fq7 a (by omega))
  refine g_aload_n (q := 66) dX0_copyFrom_65 rfl rfl ?_
  refine g_aload_n (q := 67) dX0_copyFrom_66 rfl rfl ?_
  refine g_getI (q := 70) f_X0_71 (by assumption) rfl dX0_copyFrom_67 rfl ?_
  refine g_putI (q := 73) f_X0_71 (by assumption) rfl rfl rfl dX0_copyFrom_70 rfl ?_
  refine g_gen (fun vq8 hvq8 => ?_)
  have hBq8 : br vq8 p (ag_cp 4 B.1 C.1, upd (upd (upd (upd (upd B.2.1 3 (C.2.1 3)) 4 (C.2.1 4)) 5 (C.2.1 5)) 6 (C.2.1 6)) 7 (C.2.1 7), C.2.2.1, C.2.2.2) := by rw [hvq8, hCq7.2.1]; exact hBq7.f 7 _
  have Fq8 : fr v vq8 p (p + 6) := by rw [hvq8]; exact Fq7.tr (fr.up2 (by omega) (by omega))
  clear hvq8
  have hCq8 : br vq8 z C := hC.keep (fun a hq1 hq2 => Fq8 a (by omega))
  refine g_aload_n (q := 74) dX0_copyFrom_73 rfl rfl ?_
  refine g_aload_n (q := 75) dX0_copyFrom_74 rfl rfl ?_
  refine g_getI (q := 78) f_X0_74 (by assumption) rfl dX0_copyFrom_75 rfl ?_
  refine g_putI (q := 81) f_X0_74 (by assumption) rfl rfl rfl dX0_copyFrom_78 rfl ?_
  refine g_gen (fun vq9 hvq9 => ?_)
  have hBq9 : br vq9 p (ag_cp 4 B.1 C.1, upd (upd (upd (upd (upd (upd B.2.1 3 (C.2.1 3)) 4 (C.2.1 4)) 5 (C.2.1 5)) 6 (C.2.1 6)) 7 (C.2.1 7)) 8 (C.2.1 8), C.2.2.1, C.2.2.2) := by rw [hvq9, hCq8.2.1]; exact hBq8.f 8 _
  have Fq9 : fr v vq9 p (p + 6) := by rw [hvq9]; exact Fq8.tr (fr.up2 (by omega) (by omega))
  clear hvq9
  have hCq9 : br vq9 z C := hC.keep (fun a hq1 hq2 => Fq9 a (by omega))
  refine r_v dX0_copyFrom_81 rfl rfl rfl ?_
  exact ⟨hBq9, Fq9⟩
