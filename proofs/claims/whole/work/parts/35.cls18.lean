def ivL (s : stk) : Prop := ∀ q ∈ s, ∀ b, b < 6 → (q.1 b).length ≤ 6 ∧ ∀ x ∈ q.1 b, 0 ≤ x ∧ x ≤ 9
theorem iv_res2 {C : aS} {n sn : Nat} {ls : Nat → List Int32} (h : IV C n sn) (hA : ∀ b, b < 6 → (ls b).length ≤ 6 ∧ ∀ x ∈ ls b, 0 ≤ x ∧ x ≤ 9) : IV (a_res C 6 ls) n sn := by
  refine IV_co h (fun b hb => ?_) ⟨fun i hi => rfl, fun i hi => ?_⟩ (fun b h1 h2 => ⟨rfl, ?_⟩)
  · have h1 := hA b hb
    have h2 := h.1 b hb
    unfold ivb at *
    simp only [gB, a_res] at *
    rw [if_pos hb]
    exact ⟨h2.1, h1⟩
  · simp only [a_res]; rw [if_neg (by omega)]
  · simp only [a_res]; rw [if_neg (by omega)]
theorem ivL_in {A : aS} {s : stk} {d : Int32} (h : ivB A) (hs : ivL s) : ivL ((A.2, d) :: s) := by
  intro q hq b hb
  rcases List.mem_cons.mp hq with rfl | hq
  · exact (h b hb).2
  · exact hs q hq b hb
theorem ivL_t {s : stk} (hs : ivL s) : ivL s.tail := fun q hq => hs q (List.mem_of_mem_tail hq)
theorem skT_mem : ∀ (j : Nat) (r : List tok) (o : tok), o ∈ skT j r → o ∈ r
  | 0, r, o, h => by rw [skT_0] at h; exact h
  | j + 1, [], o, h => h
  | j + 1, a :: r, o, h => by
    simp only [skT] at h
    split at h
    · exact List.mem_cons_of_mem _ (skT_mem _ r o h)
    · split at h
      · exact List.mem_cons_of_mem _ (skT_mem _ r o h)
      · exact List.mem_cons_of_mem _ (skT_mem _ r o h)
def tkF (ts : List tok) : Prop := ∀ o ∈ ts, 0 ≤ o.2.2.1 ∧ o.2.2.1 ≤ 9
theorem iv_run {n sn : Nat} : ∀ (k : Nat) (ts : List tok) (A : aS) (d c : Int32) (s : stk), IV A n sn → ivL s → tkF ts → IV (a_run k ts A d c s).2 n sn
  | 0, ts, A, d, c, s, h, hl, ht => h
  | k + 1, [], A, d, c, s, h, hl, ht => iv_in6 h
  | k + 1, o :: ts, A, d, c, s, h, hl, ht => by
    have ht' : tkF ts := fun q hq => ht q (List.mem_cons_of_mem _ hq)
    have h1 : IV (a_one A o.1 o.2.1 o.2.2.1 o.2.2.2).2 n sn := iv_one h (ht o List.mem_cons_self)
    unfold a_run
    split
    · exact iv_run k ts _ _ _ _ (iv_in6 h) (ivL_in h.1 hl) ht'
    · split
      · exact iv_run k ts _ _ _ _ (iv_in6 h) (ivL_t hl) ht'
      · split
        · rcases s with _ | ⟨p, s'⟩
          · exact h
          · have h2 : IV (a_res (a_thr (a_one A o.1 o.2.1 o.2.2.1 o.2.2.2).2 6) 6 p.1) n sn := iv_res2 (iv_in6 h1) (hl p List.mem_cons_self)
            dsimp only
            split
            · exact h2
            · exact iv_run k _ _ _ _ _ h2 (fun q hq => hl q (List.mem_cons_of_mem _ hq)) (fun q hq => ht' q (skT_mem 1 ts q hq))
        · exact iv_run k ts _ _ _ _ h1 hl ht'
theorem tkF_tz : ∀ (k : Nat) (r : List Int32) (i g : Nat) (e : Bool), r.length ≤ k → flt r i g 0 e = none → tkF (tz r)
  | k, [], i, g, e, _, h => by intro o ho; simp [tz, tkz] at ho
  | k + 1, c :: r, i, g, e, hk, h => by
    simp only [List.length_cons] at hk
    have pos : ∀ a, a ≤ 9 → (0 : Int32) ≤ nI a ∧ nI a ≤ 9 := fun a ha => gn_09' ha
    have cons : ∀ (o : tok) (ts : List tok), (0 ≤ o.2.2.1 ∧ o.2.2.1 ≤ 9) → tkF ts → tkF (o :: ts) := by
      intro o ts h1 h2 q hq
      rcases List.mem_cons.mp hq with rfl | hq
      · exact h1
      · exact h2 q hq
    rcases flt_c h with ⟨hc, h⟩ | ⟨hc, hg, h⟩ | ⟨hc, hg, h⟩ | ⟨hc, h⟩ | ⟨hc, h⟩ | ⟨hc, h⟩
    · rw [tz_32 hc]; exact tkF_tz k r _ _ _ (by omega) h
    · rw [tz_par (Or.inl hc)]; exact cons _ _ (pos 0 (by omega)) (tkF_tz k r _ _ _ (by omega) h)
    · rw [tz_par (Or.inr hc)]; exact cons _ _ (pos 0 (by omega)) (tkF_tz k r _ _ _ (by omega) h)
    · obtain ⟨-, a2, i1, a3⟩ := nf_ok r _ g 1 _ h
      obtain ⟨⟨a, ha, ea⟩, b2, i2, b3⟩ := nf_ok _ _ g 0 _ a3
      rw [tz_p hc]; exact cons _ _ (by dsimp only; rw [ea]; exact pos a ha) (tkF_tz k _ _ _ _ (by omega) b3)
    · obtain ⟨-, a2, i1, a3⟩ := nf_ok r _ g 0 _ h
      rw [tz_t hc]; exact cons _ _ (pos 0 (by omega)) (tkF_tz k _ _ _ _ (by omega) a3)
    · obtain ⟨-, a2, i1, a3⟩ := nf_ok r _ g 2 _ h
      obtain ⟨⟨a, ha, ea⟩, b2, i2, b3⟩ := nf_ok _ _ g 1 _ a3
      obtain ⟨-, c2, i3, c3⟩ := nf_ok _ _ g 0 _ b3
      rw [tz_m hc]; exact cons _ _ (by dsimp only; rw [ea]; exact pos a ha) (tkF_tz k _ _ _ _ (by omega) c3)
theorem ar_e {k : Nat} {A : aS} {d c : Int32} {s : stk} : a_run (k + 1) [] A d c s = (d, a_out A 6) := rfl
theorem ar_o {k : Nat} {ts : List tok} {A : aS} {d c : Int32} {s : stk} : a_run (k + 1) ((40, 0, 0, 0) :: ts) A d c s = a_run k ts (a_in A 6) d c ((A.2, d) :: s) := by rcases s with _ | ⟨p, s⟩ <;> (rw [a_run]; exact if_pos rfl)
theorem ar_c {k : Nat} {ts : List tok} {A : aS} {d c : Int32} {s : stk} : a_run (k + 1) ((41, 0, 0, 0) :: ts) A d c s = a_run k ts (a_out A 6) d c s.tail := by rcases s with _ | ⟨p, s⟩ <;> (rw [a_run, if_neg (by decide)]; exact if_pos rfl)
theorem ar_y {k : Nat} {o : tok} {ts : List tok} {A : aS} {d c : Int32} {s : stk} (h1 : ¬ o.1 = 40) (h2 : ¬ o.1 = 41) (h : ¬ (a_one A o.1 o.2.1 o.2.2.1 o.2.2.2).1 = 0) : a_run (k + 1) (o :: ts) A d c s = a_run k ts (a_one A o.1 o.2.1 o.2.2.1 o.2.2.2).2 (d + 1) (c + 1) s := by
  rcases s with _ | ⟨p, s⟩ <;> rw [a_run, if_neg h1, if_neg h2, if_neg h]
theorem ar_n1 {k : Nat} {o : tok} {ts : List tok} {A : aS} {d c : Int32} {p : (Nat → List Int32) × Int32} (h1 : ¬ o.1 = 40) (h2 : ¬ o.1 = 41) (h : (a_one A o.1 o.2.1 o.2.2.1 o.2.2.2).1 = 0) : a_run (k + 1) (o :: ts) A d c [p] = (-1000 - c, a_res (a_thr (a_one A o.1 o.2.1 o.2.2.1 o.2.2.2).2 6) 6 p.1) := by
  rw [a_run, if_neg h1, if_neg h2, if_pos h, if_pos rfl]
theorem ar_n2 {k : Nat} {o : tok} {ts : List tok} {A : aS} {d c : Int32} {p q : (Nat → List Int32) × Int32} {s : stk} (h1 : ¬ o.1 = 40) (h2 : ¬ o.1 = 41) (h : (a_one A o.1 o.2.1 o.2.2.1 o.2.2.2).1 = 0) : a_run (k + 1) (o :: ts) A d c (p :: q :: s) = a_run k (skT 1 ts) (a_res (a_thr (a_one A o.1 o.2.1 o.2.2.1 o.2.2.2).2 6) 6 p.1) p.2 (c + 1) (q :: s) := by
  rw [a_run, if_neg h1, if_neg h2, if_pos h, if_neg (by simp)]

set_option maxRecDepth 100000 in
set_option maxHeartbeats 4000000 in
theorem run_loop {X : gj_X} {lim : Nat} {σ : gj_H} {v : gj_V} {x n sn : Nat} {t : Int32} {tx : List Int32} (hs : gsh σ x) : ∀ (K : Nat) (r : List Int32) (p i : Nat) (e : Bool) (A : aS) (d c : Int32) (s : stk) (k j : Nat) (w : gj_V), r.length ≤ K → RN w x A t tx p s d c → fx v w x → tx.drop p = r → p ≤ tx.length → flt r i (s.length - 1) 0 e = none → 1 ≤ s.length → IV A n sn → ivL s → (tz r).length < k → j ≤ p → gj_G X 5 m_X6_run (q_i lim σ (fun z v' => z = (a_run k (tz r) A d c s).1 ∧ CR v' (x + 1) (a_run k (tz r) A d c s).2 t ∧ fx v v' x)) lim σ w 0 0 26 [some (.ref (x + 390)), some (.int (nI j)), none] [] := by
  obtain ⟨sx, hf, hh, ht, hrn, hia⟩ := id hs
  have sr := hrn.1
  have sa := hrn.2.1
  have si := hrn.2.2.1
  have hi5 := hrn.2.2.2
  have ht1 := ht.1
  have sf := hf.1
  have sm := hf.2.2.2.2.2.1
  intro K
  induction K with
  | zero =>
    intro r p i e A d c s k j w hK hN Ev hd hp hfl hs1 hI hL hk hj
    have er : r = [] := List.length_eq_zero_iff.mp (by omega)
    subst er
    have hl := hN.2.1.2.1
    have hg0 : s.length - 1 = 0 := by
      rcases Nat.eq_zero_or_pos (s.length - 1) with q | q
      · exact q
      · unfold flt at hfl; rw [if_pos (Or.inr (Or.inr q))] at hfl; exact absurd hfl (by simp)
    rcases s with _ | ⟨q0, s⟩
    · exact absurd hs1 (by simp)
    obtain ⟨k0, rfl⟩ : ∃ k0, k = k0 + 1 := ⟨k - 1, by omega⟩
    refine g_iload_n (q := 27) dX6_run_26 rfl rfl ?_
    refine g_bipush (q := 29) (x := 120) dX6_run_27 (by decide) rfl ?_
    refine g_icmpge (t := 132) (q := 32) dX6_run_29 (by decide) rfl (fun hq29 => ?_) (fun hq29 => ?_)
    · refine g_aload_n (q := 133) dX6_run_132 rfl rfl ?_
      refine c_Vv (q := 136) (p_X6_leaveLevel hs hN) k_X6_55 (by assumption) rfl (by decide) rfl rfl (Nat.le_of_ble_eq_true rfl) rfl rfl dX6_run_133 rfl ?_
      rintro vq1 ⟨hN1, E1⟩
      refine g_aload_n (q := 137) dX6_run_136 rfl rfl ?_
      refine g_getI (q := 140) f_X6_37 (by assumption) rfl dX6_run_137 rfl ?_
      rw [hN1.2.2.2.2.1]
      refine r_i dX6_run_140 rfl rfl rfl ?_
      exact ⟨rfl, hN1.1, Ev.tr E1⟩
    · refine g_aload_n (q := 33) dX6_run_32 rfl rfl ?_
      refine g_getI (q := 36) f_X6_30 (by assumption) rfl dX6_run_33 rfl ?_
      refine g_aload_n (q := 37) dX6_run_36 rfl rfl ?_
      refine g_getR (q := 40) f_X6_21 (by assumption) rfl dX6_run_37 rfl ?_
      refine g_getI (q := 43) f_X6_46 (by assumption) rfl dX6_run_40 rfl ?_
      refine g_icmpge (t := 132) (q := 46) dX6_run_43 (by decide) rfl (fun hq43 => ?_) (fun hq43 => ?_)
      · refine g_aload_n (q := 133) dX6_run_132 rfl rfl ?_
        refine c_Vv (q := 136) (p_X6_leaveLevel hs hN) k_X6_55 (by assumption) rfl (by decide) rfl rfl (Nat.le_of_ble_eq_true rfl) rfl rfl dX6_run_133 rfl ?_
        rintro vq1 ⟨hN1, E1⟩
        refine g_aload_n (q := 137) dX6_run_136 rfl rfl ?_
        refine g_getI (q := 140) f_X6_37 (by assumption) rfl dX6_run_137 rfl ?_
        rw [hN1.2.2.2.2.1]
        refine r_i dX6_run_140 rfl rfl rfl ?_
        exact ⟨rfl, hN1.1, Ev.tr E1⟩
      · exact absurd (by rw [hN.2.2.1, hN.2.1.1, dr_nil hd hp]; exact Int32.le_refl _) hq43
  | succ K ih =>
    intro r p i e A d c s k j w hK hN Ev hd hp hfl hs1 hI hL hk hj
    have hl := hN.2.1.2.1
    have hg := hN.2.2.2.2.2.2.1
    rcases r with _ | ⟨b, r⟩
    · exact ih [] p i e A d c s k j w (by simp) hN Ev hd hp hfl hs1 hI hL hk hj
    · simp only [List.length_cons] at hK
      obtain ⟨d1, d2, d3⟩ := dr_cons hd
      rcases flt_c hfl with ⟨rfl, hfl⟩ | ⟨rfl, hg4, hfl⟩ | ⟨rfl, hg1, hfl⟩ | ⟨rfl, hfl⟩ | ⟨rfl, hfl⟩ | ⟨rfl, hfl⟩
      · refine g_iload_n (q := 27) dX6_run_26 rfl rfl ?_
        refine g_bipush (q := 29) (x := 120) dX6_run_27 (by decide) rfl ?_
        refine g_icmpge (t := 132) (q := 32) dX6_run_29 (by decide) rfl (fun hq29 => ?_) (fun hq29 => ?_)
        · exact absurd (gn_le (n := 120) hq29 (by decide)) (by omega)
        · refine g_aload_n (q := 33) dX6_run_32 rfl rfl ?_
          refine g_getI (q := 36) f_X6_30 (by assumption) rfl dX6_run_33 rfl ?_
          refine g_aload_n (q := 37) dX6_run_36 rfl rfl ?_
          refine g_getR (q := 40) f_X6_21 (by assumption) rfl dX6_run_37 rfl ?_
          refine g_getI (q := 43) f_X6_46 (by assumption) rfl dX6_run_40 rfl ?_
          refine g_icmpge (t := 132) (q := 46) dX6_run_43 (by decide) rfl (fun hq43 => ?_) (fun hq43 => ?_)
          · rw [hN.2.2.1, hN.2.1.1] at hq43
            exact absurd (gn_le hq43 (by omega)) (by omega)
          · refine g_aload_n (q := 47) dX6_run_46 rfl rfl ?_
            refine c_Vi (q := 50) (p_X6_nextByte hs hN) k_X6_51 (by assumption) rfl (by decide) rfl rfl (Nat.le_of_ble_eq_true rfl) rfl rfl dX6_run_47 rfl ?_
            rintro y vq1 ⟨hy1, hN1, E1⟩
            rw [l_at_t d1 (by omega), d2] at hy1
            subst y
            refine g_istore_n (q := 51) dX6_run_50 rfl rfl rfl rfl ?_
            dsimp only [List.set]
            refine g_iload_n (q := 52) dX6_run_51 rfl rfl ?_
            refine g_bipush (q := 54) (x := 40) dX6_run_52 (by decide) rfl ?_
            refine g_icmpne (t := 64) (q := 57) dX6_run_54 (by decide) rfl (fun hq54 => ?_) (fun hq54 => ?_)
            · refine g_iload_n (q := 65) dX6_run_64 rfl rfl ?_
              refine g_bipush (q := 67) (x := 41) dX6_run_65 (by decide) rfl ?_
              refine g_icmpne (t := 77) (q := 70) dX6_run_67 (by decide) rfl (fun hq67 => ?_) (fun hq67 => ?_)
              · refine g_iload_n (q := 78) dX6_run_77 rfl rfl ?_
                refine g_bipush (q := 80) (x := 32) dX6_run_78 (by decide) rfl ?_
                refine g_icmpeq (t := 126) (q := 83) dX6_run_80 (by decide) rfl (fun hq80 => ?_) (fun hq80 => ?_)
                · refine g_iinc (q := 129) (y := nI (j + 1)) dX6_run_126 rfl (gn_inc j) rfl rfl rfl rfl ?_
                  dsimp only [List.set]
                  refine g_goto (q := 26) dX6_run_129 (by decide) ?_
                  rw [tz_32 rfl]
                  refine g_wk (L' := [some (.ref (x + 390)), some (.int (nI (j + 1))), none]) (by simp [gj_wk]) ?_
                  exact ih r (p + 1) _ e A d c s k (j + 1) vq1 (by omega) hN1 (Ev.tr E1) d3 (by omega) hfl hs1 hI hL (by rw [tz_32 rfl] at hk; exact hk) (by omega)
                · exact absurd rfl hq80
              · exact absurd hq67 (by decide)
            · exact absurd hq54 (by decide)
      · refine g_iload_n (q := 27) dX6_run_26 rfl rfl ?_
        refine g_bipush (q := 29) (x := 120) dX6_run_27 (by decide) rfl ?_
        refine g_icmpge (t := 132) (q := 32) dX6_run_29 (by decide) rfl (fun hq29 => ?_) (fun hq29 => ?_)
        · exact absurd (gn_le (n := 120) hq29 (by decide)) (by omega)
        · refine g_aload_n (q := 33) dX6_run_32 rfl rfl ?_
          refine g_getI (q := 36) f_X6_30 (by assumption) rfl dX6_run_33 rfl ?_
          refine g_aload_n (q := 37) dX6_run_36 rfl rfl ?_
          refine g_getR (q := 40) f_X6_21 (by assumption) rfl dX6_run_37 rfl ?_
          refine g_getI (q := 43) f_X6_46 (by assumption) rfl dX6_run_40 rfl ?_
          refine g_icmpge (t := 132) (q := 46) dX6_run_43 (by decide) rfl (fun hq43 => ?_) (fun hq43 => ?_)
          · rw [hN.2.2.1, hN.2.1.1] at hq43
            exact absurd (gn_le hq43 (by omega)) (by omega)
          · refine g_aload_n (q := 47) dX6_run_46 rfl rfl ?_
            refine c_Vi (q := 50) (p_X6_nextByte hs hN) k_X6_51 (by assumption) rfl (by decide) rfl rfl (Nat.le_of_ble_eq_true rfl) rfl rfl dX6_run_47 rfl ?_
            rintro y vq1 ⟨hy1, hN1, E1⟩
            rw [l_at_t d1 (by omega), d2] at hy1
            subst y
            refine g_istore_n (q := 51) dX6_run_50 rfl rfl rfl rfl ?_
            dsimp only [List.set]
            refine g_iload_n (q := 52) dX6_run_51 rfl rfl ?_
            refine g_bipush (q := 54) (x := 40) dX6_run_52 (by decide) rfl ?_
            refine g_icmpne (t := 64) (q := 57) dX6_run_54 (by decide) rfl (fun hq54 => ?_) (fun hq54 => ?_)
            · exact absurd rfl hq54
            · refine g_aload_n (q := 58) dX6_run_57 rfl rfl ?_
              refine c_Vv (q := 61) (p_X6_enterLevel hs hN1 (by omega)) k_X6_43 (by assumption) rfl (by decide) rfl rfl (Nat.le_of_ble_eq_true rfl) rfl rfl dX6_run_58 rfl ?_
              rintro vq2 ⟨hN2, E2⟩
              refine g_goto (q := 126) dX6_run_61 (by decide) ?_
              refine g_iinc (q := 129) (y := nI (j + 1)) dX6_run_126 rfl (gn_inc j) rfl rfl rfl rfl ?_
              dsimp only [List.set]
              refine g_goto (q := 26) dX6_run_129 (by decide) ?_
              rw [tz_par (Or.inl rfl)] at hk ⊢
              obtain ⟨k0, rfl⟩ : ∃ k0, k = k0 + 1 := ⟨k - 1, by omega⟩
              rw [ar_o]
              refine g_wk (L' := [some (.ref (x + 390)), some (.int (nI (j + 1))), none]) (by simp [gj_wk]) ?_
              exact ih r (p + 1) _ false (a_in A 6) d c ((A.2, d) :: s) k0 (j + 1) vq2 (by omega) hN2 ((Ev.tr E1).tr E2) d3 (by omega) (by rw [List.length_cons, show s.length + 1 - 1 = s.length - 1 + 1 by omega]; exact hfl) (by simp) (iv_in6 hI) (ivL_in hI.1 hL) (by simp only [List.length_cons] at hk; omega) (by omega)
      · rcases s with _ | ⟨q0, s⟩
        · exact absurd hs1 (by simp)
        refine g_iload_n (q := 27) dX6_run_26 rfl rfl ?_
        refine g_bipush (q := 29) (x := 120) dX6_run_27 (by decide) rfl ?_
        refine g_icmpge (t := 132) (q := 32) dX6_run_29 (by decide) rfl (fun hq29 => ?_) (fun hq29 => ?_)
        · exact absurd (gn_le (n := 120) hq29 (by decide)) (by omega)
        · refine g_aload_n (q := 33) dX6_run_32 rfl rfl ?_
          refine g_getI (q := 36) f_X6_30 (by assumption) rfl dX6_run_33 rfl ?_
          refine g_aload_n (q := 37) dX6_run_36 rfl rfl ?_
          refine g_getR (q := 40) f_X6_21 (by assumption) rfl dX6_run_37 rfl ?_
          refine g_getI (q := 43) f_X6_46 (by assumption) rfl dX6_run_40 rfl ?_
          refine g_icmpge (t := 132) (q := 46) dX6_run_43 (by decide) rfl (fun hq43 => ?_) (fun hq43 => ?_)
          · rw [hN.2.2.1, hN.2.1.1] at hq43
            exact absurd (gn_le hq43 (by omega)) (by omega)
          · refine g_aload_n (q := 47) dX6_run_46 rfl rfl ?_
            refine c_Vi (q := 50) (p_X6_nextByte hs hN) k_X6_51 (by assumption) rfl (by decide) rfl rfl (Nat.le_of_ble_eq_true rfl) rfl rfl dX6_run_47 rfl ?_
            rintro y vq1 ⟨hy1, hN1, E1⟩
            rw [l_at_t d1 (by omega), d2] at hy1
            subst y
            refine g_istore_n (q := 51) dX6_run_50 rfl rfl rfl rfl ?_
            dsimp only [List.set]
            refine g_iload_n (q := 52) dX6_run_51 rfl rfl ?_
            refine g_bipush (q := 54) (x := 40) dX6_run_52 (by decide) rfl ?_
            refine g_icmpne (t := 64) (q := 57) dX6_run_54 (by decide) rfl (fun hq54 => ?_) (fun hq54 => ?_)
            · refine g_iload_n (q := 65) dX6_run_64 rfl rfl ?_
              refine g_bipush (q := 67) (x := 41) dX6_run_65 (by decide) rfl ?_
              refine g_icmpne (t := 77) (q := 70) dX6_run_67 (by decide) rfl (fun hq67 => ?_) (fun hq67 => ?_)
              · exact absurd rfl hq67
              · refine g_aload_n (q := 71) dX6_run_70 rfl rfl ?_
                refine c_Vv (q := 74) (p_X6_leaveLevel hs hN1) k_X6_55 (by assumption) rfl (by decide) rfl rfl (Nat.le_of_ble_eq_true rfl) rfl rfl dX6_run_71 rfl ?_
                rintro vq2 ⟨hN2, E2⟩
                refine g_goto (q := 126) dX6_run_74 (by decide) ?_
                refine g_iinc (q := 129) (y := nI (j + 1)) dX6_run_126 rfl (gn_inc j) rfl rfl rfl rfl ?_
                dsimp only [List.set]
                refine g_goto (q := 26) dX6_run_129 (by decide) ?_
                rw [tz_par (Or.inr rfl)] at hk ⊢
                obtain ⟨k0, rfl⟩ : ∃ k0, k = k0 + 1 := ⟨k - 1, by omega⟩
                rw [ar_c]
                refine g_wk (L' := [some (.ref (x + 390)), some (.int (nI (j + 1))), none]) (by simp [gj_wk]) ?_
                exact ih r (p + 1) _ false (a_out A 6) d c s k0 (j + 1) vq2 (by omega) hN2 ((Ev.tr E1).tr E2) d3 (by omega) hfl (by simp only [List.length_cons] at hg1; omega) (iv_in6 hI) (ivL_t hL) (by simp only [List.length_cons] at hk; omega) (by omega)
            · exact absurd hq54 (by decide)
      · refine g_iload_n (q := 27) dX6_run_26 rfl rfl ?_
        refine g_bipush (q := 29) (x := 120) dX6_run_27 (by decide) rfl ?_
        refine g_icmpge (t := 132) (q := 32) dX6_run_29 (by decide) rfl (fun hq29 => ?_) (fun hq29 => ?_)
        · exact absurd (gn_le (n := 120) hq29 (by decide)) (by omega)
        · refine g_aload_n (q := 33) dX6_run_32 rfl rfl ?_
          refine g_getI (q := 36) f_X6_30 (by assumption) rfl dX6_run_33 rfl ?_
          refine g_aload_n (q := 37) dX6_run_36 rfl rfl ?_
          refine g_getR (q := 40) f_X6_21 (by assumption) rfl dX6_run_37 rfl ?_
          refine g_getI (q := 43) f_X6_46 (by assumption) rfl dX6_run_40 rfl ?_
          refine g_icmpge (t := 132) (q := 46) dX6_run_43 (by decide) rfl (fun hq43 => ?_) (fun hq43 => ?_)
          · rw [hN.2.2.1, hN.2.1.1] at hq43
            exact absurd (gn_le hq43 (by omega)) (by omega)
          · refine g_aload_n (q := 47) dX6_run_46 rfl rfl ?_
            refine c_Vi (q := 50) (p_X6_nextByte hs hN) k_X6_51 (by assumption) rfl (by decide) rfl rfl (Nat.le_of_ble_eq_true rfl) rfl rfl dX6_run_47 rfl ?_
            rintro y vq1 ⟨hy1, hN1, E1⟩
            rw [l_at_t d1 (by omega), d2] at hy1
            subst y
            refine g_istore_n (q := 51) dX6_run_50 rfl rfl rfl rfl ?_
            dsimp only [List.set]
            refine g_iload_n (q := 52) dX6_run_51 rfl rfl ?_
            refine g_bipush (q := 54) (x := 40) dX6_run_52 (by decide) rfl ?_
            refine g_icmpne (t := 64) (q := 57) dX6_run_54 (by decide) rfl (fun hq54 => ?_) (fun hq54 => ?_)
            · refine g_iload_n (q := 65) dX6_run_64 rfl rfl ?_
              refine g_bipush (q := 67) (x := 41) dX6_run_65 (by decide) rfl ?_
              refine g_icmpne (t := 77) (q := 70) dX6_run_67 (by decide) rfl (fun hq67 => ?_) (fun hq67 => ?_)
              · refine g_iload_n (q := 78) dX6_run_77 rfl rfl ?_
                refine g_bipush (q := 80) (x := 32) dX6_run_78 (by decide) rfl ?_
                refine g_icmpeq (t := 126) (q := 83) dX6_run_80 (by decide) rfl (fun hq80 => ?_) (fun hq80 => ?_)
                · exact absurd hq80 (by decide)
                · refine g_aload_n (q := 84) dX6_run_83 rfl rfl ?_
                  refine g_iload_n (q := 85) dX6_run_84 rfl rfl ?_
                  refine c_Vi (q := 88) (p_X6_order_p hs hN1 hI d3 (by omega) hfl) k_X6_58 (by assumption) rfl (by decide) rfl rfl (Nat.le_of_ble_eq_true rfl) rfl rfl dX6_run_85 rfl ?_
                  rintro y vq2 ⟨p1, g1, l1, hz, E2⟩
                  have EE := (Ev.tr E1).tr E2
                  have lq1 := congrArg List.length g1
                  have lq0 := congrArg List.length d3
                  rw [List.length_drop] at lq1 lq0
                  obtain ⟨-, m1, i1, f1⟩ := nf_ok r _ _ 1 _ hfl
                  obtain ⟨⟨a9, ha9, ea9⟩, m2, ii, hfe⟩ := nf_ok _ _ _ 0 _ f1
                  have hfb : 0 ≤ (nf (nf r).2).1 ∧ (nf (nf r).2).1 ≤ 9 := by rw [ea9]; exact gn_09' ha9
                  rw [tz_p rfl] at hk ⊢
                  obtain ⟨k0, rfl⟩ : ∃ k0, k = k0 + 1 := ⟨k - 1, by omega⟩
                  have hk0 : (tz ((nf (nf r).2).2)).length < k0 := by simp only [List.length_cons] at hk; omega
                  rcases hz with ⟨rfl, ho, hN2⟩ | ⟨rfl, ho, hN2⟩
                  · rcases s with _ | ⟨q0, s⟩
                    · exact absurd hs1 (by simp)
                    rcases s with _ | ⟨q1, s0⟩
                    · refine g_ifne (t := 126) (q := 91) dX6_run_88 (by decide) rfl (fun hq88 => ?_) (fun hq88 => ?_)
                      · exact absurd rfl hq88
                      · refine g_aload_n (q := 92) dX6_run_91 rfl rfl ?_
                        refine c_Vv (q := 95) (p_X6_undoLevel hs hN2) k_X6_62 (by assumption) rfl (by decide) rfl rfl (Nat.le_of_ble_eq_true rfl) rfl rfl dX6_run_92 rfl ?_
                        rintro vq3 ⟨hN3, E3⟩
                        have EE := EE.tr E3
                        have iv3 : IV (a_res (a_thr (a_one A 112 (nf r).1 (nf (nf r).2).1 0).2 6) 6 q0.1) n sn := iv_res2 (iv_in6 (iv_one hI hfb)) (hL q0 List.mem_cons_self)
                        refine g_aload_n (q := 96) dX6_run_95 rfl rfl ?_
                        refine g_getI (q := 99) f_X6_34 (by assumption) rfl dX6_run_96 rfl ?_
                        rw [hN3.2.2.2.1]
                        refine g_iconst (q := 100) (x := (-1)) dX6_run_99 (by decide) rfl ?_
                        refine g_icmpne (t := 112) (q := 103) dX6_run_100 (by decide) rfl (fun hq100 => ?_) (fun hq100 => ?_)
                        · exact absurd rfl hq100
                        · refine g_sipush (q := 106) (x := (-1000)) dX6_run_103 (by decide) rfl ?_
                          refine g_aload_n (q := 107) dX6_run_106 rfl rfl ?_
                          refine g_getI (q := 110) f_X6_40 (by assumption) rfl dX6_run_107 rfl ?_
                          rw [hN3.2.2.2.2.2.1]
                          refine g_isub (q := 111) dX6_run_110 rfl ?_
                          refine r_i dX6_run_111 rfl rfl rfl ?_
                          rw [ar_n1 (o := (112, (nf r).1, (nf (nf r).2).1, 0)) (show ¬ (112 : Int32) = 40 by decide) (show ¬ (112 : Int32) = 41 by decide) ho]
                          exact ⟨rfl, hN3.1, EE⟩
                    · refine g_ifne (t := 126) (q := 91) dX6_run_88 (by decide) rfl (fun hq88 => ?_) (fun hq88 => ?_)
                      · exact absurd rfl hq88
                      · refine g_aload_n (q := 92) dX6_run_91 rfl rfl ?_
                        refine c_Vv (q := 95) (p_X6_undoLevel hs hN2) k_X6_62 (by assumption) rfl (by decide) rfl rfl (Nat.le_of_ble_eq_true rfl) rfl rfl dX6_run_92 rfl ?_
                        rintro vq3 ⟨hN3, E3⟩
                        have EE := EE.tr E3
                        have iv3 : IV (a_res (a_thr (a_one A 112 (nf r).1 (nf (nf r).2).1 0).2 6) 6 q0.1) n sn := iv_res2 (iv_in6 (iv_one hI hfb)) (hL q0 List.mem_cons_self)
                        refine g_aload_n (q := 96) dX6_run_95 rfl rfl ?_
                        refine g_getI (q := 99) f_X6_34 (by assumption) rfl dX6_run_96 rfl ?_
                        rw [hN3.2.2.2.1, List.length_cons, rl_s]
                        refine g_iconst (q := 100) (x := (-1)) dX6_run_99 (by decide) rfl ?_
                        refine g_icmpne (t := 112) (q := 103) dX6_run_100 (by decide) rfl (fun hq100 => ?_) (fun hq100 => ?_)
                        · refine g_aload_n (q := 113) dX6_run_112 rfl rfl ?_
                          refine g_dup (q := 114) dX6_run_113 rfl rfl ?_
                          refine g_getI (q := 117) f_X6_40 (by assumption) rfl dX6_run_114 rfl ?_
                          rw [hN3.2.2.2.2.2.1]
                          refine g_iconst (q := 118) (x := 1) dX6_run_117 (by decide) rfl ?_
                          refine g_iadd (q := 119) dX6_run_118 rfl ?_
                          refine g_putI (q := 122) f_X6_40 (by assumption) rfl rfl rfl dX6_run_119 rfl ?_
                          refine g_gen (fun vq4 hvq4 => ?_)
                          have hN4 := hN3.f7 (c + 1)
                          rw [← hvq4] at hN4
                          have E4 : fx vq3 vq4 x := by rw [hvq4]; exact (hN3.pl 7 _ (by omega)).2.2.2.1
                          refine g_aload_n (q := 123) dX6_run_122 rfl rfl ?_
                          refine c_Vv (q := 126) (p_X6_skipGroup hs hN4 l1) k_X6_65 (by assumption) rfl (by decide) rfl rfl (Nat.le_of_ble_eq_true rfl) rfl rfl dX6_run_123 rfl ?_
                          rintro vq5 ⟨p2, g2, l2, hN5, E5⟩
                          rw [g1] at g2
                          have lq2 := congrArg List.length g2
                          rw [List.length_drop] at lq2
                          have lq2 : tx.length - p2 = (skB (0 + 1) ((nf (nf r).2).2)).length := lq2
                          obtain ⟨u1, u2, i9, u3⟩ := sk_tz _ _ ii (s0.length + 1) 0 false (Nat.le_refl _) hfe (by omega)
                          refine g_iinc (q := 129) (y := nI (j + 1)) dX6_run_126 rfl (gn_inc j) rfl rfl rfl rfl ?_
                          dsimp only [List.set]
                          refine g_goto (q := 26) dX6_run_129 (by decide) ?_
                          rw [ar_n2 (o := (112, (nf r).1, (nf (nf r).2).1, 0)) (show ¬ (112 : Int32) = 40 by decide) (show ¬ (112 : Int32) = 41 by decide) ho]
                          refine g_wk (L' := [some (.ref (x + 390)), some (.int (nI (j + 1))), none]) (by simp [gj_wk]) ?_
                          rw [← u1]
                          exact ih _ p2 i9 false _ _ _ (q1 :: s0) k0 (j + 1) vq5 (by omega) hN5 ((EE.tr E4).tr E5) g2 l2 u3 (by simp) iv3 (fun z hz => hL z (List.mem_cons_of_mem _ hz)) (by rw [u1]; exact Nat.lt_of_le_of_lt (skT_len _ _) hk0) (by omega)
                        · exact absurd hq100 (gn_m1 (by simp only [List.length_cons] at hg; omega))
                  · refine g_ifne (t := 126) (q := 91) dX6_run_88 (by decide) rfl (fun hq88 => ?_) (fun hq88 => ?_)
                    · refine g_iinc (q := 129) (y := nI (j + 1)) dX6_run_126 rfl (gn_inc j) rfl rfl rfl rfl ?_
                      dsimp only [List.set]
                      refine g_goto (q := 26) dX6_run_129 (by decide) ?_
                      rw [ar_y (o := (112, (nf r).1, (nf (nf r).2).1, 0)) (show ¬ (112 : Int32) = 40 by decide) (show ¬ (112 : Int32) = 41 by decide) ho]
                      refine g_wk (L' := [some (.ref (x + 390)), some (.int (nI (j + 1))), none]) (by simp [gj_wk]) ?_
                      exact ih _ p1 ii false _ _ _ s k0 (j + 1) vq2 (by omega) hN2 EE g1 l1 hfe hs1 (iv_one hI hfb) hL hk0 (by omega)
                    · exact absurd hq88 (by decide)
              · exact absurd hq67 (by decide)
            · exact absurd hq54 (by decide)
      · refine g_iload_n (q := 27) dX6_run_26 rfl rfl ?_
        refine g_bipush (q := 29) (x := 120) dX6_run_27 (by decide) rfl ?_
        refine g_icmpge (t := 132) (q := 32) dX6_run_29 (by decide) rfl (fun hq29 => ?_) (fun hq29 => ?_)
        · exact absurd (gn_le (n := 120) hq29 (by decide)) (by omega)
        · refine g_aload_n (q := 33) dX6_run_32 rfl rfl ?_
          refine g_getI (q := 36) f_X6_30 (by assumption) rfl dX6_run_33 rfl ?_
          refine g_aload_n (q := 37) dX6_run_36 rfl rfl ?_
          refine g_getR (q := 40) f_X6_21 (by assumption) rfl dX6_run_37 rfl ?_
          refine g_getI (q := 43) f_X6_46 (by assumption) rfl dX6_run_40 rfl ?_
          refine g_icmpge (t := 132) (q := 46) dX6_run_43 (by decide) rfl (fun hq43 => ?_) (fun hq43 => ?_)
          · rw [hN.2.2.1, hN.2.1.1] at hq43
            exact absurd (gn_le hq43 (by omega)) (by omega)
          · refine g_aload_n (q := 47) dX6_run_46 rfl rfl ?_
            refine c_Vi (q := 50) (p_X6_nextByte hs hN) k_X6_51 (by assumption) rfl (by decide) rfl rfl (Nat.le_of_ble_eq_true rfl) rfl rfl dX6_run_47 rfl ?_
            rintro y vq1 ⟨hy1, hN1, E1⟩
            rw [l_at_t d1 (by omega), d2] at hy1
            subst y
            refine g_istore_n (q := 51) dX6_run_50 rfl rfl rfl rfl ?_
            dsimp only [List.set]
            refine g_iload_n (q := 52) dX6_run_51 rfl rfl ?_
            refine g_bipush (q := 54) (x := 40) dX6_run_52 (by decide) rfl ?_
            refine g_icmpne (t := 64) (q := 57) dX6_run_54 (by decide) rfl (fun hq54 => ?_) (fun hq54 => ?_)
            · refine g_iload_n (q := 65) dX6_run_64 rfl rfl ?_
              refine g_bipush (q := 67) (x := 41) dX6_run_65 (by decide) rfl ?_
              refine g_icmpne (t := 77) (q := 70) dX6_run_67 (by decide) rfl (fun hq67 => ?_) (fun hq67 => ?_)
              · refine g_iload_n (q := 78) dX6_run_77 rfl rfl ?_
                refine g_bipush (q := 80) (x := 32) dX6_run_78 (by decide) rfl ?_
                refine g_icmpeq (t := 126) (q := 83) dX6_run_80 (by decide) rfl (fun hq80 => ?_) (fun hq80 => ?_)
                · exact absurd hq80 (by decide)
                · refine g_aload_n (q := 84) dX6_run_83 rfl rfl ?_
                  refine g_iload_n (q := 85) dX6_run_84 rfl rfl ?_
                  refine c_Vi (q := 88) (p_X6_order_t hs hN1 hI d3 (by omega) hfl) k_X6_58 (by assumption) rfl (by decide) rfl rfl (Nat.le_of_ble_eq_true rfl) rfl rfl dX6_run_85 rfl ?_
                  rintro y vq2 ⟨p1, g1, l1, hz, E2⟩
                  have EE := (Ev.tr E1).tr E2
                  have lq1 := congrArg List.length g1
                  have lq0 := congrArg List.length d3
                  rw [List.length_drop] at lq1 lq0
                  obtain ⟨-, m1, ii, hfe⟩ := nf_ok r _ _ 0 _ hfl
                  have hfb : (0 : Int32) ≤ 0 ∧ (0 : Int32) ≤ 9 := ⟨by decide, by decide⟩
                  rw [tz_t rfl] at hk ⊢
                  obtain ⟨k0, rfl⟩ : ∃ k0, k = k0 + 1 := ⟨k - 1, by omega⟩
                  have hk0 : (tz ((nf r).2)).length < k0 := by simp only [List.length_cons] at hk; omega
                  rcases hz with ⟨rfl, ho, hN2⟩ | ⟨rfl, ho, hN2⟩
                  · rcases s with _ | ⟨q0, s⟩
                    · exact absurd hs1 (by simp)
                    rcases s with _ | ⟨q1, s0⟩
                    · refine g_ifne (t := 126) (q := 91) dX6_run_88 (by decide) rfl (fun hq88 => ?_) (fun hq88 => ?_)
                      · exact absurd rfl hq88
                      · refine g_aload_n (q := 92) dX6_run_91 rfl rfl ?_
                        refine c_Vv (q := 95) (p_X6_undoLevel hs hN2) k_X6_62 (by assumption) rfl (by decide) rfl rfl (Nat.le_of_ble_eq_true rfl) rfl rfl dX6_run_92 rfl ?_
                        rintro vq3 ⟨hN3, E3⟩
                        have EE := EE.tr E3
                        have iv3 : IV (a_res (a_thr (a_one A 116 (nf r).1 0 0).2 6) 6 q0.1) n sn := iv_res2 (iv_in6 (iv_one hI hfb)) (hL q0 List.mem_cons_self)
                        refine g_aload_n (q := 96) dX6_run_95 rfl rfl ?_
                        refine g_getI (q := 99) f_X6_34 (by assumption) rfl dX6_run_96 rfl ?_
                        rw [hN3.2.2.2.1]
                        refine g_iconst (q := 100) (x := (-1)) dX6_run_99 (by decide) rfl ?_
                        refine g_icmpne (t := 112) (q := 103) dX6_run_100 (by decide) rfl (fun hq100 => ?_) (fun hq100 => ?_)
                        · exact absurd rfl hq100
                        · refine g_sipush (q := 106) (x := (-1000)) dX6_run_103 (by decide) rfl ?_
                          refine g_aload_n (q := 107) dX6_run_106 rfl rfl ?_
                          refine g_getI (q := 110) f_X6_40 (by assumption) rfl dX6_run_107 rfl ?_
                          rw [hN3.2.2.2.2.2.1]
                          refine g_isub (q := 111) dX6_run_110 rfl ?_
                          refine r_i dX6_run_111 rfl rfl rfl ?_
                          rw [ar_n1 (o := (116, (nf r).1, 0, 0)) (show ¬ (116 : Int32) = 40 by decide) (show ¬ (116 : Int32) = 41 by decide) ho]
                          exact ⟨rfl, hN3.1, EE⟩
                    · refine g_ifne (t := 126) (q := 91) dX6_run_88 (by decide) rfl (fun hq88 => ?_) (fun hq88 => ?_)
                      · exact absurd rfl hq88
                      · refine g_aload_n (q := 92) dX6_run_91 rfl rfl ?_
                        refine c_Vv (q := 95) (p_X6_undoLevel hs hN2) k_X6_62 (by assumption) rfl (by decide) rfl rfl (Nat.le_of_ble_eq_true rfl) rfl rfl dX6_run_92 rfl ?_
                        rintro vq3 ⟨hN3, E3⟩
                        have EE := EE.tr E3
                        have iv3 : IV (a_res (a_thr (a_one A 116 (nf r).1 0 0).2 6) 6 q0.1) n sn := iv_res2 (iv_in6 (iv_one hI hfb)) (hL q0 List.mem_cons_self)
                        refine g_aload_n (q := 96) dX6_run_95 rfl rfl ?_
                        refine g_getI (q := 99) f_X6_34 (by assumption) rfl dX6_run_96 rfl ?_
                        rw [hN3.2.2.2.1, List.length_cons, rl_s]
                        refine g_iconst (q := 100) (x := (-1)) dX6_run_99 (by decide) rfl ?_
                        refine g_icmpne (t := 112) (q := 103) dX6_run_100 (by decide) rfl (fun hq100 => ?_) (fun hq100 => ?_)
                        · refine g_aload_n (q := 113) dX6_run_112 rfl rfl ?_
                          refine g_dup (q := 114) dX6_run_113 rfl rfl ?_
                          refine g_getI (q := 117) f_X6_40 (by assumption) rfl dX6_run_114 rfl ?_
                          rw [hN3.2.2.2.2.2.1]
                          refine g_iconst (q := 118) (x := 1) dX6_run_117 (by decide) rfl ?_
                          refine g_iadd (q := 119) dX6_run_118 rfl ?_
                          refine g_putI (q := 122) f_X6_40 (by assumption) rfl rfl rfl dX6_run_119 rfl ?_
                          refine g_gen (fun vq4 hvq4 => ?_)
                          have hN4 := hN3.f7 (c + 1)
                          rw [← hvq4] at hN4
                          have E4 : fx vq3 vq4 x := by rw [hvq4]; exact (hN3.pl 7 _ (by omega)).2.2.2.1
                          refine g_aload_n (q := 123) dX6_run_122 rfl rfl ?_
                          refine c_Vv (q := 126) (p_X6_skipGroup hs hN4 l1) k_X6_65 (by assumption) rfl (by decide) rfl rfl (Nat.le_of_ble_eq_true rfl) rfl rfl dX6_run_123 rfl ?_
                          rintro vq5 ⟨p2, g2, l2, hN5, E5⟩
                          rw [g1] at g2
                          have lq2 := congrArg List.length g2
                          rw [List.length_drop] at lq2
                          have lq2 : tx.length - p2 = (skB (0 + 1) ((nf r).2)).length := lq2
                          obtain ⟨u1, u2, i9, u3⟩ := sk_tz _ _ ii (s0.length + 1) 0 false (Nat.le_refl _) hfe (by omega)
                          refine g_iinc (q := 129) (y := nI (j + 1)) dX6_run_126 rfl (gn_inc j) rfl rfl rfl rfl ?_
                          dsimp only [List.set]
                          refine g_goto (q := 26) dX6_run_129 (by decide) ?_
                          rw [ar_n2 (o := (116, (nf r).1, 0, 0)) (show ¬ (116 : Int32) = 40 by decide) (show ¬ (116 : Int32) = 41 by decide) ho]
                          refine g_wk (L' := [some (.ref (x + 390)), some (.int (nI (j + 1))), none]) (by simp [gj_wk]) ?_
                          rw [← u1]
                          exact ih _ p2 i9 false _ _ _ (q1 :: s0) k0 (j + 1) vq5 (by omega) hN5 ((EE.tr E4).tr E5) g2 l2 u3 (by simp) iv3 (fun z hz => hL z (List.mem_cons_of_mem _ hz)) (by rw [u1]; exact Nat.lt_of_le_of_lt (skT_len _ _) hk0) (by omega)
                        · exact absurd hq100 (gn_m1 (by simp only [List.length_cons] at hg; omega))
                  · refine g_ifne (t := 126) (q := 91) dX6_run_88 (by decide) rfl (fun hq88 => ?_) (fun hq88 => ?_)
                    · refine g_iinc (q := 129) (y := nI (j + 1)) dX6_run_126 rfl (gn_inc j) rfl rfl rfl rfl ?_
                      dsimp only [List.set]
                      refine g_goto (q := 26) dX6_run_129 (by decide) ?_
                      rw [ar_y (o := (116, (nf r).1, 0, 0)) (show ¬ (116 : Int32) = 40 by decide) (show ¬ (116 : Int32) = 41 by decide) ho]
                      refine g_wk (L' := [some (.ref (x + 390)), some (.int (nI (j + 1))), none]) (by simp [gj_wk]) ?_
                      exact ih _ p1 ii false _ _ _ s k0 (j + 1) vq2 (by omega) hN2 EE g1 l1 hfe hs1 (iv_one hI hfb) hL hk0 (by omega)
                    · exact absurd hq88 (by decide)
              · exact absurd hq67 (by decide)
            · exact absurd hq54 (by decide)
      · refine g_iload_n (q := 27) dX6_run_26 rfl rfl ?_
        refine g_bipush (q := 29) (x := 120) dX6_run_27 (by decide) rfl ?_
        refine g_icmpge (t := 132) (q := 32) dX6_run_29 (by decide) rfl (fun hq29 => ?_) (fun hq29 => ?_)
        · exact absurd (gn_le (n := 120) hq29 (by decide)) (by omega)
        · refine g_aload_n (q := 33) dX6_run_32 rfl rfl ?_
          refine g_getI (q := 36) f_X6_30 (by assumption) rfl dX6_run_33 rfl ?_
          refine g_aload_n (q := 37) dX6_run_36 rfl rfl ?_
          refine g_getR (q := 40) f_X6_21 (by assumption) rfl dX6_run_37 rfl ?_
          refine g_getI (q := 43) f_X6_46 (by assumption) rfl dX6_run_40 rfl ?_
          refine g_icmpge (t := 132) (q := 46) dX6_run_43 (by decide) rfl (fun hq43 => ?_) (fun hq43 => ?_)
          · rw [hN.2.2.1, hN.2.1.1] at hq43
            exact absurd (gn_le hq43 (by omega)) (by omega)
          · refine g_aload_n (q := 47) dX6_run_46 rfl rfl ?_
            refine c_Vi (q := 50) (p_X6_nextByte hs hN) k_X6_51 (by assumption) rfl (by decide) rfl rfl (Nat.le_of_ble_eq_true rfl) rfl rfl dX6_run_47 rfl ?_
            rintro y vq1 ⟨hy1, hN1, E1⟩
            rw [l_at_t d1 (by omega), d2] at hy1
            subst y
            refine g_istore_n (q := 51) dX6_run_50 rfl rfl rfl rfl ?_
            dsimp only [List.set]
            refine g_iload_n (q := 52) dX6_run_51 rfl rfl ?_
            refine g_bipush (q := 54) (x := 40) dX6_run_52 (by decide) rfl ?_
            refine g_icmpne (t := 64) (q := 57) dX6_run_54 (by decide) rfl (fun hq54 => ?_) (fun hq54 => ?_)
            · refine g_iload_n (q := 65) dX6_run_64 rfl rfl ?_
              refine g_bipush (q := 67) (x := 41) dX6_run_65 (by decide) rfl ?_
              refine g_icmpne (t := 77) (q := 70) dX6_run_67 (by decide) rfl (fun hq67 => ?_) (fun hq67 => ?_)
              · refine g_iload_n (q := 78) dX6_run_77 rfl rfl ?_
                refine g_bipush (q := 80) (x := 32) dX6_run_78 (by decide) rfl ?_
                refine g_icmpeq (t := 126) (q := 83) dX6_run_80 (by decide) rfl (fun hq80 => ?_) (fun hq80 => ?_)
                · exact absurd hq80 (by decide)
                · refine g_aload_n (q := 84) dX6_run_83 rfl rfl ?_
                  refine g_iload_n (q := 85) dX6_run_84 rfl rfl ?_
                  refine c_Vi (q := 88) (p_X6_order_m hs hN1 hI d3 (by omega) hfl) k_X6_58 (by assumption) rfl (by decide) rfl rfl (Nat.le_of_ble_eq_true rfl) rfl rfl dX6_run_85 rfl ?_
                  rintro y vq2 ⟨p1, g1, l1, hz, E2⟩
                  have EE := (Ev.tr E1).tr E2
                  have lq1 := congrArg List.length g1
                  have lq0 := congrArg List.length d3
                  rw [List.length_drop] at lq1 lq0
                  obtain ⟨-, m1, i1, f1⟩ := nf_ok r _ _ 2 _ hfl
                  obtain ⟨⟨a9, ha9, ea9⟩, m2, i2, f2⟩ := nf_ok _ _ _ 1 _ f1
                  obtain ⟨-, m3, ii, hfe⟩ := nf_ok _ _ _ 0 _ f2
                  have hfb : 0 ≤ (nf (nf r).2).1 ∧ (nf (nf r).2).1 ≤ 9 := by rw [ea9]; exact gn_09' ha9
                  rw [tz_m rfl] at hk ⊢
                  obtain ⟨k0, rfl⟩ : ∃ k0, k = k0 + 1 := ⟨k - 1, by omega⟩
                  have hk0 : (tz ((nf (nf (nf r).2).2).2)).length < k0 := by simp only [List.length_cons] at hk; omega
                  rcases hz with ⟨rfl, ho, hN2⟩ | ⟨rfl, ho, hN2⟩
                  · rcases s with _ | ⟨q0, s⟩
                    · exact absurd hs1 (by simp)
                    rcases s with _ | ⟨q1, s0⟩
                    · refine g_ifne (t := 126) (q := 91) dX6_run_88 (by decide) rfl (fun hq88 => ?_) (fun hq88 => ?_)
                      · exact absurd rfl hq88
                      · refine g_aload_n (q := 92) dX6_run_91 rfl rfl ?_
                        refine c_Vv (q := 95) (p_X6_undoLevel hs hN2) k_X6_62 (by assumption) rfl (by decide) rfl rfl (Nat.le_of_ble_eq_true rfl) rfl rfl dX6_run_92 rfl ?_
                        rintro vq3 ⟨hN3, E3⟩
                        have EE := EE.tr E3
                        have iv3 : IV (a_res (a_thr (a_one A 109 (nf r).1 (nf (nf r).2).1 (nf (nf (nf r).2).2).1).2 6) 6 q0.1) n sn := iv_res2 (iv_in6 (iv_one hI hfb)) (hL q0 List.mem_cons_self)
                        refine g_aload_n (q := 96) dX6_run_95 rfl rfl ?_
                        refine g_getI (q := 99) f_X6_34 (by assumption) rfl dX6_run_96 rfl ?_
                        rw [hN3.2.2.2.1]
                        refine g_iconst (q := 100) (x := (-1)) dX6_run_99 (by decide) rfl ?_
                        refine g_icmpne (t := 112) (q := 103) dX6_run_100 (by decide) rfl (fun hq100 => ?_) (fun hq100 => ?_)
                        · exact absurd rfl hq100
                        · refine g_sipush (q := 106) (x := (-1000)) dX6_run_103 (by decide) rfl ?_
                          refine g_aload_n (q := 107) dX6_run_106 rfl rfl ?_
                          refine g_getI (q := 110) f_X6_40 (by assumption) rfl dX6_run_107 rfl ?_
                          rw [hN3.2.2.2.2.2.1]
                          refine g_isub (q := 111) dX6_run_110 rfl ?_
                          refine r_i dX6_run_111 rfl rfl rfl ?_
                          rw [ar_n1 (o := (109, (nf r).1, (nf (nf r).2).1, (nf (nf (nf r).2).2).1)) (show ¬ (109 : Int32) = 40 by decide) (show ¬ (109 : Int32) = 41 by decide) ho]
                          exact ⟨rfl, hN3.1, EE⟩
                    · refine g_ifne (t := 126) (q := 91) dX6_run_88 (by decide) rfl (fun hq88 => ?_) (fun hq88 => ?_)
                      · exact absurd rfl hq88
                      · refine g_aload_n (q := 92) dX6_run_91 rfl rfl ?_
                        refine c_Vv (q := 95) (p_X6_undoLevel hs hN2) k_X6_62 (by assumption) rfl (by decide) rfl rfl (Nat.le_of_ble_eq_true rfl) rfl rfl dX6_run_92 rfl ?_
                        rintro vq3 ⟨hN3, E3⟩
                        have EE := EE.tr E3
                        have iv3 : IV (a_res (a_thr (a_one A 109 (nf r).1 (nf (nf r).2).1 (nf (nf (nf r).2).2).1).2 6) 6 q0.1) n sn := iv_res2 (iv_in6 (iv_one hI hfb)) (hL q0 List.mem_cons_self)
                        refine g_aload_n (q := 96) dX6_run_95 rfl rfl ?_
                        refine g_getI (q := 99) f_X6_34 (by assumption) rfl dX6_run_96 rfl ?_
                        rw [hN3.2.2.2.1, List.length_cons, rl_s]
                        refine g_iconst (q := 100) (x := (-1)) dX6_run_99 (by decide) rfl ?_
                        refine g_icmpne (t := 112) (q := 103) dX6_run_100 (by decide) rfl (fun hq100 => ?_) (fun hq100 => ?_)
                        · refine g_aload_n (q := 113) dX6_run_112 rfl rfl ?_
                          refine g_dup (q := 114) dX6_run_113 rfl rfl ?_
                          refine g_getI (q := 117) f_X6_40 (by assumption) rfl dX6_run_114 rfl ?_
                          rw [hN3.2.2.2.2.2.1]
                          refine g_iconst (q := 118) (x := 1) dX6_run_117 (by decide) rfl ?_
                          refine g_iadd (q := 119) dX6_run_118 rfl ?_
                          refine g_putI (q := 122) f_X6_40 (by assumption) rfl rfl rfl dX6_run_119 rfl ?_
                          refine g_gen (fun vq4 hvq4 => ?_)
                          have hN4 := hN3.f7 (c + 1)
                          rw [← hvq4] at hN4
                          have E4 : fx vq3 vq4 x := by rw [hvq4]; exact (hN3.pl 7 _ (by omega)).2.2.2.1
                          refine g_aload_n (q := 123) dX6_run_122 rfl rfl ?_
                          refine c_Vv (q := 126) (p_X6_skipGroup hs hN4 l1) k_X6_65 (by assumption) rfl (by decide) rfl rfl (Nat.le_of_ble_eq_true rfl) rfl rfl dX6_run_123 rfl ?_
                          rintro vq5 ⟨p2, g2, l2, hN5, E5⟩
                          rw [g1] at g2
                          have lq2 := congrArg List.length g2
                          rw [List.length_drop] at lq2
                          have lq2 : tx.length - p2 = (skB (0 + 1) ((nf (nf (nf r).2).2).2)).length := lq2
                          obtain ⟨u1, u2, i9, u3⟩ := sk_tz _ _ ii (s0.length + 1) 0 false (Nat.le_refl _) hfe (by omega)
                          refine g_iinc (q := 129) (y := nI (j + 1)) dX6_run_126 rfl (gn_inc j) rfl rfl rfl rfl ?_
                          dsimp only [List.set]
                          refine g_goto (q := 26) dX6_run_129 (by decide) ?_
                          rw [ar_n2 (o := (109, (nf r).1, (nf (nf r).2).1, (nf (nf (nf r).2).2).1)) (show ¬ (109 : Int32) = 40 by decide) (show ¬ (109 : Int32) = 41 by decide) ho]
                          refine g_wk (L' := [some (.ref (x + 390)), some (.int (nI (j + 1))), none]) (by simp [gj_wk]) ?_
                          rw [← u1]
                          exact ih _ p2 i9 false _ _ _ (q1 :: s0) k0 (j + 1) vq5 (by omega) hN5 ((EE.tr E4).tr E5) g2 l2 u3 (by simp) iv3 (fun z hz => hL z (List.mem_cons_of_mem _ hz)) (by rw [u1]; exact Nat.lt_of_le_of_lt (skT_len _ _) hk0) (by omega)
                        · exact absurd hq100 (gn_m1 (by simp only [List.length_cons] at hg; omega))
                  · refine g_ifne (t := 126) (q := 91) dX6_run_88 (by decide) rfl (fun hq88 => ?_) (fun hq88 => ?_)
                    · refine g_iinc (q := 129) (y := nI (j + 1)) dX6_run_126 rfl (gn_inc j) rfl rfl rfl rfl ?_
                      dsimp only [List.set]
                      refine g_goto (q := 26) dX6_run_129 (by decide) ?_
                      rw [ar_y (o := (109, (nf r).1, (nf (nf r).2).1, (nf (nf (nf r).2).2).1)) (show ¬ (109 : Int32) = 40 by decide) (show ¬ (109 : Int32) = 41 by decide) ho]
                      refine g_wk (L' := [some (.ref (x + 390)), some (.int (nI (j + 1))), none]) (by simp [gj_wk]) ?_
                      exact ih _ p1 ii false _ _ _ s k0 (j + 1) vq2 (by omega) hN2 EE g1 l1 hfe hs1 (iv_one hI hfb) hL hk0 (by omega)
                    · exact absurd hq88 (by decide)
              · exact absurd hq67 (by decide)
            · exact absurd hq54 (by decide)

