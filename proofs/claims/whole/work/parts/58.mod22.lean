/-! ===== the reference: reading a text ===== -/
def spk : List Int32 → List Int32
  | [] => []
  | c :: r => if c = 32 then spk r else c :: r
def hd1 : List Int32 → Int32
  | [] => -1
  | c :: _ => c
theorem spk_len : ∀ r : List Int32, (spk r).length ≤ r.length
  | [] => Nat.le_refl _
  | c :: r => by
    unfold spk
    split
    · have := spk_len r; simp; omega
    · exact Nat.le_refl _
theorem spk_ne : ∀ (r : List Int32) (c : Int32) (q : List Int32), spk r = c :: q → ¬ c = 32
  | [], c, q, h => by simp [spk] at h
  | a :: r, c, q, h => by
    unfold spk at h
    split at h
    · exact spk_ne r c q h
    · rename_i hn
      injection h with h1 h2
      rw [← h1]; exact hn
theorem spk_id {c : Int32} {r : List Int32} (h : ¬ c = 32) : spk (c :: r) = c :: r := by unfold spk; rw [if_neg h]
theorem spk_spk : ∀ r : List Int32, spk (spk r) = spk r
  | [] => rfl
  | c :: r => by
    by_cases h : c = 32
    · rw [show spk (c :: r) = spk r by rw [spk, if_pos h]]; exact spk_spk r
    · rw [spk_id h, spk_id h]
theorem flt_spk : ∀ (r : List Int32) (i g f : Nat) (e : Bool), flt r i g f e = flt (spk r) (i + (r.length - (spk r).length)) g f e
  | [], i, g, f, e => rfl
  | c :: r, i, g, f, e => by
    by_cases h : c = 32
    · have e1 : spk (c :: r) = spk r := by rw [spk, if_pos h]
      have e2 : flt (c :: r) i g f e = flt r (i + 1) g f e := by rw [flt, if_pos h]
      rw [e1, e2, flt_spk r (i + 1) g f e]
      have := spk_len r
      congr 1
      simp only [List.length_cons]
      omega
    · rw [spk_id h]; simp
theorem tz_spk : ∀ r : List Int32, tz (spk r) = tz r
  | [] => rfl
  | c :: r => by
    by_cases h : c = 32
    · rw [show spk (c :: r) = spk r by rw [spk, if_pos h], tz_32 h]; exact tz_spk r
    · rw [spk_id h]
theorem nf_spk : ∀ r : List Int32, nf (spk r) = nf r
  | [] => rfl
  | c :: r => by
    by_cases h : c = 32
    · rw [show spk (c :: r) = spk r by rw [spk, if_pos h], show nf (c :: r) = nf r by rw [nf, if_pos h]]; exact nf_spk r
    · rw [spk_id h]
theorem u2_u2 (v : gj_V) (a k : Nat) (x y : Int32) : gj_up2 (gj_up2 v a k x) a k y = gj_up2 v a k y := by
  rw [gu_2, gu_2, gu_s, gu_u, gu_2]
  congr 1
  funext j
  unfold upd
  split <;> rfl
theorem u2_id (v : gj_V) (a k : Nat) : gj_up2 v a k (v a k) = v := by rw [gu_2, ud_id, gu_id]
def TXm (v : gj_V) (m : Nat) (tx : List Int32) : Prop := v m 6 = nI tx.length ∧ tx.length ≤ 120 ∧ ∀ i, i < tx.length → v (m + 5) i = tx.getD i 0

set_option maxRecDepth 100000 in
set_option maxHeartbeats 4000000 in
theorem p_X11_here {X : gj_X} {lim : Nat} {σ : gj_H} {v : gj_V} {m p : Nat} {tx : List Int32} (hs : msh σ m) (hT : TXm v m tx) (hp7 : v m 7 = nI p) (hp : p ≤ tx.length) : gj_E X 0 m_X11_here [.ref m] lim σ v (q_i lim σ (fun z v' => z = hd1 (spk (tx.drop p)) ∧ ∃ p', p ≤ p' ∧ p' ≤ tx.length ∧ tx.drop p' = spk (tx.drop p) ∧ v' = gj_up2 v m 7 (nI p'))) := by
  obtain ⟨so, s1, s2, s3, s4, s5, s6, s7, s8, s9, s10, s11, s12⟩ := id hs
  have lp : ∀ {P : Int32 → gj_V → Prop} (r : List Int32) (p : Nat) (w : gj_V), w = gj_up2 v m 7 (nI p) → tx.drop p = r → p ≤ tx.length → (∀ z v', (z = hd1 (spk r) ∧ ∃ p', p ≤ p' ∧ p' ≤ tx.length ∧ tx.drop p' = spk r ∧ v' = gj_up2 v m 7 (nI p')) → P z v') → gj_G X 0 m_X11_here (q_i lim σ P) lim σ w 0 0 0 [some (.ref m)] [] := by
    intro P r
    induction r with
    | nil =>
      intro p w hw hd hp hP
      have w7 : w m 7 = nI p := by rw [hw, gu_2, gu_s, ud_s]
      have w6 : w m 6 = nI tx.length := by rw [hw, gu_2, gu_s, ud_n _ _ (by decide)]; exact hT.1
      have w5 : w (m + 5) = v (m + 5) := by rw [hw, gu_2, gu_n _ _ (by omega)]
      have hl := hT.2.1
      refine g_aload_n (q := 1) dX11_here_0 rfl rfl ?_
      refine g_getI (q := 4) f_X11_192 (by assumption) rfl dX11_here_1 rfl ?_
      refine g_aload_n (q := 5) dX11_here_4 rfl rfl ?_
      refine g_getI (q := 8) f_X11_189 (by assumption) rfl dX11_here_5 rfl ?_
      refine g_icmpge (t := 38) (q := 11) dX11_here_8 (by decide) rfl (fun hq8 => ?_) (fun hq8 => ?_)
      · refine g_aload_n (q := 39) dX11_here_38 rfl rfl ?_
        refine g_getI (q := 42) f_X11_192 (by assumption) rfl dX11_here_39 rfl ?_
        refine g_aload_n (q := 43) dX11_here_42 rfl rfl ?_
        refine g_getI (q := 46) f_X11_189 (by assumption) rfl dX11_here_43 rfl ?_
        refine g_icmpge (t := 61) (q := 49) dX11_here_46 (by decide) rfl (fun hq46 => ?_) (fun hq46 => ?_)
        · refine g_iconst (q := 62) (x := (-1)) dX11_here_61 (by decide) rfl ?_
          refine r_i dX11_here_62 rfl rfl rfl ?_
          exact hP _ _ ⟨rfl, p, Nat.le_refl _, hp, by rw [hd]; rfl, hw⟩
        · rw [w6, w7, dr_nil hd hp] at hq46
          exact absurd (Int32.le_refl _) hq46
      · rw [w6, w7, dr_nil hd hp] at hq8
        exact absurd (Int32.le_refl _) hq8
    | cons b r ih =>
      intro p w hw hd hp hP
      obtain ⟨d1, d2, d3⟩ := dr_cons hd
      have w7 : w m 7 = nI p := by rw [hw, gu_2, gu_s, ud_s]
      have w6 : w m 6 = nI tx.length := by rw [hw, gu_2, gu_s, ud_n _ _ (by decide)]; exact hT.1
      have w5 : w (m + 5) = v (m + 5) := by rw [hw, gu_2, gu_n _ _ (by omega)]
      have hl := hT.2.1
      refine g_aload_n (q := 1) dX11_here_0 rfl rfl ?_
      refine g_getI (q := 4) f_X11_192 (by assumption) rfl dX11_here_1 rfl ?_
      refine g_aload_n (q := 5) dX11_here_4 rfl rfl ?_
      refine g_getI (q := 8) f_X11_189 (by assumption) rfl dX11_here_5 rfl ?_
      refine g_icmpge (t := 38) (q := 11) dX11_here_8 (by decide) rfl (fun hq8 => ?_) (fun hq8 => ?_)
      · rw [w6, w7] at hq8
        exact absurd (gn_le hq8 (by omega)) (by omega)
      · refine g_aload_n (q := 12) dX11_here_11 rfl rfl ?_
        refine g_getR (q := 15) f_X11_22 (by assumption) rfl dX11_here_12 rfl ?_
        refine g_aload_n (q := 16) dX11_here_15 rfl rfl ?_
        refine g_getI (q := 19) f_X11_192 (by assumption) rfl dX11_here_16 rfl ?_
        rw [w7]
        refine g_iald (q := 20) (by assumption) rfl (by omega) (by decide) dX11_here_19 rfl ?_
        rw [w5, hT.2.2 p d1, d2]
        refine g_bipush (q := 22) (x := 32) dX11_here_20 (by decide) rfl ?_
        refine g_icmpne (t := 38) (q := 25) dX11_here_22 (by decide) rfl (fun hq22 => ?_) (fun hq22 => ?_)
        · refine g_aload_n (q := 39) dX11_here_38 rfl rfl ?_
          refine g_getI (q := 42) f_X11_192 (by assumption) rfl dX11_here_39 rfl ?_
          refine g_aload_n (q := 43) dX11_here_42 rfl rfl ?_
          refine g_getI (q := 46) f_X11_189 (by assumption) rfl dX11_here_43 rfl ?_
          refine g_icmpge (t := 61) (q := 49) dX11_here_46 (by decide) rfl (fun hq46 => ?_) (fun hq46 => ?_)
          · rw [w6, w7] at hq46
            exact absurd (gn_le hq46 (by omega)) (by omega)
          · refine g_aload_n (q := 50) dX11_here_49 rfl rfl ?_
            refine g_getR (q := 53) f_X11_22 (by assumption) rfl dX11_here_50 rfl ?_
            refine g_aload_n (q := 54) dX11_here_53 rfl rfl ?_
            refine g_getI (q := 57) f_X11_192 (by assumption) rfl dX11_here_54 rfl ?_
            rw [w7]
            refine g_iald (q := 58) (by assumption) rfl (by omega) (by decide) dX11_here_57 rfl ?_
            rw [w5, hT.2.2 p d1, d2]
            refine g_goto (q := 62) dX11_here_58 (by decide) ?_
            refine r_i dX11_here_62 rfl rfl rfl ?_
            exact hP _ _ ⟨by rw [spk_id hq22]; rfl, p, Nat.le_refl _, hp, by rw [spk_id hq22]; exact hd, hw⟩
        · refine g_aload_n (q := 26) dX11_here_25 rfl rfl ?_
          refine g_dup (q := 27) dX11_here_26 rfl rfl ?_
          refine g_getI (q := 30) f_X11_192 (by assumption) rfl dX11_here_27 rfl ?_
          rw [w7]
          refine g_iconst (q := 31) (x := 1) dX11_here_30 (by decide) rfl ?_
          refine g_iadd (q := 32) dX11_here_31 rfl ?_
          refine g_putI (q := 35) f_X11_192 (by assumption) rfl rfl rfl dX11_here_32 rfl ?_
          rw [nI_1]
          refine g_gen (fun vq1 hvq1 => ?_)
          rw [hw, u2_u2] at hvq1
          refine g_goto (q := 0) dX11_here_35 (by decide) ?_
          have es : spk (b :: r) = spk r := by rw [spk, if_pos hq22]
          refine ih (p + 1) vq1 hvq1 d3 (by omega) ?_
          rintro z vv ⟨eq1, p2, eq2, eq3, eq4, eq5⟩
          exact hP z vv ⟨by rw [es]; exact eq1, p2, by omega, eq3, by rw [es]; exact eq4, eq5⟩
  refine gj_E_at (L := [some (.ref m)]) (k := 0) rfl (by decide) rfl ?_
  exact lp (tx.drop p) p v (by rw [← hp7, u2_id]) rfl hp (fun _ _ h => h)

