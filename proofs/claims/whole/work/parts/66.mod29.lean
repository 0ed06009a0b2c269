set_option maxRecDepth 100000 in
set_option maxHeartbeats 4000000 in
theorem p_X11_doesAll {X : gj_X} {lim : Nat} {σ : gj_H} {v : gj_V} {m n sn : Nat} {A : aS} {t : Int32} {ts : List tok} (hs : msh σ m) (hM : MR (v (m + 2)) A t sn) (hO : ORD v m ts) (hA : MAT v m ts) (hbal : bal 0 ts) (hI : IV A n sn) : gj_E X 5 m_X11_doesAll [.ref m] lim σ v (q_i lim σ (fun z v' => z = (a_run (ts.length + 1) ts (a_in A 6) 0 0 [(A.2, 0)]).1 ∧ MR (v' (m + 2)) (a_run (ts.length + 1) ts (a_in A 6) 0 0 [(A.2, 0)]).2 t sn ∧ ∀ a, a ≠ m + 2 → a ≠ m + 4 → a ≠ m + 11 → a ≠ m + 12 → v' a = v a)) := by
  obtain ⟨so, s1, s2, s3, s4, s5, s6, s7, s8, s9, s10, s11, s12⟩ := id hs
  refine gj_E_at (L := [some (.ref m), none, none, none, none]) (k := 4) rfl (by decide) rfl ?_
  refine g_iconst (q := 1) (x := 0) dX11_doesAll_0 (by decide) rfl ?_
  refine g_istore_n (q := 2) dX11_doesAll_1 rfl rfl rfl rfl ?_
  dsimp only [List.set]
  refine g_iconst (q := 3) (x := 0) dX11_doesAll_2 (by decide) rfl ?_
  refine g_istore_n (q := 4) dX11_doesAll_3 rfl rfl rfl rfl ?_
  dsimp only [List.set]
  refine g_iconst (q := 5) (x := 0) dX11_doesAll_4 (by decide) rfl ?_
  refine g_istore_n (q := 6) dX11_doesAll_5 rfl rfl rfl rfl ?_
  dsimp only [List.set]
  refine g_iconst (q := 7) (x := 0) dX11_doesAll_6 (by decide) rfl ?_
  refine g_istore (q := 9) dX11_doesAll_7 rfl rfl rfl rfl ?_
  dsimp only [List.set]
  refine g_aload_n (q := 10) dX11_doesAll_9 rfl rfl ?_
  refine g_bipush (q := 12) (x := 6) dX11_doesAll_10 (by decide) rfl ?_
  refine c_Vv (q := 15) (p_X11_enters hs hM (g := 6) (by omega)) k_X11_72 (by assumption) rfl (by decide) rfl rfl (Nat.le_of_ble_eq_true rfl) rfl rfl dX11_doesAll_12 rfl ?_
  rintro vq1 hc1
  refine g_aload_n (q := 16) dX11_doesAll_15 rfl rfl ?_
  refine g_iconst (q := 17) (x := 0) dX11_doesAll_16 (by decide) rfl ?_
  refine c_Vv (q := 20) (p_X11_laysAside hs hc1.M (p := 0) (by omega)) k_X11_152 (by assumption) rfl (by decide) rfl rfl (Nat.le_of_ble_eq_true rfl) rfl rfl dX11_doesAll_17 rfl ?_
  rintro vq2 hvq2
  refine g_aload_n (q := 21) dX11_doesAll_20 rfl rfl ?_
  refine g_getR (q := 24) f_X11_43 (by assumption) rfl dX11_doesAll_21 rfl ?_
  refine g_iconst (q := 25) (x := 0) dX11_doesAll_24 (by decide) rfl ?_
  refine g_iconst (q := 26) (x := 0) dX11_doesAll_25 (by decide) rfl ?_
  refine g_iast (q := 27) (by assumption) (show (0 : Int32) = nI 0 from rfl) (by decide) (by decide) dX11_doesAll_26 rfl ?_
  refine g_gen (fun vq3 hvq3 => ?_)
  have eq3 : ∀ a, a ≠ m + 12 → vq3 a = vq2 a := fun a ha => by rw [hvq3, gu_2, gu_n _ _ ha]
  have eq2 : ∀ a, a ≠ m + 4 → vq2 a = vq1 a := fun a ha => by rw [hvq2, gu_n _ _ ha]
  have hD : DA v vq3 m sn ts (a_in A 6) t [(A.2, 0)] 0 := by
    refine ⟨by rw [eq3 _ (by omega), eq2 _ (by omega)]; exact hc1.M, fun a g1 g2 g3 g4 => by rw [eq3 a g4, eq2 a g2]; exact hc1.o a g1, fun j q hj => ?_, fun j hj => absurd hj (by simp)⟩
    have hj0 := rv_lt hj
    simp at hj0
    subst hj0
    simp at hj
    subst hj
    refine ⟨?_, by rw [hvq3, gu_2, gu_s, ud_s]⟩
    rw [eq3 _ (by omega), hvq2, gu_s]
    show asd _ 0 (a_in A 6).2
    exact asd_la hc1.M
  have hh := doesAll_loop (X := X) (lim := lim) (n := n) (v := v) hs hO hA ts.length 0 (a_in A 6) 0 0 [(A.2, 0)] (ts.length + 1) vq3 (by simp) hD (by omega) (by simpa using hbal) (by simp) (by simp) (iv_in6 hI) (ivL_in hI.1 (fun q hq => absurd hq (by simp))) (by simp)
  exact hh
