/-! ===== GatedWorks: its state, refusals ===== -/
def nsh (σ : gj_H) (r x f : Nat) : Prop := σ r = some (.inl (6, [some (some (r + 1)), some (some (r + 2)), some (some x), some (some f), none, none, none, none])) ∧ σ (r + 1) = some (sh_ra 3 5 (r + 3) 14) ∧ σ (r + 2) = some (sh_i 5) ∧ ∀ i, i < 5 → ish σ (r + 3 + 14 * i)
def gsh (σ : gj_H) (x : Nat) : Prop := σ x = some (.inl (10, [some (some (x + 1)), some (some (x + 56)), some (some (x + 388)), some (some (x + 390)), some (some (x + 463)), none, none, none])) ∧ fsh σ (x + 1) ∧ hsh σ (x + 56) ∧ tsh σ (x + 388) ∧ nsh σ (x + 390) (x + 388) (x + 1) ∧ ish σ (x + 463)
def GR (v : gj_V) (x : Nat) (A : aS) (t : Int32) (l : List (aS × Int32)) (tx : List Int32) (c : Nat → Int32) : Prop := CR v (x + 1) A t ∧ (∃ nx, HR v (x + 56) l nx) ∧ TR v (x + 388) tx ∧ v x = c
section GRS
variable {v v' : gj_V} {x : Nat} {A A' : aS} {t t' : Int32} {l l' : List (aS × Int32)} {tx tx' : List Int32} {c : Nat → Int32}
theorem GR.flo (h : GR v x A t l tx c) (hC : CR v' (x + 1) A' t') (hf : fr v v' (x + 1) (x + 1 + 55)) : GR v' x A' t' l tx c := by
  obtain ⟨h1, ⟨nx, h2⟩, h3, h4⟩ := h
  exact ⟨hC, ⟨nx, h2.keep (fun a g1 g2 => hf a (by omega))⟩, h3.keep (hf _ (by omega)) (hf _ (by omega)), by rw [hf _ (by omega)]; exact h4⟩
theorem GR.his {nx : Nat} (h : GR v x A t l tx c) (hH : HR v' (x + 56) l' nx) (hf : fr v v' (x + 56) (x + 56 + 332)) : GR v' x A t l' tx c := by
  obtain ⟨h1, h2, h3, h4⟩ := h
  exact ⟨h1.keep (fun a g1 g2 => hf a (by omega)), ⟨nx, hH⟩, h3.keep (hf _ (by omega)) (hf _ (by omega)), by rw [hf _ (by omega)]; exact h4⟩
theorem GR.tex (h : GR v x A t l tx c) (hT : TR v' (x + 388) tx') (hf : fr2 v v' (x + 388)) : GR v' x A t l tx' c := by
  obtain ⟨h1, ⟨nx, h2⟩, h3, h4⟩ := h
  exact ⟨h1.keep (fun a g1 g2 => hf a (by omega) (by omega)), ⟨nx, h2.keep (fun a g1 g2 => hf a (by omega) (by omega))⟩, hT, by rw [hf _ (by omega) (by omega)]; exact h4⟩
theorem GR.cnt (h : GR v x A t l tx c) (k : Nat) (z : Int32) : GR (gj_up2 v x k z) x A t l tx (upd c k z) := by
  obtain ⟨h1, ⟨nx, h2⟩, h3, h4⟩ := h
  exact ⟨h1.keep (fun a g1 g2 => gu_n _ _ (by omega)), ⟨nx, h2.keep (fun a g1 g2 => gu_n _ _ (by omega))⟩, h3.keep (gu_n _ _ (by omega)) (gu_n _ _ (by omega)), by rw [gu_2, gu_s, h4]⟩
theorem GR.oth (h : GR v x A t l tx c) (hf : ∀ a, (x ≤ a ∧ a < x + 390) → v' a = v a) : GR v' x A t l tx c := by
  obtain ⟨h1, ⟨nx, h2⟩, h3, h4⟩ := h
  exact ⟨h1.keep (fun a g1 g2 => hf a (by omega)), ⟨nx, h2.keep (fun a g1 g2 => hf a (by omega))⟩, h3.keep (hf _ (by omega)) (hf _ (by omega)), by rw [hf _ (by omega)]; exact h4⟩
end GRS

set_option maxRecDepth 100000 in
set_option maxHeartbeats 4000000 in
theorem p_X10_refuseBad {X : gj_X} {lim : Nat} {σ : gj_H} {v : gj_V} {x : Nat} {A : aS} {t : Int32} {l : List (aS × Int32)} {tx : List Int32} {c : Nat → Int32} (hs : gsh σ x) (hG : GR v x A t l tx c) : gj_E X 0 m_X10_refuseBad [.ref x] lim σ v (q_i lim σ (fun z v' => z = (-2) ∧ GR v' x A t l tx (upd c 5 (c 5 + 1)) ∧ fr v v' x (x + 477))) := by
  obtain ⟨sx, hf, hh, ht, hn, hi⟩ := id hs
  have hc := hG.2.2.2
  refine gj_E_at (L := [some (.ref x)]) (k := 0) rfl (by decide) rfl ?_
  refine g_aload_n (q := 1) dX10_refuseBad_0 rfl rfl ?_
  refine g_dup (q := 2) dX10_refuseBad_1 rfl rfl ?_
  refine g_getI (q := 5) f_X10_251 (by assumption) rfl dX10_refuseBad_2 rfl ?_
  refine g_iconst (q := 6) (x := 1) dX10_refuseBad_5 (by decide) rfl ?_
  refine g_iadd (q := 7) dX10_refuseBad_6 rfl ?_
  refine g_putI (q := 10) f_X10_251 (by assumption) rfl rfl rfl dX10_refuseBad_7 rfl ?_
  refine g_bipush (q := 12) (x := (-2)) dX10_refuseBad_10 (by decide) rfl ?_
  refine r_i dX10_refuseBad_12 rfl rfl rfl ?_
  rw [hc]
  exact ⟨rfl, hG.cnt 5 _, fr.up2 (by omega) (by omega)⟩

set_option maxRecDepth 100000 in
set_option maxHeartbeats 4000000 in
theorem p_X10_refuseNo {X : gj_X} {lim : Nat} {σ : gj_H} {v : gj_V} {x : Nat} {A : aS} {t : Int32} {l : List (aS × Int32)} {tx : List Int32} {c : Nat → Int32} (hs : gsh σ x) (hG : GR v x A t l tx c) : gj_E X 0 m_X10_refuseNo [.ref x] lim σ v (q_i lim σ (fun z v' => z = (-3) ∧ GR v' x A t l tx (upd c 6 (c 6 + 1)) ∧ fr v v' x (x + 477))) := by
  obtain ⟨sx, hf, hh, ht, hn, hi⟩ := id hs
  have hc := hG.2.2.2
  refine gj_E_at (L := [some (.ref x)]) (k := 0) rfl (by decide) rfl ?_
  refine g_aload_n (q := 1) dX10_refuseNo_0 rfl rfl ?_
  refine g_dup (q := 2) dX10_refuseNo_1 rfl rfl ?_
  refine g_getI (q := 5) f_X10_254 (by assumption) rfl dX10_refuseNo_2 rfl ?_
  refine g_iconst (q := 6) (x := 1) dX10_refuseNo_5 (by decide) rfl ?_
  refine g_iadd (q := 7) dX10_refuseNo_6 rfl ?_
  refine g_putI (q := 10) f_X10_254 (by assumption) rfl rfl rfl dX10_refuseNo_7 rfl ?_
  refine g_bipush (q := 12) (x := (-3)) dX10_refuseNo_10 (by decide) rfl ?_
  refine r_i dX10_refuseNo_12 rfl rfl rfl ?_
  rw [hc]
  exact ⟨rfl, hG.cnt 6 _, fr.up2 (by omega) (by omega)⟩

set_option maxRecDepth 100000 in
set_option maxHeartbeats 4000000 in
theorem p_X10_refuseFull {X : gj_X} {lim : Nat} {σ : gj_H} {v : gj_V} {x : Nat} {A : aS} {t : Int32} {l : List (aS × Int32)} {tx : List Int32} {c : Nat → Int32} (hs : gsh σ x) (hG : GR v x A t l tx c) : gj_E X 0 m_X10_refuseFull [.ref x] lim σ v (q_i lim σ (fun z v' => z = (-4) ∧ GR v' x A t l tx (upd c 7 (c 7 + 1)) ∧ fr v v' x (x + 477))) := by
  obtain ⟨sx, hf, hh, ht, hn, hi⟩ := id hs
  have hc := hG.2.2.2
  refine gj_E_at (L := [some (.ref x)]) (k := 0) rfl (by decide) rfl ?_
  refine g_aload_n (q := 1) dX10_refuseFull_0 rfl rfl ?_
  refine g_dup (q := 2) dX10_refuseFull_1 rfl rfl ?_
  refine g_getI (q := 5) f_X10_257 (by assumption) rfl dX10_refuseFull_2 rfl ?_
  refine g_iconst (q := 6) (x := 1) dX10_refuseFull_5 (by decide) rfl ?_
  refine g_iadd (q := 7) dX10_refuseFull_6 rfl ?_
  refine g_putI (q := 10) f_X10_257 (by assumption) rfl rfl rfl dX10_refuseFull_7 rfl ?_
  refine g_bipush (q := 12) (x := (-4)) dX10_refuseFull_10 (by decide) rfl ?_
  refine r_i dX10_refuseFull_12 rfl rfl rfl ?_
  rw [hc]
  exact ⟨rfl, hG.cnt 7 _, fr.up2 (by omega) (by omega)⟩

set_option maxRecDepth 100000 in
set_option maxHeartbeats 4000000 in
theorem p_X10_mixed {X : gj_X} {lim : Nat} {σ : gj_H} {v : gj_V} {h : Int64} {a : Int32} : gj_E X 0 m_X10_mixed [.long h, .int a] lim σ v (q_l lim σ (fun z v' => z = 31 * h + a.toInt64 ∧ v' = v)) := by
  refine gj_E_at (L := [some (.long h), none, some (.int a)]) (k := 0) rfl (by decide) rfl ?_
  refine g_ldc2 (q := 3) dX10_mixed_0 l_X10_260 rfl ?_
  refine g_lload_n (q := 4) dX10_mixed_3 rfl rfl ?_
  refine g_lmul (q := 5) dX10_mixed_4 rfl ?_
  refine g_iload_n (q := 6) dX10_mixed_5 rfl rfl ?_
  refine g_i2l (q := 7) dX10_mixed_6 rfl ?_
  refine g_ladd (q := 8) dX10_mixed_7 rfl ?_
  refine r_l dX10_mixed_8 rfl rfl rfl ?_
  exact ⟨rfl, rfl⟩
