/-! ===== constructors ===== -/
def q_n (lim' : Nat) (P : gj_H → gj_V → Prop) : gj_Q := fun r l s v => r = none ∧ l = lim' ∧ P s v
def kp (σ σ' : gj_H) (v v' : gj_V) (p : Nat) : Prop := (∀ a, a < p → σ' a = σ a) ∧ ∀ a, a < p → v' a = v a
def zr (v : gj_V) (p q : Nat) : Prop := ∀ a, p ≤ a → a < q → v a = fun _ => 0
section CN
variable {X : gj_X} {d d' : Nat} {M N : gj_M} {Q : gj_Q} {lim lim' nc ns : Nat} {σ : gj_H} {v : gj_V} {kc ks kc' ks' pc q index n b ci : Nat} {L : List (Option Value)} {st st0 As rest : List Value} {t : List (Option (Option Nat))}
theorem g_nm (hl : lim' = lim) (hc : kc' = kc) (hs : ks' = ks) (k : gj_G X d M Q lim' σ v kc' ks' pc L st) : gj_G X d M Q lim σ v kc ks pc L st := by
  subst hl; subst hc; subst hs; exact k
theorem g_gs (k : ∀ σ' : gj_H, σ' = σ → gj_G X d M Q lim σ' v kc ks pc L st) : gj_G X d M Q lim σ v kc ks pc L st := k σ rfl
theorem g_gv (k : ∀ v' : gj_V, v' = v → gj_G X d M Q lim σ v' kc ks pc L st) : gj_G X d M Q lim σ v kc ks pc L st := k v rfl
theorem c_I {P : gj_H → gj_V → Prop} (hE : gj_E X d' N (.ref b :: As) lim σ v (q_n lim' P)) (hk : gj_CkI M.2.1.cls index N n) (hd' : d' < d) (hn : As.length = n) (hst : st0 = As.reverse ++ .ref b :: rest) (hrm : (rest.map fun v => v.category).sum ≤ 8) (hz : N.2.2.2.2.1 = nc) (hz2 : N.2.2.2.2.2 = ns) (hkc : kc + nc ≤ M.2.2.2.2.1) (hks : ks + ns ≤ M.2.2.2.2.2) (hd : decode M.1 pc = .ok (.invokespecial index, 3)) (hq : pc + 3 = q)
    (kk : ∀ (σ' : gj_H) (v' : gj_V), P σ' v' → gj_G X d M Q lim' σ' v' (kc + nc) (ks + ns) q L rest) : gj_G X d M Q lim σ v kc ks pc L st0 := by
  subst hz; subst hz2
  refine g_callI hk hd' hn hst hrm hkc hks hd hq hE ?_
  rintro r l' s' v' ⟨rfl, rfl, h⟩
  exact kk s' v' h
theorem c_Vn {P : gj_V → Prop} (hE : gj_E X d' N (.ref b :: As) lim σ v (q_v lim σ P)) (hk : gj_CkV M.2.1.cls index N n) (hs : σ b = some (.inl (ci, t))) (hcl : (vwCl[ci]?).map (fun z => z.1) = some N.2.1.cls) (hd' : d' < d) (hn : As.length = n) (hst : st0 = As.reverse ++ .ref b :: rest) (hrm : (rest.map fun v => v.category).sum ≤ 8) (hz : N.2.2.2.2.1 = 0) (hz2 : N.2.2.2.2.2 = 0) (hkc : kc ≤ M.2.2.2.2.1) (hks : ks ≤ M.2.2.2.2.2) (hd : decode M.1 pc = .ok (.invokevirtual index, 3)) (hq : pc + 3 = q)
    (kk : ∀ (v' : gj_V), P v' → gj_G X d M Q lim σ v' kc ks q L rest) : gj_G X d M Q lim σ v kc ks pc L st0 := by
  refine g_callV hk hs hcl hd' hn hst hrm (by rw [hz]; exact hkc) (by rw [hz2]; exact hks) hd hq hE ?_
  rintro r l' s' v' ⟨rfl, rfl, rfl, h⟩
  rw [hz, hz2]
  exact kk v' h
theorem r_n {P : gj_H → gj_V → Prop} (hd : decode M.1 pc = .ok (.return_, 1)) (hr : M.2.2.2.1 = none) (hkc : kc = M.2.2.2.2.1) (hks : ks = M.2.2.2.2.2) (hl : lim' = lim) (h : P σ v) : gj_G X d M (q_n lim' P) lim σ v kc ks pc L [] := g_vret hr hkc hks hd ⟨rfl, hl.symm, h⟩
end CN
/-- an array of references, filled so far -/
def pra (n s t i : Nat) : List (Option Nat) := (List.range n).map (fun b => if b < i then some (s + t * b) else none)
theorem pra_l (n s t i : Nat) : (pra n s t i).length = n := by unfold pra; simp
theorem pra_0 (n s t : Nat) : List.replicate n none = pra n s t 0 := by
  apply List.ext_getElem?
  intro j
  by_cases h : j < n
  · unfold pra
    rw [List.getElem?_replicate, if_pos h, List.getElem?_map, List.getElem?_range h]
    rfl
  · rw [List.getElem?_eq_none (by simp; omega), List.getElem?_eq_none (by rw [pra_l]; omega)]
theorem pra_s {n s t i : Nat} : (pra n s t i).set i (some (s + t * i)) = pra n s t (i + 1) := by
  apply List.ext_getElem?
  intro j
  by_cases hj : j < n
  · by_cases e : j = i
    · subst e
      rw [List.getElem?_set_self (by rw [pra_l]; exact hj)]
      unfold pra
      simp [hj]
    · rw [List.getElem?_set_ne (Ne.symm e)]
      unfold pra
      simp [hj]
      by_cases h2 : j < i
      · rw [if_pos h2, if_pos (by omega)]
      · rw [if_neg h2, if_neg (by omega)]
  · rw [List.getElem?_eq_none (by rw [List.length_set, pra_l]; omega), List.getElem?_eq_none (by rw [pra_l]; omega)]
theorem pra_n (n s t : Nat) : pra n s t n = (List.range n).map (fun b => some (s + t * b)) := by
  unfold pra
  apply List.map_congr_left
  intro b hb
  rw [if_pos (List.mem_range.mp hb)]
/-! shapes that stay -/
theorem rsh_k {σ σ' : gj_H} {p : Nat} (h : rsh σ p) (e : ∀ a, p ≤ a → a < p + 2 → σ' a = σ a) : rsh σ' p := ⟨(e _ (by omega) (by omega)).trans h.1, (e _ (by omega) (by omega)).trans h.2⟩
theorem tsh_k {σ σ' : gj_H} {p : Nat} (h : tsh σ p) (e : ∀ a, p ≤ a → a < p + 2 → σ' a = σ a) : tsh σ' p := ⟨(e _ (by omega) (by omega)).trans h.1, (e _ (by omega) (by omega)).trans h.2⟩
theorem bsh_k {σ σ' : gj_H} {p : Nat} (h : bsh σ p) (e : ∀ a, p ≤ a → a < p + 6 → σ' a = σ a) : bsh σ' p := ⟨(e _ (by omega) (by omega)).trans h.1, (e _ (by omega) (by omega)).trans h.2.1, rsh_k h.2.2.1 (fun a g1 g2 => e a (by omega) (by omega)), rsh_k h.2.2.2 (fun a g1 g2 => e a (by omega) (by omega))⟩
theorem ish_k {σ σ' : gj_H} {p : Nat} (h : ish σ p) (e : ∀ a, p ≤ a → a < p + 14 → σ' a = σ a) : ish σ' p := ⟨(e _ (by omega) (by omega)).trans h.1, (e _ (by omega) (by omega)).trans h.2.1, fun b hb => rsh_k (h.2.2 b hb) (fun a g1 g2 => e a (by omega) (by omega))⟩
theorem fsh_k {σ σ' : gj_H} {p : Nat} (h : fsh σ p) (e : ∀ a, p ≤ a → a < p + 55 → σ' a = σ a) : fsh σ' p := by
  obtain ⟨h0, h1, h2, h3, h4, h6, hb, hs, hw⟩ := h
  exact ⟨(e _ (by omega) (by omega)).trans h0, (e _ (by omega) (by omega)).trans h1, (e _ (by omega) (by omega)).trans h2, (e _ (by omega) (by omega)).trans h3, rsh_k h4 (fun a g1 g2 => e a (by omega) (by omega)), (e _ (by omega) (by omega)).trans h6, fun b g => bsh_k (hb b g) (fun a g1 g2 => e a (by omega) (by omega)), fun b g => (e _ (by omega) (by omega)).trans (hs b g), fun b g => (e _ (by omega) (by omega)).trans (hw b g)⟩
theorem hsh_k {σ σ' : gj_H} {p : Nat} (h : hsh σ p) (e : ∀ a, p ≤ a → a < p + 332 → σ' a = σ a) : hsh σ' p := ⟨(e _ (by omega) (by omega)).trans h.1, (e _ (by omega) (by omega)).trans h.2.1, fun i hi => fsh_k (h.2.2 i hi) (fun a g1 g2 => e a (by omega) (by omega))⟩
theorem nsh_k {σ σ' : gj_H} {p x f : Nat} (h : nsh σ p x f) (e : ∀ a, p ≤ a → a < p + 73 → σ' a = σ a) : nsh σ' p x f := ⟨(e _ (by omega) (by omega)).trans h.1, (e _ (by omega) (by omega)).trans h.2.1, (e _ (by omega) (by omega)).trans h.2.2.1, fun i hi => ish_k (h.2.2.2 i hi) (fun a g1 g2 => e a (by omega) (by omega))⟩
theorem gsh_k {σ σ' : gj_H} {p : Nat} (h : gsh σ p) (e : ∀ a, p ≤ a → a < p + 477 → σ' a = σ a) : gsh σ' p := by
  obtain ⟨h0, h1, h2, h3, h4, h5⟩ := h
  exact ⟨(e _ (by omega) (by omega)).trans h0, fsh_k h1 (fun a g1 g2 => e a (by omega) (by omega)), hsh_k h2 (fun a g1 g2 => e a (by omega) (by omega)), tsh_k h3 (fun a g1 g2 => e a (by omega) (by omega)), nsh_k h4 (fun a g1 g2 => e a (by omega) (by omega)), ish_k h5 (fun a g1 g2 => e a (by omega) (by omega))⟩

set_option maxRecDepth 100000 in
set_option maxHeartbeats 4000000 in
theorem p_X2_init {X : gj_X}  {σ : gj_H} {v : gj_V} {lim a : Nat} : gj_E X 0 m_X2_init [.ref a] lim σ v (q_n lim (fun σ' v' => σ' = σ ∧ v' = v)) := by
  refine gj_E_at (L := [some (.ref a)]) (k := 0) rfl (by decide) rfl ?_
  refine g_aload_n (q := 1) dX2_init_0 rfl rfl ?_
  refine g_oinit (q := 4) k_X2_1 (by decide) dX2_init_1 rfl ?_
  exact r_n dX2_init_4 rfl rfl rfl rfl ⟨rfl, rfl⟩

set_option maxRecDepth 100000 in
set_option maxHeartbeats 4000000 in
theorem p_X7_init {X : gj_X}  {σ : gj_H} {v : gj_V} {lim a : Nat} : gj_E X 0 m_X7_init [.ref a] lim σ v (q_n lim (fun σ' v' => σ' = σ ∧ v' = v)) := by
  refine gj_E_at (L := [some (.ref a)]) (k := 0) rfl (by decide) rfl ?_
  refine g_aload_n (q := 1) dX7_init_0 rfl rfl ?_
  refine g_oinit (q := 4) k_X7_3 (by decide) dX7_init_1 rfl ?_
  exact r_n dX7_init_4 rfl rfl rfl rfl ⟨rfl, rfl⟩

set_option maxRecDepth 100000 in
set_option maxHeartbeats 4000000 in
theorem p_X9_init {X : gj_X}  {σ : gj_H} {v : gj_V} {lim a : Nat} : gj_E X 0 m_X9_init [.ref a] lim σ v (q_n lim (fun σ' v' => σ' = σ ∧ v' = v)) := by
  refine gj_E_at (L := [some (.ref a)]) (k := 0) rfl (by decide) rfl ?_
  refine g_aload_n (q := 1) dX9_init_0 rfl rfl ?_
  refine g_oinit (q := 4) k_X9_3 (by decide) dX9_init_1 rfl ?_
  exact r_n dX9_init_4 rfl rfl rfl rfl ⟨rfl, rfl⟩

set_option maxRecDepth 100000 in
set_option maxHeartbeats 4000000 in
theorem p_X5_init {X : gj_X}  {σ : gj_H} {v : gj_V} {lim p : Nat} (hl : lim = p + 1) (hS0_p : σ p = some (.inl (5, [some none, none]))) (hz : v p = fun _ => 0) : gj_E X 0 m_X5_init [.ref p] lim σ v (q_n (p + 2) (fun σ' v' => rsh σ' p ∧ kp σ σ' v v' p ∧ zr v' p (p + 2))) := by
  subst hl
  have hB0 : ∀ a, a < p → σ a = σ a := fun _ _ => rfl
  have hY0 : ∀ a, a < p → v a = v a := fun _ _ => rfl
  have hZ0 : zr v p (p + 1) := fun a g1 g2 => by
    rw [show a = p by omega]; exact hz
  refine gj_E_at (L := [some (.ref p)]) (k := 0) rfl (by decide) rfl ?_
  refine g_aload_n (q := 1) dX5_init_0 rfl rfl ?_
  refine g_oinit (q := 4) k_X5_3 (by decide) dX5_init_1 rfl ?_
  refine g_aload_n (q := 5) dX5_init_4 rfl rfl ?_
  refine g_bipush (q := 7) (x := 6) dX5_init_5 (by decide) rfl ?_
  refine g_newi (q := 9) (n := 6) gl_arr (by decide) (by decide) (by decide) (by decide) dX5_init_7 rfl ?_
  refine g_nm (lim' := p + 2) (kc' := 1) (ks' := 6) (by omega) (by omega) (by omega) ?_
  refine g_gs (fun σ1 hs1 => ?_)
  have ht1 : ∀ a, a ≠ p + 1 → σ1 a = σ a := fun a ha => by rw [hs1]; exact va_up_ne _ _ ha
  have hS1_p : σ1 (p) = some (.inl (5, [some none, none])) := (ht1 _ (by omega)).trans hS0_p
  have hS1_a : σ1 (p + 1) = some (.inr (.inl 6)) := by rw [hs1]; exact va_up_self _ _ _
  have hB1 : ∀ a, a < p → σ1 a = σ a := fun a ha => (ht1 a (by omega)).trans (hB0 a ha)
  refine g_gv (fun v1 hv1 => ?_)
  have hY1 : ∀ a, a < p → v1 a = v a := fun a ha => (show v1 a = v a by rw [hv1, gu_n _ _ (by omega)]).trans (hY0 a ha)
  have hZ1 : zr v1 (p) (p + 2) := fun a g1 g2 => by
    by_cases e : a = p + 1
    · rw [hv1, e, gu_s]
    · rw [hv1, gu_n _ _ e]; exact hZ0 a g1 (by omega)
  refine g_putR (q := 12) f_X5_9 rfl rfl hS1_p (Nat.le_of_ble_eq_true rfl) rfl rfl dX5_init_9 rfl ?_
  refine g_gs (fun σ2 hs2 => ?_)
  have ht2 : ∀ a, a ≠ p → σ2 a = σ1 a := fun a ha => by rw [hs2]; exact va_up_ne _ _ ha
  have hS2_a : σ2 (p + 1) = some (.inr (.inl 6)) := (ht2 _ (by omega)).trans hS1_a
  have hS2_p : σ2 (p) = some (.inl (5, [some (some (p + 1)), none])) := by rw [hs2]; exact va_up_self _ _ _
  have hB2 : ∀ a, a < p → σ2 a = σ a := fun a ha => (ht2 a (by omega)).trans (hB1 a ha)
  exact r_n dX5_init_12 rfl rfl rfl rfl ⟨⟨hS2_p, hS2_a⟩, ⟨hB2, hY1⟩, hZ1⟩

set_option maxRecDepth 100000 in
set_option maxHeartbeats 4000000 in
theorem p_X8_init {X : gj_X}  {σ : gj_H} {v : gj_V} {lim p : Nat} (hl : lim = p + 1) (hS0_p : σ p = some (.inl (8, [some none, none]))) (hz : v p = fun _ => 0) : gj_E X 0 m_X8_init [.ref p] lim σ v (q_n (p + 2) (fun σ' v' => tsh σ' p ∧ kp σ σ' v v' p ∧ zr v' p (p + 2))) := by
  subst hl
  have hB0 : ∀ a, a < p → σ a = σ a := fun _ _ => rfl
  have hY0 : ∀ a, a < p → v a = v a := fun _ _ => rfl
  have hZ0 : zr v p (p + 1) := fun a g1 g2 => by
    rw [show a = p by omega]; exact hz
  refine gj_E_at (L := [some (.ref p)]) (k := 0) rfl (by decide) rfl ?_
  refine g_aload_n (q := 1) dX8_init_0 rfl rfl ?_
  refine g_oinit (q := 4) k_X8_3 (by decide) dX8_init_1 rfl ?_
  refine g_aload_n (q := 5) dX8_init_4 rfl rfl ?_
  refine g_bipush (q := 7) (x := 120) dX8_init_5 (by decide) rfl ?_
  refine g_newi (q := 9) (n := 120) gl_arr (by decide) (by decide) (by decide) (by decide) dX8_init_7 rfl ?_
  refine g_nm (lim' := p + 2) (kc' := 1) (ks' := 120) (by omega) (by omega) (by omega) ?_
  refine g_gs (fun σ1 hs1 => ?_)
  have ht1 : ∀ a, a ≠ p + 1 → σ1 a = σ a := fun a ha => by rw [hs1]; exact va_up_ne _ _ ha
  have hS1_p : σ1 (p) = some (.inl (8, [some none, none])) := (ht1 _ (by omega)).trans hS0_p
  have hS1_a : σ1 (p + 1) = some (.inr (.inl 120)) := by rw [hs1]; exact va_up_self _ _ _
  have hB1 : ∀ a, a < p → σ1 a = σ a := fun a ha => (ht1 a (by omega)).trans (hB0 a ha)
  refine g_gv (fun v1 hv1 => ?_)
  have hY1 : ∀ a, a < p → v1 a = v a := fun a ha => (show v1 a = v a by rw [hv1, gu_n _ _ (by omega)]).trans (hY0 a ha)
  have hZ1 : zr v1 (p) (p + 2) := fun a g1 g2 => by
    by_cases e : a = p + 1
    · rw [hv1, e, gu_s]
    · rw [hv1, gu_n _ _ e]; exact hZ0 a g1 (by omega)
  refine g_putR (q := 12) f_X8_9 rfl rfl hS1_p (Nat.le_of_ble_eq_true rfl) rfl rfl dX8_init_9 rfl ?_
  refine g_gs (fun σ2 hs2 => ?_)
  have ht2 : ∀ a, a ≠ p → σ2 a = σ1 a := fun a ha => by rw [hs2]; exact va_up_ne _ _ ha
  have hS2_a : σ2 (p + 1) = some (.inr (.inl 120)) := (ht2 _ (by omega)).trans hS1_a
  have hS2_p : σ2 (p) = some (.inl (8, [some (some (p + 1)), none])) := by rw [hs2]; exact va_up_self _ _ _
  have hB2 : ∀ a, a < p → σ2 a = σ a := fun a ha => (ht2 a (by omega)).trans (hB1 a ha)
  exact r_n dX8_init_12 rfl rfl rfl rfl ⟨⟨hS2_p, hS2_a⟩, ⟨hB2, hY1⟩, hZ1⟩

set_option maxRecDepth 100000 in
set_option maxHeartbeats 4000000 in
theorem p_X0_init {X : gj_X}  {σ : gj_H} {v : gj_V} {lim p : Nat} (hl : lim = p + 1) (hS0_p : σ p = some (.inl (0, [some none, some none, some none, none, none, none, none, none, none]))) (hz : v p = fun _ => 0) : gj_E X 1 m_X0_init [.ref p] lim σ v (q_n (p + 6) (fun σ' v' => bsh σ' p ∧ kp σ σ' v v' p ∧ zr v' p (p + 6))) := by
  subst hl
  have hB0 : ∀ a, a < p → σ a = σ a := fun _ _ => rfl
  have hY0 : ∀ a, a < p → v a = v a := fun _ _ => rfl
  have hZ0 : zr v p (p + 1) := fun a g1 g2 => by
    rw [show a = p by omega]; exact hz
  refine gj_E_at (L := [some (.ref p)]) (k := 0) rfl (by decide) rfl ?_
  refine g_aload_n (q := 1) dX0_init_0 rfl rfl ?_
  refine g_oinit (q := 4) k_X0_3 (by decide) dX0_init_1 rfl ?_
  refine g_aload_n (q := 5) dX0_init_4 rfl rfl ?_
  refine g_new (q := 8) n_X0_9 (by decide) (by decide) dX0_init_5 rfl ?_
  refine g_nm (lim' := p + 2) (kc' := 1) (ks' := 4) (by omega) (by omega) (by omega) ?_
  refine g_gs (fun σ1 hs1 => ?_)
  have ht1 : ∀ a, a ≠ p + 1 → σ1 a = σ a := fun a ha => by rw [hs1]; exact va_up_ne _ _ ha
  have hS1_p : σ1 (p) = some (.inl (0, [some none, some none, some none, none, none, none, none, none, none])) := (ht1 _ (by omega)).trans hS0_p
  have hS1_g : σ1 (p + 1) = some (.inl (2, [none, none, none, none])) := by rw [hs1]; exact va_up_self _ _ _
  have hB1 : ∀ a, a < p → σ1 a = σ a := fun a ha => (ht1 a (by omega)).trans (hB0 a ha)
  refine g_gv (fun v1 hv1 => ?_)
  have hY1 : ∀ a, a < p → v1 a = v a := fun a ha => (show v1 a = v a by rw [hv1, gu_n _ _ (by omega)]).trans (hY0 a ha)
  have hZ1 : zr v1 (p) (p + 2) := fun a g1 g2 => by
    by_cases e : a = p + 1
    · rw [hv1, e, gu_s]
    · rw [hv1, gu_n _ _ e]; exact hZ0 a g1 (by omega)
  refine g_dup (q := 9) dX0_init_8 rfl rfl ?_
  refine c_I (q := 12) (p_X2_init) k_X0_11 (by decide) rfl rfl (Nat.le_of_ble_eq_true rfl) (nc := 0) (ns := 0) rfl rfl (by decide) (by decide) dX0_init_9 rfl ?_
  rintro sx vx ⟨hqa, hqb⟩
  subst sx
  subst vx
  refine g_putR (q := 15) f_X0_12 rfl rfl hS1_p (Nat.le_of_ble_eq_true rfl) rfl rfl dX0_init_12 rfl ?_
  refine g_gs (fun σ2 hs2 => ?_)
  have ht2 : ∀ a, a ≠ p → σ2 a = σ1 a := fun a ha => by rw [hs2]; exact va_up_ne _ _ ha
  have hS2_g : σ2 (p + 1) = some (.inl (2, [none, none, none, none])) := (ht2 _ (by omega)).trans hS1_g
  have hS2_p : σ2 (p) = some (.inl (0, [some (some (p + 1)), some none, some none, none, none, none, none, none, none])) := by rw [hs2]; exact va_up_self _ _ _
  have hB2 : ∀ a, a < p → σ2 a = σ a := fun a ha => (ht2 a (by omega)).trans (hB1 a ha)
  refine g_aload_n (q := 16) dX0_init_15 rfl rfl ?_
  refine g_new (q := 19) n_X0_18 (by decide) (by decide) dX0_init_16 rfl ?_
  refine g_nm (lim' := p + 3) (kc' := 2) (ks' := 6) (by omega) (by omega) (by omega) ?_
  refine g_gs (fun σ3 hs3 => ?_)
  have ht3 : ∀ a, a ≠ p + 2 → σ3 a = σ2 a := fun a ha => by rw [hs3]; exact va_up_ne _ _ ha
  have hS3_p : σ3 (p) = some (.inl (0, [some (some (p + 1)), some none, some none, none, none, none, none, none, none])) := (ht3 _ (by omega)).trans hS2_p
  have hS3_g : σ3 (p + 1) = some (.inl (2, [none, none, none, none])) := (ht3 _ (by omega)).trans hS2_g
  have hS3_r : σ3 (p + 2) = some (.inl (5, [some none, none])) := by rw [hs3]; exact va_up_self _ _ _
  have hB3 : ∀ a, a < p → σ3 a = σ a := fun a ha => (ht3 a (by omega)).trans (hB2 a ha)
  refine g_gv (fun v2 hv2 => ?_)
  have hY2 : ∀ a, a < p → v2 a = v a := fun a ha => (show v2 a = v1 a by rw [hv2, gu_n _ _ (by omega)]).trans (hY1 a ha)
  have hZ2 : zr v2 (p) (p + 3) := fun a g1 g2 => by
    by_cases e : a = p + 2
    · rw [hv2, e, gu_s]
    · rw [hv2, gu_n _ _ e]; exact hZ1 a g1 (by omega)
  refine g_dup (q := 20) dX0_init_19 rfl rfl ?_
  refine c_I (q := 23) (p_X5_init (p := p + 2) (by omega) hS3_r (hZ2 _ (by omega) (by omega))) k_X0_20 (by decide) rfl rfl (Nat.le_of_ble_eq_true rfl) (nc := 1) (ns := 6) rfl rfl (by decide) (by decide) dX0_init_20 rfl ?_
  rintro σ4 v3 ⟨hq4, ⟨hk4, hj4⟩, hzz4⟩
  refine g_nm (lim' := p + 4) (kc' := 3) (ks' := 12) (by omega) (by omega) (by omega) ?_
  have ht4 : ∀ a, a < p + 2 → σ4 a = σ3 a := hk4
  have hS4_p : σ4 (p) = some (.inl (0, [some (some (p + 1)), some none, some none, none, none, none, none, none, none])) := (ht4 _ (by omega)).trans hS3_p
  have hS4_g : σ4 (p + 1) = some (.inl (2, [none, none, none, none])) := (ht4 _ (by omega)).trans hS3_g
  have hS4_r1 : rsh σ4 (p + 2) := hq4
  have hB4 : ∀ a, a < p → σ4 a = σ a := fun a ha => (ht4 a (by omega)).trans (hB3 a ha)
  have hY3 : ∀ a, a < p → v3 a = v a := fun a ha => (hj4 a (by omega)).trans (hY2 a ha)
  have hZ3 : zr v3 (p) (p + 4) := fun a g1 g2 => by
    by_cases e : a < p + 2
    · rw [hj4 a e]; exact hZ2 a g1 (by omega)
    · exact hzz4 a (by omega) (by omega)
  refine g_putR (q := 26) f_X0_21 rfl rfl hS4_p (Nat.le_of_ble_eq_true rfl) rfl rfl dX0_init_23 rfl ?_
  refine g_gs (fun σ5 hs5 => ?_)
  have ht5 : ∀ a, a ≠ p → σ5 a = σ4 a := fun a ha => by rw [hs5]; exact va_up_ne _ _ ha
  have hS5_g : σ5 (p + 1) = some (.inl (2, [none, none, none, none])) := (ht5 _ (by omega)).trans hS4_g
  have hS5_r1 : rsh σ5 (p + 2) := rsh_k hS4_r1 (fun a g1 g2 => ht5 a (by omega))
  have hS5_p : σ5 (p) = some (.inl (0, [some (some (p + 1)), some (some (p + 2)), some none, none, none, none, none, none, none])) := by rw [hs5]; exact va_up_self _ _ _
  have hB5 : ∀ a, a < p → σ5 a = σ a := fun a ha => (ht5 a (by omega)).trans (hB4 a ha)
  refine g_aload_n (q := 27) dX0_init_26 rfl rfl ?_
  refine g_new (q := 30) n_X0_18 (by decide) (by decide) dX0_init_27 rfl ?_
  refine g_nm (lim' := p + 5) (kc' := 4) (ks' := 14) (by omega) (by omega) (by omega) ?_
  refine g_gs (fun σ6 hs6 => ?_)
  have ht6 : ∀ a, a ≠ p + 4 → σ6 a = σ5 a := fun a ha => by rw [hs6]; exact va_up_ne _ _ ha
  have hS6_p : σ6 (p) = some (.inl (0, [some (some (p + 1)), some (some (p + 2)), some none, none, none, none, none, none, none])) := (ht6 _ (by omega)).trans hS5_p
  have hS6_g : σ6 (p + 1) = some (.inl (2, [none, none, none, none])) := (ht6 _ (by omega)).trans hS5_g
  have hS6_r1 : rsh σ6 (p + 2) := rsh_k hS5_r1 (fun a g1 g2 => ht6 a (by omega))
  have hS6_r : σ6 (p + 4) = some (.inl (5, [some none, none])) := by rw [hs6]; exact va_up_self _ _ _
  have hB6 : ∀ a, a < p → σ6 a = σ a := fun a ha => (ht6 a (by omega)).trans (hB5 a ha)
  refine g_gv (fun v4 hv4 => ?_)
  have hY4 : ∀ a, a < p → v4 a = v a := fun a ha => (show v4 a = v3 a by rw [hv4, gu_n _ _ (by omega)]).trans (hY3 a ha)
  have hZ4 : zr v4 (p) (p + 5) := fun a g1 g2 => by
    by_cases e : a = p + 4
    · rw [hv4, e, gu_s]
    · rw [hv4, gu_n _ _ e]; exact hZ3 a g1 (by omega)
  refine g_dup (q := 31) dX0_init_30 rfl rfl ?_
  refine c_I (q := 34) (p_X5_init (p := p + 4) (by omega) hS6_r (hZ4 _ (by omega) (by omega))) k_X0_20 (by decide) rfl rfl (Nat.le_of_ble_eq_true rfl) (nc := 1) (ns := 6) rfl rfl (by decide) (by decide) dX0_init_31 rfl ?_
  rintro σ7 v5 ⟨hq7, ⟨hk7, hj7⟩, hzz7⟩
  refine g_nm (lim' := p + 6) (kc' := 5) (ks' := 20) (by omega) (by omega) (by omega) ?_
  have ht7 : ∀ a, a < p + 4 → σ7 a = σ6 a := hk7
  have hS7_p : σ7 (p) = some (.inl (0, [some (some (p + 1)), some (some (p + 2)), some none, none, none, none, none, none, none])) := (ht7 _ (by omega)).trans hS6_p
  have hS7_g : σ7 (p + 1) = some (.inl (2, [none, none, none, none])) := (ht7 _ (by omega)).trans hS6_g
  have hS7_r1 : rsh σ7 (p + 2) := rsh_k hS6_r1 (fun a g1 g2 => ht7 a (by omega))
  have hS7_r2 : rsh σ7 (p + 4) := hq7
  have hB7 : ∀ a, a < p → σ7 a = σ a := fun a ha => (ht7 a (by omega)).trans (hB6 a ha)
  have hY5 : ∀ a, a < p → v5 a = v a := fun a ha => (hj7 a (by omega)).trans (hY4 a ha)
  have hZ5 : zr v5 (p) (p + 6) := fun a g1 g2 => by
    by_cases e : a < p + 4
    · rw [hj7 a e]; exact hZ4 a g1 (by omega)
    · exact hzz7 a (by omega) (by omega)
  refine g_putR (q := 37) f_X0_25 rfl rfl hS7_p (Nat.le_of_ble_eq_true rfl) rfl rfl dX0_init_34 rfl ?_
  refine g_gs (fun σ8 hs8 => ?_)
  have ht8 : ∀ a, a ≠ p → σ8 a = σ7 a := fun a ha => by rw [hs8]; exact va_up_ne _ _ ha
  have hS8_g : σ8 (p + 1) = some (.inl (2, [none, none, none, none])) := (ht8 _ (by omega)).trans hS7_g
  have hS8_r1 : rsh σ8 (p + 2) := rsh_k hS7_r1 (fun a g1 g2 => ht8 a (by omega))
  have hS8_r2 : rsh σ8 (p + 4) := rsh_k hS7_r2 (fun a g1 g2 => ht8 a (by omega))
  have hS8_p : σ8 (p) = some (sh_buf p) := by rw [hs8]; exact va_up_self _ _ _
  have hB8 : ∀ a, a < p → σ8 a = σ a := fun a ha => (ht8 a (by omega)).trans (hB7 a ha)
  exact r_n dX0_init_37 rfl rfl rfl rfl ⟨⟨hS8_p, hS8_g, hS8_r1, hS8_r2⟩, ⟨hB8, hY5⟩, hZ5⟩
