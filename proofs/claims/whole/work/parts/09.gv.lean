/-! ===== methods that make no cell: contracts by what they answer ===== -/
def q_i (lim : Nat) (σ : gj_H) (P : Int32 → gj_V → Prop) : gj_Q := fun r l s v => l = lim ∧ s = σ ∧ ∃ x : Int32, r = some (.int x) ∧ P x v
def q_l (lim : Nat) (σ : gj_H) (P : Int64 → gj_V → Prop) : gj_Q := fun r l s v => l = lim ∧ s = σ ∧ ∃ x : Int64, r = some (.long x) ∧ P x v
def q_v (lim : Nat) (σ : gj_H) (P : gj_V → Prop) : gj_Q := fun r l s v => l = lim ∧ s = σ ∧ r = none ∧ P v
section GV
variable {X : gj_X} {d d' : Nat} {M N : gj_M} {Q : gj_Q} {lim : Nat} {σ : gj_H} {v : gj_V} {pc q index n b ci : Nat} {L : List (Option Value)} {st0 As rest : List Value} {t : List (Option (Option Nat))}
theorem c_Vi {P : Int32 → gj_V → Prop} (hE : gj_E X d' N (.ref b :: As) lim σ v (q_i lim σ P)) (hk : gj_CkV M.2.1.cls index N n) (hs : σ b = some (.inl (ci, t))) (hcl : (vwCl[ci]?).map (fun z => z.1) = some N.2.1.cls) (hd' : d' < d) (hn : As.length = n) (hst : st0 = As.reverse ++ .ref b :: rest) (hrm : (rest.map fun v => v.category).sum ≤ 8) (hz : N.2.2.2.2.1 = 0) (hz2 : N.2.2.2.2.2 = 0) (hd : decode M.1 pc = .ok (.invokevirtual index, 3)) (hq : pc + 3 = q)
    (kk : ∀ (x : Int32) (v' : gj_V), P x v' → gj_G X d M Q lim σ v' 0 0 q L (.int x :: rest)) : gj_G X d M Q lim σ v 0 0 pc L st0 := by
  refine g_callV hk hs hcl hd' hn hst hrm (by rw [hz]; exact Nat.zero_le _) (by rw [hz2]; exact Nat.zero_le _) hd hq hE ?_
  rintro r l' s' v' ⟨rfl, rfl, x, rfl, h⟩
  rw [hz, hz2]
  exact kk x v' h
theorem c_Vv {P : gj_V → Prop} (hE : gj_E X d' N (.ref b :: As) lim σ v (q_v lim σ P)) (hk : gj_CkV M.2.1.cls index N n) (hs : σ b = some (.inl (ci, t))) (hcl : (vwCl[ci]?).map (fun z => z.1) = some N.2.1.cls) (hd' : d' < d) (hn : As.length = n) (hst : st0 = As.reverse ++ .ref b :: rest) (hrm : (rest.map fun v => v.category).sum ≤ 8) (hz : N.2.2.2.2.1 = 0) (hz2 : N.2.2.2.2.2 = 0) (hd : decode M.1 pc = .ok (.invokevirtual index, 3)) (hq : pc + 3 = q)
    (kk : ∀ (v' : gj_V), P v' → gj_G X d M Q lim σ v' 0 0 q L rest) : gj_G X d M Q lim σ v 0 0 pc L st0 := by
  refine g_callV hk hs hcl hd' hn hst hrm (by rw [hz]; exact Nat.zero_le _) (by rw [hz2]; exact Nat.zero_le _) hd hq hE ?_
  rintro r l' s' v' ⟨rfl, rfl, rfl, h⟩
  rw [hz, hz2]
  exact kk v' h
theorem c_Vl {P : Int64 → gj_V → Prop} (hE : gj_E X d' N (.ref b :: As) lim σ v (q_l lim σ P)) (hk : gj_CkV M.2.1.cls index N n) (hs : σ b = some (.inl (ci, t))) (hcl : (vwCl[ci]?).map (fun z => z.1) = some N.2.1.cls) (hd' : d' < d) (hn : As.length = n) (hst : st0 = As.reverse ++ .ref b :: rest) (hrm : (rest.map fun v => v.category).sum ≤ 8) (hz : N.2.2.2.2.1 = 0) (hz2 : N.2.2.2.2.2 = 0) (hd : decode M.1 pc = .ok (.invokevirtual index, 3)) (hq : pc + 3 = q)
    (kk : ∀ (x : Int64) (v' : gj_V), P x v' → gj_G X d M Q lim σ v' 0 0 q L (.long x :: rest)) : gj_G X d M Q lim σ v 0 0 pc L st0 := by
  refine g_callV hk hs hcl hd' hn hst hrm (by rw [hz]; exact Nat.zero_le _) (by rw [hz2]; exact Nat.zero_le _) hd hq hE ?_
  rintro r l' s' v' ⟨rfl, rfl, x, rfl, h⟩
  rw [hz, hz2]
  exact kk x v' h
theorem c_Si {P : Int32 → gj_V → Prop} (hE : gj_E X d' N As lim σ v (q_i lim σ P)) (hk : gj_CkS M.2.1.cls index N n) (hd' : d' < d) (hn : As.length = n) (hst : st0 = As.reverse ++ rest) (hrm : (rest.map fun v => v.category).sum ≤ 8) (hz : N.2.2.2.2.1 = 0) (hz2 : N.2.2.2.2.2 = 0) (hd : decode M.1 pc = .ok (.invokestatic index, 3)) (hq : pc + 3 = q)
    (kk : ∀ (x : Int32) (v' : gj_V), P x v' → gj_G X d M Q lim σ v' 0 0 q L (.int x :: rest)) : gj_G X d M Q lim σ v 0 0 pc L st0 := by
  refine g_callS hk hd' hn hst hrm (by rw [hz]; exact Nat.zero_le _) (by rw [hz2]; exact Nat.zero_le _) hd hq hE ?_
  rintro r l' s' v' ⟨rfl, rfl, x, rfl, h⟩
  rw [hz, hz2]
  exact kk x v' h
theorem c_Sv {P : gj_V → Prop} (hE : gj_E X d' N As lim σ v (q_v lim σ P)) (hk : gj_CkS M.2.1.cls index N n) (hd' : d' < d) (hn : As.length = n) (hst : st0 = As.reverse ++ rest) (hrm : (rest.map fun v => v.category).sum ≤ 8) (hz : N.2.2.2.2.1 = 0) (hz2 : N.2.2.2.2.2 = 0) (hd : decode M.1 pc = .ok (.invokestatic index, 3)) (hq : pc + 3 = q)
    (kk : ∀ (v' : gj_V), P v' → gj_G X d M Q lim σ v' 0 0 q L rest) : gj_G X d M Q lim σ v 0 0 pc L st0 := by
  refine g_callS hk hd' hn hst hrm (by rw [hz]; exact Nat.zero_le _) (by rw [hz2]; exact Nat.zero_le _) hd hq hE ?_
  rintro r l' s' v' ⟨rfl, rfl, rfl, h⟩
  rw [hz, hz2]
  exact kk v' h
theorem c_Sl {P : Int64 → gj_V → Prop} (hE : gj_E X d' N As lim σ v (q_l lim σ P)) (hk : gj_CkS M.2.1.cls index N n) (hd' : d' < d) (hn : As.length = n) (hst : st0 = As.reverse ++ rest) (hrm : (rest.map fun v => v.category).sum ≤ 8) (hz : N.2.2.2.2.1 = 0) (hz2 : N.2.2.2.2.2 = 0) (hd : decode M.1 pc = .ok (.invokestatic index, 3)) (hq : pc + 3 = q)
    (kk : ∀ (x : Int64) (v' : gj_V), P x v' → gj_G X d M Q lim σ v' 0 0 q L (.long x :: rest)) : gj_G X d M Q lim σ v 0 0 pc L st0 := by
  refine g_callS hk hd' hn hst hrm (by rw [hz]; exact Nat.zero_le _) (by rw [hz2]; exact Nat.zero_le _) hd hq hE ?_
  rintro r l' s' v' ⟨rfl, rfl, x, rfl, h⟩
  rw [hz, hz2]
  exact kk x v' h
theorem r_i {P : Int32 → gj_V → Prop} {x : Int32} (hd : decode M.1 pc = .ok (.ireturn, 1)) (hr : M.2.2.2.1 = some .int) (hkc : 0 = M.2.2.2.2.1) (hks : 0 = M.2.2.2.2.2) (h : P x v) : gj_G X d M (q_i lim σ P) lim σ v 0 0 pc L [.int x] := g_iret hr hkc hks hd ⟨rfl, rfl, x, rfl, h⟩
theorem r_z {P : Int32 → gj_V → Prop} {x : Int32} (hd : decode M.1 pc = .ok (.ireturn, 1)) (hr : M.2.2.2.1 = some .boolean) (hkc : 0 = M.2.2.2.2.1) (hks : 0 = M.2.2.2.2.2) (hz : narrow .boolean (.int x) = .int x) (h : P x v) : gj_G X d M (q_i lim σ P) lim σ v 0 0 pc L [.int x] := g_zret hr hz hkc hks hd ⟨rfl, rfl, x, rfl, h⟩
theorem r_l {P : Int64 → gj_V → Prop} {x : Int64} (hd : decode M.1 pc = .ok (.lreturn, 1)) (hr : M.2.2.2.1 = some .long) (hkc : 0 = M.2.2.2.2.1) (hks : 0 = M.2.2.2.2.2) (h : P x v) : gj_G X d M (q_l lim σ P) lim σ v 0 0 pc L [.long x] := g_lret hr hkc hks hd ⟨rfl, rfl, x, rfl, h⟩
theorem r_v {P : gj_V → Prop} (hd : decode M.1 pc = .ok (.return_, 1)) (hr : M.2.2.2.1 = none) (hkc : 0 = M.2.2.2.2.1) (hks : 0 = M.2.2.2.2.2) (h : P v) : gj_G X d M (q_v lim σ P) lim σ v 0 0 pc L [] := g_vret hr hkc hks hd ⟨rfl, rfl, rfl, h⟩
/-- a contract's answer may be said more weakly -/
theorem gj_E.mono {Q Q' : gj_Q} {as : List Value} (h : gj_E X d M as lim σ v Q) (hq : ∀ r l s v, Q r l s v → Q' r l s v) : gj_E X d M as lim σ v Q' := by
  unfold gj_E Met at h ⊢
  refine MetFree.mono h (fun _ _ h => h) (fun _ _ _ _ _ h => h) (fun a st o t _ hh => ?_)
  obtain ⟨⟨⟨r, l', s', v', e1, e2, e3⟩, e4⟩, e5⟩ := hh
  exact ⟨⟨⟨r, l', s', v', e1, hq _ _ _ _ e2, e3⟩, e4⟩, e5⟩
theorem gj_E_at {as : List Value} {k : Nat} (hl : L = gj_ent as ++ List.replicate k none) (hy : plainName M.2.1.cls = true) (hL : Nat.ble (lg_sl as).length M.2.2.1 = true) (h : gj_G X d M Q lim σ v 0 0 0 L []) : gj_E X d M as lim σ v Q := by
  refine gj_E_of hy hL ?_ h
  intro i w hw
  subst hl
  by_cases hi : i < (gj_ent as).length
  · rw [List.getElem?_append_left hi] at hw
    exact hw
  · rw [List.getElem?_append_right (by omega), List.getElem?_replicate] at hw
    split at hw <;> simp at hw
end GV
/-- locals forgotten, place by place -/
def gj_wk : List (Option Value) → List (Option Value) → Prop
  | [], _ => True
  | none :: r, _ :: s => gj_wk r s
  | none :: r, [] => gj_wk r []
  | some x :: r, y :: s => y = some x ∧ gj_wk r s
  | some _ :: _, [] => False
theorem gj_wk_spec : ∀ (L' L : List (Option Value)), gj_wk L' L → ∀ (i : Nat) (w : Value), L'[i]? = some (some w) → L[i]? = some (some w)
  | [], L, _, i, w, h => by simp at h
  | none :: r, y :: s, h, i, w, hw => by
    rcases i with _ | i
    · simp at hw
    · have := gj_wk_spec r s h i w (by simpa using hw)
      simpa using this
  | none :: r, [], h, i, w, hw => by
    rcases i with _ | i
    · simp at hw
    · have := gj_wk_spec r [] h i w (by simpa using hw)
      simp at this
  | some x :: r, y :: s, h, i, w, hw => by
    obtain ⟨h1, h2⟩ := h
    rcases i with _ | i
    · simp at hw
      subst hw
      simp [h1]
    · have := gj_wk_spec r s h2 i w (by simpa using hw)
      simpa using this
  | some x :: r, [], h, i, w, hw => False.elim h
theorem g_wk {X : gj_X} {d : Nat} {M : gj_M} {Q : gj_Q} {lim : Nat} {σ : gj_H} {v : gj_V} {kc ks pc : Nat} {L L' : List (Option Value)} {st : List Value} (h : gj_wk L' L) (k : gj_G X d M Q lim σ v kc ks pc L' st) : gj_G X d M Q lim σ v kc ks pc L st := g_weak (gj_wk_spec L' L h) k
/-! numbers -/
theorem gn_lit (n : Nat) : (OfNat.ofNat n : Int32) = nI n := rfl
theorem gn_b0 {c : Prop} [Decidable c] (h : (if c then (1 : Int32) else 0) = 0) : ¬ c := by
  intro hc
  rw [if_pos hc] at h
  exact absurd h (by decide)
theorem gn_b1 {c : Prop} [Decidable c] (h : ¬ (if c then (1 : Int32) else 0) = 0) : c := by
  by_cases hc : c
  · exact hc
  · rw [if_neg hc] at h
    exact absurd rfl h
theorem gn_bz {c : Prop} [Decidable c] : narrow .boolean (.int (if c then (1 : Int32) else 0)) = .int (if c then (1 : Int32) else 0) := by
  by_cases hc : c
  · rw [if_pos hc]; decide
  · rw [if_neg hc]; decide
theorem gn_w0 {c : Prop} [Decidable c] (h : (if c then (0 : Int32) else 1) = 0) : c := by
  by_cases hc : c
  · exact hc
  · rw [if_neg hc] at h
    exact absurd h (by decide)
theorem gn_w1 {c : Prop} [Decidable c] (h : ¬ (if c then (0 : Int32) else 1) = 0) : ¬ c := by
  intro hc
  rw [if_pos hc] at h
  exact absurd rfl h
/-! the heap's values -/
theorem gu_s (v : gj_V) (a : Nat) (f : Nat → Int32) : gj_up v a f a = f := va_up_self v a f
theorem gu_n (v : gj_V) {a b : Nat} (f : Nat → Int32) (h : b ≠ a) : gj_up v a f b = v b := va_up_ne v f h
theorem gu_2 (v : gj_V) (a k : Nat) (x : Int32) : gj_up2 v a k x = gj_up v a (upd (v a) k x) := rfl
theorem gu_u (v : gj_V) (a : Nat) (f g : Nat → Int32) : gj_up (gj_up v a f) a g = gj_up v a g := by
  funext b
  by_cases h : b = a
  · subst h; rw [gu_s, gu_s]
  · rw [gu_n _ _ h, gu_n _ _ h, gu_n _ _ h]
theorem gu_id (v : gj_V) (a : Nat) : gj_up v a (v a) = v := by
  funext b
  by_cases h : b = a
  · subst h; rw [gu_s]
  · rw [gu_n _ _ h]
theorem ud_s (f : Nat → Int32) (k : Nat) (x : Int32) : upd f k x k = x := by simp [upd]
theorem ud_n (f : Nat → Int32) {k j : Nat} (x : Int32) (h : j ≠ k) : upd f k x j = f j := by simp [upd, h]
