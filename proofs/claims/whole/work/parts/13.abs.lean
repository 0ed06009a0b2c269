/-! ===== the works as a mathematical value; a floor that holds it ===== -/
abbrev aS : Type := (Nat → Nat → Int32) × (Nat → List Int32)
def gB (A : aS) (b : Nat) : bS := (A.1 b, A.1 (10 + b), A.2 b, A.2 (10 + b))
def sB (A : aS) (b : Nat) (B : bS) : aS := (va_up (va_up A.1 b B.1) (10 + b) B.2.1, va_up (va_up A.2 b B.2.2.1) (10 + b) B.2.2.2)
def sR (A : aS) (i : Nat) (f : Nat → Int32) : aS := (va_up A.1 i f, A.2)
def sL (A : aS) (i : Nat) (l : List Int32) : aS := (A.1, va_up A.2 i l)
theorem vu_s {α : Type} (f : Nat → α) (k : Nat) (x : α) : va_up f k x k = x := va_up_self f k x
theorem vu_n {α : Type} (f : Nat → α) {k j : Nat} (x : α) (h : j ≠ k) : va_up f k x j = f j := va_up_ne f x h
theorem vu_id {α : Type} (f : Nat → α) (k : Nat) : va_up f k (f k) = f := by
  funext j
  by_cases h : j = k
  · subst h; rw [vu_s]
  · rw [vu_n _ _ h]
theorem vu_u {α : Type} (f : Nat → α) (k : Nat) (x y : α) : va_up (va_up f k x) k y = va_up f k y := by
  funext j
  by_cases h : j = k
  · subst h; rw [vu_s, vu_s]
  · rw [vu_n _ _ h, vu_n _ _ h, vu_n _ _ h]
theorem vu_sw {α : Type} (f : Nat → α) {k j : Nat} (x y : α) (h : k ≠ j) : va_up (va_up f k x) j y = va_up (va_up f j y) k x := by
  funext i
  by_cases h1 : i = k
  · subst h1; rw [vu_s, vu_n _ _ h, vu_s]
  · by_cases h2 : i = j
    · subst h2; rw [vu_s, vu_n _ _ h1, vu_s]
    · rw [vu_n _ _ h2, vu_n _ _ h1, vu_n _ _ h1, vu_n _ _ h2]
theorem gB_s (A : aS) (b : Nat) (B : bS) (hb : b < 6) : gB (sB A b B) b = B := by
  obtain ⟨g, f, i, q⟩ := B
  simp only [gB, sB, vu_s, vu_n _ _ (show b ≠ 10 + b by omega)]
theorem gB_n (A : aS) (b c : Nat) (B : bS) (hb : b < 6) (hc : c < 6) (h : c ≠ b) : gB (sB A b B) c = gB A c := by
  simp only [gB, sB]
  rw [vu_n _ _ (by omega), vu_n _ _ (by omega), vu_n _ _ (by omega), vu_n _ _ (by omega), vu_n _ _ (by omega), vu_n _ _ (by omega), vu_n _ _ (by omega), vu_n _ _ (by omega)]
theorem sB_r (A : aS) (b i : Nat) (B : bS) (h1 : i ≠ b) (h2 : i ≠ 10 + b) : (sB A b B).1 i = A.1 i := by
  simp only [sB]; rw [vu_n _ _ h2, vu_n _ _ h1]
theorem sB_l (A : aS) (b i : Nat) (B : bS) (h1 : i ≠ b) (h2 : i ≠ 10 + b) : (sB A b B).2 i = A.2 i := by
  simp only [sB]; rw [vu_n _ _ h2, vu_n _ _ h1]
theorem sB_g (A : aS) (b : Nat) : sB A b (gB A b) = A := by
  simp only [sB, gB]
  rw [vu_id, vu_id, vu_id, vu_id]
theorem gB_r (A : aS) (i b : Nat) (f : Nat → Int32) (h1 : i ≠ b) (h2 : i ≠ 10 + b) : gB (sR A i f) b = gB A b := by
  simp only [gB, sR]; rw [vu_n _ _ (Ne.symm h1), vu_n _ _ (Ne.symm h2)]
theorem gB_l (A : aS) (i b : Nat) (l : List Int32) (h1 : i ≠ b) (h2 : i ≠ 10 + b) : gB (sL A i l) b = gB A b := by
  simp only [gB, sL]; rw [vu_n _ _ (Ne.symm h1), vu_n _ _ (Ne.symm h2)]
/-- the gate of buffer b -/
def ga (f g : Nat) : Nat := if g = 6 then f + 6 else f + 8 + 6 * g
abbrev sh_floor (f : Nat) : gj_S := .inl (1, [some (some (f + 1)), some (some (f + 2)), some (some (f + 3)), some (some (f + 4)), some (some (f + 6)), none, none, none, none])
abbrev sh_ra (k n s t : Nat) : gj_S := .inr (.inr (k, (List.range n).map (fun b => some (s + t * b))))
theorem ra_at {n s t k : Nat} (h : k < n) : ((List.range n).map (fun b => some (s + t * b)))[k]? = some (some (s + t * k)) := by
  rw [List.getElem?_map, List.getElem?_range h]; rfl
theorem ra_len {n s t : Nat} : ((List.range n).map (fun b => some (s + t * b))).length = n := by simp
def fsh (σ : gj_H) (f : Nat) : Prop := σ f = some (sh_floor f) ∧ σ (f + 1) = some (sh_ra 1 6 (f + 7) 6) ∧ σ (f + 2) = some (sh_ra 5 6 (f + 43) 1) ∧ σ (f + 3) = some (sh_ra 6 6 (f + 49) 1) ∧ rsh σ (f + 4) ∧ σ (f + 6) = some sh_gate ∧ (∀ b, b < 6 → bsh σ (f + 7 + 6 * b)) ∧ (∀ s, s < 6 → σ (f + 43 + 1 * s) = some sh_stat) ∧ ∀ w, w < 6 → σ (f + 49 + 1 * w) = some sh_work
/-- the floor at f holds the value A; t ticks so far -/
def CR (v : gj_V) (f : Nat) (A : aS) (t : Int32) : Prop := v f = upd (A.1 40) 7 t ∧ v (f + 6) = A.1 6 ∧ (∀ b, b < 6 → br v (f + 7 + 6 * b) (gB A b)) ∧ (∀ s, s < 6 → v (f + 43 + 1 * s) = A.1 (20 + s)) ∧ (∀ w, w < 6 → v (f + 49 + 1 * w) = A.1 (30 + w)) ∧ rr v (f + 4) (A.2 20)
theorem CR.fl {v : gj_V} {f : Nat} {A : aS} {t : Int32} (h : CR v f A t) (k : Nat) (hk : k ≠ 7) : v f k = A.1 40 k := by rw [h.1, ud_n _ _ hk]
theorem CR.keep {v v' : gj_V} {f : Nat} {A : aS} {t : Int32} (h : CR v f A t) (hf : ∀ a, f ≤ a → a < f + 55 → v' a = v a) : CR v' f A t := by
  obtain ⟨h1, h2, h3, h4, h5, h6⟩ := h
  exact ⟨by rw [hf _ (by omega) (by omega)]; exact h1, by rw [hf _ (by omega) (by omega)]; exact h2, fun b hb => (h3 b hb).keep (fun a g1 g2 => hf a (by omega) (by omega)), fun s hs => by rw [hf _ (by omega) (by omega)]; exact h4 s hs, fun w hw => by rw [hf _ (by omega) (by omega)]; exact h5 w hw, h6.keep (hf _ (by omega) (by omega)) (hf _ (by omega) (by omega))⟩
theorem CR.buf {v v' : gj_V} {f b : Nat} {A : aS} {t : Int32} {B : bS} (h : CR v f A t) (hb : b < 6) (hB : br v' (f + 7 + 6 * b) B) (hf : fr v v' (f + 7 + 6 * b) (f + 7 + 6 * b + 6)) : CR v' f (sB A b B) t := by
  obtain ⟨h1, h2, h3, h4, h5, h6⟩ := h
  refine ⟨?_, ?_, fun c hc => ?_, fun s hs => ?_, fun w hw => ?_, ?_⟩
  · rw [hf _ (by omega), sB_r _ _ _ _ (by omega) (by omega)]; exact h1
  · rw [hf _ (by omega), sB_r _ _ _ _ (by omega) (by omega)]; exact h2
  · by_cases e : c = b
    · subst e; rw [gB_s _ _ _ hb]; exact hB
    · rw [gB_n _ _ _ _ hb hc e]
      exact (h3 c hc).keep (fun a g1 g2 => hf a (by omega))
  · rw [hf _ (by omega), sB_r _ _ _ _ (by omega) (by omega)]; exact h4 s hs
  · rw [hf _ (by omega), sB_r _ _ _ _ (by omega) (by omega)]; exact h5 w hw
  · rw [sB_l _ _ _ _ (by omega) (by omega)]
    exact h6.keep (hf _ (by omega)) (hf _ (by omega))
theorem CR.stat {v : gj_V} {f s : Nat} {A : aS} {t : Int32} (h : CR v f A t) (hs : s < 6) (g : Nat → Int32) : CR (gj_up v (f + 43 + 1 * s) g) f (sR A (20 + s) g) t := by
  obtain ⟨h1, h2, h3, h4, h5, h6⟩ := h
  refine ⟨?_, ?_, fun c hc => ?_, fun s' hs' => ?_, fun w hw => ?_, ?_⟩
  · rw [gu_n _ _ (by omega)]; simp only [sR]; rw [vu_n _ _ (by omega)]; exact h1
  · rw [gu_n _ _ (by omega)]; simp only [sR]; rw [vu_n _ _ (by omega)]; exact h2
  · rw [gB_r _ _ _ _ (by omega) (by omega)]
    exact (h3 c hc).keep (fun a g1 g2 => gu_n _ _ (by omega))
  · by_cases e : s' = s
    · subst e; rw [gu_s]; simp only [sR]; rw [vu_s]
    · rw [gu_n _ _ (by omega)]; simp only [sR]; rw [vu_n _ _ (by omega)]; exact h4 s' hs'
  · rw [gu_n _ _ (by omega)]; simp only [sR]; rw [vu_n _ _ (by omega)]; exact h5 w hw
  · exact h6.keep (gu_n _ _ (by omega)) (gu_n _ _ (by omega))
theorem CR.work {v : gj_V} {f w : Nat} {A : aS} {t : Int32} (h : CR v f A t) (hw : w < 6) (g : Nat → Int32) : CR (gj_up v (f + 49 + 1 * w) g) f (sR A (30 + w) g) t := by
  obtain ⟨h1, h2, h3, h4, h5, h6⟩ := h
  refine ⟨?_, ?_, fun c hc => ?_, fun s' hs' => ?_, fun w' hw' => ?_, ?_⟩
  · rw [gu_n _ _ (by omega)]; simp only [sR]; rw [vu_n _ _ (by omega)]; exact h1
  · rw [gu_n _ _ (by omega)]; simp only [sR]; rw [vu_n _ _ (by omega)]; exact h2
  · rw [gB_r _ _ _ _ (by omega) (by omega)]
    exact (h3 c hc).keep (fun a g1 g2 => gu_n _ _ (by omega))
  · rw [gu_n _ _ (by omega)]; simp only [sR]; rw [vu_n _ _ (by omega)]; exact h4 s' hs'
  · by_cases e : w' = w
    · subst e; rw [gu_s]; simp only [sR]; rw [vu_s]
    · rw [gu_n _ _ (by omega)]; simp only [sR]; rw [vu_n _ _ (by omega)]; exact h5 w' hw'
  · exact h6.keep (gu_n _ _ (by omega)) (gu_n _ _ (by omega))
theorem CR.mas {v : gj_V} {f : Nat} {A : aS} {t : Int32} (h : CR v f A t) (g : Nat → Int32) : CR (gj_up v (f + 6) g) f (sR A 6 g) t := by
  obtain ⟨h1, h2, h3, h4, h5, h6⟩ := h
  refine ⟨?_, ?_, fun c hc => ?_, fun s' hs' => ?_, fun w' hw' => ?_, ?_⟩
  · rw [gu_n _ _ (by omega)]; simp only [sR]; rw [vu_n _ _ (by omega)]; exact h1
  · rw [gu_s]; simp only [sR]; rw [vu_s]
  · rw [gB_r _ _ _ _ (by omega) (by omega)]
    exact (h3 c hc).keep (fun a g1 g2 => gu_n _ _ (by omega))
  · rw [gu_n _ _ (by omega)]; simp only [sR]; rw [vu_n _ _ (by omega)]; exact h4 s' hs'
  · rw [gu_n _ _ (by omega)]; simp only [sR]; rw [vu_n _ _ (by omega)]; exact h5 w' hw'
  · exact h6.keep (gu_n _ _ (by omega)) (gu_n _ _ (by omega))
theorem CR.flo {v : gj_V} {f k : Nat} {A : aS} {t x : Int32} (h : CR v f A t) (hk : k ≠ 7) : CR (gj_up2 v f k x) f (sR A 40 (upd (A.1 40) k x)) t := by
  obtain ⟨h1, h2, h3, h4, h5, h6⟩ := h
  refine ⟨?_, ?_, fun c hc => ?_, fun s' hs' => ?_, fun w' hw' => ?_, ?_⟩
  · rw [gu_2, gu_s, h1]; simp only [sR]; rw [vu_s]
    funext j
    simp only [upd]
    by_cases e1 : j = k
    · subst e1; simp [hk]
    · simp [e1]
  · rw [gu_2, gu_n _ _ (by omega)]; simp only [sR]; rw [vu_n _ _ (by omega)]; exact h2
  · rw [gB_r _ _ _ _ (by omega) (by omega)]
    exact (h3 c hc).keep (fun a g1 g2 => gu_n _ _ (by omega))
  · rw [gu_2, gu_n _ _ (by omega)]; simp only [sR]; rw [vu_n _ _ (by omega)]; exact h4 s' hs'
  · rw [gu_2, gu_n _ _ (by omega)]; simp only [sR]; rw [vu_n _ _ (by omega)]; exact h5 w' hw'
  · exact h6.keep (gu_n _ _ (by omega)) (gu_n _ _ (by omega))
theorem CR.tick {v : gj_V} {f : Nat} {A : aS} {t x : Int32} (h : CR v f A t) : CR (gj_up2 v f 7 x) f A x := by
  obtain ⟨h1, h2, h3, h4, h5, h6⟩ := h
  refine ⟨?_, ?_, fun c hc => ?_, fun s' hs' => ?_, fun w' hw' => ?_, ?_⟩
  · rw [gu_2, gu_s, h1]
    funext j
    simp only [upd]
    by_cases e1 : j = 7
    · simp [e1]
    · simp [e1]
  · rw [gu_2, gu_n _ _ (by omega)]; exact h2
  · exact (h3 c hc).keep (fun a g1 g2 => gu_n _ _ (by omega))
  · rw [gu_2, gu_n _ _ (by omega)]; exact h4 s' hs'
  · rw [gu_2, gu_n _ _ (by omega)]; exact h5 w' hw'
  · exact h6.keep (gu_n _ _ (by omega)) (gu_n _ _ (by omega))
theorem CR.line {v v' : gj_V} {f : Nat} {A : aS} {t : Int32} {l : List Int32} (h : CR v f A t) (hr : rr v' (f + 4) l) (hf : fr2 v v' (f + 4)) : CR v' f (sL A 20 l) t := by
  obtain ⟨h1, h2, h3, h4, h5, h6⟩ := h
  refine ⟨?_, ?_, fun c hc => ?_, fun s' hs' => ?_, fun w' hw' => ?_, ?_⟩
  · rw [hf _ (by omega) (by omega)]; exact h1
  · rw [hf _ (by omega) (by omega)]; exact h2
  · rw [gB_l _ _ _ _ (by omega) (by omega)]
    exact (h3 c hc).keep (fun a g1 g2 => hf _ (by omega) (by omega))
  · rw [hf _ (by omega) (by omega)]; exact h4 s' hs'
  · rw [hf _ (by omega) (by omega)]; exact h5 w' hw'
  · simp only [sL]; rw [vu_s]; exact hr
/-! the works' own steps -/
def a_in (A : aS) (g : Nat) : aS := sR A g (ag_in (A.1 g))
def a_out (A : aS) (g : Nat) : aS := sR A g (ag_out (A.1 g))
def a_thr (A : aS) (g : Nat) : aS := sR A g (ag_thr (A.1 g))
def a_put (A : aS) (b : Nat) (k w : Int32) : Int32 × aS := ((b_put (gB A b) k w).1, sB A b (b_put (gB A b) k w).2)
def a_take (A : aS) (b : Nat) (w : Int32) : Int32 × aS := ((b_take (gB A b) w).1, sB A b (b_take (gB A b) w).2)
def a_give (A : aS) (b : Nat) : Int32 × aS := ((b_give (gB A b)).1, sB A b (b_give (gB A b)).2)
theorem sB_gate (A : aS) (b : Nat) (g : Nat → Int32) (hb : b < 6) : sB A b (g, (gB A b).2) = sR A b g := by
  simp only [sB, gB, sR]
  rw [vu_id, vu_id]
  congr 1
  funext j
  by_cases h : j = 10 + b
  · subst h; rw [vu_s, vu_n _ _ (by omega)]
  · rw [vu_n _ _ h]
theorem CR.gate {v : gj_V} {f b : Nat} {A : aS} {t : Int32} (h : CR v f A t) (hb : b < 6) (g : Nat → Int32) : CR (gj_up v (f + 7 + 6 * b + 1) g) f (sR A b g) t := by
  rw [← sB_gate A b g hb]
  exact h.buf hb ((h.2.2.1 b hb).g g) (fr.up (by omega) (by omega))
theorem CR.gv {v : gj_V} {f b : Nat} {A : aS} {t : Int32} (h : CR v f A t) (hb : b < 6) : v (f + 7 + 6 * b + 1) = A.1 b := (h.2.2.1 b hb).1
theorem gn_min {i j : Nat} (hi : i < 100) (hj : j < 100) : (if nI j < nI i then nI j else nI i) = nI (min i j) := by
  by_cases h : j < i
  · rw [if_pos (nI_lt h (by omega)), Nat.min_eq_right (by omega)]
  · rw [if_neg (nI_nlt (by omega) (by omega)), Nat.min_eq_left (by omega)]
theorem gn_max {i j : Nat} (hi : i < 100) (hj : j < 100) : (if nI i < nI j then nI j else nI i) = nI (max i j) := by
  by_cases h : i < j
  · rw [if_pos (nI_lt h (by omega)), Nat.max_eq_right (by omega)]
  · rw [if_neg (nI_nlt (by omega) (by omega)), Nat.max_eq_left (by omega)]
/-! what a buffer keeps: room at most six, kinds 0 to 9 -/
def ivb (B : bS) : Prop := B.2.1 3 ≤ 6 ∧ B.2.2.1.length ≤ 6 ∧ ∀ x ∈ B.2.2.1, 0 ≤ x ∧ x ≤ 9
theorem ivb_gate {B : bS} {g : Nat → Int32} (h : ivb B) : ivb (g, B.2) := h
theorem ivb_put {B : bS} {k w : Int32} (h : ivb B) (hk : 0 ≤ k ∧ k ≤ 9) : ivb (b_put B k w).2 := by
  unfold b_put
  split
  · exact h
  · rename_i hn
    refine ⟨?_, ?_, fun x hx => ?_⟩
    · simpa [ud_n] using h.1
    · show (B.2.2.1 ++ [k]).length ≤ 6
      have hl : B.2.2.1.length < 6 := gn_lt (fun z => hn (Or.inl (Int32.le_trans h.1 z))) (by have := h.2.1; omega)
      simp; omega
    · rcases List.mem_append.mp hx with hx | hx
      · exact h.2.2 x hx
      · rw [List.mem_singleton.mp hx]; exact hk
theorem ivb_take {B : bS} {w : Int32} (h : ivb B) : ivb (b_take B w).2 := by
  unfold b_take
  split
  · exact h
  · refine ⟨?_, ?_, fun x hx => h.2.2 x (List.mem_of_mem_eraseIdx hx)⟩
    · simpa [ud_n] using h.1
    · show (B.2.2.1.eraseIdx 0).length ≤ 6
      have := h.2.1
      have h2 := List.length_eraseIdx_le B.2.2.1 0
      omega
theorem ivb_give {B : bS} (h : ivb B) : ivb (b_give B).2 := by
  unfold b_give
  refine ⟨?_, ?_, fun x hx => h.2.2 x (List.mem_of_mem_eraseIdx hx)⟩
  · simpa [ud_n] using h.1
  · show (B.2.2.1.eraseIdx 0).length ≤ 6
    have := h.2.1
    have h2 := List.length_eraseIdx_le B.2.2.1 0
    omega
theorem gd_mem {l : List Int32} {k : Nat} (h : k < l.length) : l.getD k 0 ∈ l := by
  rw [List.getD_eq_getElem?_getD, List.getElem?_eq_getElem h]
  exact List.getElem_mem h
/-- a kind taken isn't the sign of a block -/
theorem b_take_kind {B : bS} {w : Int32} (h : ivb B) (hn : ¬ (b_take B w).1 = -5) : ¬ (B.2.2.1 = [] ∨ b_kept B w) ∧ (b_take B w).1 = B.2.2.1.getD 0 0 ∧ 0 ≤ (b_take B w).1 ∧ (b_take B w).1 ≤ 9 := by
  unfold b_take at *
  split at hn
  · exact absurd rfl hn
  · rename_i hc
    rw [if_neg hc]
    have hne : ¬ B.2.2.1 = [] := fun z => hc (Or.inl z)
    exact ⟨hc, rfl, h.2.2 _ (gd_mem (List.length_pos_iff.mpr hne))⟩
theorem b_take_block {B : bS} {w : Int32} (h : ivb B) (hn : (b_take B w).1 = -5) : B.2.2.1 = [] ∨ b_kept B w := by
  by_cases hc : B.2.2.1 = [] ∨ b_kept B w
  · exact hc
  · exfalso
    unfold b_take at hn
    rw [if_neg hc] at hn
    have hne : ¬ B.2.2.1 = [] := fun z => hc (Or.inl z)
    have h1 := (h.2.2 _ (gd_mem (List.length_pos_iff.mpr hne))).1
    rw [show B.2.2.1.getD 0 0 = -5 from hn] at h1
    exact absurd h1 (by decide)
def ivB (A : aS) : Prop := ∀ b, b < 6 → ivb (gB A b)
theorem ivB_s {A : aS} {b : Nat} {B : bS} (h : ivB A) (hb : b < 6) (hB : ivb B) : ivB (sB A b B) := by
  intro c hc
  by_cases e : c = b
  · subst e; rw [gB_s _ _ _ hb]; exact hB
  · rw [gB_n _ _ _ _ hb hc e]; exact h c hc
theorem ivB_R {A : aS} {i : Nat} {f : Nat → Int32} (h : ivB A) (hi : i < 10 ∨ 16 ≤ i) : ivB (sR A i f) := by
  intro c hc
  have h1 := h c hc
  unfold ivb at *
  simp only [gB, sR] at *
  rw [vu_n _ _ (by omega)]
  exact h1
/-! many moved -/
def a_mv1 (A : aS) (i j : Nat) : Int32 × aS :=
  if (a_take A i (-1)).1 = -5 then (0, (a_take A i (-1)).2)
  else if (a_put (a_take A i (-1)).2 j (a_take A i (-1)).1 (-1)).1 = 0 then (0, sL (a_put (a_take A i (-1)).2 j (a_take A i (-1)).1 (-1)).2 i ((a_take A i (-1)).1 :: (a_put (a_take A i (-1)).2 j (a_take A i (-1)).1 (-1)).2.2 i))
  else (1, (a_put (a_take A i (-1)).2 j (a_take A i (-1)).1 (-1)).2)
def a_mvs (i j : Nat) : Nat → aS → Nat × aS
  | 0, A => (0, A)
  | n + 1, A => if (a_mv1 A i j).1 = 0 then (0, (a_mv1 A i j).2) else ((a_mvs i j n (a_mv1 A i j).2).1 + 1, (a_mvs i j n (a_mv1 A i j).2).2)
def a_two (A : aS) (lo hi : Nat) (bl : Bool) : aS := if bl then a_thr (a_thr A hi) lo else a_out (a_out A hi) lo
def a_move (A : aS) (i j n : Nat) : Nat × aS :=
  ((a_mvs i j n (a_in (a_in A (min i j)) (max i j))).1, a_two (a_mvs i j n (a_in (a_in A (min i j)) (max i j))).2 (min i j) (max i j) (decide ((a_mvs i j n (a_in (a_in A (min i j)) (max i j))).1 < n)))
theorem a_mvs_le (i j : Nat) : ∀ (n : Nat) (A : aS), (a_mvs i j n A).1 ≤ n
  | 0, A => Nat.le_refl 0
  | n + 1, A => by
    unfold a_mvs
    split
    · exact Nat.zero_le _
    · have := a_mvs_le i j n (a_mv1 A i j).2
      simp only; omega
theorem ivB_take {A : aS} {b : Nat} {w : Int32} (h : ivB A) (hb : b < 6) : ivB (a_take A b w).2 := ivB_s h hb (ivb_take (h b hb))
theorem ivB_put {A : aS} {b : Nat} {k w : Int32} (h : ivB A) (hb : b < 6) (hk : 0 ≤ k ∧ k ≤ 9) : ivB (a_put A b k w).2 := ivB_s h hb (ivb_put (h b hb) hk)
theorem ivB_L {A : aS} {b : Nat} {l : List Int32} (h : ivB A) (hb : b < 6) (hl : l.length ≤ 6 ∧ ∀ x ∈ l, 0 ≤ x ∧ x ≤ 9) : ivB (sL A b l) := by
  intro c hc
  have h1 := h c hc
  unfold ivb at *
  simp only [gB, sL] at *
  by_cases e : c = b
  · subst e; rw [vu_s]; exact ⟨h1.1, hl⟩
  · rw [vu_n _ _ e]; exact h1
/-- behind a kind taken there is room for it -/
theorem a_take_len {A : aS} {b : Nat} {w : Int32} (h : ivB A) (hb : b < 6) (hn : ¬ (a_take A b w).1 = -5) : ((a_take A b w).2.2 b).length < 6 ∧ (gB (a_take A b w).2 b).2.2.1 = (A.2 b).eraseIdx 0 := by
  have hk := b_take_kind (h b hb) hn
  have e : (gB (a_take A b w).2 b) = (b_take (gB A b) w).2 := gB_s _ _ _ hb
  have e2 : (b_take (gB A b) w).2.2.2.1 = (A.2 b).eraseIdx 0 := by
    unfold b_take; rw [if_neg hk.1]; rfl
  have e3 : (a_take A b w).2.2 b = (A.2 b).eraseIdx 0 := by rw [← e2, ← e]; rfl
  have hne : ¬ A.2 b = [] := fun z => hk.1 (Or.inl z)
  have hp := List.length_pos_iff.mpr hne
  have hl := (h b hb).2.1
  have hl2 : (A.2 b).length ≤ 6 := hl
  refine ⟨?_, by rw [e, e2]⟩
  rw [e3, List.length_eraseIdx, if_pos hp]
  omega
theorem ivB_mv1 {A : aS} {i j : Nat} (h : ivB A) (hi : i < 6) (hj : j < 6) (hij : i ≠ j) : ivB (a_mv1 A i j).2 := by
  unfold a_mv1
  split
  · exact ivB_take h hi
  · rename_i hn
    have hk := (b_take_kind (h i hi) hn).2.2
    have h2 := ivB_put (b := j) (k := (a_take A i (-1)).1) (w := -1) (ivB_take (w := -1) h hi) hj hk
    split
    · refine ivB_L h2 hi ⟨?_, fun x hx => ?_⟩
      · have e : (a_put (a_take A i (-1)).2 j (a_take A i (-1)).1 (-1)).2.2 i = (a_take A i (-1)).2.2 i := sB_l _ _ _ _ hij (by omega)
        rw [e]
        have := (a_take_len h hi hn).1
        simp; omega
      · rcases List.mem_cons.mp hx with rfl | hx
        · exact hk
        · exact (h2 i hi).2.2 x hx
    · exact h2
theorem ivB_mvs {i j : Nat} (hi : i < 6) (hj : j < 6) (hij : i ≠ j) : ∀ (n : Nat) (A : aS), ivB A → ivB (a_mvs i j n A).2
  | 0, A, h => h
  | n + 1, A, h => by
    unfold a_mvs
    split
    · exact ivB_mv1 h hi hj hij
    · exact ivB_mvs hi hj hij n _ (ivB_mv1 h hi hj hij)
theorem ivB_in {A : aS} {g : Nat} (h : ivB A) (hg : g < 10) : ivB (a_in A g) := ivB_R h (Or.inl hg)
theorem ivB_out {A : aS} {g : Nat} (h : ivB A) (hg : g < 10) : ivB (a_out A g) := ivB_R h (Or.inl hg)
theorem ivB_thr {A : aS} {g : Nat} (h : ivB A) (hg : g < 10) : ivB (a_thr A g) := ivB_R h (Or.inl hg)
theorem ivB_two {A : aS} {lo hi : Nat} {b : Bool} (h : ivB A) (h1 : lo < 10) (h2 : hi < 10) : ivB (a_two A lo hi b) := by
  unfold a_two
  split
  · exact ivB_thr (ivB_thr h h2) h1
  · exact ivB_out (ivB_out h h2) h1
theorem ivB_move {A : aS} {i j n : Nat} (h : ivB A) (hi : i < 6) (hj : j < 6) (hij : i ≠ j) : ivB (a_move A i j n).2 :=
  ivB_two (ivB_mvs hi hj hij n _ (ivB_in (ivB_in h (by omega)) (by omega))) (by omega) (by omega)
