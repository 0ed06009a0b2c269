/-! ===== texts: faults, orders, how they are done ===== -/
abbrev tok : Type := Int32 × Int32 × Int32 × Int32
def fgo (c : Int32) : Nat := if c = 112 then 2 else if c = 116 then 1 else if c = 109 then 3 else 0
/-- the place of the fault: bytes left, place, groups open, figures due, nothing but blanks so far -/
def flt : List Int32 → Nat → Nat → Nat → Bool → Option Nat
  | [], i, g, f, e => if e = true ∨ 0 < f ∨ 0 < g then some i else none
  | c :: r, i, g, f, e => if c = 32 then flt r (i + 1) g f e else if 0 < f then (if in_ c 48 57 then flt r (i + 1) g (f - 1) false else some i) else if c = 40 ∧ g < 4 then flt r (i + 1) (g + 1) 0 false else if c = 41 ∧ 0 < g then flt r (i + 1) (g - 1) 0 false else if fgo c = 0 then some i else flt r (i + 1) g (fgo c) false
def fvo : Option Nat → Int32
  | none => -1
  | some i => nI i
/-- the next figure and what is behind it -/
def nf : List Int32 → Int32 × List Int32
  | [] => (-49, [])
  | c :: r => if c = 32 then nf r else (c - 48, r)
theorem nf_len : ∀ r : List Int32, (nf r).2.length ≤ r.length
  | [] => Nat.le_refl _
  | c :: r => by
    unfold nf
    split
    · have := nf_len r; simp; omega
    · simp
/-- the orders of the bytes -/
def tkz : Nat → List Int32 → List tok
  | 0, _ => []
  | _ + 1, [] => []
  | k + 1, c :: r => if c = 32 then tkz k r else if c = 40 ∨ c = 41 then (c, 0, 0, 0) :: tkz k r else if c = 116 then (c, (nf r).1, 0, 0) :: tkz k (nf r).2 else if c = 112 then (c, (nf r).1, (nf (nf r).2).1, 0) :: tkz k (nf (nf r).2).2 else (c, (nf r).1, (nf (nf r).2).1, (nf (nf (nf r).2).2).1) :: tkz k (nf (nf (nf r).2).2).2
theorem tkz_fuel : ∀ (k m : Nat) (r : List Int32), r.length ≤ k → r.length ≤ m → tkz k r = tkz m r
  | 0, m, [], _, _ => by cases m <;> rfl
  | k + 1, 0, [], _, _ => rfl
  | k + 1, m + 1, [], _, _ => rfl
  | k + 1, m + 1, c :: r, h1, h2 => by
    simp only [List.length_cons] at h1 h2
    have l1 := nf_len r
    have l2 := nf_len (nf r).2
    have l3 := nf_len (nf (nf r).2).2
    simp only [tkz]
    rw [tkz_fuel k m r (by omega) (by omega), tkz_fuel k m (nf r).2 (by omega) (by omega), tkz_fuel k m (nf (nf r).2).2 (by omega) (by omega), tkz_fuel k m (nf (nf (nf r).2).2).2 (by omega) (by omega)]
def tz (r : List Int32) : List tok := tkz r.length r
theorem tz_k {k : Nat} {r : List Int32} (h : r.length ≤ k) : tkz k r = tz r := tkz_fuel k r.length r h (Nat.le_refl _)
theorem tz_32 {c : Int32} {r : List Int32} (h : c = 32) : tz (c :: r) = tz r := by
  show tkz (r.length + 1) (c :: r) = _
  simp only [tkz]; rw [if_pos h]; rfl
theorem tz_par {c : Int32} {r : List Int32} (h : c = 40 ∨ c = 41) : tz (c :: r) = (c, 0, 0, 0) :: tz r := by
  show tkz (r.length + 1) (c :: r) = _
  simp only [tkz]; rw [if_neg (by rcases h with rfl | rfl <;> decide), if_pos h]; rfl
theorem tz_t {c : Int32} {r : List Int32} (h : c = 116) : tz (c :: r) = (c, (nf r).1, 0, 0) :: tz (nf r).2 := by
  show tkz (r.length + 1) (c :: r) = _
  simp only [tkz]; subst h; rw [if_neg (by decide), if_neg (by decide), if_pos rfl, tz_k (nf_len r)]
theorem tz_p {c : Int32} {r : List Int32} (h : c = 112) : tz (c :: r) = (c, (nf r).1, (nf (nf r).2).1, 0) :: tz (nf (nf r).2).2 := by
  have l1 := nf_len r
  have l2 := nf_len (nf r).2
  show tkz (r.length + 1) (c :: r) = _
  simp only [tkz]; subst h; rw [if_neg (by decide), if_neg (by decide), if_neg (by decide), if_pos rfl, tz_k (by omega)]
theorem tz_m {c : Int32} {r : List Int32} (h : c = 109) : tz (c :: r) = (c, (nf r).1, (nf (nf r).2).1, (nf (nf (nf r).2).2).1) :: tz (nf (nf (nf r).2).2).2 := by
  have l1 := nf_len r
  have l2 := nf_len (nf r).2
  have l3 := nf_len (nf (nf r).2).2
  show tkz (r.length + 1) (c :: r) = _
  simp only [tkz]; subst h; rw [if_neg (by decide), if_neg (by decide), if_neg (by decide), if_neg (by decide), tz_k (by omega)]
/-- figures where none is at fault -/
theorem nf_ok : ∀ (r : List Int32) (i g f : Nat) (e : Bool), flt r i g (f + 1) e = none → (∃ a, a ≤ 9 ∧ (nf r).1 = nI a) ∧ (nf r).2.length < r.length ∧ ∃ i', flt (nf r).2 i' g f false = none
  | [], i, g, f, e, h => by unfold flt at h; rw [if_pos (Or.inr (Or.inl (by omega)))] at h; exact absurd h (by simp)
  | c :: r, i, g, f, e, h => by
    unfold flt at h
    by_cases hc : c = 32
    · rw [if_pos hc] at h
      obtain ⟨h1, h2, h3⟩ := nf_ok r (i + 1) g f e h
      have en : nf (c :: r) = nf r := by show (if c = 32 then nf r else (c - 48, r)) = nf r; rw [if_pos hc]
      rw [en]
      exact ⟨h1, by simp; omega, h3⟩
    · rw [if_neg hc, if_pos (by omega)] at h
      have en : nf (c :: r) = (c - 48, r) := by show (if c = 32 then nf r else (c - 48, r)) = _; rw [if_neg hc]
      rw [en]
      split at h
      · rename_i hd
        refine ⟨?_, by simp, i + 1, h⟩
        obtain ⟨a, ha, ea⟩ := nI_of2 (n := 57) (M := 57) (by decide) (fun z => absurd (Int32.le_trans hd.1 (Int32.le_of_lt z)) (by decide)) hd.2
        have hl : 48 ≤ a := by
          have h48 := hd.1
          rw [ea] at h48
          exact gn_le (n := 48) h48 (by omega)
        refine ⟨a - 48, by omega, ?_⟩
        dsimp only
        rw [ea]
        have : a = (a - 48) + 48 := by omega
        rw [this, ← nI_add]
        have e48 : (48 : Int32) = nI 48 := rfl
        rw [e48, Int32.add_sub_cancel]
        simp
      · exact absurd h (by simp)
/-- what is behind the end of the groups that one is in -/
def skB : Nat → List Int32 → List Int32
  | 0, r => r
  | _ + 1, [] => []
  | j + 1, c :: r => if c = 40 then skB (j + 2) r else if c = 41 then skB j r else skB (j + 1) r
def skT : Nat → List tok → List tok
  | 0, r => r
  | _ + 1, [] => []
  | j + 1, c :: r => if c.1 = 40 then skT (j + 2) r else if c.1 = 41 then skT j r else skT (j + 1) r
theorem skB_0 (r : List Int32) : skB 0 r = r := by cases r <;> rfl
theorem skT_0 (r : List tok) : skT 0 r = r := by cases r <;> rfl
/-- skipping goes through figures -/
theorem skB_nf : ∀ (r : List Int32) (i g f j : Nat) (e : Bool), flt r i g (f + 1) e = none → skB (j + 1) r = skB (j + 1) (nf r).2
  | [], i, g, f, j, e, h => by unfold flt at h; rw [if_pos (Or.inr (Or.inl (by omega)))] at h; exact absurd h (by simp)
  | c :: r, i, g, f, j, e, h => by
    unfold flt at h
    by_cases hc : c = 32
    · rw [if_pos hc] at h
      have en : nf (c :: r) = nf r := by show (if c = 32 then nf r else (c - 48, r)) = nf r; rw [if_pos hc]
      rw [en, ← skB_nf r (i + 1) g f j e h]
      subst hc
      rfl
    · rw [if_neg hc, if_pos (by omega)] at h
      have en : nf (c :: r) = (c - 48, r) := by show (if c = 32 then nf r else (c - 48, r)) = _; rw [if_neg hc]
      rw [en]
      split at h
      · rename_i hd
        have n40 : ¬ c = 40 := fun z => absurd (z ▸ hd.1) (by decide)
        have n41 : ¬ c = 41 := fun z => absurd (z ▸ hd.1) (by decide)
        simp only [skB]
        rw [if_neg n40, if_neg n41]
      · exact absurd h (by simp)
/-- one byte that is no fault -/
theorem flt_c {c : Int32} {r : List Int32} {i g : Nat} {e : Bool} (h : flt (c :: r) i g 0 e = none) : (c = 32 ∧ flt r (i + 1) g 0 e = none) ∨ (c = 40 ∧ g < 4 ∧ flt r (i + 1) (g + 1) 0 false = none) ∨ (c = 41 ∧ 0 < g ∧ flt r (i + 1) (g - 1) 0 false = none) ∨ (c = 112 ∧ flt r (i + 1) g 2 false = none) ∨ (c = 116 ∧ flt r (i + 1) g 1 false = none) ∨ (c = 109 ∧ flt r (i + 1) g 3 false = none) := by
  unfold flt at h
  by_cases h0 : c = 32
  · rw [if_pos h0] at h; exact Or.inl ⟨h0, h⟩
  rw [if_neg h0, if_neg (by omega)] at h
  by_cases h1 : c = 40 ∧ g < 4
  · rw [if_pos h1] at h; exact Or.inr (Or.inl ⟨h1.1, h1.2, h⟩)
  rw [if_neg h1] at h
  by_cases h2 : c = 41 ∧ 0 < g
  · rw [if_pos h2] at h; exact Or.inr (Or.inr (Or.inl ⟨h2.1, h2.2, h⟩))
  rw [if_neg h2] at h
  by_cases h3 : c = 112
  · have ef : fgo c = 2 := if_pos h3
    rw [ef, if_neg (by decide)] at h; exact Or.inr (Or.inr (Or.inr (Or.inl ⟨h3, h⟩)))
  by_cases h4 : c = 116
  · have ef : fgo c = 1 := by unfold fgo; rw [if_neg h3, if_pos h4]
    rw [ef, if_neg (by decide)] at h; exact Or.inr (Or.inr (Or.inr (Or.inr (Or.inl ⟨h4, h⟩))))
  by_cases h5 : c = 109
  · have ef : fgo c = 3 := by unfold fgo; rw [if_neg h3, if_neg h4, if_pos h5]
    rw [ef, if_neg (by decide)] at h; exact Or.inr (Or.inr (Or.inr (Or.inr (Or.inr ⟨h5, h⟩))))
  have ef : fgo c = 0 := by unfold fgo; rw [if_neg h3, if_neg h4, if_neg h5]
  rw [if_pos ef] at h
  exact absurd h (by simp)
/-- skipping bytes is skipping orders -/
theorem sk_tz : ∀ (k : Nat) (r : List Int32) (i g j : Nat) (e : Bool), r.length ≤ k → flt r i g 0 e = none → j < g → tz (skB (j + 1) r) = skT (j + 1) (tz r) ∧ (skB (j + 1) r).length < r.length ∧ ∃ i', flt (skB (j + 1) r) i' (g - (j + 1)) 0 false = none
  | k, [], i, g, j, e, _, h, hj => by unfold flt at h; rw [if_pos (Or.inr (Or.inr (by omega)))] at h; exact absurd h (by simp)
  | k + 1, c :: r, i, g, j, e, hk, h, hj => by
    simp only [List.length_cons] at hk
    rcases flt_c h with ⟨hc, h⟩ | ⟨hc, hg, h⟩ | ⟨hc, hg, h⟩ | ⟨hc, h⟩ | ⟨hc, h⟩ | ⟨hc, h⟩
    · have es : skB (j + 1) (c :: r) = skB (j + 1) r := by subst hc; rfl
      obtain ⟨h1, h2, h3⟩ := sk_tz k r (i + 1) g j e (by omega) h hj
      rw [es, tz_32 hc]
      exact ⟨h1, by simp; omega, h3⟩
    · have es : skB (j + 1) (c :: r) = skB (j + 1 + 1) r := by subst hc; rfl
      obtain ⟨h1, h2, h3⟩ := sk_tz k r (i + 1) (g + 1) (j + 1) false (by omega) h (by omega)
      rw [es, tz_par (Or.inl hc)]
      refine ⟨?_, by simp; omega, ?_⟩
      · rw [h1]; subst hc; rfl
      · rw [show g - (j + 1) = g + 1 - (j + 1 + 1) by omega]; exact h3
    · have es : skB (j + 1) (c :: r) = skB j r := by subst hc; rfl
      have et : skT (j + 1) ((c, 0, 0, 0) :: tz r) = skT j (tz r) := by subst hc; rfl
      rw [es, tz_par (Or.inr hc), et]
      rcases j with _ | j
      · rw [skB_0, skT_0]
        exact ⟨rfl, by simp, i + 1, h⟩
      · obtain ⟨h1, h2, h3⟩ := sk_tz k r (i + 1) (g - 1) j false (by omega) h (by omega)
        refine ⟨h1, by simp; omega, ?_⟩
        rw [show g - (j + 1 + 1) = g - 1 - (j + 1) by omega]; exact h3
    · have es : skB (j + 1) (c :: r) = skB (j + 1) r := by subst hc; rfl
      obtain ⟨-, a2, i1, a3⟩ := nf_ok r _ g 1 _ h
      obtain ⟨-, b2, i2, b3⟩ := nf_ok _ _ g 0 _ a3
      obtain ⟨h1, h2, h3⟩ := sk_tz k _ i2 g j false (by omega) b3 hj
      rw [es, skB_nf r _ g 1 j _ h, skB_nf _ _ g 0 j _ a3, tz_p hc]
      refine ⟨?_, by simp; omega, h3⟩
      rw [h1]; subst hc; rfl
    · have es : skB (j + 1) (c :: r) = skB (j + 1) r := by subst hc; rfl
      obtain ⟨-, a2, i1, a3⟩ := nf_ok r _ g 0 _ h
      obtain ⟨h1, h2, h3⟩ := sk_tz k _ i1 g j false (by omega) a3 hj
      rw [es, skB_nf r _ g 0 j _ h, tz_t hc]
      refine ⟨?_, by simp; omega, h3⟩
      rw [h1]; subst hc; rfl
    · have es : skB (j + 1) (c :: r) = skB (j + 1) r := by subst hc; rfl
      obtain ⟨-, a2, i1, a3⟩ := nf_ok r _ g 2 _ h
      obtain ⟨-, b2, i2, b3⟩ := nf_ok _ _ g 1 _ a3
      obtain ⟨-, c2, i3, c3⟩ := nf_ok _ _ g 0 _ b3
      obtain ⟨h1, h2, h3⟩ := sk_tz k _ i3 g j false (by omega) c3 hj
      rw [es, skB_nf r _ g 2 j _ h, skB_nf _ _ g 1 j _ a3, skB_nf _ _ g 0 j _ b3, tz_m hc]
      refine ⟨?_, by simp; omega, h3⟩
      rw [h1]; subst hc; rfl
/-- one order -/
def a_one (A : aS) (q a b m : Int32) : Int32 × aS :=
  if q = 116 then (if a_has A a then (if (a_take A (iN a) (-1)).1 = -5 then 0 else 1, (a_take A (iN a) (-1)).2) else (0, A))
  else if q = 112 then (if a_has A a then a_put A (iN a) b (-1) else (0, A))
  else (if a_has A a ∧ a_has A b ∧ ¬ a = b then (if nI (a_move A (iN a) (iN b) (iN m)).1 = m then 1 else 0, (a_move A (iN a) (iN b) (iN m)).2) else (0, A))
/-- all orders; above: for each level the items ahead of it, and how many were done -/
def a_run : Nat → List tok → aS → Int32 → Int32 → List ((Nat → List Int32) × Int32) → Int32 × aS
  | 0, _, A, _, _, _ => (0, A)
  | _ + 1, [], A, d, _, _ => (d, a_out A 6)
  | k + 1, o :: r, A, d, c, s =>
    if o.1 = 40 then a_run k r (a_in A 6) d c ((A.2, d) :: s)
    else if o.1 = 41 then a_run k r (a_out A 6) d c s.tail
    else if (a_one A o.1 o.2.1 o.2.2.1 o.2.2.2).1 = 0 then (match s with
      | [] => (0, A)
      | p :: s' => if s' = [] then (-1000 - c, a_res (a_thr (a_one A o.1 o.2.1 o.2.2.1 o.2.2.2).2 6) 6 p.1) else a_run k (skT 1 r) (a_res (a_thr (a_one A o.1 o.2.1 o.2.2.1 o.2.2.2).2 6) 6 p.1) p.2 (c + 1) s')
    else a_run k r (a_one A o.1 o.2.1 o.2.2.1 o.2.2.2).2 (d + 1) (c + 1) s
theorem skT_len : ∀ (j : Nat) (r : List tok), (skT j r).length ≤ r.length
  | 0, r => by rw [skT_0]; exact Nat.le_refl _
  | j + 1, [] => Nat.le_refl _
  | j + 1, o :: r => by
    simp only [skT]
    have h1 := skT_len (j + 2) r
    have h2 := skT_len j r
    have h3 := skT_len (j + 1) r
    split
    · simp; omega
    · split <;> (simp; omega)
def z_does (A : aS) (tx : List Int32) : Int32 × aS := a_run ((tz tx).length + 1) (tz tx) (a_in A 6) 0 0 [(A.2, 0)]
def sp_does (A : aS) (t : Int32) (l : List (aS × Int32)) (tx : List Int32) (c : Nat → Int32) (z : Int32) (G : gP) : Prop :=
  (∀ i, flt tx 0 0 0 true = some i → z = -10 - nI i ∧ G A t l tx c) ∧ (flt tx 0 0 0 true = none → z = (z_does A tx).1 ∧ G (a_srv 7 (z_does A tx).2) t (h_push l (A, t)) tx c)
/-- invariants -/
theorem iv_in6 {A : aS} {n sn : Nat} {f : Nat → Int32} (h : IV A n sn) : IV (sR A 6 f) n sn :=
  IV_co h (ivB_R h.1 (Or.inl (by omega))) (co_R (by omega)) (nb_R (Or.inr (by omega)))
theorem iv_one {A : aS} {n sn : Nat} {q a b m : Int32} (h : IV A n sn) (hb : 0 ≤ b ∧ b ≤ 9) : IV (a_one A q a b m).2 n sn := by
  have hn := h.2.1.2.2.2.1
  unfold a_one
  split
  · split
    · rename_i h1
      obtain ⟨j, hj, rfl⟩ := a_has_of h.2.1.1 (by omega) h1
      rw [iN_n (by omega)]
      dsimp only
      exact iv_take h hj
    · exact h
  · split
    · split
      · rename_i h1
        obtain ⟨j, hj, rfl⟩ := a_has_of h.2.1.1 (by omega) h1
        rw [iN_n (by omega)]
        exact iv_put h hj hb
      · exact h
    · split
      · rename_i h1
        obtain ⟨h1, h2, h3⟩ := h1
        obtain ⟨j, hj, rfl⟩ := a_has_of h.2.1.1 (by omega) h1
        obtain ⟨i, hi, rfl⟩ := a_has_of h.2.1.1 (by omega) h2
        rw [iN_n (by omega), iN_n (by omega)]
        dsimp only
        exact iv_move h hj hi (fun e => h3 (by rw [e]))
      · exact h
