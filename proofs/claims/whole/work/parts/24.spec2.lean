/-! ===== asking, keeping, reading ===== -/
abbrev c_asks (A : aS) (w b p k : Int32) : Prop := in_ w 0 5 ∧ a_has A b ∧ in_ p 0 1 ∧ in_ k 0 9
def z_ask0 (A : aS) (w : Nat) (b p k : Int32) : aS := sR A (30 + w) (aw_for (A.1 (30 + w)) b p k)
def z_ask1 (A : aS) (w : Nat) (b p k : Int32) : aS := if (a_try (z_ask0 A w b p k) w).1 = 0 then sL (a_try (z_ask0 A w b p k) w).2 20 (A.2 20 ++ [nI w]) else (a_try (z_ask0 A w b p k) w).2
def sp_asks (A : aS) (t : Int32) (l : List (aS × Int32)) (tx : List Int32) (c : Nat → Int32) (w b p k z : Int32) (G : gP) : Prop :=
  if c_asks A w b p k then (if A.1 (30 + iN w) 1 = -1 then z = (a_try (z_ask0 A (iN w) b p k) (iN w)).1 ∧ G (a_srv 7 (z_ask1 A (iN w) b p k)) t (h_push l (A, t)) tx c else z = -3 ∧ G A t l tx (upd c 6 (c 6 + 1))) else z = -2 ∧ G A t l tx (upd c 5 (c 5 + 1))
theorem gn_05 {x : Int32} (h : in_ x 0 5) : ∃ a, a < 6 ∧ x = nI a := by
  obtain ⟨a, ha, e⟩ := nI_of2 (n := 5) (M := 5) (by decide) (Int32.not_lt.mpr h.1) h.2
  exact ⟨a, by omega, e⟩
theorem gn_0k {x m : Int32} {n : Nat} (hm : m.toInt = n) (h : in_ x 0 m) : ∃ a, a ≤ n ∧ x = nI a := nI_of2 hm (Int32.not_lt.mpr h.1) h.2
theorem ask0_ok {A : aS} {n sn w : Nat} {b p k : Int32} (h : IV A n sn) (hw : w < 6) (hb : a_has A b) (hp : in_ p 0 1) (hk : in_ k 0 9) : ivB (z_ask0 A w b p k) ∧ ivw n ((z_ask0 A w b p k).1 (30 + w)) ∧ (z_ask0 A w b p k).1 (30 + w) = aw_for (A.1 (30 + w)) b p k := by
  have hn := h.2.1.2.2.2.1
  refine ⟨ivB_R h.1 (Or.inr (by omega)), ?_, sR_s _ _ _⟩
  rw [show (z_ask0 A w b p k).1 (30 + w) = aw_for (A.1 (30 + w)) b p k from sR_s _ _ _]
  obtain ⟨j, hj, ej⟩ := a_has_of h.2.1.1 (by omega) hb
  refine ⟨j, hj, by unfold aw_for; simp [upd, ej], ?_⟩
  obtain ⟨q, hq, eq⟩ := gn_0k (n := 1) (m := 1) (by decide) hp
  unfold aw_for
  rcases (show q = 0 ∨ q = 1 by omega) with rfl | rfl
  · have e0 : p = 0 := eq
    subst e0
    simp [upd]
    exact hk
  · have e1 : p = 1 := eq
    subst e1
    simp [upd]
theorem nd_len : ∀ {l m : List Int32}, l.Nodup → l.Subset m → l.length ≤ m.length
  | [], m, _, _ => Nat.zero_le _
  | x :: l, m, hn, hs => by
    have hx : x ∈ m := hs List.mem_cons_self
    have hn2 := List.nodup_cons.mp hn
    have hs2 : l.Subset (m.erase x) := by
      intro y hy
      have hyx : y ≠ x := fun e => hn2.1 (e ▸ hy)
      exact (List.mem_erase_of_ne hyx).mpr (hs (List.mem_cons_of_mem _ hy))
    have h1 := nd_len hn2.2 hs2
    have h2 := List.length_erase_of_mem hx
    have h3 : 0 < m.length := List.length_pos_of_mem hx
    simp only [List.length_cons]
    omega
theorem line_add {A : aS} {n w : Nat} (h : ivW A n) (hw : w < 6) (hno : ¬ nI w ∈ A.2 20) : (A.2 20).length < 6 := by
  obtain ⟨h1, h2, h3, h4⟩ := h
  have hsub : (A.2 20 ++ [nI w]).Subset ((List.range 6).map nI) := by
    intro x hx
    rcases List.mem_append.mp hx with hx | hx
    · obtain ⟨z, hz, e⟩ := h2 x hx
      exact List.mem_map.mpr ⟨z, List.mem_range.mpr hz, e.symm⟩
    · rw [List.mem_singleton.mp hx]
      exact List.mem_map.mpr ⟨w, List.mem_range.mpr hw, rfl⟩
  have hnd : (A.2 20 ++ [nI w]).Nodup := by
    rw [List.nodup_append]
    refine ⟨h3, by simp, fun a ha b hb => ?_⟩
    rw [List.mem_singleton.mp hb]
    intro e
    exact hno (e ▸ ha)
  have := nd_len hnd hsub
  simp at this
  omega
theorem iv_ask1 {A : aS} {n sn w : Nat} {b p k : Int32} (h : IV A n sn) (hw : w < 6) (hb : a_has A b) (hp : in_ p 0 1) (hk : in_ k 0 9) (hno : A.1 (30 + w) 1 = -1) : IV (z_ask1 A w b p k) n sn := by
  have hn := h.2.1.2.2.2.1
  obtain ⟨g1, g2, g3⟩ := ask0_ok h hw hb hp hk
  have hnl : ¬ nI w ∈ A.2 20 := fun hm => (ivW_wait h.2.2.1 hw).mpr hm hno
  have hlen := line_add h.2.2.1 hw hnl
  obtain ⟨c1, c2, c3, c4⟩ := a_try_ok g1 hn hw g2
  have e0 : ∀ z, z ≠ 30 + w → (z_ask0 A w b p k).1 z = A.1 z := fun z hz => vu_n _ _ hz
  have el : (z_ask0 A w b p k).2 = A.2 := rfl
  have nb0 : nb n A (z_ask0 A w b p k) := nb_R (Or.inr (by omega))
  unfold z_ask1
  rw [g3] at c4 g2
  generalize a_try (z_ask0 A w b p k) w = r at *
  generalize z_ask0 A w b p k = A0 at *
  have hrow : ∀ i, 16 ≤ i → i ≠ 30 + w → r.2.1 i = A.1 i := fun i a e => (c2.1 i a e).trans (e0 i e)
  have hlist : ∀ i, 6 ≤ i → r.2.2 i = A.2 i := fun i a => (c2.2 i a).trans (congrFun el i)
  have hS : ivS r.2 n sn := by
    obtain ⟨s1, s2, s3, s4, s5, s6⟩ := h.2.1
    exact ⟨by rw [hrow 40 (by omega) (by omega)]; exact s1, by rw [hrow 40 (by omega) (by omega)]; exact s2, s3, s4, s5, fun s hs => by rw [hrow _ (by omega) (by omega)]; exact s6 s hs⟩
  obtain ⟨w1, w2, w3, w4⟩ := h.2.2.1
  split
  · rename_i h0
    have hr : r.2.1 (30 + w) = aw_for (A.1 (30 + w)) b p k := by
      rcases c4 with q | q
      · exact q.2
      · rw [q.1] at h0; exact absurd h0 (by decide)
    refine ⟨fun c hc => ?_, ?_, ⟨fun z hz => ?_, fun x hx => ?_, ?_, ?_⟩, ?_⟩
    · rw [gB_l _ _ _ _ (by omega) (by omega)]; exact c1 c hc
    · obtain ⟨s1, s2, s3, s4, s5, s6⟩ := hS
      exact ⟨s1, s2, s3, s4, s5, s6⟩
    · simp only [sL]
      rw [vu_s]
      by_cases e : z = w
      · subst e
        exact Or.inr ⟨by rw [hr]; exact g2, by simp⟩
      · rw [hrow _ (by omega) (by omega)]
        have hne : ¬ nI z = nI w := fun q => e (nI_inj6 (by omega) (by omega) q)
        rcases w1 z hz with ⟨k1, k2⟩ | ⟨k1, k2⟩
        · exact Or.inl ⟨k1, by simp [k2, hne]⟩
        · exact Or.inr ⟨k1, by simp [k2]⟩
    · simp only [sL] at hx
      rw [vu_s] at hx
      rcases List.mem_append.mp hx with hx | hx
      · exact w2 x hx
      · rw [List.mem_singleton.mp hx]; exact ⟨w, hw, rfl⟩
    · simp only [sL]
      rw [vu_s, List.nodup_append]
      refine ⟨w3, by simp, fun a ha d hd => ?_⟩
      rw [List.mem_singleton.mp hd]
      intro e
      exact hnl (e ▸ ha)
    · simp only [sL]; rw [vu_s]; simp; omega
    · refine ivQ_t h.2.2.2 (fun d hd => ?_) ((nb0.tr c3).tr (nb_L (Or.inr (Or.inl (by omega)))))
      simp only [sL]; rw [vu_n _ _ (by omega)]; exact hlist _ (by omega)
  · rename_i h0
    have hr : noW (r.2.1 (30 + w)) := by
      rcases c4 with q | q
      · exact absurd q.1 h0
      · exact q.2
    refine ⟨c1, hS, ⟨fun z hz => ?_, ?_⟩, ivQ_t h.2.2.2 (fun d hd => hlist _ (by omega)) (nb0.tr c3)⟩
    · rw [hlist 20 (by omega)]
      by_cases e : z = w
      · subst e; exact Or.inl ⟨hr, hnl⟩
      · rw [hrow _ (by omega) (by omega)]; exact w1 z hz
    · rw [hlist 20 (by omega)]; exact ⟨w2, w3, w4⟩
def z_canc (A : aS) (w : Nat) : aS := sL (sR A (30 + w) (aw_no (A.1 (30 + w)))) 20 ((A.2 20).eraseIdx ((A.2 20).idxOf (nI w)))
def sp_canc (A : aS) (t : Int32) (l : List (aS × Int32)) (tx : List Int32) (c : Nat → Int32) (w z : Int32) (G : gP) : Prop :=
  if in_ w 0 5 then (if A.1 (30 + iN w) 1 = -1 then z = -3 ∧ G A t l tx (upd c 6 (c 6 + 1)) else z = nI ((z_canc A (iN w)).2 20).length ∧ G (z_canc A (iN w)) t (h_push l (A, t)) tx c) else z = -2 ∧ G A t l tx (upd c 5 (c 5 + 1))
theorem idx_lt {l : List Int32} {x : Int32} (h : x ∈ l) : l.idxOf x < l.length := List.idxOf_lt_length_iff.mpr h
theorem idx_at {l : List Int32} {x : Int32} (h : x ∈ l) : l.getD (l.idxOf x) 0 = x := by
  have hl := idx_lt h
  rw [List.getD_eq_getElem?_getD, List.getElem?_eq_getElem hl]
  exact List.getElem_idxOf hl
theorem iv_canc {A : aS} {n sn w : Nat} (h : IV A n sn) (hw : w < 6) (hm : nI w ∈ A.2 20) : IV (z_canc A w) n sn := by
  have hn := h.2.1.2.2.2.1
  refine ⟨fun c hc => ?_, ?_, ?_, ?_⟩
  · unfold z_canc; rw [gB_l _ _ _ _ (by omega) (by omega), gB_r _ _ _ _ (by omega) (by omega)]; exact h.1 c hc
  · obtain ⟨s1, s2, s3, s4, s5, s6⟩ := h.2.1
    refine ⟨?_, ?_, s3, s4, s5, fun s hs => ?_⟩ <;> (simp only [z_canc, sL, sR]; rw [vu_n _ _ (by omega)]) <;> first | exact s1 | exact s2 | exact s6 s hs
  · refine ivW_del h.2.2.1 (idx_lt hm) hw (idx_at hm) (fun z hz hzw => ?_) ?_ ?_
    · simp only [z_canc, sL, sR]; rw [vu_n _ _ (by omega)]
    · simp only [z_canc, sL, sR]; rw [vu_s]; exact noW_no _
    · simp only [z_canc, sL]; rw [vu_s]
  · have n1 : nb n A (sR A (30 + w) (aw_no (A.1 (30 + w)))) := nb_R (Or.inr (by omega))
    have n2 : nb n (sR A (30 + w) (aw_no (A.1 (30 + w)))) (z_canc A w) := nb_L (Or.inr (Or.inl (by omega)))
    refine ivQ_t h.2.2.2 (fun b hb => ?_) (n1.tr n2)
    simp only [z_canc, sL, sR]; rw [vu_n _ _ (by omega)]
/-! keeping -/
theorem l_pl_m1 {l : List Int32} {w : Int32} (hl : l.length < 100) : l_pl l w = -1 ↔ ¬ w ∈ l := by
  unfold l_pl
  constructor
  · intro h hm
    rw [if_pos (idx_lt hm)] at h
    exact gn_m1 (by have := idx_lt hm; omega) h
  · intro h
    rw [if_neg (fun z => h (List.idxOf_lt_length_iff.mp z))]
theorem a_qa_none {n : Nat} : ∀ (k b : Nat) (A : aS) (w : Int32), ivQ A n → b + k ≤ 6 → (a_qa k b A w = -1 ↔ ∀ c, b ≤ c → c < b + k → ¬ w ∈ A.2 (10 + c))
  | 0, b, A, w, h, _ => ⟨fun _ c h1 h2 => by omega, fun _ => rfl⟩
  | k + 1, b, A, w, h, hk => by
    have hl : (A.2 (10 + b)).length < 100 := by have := (h.1 b (by omega)).2.2; omega
    unfold a_qa
    by_cases hm : w ∈ A.2 (10 + b)
    · rw [if_neg (fun z => (l_pl_m1 hl).mp z hm)]
      exact ⟨fun z => absurd z (gn_m1 (by omega)), fun z => absurd hm (z b (by omega) (by omega))⟩
    · rw [if_pos ((l_pl_m1 hl).mpr hm), a_qa_none k (b + 1) A w h (by omega)]
      constructor
      · intro z c h1 h2
        by_cases e : c = b
        · subst e; exact hm
        · exact z c (by omega) (by omega)
      · exact fun z c h1 h2 => z c (by omega) (by omega)
theorem a_qa_some {n : Nat} : ∀ (k b : Nat) (A : aS) (w : Int32), ivQ A n → b + k ≤ 6 → ∀ c, a_qa k b A w = nI c → c < 6 → b ≤ c ∧ c < b + k ∧ w ∈ A.2 (10 + c)
  | 0, b, A, w, h, _, c, e, hc => absurd e.symm (gn_m1 (by omega))
  | k + 1, b, A, w, h, hk, c, e, hc => by
    have hl : (A.2 (10 + b)).length < 100 := by have := (h.1 b (by omega)).2.2; omega
    unfold a_qa at e
    split at e
    · have := a_qa_some k (b + 1) A w h (by omega) c e hc
      exact ⟨by omega, by omega, this.2.2⟩
    · rename_i hp
      have hbc : b = c := nI_inj6 (by omega) (by omega) e
      subst hbc
      refine ⟨by omega, by omega, ?_⟩
      by_cases hm : w ∈ A.2 (10 + b)
      · exact hm
      · exact absurd ((l_pl_m1 hl).mpr hm) hp
