/-! ===== keeping, letting, quitting; reads ===== -/
abbrev nn (A : aS) : Nat := iN (A.1 40 5)
def sp_keeps (A : aS) (t : Int32) (l : List (aS × Int32)) (tx : List Int32) (c : Nat → Int32) (w b z : Int32) (G : gP) : Prop :=
  if in_ w 0 5 ∧ a_has A b then (if a_qa (nn A) 0 A w = -1 then z = (b_keep (gB A (iN b)) w).1 ∧ G (sB A (iN b) (b_keep (gB A (iN b)) w).2) t (h_push l (A, t)) tx c else z = -3 ∧ G A t l tx (upd c 6 (c 6 + 1))) else z = -2 ∧ G A t l tx (upd c 5 (c 5 + 1))
theorem queue_add {A : aS} {n w j : Nat} (h : ivQ A n) (hw : w < 6) (hj : j < 6) (hno : ¬ nI w ∈ A.2 (10 + j)) : (A.2 (10 + j)).length < 6 := by
  obtain ⟨h1, h2, h3⟩ := h.1 j hj
  have hsub : (A.2 (10 + j) ++ [nI w]).Subset ((List.range 6).map nI) := by
    intro x hx
    rcases List.mem_append.mp hx with hx | hx
    · obtain ⟨z, hz, e⟩ := h1 x hx
      exact List.mem_map.mpr ⟨z, List.mem_range.mpr hz, e.symm⟩
    · rw [List.mem_singleton.mp hx]
      exact List.mem_map.mpr ⟨w, List.mem_range.mpr hw, rfl⟩
  have hnd : (A.2 (10 + j) ++ [nI w]).Nodup := by
    rw [List.nodup_append]
    refine ⟨h2, by simp, fun a ha b hb => ?_⟩
    rw [List.mem_singleton.mp hb]
    intro e
    exact hno (e ▸ ha)
  have := nd_len hnd hsub
  simp at this
  omega
/-- a queue changed, the rest of a buffer's value but gate, room and items free -/
theorem iv_queue {A : aS} {n sn j : Nat} {B : bS} (h : IV A n sn) (hj : j < n) (hr : B.2.1 3 = A.1 (10 + j) 3) (hi : B.2.2.1 = A.2 j) (hq : (∀ x ∈ B.2.2.2, ∃ w, w < 6 ∧ x = nI w) ∧ B.2.2.2.Nodup ∧ B.2.2.2.length ≤ 6) (hx : ∀ c, c < 6 → c ≠ j → ∀ x ∈ B.2.2.2, x ∉ A.2 (10 + c)) : IV (sB A j B) n sn := by
  have hn := h.2.1.2.2.2.1
  have j6 : j < 6 := by omega
  have hg := gB_s A j B j6
  have eq : (sB A j B).2 (10 + j) = B.2.2.2 := congrArg (fun z => z.2.2.2) hg
  refine ⟨ivB_s h.1 j6 ?_, ?_, ?_, ?_⟩
  · have h1 := h.1 j j6
    unfold ivb at *
    rw [hr, hi]; exact h1
  · obtain ⟨s1, s2, s3, s4, s5, s6⟩ := h.2.1
    refine ⟨?_, ?_, s3, s4, s5, fun s hs => ?_⟩ <;> rw [sB_r _ _ _ _ (by omega) (by omega)] <;> first | exact s1 | exact s2 | exact s6 s hs
  · exact ivW_eq h.2.2.1 (fun w hw => sB_r _ _ _ _ (by omega) (by omega)) (sB_l _ _ _ _ (by omega) (by omega))
  · obtain ⟨q1, q2, q3⟩ := h.2.2.2
    refine ⟨fun b hb => ?_, fun b c hb hc hbc x hxm => ?_, fun b g1 g2 => ?_⟩
    · by_cases e : b = j
      · subst e; rw [eq]; exact hq
      · rw [sB_l _ _ _ _ (by omega) (by omega)]; exact q1 b hb
    · by_cases e : b = j
      · subst e
        rw [eq] at hxm
        rw [sB_l _ _ _ _ (by omega) (by omega)]
        exact hx c hc (Ne.symm hbc) x hxm
      · rw [sB_l _ _ _ _ (by omega) (by omega)] at hxm
        by_cases e2 : c = j
        · subst e2
          rw [eq]
          exact fun z => hx b hb e x z hxm
        · rw [sB_l _ _ _ _ (by omega) (by omega)]
          exact q2 b c hb hc hbc x hxm
    · rw [sB_l _ _ _ _ (by omega) (by omega), sB_r _ _ _ _ (by omega) (by omega)]; exact q3 b g1 g2
theorem iv_keep {A : aS} {n sn w j : Nat} (h : IV A n sn) (hw : w < 6) (hj : j < n) (hq : a_qa n 0 A (nI w) = -1) : IV (sB A j (b_keep (gB A j) (nI w)).2) n sn := by
  have hn := h.2.1.2.2.2.1
  have j6 : j < 6 := by omega
  have hno := (a_qa_none n 0 A (nI w) h.2.2.2 (by omega)).mp hq
  have hall : ∀ c, c < 6 → ¬ nI w ∈ A.2 (10 + c) := fun c hc => by
    by_cases e : c < n
    · exact hno c (by omega) (by omega)
    · rw [(h.2.2.2.2.2 c (by omega) hc).1]; simp
  obtain ⟨q1, q2, q3⟩ := h.2.2.2.1 j j6
  have hlen := queue_add h.2.2.2 hw j6 (hall j j6)
  unfold b_keep
  split
  · refine iv_queue h hj rfl rfl ⟨fun x hx => ?_, ?_, ?_⟩ (fun c hc hcj x hx => ?_)
    · rcases List.mem_append.mp hx with hx | hx
      · exact q1 x hx
      · rw [List.mem_singleton.mp hx]; exact ⟨w, hw, rfl⟩
    · show ((A.2 (10 + j)) ++ [nI w]).Nodup
      rw [List.nodup_append]
      refine ⟨q2, by simp, fun a ha d hd => ?_⟩
      rw [List.mem_singleton.mp hd]
      intro e
      exact hall j j6 (e ▸ ha)
    · show ((A.2 (10 + j)) ++ [nI w]).length ≤ 6
      simp; omega
    · rcases List.mem_append.mp hx with hx | hx
      · exact h.2.2.2.2.1 j c j6 hc (Ne.symm hcj) x hx
      · rw [List.mem_singleton.mp hx]; exact hall c hc
  · refine iv_queue h hj ?_ rfl ⟨q1, q2, q3⟩ (fun c hc hcj x hx => h.2.2.2.2.1 j c j6 hc (Ne.symm hcj) x hx)
    show upd (upd (A.1 (10 + j)) 7 (nI w)) 8 (A.1 (10 + j) 8 + 1) 3 = _
    simp [upd]
def sp_lets (A : aS) (t : Int32) (l : List (aS × Int32)) (tx : List Int32) (c : Nat → Int32) (w b z : Int32) (G : gP) : Prop :=
  if in_ w 0 5 ∧ a_has A b then (if A.1 (10 + iN b) 7 = w then z = (b_let (gB A (iN b))).1 ∧ G (a_srv 7 (sB A (iN b) (b_let (gB A (iN b))).2)) t (h_push l (A, t)) tx c else z = -3 ∧ G A t l tx (upd c 6 (c 6 + 1))) else z = -2 ∧ G A t l tx (upd c 5 (c 5 + 1))
theorem iv_let {A : aS} {n sn j : Nat} (h : IV A n sn) (hj : j < n) : IV (sB A j (b_let (gB A j)).2) n sn := by
  have hn := h.2.1.2.2.2.1
  have j6 : j < 6 := by omega
  obtain ⟨q1, q2, q3⟩ := h.2.2.2.1 j j6
  have hx : ∀ c, c < 6 → c ≠ j → ∀ x ∈ A.2 (10 + j), x ∉ A.2 (10 + c) := fun c hc hcj x hx => h.2.2.2.2.1 j c j6 hc (Ne.symm hcj) x hx
  unfold b_let
  split
  · split
    · refine iv_queue h hj ?_ rfl ⟨by simp, by simp, by simp⟩ (by simp)
      simp [upd, gB]
    · refine iv_queue h hj ?_ rfl ⟨fun x hx => q1 x (List.mem_of_mem_eraseIdx hx), q2.eraseIdx 0, ?_⟩ (fun c hc hcj x hm => hx c hc hcj x (List.mem_of_mem_eraseIdx hm))
      · simp [upd, gB]
      · have := List.length_eraseIdx_le (A.2 (10 + j)) 0
        show ((A.2 (10 + j)).eraseIdx 0).length ≤ 6
        omega
  · refine iv_queue h hj ?_ rfl ⟨q1, q2, q3⟩ hx
    simp [upd, gB]
def z_quit (A : aS) (w : Int32) (j : Nat) : aS := sL A (10 + j) ((A.2 (10 + j)).eraseIdx ((A.2 (10 + j)).idxOf w))
def sp_quits (A : aS) (t : Int32) (l : List (aS × Int32)) (tx : List Int32) (c : Nat → Int32) (w z : Int32) (G : gP) : Prop :=
  if in_ w 0 5 then (if a_qa (nn A) 0 A w = -1 then z = -3 ∧ G A t l tx (upd c 6 (c 6 + 1)) else z = a_qa (nn A) 0 A w ∧ G (z_quit A w (iN (a_qa (nn A) 0 A w))) t (h_push l (A, t)) tx c) else z = -2 ∧ G A t l tx (upd c 5 (c 5 + 1))
theorem iv_quit {A : aS} {n sn j : Nat} {w : Int32} (h : IV A n sn) (hj : j < n) : IV (z_quit A w j) n sn := by
  have hn := h.2.1.2.2.2.1
  have j6 : j < 6 := by omega
  obtain ⟨q1, q2, q3⟩ := h.2.2.2.1 j j6
  unfold z_quit
  rw [← sB_queue A j _ j6]
  refine iv_queue h hj rfl rfl ⟨fun x hx => q1 x (List.mem_of_mem_eraseIdx hx), q2.eraseIdx _, ?_⟩ (fun c hc hcj x hm => h.2.2.2.2.1 j c j6 hc (Ne.symm hcj) x (List.mem_of_mem_eraseIdx hm))
  have := List.length_eraseIdx_le (A.2 (10 + j)) ((A.2 (10 + j)).idxOf w)
  show ((A.2 (10 + j)).eraseIdx _).length ≤ 6
  omega
/-- a read: nothing changes but, refused, how often -/
def sp_rd (A : aS) (t : Int32) (l : List (aS × Int32)) (tx : List Int32) (c : Nat → Int32) (cond : Prop) (val z : Int32) (G : gP) : Prop :=
  (cond → z = val ∧ G A t l tx c) ∧ (¬ cond → z = -2 ∧ G A t l tx (upd c 5 (c 5 + 1)))
def sp_type (A : aS) (t : Int32) (l : List (aS × Int32)) (tx : List Int32) (c : Nat → Int32) (k z : Int32) (G : gP) : Prop :=
  if in_ k 0 127 then (if 120 ≤ tx.length then z = -4 ∧ G A t l tx (upd c 7 (c 7 + 1)) else z = nI (tx.length + 1) ∧ G A t l (tx ++ [k]) c) else z = -2 ∧ G A t l tx (upd c 5 (c 5 + 1))
def z_told (l : List (aS × Int32)) (tx : List Int32) (c : Nat → Int32) (k : Nat) : Int32 := match k with
  | 0 => c 5
  | 1 => c 6
  | 2 => c 7
  | 3 => nI tx.length
  | _ => nI l.length
/-! the digest -/
def dgm (h : Int64) (x : Int32) : Int64 := 31 * h + x.toInt64
def dgl (f : Nat → Int32) : Nat → Nat → Int64 → Int64
  | 0, _, h => h
  | k + 1, i, h => dgl f k (i + 1) (dgm h (f i))
def dgr (l : List Int32) (h : Int64) : Int64 := dgl (fun i => l.getD i 0) l.length 0 h
def dgb (A : aS) (b : Nat) (h : Int64) : Int64 := dgr (A.2 (10 + b)) (dgl (b_ktold (gB A b)) 3 0 (dgr (A.2 b) (dgl (b_told (gB A b)) 8 0 h)))
def dgB (A : aS) : Nat → Nat → Int64 → Int64
  | 0, _, h => h
  | k + 1, b, h => dgB A k (b + 1) (dgb A b h)
def dgS (A : aS) : Nat → Nat → Int64 → Int64
  | 0, _, h => h
  | k + 1, s, h => dgS A k (s + 1) (dgl (as_told (A.1 (20 + s))) 7 0 h)
def dgW (A : aS) : Nat → Nat → Int64 → Int64
  | 0, _, h => h
  | k + 1, w, h => dgW A k (w + 1) (dgl (aw_told (A.1 (30 + w))) 5 0 h)
def z_dig (A : aS) (t : Int32) (l : List (aS × Int32)) (tx : List Int32) (c : Nat → Int32) : Int64 :=
  dgm (dgr (A.2 20) (dgW A 6 0 (dgS A (iN (A.1 40 6)) 0 (dgB A (nn A) 0 (dgl (a_wt A (nn A) t) 10 0 (dgl (z_told l tx c) 5 0 1932)))))) (a_bits (nn A) A 6 0 0)
