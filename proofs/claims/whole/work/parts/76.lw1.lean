/-! ===== class and reference, side by side ===== -/
def LV (G1 G2 : gP) : Prop := ∃ A t l tx c, G1 A t l tx c ∧ G2 A t l tx c ∧ (∃ n sn, IV A n sn) ∧ ivH l ∧ ∀ b ∈ tx, in_ b 0 127
section CB
variable {A A' : aS} {t t' : Int32} {l l' : List (aS × Int32)} {tx tx' : List Int32} {c c' : Nat → Int32} {n sn n' sn' : Nat} {G1 G2 : gP} {z1 z2 y : Int32}
theorem cb (h1 : z1 = y ∧ G1 A' t' l' tx' c') (h2 : z2 = y ∧ G2 A' t' l' tx' c') (hI : IV A' n' sn') (hH : ivH l') (hB : ∀ b ∈ tx', in_ b 0 127) : z1 = z2 ∧ LV G1 G2 := ⟨h1.1.trans h2.1.symm, A', t', l', tx', c', h1.2, h2.2, ⟨n', sn', hI⟩, hH, hB⟩

theorem cb_rooms {b w : Int32} (h1 : sp_rooms A t l tx c b w z1 G1) (h2 : sp_rooms A t l tx c b w z2 G2) (hI : IV A n sn) (hH : ivH l) (hB : ∀ b ∈ tx, in_ b 0 127) : z1 = z2 ∧ LV G1 G2 := by
  have hn6 := hI.2.1.2.2.2.1
  unfold sp_rooms at h1
  unfold sp_rooms at h2
  by_cases hc : a_has A b ∧ in_ w 1 6
  · rw [if_pos hc] at h1 h2
    obtain ⟨j, hj, rfl⟩ := a_has_of hI.2.1.1 (by omega) hc.1
    have ej : iN (nI j) = j := iN_n (by omega)
    rw [ej] at h1 h2
    exact cb h1 h2 (IV_srv (iv_room1 hI hj hc.2)) (ivH_push hH hI) hB
  · rw [if_neg hc] at h1 h2
    exact cb h1 h2 hI hH hB

theorem cb_stat {x0 x1 x2 x3 x4 : Int32} (h1 : sp_stat A t l tx c x0 x1 x2 x3 x4 z1 G1) (h2 : sp_stat A t l tx c x0 x1 x2 x3 x4 z2 G2) (hI : IV A n sn) (hH : ivH l) (hB : ∀ b ∈ tx, in_ b 0 127) : z1 = z2 ∧ LV G1 G2 := by
  have hn6 := hI.2.1.2.2.2.1
  unfold sp_stat at h1
  unfold sp_stat at h2
  by_cases hc : c_stat A x0 x1 x2 x3 x4
  · rw [if_pos hc] at h1 h2
    by_cases hd : A.1 40 6 < 6
    · rw [if_pos hd] at h1 h2
      have hs : sn < 6 := by
        rw [hI.2.1.2.1] at hd
        exact Nat.lt_of_not_le fun q => absurd (nI_le (a := 6) (b := sn) q (by have := hI.2.1.2.2.2.2.1; omega)) (Int32.not_le.mpr hd)
      rw [sn_eq hI] at h1 h2
      exact cb h1 h2 (iv_stat hI hs hc) (ivH_push hH hI) hB
    · rw [if_neg hd] at h1 h2
      exact cb h1 h2 hI hH hB
  · rw [if_neg hc] at h1 h2
    exact cb h1 h2 hI hH hB

theorem cb_guards {s b : Int32} (h1 : sp_guards A t l tx c s b z1 G1) (h2 : sp_guards A t l tx c s b z2 G2) (hI : IV A n sn) (hH : ivH l) (hB : ∀ b ∈ tx, in_ b 0 127) : z1 = z2 ∧ LV G1 G2 := by
  have hn6 := hI.2.1.2.2.2.1
  unfold sp_guards at h1
  unfold sp_guards at h2
  by_cases hc : a_hasS A s ∧ (b = -1 ∨ a_has A b)
  · rw [if_pos hc] at h1 h2
    obtain ⟨j, hj, rfl⟩ := gn_ix (n := sn) (by have := hI.2.1.2.2.2.2.1; omega) hc.1.1 (by rw [← hI.2.1.2.1]; exact hc.1.2)
    have ej : iN (nI j) = j := iN_n (by have := hI.2.1.2.2.2.2.1; omega)
    rw [ej] at h1 h2
    exact cb h1 h2 (iv_guard hI hj hc.2) (ivH_push hH hI) hB
  · rw [if_neg hc] at h1 h2
    exact cb h1 h2 hI hH hB

theorem cb_ticks {k : Int32} (h1 : sp_ticks A t l tx c k z1 G1) (h2 : sp_ticks A t l tx c k z2 G2) (hI : IV A n sn) (hH : ivH l) (hB : ∀ b ∈ tx, in_ b 0 127) : z1 = z2 ∧ LV G1 G2 := by
  have hn6 := hI.2.1.2.2.2.1
  unfold sp_ticks at h1
  unfold sp_ticks at h2
  by_cases hc : in_ k 1 30
  · rw [if_pos hc] at h1 h2
    rw [sn_eq hI] at h1 h2
    exact cb h1 h2 (iv_tcks _ _ hI) (ivH_push hH hI) hB
  · rw [if_neg hc] at h1 h2
    exact cb h1 h2 hI hH hB

theorem cb_puts {b k : Int32} (h1 : sp_puts A t l tx c b k z1 G1) (h2 : sp_puts A t l tx c b k z2 G2) (hI : IV A n sn) (hH : ivH l) (hB : ∀ b ∈ tx, in_ b 0 127) : z1 = z2 ∧ LV G1 G2 := by
  have hn6 := hI.2.1.2.2.2.1
  unfold sp_puts at h1
  unfold sp_puts at h2
  by_cases hc : a_has A b ∧ in_ k 0 9
  · rw [if_pos hc] at h1 h2
    obtain ⟨j, hj, rfl⟩ := a_has_of hI.2.1.1 (by omega) hc.1
    have ej : iN (nI j) = j := iN_n (by omega)
    rw [ej] at h1 h2
    exact cb h1 h2 (IV_srv (iv_put hI hj hc.2)) (ivH_push hH hI) hB
  · rw [if_neg hc] at h1 h2
    exact cb h1 h2 hI hH hB

theorem cb_takes {b : Int32} (h1 : sp_takes A t l tx c b z1 G1) (h2 : sp_takes A t l tx c b z2 G2) (hI : IV A n sn) (hH : ivH l) (hB : ∀ b ∈ tx, in_ b 0 127) : z1 = z2 ∧ LV G1 G2 := by
  have hn6 := hI.2.1.2.2.2.1
  unfold sp_takes at h1
  unfold sp_takes at h2
  by_cases hc : a_has A b
  · rw [if_pos hc] at h1 h2
    obtain ⟨j, hj, rfl⟩ := a_has_of hI.2.1.1 (by omega) hc
    have ej : iN (nI j) = j := iN_n (by omega)
    rw [ej] at h1 h2
    exact cb h1 h2 (IV_srv (iv_take hI hj)) (ivH_push hH hI) hB
  · rw [if_neg hc] at h1 h2
    exact cb h1 h2 hI hH hB

theorem cb_moves {a b k u : Int32} (h1 : sp_moves A t l tx c a b k u z1 G1) (h2 : sp_moves A t l tx c a b k u z2 G2) (hI : IV A n sn) (hH : ivH l) (hB : ∀ b ∈ tx, in_ b 0 127) : z1 = z2 ∧ LV G1 G2 := by
  have hn6 := hI.2.1.2.2.2.1
  unfold sp_moves at h1
  unfold sp_moves at h2
  by_cases hc : c_moves A a b k u
  · rw [if_pos hc] at h1 h2
    obtain ⟨i, hi, rfl⟩ := a_has_of hI.2.1.1 (by omega) hc.1
    obtain ⟨j, hj, rfl⟩ := a_has_of hI.2.1.1 (by omega) hc.2.1
    have ei : iN (nI i) = i := iN_n (by omega)
    have ej : iN (nI j) = j := iN_n (by omega)
    rw [ei, ej] at h1 h2
    exact cb h1 h2 (iv_moves hI hi hj (fun q => hc.2.2.1 (by rw [q]))) (ivH_push hH hI) hB
  · rw [if_neg hc] at h1 h2
    exact cb h1 h2 hI hH hB

theorem cb_asks {w b p k : Int32} (h1 : sp_asks A t l tx c w b p k z1 G1) (h2 : sp_asks A t l tx c w b p k z2 G2) (hI : IV A n sn) (hH : ivH l) (hB : ∀ b ∈ tx, in_ b 0 127) : z1 = z2 ∧ LV G1 G2 := by
  have hn6 := hI.2.1.2.2.2.1
  unfold sp_asks at h1
  unfold sp_asks at h2
  by_cases hc : c_asks A w b p k
  · rw [if_pos hc] at h1 h2
    obtain ⟨j, hj, rfl⟩ := gn_05 hc.1
    have ej : iN (nI j) = j := iN_n (by omega)
    rw [ej] at h1 h2
    by_cases hd : A.1 (30 + j) 1 = -1
    · rw [if_pos hd] at h1 h2
      exact cb h1 h2 (IV_srv (iv_ask1 hI hj hc.2.1 hc.2.2.1 hc.2.2.2 hd)) (ivH_push hH hI) hB
    · rw [if_neg hd] at h1 h2
      exact cb h1 h2 hI hH hB
  · rw [if_neg hc] at h1 h2
    exact cb h1 h2 hI hH hB

theorem cb_canc {w : Int32} (h1 : sp_canc A t l tx c w z1 G1) (h2 : sp_canc A t l tx c w z2 G2) (hI : IV A n sn) (hH : ivH l) (hB : ∀ b ∈ tx, in_ b 0 127) : z1 = z2 ∧ LV G1 G2 := by
  have hn6 := hI.2.1.2.2.2.1
  unfold sp_canc at h1
  unfold sp_canc at h2
  by_cases hc : in_ w 0 5
  · rw [if_pos hc] at h1 h2
    obtain ⟨j, hj, rfl⟩ := gn_05 hc
    have ej : iN (nI j) = j := iN_n (by omega)
    rw [ej] at h1 h2
    by_cases hd : A.1 (30 + j) 1 = -1
    · rw [if_pos hd] at h1 h2
      exact cb h1 h2 hI hH hB
    · rw [if_neg hd] at h1 h2
      exact cb h1 h2 (iv_canc hI hj ((ivW_wait hI.2.2.1 hj).mp hd)) (ivH_push hH hI) hB
  · rw [if_neg hc] at h1 h2
    exact cb h1 h2 hI hH hB

theorem cb_keeps {w b : Int32} (h1 : sp_keeps A t l tx c w b z1 G1) (h2 : sp_keeps A t l tx c w b z2 G2) (hI : IV A n sn) (hH : ivH l) (hB : ∀ b ∈ tx, in_ b 0 127) : z1 = z2 ∧ LV G1 G2 := by
  have hn6 := hI.2.1.2.2.2.1
  unfold sp_keeps at h1
  unfold sp_keeps at h2
  by_cases hc : in_ w 0 5 ∧ a_has A b
  · rw [if_pos hc] at h1 h2
    obtain ⟨w0, hw0, rfl⟩ := gn_05 hc.1
    obtain ⟨j, hj, rfl⟩ := a_has_of hI.2.1.1 (by omega) hc.2
    have ej : iN (nI j) = j := iN_n (by omega)
    rw [ej] at h1 h2
    by_cases hd : a_qa (nn A) 0 A (nI w0) = -1
    · rw [if_pos hd] at h1 h2
      exact cb h1 h2 (iv_keep hI hw0 hj (by rw [nn_eq hI] at hd; exact hd)) (ivH_push hH hI) hB
    · rw [if_neg hd] at h1 h2
      exact cb h1 h2 hI hH hB
  · rw [if_neg hc] at h1 h2
    exact cb h1 h2 hI hH hB

theorem cb_lets {w b : Int32} (h1 : sp_lets A t l tx c w b z1 G1) (h2 : sp_lets A t l tx c w b z2 G2) (hI : IV A n sn) (hH : ivH l) (hB : ∀ b ∈ tx, in_ b 0 127) : z1 = z2 ∧ LV G1 G2 := by
  have hn6 := hI.2.1.2.2.2.1
  unfold sp_lets at h1
  unfold sp_lets at h2
  by_cases hc : in_ w 0 5 ∧ a_has A b
  · rw [if_pos hc] at h1 h2
    obtain ⟨j, hj, rfl⟩ := a_has_of hI.2.1.1 (by omega) hc.2
    have ej : iN (nI j) = j := iN_n (by omega)
    rw [ej] at h1 h2
    by_cases hd : A.1 (10 + j) 7 = w
    · rw [if_pos hd] at h1 h2
      exact cb h1 h2 (IV_srv (iv_let hI hj)) (ivH_push hH hI) hB
    · rw [if_neg hd] at h1 h2
      exact cb h1 h2 hI hH hB
  · rw [if_neg hc] at h1 h2
    exact cb h1 h2 hI hH hB

theorem cb_quits {w : Int32} (h1 : sp_quits A t l tx c w z1 G1) (h2 : sp_quits A t l tx c w z2 G2) (hI : IV A n sn) (hH : ivH l) (hB : ∀ b ∈ tx, in_ b 0 127) : z1 = z2 ∧ LV G1 G2 := by
  have hn6 := hI.2.1.2.2.2.1
  unfold sp_quits at h1
  unfold sp_quits at h2
  by_cases hc : in_ w 0 5
  · rw [if_pos hc] at h1 h2
    by_cases hd : a_qa (nn A) 0 A w = -1
    · rw [if_pos hd] at h1 h2
      exact cb h1 h2 hI hH hB
    · rw [if_neg hd] at h1 h2
      rcases a_qa_cases (nn A) 0 A w with q | ⟨j, q1, q2, q3⟩
      · exact absurd q hd
      · have e := nn_eq hI
        have ej : iN (nI j) = j := iN_n (by omega)
        rw [q3, ej] at h1 h2
        exact cb h1 h2 (iv_quit hI (by omega)) (ivH_push hH hI) hB
  · rw [if_neg hc] at h1 h2
    exact cb h1 h2 hI hH hB

theorem cb_rd {cond : Prop} {val : Int32} (h1 : sp_rd A t l tx c cond val z1 G1) (h2 : sp_rd A t l tx c cond val z2 G2) (hI : IV A n sn) (hH : ivH l) (hB : ∀ b ∈ tx, in_ b 0 127) : z1 = z2 ∧ LV G1 G2 := by
  by_cases hc : cond
  · exact cb (h1.1 hc) (h2.1 hc) hI hH hB
  · exact cb (h1.2 hc) (h2.2 hc) hI hH hB
theorem cb_type {k : Int32} (h1 : sp_type A t l tx c k z1 G1) (h2 : sp_type A t l tx c k z2 G2) (hI : IV A n sn) (hH : ivH l) (hB : ∀ b ∈ tx, in_ b 0 127) : z1 = z2 ∧ LV G1 G2 := by
  unfold sp_type at h1 h2
  by_cases hc : in_ k 0 127
  · rw [if_pos hc] at h1 h2
    by_cases hd : 120 ≤ tx.length
    · rw [if_pos hd] at h1 h2
      exact cb h1 h2 hI hH hB
    · rw [if_neg hd] at h1 h2
      refine cb h1 h2 hI hH (fun b hb => ?_)
      rcases List.mem_append.mp hb with q | q
      · exact hB b q
      · rw [List.mem_singleton.mp q]; exact hc
  · rw [if_neg hc] at h1 h2
    exact cb h1 h2 hI hH hB
theorem cb_clear (h1 : z1 = nI tx.length ∧ G1 A t l [] c) (h2 : z2 = nI tx.length ∧ G2 A t l [] c) (hI : IV A n sn) (hH : ivH l) (hB : ∀ b ∈ tx, in_ b 0 127) : z1 = z2 ∧ LV G1 G2 := cb h1 h2 hI hH (fun b hb => absurd hb (by simp))
theorem cb_does (h1 : sp_does A t l tx c z1 G1) (h2 : sp_does A t l tx c z2 G2) (hI : IV A n sn) (hH : ivH l) (hB : ∀ b ∈ tx, in_ b 0 127) : z1 = z2 ∧ LV G1 G2 := by
  cases hf : flt tx 0 0 0 true with
  | none => exact cb (h1.2 hf) (h2.2 hf) (IV_srv (iv_does hI hf)) (ivH_push hH hI) hB
  | some i => exact cb (h1.1 i hf) (h2.1 i hf) hI hH hB
theorem cb_begins {k : Int32} (h1 : sp_begins A t l tx c k z1 G1) (h2 : sp_beginsM A t l tx c k z2 G2) (hI : IV A n sn) (hH : ivH l) (hB : ∀ b ∈ tx, in_ b 0 127) : z1 = z2 ∧ LV G1 G2 := by
  unfold sp_begins at h1
  unfold sp_beginsM at h2
  by_cases hc : in_ k 1 6
  · rw [if_pos hc] at h1 h2
    obtain ⟨h1, A', hA, h3⟩ := h1
    obtain ⟨n', hn'⟩ := IV_nwr hA hc
    exact cb ⟨h1, h3⟩ ⟨h2.1, h2.2 A' hA⟩ hn' (ivH_push hH hI) hB
  · rw [if_neg hc] at h1 h2
    exact cb h1 h2 hI hH hB
theorem cb_back (h1 : sp_back A t l tx c z1 G1) (h2 : sp_backM A t l tx c z2 G2) (hI : IV A n sn) (hH : ivH l) (hB : ∀ b ∈ tx, in_ b 0 127) : z1 = z2 ∧ LV G1 G2 := by
  rcases List.eq_nil_or_concat l with hl | ⟨l0, q, hl⟩
  · exact cb (h1.1 hl) (h2.1 hl) hI hH hB
  · rw [List.concat_eq_append] at hl
    obtain ⟨k1, A', hA, k2⟩ := h1.2 l0 q hl
    obtain ⟨k3, k4⟩ := h2.2 l0 q hl
    obtain ⟨n', sn', hq⟩ := hH q (by rw [hl]; simp)
    exact cb ⟨k1, k2⟩ ⟨k3, k4 A' hA⟩ (IV_agr hq hA) (fun p hp => hH p (by rw [hl]; exact List.mem_append_left _ hp)) hB
end CB
theorem LV.keep {v1 v2 : gj_V} {x m : Nat} (h : LV (GR v1 x) (MG v2 m)) (e : ∀ a, (x ≤ a ∧ a < x + 390) → v2 a = v1 a) : LV (GR v2 x) (MG v2 m) := by
  obtain ⟨A, t, l, tx, c, h1, h2, h3⟩ := h
  exact ⟨A, t, l, tx, c, h1.oth e, h2, h3⟩
