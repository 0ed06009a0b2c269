/-! ===== the judgement's rows of fields, arrays, calls, ends ===== -/
/-- a field as an instruction names it: class ci, place k, its type, whether final -/
def gj_Fk (own : String) (index ci k : Nat) (ty : FieldType) (fin : Bool) : Prop :=
  ∃ (C : String) (T : u_T) (N : Nat) (ty0 : Nat → FieldType), vwCl[ci]? = some (C, T, N) ∧ (∀ w ∈ u_ws C T N, w ∈ gj_w) ∧ (∀ k, k < N → parseFieldDescriptor (T k).2.2.1 = some (ty0 k)) ∧ (∀ a, a < N → ∀ b, b < N → a ≠ b → (T a).2.1 ≠ (T b).2.1) ∧
    k < N ∧ ty0 k = ty ∧ (T k).2.2.2 = fin ∧ (T k).1 = C ∧ (Cond.fieldLink own index (T k).1 (T k).2.1 (T k).2.2.1 ∈ gj_w ∨ ∃ host, Cond.fieldLinkNest own index (T k).1 (T k).2.1 (T k).2.2.1 host ∈ gj_nw)
theorem gj_rep.put {X : gj_X} {lim : Nat} {σ : gj_H} {v : gj_V} {H H1 : Heap} (h : gj_rep X lim σ v H) {a : Nat} {sh : gj_S} (hs : σ a = some sh) {f : Nat → Int32} (hat : va_at X.2.1 vwCl (a, gj_e X.2.2.1 (some sh) f) H1) (hz : H1.size = H.size) (oq : ∀ q : Nat, q ≠ a → H1[q]? = H[q]?) : gj_rep X lim σ (gj_up v a f) H1 := by
  obtain ⟨k, hk⟩ := h.at hs
  have hk2 : ([] ++ gj_pl X lim σ v)[k]? = some (a, (fun a => gj_e X.2.2.1 (σ a) (v a)) a) := by rw [hk]; simp only [hs]
  have e := va_pl_set (e := gj_e X.2.2.1 (some sh) f) h.2.2.2.2 (h.mem hs) hk2
  rw [gj_upf_eq hs] at e
  refine ⟨h.1, hz.trans h.2.1, h.2.2.1, ?_, ?_⟩
  · have := h.2.2.2.1.set h.2.2.2.2 hk hat oq
    rw [e] at this
    exact this
  · have := h.2.2.2.2.set (e := gj_e X.2.2.1 (some sh) f) hk
    rw [e] at this
    exact this
theorem gj_rep.puts {X : gj_X} {lim : Nat} {σ : gj_H} {v : gj_V} {H H1 : Heap} (h : gj_rep X lim σ v H) {a : Nat} {sh sh' : gj_S} (hs : σ a = some sh) (hat : va_at X.2.1 vwCl (a, gj_e X.2.2.1 (some sh') (v a)) H1) (hz : H1.size = H.size) (oq : ∀ q : Nat, q ≠ a → H1[q]? = H[q]?) : gj_rep X lim (va_up σ a (some sh')) v H1 := by
  obtain ⟨k, hk⟩ := h.at hs
  have hk2 : ([] ++ gj_pl X lim σ v)[k]? = some (a, (fun a => gj_e X.2.2.1 (σ a) (v a)) a) := by rw [hk]; simp only [hs]
  have e := va_pl_set (e := gj_e X.2.2.1 (some sh') (v a)) h.2.2.2.2 (h.mem hs) hk2
  rw [gj_ups_eq] at e
  refine ⟨h.1, hz.trans h.2.1, fun b hb => ?_, ?_, ?_⟩
  · by_cases hba : b = a
    · subst hba
      exact h.2.2.1 b (by rw [hs]; rfl)
    · rw [va_up_ne _ _ hba] at hb
      exact h.2.2.1 b hb
  · have := h.2.2.2.1.set h.2.2.2.2 hk hat oq
    rw [e] at this
    exact this
  · have := h.2.2.2.2.set (e := gj_e X.2.2.1 (some sh') (v a)) hk
    rw [e] at this
    exact this
theorem gj_rep.A {X : gj_X} {lim : Nat} {σ : gj_H} {v : gj_V} {H : Heap} (h : gj_rep X lim σ v H) {a : Nat} {sh : gj_S} (hs : σ a = some sh) : gj_A X a := (h.2.2.1 a (by rw [hs]; rfl)).1
/-- a cell of the pool, for the kit's rows -/
theorem gj_rep.one {X : gj_X} {lim : Nat} {σ : gj_H} {v : gj_V} {H : Heap} (h : gj_rep X lim σ v H) {a : Nat} {sh : gj_S} (hs : σ a = some sh) : va_P X.2.1 vwCl [(a, gj_e X.2.2.1 (some sh) (v a))] H := by
  obtain ⟨k, hk⟩ := h.at hs
  intro j q hq
  have hj : j < 1 := (List.getElem?_eq_some_iff.mp hq).1
  rw [show j = 0 by omega] at hq
  cases hq
  exact h.2.2.2.1 k _ hk
section GH
variable {X : gj_X} {d : Nat} {M : gj_M} {Q : gj_Q} {lim : Nat} {σ : gj_H} {v : gj_V} {kc ks pc q : Nat} {L L' : List (Option Value)} {st : List Value}
theorem g_getf {index ci k a : Nat} {ty : FieldType} {fin : Bool} {t : List (Option (Option Nat))} {w : Value} (hf : gj_Fk M.2.1.cls index ci k ty fin) (hs : σ a = some (.inl (ci, t))) (hw : (gj_fs t (v a) 0)[k]? = some w) (hd : decode M.1 pc = .ok (.getfield index, 3)) (hq : pc + 3 = q) (kk : gj_G X d M Q lim σ v kc ks q L (w :: st)) : gj_G X d M Q lim σ v kc ks pc L (.ref a :: st) := by
  subst hq
  intro p e s m args below meth c H locs ls hC hR hS hL
  obtain ⟨C, T, N, ty0, h1, h2, h3, h4, h5, h6, h7, h8, h9⟩ := hf
  have hP := hR.one hs
  rcases h9 with h9 | ⟨host, h9⟩
  · exact va_get hC.1 hC.2.1 hC.2.2.2.2.2.2.1 h2 hC.2.2.2.2.2.1 hC.2.2.2.2.2.2.2.1.1 hP 0 rfl h1 k h5 (hC.2.2.2.2.2.2.1 _ h9) (fun _ h => h) hw hd (kk p e s m args below meth c H locs ls hC hR hS hL)
  · exact va_getN hC.1 hC.2.1 hC.2.2.2.2.2.2.1 h2 hC.2.2.2.2.2.1 hC.2.2.2.2.2.2.2.1.1 hP 0 rfl h1 k h5 (va_Nw.use rfl (hC.2.2.2.2.2.2.2.1.2.1 _ h9)) (fun _ h => h) hw hd (kk p e s m args below meth c H locs ls hC hR hS hL)
theorem g_getI {index ci k a : Nat} {ty : FieldType} {fin : Bool} {t : List (Option (Option Nat))} (hf : gj_Fk M.2.1.cls index ci k ty fin) (hs : σ a = some (.inl (ci, t))) (hw : t[k]? = some none) (hd : decode M.1 pc = .ok (.getfield index, 3)) (hq : pc + 3 = q) (kk : gj_G X d M Q lim σ v kc ks q L (.int (v a k) :: st)) : gj_G X d M Q lim σ v kc ks pc L (.ref a :: st) :=
  g_getf hf hs (by rw [gj_fs_at, hw, Nat.zero_add]; rfl) hd hq kk
theorem g_getR {index ci k a r : Nat} {ty : FieldType} {fin : Bool} {t : List (Option (Option Nat))} (hf : gj_Fk M.2.1.cls index ci k ty fin) (hs : σ a = some (.inl (ci, t))) (hw : t[k]? = some (some (some r))) (hd : decode M.1 pc = .ok (.getfield index, 3)) (hq : pc + 3 = q) (kk : gj_G X d M Q lim σ v kc ks q L (.ref r :: st)) : gj_G X d M Q lim σ v kc ks pc L (.ref a :: st) :=
  g_getf hf hs (by rw [gj_fs_at, hw]; rfl) hd hq kk
/-- an int field that isn't final -/
theorem g_putI {index ci k a : Nat} {ty : FieldType} {t : List (Option (Option Nat))} {x : Int32} (hf : gj_Fk M.2.1.cls index ci k ty false) (hs : σ a = some (.inl (ci, t))) (hw : t[k]? = some none) (hn : narrow ty (.int x) = .int x) (hfit : fits ty (.int x) = true) (hd : decode M.1 pc = .ok (.putfield index, 3)) (hq : pc + 3 = q) (kk : gj_G X d M Q lim σ (gj_up2 v a k x) kc ks q L st) : gj_G X d M Q lim σ v kc ks pc L (.int x :: .ref a :: st) := by
  subst hq
  intro p e s m args below meth c H locs ls hC hR hS hL
  obtain ⟨C, T, N, ty0, h1, h2, h3, h4, h5, h6, h7, h8, h9⟩ := hf
  have hts := hC.2.2.2.2.2.2.1
  have hown := hC.2.2.2.2.2.1
  have hK := hC.2.2.2.2.2.2.2.1.1
  have hap := va_apart (own := M.2.1.cls) hts h2 ty0 h3 h4 hK h1
  obtain ⟨r, g1, cell, q1, q2, q3, q4⟩ := hR.one hs 0 _ rfl
  have hr : r = (C, T, N) := Option.some.inj (g1.symm.trans h1)
  subst hr
  obtain ⟨hSl, hfc, kC, hkC, hkind⟩ := hK.1 ci _ h1
  obtain ⟨cf, kf, fi, f, hi, hsl⟩ := hSl k h5
  have hlay := hts _ (h2 _ (u_in_lay h5))
  unfold u_lay at hlay
  rw [if_neg (by rw [h7]; decide)] at hlay
  have hst := (u_facts hfc hkC (u_lays hts h2 h5) hi).1
  have h10 := u_store hfc hkC hkind hlay hi (by rw [h3 k h5, h6]) hn hfit
  have hlen : k < (gj_fs t (v a) 0).length := by rw [gj_fs_len]; exact (List.getElem?_eq_some_iff.mp hw).1
  have fin : ∀ H' : Heap, H'[a]? = some (cell.setSlot f.slot (.int x)) → H'.size = H.size → (∀ q, q ≠ a → H'[q]? = H[q]?) → W p X.1 e (gj_R d M) s m args below meth c H' (locs ++ [⟨a, f.slot⟩]) kc ks (MQ below (gj_F X Q) args s M.2.2.2.2.1 M.2.2.2.2.2 (gj_A X)) (F0 m (pc + 3) ls st) := by
    intro H' e1 e2 e3
    rw [hsl] at e1 ⊢
    refine kk p e s m args below meth c H' _ ls hC (hR.put hs (f := upd (v a) k x) ?_ e2 e3) (hS.put e2 e3 (hR.A hs)) hL
    show va_at X.2.1 vwCl (a, .inr (ci, gj_fs t (upd (v a) k x) 0)) H'
    rw [← gj_fs_set t (v a) k x hw]
    exact ⟨_, h1, t_OB.to (V := updV (vp_V (gj_fs t (v a) 0)) k (.int x)) ⟨_, e1, q2, q3, t_set q4 hap h5 (.int x)⟩ (fun j _ => vp_updV_set hlen (.int x) j)⟩
  rcases h9 with h9 | ⟨host, h9⟩
  · exact W.putK hC.1 hC.2.1 (f := f) ⟨hown, hts _ h9, ⟨_, _, _, hi⟩, hst⟩ (by rw [q2]; exact h10) q1 q3 (by rw [hsl]; exact k2_hasslot (q4 k h5)) rfl rfl hd fin
  · exact va_WputK hC.1 hC.2.1 (f := f) hown (va_Nw.use rfl (hC.2.2.2.2.2.2.2.1.2.1 _ h9)) hi hst (by rw [q2]; exact h10) q1 q3 (by rw [hsl]; exact k2_hasslot (q4 k h5)) rfl rfl hd fin
/-- an int array, read by a natural index -/
theorem g_iald {a n k : Nat} {i : Int32} (hs : σ a = some (.inr (.inl n))) (hi : i = nI k) (hk : k < n) (hn : n < 2147483648) (hd : decode M.1 pc = .ok (.iaload, 1)) (hq : pc + 1 = q) (kk : gj_G X d M Q lim σ v kc ks q L (.int (v a k) :: st)) : gj_G X d M Q lim σ v kc ks pc L (.int i :: .ref a :: st) := by
  subst hq; subst hi
  intro p e s m args below meth c H locs ls hC hR hS hL
  have hP := hR.one hs
  have hc : (nI k).toNatClampNeg = k := nI_clamp (Nat.lt_trans hk hn)
  refine va_iald hC.1 hC.2.1 hC.2.2.2.2.2.2.2.1.1 hP 0 0 (f := v a) (n := n) rfl rfl (vp_in_nI hk hn) hd ?_
  rw [hc]
  exact kk p e s m args below meth c H locs ls hC hR hS hL
theorem g_iast {a n k : Nat} {i x : Int32} (hs : σ a = some (.inr (.inl n))) (hi : i = nI k) (hk : k < n) (hn : n < 2147483648) (hd : decode M.1 pc = .ok (.iastore, 1)) (hq : pc + 1 = q) (kk : gj_G X d M Q lim σ (gj_up2 v a k x) kc ks q L st) : gj_G X d M Q lim σ v kc ks pc L (.int x :: .int i :: .ref a :: st) := by
  subst hq; subst hi
  intro p e s m args below meth c H locs ls hC hR hS hL
  have hP := hR.one hs
  have hc : (nI k).toNatClampNeg = k := nI_clamp (Nat.lt_trans hk hn)
  have hin : vp_in (nI k) n := vp_in_nI hk hn
  refine W.iast hC.1 hC.2.1 (hP 0 _ rfl) ((hC.2.2.2.2.2.2.2.1.1.2 0 _ rfl).1 n (fun j => .int (v a j))) (fun q => by cases q) (by show ¬ (nI k < 0 ∨ (arrV _ _ _).slots.size ≤ _); rw [arrV_size]; exact hin) rfl rfl hd fun H1 e1 z oq => ?_
  refine kk p e s m args below meth c H1 _ ls hC (hR.put hs (f := upd (v a) k x) ?_ z oq) (hS.put z oq (hR.A hs)) hL
  show H1[a]? = some (vp_cell (X.2.2.1 0) (n, .inl (upd (v a) k x)))
  rw [e1, hc]
  show some ((vp_cell (X.2.2.1 0) (n, .inl (v a))).setSlot k (.int x)) = _
  rw [vp_cell_i, vp_cell_i, arrV_store]
  congr 2
  funext j
  by_cases hj : j = k
  · subst hj
    simp [updV, upd]
  · simp [updV, upd, hj]
theorem g_alen {a n : Nat} (hs : σ a = some (.inr (.inl n))) (hd : decode M.1 pc = .ok (.arraylength, 1)) (hq : pc + 1 = q) (kk : gj_G X d M Q lim σ v kc ks q L (.int (nI n) :: st)) : gj_G X d M Q lim σ v kc ks pc L (.ref a :: st) := by
  subst hq
  intro p e s m args below meth c H locs ls hC hR hS hL
  exact va_alen hC.1 hC.2.1 hC.2.2.2.2.2.2.2.1.1 (hR.one hs) 0 0 rfl rfl rfl hd (kk p e s m args below meth c H locs ls hC hR hS hL)
/-- an array of references, read by a natural index -/
theorem g_aald {a k r kk0 : Nat} {C : String} {i : Int32} {A : List (Option Nat)} (hs : σ a = some (.inr (.inr (kk0, A)))) (hC0 : (gj_tys X.2.2.1)[kk0]? = some (X.2.2.1 kk0, .object C)) (hi : i = nI k) (hr : A[k]? = some (some r)) (hn : A.length < 2147483648) (hd : decode M.1 pc = .ok (.aaload, 1)) (hq : pc + 1 = q) (kk : gj_G X d M Q lim σ v kc ks q L (.ref r :: st)) : gj_G X d M Q lim σ v kc ks pc L (.int i :: .ref a :: st) := by
  subst hq; subst hi
  intro p e s m args below meth c H locs ls hC hR hS hL
  have hk : k < A.length := (List.getElem?_eq_some_iff.mp hr).1
  have hc : (nI k).toNatClampNeg = k := nI_clamp (Nat.lt_trans hk hn)
  refine va_aldq hC.1 hC.2.1 hC.2.2.2.2.2.2.2.1.1 (hR.one hs) 0 kk0 (n := A.length) (f := fun i => A.getD i none) rfl hC0 (vp_in_nI hk hn) hd ?_
  rw [hc]
  have e1 : A.getD k none = some r := by rw [List.getD_eq_getElem?_getD, hr]; rfl
  show W p X.1 e (gj_R d M) s m args below meth c H locs kc ks _ (F0 m (pc + 1) ls (va_rf (A.getD k none) :: st))
  rw [e1]
  exact kk p e s m args below meth c H locs ls hC hR hS hL
/-! ends -/
theorem gj_end {p : Program} {e : Env} {s : State} {m : MethodId} {args : Array Value} {below : List Frame} {meth : Method} {c : Code} {H : Heap} {locs : List Loc} {r : Option Value} (hR : gj_rep X lim σ v H) (hS : va_S (gj_A X) s.heap H locs) (hQ : Q r lim σ v) : ∀ t : State, t.heap = H → s.WarmedH t.vm → gj_F X Q args s (.returned r) t :=
  fun t ht _ => ⟨⟨r, lim, σ, v, rfl, hQ, by rw [ht]; exact hR⟩, hS.F ht⟩
theorem g_iret {x : Int32} (hr : M.2.2.2.1 = some .int) (hkc : kc = M.2.2.2.2.1) (hks : ks = M.2.2.2.2.2) (hd : decode M.1 pc = .ok (.ireturn, 1)) (hQ : Q (some (.int x)) lim σ v) : gj_G X d M Q lim σ v kc ks pc L [.int x] := by
  subst hkc; subst hks
  intro p e s m args below meth c H locs ls hC hR hS hL
  exact W.iret hC.1 hC.2.1 (hC.2.2.2.1.trans hr) (gj_end (p := p) (e := e) (m := m) (below := below) (meth := meth) (c := c) hR hS hQ) hS.2.2 hd hC.2.2.2.2.1
theorem g_zret {x : Int32} (hr : M.2.2.2.1 = some .boolean) (hz : narrow .boolean (.int x) = .int x) (hkc : kc = M.2.2.2.2.1) (hks : ks = M.2.2.2.2.2) (hd : decode M.1 pc = .ok (.ireturn, 1)) (hQ : Q (some (.int x)) lim σ v) : gj_G X d M Q lim σ v kc ks pc L [.int x] := by
  subst hkc; subst hks
  intro p e s m args below meth c H locs ls hC hR hS hL
  exact W.zret hC.1 hC.2.1 (hC.2.2.2.1.trans hr) hz (gj_end (p := p) (e := e) (m := m) (below := below) (meth := meth) (c := c) hR hS hQ) hS.2.2 hd hC.2.2.2.2.1
theorem g_lret {x : Int64} (hr : M.2.2.2.1 = some .long) (hkc : kc = M.2.2.2.2.1) (hks : ks = M.2.2.2.2.2) (hd : decode M.1 pc = .ok (.lreturn, 1)) (hQ : Q (some (.long x)) lim σ v) : gj_G X d M Q lim σ v kc ks pc L [.long x] := by
  subst hkc; subst hks
  intro p e s m args below meth c H locs ls hC hR hS hL
  exact W.lret hC.1 hC.2.1 (hC.2.2.2.1.trans hr) (gj_end (p := p) (e := e) (m := m) (below := below) (meth := meth) (c := c) hR hS hQ) hS.2.2 hd hC.2.2.2.2.1
theorem g_vret (hr : M.2.2.2.1 = none) (hkc : kc = M.2.2.2.2.1) (hks : ks = M.2.2.2.2.2) (hd : decode M.1 pc = .ok (.return_, 1)) (hQ : Q none lim σ v) : gj_G X d M Q lim σ v kc ks pc L [] := by
  subst hkc; subst hks
  intro p e s m args below meth c H locs ls hC hR hS hL
  exact W.vret hC.1 hC.2.1 (hC.2.2.2.1.trans hr) (gj_end (p := p) (e := e) (m := m) (below := below) (meth := meth) (c := c) hR hS hQ) hS.2.2 hd hC.2.2.2.2.1
/-! a contract out of the judgement -/
def gj_ent : List Value → List (Option Value)
  | [] => []
  | .long x :: r => some (.long x) :: none :: gj_ent r
  | .double x :: r => some (.double x) :: none :: gj_ent r
  | x :: r => some x :: gj_ent r
theorem gj_ent_in : ∀ (vs : List Value) (n i : Nat) (w : Value), (gj_ent vs)[i]? = some (some w) → (n + i, w) ∈ lv_args n vs
  | [], n, i, w, h => by simp [gj_ent] at h
  | x :: r, n, i, w, h => by
    have ih1 := gj_ent_in r (n + 1)
    have ih2 := gj_ent_in r (n + 2)
    cases x <;> (
      simp only [gj_ent] at h
      unfold lv_args
      rcases i with _ | i
      · simp at h
        subst h
        simp
      · first
          | (rcases i with _ | i
             · simp at h
             · have := ih2 i w (by simpa using h)
               rw [show n + 2 + i = n + (i + 1 + 1) by omega] at this
               simp only [Value.category, List.mem_cons]
               exact Or.inr this)
          | (have := ih1 i w (by simpa using h)
             rw [show n + 1 + i = n + (i + 1) by omega] at this
             simp only [Value.category, List.mem_cons]
             exact Or.inr this))
theorem gj_E_of {as : List Value} (hy : plainName M.2.1.cls = true) (hL : Nat.ble (lg_sl as).length M.2.2.1 = true) (hl : ∀ (i : Nat) (w : Value), L[i]? = some (some w) → (gj_ent as)[i]? = some (some w)) (h : gj_G X d M Q lim σ v 0 0 0 L []) : gj_E X d M as lim σ v Q := by
  refine Met.ofW (cc := M.1) (maxL := M.2.2.1) (ret := M.2.2.2.1) hy rfl ?_
  intro p e s m args below meth c s₁ B hml hv
  obtain ⟨rfl, hR, hK⟩ := hv
  have hts := atoms_spec (ws := gj_ws M) B.pre
  have hent := lv_entry as (n := M.2.2.1) (Nat.ble_eq.mp hL)
  rw [lg_entry_eq]
  refine h p e s m as.toArray below meth c s.heap [] _ ⟨B.exec, B.bytes, hml, B.returns, B.notSynchronized, findClass_of_methodNamed B.named, fun w hw => hts w (List.mem_cons_of_mem _ hw), hK, by rw [hR.2.1]; exact hR.1, (name_of_methodNamed B.named B.method).1⟩ hR va_S.rf ⟨hent.1, hent.2.1, fun q hq => ?_⟩
  obtain ⟨i, w⟩ := q
  have h1 := gj_ent_in as 0 i w (hl i w (gj_L_mem.mp hq))
  rw [Nat.zero_add] at h1
  exact hent.2.2 (i, w) h1
/-- locals may be forgotten -/
theorem g_weak (h : ∀ (i : Nat) (w : Value), L'[i]? = some (some w) → L[i]? = some (some w)) (k : gj_G X d M Q lim σ v kc ks pc L' st) : gj_G X d M Q lim σ v kc ks pc L st := by
  intro p e s m args below meth c H locs ls hC hR hS hL
  refine k p e s m args below meth c H locs ls hC hR hS ⟨hL.1, hL.2.1, fun q hq => ?_⟩
  obtain ⟨i, w⟩ := q
  exact hL.2.2 (i, w) (gj_L_mem.mpr (h i w (gj_L_mem.mp hq)))
end GH
