/-! ===== the judgement: a heap as a function; one row an instruction ===== -/
abbrev gj_X : Type := Launch × va_G × (Nat → ClassId) × Nat
abbrev gj_M : Type := ByteArray × MethodName × Nat × Option FieldType × Nat × Nat
abbrev gj_S : Type := (Nat × List (Option (Option Nat))) ⊕ (Nat ⊕ (Nat × List (Option Nat)))
abbrev gj_V : Type := Nat → Nat → Int32
abbrev gj_H : Type := Nat → Option gj_S
abbrev gj_Q : Type := Option Value → Nat → gj_H → gj_V → Prop
/-- the fields of an object: its template says which are references; the ints come from x -/
def gj_fs : List (Option (Option Nat)) → (Nat → Int32) → Nat → List Value
  | [], _, _ => []
  | none :: t, x, i => .int (x i) :: gj_fs t x (i + 1)
  | some r :: t, x, i => va_rf r :: gj_fs t x (i + 1)
def gj_e (ids : Nat → ClassId) (s : Option gj_S) (x : Nat → Int32) : va_E := match s with
  | none => .inr (0, [])
  | some (.inl (ci, t)) => .inr (ci, gj_fs t x 0)
  | some (.inr (.inl n)) => .inl (ids 0, (n, .inl x))
  | some (.inr (.inr (k, L))) => .inl (ids k, (L.length, .inr (.inr (.inr (.inr (fun i => L.getD i none))))))
theorem gj_fs_at : ∀ (t : List (Option (Option Nat))) (x : Nat → Int32) (i k : Nat), (gj_fs t x i)[k]? = (t[k]?).map (fun o => match o with | none => Value.int (x (i + k)) | some r => va_rf r)
  | [], x, i, k => by simp [gj_fs]
  | none :: t, x, i, 0 => by simp [gj_fs]
  | some r :: t, x, i, 0 => by simp [gj_fs]
  | none :: t, x, i, k + 1 => by
    have := gj_fs_at t x (i + 1) k
    simp only [gj_fs, List.getElem?_cons_succ, this]
    rw [show i + 1 + k = i + (k + 1) by omega]
  | some r :: t, x, i, k + 1 => by
    have := gj_fs_at t x (i + 1) k
    simp only [gj_fs, List.getElem?_cons_succ, this]
    rw [show i + 1 + k = i + (k + 1) by omega]
theorem gj_fs_len : ∀ (t : List (Option (Option Nat))) (x : Nat → Int32) (i : Nat), (gj_fs t x i).length = t.length
  | [], x, i => rfl
  | none :: t, x, i => by simp [gj_fs, gj_fs_len t x (i + 1)]
  | some r :: t, x, i => by simp [gj_fs, gj_fs_len t x (i + 1)]
/-- an int field is set -/
theorem gj_fs_set (t : List (Option (Option Nat))) (x : Nat → Int32) (k : Nat) (z : Int32) (h : t[k]? = some none) : (gj_fs t x 0).set k (.int z) = gj_fs t (upd x k z) 0 := by
  apply List.ext_getElem?
  intro j
  rw [gj_fs_at, Nat.zero_add]
  by_cases hj : j = k
  · subst hj
    have hl : j < (gj_fs t x 0).length := by rw [gj_fs_len]; exact (List.getElem?_eq_some_iff.mp h).1
    rw [List.getElem?_set_self hl, h]
    simp [upd]
  · rw [List.getElem?_set_ne (Ne.symm hj), gj_fs_at, Nat.zero_add]
    cases ht : t[j]? with
    | none => rfl
    | some o => cases o <;> simp [upd, hj]
/-- a reference field is set -/
theorem gj_fs_setr (t : List (Option (Option Nat))) (x : Nat → Int32) (k : Nat) (r : Option Nat) (h : k < t.length) : (gj_fs t x 0).set k (va_rf r) = gj_fs (t.set k (some r)) x 0 := by
  apply List.ext_getElem?
  intro j
  rw [gj_fs_at, Nat.zero_add]
  by_cases hj : j = k
  · subst hj
    rw [List.getElem?_set_self (by rw [gj_fs_len]; exact h), List.getElem?_set_self h]
    rfl
  · rw [List.getElem?_set_ne (Ne.symm hj), List.getElem?_set_ne (Ne.symm hj), gj_fs_at, Nat.zero_add]
/-- the domain: all cells from the base on -/
abbrev gj_dom (b lim : Nat) : List Nat := List.range' b (lim - b)
theorem gj_dom_mem {b lim a : Nat} (h1 : b ≤ a) (h2 : a < lim) : a ∈ gj_dom b lim := by
  rw [List.mem_range'_1]; omega
abbrev gj_pl (X : gj_X) (lim : Nat) (σ : gj_H) (v : gj_V) : va_W := va_pl (gj_dom X.2.2.2 lim) (fun a => gj_e X.2.2.1 (σ a) (v a))
abbrev gj_A (X : gj_X) : Nat → Prop := fun q => X.2.2.2 ≤ q
def gj_rep (X : gj_X) (lim : Nat) (σ : gj_H) (v : gj_V) (H : Heap) : Prop :=
  X.2.2.2 ≤ lim ∧ H.size = lim ∧ (∀ a, (σ a).isSome = true → X.2.2.2 ≤ a ∧ a < lim) ∧ va_P X.2.1 vwCl ([] ++ gj_pl X lim σ v) H ∧ va_D (gj_A X) ([] ++ gj_pl X lim σ v)
theorem gj_rep.mem {X : gj_X} {lim : Nat} {σ : gj_H} {v : gj_V} {H : Heap} (h : gj_rep X lim σ v H) {a : Nat} {sh : gj_S} (hs : σ a = some sh) : a ∈ gj_dom X.2.2.2 lim := by
  have := h.2.2.1 a (by rw [hs]; rfl)
  exact gj_dom_mem this.1 this.2
theorem gj_rep.at {X : gj_X} {lim : Nat} {σ : gj_H} {v : gj_V} {H : Heap} (h : gj_rep X lim σ v H) {a : Nat} {sh : gj_S} (hs : σ a = some sh) : ∃ k : Nat, ([] ++ gj_pl X lim σ v)[k]? = some (a, gj_e X.2.2.1 (some sh) (v a)) := by
  obtain ⟨k, hk⟩ := va_pl_get (X := []) (f := fun a => gj_e X.2.2.1 (σ a) (v a)) (h.mem hs)
  exact ⟨k, by rw [hs] at hk; exact hk⟩
def gj_up (v : gj_V) (a : Nat) (f : Nat → Int32) : gj_V := va_up v a f
def gj_up2 (v : gj_V) (a k : Nat) (x : Int32) : gj_V := va_up v a (upd (v a) k x)
theorem gj_upf_eq {X : gj_X} {σ : gj_H} {v : gj_V} {a : Nat} {f : Nat → Int32} {sh : gj_S} (hs : σ a = some sh) : va_up (fun a => gj_e X.2.2.1 (σ a) (v a)) a (gj_e X.2.2.1 (some sh) f) = fun b => gj_e X.2.2.1 (σ b) (va_up v a f b) := by
  funext b
  by_cases hb : b = a
  · subst hb
    rw [va_up_self, va_up_self, hs]
  · rw [va_up_ne _ _ hb, va_up_ne _ _ hb]
theorem gj_ups_eq {X : gj_X} {σ : gj_H} {v : gj_V} {a : Nat} {sh : gj_S} : va_up (fun a => gj_e X.2.2.1 (σ a) (v a)) a (gj_e X.2.2.1 (some sh) (v a)) = fun b => gj_e X.2.2.1 (va_up σ a (some sh) b) (v b) := by
  funext b
  by_cases hb : b = a
  · subst hb
    rw [va_up_self, va_up_self]
  · rw [va_up_ne _ _ hb, va_up_ne _ _ hb]
/-! words -/
def gj_isNest : Cond → Bool
  | .fieldLinkNest .. => true
  | .methodLinkNest .. => true
  | _ => false
def gj_w : List Cond := lw_tbl.filter goodWord
def gj_nw : List Cond := lw_tbl.filter gj_isNest
theorem gj_w_in {w : Cond} (i : Nat) (h : lw_tbl[i]? = some w) (hg : goodWord w = true) : w ∈ gj_w := List.mem_filter.mpr ⟨List.mem_of_getElem? h, hg⟩
theorem gj_nw_in {w : Cond} (i : Nat) (h : lw_tbl[i]? = some w) (hg : gj_isNest w = true) : w ∈ gj_nw := List.mem_filter.mpr ⟨List.mem_of_getElem? h, hg⟩
theorem gj_nw_tab {w : Cond} (h : w ∈ gj_nw) : w.onTables = true := by
  have := (List.mem_filter.mp h).2
  cases w <;> first | rfl | (simp [gj_isNest] at this)
theorem gj_nw_warm {w : Cond} (h : w ∈ gj_nw) {s U : State} (hW : s.WarmedH U.vm) (hZ : va_Nw w s) : va_Nw w U := by
  have hn := (List.mem_filter.mp h).2
  cases w <;> first | exact va_Nw.warmF hW hZ | exact va_Nw.warmM hW hZ | (simp [gj_isNest] at hn)
def gj_ao : List String := [RX0, RX1, RX4, RX5, RX7, RX9]
abbrev gj_tys (ids : Nat → ClassId) : List (ClassId × FieldType) := [(ids 0, .int), (ids 1, .object RX0), (ids 2, .object RX1), (ids 3, .object RX4), (ids 4, .object RX5), (ids 5, .object RX7), (ids 6, .object RX9)]
def gj_K (X : gj_X) (U : State) : Prop := va_K X.2.1 vwCl (gj_tys X.2.2.1) U ∧ (∀ w ∈ gj_nw, va_Nw w U) ∧ ∀ C ∈ gj_ao, va_AO C U
theorem gj_K.warm {X : gj_X} {s U : State} (hW : s.WarmedH U.vm) (h : gj_K X s) : gj_K X U := ⟨va_K.moved hW.alike h.1, fun w hw => gj_nw_warm hw hW (h.2.1 w hw), fun C hC => va_AO.moved hW.alike (h.2.2 C hC)⟩
theorem gj_K.same {X : gj_X} {s U : State} (hv : s.vm = U.vm) (h : gj_K X s) : gj_K X U := ⟨va_K.moved (by rw [hv]; exact Vm.Alike.refl _) h.1, fun w hw => va_Nw.same (gj_nw_tab hw) hv (h.2.1 w hw), fun C hC => va_AO.moved (by rw [hv]; exact Vm.Alike.refl _) (h.2.2 C hC)⟩
def gj_R (d : Nat) (M : gj_M) : Room := { frames := d + 1, cells := M.2.2.2.2.1, slots := M.2.2.2.2.2, locals := 29 * d + 40 }
def gj_ws (M : gj_M) : List Cond := .code M.2.1 M.1 M.2.2.1 M.2.2.2.1 :: gj_w
def gj_F (X : gj_X) (Q : gj_Q) : Array Value → State → Outcome → State → Prop := fun _ st oc t => (∃ (r : Option Value) (lim : Nat) (σ : gj_H) (v : gj_V), oc = .returned r ∧ Q r lim σ v ∧ gj_rep X lim σ v t.heap) ∧ va_F (gj_A X) st t
/-- a method's contract -/
def gj_E (X : gj_X) (d : Nat) (M : gj_M) (as : List Value) (lim : Nat) (σ : gj_H) (v : gj_V) (Q : gj_Q) : Prop :=
  Met X.1 M.2.1 (gj_ws M) (gj_R d M) (va_Pc as (fun U => gj_rep X lim σ v U.heap ∧ gj_K X U)) (gj_F X Q) M.2.2.2.2.1 M.2.2.2.2.2 (gj_A X)
def gj_C (X : gj_X) (M : gj_M) (p : Program) (s : State) (m : MethodId) (args : Array Value) (meth : Method) (c : Code) : Prop :=
  p.tables.exec = Jvm.exec ∧ c.code = M.1 ∧ c.maxLocals = M.2.2.1 ∧ meth.sig.returnType = M.2.2.2.1 ∧ meth.locks = false ∧ s.vm.findClass M.2.1.cls = some m.cls ∧ (∀ w ∈ gj_w, w.before args s = true) ∧ gj_K X s ∧ X.2.2.2 ≤ s.heap.size ∧ meth.name = M.2.1.name
/-! locals by their slots -/
def gj_L (L : List (Option Value)) : List (Nat × Value) := (List.range L.length).filterMap (fun i => (L[i]?.join).map (fun v => (i, v)))
theorem gj_L_mem {L : List (Option Value)} {i : Nat} {v : Value} : (i, v) ∈ gj_L L ↔ L[i]? = some (some v) := by
  unfold gj_L
  rw [List.mem_filterMap]
  constructor
  · rintro ⟨j, hj, h⟩
    cases hL : L[j]? with
    | none => rw [hL] at h; simp at h
    | some o =>
      cases o with
      | none => rw [hL] at h; simp at h
      | some w =>
        rw [hL] at h
        simp at h
        obtain ⟨rfl, rfl⟩ := h
        exact hL
  · intro h
    exact ⟨i, List.mem_range.mpr (List.getElem?_eq_some_iff.mp h).1, by rw [h]; rfl⟩
theorem gj_lat {ls : Array Slot} {nL : Nat} {L : List (Option Value)} (h : lv_has ls nL (gj_L L)) {i : Nat} {v : Value} (hl : L[i]? = some (some v)) : ls[i]? = some (.val v) := h.2.2 (i, v) (gj_L_mem.mpr hl)
def gj_ok1 (L : List (Option Value)) (i : Nat) : Bool := match i with
  | 0 => true
  | j + 1 => match L[j]? with
    | some (some (.long _)) => false
    | some (some (.double _)) => false
    | _ => true
theorem gj_ok1_spec {L : List (Option Value)} {i j : Nat} {w : Value} (h : gj_ok1 L i = true) (hj : L[j]? = some (some w)) (e : j + 1 = i) : ¬ w.category = 2 := by
  subst e
  simp only [gj_ok1, hj] at h
  cases w <;> simp_all [Value.category]
theorem gj_st1 {ls : Array Slot} {nL : Nat} {L : List (Option Value)} {i : Nat} {v : Value} (hok : gj_ok1 L i = true) (h : lv_has ls nL ((i, v) :: (gj_L L).filter (fun q => !(q.1 == i) && !(q.1 + 1 == i && q.2.category == 2)))) : lv_has ls nL (gj_L (L.set i (some v))) := by
  refine ⟨h.1, h.2.1, fun q hq => ?_⟩
  obtain ⟨j, w⟩ := q
  have hm := gj_L_mem.mp hq
  by_cases hj : j = i
  · subst hj
    have hl := (List.getElem?_eq_some_iff.mp hm).1
    rw [List.length_set] at hl
    rw [List.getElem?_set_self hl] at hm
    cases hm
    exact h.2.2 _ List.mem_cons_self
  · rw [List.getElem?_set_ne (Ne.symm hj)] at hm
    refine h.2.2 (j, w) (List.mem_cons_of_mem _ (List.mem_filter.mpr ⟨gj_L_mem.mpr hm, ?_⟩))
    have hc : j + 1 = i → ¬ w.category = 2 := gj_ok1_spec hok hm
    simp only [Bool.and_eq_true, Bool.not_eq_true', beq_eq_false_iff_ne, ne_eq, Bool.and_eq_false_iff]
    refine ⟨hj, ?_⟩
    by_cases e : j + 1 = i
    · exact Or.inr (hc e)
    · exact Or.inl e
theorem gj_st2 {ls : Array Slot} {nL : Nat} {L : List (Option Value)} {i : Nat} {v : Value} (hok : gj_ok1 L i = true) (h : lv_has ls nL ((i, v) :: (gj_L L).filter (fun q => !(q.1 == i) && (!(q.1 == i + 1) && !(q.1 + 1 == i && q.2.category == 2))))) : lv_has ls nL (gj_L ((L.set i (some v)).set (i + 1) none)) := by
  refine ⟨h.1, h.2.1, fun q hq => ?_⟩
  obtain ⟨j, w⟩ := q
  have hm := gj_L_mem.mp hq
  by_cases hj1 : j = i + 1
  · subst hj1
    have hl := (List.getElem?_eq_some_iff.mp hm).1
    rw [List.length_set] at hl
    rw [List.getElem?_set_self hl] at hm
    cases hm
  · rw [List.getElem?_set_ne (Ne.symm hj1)] at hm
    by_cases hj : j = i
    · subst hj
      have hl := (List.getElem?_eq_some_iff.mp hm).1
      rw [List.length_set] at hl
      rw [List.getElem?_set_self hl] at hm
      cases hm
      exact h.2.2 _ List.mem_cons_self
    · rw [List.getElem?_set_ne (Ne.symm hj)] at hm
      refine h.2.2 (j, w) (List.mem_cons_of_mem _ (List.mem_filter.mpr ⟨gj_L_mem.mpr hm, ?_⟩))
      have hc : j + 1 = i → ¬ w.category = 2 := gj_ok1_spec hok hm
      simp only [Bool.and_eq_true, Bool.not_eq_true', beq_eq_false_iff_ne, ne_eq, Bool.and_eq_false_iff]
      refine ⟨hj, hj1, ?_⟩
      by_cases e : j + 1 = i
      · exact Or.inr (hc e)
      · exact Or.inl e
/-- the judgement -/
def gj_G (X : gj_X) (d : Nat) (M : gj_M) (Q : gj_Q) (lim : Nat) (σ : gj_H) (v : gj_V) (kc ks pc : Nat) (L : List (Option Value)) (st : List Value) : Prop :=
  ∀ (p : Program) (e : Env) (s : State) (m : MethodId) (args : Array Value) (below : List Frame) (meth : Method) (c : Code) (H : Heap) (locs : List Loc) (ls : Array Slot),
    gj_C X M p s m args meth c → gj_rep X lim σ v H → va_S (gj_A X) s.heap H locs → lv_has ls M.2.2.1 (gj_L L) →
    W p X.1 e (gj_R d M) s m args below meth c H locs kc ks (MQ below (gj_F X Q) args s M.2.2.2.2.1 M.2.2.2.2.2 (gj_A X)) (F0 m pc ls st)
section GJ
variable {X : gj_X} {d : Nat} {M : gj_M} {Q : gj_Q} {lim : Nat} {σ : gj_H} {v : gj_V} {kc ks pc q : Nat} {L L' : List (Option Value)} {st : List Value}
theorem gj_G.of (k : ∀ (p : Program) (e : Env) (s : State) (m : MethodId) (args : Array Value) (below : List Frame) (meth : Method) (c : Code) (H : Heap) (locs : List Loc) (ls : Array Slot),
    gj_C X M p s m args meth c → gj_rep X lim σ v H → va_S (gj_A X) s.heap H locs → lv_has ls M.2.2.1 (gj_L L) →
    W p X.1 e (gj_R d M) s m args below meth c H locs kc ks (MQ below (gj_F X Q) args s M.2.2.2.2.1 M.2.2.2.2.2 (gj_A X)) (F0 m pc ls st)) : gj_G X d M Q lim σ v kc ks pc L st := k
theorem g_iload_n {n : Fin 4} {x : Int32} (hd : decode M.1 pc = .ok (.iload_n n, 1)) (hl : L[n.val]? = some (some (.int x))) (hq : pc + 1 = q) (k : gj_G X d M Q lim σ v kc ks q L (.int x :: st)) : gj_G X d M Q lim σ v kc ks pc L st := by
  subst hq
  intro p e s m args below meth c H locs ls hC hR hS hL
  exact lv_iload_n hC.1 hC.2.1 hd rfl (gj_lat hL hl) (k p e s m args below meth c H locs ls hC hR hS hL)
theorem g_iload {i : Nat} {x : Int32} (hd : decode M.1 pc = .ok (.iload i, 2)) (hl : L[i]? = some (some (.int x))) (hq : pc + 2 = q) (k : gj_G X d M Q lim σ v kc ks q L (.int x :: st)) : gj_G X d M Q lim σ v kc ks pc L st := by
  subst hq
  intro p e s m args below meth c H locs ls hC hR hS hL
  exact lv_iload hC.1 hC.2.1 hd (gj_lat hL hl) (k p e s m args below meth c H locs ls hC hR hS hL)
theorem g_lload_n {n : Fin 4} {x : Int64} (hd : decode M.1 pc = .ok (.lload_n n, 1)) (hl : L[n.val]? = some (some (.long x))) (hq : pc + 1 = q) (k : gj_G X d M Q lim σ v kc ks q L (.long x :: st)) : gj_G X d M Q lim σ v kc ks pc L st := by
  subst hq
  intro p e s m args below meth c H locs ls hC hR hS hL
  exact lv_lload_n hC.1 hC.2.1 hd rfl (gj_lat hL hl) (k p e s m args below meth c H locs ls hC hR hS hL)
theorem g_aload_n {n : Fin 4} {x : Nat} (hd : decode M.1 pc = .ok (.aload_n n, 1)) (hl : L[n.val]? = some (some (.ref x))) (hq : pc + 1 = q) (k : gj_G X d M Q lim σ v kc ks q L (.ref x :: st)) : gj_G X d M Q lim σ v kc ks pc L st := by
  subst hq
  intro p e s m args below meth c H locs ls hC hR hS hL
  exact lv_aload_n hC.1 hC.2.1 hd rfl (gj_lat hL hl) (k p e s m args below meth c H locs ls hC hR hS hL)
theorem g_aload {i x : Nat} (hd : decode M.1 pc = .ok (.aload i, 2)) (hl : L[i]? = some (some (.ref x))) (hq : pc + 2 = q) (k : gj_G X d M Q lim σ v kc ks q L (.ref x :: st)) : gj_G X d M Q lim σ v kc ks pc L st := by
  subst hq
  intro p e s m args below meth c H locs ls hC hR hS hL
  exact lv_aload hC.1 hC.2.1 hd (gj_lat hL hl) (k p e s m args below meth c H locs ls hC hR hS hL)
theorem g_istore_n {n : Fin 4} {x : Int32} (hd : decode M.1 pc = .ok (.istore_n n, 1)) (hi : Nat.blt n.val M.2.2.1 = true) (hok : gj_ok1 L n.val = true) (hl : L.set n.val (some (.int x)) = L') (hq : pc + 1 = q) (k : gj_G X d M Q lim σ v kc ks q L' st) : gj_G X d M Q lim σ v kc ks pc L (.int x :: st) := by
  subst hq; subst hl
  intro p e s m args below meth c H locs ls hC hR hS hL
  exact lv_istore_n hC.1 hC.2.1 hd rfl hL (Nat.blt_eq.mp hi) rfl (fun ls' h => k p e s m args below meth c H locs ls' hC hR hS (gj_st1 hok h))
theorem g_istore {i : Nat} {x : Int32} (hd : decode M.1 pc = .ok (.istore i, 2)) (hi : Nat.blt i M.2.2.1 = true) (hok : gj_ok1 L i = true) (hl : L.set i (some (.int x)) = L') (hq : pc + 2 = q) (k : gj_G X d M Q lim σ v kc ks q L' st) : gj_G X d M Q lim σ v kc ks pc L (.int x :: st) := by
  subst hq; subst hl
  intro p e s m args below meth c H locs ls hC hR hS hL
  exact lv_istore hC.1 hC.2.1 hd hL (Nat.blt_eq.mp hi) rfl (fun ls' h => k p e s m args below meth c H locs ls' hC hR hS (gj_st1 hok h))
theorem g_astore_n {n : Fin 4} {x : Nat} (hd : decode M.1 pc = .ok (.astore_n n, 1)) (hi : Nat.blt n.val M.2.2.1 = true) (hok : gj_ok1 L n.val = true) (hl : L.set n.val (some (.ref x)) = L') (hq : pc + 1 = q) (k : gj_G X d M Q lim σ v kc ks q L' st) : gj_G X d M Q lim σ v kc ks pc L (.ref x :: st) := by
  subst hq; subst hl
  intro p e s m args below meth c H locs ls hC hR hS hL
  exact lv_astore_n hC.1 hC.2.1 hd rfl hL (Nat.blt_eq.mp hi) rfl (fun ls' h => k p e s m args below meth c H locs ls' hC hR hS (gj_st1 hok h))
theorem g_astore {i x : Nat} (hd : decode M.1 pc = .ok (.astore i, 2)) (hi : Nat.blt i M.2.2.1 = true) (hok : gj_ok1 L i = true) (hl : L.set i (some (.ref x)) = L') (hq : pc + 2 = q) (k : gj_G X d M Q lim σ v kc ks q L' st) : gj_G X d M Q lim σ v kc ks pc L (.ref x :: st) := by
  subst hq; subst hl
  intro p e s m args below meth c H locs ls hC hR hS hL
  exact lv_astore hC.1 hC.2.1 hd hL (Nat.blt_eq.mp hi) rfl (fun ls' h => k p e s m args below meth c H locs ls' hC hR hS (gj_st1 hok h))
theorem g_lstore_n {n : Fin 4} {x : Int64} (hd : decode M.1 pc = .ok (.lstore_n n, 1)) (hi : Nat.blt (n.val + 1) M.2.2.1 = true) (hok : gj_ok1 L n.val = true) (hl : (L.set n.val (some (.long x))).set (n.val + 1) none = L') (hq : pc + 1 = q) (k : gj_G X d M Q lim σ v kc ks q L' st) : gj_G X d M Q lim σ v kc ks pc L (.long x :: st) := by
  subst hq; subst hl
  intro p e s m args below meth c H locs ls hC hR hS hL
  exact lv_lstore_n hC.1 hC.2.1 hd rfl hL (Nat.blt_eq.mp hi) rfl (fun ls' h => k p e s m args below meth c H locs ls' hC hR hS (gj_st2 hok h))
theorem g_iinc {i : Nat} {n : Int} {x y : Int32} (hd : decode M.1 pc = .ok (.iinc i n, 3)) (hx : L[i]? = some (some (.int x))) (hv : x + Int32.ofInt n = y) (hi : Nat.blt i M.2.2.1 = true) (hok : gj_ok1 L i = true) (hl : L.set i (some (.int y)) = L') (hq : pc + 3 = q) (k : gj_G X d M Q lim σ v kc ks q L' st) : gj_G X d M Q lim σ v kc ks pc L st := by
  subst hq; subst hl
  intro p e s m args below meth c H locs ls hC hR hS hL
  obtain ⟨z, hz⟩ := List.getElem?_of_mem (gj_L_mem.mpr hx)
  exact lv_iinc hC.1 hC.2.1 hd hL hz hv (Nat.blt_eq.mp hi) rfl (fun ls' h => k p e s m args below meth c H locs ls' hC hR hS (gj_st1 hok h))
theorem g_iconst {n : Int} {x : Int32} (hd : decode M.1 pc = .ok (.iconst n, 1)) (hv : Int32.ofInt n = x) (hq : pc + 1 = q) (k : gj_G X d M Q lim σ v kc ks q L (.int x :: st)) : gj_G X d M Q lim σ v kc ks pc L st := by
  subst hq
  intro p e s m args below meth c H locs ls hC hR hS hL
  exact lv_iconst hC.1 hC.2.1 hd hv (k p e s m args below meth c H locs ls hC hR hS hL)
theorem g_bipush {n : Int} {x : Int32} (hd : decode M.1 pc = .ok (.bipush n, 2)) (hv : (Int8.ofInt n).toInt32 = x) (hq : pc + 2 = q) (k : gj_G X d M Q lim σ v kc ks q L (.int x :: st)) : gj_G X d M Q lim σ v kc ks pc L st := by
  subst hq
  intro p e s m args below meth c H locs ls hC hR hS hL
  exact lv_bipush hC.1 hC.2.1 hd hv (k p e s m args below meth c H locs ls hC hR hS hL)
theorem g_sipush {n : Int} {x : Int32} (hd : decode M.1 pc = .ok (.sipush n, 3)) (hv : (Int16.ofInt n).toInt32 = x) (hq : pc + 3 = q) (k : gj_G X d M Q lim σ v kc ks q L (.int x :: st)) : gj_G X d M Q lim σ v kc ks pc L st := by
  subst hq
  intro p e s m args below meth c H locs ls hC hR hS hL
  exact lv_sipush hC.1 hC.2.1 hd hv (k p e s m args below meth c H locs ls hC hR hS hL)
theorem g_ldc2 {i : Nat} {x : Int64} (hd : decode M.1 pc = .ok (.ldc2_w i, 3)) (hw : Cond.constantLong M.2.1.cls i x ∈ gj_w) (hq : pc + 3 = q) (k : gj_G X d M Q lim σ v kc ks q L (.long x :: st)) : gj_G X d M Q lim σ v kc ks pc L st := by
  subst hq
  intro p e s m args below meth c H locs ls hC hR hS hL
  exact lv_ldc2 hC.1 hC.2.1 hC.2.2.2.2.2.1 (hC.2.2.2.2.2.2.1 _ hw) hd (k p e s m args below meth c H locs ls hC hR hS hL)
theorem g_iadd {x y : Int32} (hd : decode M.1 pc = .ok (.iadd, 1)) (hq : pc + 1 = q) (k : gj_G X d M Q lim σ v kc ks q L (.int (x + y) :: st)) : gj_G X d M Q lim σ v kc ks pc L (.int y :: .int x :: st) := by
  subst hq
  intro p e s m args below meth c H locs ls hC hR hS hL
  exact lv_iadd hC.1 hC.2.1 hd (k p e s m args below meth c H locs ls hC hR hS hL)
theorem g_isub {x y : Int32} (hd : decode M.1 pc = .ok (.isub, 1)) (hq : pc + 1 = q) (k : gj_G X d M Q lim σ v kc ks q L (.int (x - y) :: st)) : gj_G X d M Q lim σ v kc ks pc L (.int y :: .int x :: st) := by
  subst hq
  intro p e s m args below meth c H locs ls hC hR hS hL
  exact lv_isub hC.1 hC.2.1 hd (k p e s m args below meth c H locs ls hC hR hS hL)
theorem g_imul {x y : Int32} (hd : decode M.1 pc = .ok (.imul, 1)) (hq : pc + 1 = q) (k : gj_G X d M Q lim σ v kc ks q L (.int (x * y) :: st)) : gj_G X d M Q lim σ v kc ks pc L (.int y :: .int x :: st) := by
  subst hq
  intro p e s m args below meth c H locs ls hC hR hS hL
  exact lv_imul hC.1 hC.2.1 hd (k p e s m args below meth c H locs ls hC hR hS hL)
theorem g_irem {x y : Int32} (hd : decode M.1 pc = .ok (.irem, 1)) (hy : ¬ y = 0) (hq : pc + 1 = q) (k : gj_G X d M Q lim σ v kc ks q L (.int (x - x / y * y) :: st)) : gj_G X d M Q lim σ v kc ks pc L (.int y :: .int x :: st) := by
  subst hq
  intro p e s m args below meth c H locs ls hC hR hS hL
  exact lv_irem hC.1 hC.2.1 hd hy (k p e s m args below meth c H locs ls hC hR hS hL)
theorem g_iand {x y : Int32} (hd : decode M.1 pc = .ok (.iand, 1)) (hq : pc + 1 = q) (k : gj_G X d M Q lim σ v kc ks q L (.int (x &&& y) :: st)) : gj_G X d M Q lim σ v kc ks pc L (.int y :: .int x :: st) := by
  subst hq
  intro p e s m args below meth c H locs ls hC hR hS hL
  exact lv_iand hC.1 hC.2.1 hd (k p e s m args below meth c H locs ls hC hR hS hL)
theorem g_ior {x y : Int32} (hd : decode M.1 pc = .ok (.ior, 1)) (hq : pc + 1 = q) (k : gj_G X d M Q lim σ v kc ks q L (.int (x ||| y) :: st)) : gj_G X d M Q lim σ v kc ks pc L (.int y :: .int x :: st) := by
  subst hq
  intro p e s m args below meth c H locs ls hC hR hS hL
  exact lv_ior hC.1 hC.2.1 hd (k p e s m args below meth c H locs ls hC hR hS hL)
theorem g_ishl {x y : Int32} (hd : decode M.1 pc = .ok (.ishl, 1)) (hq : pc + 1 = q) (k : gj_G X d M Q lim σ v kc ks q L (.int (x <<< (y &&& 31)) :: st)) : gj_G X d M Q lim σ v kc ks pc L (.int y :: .int x :: st) := by
  subst hq
  intro p e s m args below meth c H locs ls hC hR hS hL
  exact lv_ishl hC.1 hC.2.1 hd (k p e s m args below meth c H locs ls hC hR hS hL)
theorem g_ladd {x y : Int64} (hd : decode M.1 pc = .ok (.ladd, 1)) (hq : pc + 1 = q) (k : gj_G X d M Q lim σ v kc ks q L (.long (x + y) :: st)) : gj_G X d M Q lim σ v kc ks pc L (.long y :: .long x :: st) := by
  subst hq
  intro p e s m args below meth c H locs ls hC hR hS hL
  exact lv_ladd hC.1 hC.2.1 hd (k p e s m args below meth c H locs ls hC hR hS hL)
theorem g_lmul {x y : Int64} (hd : decode M.1 pc = .ok (.lmul, 1)) (hq : pc + 1 = q) (k : gj_G X d M Q lim σ v kc ks q L (.long (x * y) :: st)) : gj_G X d M Q lim σ v kc ks pc L (.long y :: .long x :: st) := by
  subst hq
  intro p e s m args below meth c H locs ls hC hR hS hL
  exact lv_lmul hC.1 hC.2.1 hd (k p e s m args below meth c H locs ls hC hR hS hL)
theorem g_i2l {x : Int32} (hd : decode M.1 pc = .ok (.i2l, 1)) (hq : pc + 1 = q) (k : gj_G X d M Q lim σ v kc ks q L (.long x.toInt64 :: st)) : gj_G X d M Q lim σ v kc ks pc L (.int x :: st) := by
  subst hq
  intro p e s m args below meth c H locs ls hC hR hS hL
  exact lv_i2l hC.1 hC.2.1 hd rfl (k p e s m args below meth c H locs ls hC hR hS hL)
theorem g_dup {x : Value} (hd : decode M.1 pc = .ok (.dup, 1)) (hc : x.category = 1) (hq : pc + 1 = q) (k : gj_G X d M Q lim σ v kc ks q L (x :: x :: st)) : gj_G X d M Q lim σ v kc ks pc L (x :: st) := by
  subst hq
  intro p e s m args below meth c H locs ls hC hR hS hL
  exact lv_dup hC.1 hC.2.1 hd hc (k p e s m args below meth c H locs ls hC hR hS hL)
theorem g_dup2 {x y : Value} (hd : decode M.1 pc = .ok (.dup2, 1)) (hc : x.category = 1) (hc2 : y.category = 1) (hq : pc + 1 = q) (k : gj_G X d M Q lim σ v kc ks q L (x :: y :: x :: y :: st)) : gj_G X d M Q lim σ v kc ks pc L (x :: y :: st) := by
  subst hq
  intro p e s m args below meth c H locs ls hC hR hS hL
  exact lv_dup2_11 hC.1 hC.2.1 hd hc hc2 (k p e s m args below meth c H locs ls hC hR hS hL)
theorem g_pop {x : Value} (hd : decode M.1 pc = .ok (.pop, 1)) (hc : x.category = 1) (hq : pc + 1 = q) (k : gj_G X d M Q lim σ v kc ks q L st) : gj_G X d M Q lim σ v kc ks pc L (x :: st) := by
  subst hq
  intro p e s m args below meth c H locs ls hC hR hS hL
  exact lv_pop hC.1 hC.2.1 hd hc (k p e s m args below meth c H locs ls hC hR hS hL)
theorem g_goto {o : Int} (hd : decode M.1 pc = .ok (.goto o, 3)) (hq : (pc : Int) + o = (q : Int)) (k : gj_G X d M Q lim σ v kc ks q L st) : gj_G X d M Q lim σ v kc ks pc L st := by
  intro p e s m args below meth c H locs ls hC hR hS hL
  exact lv_goto hC.1 hC.2.1 hd hq (k p e s m args below meth c H locs ls hC hR hS hL)
variable {x y : Int32} {o : Int} {t : Nat}
theorem g_ifeq (hd : decode M.1 pc = .ok (.ifCond .eq o, 3)) (ht : (pc : Int) + o = (t : Int)) (hq : pc + 3 = q) (kt : x = 0 → gj_G X d M Q lim σ v kc ks t L st) (kf : ¬ x = 0 → gj_G X d M Q lim σ v kc ks q L st) : gj_G X d M Q lim σ v kc ks pc L (.int x :: st) := by
  subst hq
  intro p e s m args below meth c H locs ls hC hR hS hL
  exact lv_if_eq hC.1 hC.2.1 hd ht (fun h => kt h p e s m args below meth c H locs ls hC hR hS hL) (fun h => kf h p e s m args below meth c H locs ls hC hR hS hL)
theorem g_ifne (hd : decode M.1 pc = .ok (.ifCond .ne o, 3)) (ht : (pc : Int) + o = (t : Int)) (hq : pc + 3 = q) (kt : ¬ x = 0 → gj_G X d M Q lim σ v kc ks t L st) (kf : x = 0 → gj_G X d M Q lim σ v kc ks q L st) : gj_G X d M Q lim σ v kc ks pc L (.int x :: st) := by
  subst hq
  intro p e s m args below meth c H locs ls hC hR hS hL
  exact lv_if_ne hC.1 hC.2.1 hd ht (fun h => kt (by simpa using h) p e s m args below meth c H locs ls hC hR hS hL) (fun h => kf (by simpa using h) p e s m args below meth c H locs ls hC hR hS hL)
theorem g_iflt (hd : decode M.1 pc = .ok (.ifCond .lt o, 3)) (ht : (pc : Int) + o = (t : Int)) (hq : pc + 3 = q) (kt : x < 0 → gj_G X d M Q lim σ v kc ks t L st) (kf : ¬ x < 0 → gj_G X d M Q lim σ v kc ks q L st) : gj_G X d M Q lim σ v kc ks pc L (.int x :: st) := by
  subst hq
  intro p e s m args below meth c H locs ls hC hR hS hL
  exact lv_if_lt hC.1 hC.2.1 hd ht (fun h => kt h p e s m args below meth c H locs ls hC hR hS hL) (fun h => kf h p e s m args below meth c H locs ls hC hR hS hL)
theorem g_ifge (hd : decode M.1 pc = .ok (.ifCond .ge o, 3)) (ht : (pc : Int) + o = (t : Int)) (hq : pc + 3 = q) (kt : 0 ≤ x → gj_G X d M Q lim σ v kc ks t L st) (kf : ¬ 0 ≤ x → gj_G X d M Q lim σ v kc ks q L st) : gj_G X d M Q lim σ v kc ks pc L (.int x :: st) := by
  subst hq
  intro p e s m args below meth c H locs ls hC hR hS hL
  exact lv_if_ge hC.1 hC.2.1 hd ht (fun h => kt h p e s m args below meth c H locs ls hC hR hS hL) (fun h => kf h p e s m args below meth c H locs ls hC hR hS hL)
theorem g_ifgt (hd : decode M.1 pc = .ok (.ifCond .gt o, 3)) (ht : (pc : Int) + o = (t : Int)) (hq : pc + 3 = q) (kt : 0 < x → gj_G X d M Q lim σ v kc ks t L st) (kf : ¬ 0 < x → gj_G X d M Q lim σ v kc ks q L st) : gj_G X d M Q lim σ v kc ks pc L (.int x :: st) := by
  subst hq
  intro p e s m args below meth c H locs ls hC hR hS hL
  exact lv_if_gt hC.1 hC.2.1 hd ht (fun h => kt h p e s m args below meth c H locs ls hC hR hS hL) (fun h => kf h p e s m args below meth c H locs ls hC hR hS hL)
theorem g_ifle (hd : decode M.1 pc = .ok (.ifCond .le o, 3)) (ht : (pc : Int) + o = (t : Int)) (hq : pc + 3 = q) (kt : x ≤ 0 → gj_G X d M Q lim σ v kc ks t L st) (kf : ¬ x ≤ 0 → gj_G X d M Q lim σ v kc ks q L st) : gj_G X d M Q lim σ v kc ks pc L (.int x :: st) := by
  subst hq
  intro p e s m args below meth c H locs ls hC hR hS hL
  exact lv_if_le hC.1 hC.2.1 hd ht (fun h => kt h p e s m args below meth c H locs ls hC hR hS hL) (fun h => kf h p e s m args below meth c H locs ls hC hR hS hL)
theorem g_icmpeq (hd : decode M.1 pc = .ok (.if_icmp .eq o, 3)) (ht : (pc : Int) + o = (t : Int)) (hq : pc + 3 = q) (kt : x = y → gj_G X d M Q lim σ v kc ks t L st) (kf : ¬ x = y → gj_G X d M Q lim σ v kc ks q L st) : gj_G X d M Q lim σ v kc ks pc L (.int y :: .int x :: st) := by
  subst hq
  intro p e s m args below meth c H locs ls hC hR hS hL
  exact lv_icmp_eq hC.1 hC.2.1 hd ht (fun h => kt h p e s m args below meth c H locs ls hC hR hS hL) (fun h => kf h p e s m args below meth c H locs ls hC hR hS hL)
theorem g_icmpne (hd : decode M.1 pc = .ok (.if_icmp .ne o, 3)) (ht : (pc : Int) + o = (t : Int)) (hq : pc + 3 = q) (kt : ¬ x = y → gj_G X d M Q lim σ v kc ks t L st) (kf : x = y → gj_G X d M Q lim σ v kc ks q L st) : gj_G X d M Q lim σ v kc ks pc L (.int y :: .int x :: st) := by
  subst hq
  intro p e s m args below meth c H locs ls hC hR hS hL
  exact lv_icmp_ne hC.1 hC.2.1 hd ht (fun h => kt (by simpa using h) p e s m args below meth c H locs ls hC hR hS hL) (fun h => kf (by simpa using h) p e s m args below meth c H locs ls hC hR hS hL)
theorem g_icmplt (hd : decode M.1 pc = .ok (.if_icmp .lt o, 3)) (ht : (pc : Int) + o = (t : Int)) (hq : pc + 3 = q) (kt : x < y → gj_G X d M Q lim σ v kc ks t L st) (kf : ¬ x < y → gj_G X d M Q lim σ v kc ks q L st) : gj_G X d M Q lim σ v kc ks pc L (.int y :: .int x :: st) := by
  subst hq
  intro p e s m args below meth c H locs ls hC hR hS hL
  exact lv_icmp_lt hC.1 hC.2.1 hd ht (fun h => kt h p e s m args below meth c H locs ls hC hR hS hL) (fun h => kf h p e s m args below meth c H locs ls hC hR hS hL)
theorem g_icmpge (hd : decode M.1 pc = .ok (.if_icmp .ge o, 3)) (ht : (pc : Int) + o = (t : Int)) (hq : pc + 3 = q) (kt : y ≤ x → gj_G X d M Q lim σ v kc ks t L st) (kf : ¬ y ≤ x → gj_G X d M Q lim σ v kc ks q L st) : gj_G X d M Q lim σ v kc ks pc L (.int y :: .int x :: st) := by
  subst hq
  intro p e s m args below meth c H locs ls hC hR hS hL
  exact lv_icmp_ge hC.1 hC.2.1 hd ht (fun h => kt h p e s m args below meth c H locs ls hC hR hS hL) (fun h => kf h p e s m args below meth c H locs ls hC hR hS hL)
theorem g_icmpgt (hd : decode M.1 pc = .ok (.if_icmp .gt o, 3)) (ht : (pc : Int) + o = (t : Int)) (hq : pc + 3 = q) (kt : y < x → gj_G X d M Q lim σ v kc ks t L st) (kf : ¬ y < x → gj_G X d M Q lim σ v kc ks q L st) : gj_G X d M Q lim σ v kc ks pc L (.int y :: .int x :: st) := by
  subst hq
  intro p e s m args below meth c H locs ls hC hR hS hL
  exact lv_icmp_gt hC.1 hC.2.1 hd ht (fun h => kt h p e s m args below meth c H locs ls hC hR hS hL) (fun h => kf h p e s m args below meth c H locs ls hC hR hS hL)
theorem g_icmple (hd : decode M.1 pc = .ok (.if_icmp .le o, 3)) (ht : (pc : Int) + o = (t : Int)) (hq : pc + 3 = q) (kt : x ≤ y → gj_G X d M Q lim σ v kc ks t L st) (kf : ¬ x ≤ y → gj_G X d M Q lim σ v kc ks q L st) : gj_G X d M Q lim σ v kc ks pc L (.int y :: .int x :: st) := by
  subst hq
  intro p e s m args below meth c H locs ls hC hR hS hL
  exact lv_icmp_le hC.1 hC.2.1 hd ht (fun h => kt h p e s m args below meth c H locs ls hC hR hS hL) (fun h => kf h p e s m args below meth c H locs ls hC hR hS hL)
theorem g_tableIn {dflt lo hi : Int} {offs : Array Int} {len : Nat} (hd : decode M.1 pc = .ok (.tableswitch dflt lo hi offs, len)) (h1 : ¬ x.toInt < lo) (h2 : ¬ hi < x.toInt) (ho : offs[(x.toInt - lo).toNat]? = some o) (ht : (pc : Int) + o = (t : Int)) (k : gj_G X d M Q lim σ v kc ks t L st) : gj_G X d M Q lim σ v kc ks pc L (.int x :: st) := by
  intro p e s m args below meth c H locs ls hC hR hS hL
  exact lv_tableIn hC.1 hC.2.1 hd h1 h2 ho ht (k p e s m args below meth c H locs ls hC hR hS hL)
theorem g_tableOut {dflt lo hi : Int} {offs : Array Int} {len : Nat} (hd : decode M.1 pc = .ok (.tableswitch dflt lo hi offs, len)) (h1 : x.toInt < lo ∨ hi < x.toInt) (ht : (pc : Int) + dflt = (t : Int)) (k : gj_G X d M Q lim σ v kc ks t L st) : gj_G X d M Q lim σ v kc ks pc L (.int x :: st) := by
  intro p e s m args below meth c H locs ls hC hR hS hL
  exact lv_tableOut hC.1 hC.2.1 hd h1 ht (k p e s m args below meth c H locs ls hC hR hS hL)
theorem g_lookup {dflt : Int} {ps : Array (Int × Int)} {len : Nat} (hd : decode M.1 pc = .ok (.lookupswitch dflt ps, len)) (hp : (ps.toList.zip (ps.toList.drop 1)).all (fun (a, next) => a.1 < next.1) = true) (ho : Op.lookupswitch.offset ps.toList dflt x.toInt = o) (ht : (pc : Int) + o = (t : Int)) (k : gj_G X d M Q lim σ v kc ks t L st) : gj_G X d M Q lim σ v kc ks pc L (.int x :: st) := by
  intro p e s m args below meth c H locs ls hC hR hS hL
  exact lv_lookup hC.1 hC.2.1 hd hp ho ht (k p e s m args below meth c H locs ls hC hR hS hL)
end GJ
