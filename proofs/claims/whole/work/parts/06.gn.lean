/-! ===== what a constructor does: new cells, references put ===== -/
theorem gj_dom_push {b lim : Nat} (h : b ≤ lim) : gj_dom b (lim + 1) = gj_dom b lim ++ [lim] := by
  unfold gj_dom
  rw [show lim + 1 - b = (lim - b) + 1 by omega, List.range'_concat]
  simp
  omega
theorem gj_rep.push {X : gj_X} {lim : Nat} {σ : gj_H} {v : gj_V} {H H1 : Heap} (h : gj_rep X lim σ v H) {sh : gj_S} {f : Nat → Int32} (hat : va_at X.2.1 vwCl (lim, gj_e X.2.2.1 (some sh) f) H1) (hz : H1.size = lim + 1) (oq : ∀ q : Nat, q < lim → H1[q]? = H[q]?) : gj_rep X (lim + 1) (va_up σ lim (some sh)) (gj_up v lim f) H1 := by
  have hnl : lim ∉ gj_dom X.2.2.2 lim := by rw [List.mem_range'_1]; omega
  have e1 : ∀ a, gj_e X.2.2.1 (va_up σ lim (some sh) a) (gj_up v lim f a) = va_up (fun a => gj_e X.2.2.1 (σ a) (v a)) lim (gj_e X.2.2.1 (some sh) f) a := by
    intro a
    by_cases ha : a = lim
    · subst ha
      simp only [gj_up, va_up_self]
    · simp only [gj_up, va_up_ne _ _ ha]
  have e : [] ++ gj_pl X (lim + 1) (va_up σ lim (some sh)) (gj_up v lim f) = ([] ++ gj_pl X lim σ v) ++ [(lim, gj_e X.2.2.1 (some sh) f)] := by
    simp only [gj_pl, List.nil_append]
    rw [va_pl_push hnl, gj_dom_push h.1]
    exact va_pl_congr e1
  have hk : ∀ (k : Nat) (x : Nat × va_E), ([] ++ gj_pl X lim σ v)[k]? = some x → H1[x.1]? = H[x.1]? := fun k x hx => oq x.1 (by rw [← h.2.1]; exact (h.2.2.2.1 k x hx).lt)
  refine ⟨Nat.le_succ_of_le h.1, hz, fun a ha => ?_, ?_, ?_⟩
  · by_cases hal : a = lim
    · subst hal
      exact ⟨h.1, Nat.lt_succ_self _⟩
    · rw [va_up_ne _ _ hal] at ha
      have := h.2.2.1 a ha
      omega
  · rw [e]
    refine (h.2.2.2.1.kept hk).app (fun k x hx => ?_)
    have hz : k < 1 := (List.getElem?_eq_some_iff.mp hx).1
    rw [show k = 0 by omega] at hx
    cases hx
    exact hat
  · rw [e]
    exact h.2.2.2.2.push h.2.2.2.1 h.2.1.symm h.1
section GN
variable {X : gj_X} {d d' : Nat} {M N : gj_M} {Q Q' : gj_Q} {lim : Nat} {σ : gj_H} {v : gj_V} {kc ks pc q index n b ci : Nat} {L L' : List (Option Value)} {st st0 As rest : List Value} {t : List (Option (Option Nat))}
/-- new C: the class, its slots, its blank template -/
def gj_Nk (own : String) (index ci : Nat) (N : Nat) (t : List (Option (Option Nat))) : Prop :=
  ∃ (C : String) (T : u_T) (ty0 : Nat → FieldType), vwCl[ci]? = some (C, T, N) ∧ (∀ w ∈ u_ws C T N, w ∈ gj_w) ∧ (∀ k, k < N → parseFieldDescriptor (T k).2.2.1 = some (ty0 k)) ∧ Cond.classLink own index C ∈ gj_w ∧ Cond.instantiable C N ∈ gj_w ∧ Cond.initialized C ∈ gj_w ∧ (∀ j, j < N → defaultValue (ty0 j) = vp_V (gj_fs t (fun _ => 0) 0) j)
theorem g_new {n : Nat} (hk : gj_Nk M.2.1.cls index ci n t) (hkc : kc + 1 ≤ M.2.2.2.2.1) (hks : ks + n ≤ M.2.2.2.2.2) (hd : decode M.1 pc = .ok (.new index, 3)) (hq : pc + 3 = q)
    (kk : gj_G X d M Q (lim + 1) (va_up σ lim (some (.inl (ci, t)))) (gj_up v lim (fun _ => 0)) (kc + 1) (ks + n) q L (.ref lim :: st)) : gj_G X d M Q lim σ v kc ks pc L st := by
  subst hq
  intro p e s m args below meth c H locs ls hC hR hS hL
  obtain ⟨C, T, ty0, h1, h2, h3, h4, h5, h6, h7⟩ := hk
  have hts := hC.2.2.2.2.2.2.1
  have hKn := hC.2.2.2.2.2.2.2.1.1.1 ci _ h1
  refine W.newcK hC.1 hC.2.1 hC.2.2.2.2.2.1 (hts _ h4) (hts _ h5) (hts _ h6) rfl hd hkc hks hKn.2.1 rfl fun H1 kC hkC e1 z1 o1 => ?_
  have hsz := hR.2.1
  rw [hsz] at e1 z1 o1 ⊢
  refine kk p e s m args below meth c H1 locs ls hC (hR.push (sh := .inl (ci, t)) (f := fun _ => 0) ⟨_, h1, (u_born ty0 hts h2 hKn hkC e1 h3).to h7⟩ z1 o1) ⟨Nat.le_trans hS.1 (by omega), fun x g1 g2 => (o1 x (by have := hS.1; omega)).trans (hS.2.1 x g1 g2), hS.2.2⟩ hL
theorem g_newi {i : Int32} {n : Nat} (hw : Cond.arrayClass .int ∈ gj_w) (hi : i = nI n) (hn : n < 100000) (hkc : kc + 1 ≤ M.2.2.2.2.1) (hks : ks + n ≤ M.2.2.2.2.2) (hd : decode M.1 pc = .ok (.newarray .int, 2)) (hq : pc + 2 = q)
    (kk : gj_G X d M Q (lim + 1) (va_up σ lim (some (.inr (.inl n)))) (gj_up v lim (fun _ => 0)) (kc + 1) (ks + n) q L (.ref lim :: st)) : gj_G X d M Q lim σ v kc ks pc L (.int i :: st) := by
  subst hq; subst hi
  intro p e s m args below meth c H locs ls hC hR hS hL
  have hts := hC.2.2.2.2.2.2.1
  have hc : (nI n).toNatClampNeg = n := nI_clamp (by omega)
  refine va_newaK hC.1 hC.2.1 (atype := .int) (hts _ hw) rfl hd rfl (nI_pos (by omega)) hc (by show n * 4 ≤ _; omega) hkc hks rfl fun H1 cA e1 z1 o1 hAr hNm => ?_
  have hsz := hR.2.1
  rw [hsz] at e1 z1 o1 ⊢
  have hcA : cA = X.2.2.1 0 := by
    have hra : s.vm.findClass ("[" ++ FieldType.int.toString) = some (X.2.2.1 0) := (hC.2.2.2.2.2.2.2.1.1.2 0 (X.2.2.1 0, .int) rfl).2
    exact Option.some.inj (hNm.symm.trans hra)
  subst hcA
  refine kk p e s m args below meth c H1 locs ls hC (hR.push (sh := .inr (.inl n)) (f := fun _ => 0) ?_ z1 o1) ⟨Nat.le_trans hS.1 (by omega), fun x g1 g2 => (o1 x (by have := hS.1; omega)).trans (hS.2.1 x g1 g2), hS.2.2⟩ hL
  show H1[lim]? = some (vp_cell (X.2.2.1 0) (n, .inl (fun _ => 0)))
  rw [e1, vp_cell_i]
  rfl
theorem g_anew {i : Int32} {n k0 : Nat} {C : String} (hw : Cond.classLink M.2.1.cls index C ∈ gj_w) (hao : C ∈ gj_ao) (hty : (gj_tys X.2.2.1)[k0]? = some (X.2.2.1 k0, .object C)) (hi : i = nI n) (hn : n < 100000) (hkc : kc + 1 ≤ M.2.2.2.2.1) (hks : ks + n ≤ M.2.2.2.2.2) (hd : decode M.1 pc = .ok (.anewarray index, 3)) (hq : pc + 3 = q)
    (kk : gj_G X d M Q (lim + 1) (va_up σ lim (some (.inr (.inr (k0, List.replicate n none))))) (gj_up v lim (fun _ => 0)) (kc + 1) (ks + n) q L (.ref lim :: st)) : gj_G X d M Q lim σ v kc ks pc L (.int i :: st) := by
  subst hq; subst hi
  intro p e s m args below meth c H locs ls hC hR hS hL
  have hts := hC.2.2.2.2.2.2.1
  have hc : (nI n).toNatClampNeg = n := nI_clamp (by omega)
  refine W.anew hC.1 hC.2.1 hC.2.2.2.2.2.1 (hts _ hw) (va_AO.use (hC.2.2.2.2.2.2.2.1.2.2 C hao)) rfl hd rfl (nI_pos (by omega)) (by rw [hc]; omega) hkc (by rw [hc]; exact hks) fun cA kA comp f1 f2 f3 f4 => ?_
  have hsz := hR.2.1
  have hcA : cA = X.2.2.1 k0 := by
    obtain ⟨-, -, -, -, -, h4⟩ := (hC.2.2.2.2.2.2.2.1.1.2 k0 (X.2.2.1 k0, .object C) hty).2
    exact Option.some.inj (f1.symm.trans h4)
  subst hcA
  rw [hc]
  generalize hH1 : H.push ({ cls := X.2.2.1 k0, slots := Array.replicate n .null, vm := .none } : Cell) = H1
  have z1 : H1.size = lim + 1 := by rw [← hH1, Array.size_push, hsz]
  have e1 : H1[lim]? = some (arrV (X.2.2.1 k0) n (fun _ => .null)) := by rw [← hH1, ← hsz, Array.getElem?_push_size, ← arrV_new]
  have o1 : ∀ q : Nat, q < lim → H1[q]? = H[q]? := fun q hq => by rw [← hH1, Array.getElem?_push, if_neg (by omega)]
  rw [hsz]
  refine kk p e s m args below meth c H1 locs ls hC (hR.push (sh := .inr (.inr (k0, List.replicate n none))) (f := fun _ => 0) ?_ z1 o1) ⟨Nat.le_trans hS.1 (by omega), fun x g1 g2 => (o1 x (by have := hS.1; omega)).trans (hS.2.1 x g1 g2), hS.2.2⟩ hL
  show H1[lim]? = some (vp_cell (X.2.2.1 k0) ((List.replicate n (none : Option Nat)).length, .inr (.inr (.inr (.inr (fun i => (List.replicate n (none : Option Nat)).getD i none))))))
  rw [e1, vp_cell_q, List.length_replicate]
  congr 2
  funext j
  have : (List.replicate n (none : Option Nat)).getD j none = none := by
    rw [List.getD_eq_getElem?_getD]
    by_cases hj : j < n
    · rw [List.getElem?_replicate, if_pos hj]; rfl
    · rw [List.getElem?_replicate, if_neg hj]; rfl
  rw [this]
  rfl
/-- a final reference field, in its constructor -/
theorem g_putR {k a r : Nat} {ty : FieldType} (hf : gj_Fk M.2.1.cls index ci k ty true) (hci : (vwCl[ci]?).map (fun z => z.1) = some M.2.1.cls) (hnm : M.2.1.name = "<init>") (hs : σ a = some (.inl (ci, t))) (hk : k < t.length) (hn : narrow ty (.ref r) = .ref r) (hfit : fits ty (.ref r) = true) (hd : decode M.1 pc = .ok (.putfield index, 3)) (hq : pc + 3 = q)
    (kk : gj_G X d M Q lim (va_up σ a (some (.inl (ci, t.set k (some (some r)))))) v kc ks q L st) : gj_G X d M Q lim σ v kc ks pc L (.ref r :: .ref a :: st) := by
  subst hq
  intro p e s m args below meth c H locs ls hC hR hS hL
  obtain ⟨C, T, N, ty0, h1, h2, h3, h4, h5, h6, h7, h8, h9⟩ := hf
  have hCo : C = M.2.1.cls := by rw [h1] at hci; exact Option.some.inj hci
  have hts := hC.2.2.2.2.2.2.1
  have hown := hC.2.2.2.2.2.1
  have hK := hC.2.2.2.2.2.2.2.1.1
  have hap := va_apart (own := M.2.1.cls) hts h2 ty0 h3 h4 hK h1
  obtain ⟨r', g1, cell, q1, q2, q3, q4⟩ := hR.one hs 0 _ rfl
  have hr : r' = (C, T, N) := Option.some.inj (g1.symm.trans h1)
  subst hr
  obtain ⟨hSl, hfc, kC, hkC, hkind⟩ := hK.1 ci _ h1
  obtain ⟨cf, kf, fi, f, hi, hsl⟩ := hSl k h5
  have hlay := hts _ (h2 _ (u_in_lay h5))
  unfold u_lay at hlay
  rw [if_pos h7] at hlay
  have hst := (u_facts hfc hkC (u_lays hts h2 h5) hi).1
  have hcf : m.cls = cf := by
    obtain ⟨_, _, c', _, _, _, -, -, hf', -, -, -, hown2, -⟩ := Cond.laysFinal_spec hlay
    have e1 : c' = cf := by have := hi.symm.trans hf'; simp at this; exact this.1.symm
    rw [h8, hCo] at hown2
    rw [← e1]; exact Option.some.inj (hown.symm.trans hown2)
  have h10 := u_fits hfc hkC hkind (Or.inr hlay) hi (by rw [h3 k h5, h6]) hn hfit
  have hlen : k < (gj_fs t (v a) 0).length := by rw [gj_fs_len]; exact hk
  have fin : ∀ H' : Heap, H'[a]? = some (cell.setSlot f.slot (.ref r)) → H'.size = H.size → (∀ q, q ≠ a → H'[q]? = H[q]?) → W p X.1 e (gj_R d M) s m args below meth c H' (locs ++ [⟨a, f.slot⟩]) kc ks (MQ below (gj_F X Q) args s M.2.2.2.2.1 M.2.2.2.2.2 (gj_A X)) (F0 m (pc + 3) ls st) := by
    intro H' e1 e2 e3
    rw [hsl] at e1 ⊢
    refine kk p e s m args below meth c H' _ ls hC (hR.puts hs (sh' := .inl (ci, t.set k (some (some r)))) ?_ e2 e3) (hS.put e2 e3 (hR.A hs)) hL
    show va_at X.2.1 vwCl (a, .inr (ci, gj_fs (t.set k (some (some r))) (v a) 0)) H'
    rw [← gj_fs_setr t (v a) k (some r) hk]
    exact ⟨_, h1, t_OB.to (V := updV (vp_V (gj_fs t (v a) 0)) k (.ref r)) ⟨_, e1, q2, q3, t_set q4 hap h5 (.ref r)⟩ (fun j _ => vp_updV_set hlen (.ref r) j)⟩
  rcases h9 with h9 | ⟨host, h9⟩
  · exact W.putFinK hC.1 hC.2.1 hown (hts _ h9) hi hst hcf (hC.2.2.2.2.2.2.2.2.2.trans hnm) (by rw [q2]; exact h10) q1 q3 (by rw [hsl]; exact k2_hasslot (q4 k h5)) rfl rfl hd fin
  · refine va_Wputf hC.1 hC.2.1 hown (va_Nw.use rfl (hC.2.2.2.2.2.2.2.1.2.1 _ h9)) hi hst (Or.inr ⟨hcf, hC.2.2.2.2.2.2.2.2.2.trans hnm⟩) q1 (by rw [q3]; exact fun h => by cases h) (by rw [hsl]; exact k2_hasslot (q4 k h5)) h10.1 (by rw [q2, q3]; exact h10.2) rfl rfl hd ?_
    have ha : a < H.size := (Array.getElem?_eq_some_iff.mp q1).1
    refine fin _ ?_ ?_ ?_
    · simp [Array.getElem?_setIfInBounds, ha]
    · simp
    · intro z hz
      simp [Array.getElem?_setIfInBounds, Ne.symm hz]
/-- an array of references is written -/
theorem g_aast {a k r k0 : Nat} {i : Int32} {A : List (Option Nat)} {z : vw_C} (hs : σ a = some (.inr (.inr (k0, A)))) (hty : (gj_tys X.2.2.1)[k0]? = some (X.2.2.1 k0, .object z.1)) (hi : i = nI k) (hk : k < A.length) (hn : A.length < 2147483648) (hsr : σ r = some (.inl (ci, t))) (hz : vwCl[ci]? = some z) (hd : decode M.1 pc = .ok (.aastore, 1)) (hq : pc + 1 = q)
    (kk : gj_G X d M Q lim (va_up σ a (some (.inr (.inr (k0, A.set k (some r)))))) v kc ks q L st) : gj_G X d M Q lim σ v kc ks pc L (.ref r :: .int i :: .ref a :: st) := by
  subst hq; subst hi
  intro p e s m args below meth c H locs ls hC hR hS hL
  have hc : (nI k).toNatClampNeg = k := nI_clamp (Nat.lt_trans hk hn)
  have hK := hC.2.2.2.2.2.2.2.1.1
  have hP0 : H[a]? = some (vp_cell (X.2.2.1 k0) (A.length, .inr (.inr (.inr (.inr (fun i => A.getD i none)))))) := hR.one hs 0 _ rfl
  obtain ⟨r', hr', cellV, g1, g2, g3, -⟩ := hR.one hsr 0 _ rfl
  have hcls := (hK.1 ci z hz).2
  obtain ⟨kA, comp, k1, k2, k3, -⟩ := (hK.2 k0 (X.2.2.1 k0, .object z.1) hty).2
  have hcomp : comp = X.2.1.1 ci := Option.some.inj (k3.symm.trans hcls.1)
  subst hcomp
  obtain ⟨kC, hkC, -⟩ := hcls.2
  refine W.aast hC.1 hC.2.1 hP0 (fun q h => by cases h) (fun h => by cases h) k1 k2 rfl hkC ⟨nI_pos (by omega), by show _ < (arrV _ _ _).slots.size; rw [arrV_size, hc]; exact hk⟩ g1 (fun q h => by rw [g3] at h; cases h) (by rw [g2]; exact hkC) (by rw [g2]; exact va_assign hcls) rfl rfl hd fun H1 e1 z1 oq => ?_
  refine kk p e s m args below meth c H1 _ ls hC (hR.puts hs (sh' := .inr (.inr (k0, A.set k (some r)))) ?_ z1 oq) (hS.put z1 oq (hR.A hs)) hL
  show H1[a]? = some (vp_cell (X.2.2.1 k0) ((A.set k (some r)).length, .inr (.inr (.inr (.inr (fun i => (A.set k (some r)).getD i none))))))
  rw [e1, hc, vp_cell_q, vp_cell_q, List.length_set, arrV_store]
  congr 2
  funext j
  by_cases hj : j = k
  · subst hj
    simp [updV, va_rf, hk]
  · simp [updV, hj, List.getD_eq_getElem?_getD, List.getElem?_set_ne (Ne.symm hj)]
def gj_Oi (own : String) (index : Nat) : Prop := Cond.methodLink own index objectInit ∈ gj_w ∧ Cond.instanceMethod objectInit ∈ gj_w ∧ Cond.code objectInit ⟨#[0xb1]⟩ 1 none ∈ gj_w
theorem g_oinit {a : Nat} (hk : gj_Oi M.2.1.cls index) (hrm : (st.map fun v => v.category).sum ≤ 8) (hd : decode M.1 pc = .ok (.invokespecial index, 3)) (hq : pc + 3 = q) (kk : gj_G X d M Q lim σ v kc ks q L st) : gj_G X d M Q lim σ v kc ks pc L (.ref a :: st) := by
  subst hq
  intro p e s m args below meth c H locs ls hC hR hS hL
  have hts := hC.2.2.2.2.2.2.1
  exact W.objInit hC.1 hC.2.1 hC.2.2.2.2.2.1 (hts _ hk.1) (hts _ hk.2.1) (hts _ hk.2.2) rfl (by show ls.size = _; rw [hL.1]; exact hC.2.2.1.symm) rfl hd (by simp only [gj_R]; omega) (by show 2 * 0 + _ + 12 ≤ _; simp only [gj_R]; omega) (kk p e s m args below meth c H locs ls hC hR hS hL)
end GN
