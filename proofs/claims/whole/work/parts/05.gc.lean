/-! ===== calls, the library's three, and what a constructor does ===== -/
def gj_Ck (own : String) (index : Nat) (N : gj_M) (n : Nat) : Prop :=
  (Cond.methodLink own index N.2.1 ∈ gj_w ∨ ∃ host, Cond.methodLinkNest own index N.2.1 host ∈ gj_nw) ∧ Cond.code N.2.1 N.1 N.2.2.1 N.2.2.2.1 ∈ gj_w ∧ Cond.initialized N.2.1.cls ∈ gj_w ∧ (N.2.1.cls ≠ "java/lang/invoke/MethodHandle" ∧ N.2.1.cls ≠ "java/lang/invoke/VarHandle") ∧ (parseMethodDescriptor N.2.1.desc).map (fun d => d.parameters.length) = some n ∧ N.2.2.1 ≤ 10
def gj_CkV (own : String) (index : Nat) (N : gj_M) (n : Nat) : Prop := gj_Ck own index N n ∧ Cond.instanceMethod N.2.1 ∈ gj_w ∧ Cond.selects N.2.1.cls N.2.1 N.2.1 ∈ gj_w
def gj_CkS (own : String) (index : Nat) (N : gj_M) (n : Nat) : Prop := gj_Ck own index N n ∧ Cond.static N.2.1 ∈ gj_w
def gj_CkI (own : String) (index : Nat) (N : gj_M) (n : Nat) : Prop := gj_Ck own index N n ∧ N.2.1.name = "<init>" ∧ Cond.instanceMethod N.2.1 ∈ gj_w ∧ N.2.2.2.1 = none
theorem gj_pay {N : gj_M} (hc : Cond.code N.2.1 N.1 N.2.2.1 N.2.2.2.1 ∈ gj_w) {args : Array Value} {s : State} (hts : ∀ w ∈ gj_w, w.before args s = true) : ∀ w ∈ gj_ws N, ∀ (a' : Array Value) (U : State), s.WarmedH U.vm → w.before a' U = true := by
  refine pay_in hts (fun w hw => ?_)
  rcases List.mem_cons.mp hw with rfl | hw
  · exact ⟨hc, good_of_word (List.mem_filter.mp hc).2⟩
  · exact ⟨hw, good_of_word (List.mem_filter.mp hw).2⟩
theorem gj_blind {X : gj_X} {as : List Value} {lim : Nat} {σ : gj_H} {v : gj_V} : FrameBlind (va_Pc as (fun U => gj_rep X lim σ v U.heap ∧ gj_K X U)) := by
  intro a U g mk h
  exact ⟨h.1, h.2.1, gj_K.same (s := U) rfl h.2.2⟩
section GC
variable {X : gj_X} {d d' : Nat} {M N : gj_M} {Q Q' : gj_Q} {lim : Nat} {σ : gj_H} {v : gj_V} {kc ks pc q index n b ci : Nat} {L L' : List (Option Value)} {st st0 As rest : List Value} {t : List (Option (Option Nat))}
/-- behind a call -/
theorem gj_back {p : Program} {e : Env} {s : State} {m : MethodId} {args : Array Value} {below : List Frame} {meth : Method} {c : Code} {H : Heap} {locs : List Loc} {ls : Array Slot} {a : Array Value}
    (hr : va_Run p X.1 e (gj_R d M) s m args below meth c H locs kc ks N.2.2.2.2.1 N.2.2.2.2.2 (F0 m pc ls st0) rest (gj_F X Q' a) (gj_A X)) (hC : gj_C X M p s m args meth c) (hS : va_S (gj_A X) s.heap H locs) (hL : lv_has ls M.2.2.1 (gj_L L))
    (kk : ∀ (r : Option Value) (lim' : Nat) (σ' : gj_H) (v' : gj_V), Q' r lim' σ' v' → gj_G X d M Q lim' σ' v' (kc + N.2.2.2.2.1) (ks + N.2.2.2.2.2) (pc + 3) L (r.toList ++ rest)) :
    W p X.1 e (gj_R d M) s m args below meth c H locs kc ks (MQ below (gj_F X Q) args s M.2.2.2.2.1 M.2.2.2.2.2 (gj_A X)) (F0 m pc ls st0) := by
  intro T hT Xs
  obtain ⟨w, st₀, t, T', LL, h0, X', hLL, e1, e2, ⟨⟨r, lim', σ', v', hw, hq', hrep⟩, hz, hkp⟩, stp⟩ := hr T hT Xs
  cases hw
  rw [h0] at hz hkp
  obtain ⟨t2, a1, b1⟩ := kk _ lim' σ' v' hq' p e s m args below meth c T'.heap (locs ++ LL) ls hC (by rw [e1]; exact hrep)
    ⟨Nat.le_trans hS.1 (by rw [e1]; exact hz), fun x g1 g2 => by rw [e1, hkp x (Nat.lt_of_lt_of_le g1 hS.1) g2]; exact hS.2.1 x g1 g2, fun x hx => by
      rcases List.mem_append.mp hx with h | h
      · exact hS.2.2 x h
      · exact hLL x h⟩ hL T' rfl X'
  exact ⟨t2, stp t2 a1, b1⟩
theorem gj_pre {s : State} {args : Array Value} {H : Heap} (hR : gj_rep X lim σ v H) (hK : gj_K X s) (as : List Value) : PreS s H (va_Pc as (fun U => gj_rep X lim σ v U.heap ∧ gj_K X U)) as :=
  ⟨gj_blind, fun U hU hW => ⟨rfl, by rw [hU]; exact hR, gj_K.warm hW hK⟩⟩
theorem gj_room (hN : N.2.2.1 ≤ 10) (hd' : d' < d) : (gj_R d' N).frames + 1 ≤ (gj_R d M).frames ∧ 8 + (N.2.2.1 + 11) + (gj_R d' N).locals ≤ (gj_R d M).locals := by
  simp only [gj_R]; omega
theorem g_callV (hk : gj_CkV M.2.1.cls index N n) (hs : σ b = some (.inl (ci, t))) (hcl : (vwCl[ci]?).map (fun z => z.1) = some N.2.1.cls) (hd' : d' < d) (hn : As.length = n) (hst : st0 = As.reverse ++ .ref b :: rest) (hrm : (rest.map fun v => v.category).sum ≤ 8) (hkc : kc + N.2.2.2.2.1 ≤ M.2.2.2.2.1) (hks : ks + N.2.2.2.2.2 ≤ M.2.2.2.2.2) (hd : decode M.1 pc = .ok (.invokevirtual index, 3)) (hq : pc + 3 = q)
    (hE : gj_E X d' N (.ref b :: As) lim σ v Q') (kk : ∀ (r : Option Value) (lim' : Nat) (σ' : gj_H) (v' : gj_V), Q' r lim' σ' v' → gj_G X d M Q lim' σ' v' (kc + N.2.2.2.2.1) (ks + N.2.2.2.2.2) q L (r.toList ++ rest)) : gj_G X d M Q lim σ v kc ks pc L st0 := by
  subst hq; subst hst
  intro p e s m args below meth c H locs ls hC hR hS hL
  obtain ⟨⟨hl, hc, hi, hy, hp, hN⟩, hin, hse⟩ := hk
  have hts := hC.2.2.2.2.2.2.1
  have hrm2 := gj_room (M := M) hN hd'
  have hlen : ∀ sig, parseMethodDescriptor N.2.1.desc = some sig → n = sig.parameters.length := fun sig h => by
    rw [h] at hp
    exact (Option.some.inj hp).symm
  have hrecv : ∃ cellB : Cell, H[b]? = some cellB ∧ cellB.vm.isStatics = false ∧ s.vm.findClass N.2.1.cls = some cellB.cls := by
    cases hci : vwCl[ci]? with
    | none => rw [hci] at hcl; cases hcl
    | some z =>
      rw [hci] at hcl
      have hz : z.1 = N.2.1.cls := Option.some.inj hcl
      rw [← hz]
      exact va_recv hC.2.2.2.2.2.2.2.1.1 (hR.one hs) hci (q0 := 0) rfl
  have hpre := gj_pre (args := args) hR hC.2.2.2.2.2.2.2.1 (.ref b :: As)
  have hcb : ∀ w ∈ gj_w, w.before args s = true := hts
  refine gj_back (N := N) (rest := rest) (Q' := Q') (a := (Value.ref b :: As).toArray) ?_ hC hS hL kk
  rcases hl with hl | ⟨host, hl⟩
  · exact va_runV (As := As) (rest := rest) (C := N.2.1.cls) ⟨hC.1, hC.2.1, hC.2.2.1, hC.2.2.2.2.2.1, hts⟩ hE ⟨⟨rfl, rfl, hrm2.1, hrm2.2, gj_pay hc hts, List.mem_cons_self, hts _ hc, hts _ hi, hy, hlen, hts _ hl⟩, hts _ hin, hts _ hse⟩ ⟨hpre.1, hrecv, hpre.2⟩ rfl hn hL.1 rfl (lv_room hrm) hd ⟨hkc, hks⟩
  · exact va_runVN (As := As) (rest := rest) (C := N.2.1.cls) ⟨hC.1, hC.2.1, hC.2.2.1, hC.2.2.2.2.2.1, hts⟩ hE ⟨⟨⟨rfl, rfl, hrm2.1, hrm2.2, gj_pay hc hts, List.mem_cons_self⟩, hts _ hc, hts _ hi, hy, hlen, va_Nw.use rfl (hC.2.2.2.2.2.2.2.1.2.1 _ hl)⟩, hts _ hin, hts _ hse⟩ ⟨hpre.1, hrecv, hpre.2⟩ rfl hn hL.1 rfl (lv_room hrm) hd ⟨hkc, hks⟩
theorem g_callS (hk : gj_CkS M.2.1.cls index N n) (hd' : d' < d) (hn : As.length = n) (hst : st0 = As.reverse ++ rest) (hrm : (rest.map fun v => v.category).sum ≤ 8) (hkc : kc + N.2.2.2.2.1 ≤ M.2.2.2.2.1) (hks : ks + N.2.2.2.2.2 ≤ M.2.2.2.2.2) (hd : decode M.1 pc = .ok (.invokestatic index, 3)) (hq : pc + 3 = q)
    (hE : gj_E X d' N As lim σ v Q') (kk : ∀ (r : Option Value) (lim' : Nat) (σ' : gj_H) (v' : gj_V), Q' r lim' σ' v' → gj_G X d M Q lim' σ' v' (kc + N.2.2.2.2.1) (ks + N.2.2.2.2.2) q L (r.toList ++ rest)) : gj_G X d M Q lim σ v kc ks pc L st0 := by
  subst hq; subst hst
  intro p e s m args below meth c H locs ls hC hR hS hL
  obtain ⟨⟨hl, hc, hi, hy, hp, hN⟩, hstt⟩ := hk
  have hts := hC.2.2.2.2.2.2.1
  have hrm2 := gj_room (M := M) hN hd'
  have hlen : ∀ sig, parseMethodDescriptor N.2.1.desc = some sig → n = sig.parameters.length := fun sig h => by
    rw [h] at hp
    exact (Option.some.inj hp).symm
  have hpre := gj_pre (args := args) hR hC.2.2.2.2.2.2.2.1 As
  refine gj_back (N := N) (rest := rest) (Q' := Q') (a := As.toArray) ?_ hC hS hL kk
  rcases hl with hl | ⟨host, hl⟩
  · exact va_runS (As := As) (rest := rest) ⟨hC.1, hC.2.1, hC.2.2.1, hC.2.2.2.2.2.1, hts⟩ hE ⟨⟨rfl, rfl, hrm2.1, hrm2.2, gj_pay hc hts, List.mem_cons_self, hts _ hc, hts _ hi, hy, hlen, hts _ hl⟩, hts _ hstt⟩ hpre rfl hn hL.1 rfl (lv_room hrm) hd ⟨hkc, hks⟩
  · exact va_runSN (As := As) (rest := rest) ⟨hC.1, hC.2.1, hC.2.2.1, hC.2.2.2.2.2.1, hts⟩ hE ⟨⟨⟨rfl, rfl, hrm2.1, hrm2.2, gj_pay hc hts, List.mem_cons_self⟩, hts _ hc, hts _ hi, hy, hlen, va_Nw.use rfl (hC.2.2.2.2.2.2.2.1.2.1 _ hl)⟩, hts _ hstt, trivial⟩ hpre rfl hn hL.1 rfl (lv_room hrm) hd ⟨hkc, hks⟩
theorem g_callI (hk : gj_CkI M.2.1.cls index N n) (hd' : d' < d) (hn : As.length = n) (hst : st0 = As.reverse ++ .ref b :: rest) (hrm : (rest.map fun v => v.category).sum ≤ 8) (hkc : kc + N.2.2.2.2.1 ≤ M.2.2.2.2.1) (hks : ks + N.2.2.2.2.2 ≤ M.2.2.2.2.2) (hd : decode M.1 pc = .ok (.invokespecial index, 3)) (hq : pc + 3 = q)
    (hE : gj_E X d' N (.ref b :: As) lim σ v Q') (kk : ∀ (r : Option Value) (lim' : Nat) (σ' : gj_H) (v' : gj_V), Q' r lim' σ' v' → gj_G X d M Q lim' σ' v' (kc + N.2.2.2.2.1) (ks + N.2.2.2.2.2) q L (r.toList ++ rest)) : gj_G X d M Q lim σ v kc ks pc L st0 := by
  subst hq; subst hst
  intro p e s m args below meth c H locs ls hC hR hS hL
  obtain ⟨⟨hl, hc, hi, hy, hp, hN⟩, hnm, hin, hret⟩ := hk
  have hts := hC.2.2.2.2.2.2.1
  have hrm2 := gj_room (M := M) hN hd'
  have hlen : ∀ sig, parseMethodDescriptor N.2.1.desc = some sig → n = sig.parameters.length := fun sig h => by
    rw [h] at hp
    exact (Option.some.inj hp).symm
  have hpre := gj_pre (args := args) hR hC.2.2.2.2.2.2.2.1 (.ref b :: As)
  have hmem : Cond.code N.2.1 N.1 N.2.2.1 none ∈ gj_ws N := by
    have : Cond.code N.2.1 N.1 N.2.2.1 N.2.2.2.1 ∈ gj_ws N := List.mem_cons_self
    rw [hret] at this
    exact this
  have hc0 : (Cond.code N.2.1 N.1 N.2.2.1 none).before args s = true := by
    have := hts _ hc
    rw [hret] at this
    exact this
  refine gj_back (N := N) (rest := rest) (Q' := Q') (a := (Value.ref b :: As).toArray) ?_ hC hS hL kk
  rcases hl with hl | ⟨host, hl⟩
  · exact va_runI (As := As) (rest := rest) (b := b) ⟨hC.1, hC.2.1, hC.2.2.1, hC.2.2.2.2.2.1, hts⟩ hE ⟨⟨rfl, rfl, hrm2.1, hrm2.2, gj_pay hc hts, hmem, hc0, hts _ hi, hy, hlen, hts _ hl⟩, hnm, hts _ hin⟩ hpre rfl hn hL.1 rfl (lv_room hrm) hd ⟨hkc, hks⟩
  · exact va_runIN (As := As) (rest := rest) (b := b) ⟨hC.1, hC.2.1, hC.2.2.1, hC.2.2.2.2.2.1, hts⟩ hE ⟨⟨⟨rfl, rfl, hrm2.1, hrm2.2, gj_pay hc hts, hmem⟩, hc0, hts _ hi, hy, hlen, va_Nw.use rfl (hC.2.2.2.2.2.2.2.1.2.1 _ hl)⟩, hnm, hts _ hin⟩ hpre rfl hn hL.1 rfl (lv_room hrm) hd ⟨hkc, hks⟩
/-! Math.max, Math.min -/
def gj_Mx (own : String) (index : Nat) : Prop := Cond.methodLink own index Lib.Math.max.name ∈ gj_w ∧ Cond.static Lib.Math.max.name ∈ gj_w ∧ Cond.initialized "java/lang/Math" ∈ gj_w ∧ Cond.code Lib.Math.max.name Lib.Math.max.code 2 (some .int) ∈ gj_w
def gj_Mn (own : String) (index : Nat) : Prop := Cond.methodLink own index Lib.Math.min.name ∈ gj_w ∧ Cond.static Lib.Math.min.name ∈ gj_w ∧ Cond.initialized "java/lang/Math" ∈ gj_w ∧ Cond.code Lib.Math.min.name Lib.Math.min.code 2 (some .int) ∈ gj_w
theorem g_max {x y : Int32} (hk : gj_Mx M.2.1.cls index) (hrm : (rest.map fun v => v.category).sum ≤ 8) (hkc : kc ≤ M.2.2.2.2.1) (hks : ks ≤ M.2.2.2.2.2) (hd : decode M.1 pc = .ok (.invokestatic index, 3)) (hq : pc + 3 = q) (kk : gj_G X d M Q lim σ v kc ks q L (.int (if x < y then y else x) :: rest)) : gj_G X d M Q lim σ v kc ks pc L (.int y :: .int x :: rest) := by
  subst hq
  intro p e s m args below meth c H locs ls hC hR hS hL
  have hts := hC.2.2.2.2.2.2.1
  exact va_mmax hC.1 hC.2.1 (hC.2.2.1.trans hL.1.symm) hC.2.2.2.2.2.1 (hts _ hk.1) (hts _ hk.2.1) (hts _ hk.2.2.1) (hts _ hk.2.2.2) (by simp only [gj_R]; omega) (by simp only [gj_R]; omega) hkc hks hd (kk p e s m args below meth c H locs ls hC hR hS hL)
theorem g_min {x y : Int32} (hk : gj_Mn M.2.1.cls index) (hrm : (rest.map fun v => v.category).sum ≤ 8) (hkc : kc ≤ M.2.2.2.2.1) (hks : ks ≤ M.2.2.2.2.2) (hd : decode M.1 pc = .ok (.invokestatic index, 3)) (hq : pc + 3 = q) (kk : gj_G X d M Q lim σ v kc ks q L (.int (if y < x then y else x) :: rest)) : gj_G X d M Q lim σ v kc ks pc L (.int y :: .int x :: rest) := by
  subst hq
  intro p e s m args below meth c H locs ls hC hR hS hL
  have hts := hC.2.2.2.2.2.2.1
  exact va_mmin hC.1 hC.2.1 (hC.2.2.1.trans hL.1.symm) hC.2.2.2.2.2.1 (hts _ hk.1) (hts _ hk.2.1) (hts _ hk.2.2.1) (hts _ hk.2.2.2) (by simp only [gj_R]; omega) (by simp only [gj_R]; omega) hkc hks hd (kk p e s m args below meth c H locs ls hC hR hS hL)
/-! System.arraycopy of int arrays -/
def gj_Ac (own : String) (index : Nat) : Prop := Cond.methodLink own index arraycopyName ∈ gj_w ∧ Cond.native arraycopyName ∈ gj_w ∧ Cond.static arraycopyName ∈ gj_w ∧ Cond.initialized "java/lang/System" ∈ gj_w
theorem g_acopy {a a0 n0 n1 sp dp k : Nat} {i0 i1 i2 : Int32} (hk : gj_Ac M.2.1.cls index) (hs0 : σ a0 = some (.inr (.inl n0))) (hs : σ a = some (.inr (.inl n1))) (e0 : i0 = nI sp) (e1 : i1 = nI dp) (e2 : i2 = nI k) (h0 : sp + k ≤ n0) (h1 : dp + k ≤ n1) (hn0 : n0 < 2147483648) (hn1 : n1 < 2147483648) (hrm : (rest.map fun v => v.category).sum ≤ 8) (hd : decode M.1 pc = .ok (.invokestatic index, 3)) (hq : pc + 3 = q)
    (kk : gj_G X d M Q lim σ (gj_up v a (va_cpy (v a0) (v a) sp dp k)) kc ks q L rest) : gj_G X d M Q lim σ v kc ks pc L (.int i2 :: .int i1 :: .ref a :: .int i0 :: .ref a0 :: rest) := by
  subst hq; subst e0; subst e1; subst e2
  intro p e s m args below meth c H locs ls hC hR hS hL
  have hts := hC.2.2.2.2.2.2.1
  have csp : (nI sp).toNatClampNeg = sp := nI_clamp (by omega)
  have cdp : (nI dp).toNatClampNeg = dp := nI_clamp (by omega)
  have ck : (nI k).toNatClampNeg = k := nI_clamp (by omega)
  have nn : ∀ j : Nat, j < 2 ^ 31 → (nI j).toInt = (j : Int) := fun j hj => nI_toInt hj
  intro T hT Xs
  have hc0 : H[a0]? = some (vp_cell (X.2.2.1 0) (n0, .inl (v a0))) := hR.one hs0 0 _ rfl
  have hc1 : H[a]? = some (vp_cell (X.2.2.1 0) (n1, .inl (v a))) := hR.one hs 0 _ rfl
  have hAr := (hC.2.2.2.2.2.2.2.1.1.2 0 (X.2.2.1 0, .int) rfl).1
  obtain ⟨-, k0, hk0, cm0, hkk0⟩ := hAr n0 (fun j => .int (v a0 j))
  obtain ⟨-, k1, hk1, cm1, hkk1⟩ := hAr n1 (fun j => .int (v a j))
  obtain ⟨vm', X', step⟩ := Xs.arraycopy hC.1 hC.2.2.2.2.2.1 (hts _ hk.1) (hts _ hk.2.1) (hts _ hk.2.2.1) (hts _ hk.2.2.2) (src := a0) (dst := a) (cs := vp_cell (X.2.2.1 0) (n0, .inl (v a0))) (cd := vp_cell (X.2.2.1 0) (n1, .inl (v a))) (srcPos := nI sp) (destPos := nI dp) (n := nI k) (by rw [hT]; exact hc0) (by rw [hT]; exact hc1)
    (fun _ h => by cases h) (fun _ h => by cases h) (fun h => by cases h) (fun h => by cases h) hk0 hk1 hkk0 hkk1 (by simp [refKind]) (nI_pos (by omega)) (nI_pos (by omega)) (nI_pos (by omega))
    (by rw [nn sp (by omega), nn k (by omega)]; show ¬ _ > ((arrV (X.2.2.1 0) n0 (fun j => .int (v a0 j))).slots.size : Int); rw [arrV_size]; omega)
    (by rw [nn dp (by omega), nn k (by omega)]; show ¬ _ > ((arrV (X.2.2.1 0) n1 (fun j => .int (v a j))).slots.size : Int); rw [arrV_size]; omega)
    (fun vm₁ _ i hi => by
      have e : (vp_cell (X.2.2.1 0) (n0, .inl (v a0))).slots.getD ((nI sp).toNatClampNeg + i) .null = .int (v a0 ((nI sp).toNatClampNeg + i)) := by
        show (arrV (X.2.2.1 0) n0 (fun j => .int (v a0 j))).slots.getD _ _ = _
        rw [Array.getD_eq_getD_getElem?, arrV_read _ _ (by rw [ck] at hi; omega)]
        rfl
      refine ⟨?_, ?_⟩
      · rw [e]; rfl
      · rw [e]; exact trivial)
    (g := F0 m pc ls (.int (nI k) :: .int (nI dp) :: .ref a :: .int (nI sp) :: .ref a0 :: rest)) rfl (by show ls.size = _; rw [hL.1]; exact hC.2.2.1.symm) (rest := rest) rfl (by rw [hC.2.1]; exact hd) (by simp only [gj_R]; omega) (by
      show 2 * 0 + _ + _ ≤ _
      have : nativeFrameWords "java/lang/System" "arraycopy" 5 + 11 = 18 := by decide +kernel
      simp only [gj_R]; omega)
  have e1 : copied (vp_cell (X.2.2.1 0) (n0, .inl (v a0))) (vp_cell (X.2.2.1 0) (n1, .inl (v a))) (nI sp) (nI dp) (nI k) = vp_cell (X.2.2.1 0) (n1, .inl (va_cpy (v a0) (v a) (nI sp).toNatClampNeg (nI dp).toNatClampNeg (nI k).toNatClampNeg)) := va_copied (fun z => .int z) (X.2.2.1 0) (X.2.2.1 0) (v a0) (v a) (by rw [csp, ck]; exact h0)
  rw [csp, cdp, ck] at e1
  rw [e1] at X' step
  have hl : a < H.size := (Array.getElem?_eq_some_iff.mp hc1).1
  have hheap : ((T.setVm vm').setCell a (vp_cell (X.2.2.1 0) (n1, .inl (va_cpy (v a0) (v a) sp dp k)))).heap = H.setIfInBounds a (vp_cell (X.2.2.1 0) (n1, .inl (va_cpy (v a0) (v a) sp dp k))) := by rw [← hT]; rfl
  have oq : ∀ q : Nat, q ≠ a → (H.setIfInBounds a (vp_cell (X.2.2.1 0) (n1, .inl (va_cpy (v a0) (v a) sp dp k))))[q]? = H[q]? := fun q hq => by simp [Array.getElem?_setIfInBounds, Ne.symm hq]
  obtain ⟨t, a1, b1⟩ := kk p e s m args below meth c _ _ ls hC (hR.put hs (f := va_cpy (v a0) (v a) sp dp k) (show (H.setIfInBounds a _)[a]? = some _ by simp [Array.getElem?_setIfInBounds, hl]) (by simp) oq) ⟨by simp; exact hS.1, fun q g1 g2 => by
      rw [oq q (fun e => g2 (by rw [e]; exact hR.A hs))]
      exact hS.2.1 q g1 g2, fun q hq => by
      rcases List.mem_append.mp hq with h | h
      · exact hS.2.2 q h
      · obtain ⟨z, -, hz⟩ := List.mem_map.mp h
        rw [← hz]
        exact hR.A hs⟩ hL _ hheap X'
  exact ⟨t, step t a1, b1⟩
end GC
