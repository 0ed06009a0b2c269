/-! ===== the law's own walk ===== -/
def lw_C (X : gj_X) (p : Program) (s : State) (m : MethodId) (meth : Method) (c : Code) (b n : Nat) (xs : Nat → Int32) : Prop :=
  p.tables.exec = Jvm.exec ∧ c.code = code ∧ c.maxLocals = 4 ∧ meth.sig.returnType = ret ∧ meth.locks = false ∧ s.vm.findClass RL = some m.cls ∧ (∀ w ∈ gj_w, w.before #[Value.ref b] s = true) ∧ gj_K X s ∧ X.2.2.2 = s.heap.size ∧ va_X b n xs s s.heap ∧ b < s.heap.size
def lw_G (X : gj_X) (p : Program) (e : Env) (s : State) (m : MethodId) (below : List Frame) (meth : Method) (c : Code) (b lim : Nat) (σ : gj_H) (v : gj_V) (kc ks pc : Nat) (L : List (Option Value)) (st : List Value) : Prop :=
  ∀ (H : Heap) (locs : List Loc) (ls : Array Slot), gj_rep X lim σ v H → va_S (gj_A X) s.heap H locs → lv_has ls 4 (gj_L L) → W p X.1 e room_1 s m #[Value.ref b] below meth c H locs kc ks (lw_Z below #[Value.ref b] s) (F0 m pc ls st)
section LW
variable {X : gj_X} {p : Program} {e : Env} {s : State} {m : MethodId} {below : List Frame} {meth : Method} {c : Code} {b nx lim : Nat} {xs : Nat → Int32} {σ : gj_H} {v : gj_V} {kc ks pc q t : Nat} {L L' : List (Option Value)} {st : List Value}

theorem gl_iload_n (C : lw_C X p s m meth c b nx xs) {n : Fin 4} {x : Int32} (hd : decode code pc = .ok (.iload_n n, 1)) (hl : L[n.val]? = some (some (.int x))) (hq : pc + 1 = q) (k : lw_G X p e s m below meth c b lim σ v kc ks q L (.int x :: st)) : lw_G X p e s m below meth c b lim σ v kc ks pc L st := by
  subst hq
  intro H locs ls hR hS hL
  exact lv_iload_n C.1 C.2.1 hd rfl (gj_lat hL hl) (k H locs ls hR hS hL)
theorem gl_aload_n (C : lw_C X p s m meth c b nx xs) {n : Fin 4} {x : Nat} (hd : decode code pc = .ok (.aload_n n, 1)) (hl : L[n.val]? = some (some (.ref x))) (hq : pc + 1 = q) (k : lw_G X p e s m below meth c b lim σ v kc ks q L (.ref x :: st)) : lw_G X p e s m below meth c b lim σ v kc ks pc L st := by
  subst hq
  intro H locs ls hR hS hL
  exact lv_aload_n C.1 C.2.1 hd rfl (gj_lat hL hl) (k H locs ls hR hS hL)
theorem gl_istore_n (C : lw_C X p s m meth c b nx xs) {n : Fin 4} {x : Int32} (hd : decode code pc = .ok (.istore_n n, 1)) (hi : Nat.blt n.val 4 = true) (hok : gj_ok1 L n.val = true) (hl : L.set n.val (some (.int x)) = L') (hq : pc + 1 = q) (k : lw_G X p e s m below meth c b lim σ v kc ks q L' st) : lw_G X p e s m below meth c b lim σ v kc ks pc L (.int x :: st) := by
  subst hq; subst hl
  intro H locs ls hR hS hL
  exact lv_istore_n C.1 C.2.1 hd rfl hL (Nat.blt_eq.mp hi) rfl (fun ls' h => k H locs ls' hR hS (gj_st1 hok h))
theorem gl_astore_n (C : lw_C X p s m meth c b nx xs) {n : Fin 4} {x : Nat} (hd : decode code pc = .ok (.astore_n n, 1)) (hi : Nat.blt n.val 4 = true) (hok : gj_ok1 L n.val = true) (hl : L.set n.val (some (.ref x)) = L') (hq : pc + 1 = q) (k : lw_G X p e s m below meth c b lim σ v kc ks q L' st) : lw_G X p e s m below meth c b lim σ v kc ks pc L (.ref x :: st) := by
  subst hq; subst hl
  intro H locs ls hR hS hL
  exact lv_astore_n C.1 C.2.1 hd rfl hL (Nat.blt_eq.mp hi) rfl (fun ls' h => k H locs ls' hR hS (gj_st1 hok h))
theorem gl_iinc (C : lw_C X p s m meth c b nx xs) {i : Nat} {n : Int} {x y : Int32} (hd : decode code pc = .ok (.iinc i n, 3)) (hx : L[i]? = some (some (.int x))) (hv : x + Int32.ofInt n = y) (hi : Nat.blt i 4 = true) (hok : gj_ok1 L i = true) (hl : L.set i (some (.int y)) = L') (hq : pc + 3 = q) (k : lw_G X p e s m below meth c b lim σ v kc ks q L' st) : lw_G X p e s m below meth c b lim σ v kc ks pc L st := by
  subst hq; subst hl
  intro H locs ls hR hS hL
  obtain ⟨z, hz⟩ := List.getElem?_of_mem (gj_L_mem.mpr hx)
  exact lv_iinc C.1 C.2.1 hd hL hz hv (Nat.blt_eq.mp hi) rfl (fun ls' h => k H locs ls' hR hS (gj_st1 hok h))
theorem gl_iconst (C : lw_C X p s m meth c b nx xs) {n : Int} {x : Int32} (hd : decode code pc = .ok (.iconst n, 1)) (hv : Int32.ofInt n = x) (hq : pc + 1 = q) (k : lw_G X p e s m below meth c b lim σ v kc ks q L (.int x :: st)) : lw_G X p e s m below meth c b lim σ v kc ks pc L st := by
  subst hq
  intro H locs ls hR hS hL
  exact lv_iconst C.1 C.2.1 hd hv (k H locs ls hR hS hL)
theorem gl_bipush (C : lw_C X p s m meth c b nx xs) {n : Int} {x : Int32} (hd : decode code pc = .ok (.bipush n, 2)) (hv : (Int8.ofInt n).toInt32 = x) (hq : pc + 2 = q) (k : lw_G X p e s m below meth c b lim σ v kc ks q L (.int x :: st)) : lw_G X p e s m below meth c b lim σ v kc ks pc L st := by
  subst hq
  intro H locs ls hR hS hL
  exact lv_bipush C.1 C.2.1 hd hv (k H locs ls hR hS hL)
theorem gl_iadd (C : lw_C X p s m meth c b nx xs) {x y : Int32} (hd : decode code pc = .ok (.iadd, 1)) (hq : pc + 1 = q) (k : lw_G X p e s m below meth c b lim σ v kc ks q L (.int (x + y) :: st)) : lw_G X p e s m below meth c b lim σ v kc ks pc L (.int y :: .int x :: st) := by
  subst hq
  intro H locs ls hR hS hL
  exact lv_iadd C.1 C.2.1 hd (k H locs ls hR hS hL)
theorem gl_isub (C : lw_C X p s m meth c b nx xs) {x y : Int32} (hd : decode code pc = .ok (.isub, 1)) (hq : pc + 1 = q) (k : lw_G X p e s m below meth c b lim σ v kc ks q L (.int (x - y) :: st)) : lw_G X p e s m below meth c b lim σ v kc ks pc L (.int y :: .int x :: st) := by
  subst hq
  intro H locs ls hR hS hL
  exact lv_isub C.1 C.2.1 hd (k H locs ls hR hS hL)
theorem gl_iand (C : lw_C X p s m meth c b nx xs) {x y : Int32} (hd : decode code pc = .ok (.iand, 1)) (hq : pc + 1 = q) (k : lw_G X p e s m below meth c b lim σ v kc ks q L (.int (x &&& y) :: st)) : lw_G X p e s m below meth c b lim σ v kc ks pc L (.int y :: .int x :: st) := by
  subst hq
  intro H locs ls hR hS hL
  exact lv_iand C.1 C.2.1 hd (k H locs ls hR hS hL)
theorem gl_dup (C : lw_C X p s m meth c b nx xs) {x : Value} (hd : decode code pc = .ok (.dup, 1)) (hc : x.category = 1) (hq : pc + 1 = q) (k : lw_G X p e s m below meth c b lim σ v kc ks q L (x :: x :: st)) : lw_G X p e s m below meth c b lim σ v kc ks pc L (x :: st) := by
  subst hq
  intro H locs ls hR hS hL
  exact lv_dup C.1 C.2.1 hd hc (k H locs ls hR hS hL)
theorem gl_goto (C : lw_C X p s m meth c b nx xs) {o : Int} (hd : decode code pc = .ok (.goto o, 3)) (hq : (pc : Int) + o = (q : Int)) (k : lw_G X p e s m below meth c b lim σ v kc ks q L st) : lw_G X p e s m below meth c b lim σ v kc ks pc L st := by
  intro H locs ls hR hS hL
  exact lv_goto C.1 C.2.1 hd hq (k H locs ls hR hS hL)
variable {x y : Int32} {o : Int} {t : Nat}
theorem gl_ifeq (C : lw_C X p s m meth c b nx xs) (hd : decode code pc = .ok (.ifCond .eq o, 3)) (ht : (pc : Int) + o = (t : Int)) (hq : pc + 3 = q) (kt : x = 0 → lw_G X p e s m below meth c b lim σ v kc ks t L st) (kf : ¬ x = 0 → lw_G X p e s m below meth c b lim σ v kc ks q L st) : lw_G X p e s m below meth c b lim σ v kc ks pc L (.int x :: st) := by
  subst hq
  intro H locs ls hR hS hL
  exact lv_if_eq C.1 C.2.1 hd ht (fun h => kt h H locs ls hR hS hL) (fun h => kf h H locs ls hR hS hL)
theorem gl_icmpgt (C : lw_C X p s m meth c b nx xs) (hd : decode code pc = .ok (.if_icmp .gt o, 3)) (ht : (pc : Int) + o = (t : Int)) (hq : pc + 3 = q) (kt : y < x → lw_G X p e s m below meth c b lim σ v kc ks t L st) (kf : ¬ y < x → lw_G X p e s m below meth c b lim σ v kc ks q L st) : lw_G X p e s m below meth c b lim σ v kc ks pc L (.int y :: .int x :: st) := by
  subst hq
  intro H locs ls hR hS hL
  exact lv_icmp_gt C.1 C.2.1 hd ht (fun h => kt h H locs ls hR hS hL) (fun h => kf h H locs ls hR hS hL)
theorem gl_icmpeq (C : lw_C X p s m meth c b nx xs) (hd : decode code pc = .ok (.if_icmp .eq o, 3)) (ht : (pc : Int) + o = (t : Int)) (hq : pc + 3 = q) (kt : x = y → lw_G X p e s m below meth c b lim σ v kc ks t L st) (kf : ¬ x = y → lw_G X p e s m below meth c b lim σ v kc ks q L st) : lw_G X p e s m below meth c b lim σ v kc ks pc L (.int y :: .int x :: st) := by
  subst hq
  intro H locs ls hR hS hL
  exact lv_icmp_eq C.1 C.2.1 hd ht (fun h => kt h H locs ls hR hS hL) (fun h => kf h H locs ls hR hS hL)
theorem gl_tableIn (C : lw_C X p s m meth c b nx xs) {dflt lo hi : Int} {offs : Array Int} {len : Nat} (hd : decode code pc = .ok (.tableswitch dflt lo hi offs, len)) (h1 : ¬ x.toInt < lo) (h2 : ¬ hi < x.toInt) (ho : offs[(x.toInt - lo).toNat]? = some o) (ht : (pc : Int) + o = (t : Int)) (k : lw_G X p e s m below meth c b lim σ v kc ks t L st) : lw_G X p e s m below meth c b lim σ v kc ks pc L (.int x :: st) := by
  intro H locs ls hR hS hL
  exact lv_tableIn C.1 C.2.1 hd h1 h2 ho ht (k H locs ls hR hS hL)
theorem gl_tableOut (C : lw_C X p s m meth c b nx xs) {dflt lo hi : Int} {offs : Array Int} {len : Nat} (hd : decode code pc = .ok (.tableswitch dflt lo hi offs, len)) (h1 : x.toInt < lo ∨ hi < x.toInt) (ht : (pc : Int) + dflt = (t : Int)) (k : lw_G X p e s m below meth c b lim σ v kc ks t L st) : lw_G X p e s m below meth c b lim σ v kc ks pc L (.int x :: st) := by
  intro H locs ls hR hS hL
  exact lv_tableOut C.1 C.2.1 hd h1 ht (k H locs ls hR hS hL)
theorem gl_lcmp (C : lw_C X p s m meth c b nx xs) {x y : Int64} (hd : decode code pc = .ok (.lcmp, 1)) (hq : pc + 1 = q) (k : lw_G X p e s m below meth c b lim σ v kc ks q L (.int (lg_cmp x y) :: st)) : lw_G X p e s m below meth c b lim σ v kc ks pc L (.long y :: .long x :: st) := by
  subst hq
  intro H locs ls hR hS hL
  exact W.lcmp C.1 C.2.1 hd (k H locs ls hR hS hL)
/-- a cell of the script -/
theorem gl_sld (C : lw_C X p s m meth c b nx xs) {i : Int32} {j : Nat} (hi : i = nI j) (hj : j < nx) (hn : nx ≤ 3072) (hd : decode code pc = .ok (.iaload, 1)) (hq : pc + 1 = q) (k : lw_G X p e s m below meth c b lim σ v kc ks q L (.int (xs j) :: st)) : lw_G X p e s m below meth c b lim σ v kc ks pc L (.int i :: .ref b :: st) := by
  subst hq; subst hi
  intro H locs ls hR hS hL
  have hc : (nI j).toNatClampNeg = j := nI_clamp (by omega)
  have hb : ¬ gj_A X b := by
    show ¬ X.2.2.2 ≤ b
    rw [C.2.2.2.2.2.2.2.2.1]
    exact Nat.not_le.mpr C.2.2.2.2.2.2.2.2.2.2
  refine va_sld C.1 C.2.1 C.2.2.2.2.2.2.2.2.2.1 C.2.2.2.2.2.2.2.2.2.2 hb hS (show vp_in (nI j) nx from ?_) hd ?_
  · intro h
    rcases h with h | h
    · exact nI_pos (by omega) h
    · rw [hc] at h; omega
  · rw [hc]
    exact k H locs ls hR hS hL
theorem gl_slen (C : lw_C X p s m meth c b nx xs) (hd : decode code pc = .ok (.arraylength, 1)) (hq : pc + 1 = q) (k : lw_G X p e s m below meth c b lim σ v kc ks q L (.int (nI nx) :: st)) : lw_G X p e s m below meth c b lim σ v kc ks pc L (.ref b :: st) := by
  subst hq
  intro H locs ls hR hS hL
  have hb : ¬ gj_A X b := by
    show ¬ X.2.2.2 ≤ b
    rw [C.2.2.2.2.2.2.2.2.1]
    exact Nat.not_le.mpr C.2.2.2.2.2.2.2.2.2.2
  exact va_slen C.1 C.2.1 C.2.2.2.2.2.2.2.2.2.1 C.2.2.2.2.2.2.2.2.2.2 hb hS hd (k H locs ls hR hS hL)
theorem gl_ret (C : lw_C X p s m meth c b nx xs) (hkc : kc ≤ 600000) (hks : ks ≤ 7302250) (hd : decode code pc = .ok (.ireturn, 1)) : lw_G X p e s m below meth c b lim σ v kc ks pc L [.int 1] := by
  intro H locs ls hR hS hL
  refine va_forget (fun q hq => ?_) (W.widen hkc hks (lw_ret C.1 C.2.1 C.2.2.2.1 C.2.2.2.2.1 hd))
  have := hS.2.2 q hq
  rw [← C.2.2.2.2.2.2.2.2.1]
  exact this
theorem gl_gv (k : ∀ v' : gj_V, v' = v → lw_G X p e s m below meth c b lim σ v' kc ks pc L st) : lw_G X p e s m below meth c b lim σ v kc ks pc L st := k v rfl
theorem gl_gs (k : ∀ σ' : gj_H, σ' = σ → lw_G X p e s m below meth c b lim σ' v kc ks pc L st) : lw_G X p e s m below meth c b lim σ v kc ks pc L st := k σ rfl
theorem gl_nm {lim' kc' ks' : Nat} (hl : lim' = lim) (hc : kc' = kc) (hs : ks' = ks) (k : lw_G X p e s m below meth c b lim' σ v kc' ks' pc L st) : lw_G X p e s m below meth c b lim σ v kc ks pc L st := by
  subst hl; subst hc; subst hs; exact k
end LW
section LC
variable {X : gj_X} {p : Program} {e : Env} {s : State} {m : MethodId} {below : List Frame} {meth : Method} {c : Code} {b nx lim : Nat} {xs : Nat → Int32} {σ : gj_H} {v : gj_V} {kc ks pc q index n o ci d' : Nat} {L : List (Option Value)} {st0 As rest : List Value} {N : gj_M} {Q' : gj_Q} {t : List (Option (Option Nat))}
theorem gl_back {H : Heap} {locs : List Loc} {ls : Array Slot} {a : Array Value}
    (hr : va_Run p X.1 e room_1 s m #[Value.ref b] below meth c H locs kc ks N.2.2.2.2.1 N.2.2.2.2.2 (F0 m pc ls st0) rest (gj_F X Q' a) (gj_A X)) (hS : va_S (gj_A X) s.heap H locs) (hL : lv_has ls 4 (gj_L L))
    (kk : ∀ (r : Option Value) (lim' : Nat) (σ' : gj_H) (v' : gj_V), Q' r lim' σ' v' → lw_G X p e s m below meth c b lim' σ' v' (kc + N.2.2.2.2.1) (ks + N.2.2.2.2.2) (pc + 3) L (r.toList ++ rest)) :
    W p X.1 e room_1 s m #[Value.ref b] below meth c H locs kc ks (lw_Z below #[Value.ref b] s) (F0 m pc ls st0) := by
  intro T hT Xs
  obtain ⟨w, st₀, t, T', LL, h0, X', hLL, e1, e2, ⟨⟨r, lim', σ', v', hw, hq', hrep⟩, hz, hkp⟩, stp⟩ := hr T hT Xs
  cases hw
  rw [h0] at hz hkp
  obtain ⟨t2, a1, b1⟩ := kk _ lim' σ' v' hq' T'.heap (locs ++ LL) ls (by rw [e1]; exact hrep)
    ⟨Nat.le_trans hS.1 (by rw [e1]; exact hz), fun x g1 g2 => by rw [e1, hkp x (Nat.lt_of_lt_of_le g1 hS.1) g2]; exact hS.2.1 x g1 g2, fun x hx => by
      rcases List.mem_append.mp hx with h | h
      · exact hS.2.2 x h
      · exact hLL x h⟩ hL T' rfl X'
  exact ⟨t2, stp t2 a1, b1⟩
theorem gl_room (hN : N.2.2.1 ≤ 10) (hd' : d' < 7) : (gj_R d' N).frames + 1 ≤ room_1.frames ∧ 8 + (N.2.2.1 + 11) + (gj_R d' N).locals ≤ room_1.locals := by
  simp only [gj_R, room_1]; omega
theorem gl_callV (C : lw_C X p s m meth c b nx xs) (hk : gj_CkV RL index N n) (hs : σ o = some (.inl (ci, t))) (hcl : (vwCl[ci]?).map (fun z => z.1) = some N.2.1.cls) (hd' : d' < 7) (hn : As.length = n) (hst : st0 = As.reverse ++ .ref o :: rest) (hrm : (rest.map fun v => v.category).sum ≤ 8) (hkc : kc + N.2.2.2.2.1 ≤ 600000) (hks : ks + N.2.2.2.2.2 ≤ 7302250) (hd : decode code pc = .ok (.invokevirtual index, 3)) (hq : pc + 3 = q)
    (hE : gj_E X d' N (.ref o :: As) lim σ v Q') (kk : ∀ (r : Option Value) (lim' : Nat) (σ' : gj_H) (v' : gj_V), Q' r lim' σ' v' → lw_G X p e s m below meth c b lim' σ' v' (kc + N.2.2.2.2.1) (ks + N.2.2.2.2.2) q L (r.toList ++ rest)) : lw_G X p e s m below meth c b lim σ v kc ks pc L st0 := by
  subst hq; subst hst
  intro H locs ls hR hS hL
  obtain ⟨⟨hl, hc, hi, hy, hp, hN⟩, hin, hse⟩ := hk
  have hts := C.2.2.2.2.2.2.1
  have hrm2 := gl_room hN hd'
  have hlen : ∀ sig, parseMethodDescriptor N.2.1.desc = some sig → n = sig.parameters.length := fun sig h => by
    rw [h] at hp
    exact (Option.some.inj hp).symm
  have hrecv : ∃ cellB : Cell, H[o]? = some cellB ∧ cellB.vm.isStatics = false ∧ s.vm.findClass N.2.1.cls = some cellB.cls := by
    cases hci : vwCl[ci]? with
    | none => rw [hci] at hcl; cases hcl
    | some z =>
      rw [hci] at hcl
      have hz : z.1 = N.2.1.cls := Option.some.inj hcl
      rw [← hz]
      exact va_recv C.2.2.2.2.2.2.2.1.1 (hR.one hs) hci (q0 := 0) rfl
  have hpre := gj_pre (args := #[Value.ref b]) hR C.2.2.2.2.2.2.2.1 (.ref o :: As)
  refine gl_back (N := N) (rest := rest) (Q' := Q') (a := (Value.ref o :: As).toArray) ?_ hS hL kk
  rcases hl with hl | ⟨host, hl⟩
  · exact va_runV (As := As) (rest := rest) (C := N.2.1.cls) ⟨C.1, C.2.1, C.2.2.1, C.2.2.2.2.2.1, hts⟩ hE ⟨⟨rfl, rfl, hrm2.1, hrm2.2, gj_pay hc hts, List.mem_cons_self, hts _ hc, hts _ hi, hy, hlen, hts _ hl⟩, hts _ hin, hts _ hse⟩ ⟨hpre.1, hrecv, hpre.2⟩ rfl hn hL.1 rfl (lv_room hrm) hd ⟨hkc, hks⟩
  · exact va_runVN (As := As) (rest := rest) (C := N.2.1.cls) ⟨C.1, C.2.1, C.2.2.1, C.2.2.2.2.2.1, hts⟩ hE ⟨⟨⟨rfl, rfl, hrm2.1, hrm2.2, gj_pay hc hts, List.mem_cons_self⟩, hts _ hc, hts _ hi, hy, hlen, va_Nw.use rfl (C.2.2.2.2.2.2.2.1.2.1 _ hl)⟩, hts _ hin, hts _ hse⟩ ⟨hpre.1, hrecv, hpre.2⟩ rfl hn hL.1 rfl (lv_room hrm) hd ⟨hkc, hks⟩
theorem gl_Vi (C : lw_C X p s m meth c b nx xs) {P : Int32 → gj_V → Prop} (hE : gj_E X d' N (.ref o :: As) lim σ v (q_i lim σ P)) (hk : gj_CkV RL index N n) (hs : σ o = some (.inl (ci, t))) (hcl : (vwCl[ci]?).map (fun z => z.1) = some N.2.1.cls) (hd' : d' < 7) (hn : As.length = n) (hst : st0 = As.reverse ++ .ref o :: rest) (hrm : (rest.map fun v => v.category).sum ≤ 8) (hz : N.2.2.2.2.1 = 0) (hz2 : N.2.2.2.2.2 = 0) (hkc : kc ≤ 600000) (hks : ks ≤ 7302250) (hd : decode code pc = .ok (.invokevirtual index, 3)) (hq : pc + 3 = q)
    (kk : ∀ (x : Int32) (v' : gj_V), P x v' → lw_G X p e s m below meth c b lim σ v' kc ks q L (.int x :: rest)) : lw_G X p e s m below meth c b lim σ v kc ks pc L st0 := by
  refine gl_callV C hk hs hcl hd' hn hst hrm (by rw [hz]; exact hkc) (by rw [hz2]; exact hks) hd hq hE ?_
  rintro r l' s' v' ⟨rfl, rfl, x, rfl, h⟩
  rw [hz, hz2]
  exact kk x v' h
theorem gl_Vl (C : lw_C X p s m meth c b nx xs) {P : Int64 → gj_V → Prop} (hE : gj_E X d' N (.ref o :: As) lim σ v (q_l lim σ P)) (hk : gj_CkV RL index N n) (hs : σ o = some (.inl (ci, t))) (hcl : (vwCl[ci]?).map (fun z => z.1) = some N.2.1.cls) (hd' : d' < 7) (hn : As.length = n) (hst : st0 = As.reverse ++ .ref o :: rest) (hrm : (rest.map fun v => v.category).sum ≤ 8) (hz : N.2.2.2.2.1 = 0) (hz2 : N.2.2.2.2.2 = 0) (hkc : kc ≤ 600000) (hks : ks ≤ 7302250) (hd : decode code pc = .ok (.invokevirtual index, 3)) (hq : pc + 3 = q)
    (kk : ∀ (x : Int64) (v' : gj_V), P x v' → lw_G X p e s m below meth c b lim σ v' kc ks q L (.long x :: rest)) : lw_G X p e s m below meth c b lim σ v kc ks pc L st0 := by
  refine gl_callV C hk hs hcl hd' hn hst hrm (by rw [hz]; exact hkc) (by rw [hz2]; exact hks) hd hq hE ?_
  rintro r l' s' v' ⟨rfl, rfl, x, rfl, h⟩
  rw [hz, hz2]
  exact kk x v' h
theorem gl_I {lim' nc ns : Nat} (C : lw_C X p s m meth c b nx xs) {P : gj_H → gj_V → Prop} (hE : gj_E X d' N (.ref o :: As) lim σ v (q_n lim' P)) (hk : gj_CkI RL index N n) (hd' : d' < 7) (hn : As.length = n) (hst : st0 = As.reverse ++ .ref o :: rest) (hrm : (rest.map fun v => v.category).sum ≤ 8) (hz : N.2.2.2.2.1 = nc) (hz2 : N.2.2.2.2.2 = ns) (hkc : kc + nc ≤ 600000) (hks : ks + ns ≤ 7302250) (hd : decode code pc = .ok (.invokespecial index, 3)) (hq : pc + 3 = q)
    (kk : ∀ (σ' : gj_H) (v' : gj_V), P σ' v' → lw_G X p e s m below meth c b lim' σ' v' (kc + nc) (ks + ns) q L rest) : lw_G X p e s m below meth c b lim σ v kc ks pc L st0 := by
  subst hq; subst hst; subst hz; subst hz2
  intro H locs ls hR hS hL
  obtain ⟨⟨hl, hc, hi, hy, hp, hN⟩, hnm, hin, hret⟩ := hk
  have hts := C.2.2.2.2.2.2.1
  have hrm2 := gl_room hN hd'
  have hlen : ∀ sig, parseMethodDescriptor N.2.1.desc = some sig → n = sig.parameters.length := fun sig h => by
    rw [h] at hp
    exact (Option.some.inj hp).symm
  have hpre := gj_pre (args := #[Value.ref b]) hR C.2.2.2.2.2.2.2.1 (.ref o :: As)
  have hmem : Cond.code N.2.1 N.1 N.2.2.1 none ∈ gj_ws N := by
    have : Cond.code N.2.1 N.1 N.2.2.1 N.2.2.2.1 ∈ gj_ws N := List.mem_cons_self
    rw [hret] at this
    exact this
  have hc0 : (Cond.code N.2.1 N.1 N.2.2.1 none).before #[Value.ref b] s = true := by
    have := hts _ hc
    rw [hret] at this
    exact this
  refine gl_back (N := N) (rest := rest) (Q' := q_n lim' P) (a := (Value.ref o :: As).toArray) ?_ hS hL ?_
  · rcases hl with hl | ⟨host, hl⟩
    · exact va_runI (As := As) (rest := rest) (b := o) ⟨C.1, C.2.1, C.2.2.1, C.2.2.2.2.2.1, hts⟩ hE ⟨⟨rfl, rfl, hrm2.1, hrm2.2, gj_pay hc hts, hmem, hc0, hts _ hi, hy, hlen, hts _ hl⟩, hnm, hts _ hin⟩ hpre rfl hn hL.1 rfl (lv_room hrm) hd ⟨hkc, hks⟩
    · exact va_runIN (As := As) (rest := rest) (b := o) ⟨C.1, C.2.1, C.2.2.1, C.2.2.2.2.2.1, hts⟩ hE ⟨⟨⟨rfl, rfl, hrm2.1, hrm2.2, gj_pay hc hts, hmem⟩, hc0, hts _ hi, hy, hlen, va_Nw.use rfl (C.2.2.2.2.2.2.2.1.2.1 _ hl)⟩, hnm, hts _ hin⟩ hpre rfl hn hL.1 rfl (lv_room hrm) hd ⟨hkc, hks⟩
  · rintro r l' s' v' ⟨rfl, rfl, h⟩
    exact kk s' v' h
theorem gl_new (C : lw_C X p s m meth c b nx xs) (hk : gj_Nk RL index ci n t) (hkc : kc + 1 ≤ 600000) (hks : ks + n ≤ 7302250) (hd : decode code pc = .ok (.new index, 3)) (hq : pc + 3 = q)
    (kk : lw_G X p e s m below meth c b (lim + 1) (va_up σ lim (some (.inl (ci, t)))) (gj_up v lim (fun _ => 0)) (kc + 1) (ks + n) q L (.ref lim :: rest)) : lw_G X p e s m below meth c b lim σ v kc ks pc L rest := by
  subst hq
  intro H locs ls hR hS hL
  obtain ⟨K, T, ty0, h1, h2, h3, h4, h5, h6, h7⟩ := hk
  have hts := C.2.2.2.2.2.2.1
  have hKn := C.2.2.2.2.2.2.2.1.1.1 ci _ h1
  refine W.newcK C.1 C.2.1 C.2.2.2.2.2.1 (hts _ h4) (hts _ h5) (hts _ h6) rfl hd hkc hks hKn.2.1 rfl fun H1 kC hkC e1 z1 o1 => ?_
  have hsz := hR.2.1
  rw [hsz] at e1 z1 o1 ⊢
  exact kk H1 locs ls (hR.push (sh := .inl (ci, t)) (f := fun _ => 0) ⟨_, h1, (u_born ty0 hts h2 hKn hkC e1 h3).to h7⟩ z1 o1) ⟨Nat.le_trans hS.1 (by omega), fun x g1 g2 => (o1 x (by have := hS.1; omega)).trans (hS.2.1 x g1 g2), hS.2.2⟩ hL
end LC
