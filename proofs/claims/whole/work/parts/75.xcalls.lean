/-! methods with handlers, and calls of what may throw -/
def NX : String → State → State → Prop := fun _ _ _ => False
/-- a method with handlers that catches all, changes the cells wc and makes one thing at most -/
def Lh (l : Launch) (y : MethodName) (b : ByteArray) (ml : Nat) (rt : Option FieldType) (hh : List (Nat × Nat × Nat × Nat)) (rm : Room) (D : va_G) (tys : List (ClassId × FieldType)) (args : List Value) (wc : va_W) (post : Option Value → va_W → Prop) : Prop :=
  vx_Met l y (Cond.codeWith y b ml rt hh :: TB) rm (va_Pc args (fun U => va_P D vwCl wc U.heap ∧ Kn D tys U ∧ va_D (fun _ => True) wc ∧ Kt (fun q => q ∈ wc.map Prod.fst) U U.heap)) (QU D (wc.map Prod.fst) post) NX 1 6 (fun q => q ∈ wc.map Prod.fst)
def isL (x : Kx) (D : va_G) (ad : List Nat) (post : Option Value → va_W → Prop) : Prop := x.2.2.2.2.2.2.2.2.2.2 = vx_MQ x.2.2.2.2.2.2.2.1 (QU D ad post) NX x.2.2.2.2.2.2.1 x.2.2.2.2.1 1 6 (fun q => q ∈ ad)
def Kl (x : Kx) (A : Nat → Prop) (hh : List (Nat × Nat × Nat × Nat)) : Prop := Kt A x.2.2.2.2.1 x.2.2.2.2.1.heap ∧ x.2.2.2.2.2.2.2.2.2.1.exceptionTable.toList = tableOf hh ∧ x.2.1.stackTraces = false
section LH
variable {l : Launch} {y : MethodName} {b : ByteArray} {ml : Nat} {rt : Option FieldType} {hh : List (Nat × Nat × Nat × Nat)} {rm : Room} {D : va_G} {tys : List (ClassId × FieldType)} {args : List Value} {wc : va_W} {post : Option Value → va_W → Prop}
theorem Lh_of (hst : l.stackTraces = false) (hy : plainName y.cls = true) (hl : (lg_sl args).length ≤ ml) (h : ∀ x : Kx, Kf x b ml y.cls rt D tys rm → isL x D (wc.map Prod.fst) post → Kl x (fun q => q ∈ wc.map Prod.fst) hh → Vw x ml (fun q => q ∈ wc.map Prod.fst) D true 0 0 wc 0 (lv_args 0 args) []) : Lh l y b ml rt hh rm D tys args wc post := by
  refine vx_ofWH (cc := b) (maxL := ml) (ret := rt) (hh := hh) hy rfl ?_
  intro p e s m args' below meth c s₁ B hml hv
  obtain ⟨rfl, hP, hK, hD, hKt⟩ := hv
  have hts := atoms_spec (ws := Cond.codeWith y b ml rt hh :: TB) B.pre
  have hown : s.vm.findClass y.cls = some m.cls := findClass_of_methodNamed B.named
  have hk : Kf (p, l, e, rm, s, m, args.toArray, below, meth, c, vx_MQ below (QU D (wc.map Prod.fst) post) NX args.toArray s 1 6 (fun q => q ∈ wc.map Prod.fst)) b ml y.cls rt D tys rm :=
    ⟨B.exec, B.bytes, hml, hown, fun w hw => hts w (List.mem_cons_of_mem _ hw), B.returns, B.notSynchronized, hK, rfl⟩
  have htab : c.exceptionTable.toList = tableOf hh := vx_table (x := y) B (hts _ List.mem_cons_self)
  have hl := lv_entry args (n := ml) hl
  have hD2 : va_D (fun q => q ∈ wc.map Prod.fst) wc := ⟨hD.1, fun k q hq => List.mem_map.mpr ⟨q, List.mem_of_getElem? hq, rfl⟩⟩
  rw [lg_entry_eq]
  exact h _ hk rfl ⟨hKt, htab, hst⟩ s.heap [] _ hP hD2 ⟨va_S.rf, fun h9 => by cases h9⟩ hl
end LH
/-- where a throw of E at pc is caught -/
def CAT (own : String) (hh : List (Nat × Nat × Nat × Nat)) (pc : Nat) (E : String) (hpc : Nat) : Prop := ∃ pre z suf name, tableOf hh = pre ++ z :: suf ∧ (∀ w ∈ pre, w.catchType ≠ 0 ∧ ∃ nm, Cond.classLink own w.catchType nm ∈ TB ∧ ((E = xIAE ∧ nm = xISE) ∨ (E = xUOE ∧ nm = xIAE))) ∧ covers z pc = true ∧ z.catchType ≠ 0 ∧ Cond.classLink own z.catchType name ∈ TB ∧ Cond.castable E name ∈ badX ∧ z.handlerPc = hpc
section VCX
variable {x : Kx} {cc : ByteArray} {nL : Nat} {own : String} {ret : Option FieldType} {D : va_G} {tys : List (ClassId × FieldType)} {rm : Room} {A : Nat → Prop} {cells slots : Nat} {ws : va_W} {pc n : Nat} {lv lv' : List (Nat × Value)} {st : List Value} {ad : List Nat}
theorem v_iretL (k : Kf x cc nL own (some .int) D tys rm) {v : Int32} {post : Option Value → va_W → Prop} (hq : isL x D ad post) (hp : post (some (.int v)) ws) (had : ws.map Prod.fst = ad) (hd : decode cc pc = .ok (.ireturn, 1)) : Vw x nL (fun q => q ∈ ad) D true 1 6 ws pc lv [.int v] := by
  intro H locs ls a b c d
  rw [hq]
  exact vx_ret (W.iret (cells := 1) (slots := 6) k.1 k.2.1 k.2.2.2.2.2.1 (fun t ht hW => ⟨⟨_, ws, rfl, hp, had, by rw [ht]; exact a⟩, c.1.F ht⟩) c.1.2.2 hd k.2.2.2.2.2.2.1)
theorem pre_bX {wc : va_W} {av : List Value} : FrameBlind (va_Pc av (fun U => va_P D vwCl wc U.heap ∧ Kn D tys U ∧ va_D (fun _ => True) wc ∧ Kt (fun q => q ∈ wc.map Prod.fst) U U.heap)) := by
  intro a U g mk h
  obtain ⟨h1, h2, h3, h4, h5⟩ := h
  exact ⟨h1, h2, Kn.same (s := U) (U := U.calling g mk a) rfl h3, h4, Kt.same (s := U) (U := U.calling g mk a) rfl h5⟩
theorem places_A {wc : va_W} {is : List Nat} (his : is.map (fun i => ws[i]?) = wc.map some) (b : va_D A ws) : ∀ q, q ∈ wc.map Prod.fst → A q := by
  intro q hq
  obtain ⟨c9, hc, e⟩ := List.mem_map.mp hq
  obtain ⟨j, hj⟩ := List.getElem?_of_mem hc
  obtain ⟨k', -, h4⟩ := at_places' his hj
  rw [← e]
  exact b.2 k' c9 h4
theorem pre_uX (k : Kf x cc nL own ret D tys rm) (kt : Kt A x.2.2.2.2.1 x.2.2.2.2.1.heap) {wc : va_W} {is : List Nat} {av : List Value} {H : Heap} {locs : List Loc} (his : is.map (fun i => ws[i]?) = wc.map some) (hnd : va_nd is = true) (a : va_P D vwCl ws H) (b : va_D A ws) (c : va_S A x.2.2.2.2.1.heap H locs) : ∀ U : State, U.heap = H → x.2.2.2.2.1.WarmedH U.vm → va_Pc av (fun U => va_P D vwCl wc U.heap ∧ Kn D tys U ∧ va_D (fun _ => True) wc ∧ Kt (fun q => q ∈ wc.map Prod.fst) U U.heap) av.toArray U := by
  intro U hU hW
  refine ⟨rfl, by rw [hU]; exact sub_places his a, Kn.warm hW k.2.2.2.2.2.2.2.1, hD9 b hnd his, ?_⟩
  rw [hU]
  exact Kt.warm hW ((kt.kept c.2.1).narrow (places_A his b))
theorem call_bX (k : Kf x cc nL own ret D tys rm) {y : MethodName} {b : ByteArray} {ml np i : Nat} {rt : Option FieldType} {rmc : Room} (hi : MI y b ml rt np) (hl : Cond.methodLink own i y ∈ TB) (hR : rmc.frames + 1 ≤ rm.frames ∧ 8 + (ml + 11) + rmc.locals ≤ rm.locals) (hz : rmc.cells = 1 ∧ rmc.slots = 6) :
    CallB x.2.2.2.1 x.2.2.2.2.1 x.2.2.2.2.2.2.1 own i y b ml rt (Cond.code y b ml rt :: TB) rmc 1 6 np := by
  have hR' := hR
  rw [← k.2.2.2.2.2.2.2.2] at hR'
  exact callB_of np k.2.2.2.2.1 (TB_in hi.1) rfl hz.1 hz.2 (k.2.2.2.2.1 _ hi.2.1) (k.2.2.2.2.1 _ hl) hi.2.2 hR'
theorem after_sx {wc w1 : va_W} {is : List Nat} {H : Heap} {locs L : List Loc} {t : State} (his : is.map (fun i => ws[i]?) = wc.map some) (a : va_P D vwCl ws H) (b : va_D A ws) (c : Sx true A x.2.2.2.2.1.heap H locs) (had : w1.map Prod.fst = wc.map Prod.fst) (hP1 : va_P D vwCl w1 t.heap) (hz : H.size ≤ t.heap.size) (hk : ∀ q : Nat, q < H.size → ¬ q ∈ wc.map Prod.fst → t.heap[q]? = H[q]?) (hL : ∀ q ∈ L, q.base ∈ wc.map Prod.fst) : va_P D vwCl (wput ws is w1) t.heap ∧ va_D A (wput ws is w1) ∧ Sx true A x.2.2.2.2.1.heap t.heap (locs ++ L) := by
  have hA := places_A his b
  obtain ⟨a', b'⟩ := world_up (H := H) (H1 := t.heap) his a b had hP1 (fun q h1 h2 => hk q h1 h2)
  exact ⟨a', b', ⟨Nat.le_trans c.1.1 hz, fun q h1 h2 => by
      rw [hk q (Nat.lt_of_lt_of_le h1 c.1.1) (fun z => h2 (hA q z))]
      exact c.1.2.1 q h1 h2, fun q hq => by
      rcases List.mem_append.mp hq with h | h
      · exact c.1.2.2 q h
      · exact hA _ (hL q h)⟩, fun h9 => by cases h9⟩
/-- a call of a method that may throw -/
theorem v_callX (k : Kf x cc nL own ret D tys rm) {hh : List (Nat × Nat × Nat × Nat)} (kl : Kl x A hh) {y : MethodName} {b : ByteArray} {ml np i a : Nat} {rt : Option FieldType} {rmc : Room} {As stk : List Value} {wc : va_W} {post : Option Value → va_W → Prop} {xp : String → va_W → Prop} {T : u_T} {N ci : Nat} {fs : List Value} (is : List Nat) (q0 : Nat) (hM : ∀ l : Launch, l.stackTraces = false → Ux l y b ml rt rmc D tys (.ref a :: As) wc post xp) (hi : MIv y b ml rt np) (hl : Cond.methodLink own i y ∈ TB) (hR : rmc.frames + 1 ≤ rm.frames ∧ 8 + (ml + 11) + rmc.locals ≤ rm.locals) (hz : rmc.cells = 1 ∧ rmc.slots = 6)
    (his : is.map (fun i => ws[i]?) = wc.map some) (hnd : va_nd is = true) (he : ws[q0]? = some (a, .inr (ci, fs))) (hc : vwCl[ci]? = some (y.cls, T, N)) (hnp : As.length = np) (hst : stk = As.reverse ++ .ref a :: st) (hW : (st.map fun v => v.category).sum ≤ 8) (hcs : cells + 1 ≤ rm.cells ∧ slots + 6 ≤ rm.slots) (hd : decode cc pc = .ok (.invokevirtual i, 3)) (hn : pc + 3 = n)
    (hx : ∀ E w1, xp E w1 → ∃ hpc, CAT own hh pc E hpc ∧ ∀ q9 : Nat, Vw x nL A D true (cells + 1) (slots + 6) (wput ws is w1) hpc lv [.ref q9])
    (h : ∀ v w1, post v w1 → Vw x nL A D true (cells + 1) (slots + 6) (wput ws is w1) n lv (v.toList ++ st)) : Vw x nL A D true cells slots ws pc lv stk := by
  subst hn
  intro H locs ls a' b' c d
  have hK := k.2.2.2.2.2.2.2.1.1
  rw [← k.2.2.2.2.2.2.2.2] at hcs
  have hr := vx_runV (p := x.1) (l := x.2.1) (e := x.2.2.1) (R := x.2.2.2.1) (s := x.2.2.2.2.1) (m := x.2.2.2.2.2.1) (args := x.2.2.2.2.2.2.1) (below := x.2.2.2.2.2.2.2.1) (meth := x.2.2.2.2.2.2.2.2.1) (c := x.2.2.2.2.2.2.2.2.2.1) (H := H) (locs := locs) (cells := cells) (slots := slots) (g := F0 x.2.2.2.2.2.1 pc ls stk) (b := a) (C := y.cls) (As := As) (rest := st) (Ts := TB) (own := own) ⟨k.1, k.2.1, k.2.2.1, k.2.2.2.1, k.2.2.2.2.1⟩ (hM x.2.1 kl.2.2) ⟨call_bX k hi.1 hl hR hz, k.2.2.2.2.1 _ hi.2.1, k.2.2.2.2.1 _ hi.2.2⟩ ⟨pre_bX, va_recv hK a' hc he, pre_uX k kl.1 his hnd a' b' c.1⟩ rfl hnp d.1 hst (lv_room hW) hd hcs
  intro T9 hT X
  rcases hr T9 hT X with ⟨v, st₀, t, T', L, h0, X', hL, e1, e2, ⟨⟨v', w1, hv, hp, had, hP1⟩, hz9, hk9⟩, go⟩ | ⟨q, st₀, t, T', L, E, ce, h0, X', hL, e1, e2, ⟨w1, hxp, had, hP1, hz9, hk9⟩, hce, hcv, hcl, go⟩
  · cases hv
    rw [h0] at hz9 hk9
    obtain ⟨a2, b2, c2⟩ := after_sx his a' b' c had hP1 hz9 hk9 hL
    obtain ⟨t2, q1, q2⟩ := h v w1 hp t.heap (locs ++ L) ls a2 b2 c2 d T' e1 X'
    exact ⟨t2, go t2 q1, q2⟩
  · rw [h0] at hz9 hk9
    obtain ⟨a2, b2, c2⟩ := after_sx his a' b' c had hP1 hz9 hk9 hL
    obtain ⟨hpc, ⟨pre, z, suf, name, f1, f2, f3, f4, f5, f6, f7⟩, hv9⟩ := hx E w1 hxp
    have hw := k.2.2.2.2.1
    have hcat := vx_catch (own := own) (name := name) (E := E) (ce := ce) (q := q) (pc := pc) (rest := st) (ls := ls) (H := t.heap) (locs := locs ++ L) (cells := cells + 1) (slots := slots + 6) (Q := x.2.2.2.2.2.2.2.2.2.2) (p := x.1) (l := x.2.1) (e := x.2.2.1) (R := x.2.2.2.1) (s := x.2.2.2.2.1) (m := x.2.2.2.2.2.1) (args := x.2.2.2.2.2.2.1) (below := x.2.2.2.2.2.2.2.1) (meth := x.2.2.2.2.2.2.2.2.1) (c := x.2.2.2.2.2.2.2.2.2.1) k.2.2.2.1 pre z suf (kl.2.1.trans f1) (fun w hw9 => by
        obtain ⟨g1, nm, g2, g3⟩ := f2 w hw9
        refine Or.inr ⟨g1, nm, hw _ g2, ?_⟩
        rcases g3 with ⟨rfl, rfl⟩ | ⟨rfl, rfl⟩
        · exact kl.1.2.2.2.1
        · exact kl.1.2.2.2.2) f3 f4 (hw _ f5) (va_Nw.use rfl (kl.1.2.1 _ f6)) hce hcv hcl (by rw [f7]; exact hv9 q t.heap (locs ++ L) ls a2 b2 c2 d)
    obtain ⟨t2, q1, q2⟩ := hcat T' e1 X'
    exact ⟨t2, go.trans q1, q2⟩
theorem TB_inW {y : MethodName} {b : ByteArray} {ml : Nat} {rt : Option FieldType} {hh : List (Nat × Nat × Nat × Nat)} (h : Cond.codeWith y b ml rt hh ∈ TB) : GoodIn TB (Cond.codeWith y b ml rt hh :: TB) := by
  intro w hw
  rcases List.mem_cons.mp hw with rfl | hw
  · exact ⟨h, good_of_word (TB_good h)⟩
  · exact ⟨hw, good_of_word (TB_good hw)⟩
def MIw (y : MethodName) (b : ByteArray) (ml : Nat) (rt : Option FieldType) (hh : List (Nat × Nat × Nat × Nat)) (np : Nat) : Prop := Cond.codeWith y b ml rt hh ∈ TB ∧ Cond.initialized y.cls ∈ TB ∧ (y.cls ≠ "java/lang/invoke/MethodHandle" ∧ y.cls ≠ "java/lang/invoke/VarHandle") ∧ (parseMethodDescriptor y.desc).map (fun d => d.parameters.length) = some np ∧ Cond.static y ∈ TB
/-- a call of one of the law's methods with handlers -/
theorem v_callL (k : Kf x cc nL own ret D tys rm) (kt : Kt A x.2.2.2.2.1 x.2.2.2.2.1.heap) (hst9 : x.2.1.stackTraces = false) {hh : List (Nat × Nat × Nat × Nat)} {y : MethodName} {b : ByteArray} {ml np i : Nat} {rt : Option FieldType} {rmc : Room} {As stk : List Value} {wc : va_W} {post : Option Value → va_W → Prop} (is : List Nat) (hM : ∀ l : Launch, l.stackTraces = false → Lh l y b ml rt hh rmc D tys As wc post) (hi : MIw y b ml rt hh np) (hl : Cond.methodLink own i y ∈ TB) (hR : rmc.frames + 1 ≤ rm.frames ∧ 8 + (ml + 11) + rmc.locals ≤ rm.locals) (hz : rmc.cells = 1 ∧ rmc.slots = 6)
    (his : is.map (fun i => ws[i]?) = wc.map some) (hnd : va_nd is = true) (hnp : As.length = np) (hst : stk = As.reverse ++ st) (hW : (st.map fun v => v.category).sum ≤ 8) (hcs : cells + 1 ≤ rm.cells ∧ slots + 6 ≤ rm.slots) (hd : decode cc pc = .ok (.invokestatic i, 3)) (hn : pc + 3 = n)
    (h : ∀ v w1, post v w1 → Vw x nL A D true (cells + 1) (slots + 6) (wput ws is w1) n lv (v.toList ++ st)) : Vw x nL A D true cells slots ws pc lv stk := by
  subst hn
  intro H locs ls a' b' c d
  rw [← k.2.2.2.2.2.2.2.2] at hcs hR
  have hw := k.2.2.2.2.1
  have hr := vx_runSX (p := x.1) (l := x.2.1) (e := x.2.2.1) (R := x.2.2.2.1) (s := x.2.2.2.2.1) (m := x.2.2.2.2.2.1) (args := x.2.2.2.2.2.2.1) (below := x.2.2.2.2.2.2.2.1) (meth := x.2.2.2.2.2.2.2.2.1) (c := x.2.2.2.2.2.2.2.2.2.1) (H := H) (locs := locs) (cells := cells) (slots := slots) (g := F0 x.2.2.2.2.2.1 pc ls stk) (hh := hh) (bytes := b) (maxL := ml) (ret := rt) (As := As) (rest := st) (Ts := TB) (own := own) (index := i) (n := np) ⟨k.1, k.2.1, k.2.2.1, k.2.2.2.1, k.2.2.2.2.1⟩ (hM x.2.1 hst9) ⟨⟨hz.1, hz.2, hR.1, hR.2, pay_in hw (TB_inW hi.1), List.mem_cons_self⟩, hw _ hi.1, hw _ hi.2.1, hi.2.2.1, fun sig h9 => by
      have h2 := hi.2.2.2.1
      rw [h9] at h2
      exact (Option.some.inj h2).symm, hw _ hl, hw _ hi.2.2.2.2⟩ ⟨pre_bX, pre_uX k kt his hnd a' b' c.1⟩ rfl hnp d.1 hst (lv_room hW) hd hcs
  intro T9 hT X
  rcases hr T9 hT X with ⟨v, st₀, t, T', L, h0, X', hL, e1, e2, ⟨⟨v', w1, hv, hp, had, hP1⟩, hz9, hk9⟩, go⟩ | ⟨q, st₀, t, T', L, E, ce, h0, X', hL, e1, e2, hno, -⟩
  · cases hv
    rw [h0] at hz9 hk9
    obtain ⟨a2, b2, c2⟩ := after_sx his a' b' c had hP1 hz9 hk9 hL
    obtain ⟨t2, q1, q2⟩ := h v w1 hp t.heap (locs ++ L) ls a2 b2 c2 d T' e1 X'
    exact ⟨t2, go t2 q1, q2⟩
  · exact hno.elim
end VCX
