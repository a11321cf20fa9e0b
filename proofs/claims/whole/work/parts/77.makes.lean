/-! things made: new, newarray, constructors -/
section MK
variable {x : Kx} {cc : ByteArray} {nL : Nat} {own : String} {ret : Option FieldType} {D : va_G} {tys : List (ClassId × FieldType)} {rm : Room} {A : Nat → Prop} {cells slots : Nat} {ws : va_W} {pc n : Nat} {lv lv' : List (Nat × Value)} {st : List Value}
def prim (ty : FieldType) : Prop := ∀ (U : State) (cA : ClassId), va_RA U cA ty → U.vm.findClass ("[" ++ ty.toString) = some cA
theorem prI : prim .int := fun _ _ h => h
theorem prB : prim .byte := fun _ _ h => h
theorem prJ : prim .long := fun _ _ h => h
theorem prZ : prim .boolean := fun _ _ h => h
theorem v_newa (k : Kf x cc nL own ret D tys rm) (hA : ∀ q, x.2.2.2.2.1.heap.size ≤ q → A q) {atype : ArrayType} {ty : FieldType} (t0 : Nat) {cA : ClassId} (ht : tys[t0]? = some (cA, ty)) (hty : newarray.typeOf atype = ty) (hpr : prim ty) (hw : Cond.arrayClass ty ∈ TB) {N : Nat} {i : Int} (a0 : vp_A) (ha : ∀ cA : ClassId, vp_cell cA a0 = arrV cA N (fun _ => defaultValue ty)) (hi : i = (N : Int)) (hN : N < 2147483648) (hby : N * componentBytes ty ≤ 536870912) (hcs : cells + 1 ≤ rm.cells ∧ slots + N ≤ rm.slots) (hd : decode cc pc = .ok (.newarray atype, 2)) (hn : pc + 2 = n)
    (h : ∀ q : Nat, Vw x nL A D true (cells + 1) (slots + N) (ws ++ [(q, .inl (cA, a0))]) n lv (.ref q :: st)) : Vw x nL A D true cells slots ws pc lv (.int (iI i) :: st) := by
  subst hn
  subst hty
  subst hi
  rw [← k.2.2.2.2.2.2.2.2] at hcs
  intro H locs ls a b c d
  have hin : in32 (N : Int) := ⟨by omega, by omega⟩
  refine va_newaK k.1 k.2.1 (k.2.2.2.2.1 _ hw) rfl hd rfl (fun h9 => ?_) (by rw [iI_clamp hin]; rfl) hby hcs.1 hcs.2 rfl (fun H1 cB e1 z1 o1 hAr hNm => ?_)
  · have h8 : iI (N : Int) < iI 0 := h9
    rw [iI_lt hin ⟨by omega, by omega⟩] at h8
    omega
  · have hR := (k.2.2.2.2.2.2.2.1.1.2 t0 _ ht).2
    have e9 : cB = cA := by
      have h9 := hpr _ _ hR
      rw [hNm] at h9
      exact Option.some.inj h9
    subst e9
    have hk : ∀ (k9 : Nat) (y : Nat × va_E), ws[k9]? = some y → H1[y.1]? = H[y.1]? := fun k9 y hy => o1 y.1 ((a k9 y hy).lt)
    refine h H.size H1 locs ls ((va_P.kept a hk).app (fun k9 y hy => ?_)) (b.push a rfl (hA _ c.1.1)) ⟨⟨Nat.le_trans c.1.1 (by omega), fun y h1 h2 => (o1 y (Nat.lt_of_lt_of_le h1 c.1.1)).trans (c.1.2.1 y h1 h2), c.1.2.2⟩, fun h9 => by cases h9⟩ d
    have hz : k9 < 1 := (List.getElem?_eq_some_iff.mp hy).1
    rw [show k9 = 0 by omega] at hy
    cases hy
    show H1[H.size]? = some (vp_cell _ _)
    rw [ha]
    exact e1
theorem v_newo (k : Kf x cc nL own ret D tys rm) (hA : ∀ q, x.2.2.2.2.1.heap.size ≤ q → A q) {C : String} {T : u_T} {ty : Nat → FieldType} {N ci index : Nat} (hc : CI ci C T ty N) (hcl : Cond.classLink own index C ∈ TB) (hinst : Cond.instantiable C N ∈ TB) (hini : Cond.initialized C ∈ TB) (fs : List Value) (hfs : ∀ j, j < N → defaultValue (ty j) = vp_V fs j) (hcs : cells + 1 ≤ rm.cells ∧ slots + N ≤ rm.slots) (hd : decode cc pc = .ok (.new index, 3)) (hn : pc + 3 = n)
    (h : ∀ q : Nat, Vw x nL A D true (cells + 1) (slots + N) (ws ++ [(q, .inr (ci, fs))]) n lv (.ref q :: st)) : Vw x nL A D true cells slots ws pc lv st := by
  subst hn
  rw [← k.2.2.2.2.2.2.2.2] at hcs
  intro H locs ls a b c d
  exact va_new k.1 k.2.1 k.2.2.2.2.1 hc.2.1 ty hc.2.2.1 k.2.2.2.1 (k.2.2.2.2.1 _ hcl) (k.2.2.2.2.1 _ hinst) (k.2.2.2.2.1 _ hini) k.2.2.2.2.2.2.2.1.1 a b c.1 hA hc.1 hfs hcs.1 hcs.2 hd (fun q H1 p1 d1 s1 => h q H1 locs ls p1 d1 ⟨s1, fun h9 => by cases h9⟩ d)
theorem v_objI (k : Kf x cc nL own ret D tys rm) {idx a : Nat} (hl : Cond.methodLink own idx Lib.objectInit ∈ TB) (hi : Cond.instanceMethod Lib.objectInit ∈ TB) (hco : Cond.code Lib.objectInit ⟨#[0xb1]⟩ 1 none ∈ TB) (hr : 1 ≤ rm.frames ∧ 20 ≤ rm.locals) (hW : (st.map fun v => v.category).sum ≤ 8) (hd : decode cc pc = .ok (.invokespecial idx, 3)) (hn : pc + 3 = n) (h : Vw x nL A D true cells slots ws n lv st) : Vw x nL A D true cells slots ws pc lv (.ref a :: st) := by
  subst hn
  rw [← k.2.2.2.2.2.2.2.2] at hr
  intro H locs ls a' b c d
  have hw := k.2.2.2.2.1
  exact W.objInit k.1 k.2.1 k.2.2.2.1 (hw _ hl) (hw _ hi) (hw _ hco) rfl (d.1.trans k.2.2.1.symm) rfl hd hr.1 (by show 0 + _ + 12 ≤ _; omega) (h H locs ls a' b c d)
theorem v_putF (k : Kf x cc nL own ret D tys rm) {C : String} {T : u_T} {ty : Nat → FieldType} {N ci i a : Nat} {fs : List Value} {v : Value} (hin : x.2.2.2.2.2.2.2.2.1.name = "<init>") (hc : CI ci C T ty N) (q0 f : Nat) (hf : f < N) (hl : Cond.fieldLink own i (T f).1 (T f).2.1 (T f).2.2.1 ∈ TB) (he : ws[q0]? = some (a, .inr (ci, fs))) (hfin : (T f).2.2.2 = true) (hdecl : (T f).1 = own) (hnr : narrow (ty f) v = v) (hft : fits (ty f) v = true) (hlen : f < fs.length) (hd : decode cc pc = .ok (.putfield i, 3)) (hn : pc + 3 = n) (h : Vw x nL A D true cells slots (ws.set q0 (a, .inr (ci, fs.set f v))) n lv (st)) : Vw x nL A D true cells slots ws pc lv (v :: .ref a :: st) := by
  subst hn
  exact fun H locs ls a' b' c d => va_putF k.1 k.2.1 k.2.2.2.2.1 hc.2.1 ty hc.2.2.1 hc.2.2.2 k.2.2.2.1 k.2.2.2.2.2.2.2.1.1 a' b' c.1 q0 he hc.1 f hf (k.2.2.2.2.1 _ hl) (fun _ h9 => h9) hfin hin hdecl (hc.2.2.1 f hf) hnr hft hlen hd (fun H1 l1 p1 d1 s1 => h H1 l1 ls p1 d1 ⟨s1, fun h9 => by cases h9⟩ d)
end MK
def QC (D : va_G) (A : Nat → Prop) (post : va_W → Prop) : Array Value → State → Outcome → State → Prop := fun _ st oc t => (∃ w1, oc = .returned none ∧ post w1 ∧ va_P D vwCl w1 t.heap ∧ va_D A w1) ∧ va_F A st t
/-- a constructor: it changes its cells and makes mc things of ms fields in all -/
def Cn (l : Launch) (y : MethodName) (b : ByteArray) (ml : Nat) (rm : Room) (D : va_G) (tys : List (ClassId × FieldType)) (args : List Value) (wc : va_W) (post : va_W → Prop) (mc ms : Nat) : Prop :=
  ∀ sz : Nat, Met l y (Cond.code y b ml none :: TB) rm (va_Pc args (fun U => U.heap.size = sz ∧ va_P D vwCl wc U.heap ∧ Kn D tys U ∧ va_D (fun _ => True) wc)) (QC D (va_A wc sz) post) mc ms (va_A wc sz)
def isC (x : Kx) (D : va_G) (wc : va_W) (post : va_W → Prop) (mc ms : Nat) : Prop := x.2.2.2.2.2.2.2.2.2.2 = MQ x.2.2.2.2.2.2.2.1 (QC D (va_A wc x.2.2.2.2.1.heap.size) post) x.2.2.2.2.2.2.1 x.2.2.2.2.1 mc ms (va_A wc x.2.2.2.2.1.heap.size)
section CN
variable {l : Launch} {y : MethodName} {b : ByteArray} {ml : Nat} {rm : Room} {D : va_G} {tys : List (ClassId × FieldType)} {args : List Value} {wc : va_W} {post : va_W → Prop} {mc ms : Nat}
theorem Cn_of (hy : plainName y.cls = true) (hl : (lg_sl args).length ≤ ml) (hnm : y.name = "<init>") (h : ∀ x : Kx, Kf x b ml y.cls none D tys rm → isC x D wc post mc ms → x.2.2.2.2.2.2.2.2.1.name = "<init>" → (∀ q, x.2.2.2.2.1.heap.size ≤ q → va_A wc x.2.2.2.2.1.heap.size q) → Vw x ml (va_A wc x.2.2.2.2.1.heap.size) D true 0 0 wc 0 (lv_args 0 args) []) : Cn l y b ml rm D tys args wc post mc ms := by
  intro sz
  refine Met.ofW (cc := b) (maxL := ml) (ret := none) hy rfl ?_
  intro p e s m args' below meth c s₁ B hml hv
  obtain ⟨rfl, hsz, hP, hK, hD⟩ := hv
  subst hsz
  have hts := atoms_spec (ws := Cond.code y b ml none :: TB) B.pre
  have hown : s.vm.findClass y.cls = some m.cls := findClass_of_methodNamed B.named
  have hk : Kf (p, l, e, rm, s, m, args.toArray, below, meth, c, MQ below (QC D (va_A wc s.heap.size) post) args.toArray s mc ms (va_A wc s.heap.size)) b ml y.cls none D tys rm :=
    ⟨B.exec, B.bytes, hml, hown, fun w hw => hts w (List.mem_cons_of_mem _ hw), B.returns, B.notSynchronized, hK, rfl⟩
  have hl := lv_entry args (n := ml) hl
  have hname : meth.name = "<init>" := (name_of_methodNamed B.named B.method).1.trans hnm
  rw [lg_entry_eq]
  exact h _ hk rfl hname (fun q hq => Or.inr hq) s.heap [] _ hP hD.self ⟨va_S.rf, fun h9 => by cases h9⟩ hl
end CN
section MK2
variable {x : Kx} {cc : ByteArray} {nL : Nat} {own : String} {ret : Option FieldType} {D : va_G} {tys : List (ClassId × FieldType)} {rm : Room} {A : Nat → Prop} {cells slots : Nat} {ws : va_W} {pc n : Nat} {lv lv' : List (Nat × Value)} {st : List Value}
theorem v_vretC (k : Kf x cc nL own none D tys rm) {wc : va_W} {post : va_W → Prop} {mc ms : Nat} (hq : isC x D wc post mc ms) (hp : post ws) (hd : decode cc pc = .ok (.return_, 1)) : Vw x nL (va_A wc x.2.2.2.2.1.heap.size) D true mc ms ws pc lv [] := by
  intro H locs ls a b c d
  rw [hq]
  exact W.vret k.1 k.2.1 k.2.2.2.2.2.1 (fun t ht hW => ⟨⟨ws, rfl, hp, by rw [ht]; exact a, b⟩, c.1.F ht⟩) c.1.2.2 hd k.2.2.2.2.2.2.1
theorem v_callC (k : Kf x cc nL own ret D tys rm) (hA : ∀ q, x.2.2.2.2.1.heap.size ≤ q → A q) {y : MethodName} {b : ByteArray} {ml np i a mc ms : Nat} {rmc : Room} {As stk : List Value} {wc wr : va_W} {post : va_W → Prop} (is ir : List Nat) (hM : ∀ l, Cn l y b ml rmc D tys (.ref a :: As) wc post mc ms) (hi : MI y b ml none np) (hin : Cond.instanceMethod y ∈ TB) (hnm : y.name = "<init>") (hl : Cond.methodLink own i y ∈ TB) (hR : rmc.frames + 1 ≤ rm.frames ∧ 8 + (ml + 11) + rmc.locals ≤ rm.locals) (hz : rmc.cells = mc ∧ rmc.slots = ms)
    (his : is.map (fun i => ws[i]?) = wc.map some) (hir : ir.map (fun i => ws[i]?) = wr.map some) (hnd : va_nd is = true) (hnr : va_nd ir = true) (hdis : ∀ i ∈ ir, i ∉ is) (hnp : As.length = np) (hst : stk = As.reverse ++ .ref a :: st) (hW : (st.map fun v => v.category).sum ≤ 8) (hcs : cells + mc ≤ rm.cells ∧ slots + ms ≤ rm.slots) (hd : decode cc pc = .ok (.invokespecial i, 3)) (hn : pc + 3 = n)
    (h : ∀ w1, post w1 → Vw x nL A D true (cells + mc) (slots + ms) (wr ++ w1) n lv st) : Vw x nL A D true cells slots ws pc lv stk := by
  subst hn
  intro H locs ls a' b' c d
  rw [← k.2.2.2.2.2.2.2.2] at hcs hR
  have hw := k.2.2.2.2.1
  have hF := va_free (wc := wc) b' c.1 hA is his
  have hr := va_runI (p := x.1) (l := x.2.1) (e := x.2.2.1) (R := x.2.2.2.1) (s := x.2.2.2.2.1) (m := x.2.2.2.2.2.1) (args := x.2.2.2.2.2.2.1) (below := x.2.2.2.2.2.2.2.1) (meth := x.2.2.2.2.2.2.2.2.1) (c := x.2.2.2.2.2.2.2.2.2.1) (H := H) (locs := locs) (cells := cells) (slots := slots) (g := F0 x.2.2.2.2.2.1 pc ls stk) (b := a) (As := As) (rest := st) (Ts := TB) (own := own) ⟨k.1, k.2.1, k.2.2.1, k.2.2.2.1, k.2.2.2.2.1⟩ (hM x.2.1 H.size) ⟨callB_of np hw (TB_in hi.1) rfl hz.1 hz.2 (hw _ hi.2.1) (hw _ hl) hi.2.2 hR, hnm, hw _ hin⟩ ⟨fun a9 U g mk h9 => by
      obtain ⟨h1, h2, h3, h4, h5⟩ := h9
      exact ⟨h1, h2, h3, Kn.same (s := U) (U := U.calling g mk a9) rfl h4, h5⟩, fun U hU hWm => ⟨rfl, by rw [hU], by rw [hU]; exact sub_places his a', Kn.warm hWm k.2.2.2.2.2.2.2.1, hD9 b' hnd his⟩⟩ rfl hnp d.1 hst (lv_room hW) hd hcs
  intro T9 hT X
  obtain ⟨v, st₀, t, T', L, h0, X', hL, e1, e2, ⟨⟨w1, hv, hp, hP1, hD1⟩, hz9, hk9⟩, go⟩ := hr T9 hT X
  cases hv
  rw [h0] at hz9 hk9
  obtain ⟨a2, b2⟩ := va_join (H1 := t.heap) a' b' is ir his hir hnr hdis hk9 hF hP1 hD1
  obtain ⟨t2, q1, q2⟩ := h w1 hp t.heap (locs ++ L) ls a2 b2 ⟨⟨Nat.le_trans c.1.1 hz9, fun q h1 h2 => by
      rw [hk9 q (Nat.lt_of_lt_of_le h1 c.1.1) (fun z => h2 (hF q z))]
      exact c.1.2.1 q h1 h2, fun q hq => by
      rcases List.mem_append.mp hq with h | h
      · exact c.1.2.2 q h
      · exact hF _ (hL q h)⟩, fun h9 => by cases h9⟩ d T' e1 X'
  exact ⟨t2, go t2 q1, q2⟩
/-- a constructor on the thing that was made last -/
theorem v_callE (k : Kf x cc nL own ret D tys rm) (hA : ∀ q, x.2.2.2.2.1.heap.size ≤ q → A q) {y : MethodName} {b : ByteArray} {ml np i a mc ms : Nat} {rmc : Room} {As stk : List Value} {wr : va_W} {e : va_E} {post : va_W → Prop} (hM : ∀ l, Cn l y b ml rmc D tys (.ref a :: As) [(a, e)] post mc ms) (hi : MI y b ml none np) (hin : Cond.instanceMethod y ∈ TB) (hnm : y.name = "<init>") (hl : Cond.methodLink own i y ∈ TB) (hR : rmc.frames + 1 ≤ rm.frames ∧ 8 + (ml + 11) + rmc.locals ≤ rm.locals) (hz : rmc.cells = mc ∧ rmc.slots = ms)
    (hnp : As.length = np) (hst : stk = As.reverse ++ .ref a :: st) (hW : (st.map fun v => v.category).sum ≤ 8) (hcs : cells + mc ≤ rm.cells ∧ slots + ms ≤ rm.slots) (hd : decode cc pc = .ok (.invokespecial i, 3)) (hn : pc + 3 = n)
    (h : ∀ w1, post w1 → Vw x nL A D true (cells + mc) (slots + ms) (wr ++ w1) n lv st) : Vw x nL A D true cells slots (wr ++ [(a, e)]) pc lv stk := by
  subst hn
  intro H locs ls a' b' c d
  rw [← k.2.2.2.2.2.2.2.2] at hcs hR
  have hw := k.2.2.2.2.1
  have elast : (wr ++ [(a, e)])[wr.length]? = some (a, e) := by rw [List.getElem?_append_right (Nat.le_refl _), Nat.sub_self]; rfl
  have eold : ∀ (j : Nat) (q : Nat × va_E), wr[j]? = some q → (wr ++ [(a, e)])[j]? = some q := fun j q hq => by
    have hj : j < wr.length := (List.getElem?_eq_some_iff.mp hq).1
    rw [List.getElem?_append_left hj]
    exact hq
  have hold : ∀ (j : Nat) (q : Nat × va_E), wr[j]? = some q → q.1 ≠ a := fun j q hq e9 => by
    have hj : j < wr.length := (List.getElem?_eq_some_iff.mp hq).1
    have := b'.1 j wr.length q (a, e) (eold j q hq) elast e9
    omega
  have hPc : va_P D vwCl [(a, e)] H := fun j q hq => by
    have hj : j < 1 := (List.getElem?_eq_some_iff.mp hq).1
    rw [show j = 0 by omega] at hq
    cases hq
    exact a' _ _ elast
  have hDc : va_D (fun _ => True) [(a, e)] := ⟨fun j1 j2 p q h1 h2 _ => by
      have g1 : j1 < 1 := (List.getElem?_eq_some_iff.mp h1).1
      have g2 : j2 < 1 := (List.getElem?_eq_some_iff.mp h2).1
      omega, fun _ _ _ => trivial⟩
  have hF : ∀ q, va_A [(a, e)] H.size q → A q := fun q hq => by
    rcases hq with ⟨j, e9, h9⟩ | h9
    · have hj : j < 1 := (List.getElem?_eq_some_iff.mp h9).1
      rw [show j = 0 by omega] at h9
      cases h9
      exact b'.2 _ _ elast
    · exact hA q (Nat.le_trans c.1.1 h9)
  have hr := va_runI (p := x.1) (l := x.2.1) (e := x.2.2.1) (R := x.2.2.2.1) (s := x.2.2.2.2.1) (m := x.2.2.2.2.2.1) (args := x.2.2.2.2.2.2.1) (below := x.2.2.2.2.2.2.2.1) (meth := x.2.2.2.2.2.2.2.2.1) (c := x.2.2.2.2.2.2.2.2.2.1) (H := H) (locs := locs) (cells := cells) (slots := slots) (g := F0 x.2.2.2.2.2.1 pc ls stk) (b := a) (As := As) (rest := st) (Ts := TB) (own := own) ⟨k.1, k.2.1, k.2.2.1, k.2.2.2.1, k.2.2.2.2.1⟩ (hM x.2.1 H.size) ⟨callB_of np hw (TB_in hi.1) rfl hz.1 hz.2 (hw _ hi.2.1) (hw _ hl) hi.2.2 hR, hnm, hw _ hin⟩ ⟨fun a9 U g mk h9 => by
      obtain ⟨h1, h2, h3, h4, h5⟩ := h9
      exact ⟨h1, h2, h3, Kn.same (s := U) (U := U.calling g mk a9) rfl h4, h5⟩, fun U hU hWm => ⟨rfl, by rw [hU], by rw [hU]; exact hPc, Kn.warm hWm k.2.2.2.2.2.2.2.1, hDc⟩⟩ rfl hnp d.1 hst (lv_room hW) hd hcs
  intro T9 hT X
  obtain ⟨v, st₀, t, T', L, h0, X', hL, e1, e2, ⟨⟨w1, hv, hp, hP1, hD1⟩, hz9, hk9⟩, go⟩ := hr T9 hT X
  cases hv
  rw [h0] at hz9 hk9
  have hlt : ∀ (j : Nat) (q : Nat × va_E), wr[j]? = some q → q.1 < H.size := fun j q hq => (a' j q (eold j q hq)).lt
  have hno : ∀ (j : Nat) (q : Nat × va_E), wr[j]? = some q → ¬ va_A [(a, e)] H.size q.1 := fun j q hq h9 => by
    rcases h9 with ⟨j9, e9, h9⟩ | h9
    · have hj : j9 < 1 := (List.getElem?_eq_some_iff.mp h9).1
      rw [show j9 = 0 by omega] at h9
      have h8 : ((a, e) : Nat × va_E) = (q.1, e9) := Option.some.inj h9
      exact hold j q hq (congrArg Prod.fst h8).symm
    · have := hlt j q hq
      omega
  have hPr : va_P D vwCl wr t.heap := fun j q hq => (a' j q (eold j q hq)).kept (hk9 _ (hlt j q hq) (hno j q hq))
  have hDr : va_D A wr := ⟨fun j1 j2 p q h1 h2 e9 => b'.1 j1 j2 p q (eold _ _ h1) (eold _ _ h2) e9, fun j q hq => b'.2 j q (eold _ _ hq)⟩
  have hD2 : va_D A w1 := ⟨hD1.1, fun j q hq => hF _ (hD1.2 j q hq)⟩
  obtain ⟨t2, q1, q2⟩ := h w1 hp t.heap (locs ++ L) ls (hPr.app hP1) (hDr.app hD2 (fun i9 j9 p q h1 h2 e9 => hno i9 p h1 (by rw [e9]; exact hD1.2 j9 q h2))) ⟨⟨Nat.le_trans c.1.1 hz9, fun q h1 h2 => by
      rw [hk9 q (Nat.lt_of_lt_of_le h1 c.1.1) (fun z => h2 (hF q z))]
      exact c.1.2.1 q h1 h2, fun q hq => by
      rcases List.mem_append.mp hq with h | h
      · exact c.1.2.2 q h
      · exact hF _ (hL q h)⟩, fun h9 => by cases h9⟩ d T' e1 X'
  exact ⟨t2, go t2 q1, q2⟩
end MK2
theorem oi1 : Cond.instanceMethod Lib.objectInit ∈ TB := TB_all (L := [Cond.instanceMethod Lib.objectInit]) (by decide +kernel) _ List.mem_cons_self
theorem oi2 : Cond.code Lib.objectInit ⟨#[0xb1]⟩ 1 none ∈ TB := TB_all (L := [Cond.code Lib.objectInit ⟨#[0xb1]⟩ 1 none]) (by decide +kernel) _ List.mem_cons_self
