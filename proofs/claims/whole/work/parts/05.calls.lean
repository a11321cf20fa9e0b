/-! contracts: Rd (reads alone), Up (writes its cells in place); how they are entered, left and called -/
theorem Kn.warm {D : va_G} {tys : List (ClassId × FieldType)} {s U : State} (hW : s.WarmedH U.vm) (h : Kn D tys s) : Kn D tys U := by
  refine ⟨va_K.moved hW.alike h.1, fun w hw => ?_⟩
  have h1 := h.2 w hw
  simp only [nestW, List.mem_cons, List.not_mem_nil, or_false] at hw
  rcases hw with rfl | rfl | rfl
  · exact va_Nw.warmM hW h1
  · exact va_Nw.warmM hW h1
  · exact va_Nw.warmM hW h1
theorem Kn.same {D : va_G} {tys : List (ClassId × FieldType)} {s U : State} (hv : s.vm = U.vm) (h : Kn D tys s) : Kn D tys U := by
  refine ⟨va_K.moved (by rw [hv]; exact Vm.Alike.refl _) h.1, fun w hw => ?_⟩
  have h1 := h.2 w hw
  simp only [nestW, List.mem_cons, List.not_mem_nil, or_false] at hw
  rcases hw with rfl | rfl | rfl
  · exact va_Nw.same rfl hv h1
  · exact va_Nw.same rfl hv h1
  · exact va_Nw.same rfl hv h1
def QR (post : Option Value → Prop) : Array Value → State → Outcome → State → Prop := fun _ st oc t => (∃ v, oc = .returned v ∧ post v) ∧ t.heap = st.heap
def QU (D : va_G) (ad : List Nat) (post : Option Value → va_W → Prop) : Array Value → State → Outcome → State → Prop := fun _ st oc t => (∃ v w1, oc = .returned v ∧ post v w1 ∧ w1.map Prod.fst = ad ∧ va_P D vwCl w1 t.heap) ∧ va_F (fun q => q ∈ ad) st t
/-- a method that reads the cells wc and changes nothing -/
def Rd (l : Launch) (y : MethodName) (b : ByteArray) (ml : Nat) (rt : Option FieldType) (rm : Room) (D : va_G) (tys : List (ClassId × FieldType)) (args : List Value) (wc : va_W) (post : Option Value → Prop) : Prop :=
  Met l y (Cond.code y b ml rt :: TB) rm (va_Pc args (fun U => va_P D vwCl wc U.heap ∧ Kn D tys U ∧ va_D (fun _ => True) wc)) (QR post) 0 0 (fun _ => False)
/-- a method that changes nothing but the cells wc, and makes none -/
def Up (l : Launch) (y : MethodName) (b : ByteArray) (ml : Nat) (rt : Option FieldType) (rm : Room) (D : va_G) (tys : List (ClassId × FieldType)) (args : List Value) (wc : va_W) (post : Option Value → va_W → Prop) : Prop :=
  Met l y (Cond.code y b ml rt :: TB) rm (va_Pc args (fun U => va_P D vwCl wc U.heap ∧ Kn D tys U ∧ va_D (fun _ => True) wc)) (QU D (wc.map Prod.fst) post) 0 0 (fun q => q ∈ wc.map Prod.fst)
def isR (x : Kx) (post : Option Value → Prop) : Prop := x.2.2.2.2.2.2.2.2.2.2 = MQ x.2.2.2.2.2.2.2.1 (QR post) x.2.2.2.2.2.2.1 x.2.2.2.2.1 0 0 (fun _ => False)
def isU (x : Kx) (D : va_G) (ad : List Nat) (post : Option Value → va_W → Prop) : Prop := x.2.2.2.2.2.2.2.2.2.2 = MQ x.2.2.2.2.2.2.2.1 (QU D ad post) x.2.2.2.2.2.2.1 x.2.2.2.2.1 0 0 (fun q => q ∈ ad)
def MI (y : MethodName) (b : ByteArray) (ml : Nat) (rt : Option FieldType) (np : Nat) : Prop := Cond.code y b ml rt ∈ TB ∧ Cond.initialized y.cls ∈ TB ∧ y.cls ≠ "java/lang/invoke/MethodHandle" ∧ y.cls ≠ "java/lang/invoke/VarHandle" ∧ (parseMethodDescriptor y.desc).map (fun d => d.parameters.length) = some np
def MIv (y : MethodName) (b : ByteArray) (ml : Nat) (rt : Option FieldType) (np : Nat) : Prop := MI y b ml rt np ∧ Cond.instanceMethod y ∈ TB ∧ Cond.selects y.cls y y ∈ TB
def MIs (y : MethodName) (b : ByteArray) (ml : Nat) (rt : Option FieldType) (np : Nat) : Prop := MI y b ml rt np ∧ Cond.static y ∈ TB
theorem TB_good {w : Cond} (h : w ∈ TB) : goodWord w = true := (List.mem_filter.mp h).2
theorem TB_in {y : MethodName} {b : ByteArray} {ml : Nat} {rt : Option FieldType} (h : Cond.code y b ml rt ∈ TB) : GoodIn TB (Cond.code y b ml rt :: TB) := by
  intro w hw
  rcases List.mem_cons.mp hw with rfl | hw
  · exact ⟨h, good_of_word (TB_good h)⟩
  · exact ⟨hw, good_of_word (TB_good hw)⟩
section VE
variable {l : Launch} {y : MethodName} {b : ByteArray} {ml : Nat} {rt : Option FieldType} {rm : Room} {D : va_G} {tys : List (ClassId × FieldType)} {args : List Value} {wc : va_W}
theorem Rd_of {post : Option Value → Prop}
    (hy : plainName y.cls = true) (hl : (lg_sl args).length ≤ ml) (h : ∀ x : Kx, Kf x b ml y.cls rt D tys rm → isR x post → Vw x ml (fun _ => True) D false 0 0 wc 0 (lv_args 0 args) []) : Rd l y b ml rt rm D tys args wc post := by
  refine Met.ofW (cc := b) (maxL := ml) (ret := rt) hy rfl ?_
  intro p e s m args' below meth c s₁ B hml hv
  obtain ⟨rfl, hP, hK, hD⟩ := hv
  have hts := atoms_spec (ws := Cond.code y b ml rt :: TB) B.pre
  have hown : s.vm.findClass y.cls = some m.cls := findClass_of_methodNamed B.named
  have hk : Kf (p, l, e, rm, s, m, args.toArray, below, meth, c, MQ below (QR post) args.toArray s 0 0 (fun _ => False)) b ml y.cls rt D tys rm :=
    ⟨B.exec, B.bytes, hml, hown, fun w hw => hts w (List.mem_cons_of_mem _ hw), B.returns, B.notSynchronized, hK, rfl⟩
  have hl := lv_entry args (n := ml) hl
  rw [lg_entry_eq]
  exact h _ hk rfl s.heap [] _ hP hD ⟨va_S.rf, fun _ => ⟨rfl, rfl⟩⟩ hl
theorem Up_of {post : Option Value → va_W → Prop}
    (hy : plainName y.cls = true) (hl : (lg_sl args).length ≤ ml) (h : ∀ x : Kx, Kf x b ml y.cls rt D tys rm → isU x D (wc.map Prod.fst) post → Vw x ml (fun q => q ∈ wc.map Prod.fst) D true 0 0 wc 0 (lv_args 0 args) []) : Up l y b ml rt rm D tys args wc post := by
  refine Met.ofW (cc := b) (maxL := ml) (ret := rt) hy rfl ?_
  intro p e s m args' below meth c s₁ B hml hv
  obtain ⟨rfl, hP, hK, hD⟩ := hv
  have hts := atoms_spec (ws := Cond.code y b ml rt :: TB) B.pre
  have hown : s.vm.findClass y.cls = some m.cls := findClass_of_methodNamed B.named
  have hk : Kf (p, l, e, rm, s, m, args.toArray, below, meth, c, MQ below (QU D (wc.map Prod.fst) post) args.toArray s 0 0 (fun q => q ∈ wc.map Prod.fst)) b ml y.cls rt D tys rm :=
    ⟨B.exec, B.bytes, hml, hown, fun w hw => hts w (List.mem_cons_of_mem _ hw), B.returns, B.notSynchronized, hK, rfl⟩
  have hl := lv_entry args (n := ml) hl
  have hD2 : va_D (fun q => q ∈ wc.map Prod.fst) wc := ⟨hD.1, fun k q hq => List.mem_map.mpr ⟨q, List.mem_of_getElem? hq, rfl⟩⟩
  rw [lg_entry_eq]
  exact h _ hk rfl s.heap [] _ hP hD2 ⟨va_S.rf, fun h9 => by cases h9⟩ hl
end VE
section VL
variable {x : Kx} {cc : ByteArray} {nL : Nat} {own : String} {ret : Option FieldType} {D : va_G} {tys : List (ClassId × FieldType)} {rm : Room} {A : Nat → Prop} {wr : Bool} {cells slots : Nat} {ws : va_W} {pc n : Nat} {lv lv' : List (Nat × Value)} {st : List Value}
theorem v_iretR (k : Kf x cc nL own (some .int) D tys rm) {post : Option Value → Prop} {v : Int32} (hq : isR x post) (hp : post (some (.int v))) (hd : decode cc pc = .ok (.ireturn, 1)) : Vw x nL A D false 0 0 ws pc lv [.int v] := by
  intro H locs ls a b c d
  obtain ⟨e1, e2⟩ := c.2 rfl
  rw [hq]
  exact W.iret k.1 k.2.1 k.2.2.2.2.2.1 (fun t ht hW => ⟨⟨_, rfl, hp⟩, by rw [ht, e1]⟩) (by rw [e2]; intro q h; cases h) hd k.2.2.2.2.2.2.1
theorem v_iretU (k : Kf x cc nL own (some .int) D tys rm) {ad : List Nat} {post : Option Value → va_W → Prop} {v : Int32} (hq : isU x D ad post) (hp : post (some (.int v)) ws) (had : ws.map Prod.fst = ad) (hd : decode cc pc = .ok (.ireturn, 1)) : Vw x nL (fun q => q ∈ ad) D wr 0 0 ws pc lv [.int v] := by
  intro H locs ls a b c d
  rw [hq]
  exact W.iret k.1 k.2.1 k.2.2.2.2.2.1 (fun t ht hW => ⟨⟨_, ws, rfl, hp, had, by rw [ht]; exact a⟩, c.1.F ht⟩) c.1.2.2 hd k.2.2.2.2.2.2.1
theorem v_zretR (k : Kf x cc nL own (some .boolean) D tys rm) {post : Option Value → Prop} {v : Int32} (hz : narrow .boolean (.int v) = .int v) (hq : isR x post) (hp : post (some (.int v))) (hd : decode cc pc = .ok (.ireturn, 1)) : Vw x nL A D false 0 0 ws pc lv [.int v] := by
  intro H locs ls a b c d
  obtain ⟨e1, e2⟩ := c.2 rfl
  rw [hq]
  exact W.zret k.1 k.2.1 k.2.2.2.2.2.1 hz (fun t ht hW => ⟨⟨_, rfl, hp⟩, by rw [ht, e1]⟩) (by rw [e2]; intro q h; cases h) hd k.2.2.2.2.2.2.1
theorem v_zretU (k : Kf x cc nL own (some .boolean) D tys rm) {ad : List Nat} {post : Option Value → va_W → Prop} {v : Int32} (hz : narrow .boolean (.int v) = .int v) (hq : isU x D ad post) (hp : post (some (.int v)) ws) (had : ws.map Prod.fst = ad) (hd : decode cc pc = .ok (.ireturn, 1)) : Vw x nL (fun q => q ∈ ad) D wr 0 0 ws pc lv [.int v] := by
  intro H locs ls a b c d
  rw [hq]
  exact W.zret k.1 k.2.1 k.2.2.2.2.2.1 hz (fun t ht hW => ⟨⟨_, ws, rfl, hp, had, by rw [ht]; exact a⟩, c.1.F ht⟩) c.1.2.2 hd k.2.2.2.2.2.2.1
theorem v_vretR (k : Kf x cc nL own (none) D tys rm) {post : Option Value → Prop}  (hq : isR x post) (hp : post none) (hd : decode cc pc = .ok (.return_, 1)) : Vw x nL A D false 0 0 ws pc lv [] := by
  intro H locs ls a b c d
  obtain ⟨e1, e2⟩ := c.2 rfl
  rw [hq]
  exact W.vret k.1 k.2.1 k.2.2.2.2.2.1 (fun t ht hW => ⟨⟨_, rfl, hp⟩, by rw [ht, e1]⟩) (by rw [e2]; intro q h; cases h) hd k.2.2.2.2.2.2.1
theorem v_vretU (k : Kf x cc nL own (none) D tys rm) {ad : List Nat} {post : Option Value → va_W → Prop}  (hq : isU x D ad post) (hp : post none ws) (had : ws.map Prod.fst = ad) (hd : decode cc pc = .ok (.return_, 1)) : Vw x nL (fun q => q ∈ ad) D wr 0 0 ws pc lv [] := by
  intro H locs ls a b c d
  rw [hq]
  exact W.vret k.1 k.2.1 k.2.2.2.2.2.1 (fun t ht hW => ⟨⟨_, ws, rfl, hp, had, by rw [ht]; exact a⟩, c.1.F ht⟩) c.1.2.2 hd k.2.2.2.2.2.2.1
theorem v_aretR (k : Kf x cc nL own (some (.array .int)) D tys rm) {post : Option Value → Prop} {v : Nat} (hq : isR x post) (hp : post (some (.ref v))) (hd : decode cc pc = .ok (.areturn, 1)) : Vw x nL A D false 0 0 ws pc lv [.ref v] := by
  intro H locs ls a b c d
  obtain ⟨e1, e2⟩ := c.2 rfl
  rw [hq]
  exact W.aret k.1 k.2.1 k.2.2.2.2.2.1 (Or.inr ⟨_, rfl⟩) (Or.inr ⟨_, rfl⟩) (fun t ht hW => ⟨⟨_, rfl, hp⟩, by rw [ht, e1]⟩) (by rw [e2]; intro q h; cases h) hd k.2.2.2.2.2.2.1
theorem v_aretU (k : Kf x cc nL own (some (.array .int)) D tys rm) {ad : List Nat} {post : Option Value → va_W → Prop} {v : Nat} (hq : isU x D ad post) (hp : post (some (.ref v)) ws) (had : ws.map Prod.fst = ad) (hd : decode cc pc = .ok (.areturn, 1)) : Vw x nL (fun q => q ∈ ad) D wr 0 0 ws pc lv [.ref v] := by
  intro H locs ls a b c d
  rw [hq]
  exact W.aret k.1 k.2.1 k.2.2.2.2.2.1 (Or.inr ⟨_, rfl⟩) (Or.inr ⟨_, rfl⟩) (fun t ht hW => ⟨⟨_, ws, rfl, hp, had, by rw [ht]; exact a⟩, c.1.F ht⟩) c.1.2.2 hd k.2.2.2.2.2.2.1
theorem wput_get : ∀ (is : List Nat) (ws w1 : va_W) (k : Nat) (q : Nat × va_E), (wput ws is w1)[k]? = some q → (∃ j : Nat, is[j]? = some k ∧ w1[j]? = some q) ∨ (k ∉ is.take w1.length ∧ ws[k]? = some q) := by
  intro is
  induction is with
  | nil => intro ws w1 k q h; exact Or.inr ⟨by simp, by simpa [wput] using h⟩
  | cons i is ih =>
    intro ws w1 k q h
    cases w1 with
    | nil => exact Or.inr ⟨by simp, by simpa [wput] using h⟩
    | cons c cs =>
      rcases ih (ws.set i c) cs k q h with ⟨j, h1, h2⟩ | ⟨h1, h2⟩
      · exact Or.inl ⟨j + 1, h1, h2⟩
      · by_cases e : k = i
        · subst e
          rw [List.getElem?_set] at h2
          simp only [if_true] at h2
          split at h2
          · exact Or.inl ⟨0, rfl, h2⟩
          · cases h2
        · refine Or.inr ⟨?_, ?_⟩
          · simp only [List.length_cons, List.take_succ_cons, List.mem_cons, not_or]
            exact ⟨e, h1⟩
          · rw [List.getElem?_set, if_neg (fun e2 => e e2.symm)] at h2
            exact h2
theorem at_places {ws wc : va_W} {is : List Nat} (his : is.map (fun i => ws[i]?) = wc.map some) {j k : Nat} (hj : is[j]? = some k) : ∃ q, wc[j]? = some q ∧ ws[k]? = some q := by
  have h1 : (is.map (fun i => ws[i]?))[j]? = some ws[k]? := by rw [List.getElem?_map, hj]; rfl
  rw [his, List.getElem?_map] at h1
  cases hq : wc[j]? with
  | none => rw [hq] at h1; cases h1
  | some q => rw [hq] at h1; exact ⟨q, rfl, by simpa using h1.symm⟩
theorem at_places' {ws wc : va_W} {is : List Nat} (his : is.map (fun i => ws[i]?) = wc.map some) {j : Nat} {q : Nat × va_E} (hj : wc[j]? = some q) : ∃ k, is[j]? = some k ∧ ws[k]? = some q := by
  have h1 : (wc.map some)[j]? = some (some q) := by rw [List.getElem?_map, hj]; rfl
  rw [← his, List.getElem?_map] at h1
  cases hk : is[j]? with
  | none => rw [hk] at h1; cases h1
  | some k => rw [hk] at h1; exact ⟨k, rfl, by simpa using h1⟩
/-- a world after an update of some of its cells in place -/
theorem world_up {ws wc w1 : va_W} {is : List Nat} {H H1 : Heap} (his : is.map (fun i => ws[i]?) = wc.map some) (hP : va_P D vwCl ws H) (hD : va_D A ws) (had : w1.map Prod.fst = wc.map Prod.fst) (hP1 : va_P D vwCl w1 H1)
    (hk : ∀ q, q < H.size → q ∉ wc.map Prod.fst → H1[q]? = H[q]?) : va_P D vwCl (wput ws is w1) H1 ∧ va_D A (wput ws is w1) := by
  have hlen : is.length = w1.length := by
    have e1 := congrArg List.length his
    have e2 := congrArg List.length had
    simp only [List.length_map] at e1 e2
    omega
  have adr : ∀ (k : Nat) (q : Nat × va_E), (wput ws is w1)[k]? = some q → ∃ q', ws[k]? = some q' ∧ q'.1 = q.1 := by
    intro k q h
    rcases wput_get is ws w1 k q h with ⟨j, h1, h2⟩ | ⟨-, h2⟩
    · obtain ⟨q', h3, h4⟩ := at_places his h1
      refine ⟨q', h4, ?_⟩
      have e1 : (w1.map Prod.fst)[j]? = some q.1 := by rw [List.getElem?_map, h2]; rfl
      rw [had, List.getElem?_map, h3] at e1
      simpa using e1
    · exact ⟨q, h2, rfl⟩
  refine ⟨fun k q h => ?_, fun i j p q h1 h2 e => ?_, fun k q h => ?_⟩
  · rcases wput_get is ws w1 k q h with ⟨j, h1, h2⟩ | ⟨h1, h2⟩
    · exact hP1 j q h2
    · refine (hP k q h2).kept (hk _ (hP k q h2).lt fun hm => h1 ?_)
      obtain ⟨c, hc, e⟩ := List.mem_map.mp hm
      obtain ⟨j, hj⟩ := List.getElem?_of_mem hc
      obtain ⟨k', h3, h4⟩ := at_places' his hj
      have : k' = k := hD.1 k' k c q h4 h2 e
      subst this
      rw [← hlen, List.take_length]
      exact List.mem_of_getElem? h3
  · obtain ⟨p', a1, a2⟩ := adr i p h1
    obtain ⟨q', b1, b2⟩ := adr j q h2
    exact hD.1 i j p' q' a1 b1 (by rw [a2, b2, e])
  · obtain ⟨q', a1, a2⟩ := adr k q h
    rw [← a2]
    exact hD.2 k q' a1
theorem sub_places {ws wc : va_W} {is : List Nat} {H : Heap} (his : is.map (fun i => ws[i]?) = wc.map some) (hP : va_P D vwCl ws H) : va_P D vwCl wc H := by
  intro k q hq
  obtain ⟨i, -, h⟩ := at_places' his hq
  exact hP i q h
theorem after_rd {y : MethodName} {stk : List Value} {As : Array Value} {post : Option Value → Prop} {H : Heap} {locs : List Loc} {ls : Array Slot}
    (hr : va_Run x.1 x.2.1 x.2.2.1 x.2.2.2.1 x.2.2.2.2.1 x.2.2.2.2.2.1 x.2.2.2.2.2.2.1 x.2.2.2.2.2.2.2.1 x.2.2.2.2.2.2.2.2.1 x.2.2.2.2.2.2.2.2.2.1 H locs cells slots 0 0 (F0 x.2.2.2.2.2.1 pc ls stk) st (QR post As) (fun _ => False))
    (a : va_P D vwCl ws H) (b : va_D A ws) (c : Sx wr A x.2.2.2.2.1.heap H locs) (d : lv_has ls nL lv) (h : ∀ v, post v → Vw x nL A D wr cells slots ws (pc + 3) lv (v.toList ++ st)) :
    W x.1 x.2.1 x.2.2.1 x.2.2.2.1 x.2.2.2.2.1 x.2.2.2.2.2.1 x.2.2.2.2.2.2.1 x.2.2.2.2.2.2.2.1 x.2.2.2.2.2.2.2.2.1 x.2.2.2.2.2.2.2.2.2.1 H locs cells slots x.2.2.2.2.2.2.2.2.2.2 (F0 x.2.2.2.2.2.1 pc ls stk) := by
  intro T hT X
  obtain ⟨v, st₀, t, T', L, h0, X', hL, e1, e2, ⟨⟨v', hv, hp⟩, hz⟩, go⟩ := hr T hT X
  cases hv
  have hL0 : L = [] := List.eq_nil_iff_forall_not_mem.mpr fun q hq => hL q hq
  subst hL0
  rw [List.append_nil] at X'
  obtain ⟨t2, a1, b1⟩ := h v hp H locs ls a b c d T' (by rw [e1, hz, h0]) X'
  exact ⟨t2, go t2 a1, b1⟩
theorem after_up {stk : List Value} {As : Array Value} {wc : va_W} {is : List Nat} {post : Option Value → va_W → Prop} {H : Heap} {locs : List Loc} {ls : Array Slot} (his : is.map (fun i => ws[i]?) = wc.map some)
    (hr : va_Run x.1 x.2.1 x.2.2.1 x.2.2.2.1 x.2.2.2.2.1 x.2.2.2.2.2.1 x.2.2.2.2.2.2.1 x.2.2.2.2.2.2.2.1 x.2.2.2.2.2.2.2.2.1 x.2.2.2.2.2.2.2.2.2.1 H locs cells slots 0 0 (F0 x.2.2.2.2.2.1 pc ls stk) st (QU D (wc.map Prod.fst) post As) (fun q => q ∈ wc.map Prod.fst))
    (a : va_P D vwCl ws H) (b : va_D A ws) (c : Sx true A x.2.2.2.2.1.heap H locs) (d : lv_has ls nL lv) (h : ∀ v w1, post v w1 → Vw x nL A D true cells slots (wput ws is w1) (pc + 3) lv (v.toList ++ st)) :
    W x.1 x.2.1 x.2.2.1 x.2.2.2.1 x.2.2.2.2.1 x.2.2.2.2.2.1 x.2.2.2.2.2.2.1 x.2.2.2.2.2.2.2.1 x.2.2.2.2.2.2.2.2.1 x.2.2.2.2.2.2.2.2.2.1 H locs cells slots x.2.2.2.2.2.2.2.2.2.2 (F0 x.2.2.2.2.2.1 pc ls stk) := by
  intro T hT X
  obtain ⟨v, st₀, t, T', L, h0, X', hL, e1, e2, ⟨⟨v', w1, hv, hp, had, hP1⟩, hz, hk⟩, go⟩ := hr T hT X
  cases hv
  have hA : ∀ q, q ∈ wc.map Prod.fst → A q := by
    intro q hq
    obtain ⟨c9, hc, e⟩ := List.mem_map.mp hq
    obtain ⟨j, hj⟩ := List.getElem?_of_mem hc
    obtain ⟨k', -, h4⟩ := at_places' his hj
    rw [← e]
    exact b.2 k' c9 h4
  rw [h0] at hz hk
  obtain ⟨a', b'⟩ := world_up (H := H) (H1 := t.heap) his a b had hP1 (fun q h1 h2 => hk q h1 h2)
  obtain ⟨t2, a1, b1⟩ := h v w1 hp t.heap (locs ++ L) ls a' b' ⟨⟨Nat.le_trans c.1.1 hz, fun q h1 h2 => by
      rw [hk q (Nat.lt_of_lt_of_le h1 c.1.1) (fun z => h2 (hA q z))]
      exact c.1.2.1 q h1 h2, fun q hq => by
      rcases List.mem_append.mp hq with h | h
      · exact c.1.2.2 q h
      · exact hA _ (hL q h)⟩, fun h9 => by cases h9⟩ d T' e1 X'
  exact ⟨t2, go t2 a1, b1⟩
/-- what a call asks of the words and of the room -/
theorem call_b (k : Kf x cc nL own ret D tys rm) {y : MethodName} {b : ByteArray} {ml np i : Nat} {rt : Option FieldType} {rmc : Room} (hi : MI y b ml rt np) (hl : Cond.methodLink own i y ∈ TB) (hR : rmc.frames + 1 ≤ rm.frames ∧ 8 + (ml + 11) + rmc.locals ≤ rm.locals) (hz : rmc.cells = 0 ∧ rmc.slots = 0) :
    CallB x.2.2.2.1 x.2.2.2.2.1 x.2.2.2.2.2.2.1 own i y b ml rt (Cond.code y b ml rt :: TB) rmc 0 0 np := by
  have hR' := hR
  rw [← k.2.2.2.2.2.2.2.2] at hR'
  exact callB_of np k.2.2.2.2.1 (TB_in hi.1) rfl hz.1 hz.2 (k.2.2.2.2.1 _ hi.2.1) (k.2.2.2.2.1 _ hl) hi.2.2 hR'
theorem pre_b {wc : va_W} {av : List Value} : FrameBlind (va_Pc av (fun U => va_P D vwCl wc U.heap ∧ Kn D tys U ∧ va_D (fun _ => True) wc)) := by
  intro a U g mk h
  obtain ⟨h1, h2, h3, h4⟩ := h
  exact ⟨h1, h2, Kn.same (s := U) (U := U.calling g mk a) rfl h3, h4⟩
theorem hD9 {wc : va_W} {is : List Nat} (b : va_D A ws) (hnd : va_nd is = true) (his : is.map (fun i => ws[i]?) = wc.map some) : va_D (fun _ => True) wc := (b.sub is hnd his).weaken (fun _ _ _ _ => trivial)
theorem pre_u (k : Kf x cc nL own ret D tys rm) {wc : va_W} {is : List Nat} {av : List Value} {H : Heap} (his : is.map (fun i => ws[i]?) = wc.map some) (hnd : va_nd is = true) (a : va_P D vwCl ws H) (b : va_D A ws) : ∀ U : State, U.heap = H → x.2.2.2.2.1.WarmedH U.vm → va_Pc av (fun U => va_P D vwCl wc U.heap ∧ Kn D tys U ∧ va_D (fun _ => True) wc) av.toArray U := by
  intro U hU hW
  exact ⟨rfl, by rw [hU]; exact sub_places his a, Kn.warm hW k.2.2.2.2.2.2.2.1, (hD9 b hnd his)⟩

theorem v_rdV (k : Kf x cc nL own ret D tys rm) {y : MethodName} {b : ByteArray} {ml np i a : Nat} {rt : Option FieldType} {rmc : Room} {As stk : List Value} {wc : va_W} {post : Option Value → Prop} {T : u_T} {N ci : Nat} {fs : List Value} (is : List Nat) (q0 : Nat) (hM : ∀ l, Rd l y b ml rt rmc D tys (.ref a :: As) wc post) (hi : MIv y b ml rt np) (hl : Cond.methodLink own i y ∈ TB) (hR : rmc.frames + 1 ≤ rm.frames ∧ 8 + (ml + 11) + rmc.locals ≤ rm.locals) (hz : rmc.cells = 0 ∧ rmc.slots = 0)
    (his : is.map (fun i => ws[i]?) = wc.map some) (hnd : va_nd is = true) (he : ws[q0]? = some (a, .inr (ci, fs))) (hc : vwCl[ci]? = some (y.cls, T, N)) (hnp : As.length = np) (hst : stk = As.reverse ++ .ref a :: st) (hW : (st.map fun v => v.category).sum ≤ 8) (hcs : cells + 0 ≤ x.2.2.2.1.cells ∧ slots + 0 ≤ x.2.2.2.1.slots) (hd : decode cc pc = .ok (.invokevirtual i, 3)) (hn : pc + 3 = n)
    (h : ∀ v, post v → Vw x nL A D wr cells slots ws n lv (v.toList ++ st)) : Vw x nL A D wr cells slots ws pc lv stk := by
  subst hn
  intro H locs ls a' b' c d
  have hK := k.2.2.2.2.2.2.2.1.1
  refine after_rd (y := y) (va_runV (b := a) (C := y.cls) (As := As) (rest := st) (Ts := TB) (own := own) ⟨k.1, k.2.1, k.2.2.1, k.2.2.2.1, k.2.2.2.2.1⟩ (hM x.2.1) ⟨call_b k hi.1 hl hR hz, k.2.2.2.2.1 _ hi.2.1, k.2.2.2.2.1 _ hi.2.2⟩ ⟨pre_b, va_recv hK a' hc he, pre_u k his hnd a' b'⟩ rfl hnp d.1 hst (lv_room hW) hd ⟨?_, ?_⟩) a' b' c d h
  · exact hcs.1
  · exact hcs.2
theorem v_rdS (k : Kf x cc nL own ret D tys rm) {y : MethodName} {b : ByteArray} {ml np i : Nat} {rt : Option FieldType} {rmc : Room} {As stk : List Value} {wc : va_W} {post : Option Value → Prop} (is : List Nat) (hM : ∀ l, Rd l y b ml rt rmc D tys As wc post) (hi : MIs y b ml rt np) (hl : Cond.methodLink own i y ∈ TB) (hR : rmc.frames + 1 ≤ rm.frames ∧ 8 + (ml + 11) + rmc.locals ≤ rm.locals) (hz : rmc.cells = 0 ∧ rmc.slots = 0)
    (his : is.map (fun i => ws[i]?) = wc.map some) (hnd : va_nd is = true) (hnp : As.length = np) (hst : stk = As.reverse ++ st) (hW : (st.map fun v => v.category).sum ≤ 8) (hcs : cells + 0 ≤ x.2.2.2.1.cells ∧ slots + 0 ≤ x.2.2.2.1.slots) (hd : decode cc pc = .ok (.invokestatic i, 3)) (hn : pc + 3 = n)
    (h : ∀ v, post v → Vw x nL A D wr cells slots ws n lv (v.toList ++ st)) : Vw x nL A D wr cells slots ws pc lv stk := by
  subst hn
  intro H locs ls a' b' c d
  refine after_rd (y := y) (va_runS (As := As) (rest := st) (Ts := TB) (own := own) ⟨k.1, k.2.1, k.2.2.1, k.2.2.2.1, k.2.2.2.2.1⟩ (hM x.2.1) ⟨call_b k hi.1 hl hR hz, k.2.2.2.2.1 _ hi.2⟩ ⟨pre_b, pre_u k his hnd a' b'⟩ rfl hnp d.1 hst (lv_room hW) hd ⟨?_, ?_⟩) a' b' c d h
  · exact hcs.1
  · exact hcs.2
theorem v_rdSN (k : Kf x cc nL own ret D tys rm) {y : MethodName} {b : ByteArray} {ml np i : Nat} {rt : Option FieldType} {rmc : Room} {As stk : List Value} {wc : va_W} {post : Option Value → Prop} {host : String} (is : List Nat) (hM : ∀ l, Rd l y b ml rt rmc D tys As wc post) (hi : MIs y b ml rt np) (hl : Cond.methodLinkNest own i y host ∈ nestW) (hR : rmc.frames + 1 ≤ rm.frames ∧ 8 + (ml + 11) + rmc.locals ≤ rm.locals) (hz : rmc.cells = 0 ∧ rmc.slots = 0)
    (his : is.map (fun i => ws[i]?) = wc.map some) (hnd : va_nd is = true) (hnp : As.length = np) (hst : stk = As.reverse ++ st) (hW : (st.map fun v => v.category).sum ≤ 8) (hcs : cells + 0 ≤ x.2.2.2.1.cells ∧ slots + 0 ≤ x.2.2.2.1.slots) (hd : decode cc pc = .ok (.invokestatic i, 3)) (hn : pc + 3 = n)
    (h : ∀ v, post v → Vw x nL A D wr cells slots ws n lv (v.toList ++ st)) : Vw x nL A D wr cells slots ws pc lv stk := by
  subst hn
  intro H locs ls a' b' c d
  have hR' := hR
  rw [← k.2.2.2.2.2.2.2.2] at hR'
  refine after_rd (y := y) (va_runSN (As := As) (rest := st) (Ts := TB) (own := own) (host := host) ⟨k.1, k.2.1, k.2.2.1, k.2.2.2.1, k.2.2.2.2.1⟩ (hM x.2.1) ⟨va_cnB np k.2.2.2.2.1 (TB_in hi.1.1) rfl hz.1 hz.2 (k.2.2.2.2.2.2.2.1.2 _ hl) (k.2.2.2.2.1 _ hi.1.2.1) hi.1.2.2 hR', k.2.2.2.2.1 _ hi.2, trivial⟩ ⟨pre_b, pre_u k his hnd a' b'⟩ rfl hnp d.1 hst (lv_room hW) hd ⟨?_, ?_⟩) a' b' c d h
  · exact hcs.1
  · exact hcs.2
theorem v_upV (k : Kf x cc nL own ret D tys rm) {y : MethodName} {b : ByteArray} {ml np i a : Nat} {rt : Option FieldType} {rmc : Room} {As stk : List Value} {wc : va_W} {post : Option Value → va_W → Prop} {T : u_T} {N ci : Nat} {fs : List Value} (is : List Nat) (q0 : Nat) (hM : ∀ l, Up l y b ml rt rmc D tys (.ref a :: As) wc post) (hi : MIv y b ml rt np) (hl : Cond.methodLink own i y ∈ TB) (hR : rmc.frames + 1 ≤ rm.frames ∧ 8 + (ml + 11) + rmc.locals ≤ rm.locals) (hz : rmc.cells = 0 ∧ rmc.slots = 0)
    (his : is.map (fun i => ws[i]?) = wc.map some) (hnd : va_nd is = true) (he : ws[q0]? = some (a, .inr (ci, fs))) (hc : vwCl[ci]? = some (y.cls, T, N)) (hnp : As.length = np) (hst : stk = As.reverse ++ .ref a :: st) (hW : (st.map fun v => v.category).sum ≤ 8) (hcs : cells + 0 ≤ x.2.2.2.1.cells ∧ slots + 0 ≤ x.2.2.2.1.slots) (hd : decode cc pc = .ok (.invokevirtual i, 3)) (hn : pc + 3 = n)
    (h : ∀ v w1, post v w1 → Vw x nL A D true cells slots (wput ws is w1) n lv (v.toList ++ st)) : Vw x nL A D true cells slots ws pc lv stk := by
  subst hn
  intro H locs ls a' b' c d
  have hK := k.2.2.2.2.2.2.2.1.1
  refine after_up his (va_runV (b := a) (C := y.cls) (As := As) (rest := st) (Ts := TB) (own := own) ⟨k.1, k.2.1, k.2.2.1, k.2.2.2.1, k.2.2.2.2.1⟩ (hM x.2.1) ⟨call_b k hi.1 hl hR hz, k.2.2.2.2.1 _ hi.2.1, k.2.2.2.2.1 _ hi.2.2⟩ ⟨pre_b, va_recv hK a' hc he, pre_u k his hnd a' b'⟩ rfl hnp d.1 hst (lv_room hW) hd ⟨?_, ?_⟩) a' b' c d h
  · exact hcs.1
  · exact hcs.2
theorem v_upS (k : Kf x cc nL own ret D tys rm) {y : MethodName} {b : ByteArray} {ml np i : Nat} {rt : Option FieldType} {rmc : Room} {As stk : List Value} {wc : va_W} {post : Option Value → va_W → Prop} (is : List Nat) (hM : ∀ l, Up l y b ml rt rmc D tys As wc post) (hi : MIs y b ml rt np) (hl : Cond.methodLink own i y ∈ TB) (hR : rmc.frames + 1 ≤ rm.frames ∧ 8 + (ml + 11) + rmc.locals ≤ rm.locals) (hz : rmc.cells = 0 ∧ rmc.slots = 0)
    (his : is.map (fun i => ws[i]?) = wc.map some) (hnd : va_nd is = true) (hnp : As.length = np) (hst : stk = As.reverse ++ st) (hW : (st.map fun v => v.category).sum ≤ 8) (hcs : cells + 0 ≤ x.2.2.2.1.cells ∧ slots + 0 ≤ x.2.2.2.1.slots) (hd : decode cc pc = .ok (.invokestatic i, 3)) (hn : pc + 3 = n)
    (h : ∀ v w1, post v w1 → Vw x nL A D true cells slots (wput ws is w1) n lv (v.toList ++ st)) : Vw x nL A D true cells slots ws pc lv stk := by
  subst hn
  intro H locs ls a' b' c d
  refine after_up his (va_runS (As := As) (rest := st) (Ts := TB) (own := own) ⟨k.1, k.2.1, k.2.2.1, k.2.2.2.1, k.2.2.2.2.1⟩ (hM x.2.1) ⟨call_b k hi.1 hl hR hz, k.2.2.2.2.1 _ hi.2⟩ ⟨pre_b, pre_u k his hnd a' b'⟩ rfl hnp d.1 hst (lv_room hW) hd ⟨?_, ?_⟩) a' b' c d h
  · exact hcs.1
  · exact hcs.2
theorem v_upSN (k : Kf x cc nL own ret D tys rm) {y : MethodName} {b : ByteArray} {ml np i : Nat} {rt : Option FieldType} {rmc : Room} {As stk : List Value} {wc : va_W} {post : Option Value → va_W → Prop} {host : String} (is : List Nat) (hM : ∀ l, Up l y b ml rt rmc D tys As wc post) (hi : MIs y b ml rt np) (hl : Cond.methodLinkNest own i y host ∈ nestW) (hR : rmc.frames + 1 ≤ rm.frames ∧ 8 + (ml + 11) + rmc.locals ≤ rm.locals) (hz : rmc.cells = 0 ∧ rmc.slots = 0)
    (his : is.map (fun i => ws[i]?) = wc.map some) (hnd : va_nd is = true) (hnp : As.length = np) (hst : stk = As.reverse ++ st) (hW : (st.map fun v => v.category).sum ≤ 8) (hcs : cells + 0 ≤ x.2.2.2.1.cells ∧ slots + 0 ≤ x.2.2.2.1.slots) (hd : decode cc pc = .ok (.invokestatic i, 3)) (hn : pc + 3 = n)
    (h : ∀ v w1, post v w1 → Vw x nL A D true cells slots (wput ws is w1) n lv (v.toList ++ st)) : Vw x nL A D true cells slots ws pc lv stk := by
  subst hn
  intro H locs ls a' b' c d
  have hR' := hR
  rw [← k.2.2.2.2.2.2.2.2] at hR'
  refine after_up his (va_runSN (As := As) (rest := st) (Ts := TB) (own := own) (host := host) ⟨k.1, k.2.1, k.2.2.1, k.2.2.2.1, k.2.2.2.2.1⟩ (hM x.2.1) ⟨va_cnB np k.2.2.2.2.1 (TB_in hi.1.1) rfl hz.1 hz.2 (k.2.2.2.2.2.2.2.1.2 _ hl) (k.2.2.2.2.1 _ hi.1.2.1) hi.1.2.2 hR', k.2.2.2.2.1 _ hi.2, trivial⟩ ⟨pre_b, pre_u k his hnd a' b'⟩ rfl hnp d.1 hst (lv_room hW) hd ⟨?_, ?_⟩) a' b' c d h
  · exact hcs.1
  · exact hcs.2
end VL
