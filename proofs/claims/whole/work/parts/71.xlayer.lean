/-! methods that throw: what they need, how they are entered and left -/
abbrev xIAE : String := "java/lang/IllegalArgumentException"
abbrev xUOE : String := "java/lang/UnsupportedOperationException"
abbrev xISE : String := "java/lang/IllegalStateException"
abbrev nmX : List String := ["java/lang/RuntimeException", "java/lang/Exception"]
/-- words that a throw needs and that no table of good words holds -/
def badX : List Cond := [.castable xIAE xIAE, .castable xUOE xUOE, .castable xISE xISE, .declares (Bundle.initS "java/lang/RuntimeException"), .declares (Bundle.initS "java/lang/Exception"), .declares (Bundle.initS Bundle.tN)]
/-- the messages -/
def strX : List (Nat × String) := [(56, "pages is not 8 to 255"), (61, "log is not 2 to 100"), (63, "pages is below LOG + 4"), (65, "n is not 1 to 16"), (73, "the tape would have more than 48 bytes"), (89, "the disk is DOWN"), (92, "keySize is not 1 to 16, or above the tape's bytes"), (94, "the value has more than 32 bytes"), (110, "the tape has not 1 to 16 bytes"), (134, "n is below NONE")]
/-- what a throw needs of a state -/
def Kt (A : Nat → Prop) (U : State) (H : Heap) : Prop := (vx_Zq Bundle.tN "UNASSIGNED_STACK" Bundle.steD A U H ∧ vx_Zq Bundle.tN "SUPPRESSED_SENTINEL" Bundle.listD A U H) ∧ (∀ w ∈ badX, va_Nw w U) ∧ (∀ q ∈ strX, ∃ sa, vk_R RX4 q.1 q.2 sa U) ∧ va_Nc xIAE xISE U ∧ va_Nc xUOE xIAE U
theorem Kt.warm {A : Nat → Prop} {s U : State} {H : Heap} (hW : s.WarmedH U.vm) (h : Kt A s H) : Kt A U H := by
  obtain ⟨⟨h1, h2⟩, h3, h4, h5, h6⟩ := h
  refine ⟨⟨vx_Zq.moved hW.alike h1, vx_Zq.moved hW.alike h2⟩, fun w hw => ?_, fun q hq => ?_, va_Nc.moved hW.alike h5, va_Nc.moved hW.alike h6⟩
  · have h9 := h3 w hw
    simp only [badX, List.mem_cons, List.not_mem_nil, or_false] at hw
    rcases hw with rfl | rfl | rfl | rfl | rfl | rfl
    · exact va_Nw.warmC hW h9
    · exact va_Nw.warmC hW h9
    · exact va_Nw.warmC hW h9
    · exact va_Nw.warmD hW h9
    · exact va_Nw.warmD hW h9
    · exact va_Nw.warmD hW h9
  · obtain ⟨sa, h9⟩ := h4 q hq
    exact ⟨sa, vk_R.warm hW h9⟩
theorem Kt.same {A : Nat → Prop} {s U : State} {H : Heap} (hv : s.vm = U.vm) (h : Kt A s H) : Kt A U H := by
  have hal : s.vm.Alike U.vm := by rw [hv]; exact Vm.Alike.refl _
  obtain ⟨⟨h1, h2⟩, h3, h4, h5, h6⟩ := h
  refine ⟨⟨vx_Zq.moved hal h1, vx_Zq.moved hal h2⟩, fun w hw => ?_, fun q hq => ?_, va_Nc.moved hal h5, va_Nc.moved hal h6⟩
  · have h9 := h3 w hw
    simp only [badX, List.mem_cons, List.not_mem_nil, or_false] at hw
    rcases hw with rfl | rfl | rfl | rfl | rfl | rfl
    · exact va_Nw.same rfl hv h9
    · exact va_Nw.same rfl hv h9
    · exact va_Nw.same rfl hv h9
    · exact va_Nw.same rfl hv h9
    · exact va_Nw.same rfl hv h9
    · exact va_Nw.same rfl hv h9
  · obtain ⟨sa, h9⟩ := h4 q hq
    exact ⟨sa, vk_R.same hv.symm h9⟩
theorem Kt.kept {A : Nat → Prop} {U : State} {H H1 : Heap} (h : Kt A U H) (hq : ∀ a : Nat, a < H.size → ¬ A a → H1[a]? = H[a]?) : Kt A U H1 := ⟨⟨h.1.1.kept hq, h.1.2.kept hq⟩, h.2⟩
theorem Kt.narrow {A B : Nat → Prop} {U : State} {H : Heap} (h : Kt A U H) (hAB : ∀ q, B q → A q) : Kt B U H := ⟨⟨h.1.1.narrow hAB, h.1.2.narrow hAB⟩, h.2⟩
def XU (D : va_G) (ad : List Nat) (xp : String → va_W → Prop) : String → State → State → Prop := fun E st t => ∃ w1, xp E w1 ∧ w1.map Prod.fst = ad ∧ va_P D vwCl w1 t.heap ∧ va_F (fun q => q ∈ ad) st t
/-- a method that changes nothing but the cells wc, and may make one thing that it throws -/
def Ux (l : Launch) (y : MethodName) (b : ByteArray) (ml : Nat) (rt : Option FieldType) (rm : Room) (D : va_G) (tys : List (ClassId × FieldType)) (args : List Value) (wc : va_W) (post : Option Value → va_W → Prop) (xp : String → va_W → Prop) : Prop :=
  vx_Met l y (Cond.code y b ml rt :: TB) rm (va_Pc args (fun U => va_P D vwCl wc U.heap ∧ Kn D tys U ∧ va_D (fun _ => True) wc ∧ Kt (fun q => q ∈ wc.map Prod.fst) U U.heap)) (QU D (wc.map Prod.fst) post) (XU D (wc.map Prod.fst) xp) 1 6 (fun q => q ∈ wc.map Prod.fst)
def isX (x : Kx) (D : va_G) (ad : List Nat) (post : Option Value → va_W → Prop) (xp : String → va_W → Prop) : Prop := x.2.2.2.2.2.2.2.2.2.2 = vx_MQ x.2.2.2.2.2.2.2.1 (QU D ad post) (XU D ad xp) x.2.2.2.2.2.2.1 x.2.2.2.2.1 1 6 (fun q => q ∈ ad)
def Ke (x : Kx) (ad : List Nat) : Prop := Kt (fun q => q ∈ ad) x.2.2.2.2.1 x.2.2.2.2.1.heap ∧ (∀ z ∈ x.2.2.2.2.2.2.2.2.2.1.exceptionTable.toList, False) ∧ x.2.1.stackTraces = false
section UX
variable {l : Launch} {y : MethodName} {b : ByteArray} {ml : Nat} {rt : Option FieldType} {rm : Room} {D : va_G} {tys : List (ClassId × FieldType)} {args : List Value} {wc : va_W} {post : Option Value → va_W → Prop} {xp : String → va_W → Prop}
theorem Ux_of (hst : l.stackTraces = false) (hy : plainName y.cls = true) (hl : (lg_sl args).length ≤ ml) (h : ∀ x : Kx, Kf x b ml y.cls rt D tys rm → isX x D (wc.map Prod.fst) post xp → Ke x (wc.map Prod.fst) → Vw x ml (fun q => q ∈ wc.map Prod.fst) D true 0 0 wc 0 (lv_args 0 args) []) : Ux l y b ml rt rm D tys args wc post xp := by
  refine vx_ofW (cc := b) (maxL := ml) (ret := rt) hy rfl ?_
  intro p e s m args' below meth c s₁ B hml htab hv
  obtain ⟨rfl, hP, hK, hD, hKt⟩ := hv
  have hts := atoms_spec (ws := Cond.code y b ml rt :: TB) B.pre
  have hown : s.vm.findClass y.cls = some m.cls := findClass_of_methodNamed B.named
  have hk : Kf (p, l, e, rm, s, m, args.toArray, below, meth, c, vx_MQ below (QU D (wc.map Prod.fst) post) (XU D (wc.map Prod.fst) xp) args.toArray s 1 6 (fun q => q ∈ wc.map Prod.fst)) b ml y.cls rt D tys rm :=
    ⟨B.exec, B.bytes, hml, hown, fun w hw => hts w (List.mem_cons_of_mem _ hw), B.returns, B.notSynchronized, hK, rfl⟩
  have hl := lv_entry args (n := ml) hl
  have hD2 : va_D (fun q => q ∈ wc.map Prod.fst) wc := ⟨hD.1, fun k q hq => List.mem_map.mpr ⟨q, List.mem_of_getElem? hq, rfl⟩⟩
  rw [lg_entry_eq]
  exact h _ hk rfl ⟨hKt, htab, hst⟩ s.heap [] _ hP hD2 ⟨va_S.rf, fun h9 => by cases h9⟩ hl
end UX
section VXR
variable {x : Kx} {cc : ByteArray} {nL : Nat} {own : String} {ret : Option FieldType} {D : va_G} {tys : List (ClassId × FieldType)} {rm : Room} {wr : Bool} {ws : va_W} {pc n : Nat} {lv lv' : List (Nat × Value)} {st : List Value} {ad : List Nat} {post : Option Value → va_W → Prop} {xp : String → va_W → Prop}
theorem v_iretX (k : Kf x cc nL own (some .int) D tys rm) {v : Int32} (hq : isX x D ad post xp) (hp : post (some (.int v)) ws) (had : ws.map Prod.fst = ad) (hd : decode cc pc = .ok (.ireturn, 1)) : Vw x nL (fun q => q ∈ ad) D wr 0 0 ws pc lv [.int v] := by
  intro H locs ls a b c d
  rw [hq]
  intro T hT X
  exact vx_ret (W.iret (cells := 1) (slots := 6) k.1 k.2.1 k.2.2.2.2.2.1 (fun t ht hW => ⟨⟨_, ws, rfl, hp, had, by rw [ht]; exact a⟩, c.1.F ht⟩) c.1.2.2 hd k.2.2.2.2.2.2.1) T hT (stand_widen X (Nat.zero_le 1) (Nat.zero_le 6))
theorem v_vretX (k : Kf x cc nL own none D tys rm) (hq : isX x D ad post xp) (hp : post none ws) (had : ws.map Prod.fst = ad) (hd : decode cc pc = .ok (.return_, 1)) : Vw x nL (fun q => q ∈ ad) D wr 0 0 ws pc lv [] := by
  intro H locs ls a b c d
  rw [hq]
  intro T hT X
  exact vx_ret (W.vret (cells := 1) (slots := 6) k.1 k.2.1 k.2.2.2.2.2.1 (fun t ht hW => ⟨⟨_, ws, rfl, hp, had, by rw [ht]; exact a⟩, c.1.F ht⟩) c.1.2.2 hd k.2.2.2.2.2.2.1) T hT (stand_widen X (Nat.zero_le 1) (Nat.zero_le 6))
/-- the words of a throw of cls -/
def THR (ik ic : Nat) (cls : String) : Prop := Bundle.fit cls = true ∧ Cond.classLink RX4 ik cls ∈ TB ∧ Cond.initialized cls ∈ TB ∧ (∀ w ∈ (vx_atS RX4 ic cls nmX).filter goodWord, w ∈ TB) ∧ (∀ w ∈ (vx_atS RX4 ic cls nmX).filter (fun w => !goodWord w), w ∈ badX) ∧ (∀ w ∈ Cond.classLink RX4 ik cls :: Cond.initialized cls :: vx_atS RX4 ic cls nmX, vx_ot w = true)
theorem v_throwX (k : Kf x cc nL RX4 ret D tys rm) (hq : isX x D ad post xp) (ke : Ke x ad) {ik ic is : Nat} {cls text : String} (th : THR ik ic cls) (hs : (is, text) ∈ strX) (hr : 6 ≤ rm.frames ∧ 82 ≤ rm.locals ∧ 1 ≤ rm.cells ∧ 6 ≤ rm.slots) (hp : xp cls ws) (had : ws.map Prod.fst = ad)
    (d0 : decode cc pc = .ok (.new ik, 3)) (d3 : decode cc (pc + 3) = .ok (.dup, 1)) (d4 : decode cc (pc + 4) = .ok (.ldc is, 2)) (d6 : decode cc (pc + 6) = .ok (.invokespecial ic, 3)) (d9 : decode cc (pc + 9) = .ok (.athrow, 1)) : Vw x nL (fun q => q ∈ ad) D wr 0 0 ws pc lv [] := by
  intro H locs ls a b c d
  rw [hq]
  obtain ⟨t1, t2, t3, t4, t5, t6⟩ := th
  obtain ⟨⟨⟨z1, z2⟩, z3, z4, -⟩, z5, z6⟩ := ke
  obtain ⟨sa, hsa⟩ := z4 _ hs
  rw [← k.2.2.2.2.2.2.2.2] at hr
  have hw := k.2.2.2.2.1
  refine vx_throwS (A := fun q => q ∈ ad) (names := nmX) k.1 k.2.1 z6 k.2.2.2.1 t1 (by decide +kernel) (hw _ t2) (hw _ t3) hsa (vx_hat (fun w h => hw w (t4 w h)) t5 (fun w h => va_Nw.use (by simp only [badX, List.mem_cons, List.not_mem_nil, or_false] at h; rcases h with rfl | rfl | rfl | rfl | rfl | rfl <;> rfl) (z3 w h))) t6 z1 z2 c.1 (d.1.trans k.2.2.1.symm) d0 d3 d4 d6 d9 (fun x hx => (z5 x hx).elim) (by show 2 + 3 < _; omega) (by show 0 + (13 * (2 + 1) + 43) ≤ _; omega) (by omega) (by omega) k.2.2.2.2.2.2.1 (fun t hal hz hk => ⟨ws, hp, had, ?_, ?_⟩) c.1.2.2 (Nat.le_refl _) (Nat.le_refl _)
  · exact fun k9 q9 h9 => (a k9 q9 h9).kept (hk _ (a k9 q9 h9).lt)
  · exact ⟨Nat.le_trans c.1.1 hz, fun q h1 h2 => (hk q (Nat.lt_of_lt_of_le h1 c.1.1)).trans (c.1.2.1 q h1 h2)⟩
end VXR
theorem TB_all {L : List Cond} (h : L.all (fun w => decide (w ∈ lw_tbl) && goodWord w) = true) : ∀ w ∈ L, w ∈ TB := fun w hw => by
  have := List.all_eq_true.mp h w hw
  rw [Bool.and_eq_true, decide_eq_true_eq] at this
  exact List.mem_filter.mpr this
theorem th_IAE : THR 54 58 xIAE := ⟨by decide +kernel, TB_all (L := [Cond.classLink RX4 54 xIAE]) (by decide +kernel) _ List.mem_cons_self, TB_all (L := [Cond.initialized xIAE]) (by decide +kernel) _ List.mem_cons_self, TB_all (by decide +kernel), by decide +kernel, by decide +kernel⟩
theorem th_UOE : THR 71 75 xUOE := ⟨by decide +kernel, TB_all (L := [Cond.classLink RX4 71 xUOE]) (by decide +kernel) _ List.mem_cons_self, TB_all (L := [Cond.initialized xUOE]) (by decide +kernel) _ List.mem_cons_self, TB_all (by decide +kernel), by decide +kernel, by decide +kernel⟩
theorem th_ISE : THR 87 91 xISE := ⟨by decide +kernel, TB_all (L := [Cond.classLink RX4 87 xISE]) (by decide +kernel) _ List.mem_cons_self, TB_all (L := [Cond.initialized xISE]) (by decide +kernel) _ List.mem_cons_self, TB_all (by decide +kernel), by decide +kernel, by decide +kernel⟩
