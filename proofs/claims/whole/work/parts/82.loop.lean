def R_law : String := "HashPagesLaw"
def lw_P (b : Addr) (xs : List Int32) (args : Array Value) (s : State) : Prop := args = #[.ref b] ∧ s.IntsAt b xs ∧ xs.length ≤ 3072 ∧ (Jvm.Cond.and given_1 narrow_1).before args s = true
def lw_Q (_ : Array Value) (s : State) (o : Outcome) (t : State) : Prop := o = .returned (some (.int 1)) ∧ Framed s o t [] 601024 7293034
def lw_Z (below : List Frame) (a : Array Value) (s : State) : State → Prop := fun t => ∃ o, t.status = .running ∧ Ended t below o ∧ lw_Q a s o t
/-- the law's own end, with 1 on the stack, nothing written that was there before, its room as the claim has it -/
theorem lw_ret {p : Program} {l : Launch} {e : Env} {s : State} {m : MethodId} {below : List Frame} {meth : Method} {c : Code} {b : Nat} (hx : p.tables.exec = Jvm.exec) (hb : c.code = code) (hr : meth.sig.returnType = ret) (hlocks : meth.locks = false) {pc : Nat} {H : Heap} {ls : Array Slot} (hdg : decode code pc = .ok (.ireturn, 1)) : W p l e room_1 s m #[Value.ref b] below meth c H [] 601024 7293034 (lw_Z below #[Value.ref b] s) (F0 m pc ls [.int 1]) := by
  intro T hT X
  obtain ⟨fs, hret, hrun, hended, hW, hframe⟩ := X.leave (v := some (.int 1)) (hlocks := hlocks) (fun h => by rw [hr] at h; cases h)
  have hmeth' : T.vm.method? m = some meth := X.method'
  refine ⟨T.setFrames fs, ?_, .returned (some (.int 1)), hrun, hended, rfl, ⟨_, rfl⟩, hW, hframe⟩
  jvm_step X.here [X.here.top, hx, hb, hdg, hmeth', hr, ret, narrow_b1]
  (try refine ⟨rfl, ?_⟩); (try refine ⟨rfl, ?_⟩)
  first | (intro acts; rw [hret _ acts rfl rfl rfl]) | rw [hret _ _ rfl rfl rfl]
  exact Steps.refl _
/-- what holds at the law's entry: the machine, the code, the tables' words (any of lw_tbl by 'hts w (by decide +kernel)'), the script of L ints xs at the cell b, what the Statement gives of the start (any of its parts by flat_of_before) -/
def lw_At (p : Program) (s : State) (m : MethodId) (meth : Method) (c : Code) (b L : Nat) (xs : Nat → Int32) : Prop :=
  p.tables.exec = Jvm.exec ∧ c.code = code ∧ meth.sig.returnType = ret ∧ c.maxLocals = 7 ∧ s.vm.findClass R_law = some m.cls ∧ (∀ w ∈ lw_tbl, w.before #[Value.ref b] s = true) ∧ va_X b L xs s s.heap ∧ b < s.heap.size ∧ meth.locks = false ∧ (Jvm.Cond.and given_1 narrow_1).before #[Value.ref b] s = true
/-- the law's end -/
theorem v_lret {D : va_G} {tys : List (ClassId × FieldType)} {x : Kx} {b cells slots pc nL : Nat} {ws : va_W} {lv : List (Nat × Value)} (k : Kf x cL_law nL RL (some .boolean) D tys room_1) (ha : x.2.2.2.2.2.2.1 = #[Value.ref b]) (hq : x.2.2.2.2.2.2.2.2.2.2 = lw_Z x.2.2.2.2.2.2.2.1 #[Value.ref b] x.2.2.2.2.1) (h1 : cells ≤ 601024) (h2 : slots ≤ 7293034) (hd : decode cL_law pc = .ok (.ireturn, 1)) : Vw x nL (fun q => x.2.2.2.2.1.heap.size ≤ q) D true cells slots ws pc lv [.int (iI 1)] := by
  intro H locs ls a' b' c d
  refine va_forget c.1.2.2 ?_
  rw [hq, ha, k.2.2.2.2.2.2.2.2]
  intro T hT X
  exact lw_ret k.1 k.2.1 k.2.2.2.2.2.1 k.2.2.2.2.2.2.1 hd T hT (stand_widen X h1 h2)
set_option maxHeartbeats 1000000 in
set_option maxRecDepth 20000 in
theorem lp_law {D : va_G} {cI cB cJ cZ : ClassId} {x : Kx} {L b : Nat} {xs : Nat → Int32} {hx hd hc hk hch hb hbb hh hhb ht htb ha hj hi hjb hib : Nat} {hm : Nat} {r : Nat → Nat} {ho : Nat} (k : Kf x cL_law 7 RL (some .boolean) D (TY cI cB cJ cZ) room_1) (kt : Kt (fun q => x.2.2.2.2.1.heap.size ≤ q) x.2.2.2.2.1 x.2.2.2.2.1.heap) (hst9 : x.2.1.stackTraces = false) (hX : SCR x (fun q => x.2.2.2.2.1.heap.size ≤ q) b L xs) (ha9 : x.2.2.2.2.2.2.1 = #[Value.ref b]) (hq : x.2.2.2.2.2.2.2.2.2.2 = lw_Z x.2.2.2.2.2.2.2.1 #[Value.ref b] x.2.2.2.2.1) : ∀ (n i cells slots : Nat), L < i + 6 * n + 6 → i ≤ 6000 → cells + n ≤ 601024 → slots + 6 * n ≤ 7293034 → ∀ (pg lg : Nat) (a : DA) (ko : Int) (K fb fh fj fi : Nat → Nat) (tp : Nat) (T : Nat → Nat) (an : Nat) (An : Nat → Nat) (th : Int) (Cm Dr En Ot : Nat → Nat) (Ib : Nat → Bool) (Bd Mn : Nat → Nat) (q : RQ) (Ou Cg : Nat → Nat) (ch : Nat) (O : Nat → Int64), SI pg lg a ko K Cm Dr En Ib Bd Mn q Cg tp T an An → Vw x 7 (fun q => x.2.2.2.2.1.heap.size ≤ q) D true cells slots [oHash hx hd hch hb hh ht ha ((an : Nat) : Int), oDisk hd hc hk ko pg lg a.2.1 a.2.2.1 a.2.2.2, aN cI hc 65280 a.1, aN cI hk 255 K, oChange hch hd hj hi, oPage hb hbb, aN cI hbb 256 fb, oPage hh hhb, aN cI hhb 256 fh, oPage hj hjb, aN cI hjb 256 fj, oPage hi hib, aN cI hib 256 fi, oTape ht htb ((tp : Nat) : Int), aN cI htb 48 T, aN cI ha 32 An, oM hm r (th) (pg) (lg) (a.2.1) (a.2.2.1) (a.2.2.2) (a.1 0) (pF (a.1 0)) (tp) (an) (ch), aB cB (r 0) 65536 (Cm), aN cI (r 1) 256 (Dr), aN cI (r 2) 65536 (En), aN cI (r 3) 65536 (Ot), aZ cZ (r 4) 256 (Ib), aN cI (r 5) 256 (Bd), aN cI (r 6) 256 (Mn), aN cI (r 7) 23040 (q).1, aN cI (r 8) 23040 (q).2.1, aL cJ (r 9) 46080 (q).2.2.1, aL cJ (r 10) 92160 (q).2.2.2, aB cB (r 11) 48 (T), aB cB (r 12) 32 (An), aN cI (r 13) 256 (Ou), aN cI (r 14) 256 (Cg), aL cJ ho 1 O] 23 [(0, .ref b), (1, .ref hx), (2, .ref hm), (3, .ref ho), (4, .int (iI ((i : Nat) : Int)))] [] := by
  intro n
  induction n with
  | zero =>
    intro i cells slots hf hi0 hc0 hs0 pg lg a ko K fb fh fj fi tp T an An th Cm Dr En Ot Ib Bd Mn q Ou Cg ch O hS
    have hL9 := hX.2.2.2
    refine v_iload (n := 25) k dL_law_23 rfl rfl ?_
    refine v_aload_n (n := 26) k dL_law_25 rfl rfl ?_
    refine v_xlen (n := 27) k hX dL_law_26 rfl ?_
    refine v_bipush (n := 29) k dL_law_27 (by decide) rfl ?_
    refine v_isub (n := 30) k dL_law_29 rfl ?_
    refine v_icmp_gt (t := 798) (n := 33) k ⟨by omega, by omega⟩ ⟨by omega, by omega⟩ dL_law_30 (by decide) rfl ?_ ?_
    · intro _
      refine v_iconst (n := 799) k dL_law_798 rfl ?_
      exact v_lret k ha9 hq (by omega) (by omega) dL_law_799
    · exact fun h9 => absurd (show ((L : Nat) : Int) - 6 < ((i : Nat) : Int) by omega) h9
  | succ n ih =>
    intro i cells slots hf hi0 hc0 hs0 pg lg a ko K fb fh fj fi tp T an An th Cm Dr En Ot Ib Bd Mn q Ou Cg ch O hS
    have hL9 := hX.2.2.2
    refine v_iload (n := 25) k dL_law_23 rfl rfl ?_
    refine v_aload_n (n := 26) k dL_law_25 rfl rfl ?_
    refine v_xlen (n := 27) k hX dL_law_26 rfl ?_
    refine v_bipush (n := 29) k dL_law_27 (by decide) rfl ?_
    refine v_isub (n := 30) k dL_law_29 rfl ?_
    refine v_icmp_gt (t := 798) (n := 33) k ⟨by omega, by omega⟩ ⟨by omega, by omega⟩ dL_law_30 (by decide) rfl ?_ ?_
    · intro _
      refine v_iconst (n := 799) k dL_law_798 rfl ?_
      exact v_lret k ha9 hq (by omega) (by omega) dL_law_799
    · intro h9
      have hi6 : i + 6 ≤ L := by omega
      have hk9 : ∀ (pg lg : Nat) (a : DA) (ko : Int) (K fb fh fj fi : Nat → Nat) (tp : Nat) (T : Nat → Nat) (an : Nat) (An : Nat → Nat) (th : Int) (Cm Dr En Ot : Nat → Nat) (Ib : Nat → Bool) (Bd Mn : Nat → Nat) (q : RQ) (Ou Cg : Nat → Nat) (ch : Nat) (O : Nat → Int64), SI pg lg a ko K Cm Dr En Ib Bd Mn q Cg tp T an An → Vw x 7 (fun q => x.2.2.2.2.1.heap.size ≤ q) D true (cells + 1) (slots + 6) [oHash hx hd hch hb hh ht ha ((an : Nat) : Int), oDisk hd hc hk ko pg lg a.2.1 a.2.2.1 a.2.2.2, aN cI hc 65280 a.1, aN cI hk 255 K, oChange hch hd hj hi, oPage hb hbb, aN cI hbb 256 fb, oPage hh hhb, aN cI hhb 256 fh, oPage hj hjb, aN cI hjb 256 fj, oPage hi hib, aN cI hib 256 fi, oTape ht htb ((tp : Nat) : Int), aN cI htb 48 T, aN cI ha 32 An, oM hm r (th) (pg) (lg) (a.2.1) (a.2.2.1) (a.2.2.2) (a.1 0) (pF (a.1 0)) (tp) (an) (ch), aB cB (r 0) 65536 (Cm), aN cI (r 1) 256 (Dr), aN cI (r 2) 65536 (En), aN cI (r 3) 65536 (Ot), aZ cZ (r 4) 256 (Ib), aN cI (r 5) 256 (Bd), aN cI (r 6) 256 (Mn), aN cI (r 7) 23040 (q).1, aN cI (r 8) 23040 (q).2.1, aL cJ (r 9) 46080 (q).2.2.1, aL cJ (r 10) 92160 (q).2.2.2, aB cB (r 11) 48 (T), aB cB (r 12) 32 (An), aN cI (r 13) 256 (Ou), aN cI (r 14) 256 (Cg), aL cJ ho 1 O] 792 [(0, .ref b), (1, .ref hx), (2, .ref hm), (3, .ref ho), (4, .int (iI ((i : Nat) : Int)))] [] := by
        intro pg lg a ko K fb fh fj fi tp T an An th Cm Dr En Ot Ib Bd Mn q Ou Cg ch O hS
        refine v_iinc (n := 795) k dL_law_792 rfl (by decide) rfl rfl rfl ?_
        refine v_goto (t := 23) k dL_law_795 (by decide) ?_
        have e6 : ((i : Nat) : Int) + 6 = ((i + 6 : Nat) : Int) := by omega
        rw [e6]
        exact ih (i + 6) (cells + 1) (slots + 6) (by omega) (by omega) (by omega) (by omega) pg lg a ko K fb fh fj fi tp T an An th Cm Dr En Ot Ib Bd Mn q Ou Cg ch O hS
      refine v_aload_n (n := 34) k dL_law_33 rfl rfl ?_
      refine v_iload (n := 36) k dL_law_34 rfl rfl ?_
      refine v_xald (n := 37) k hX i rfl (by omega) dL_law_36 rfl ?_
      refine v_bipush (n := 39) k dL_law_37 (by decide) rfl ?_
      obtain ⟨c9, hc9, e9⟩ := and15 (iI (xI xs i))
      refine v_iand (n := 40) k (c9 : Int) e9 dL_law_39 rfl ?_
      by_cases hc15 : c9 = 15
      · subst hc15
        refine v_tabOut (t := 792) k ⟨by omega, by omega⟩ dL_law_40 (Or.inr (by decide)) (by decide) ?_
        refine v_wide (Nat.le_succ _) (Nat.le_add_right _ 6) ?_
        exact hk9 pg lg a ko K fb fh fj fi tp T an An th Cm Dr En Ot Ib Bd Mn q Ou Cg ch O hS
      · obtain ⟨C, wt, al, dn⟩ := a
        dsimp only
        have hcs : cells + 1 ≤ 601024 ∧ slots + 6 ≤ 7293034 := ⟨by omega, by omega⟩
        obtain rfl | rfl | rfl | rfl | rfl | rfl | rfl | rfl | rfl | rfl | rfl | rfl | rfl | rfl | rfl : c9 = 0 ∨ c9 = 1 ∨ c9 = 2 ∨ c9 = 3 ∨ c9 = 4 ∨ c9 = 5 ∨ c9 = 6 ∨ c9 = 7 ∨ c9 = 8 ∨ c9 = 9 ∨ c9 = 10 ∨ c9 = 11 ∨ c9 = 12 ∨ c9 = 13 ∨ c9 = 14 := by omega
        · refine v_tabIn (t := 116) (off := 76) k ⟨by decide, by decide⟩ dL_law_40 (by decide) (by decide) rfl (by decide) ?_
          exact st_law_0 k kt hst9 hX hi6 hcs hS hk9
        · refine v_tabIn (t := 164) (off := 124) k ⟨by decide, by decide⟩ dL_law_40 (by decide) (by decide) rfl (by decide) ?_
          exact st_law_1 k kt hst9 hX hi6 hcs hS hk9
        · refine v_tabIn (t := 308) (off := 268) k ⟨by decide, by decide⟩ dL_law_40 (by decide) (by decide) rfl (by decide) ?_
          exact st_law_2 k kt hst9 hX hi6 hcs hS hk9
        · refine v_tabIn (t := 364) (off := 324) k ⟨by decide, by decide⟩ dL_law_40 (by decide) (by decide) rfl (by decide) ?_
          exact st_law_3 k kt hst9 hX hi6 hcs hS hk9
        · refine v_tabIn (t := 408) (off := 368) k ⟨by decide, by decide⟩ dL_law_40 (by decide) (by decide) rfl (by decide) ?_
          exact st_law_4 k kt hst9 hX hi6 hcs hS hk9
        · refine v_tabIn (t := 452) (off := 412) k ⟨by decide, by decide⟩ dL_law_40 (by decide) (by decide) rfl (by decide) ?_
          exact st_law_5 k kt hst9 hX hi6 hcs hS hk9
        · refine v_tabIn (t := 477) (off := 437) k ⟨by decide, by decide⟩ dL_law_40 (by decide) (by decide) rfl (by decide) ?_
          exact st_law_6 k kt hst9 hX hi6 hcs hS hk9
        · refine v_tabIn (t := 513) (off := 473) k ⟨by decide, by decide⟩ dL_law_40 (by decide) (by decide) rfl (by decide) ?_
          exact st_law_7 k kt hst9 hX hi6 hcs hS hk9
        · refine v_tabIn (t := 569) (off := 529) k ⟨by decide, by decide⟩ dL_law_40 (by decide) (by decide) rfl (by decide) ?_
          exact st_law_8 k kt hst9 hX hi6 hcs hS hk9
        · refine v_tabIn (t := 606) (off := 566) k ⟨by decide, by decide⟩ dL_law_40 (by decide) (by decide) rfl (by decide) ?_
          exact st_law_9 k kt hst9 hX hi6 hcs hS hk9
        · refine v_tabIn (t := 631) (off := 591) k ⟨by decide, by decide⟩ dL_law_40 (by decide) (by decide) rfl (by decide) ?_
          exact st_law_10 k kt hst9 hX hi6 hcs hS hk9
        · refine v_tabIn (t := 644) (off := 604) k ⟨by decide, by decide⟩ dL_law_40 (by decide) (by decide) rfl (by decide) ?_
          exact st_law_11 k kt hst9 hX hi6 hcs hS hk9
        · refine v_tabIn (t := 669) (off := 629) k ⟨by decide, by decide⟩ dL_law_40 (by decide) (by decide) rfl (by decide) ?_
          exact st_law_12 k kt hst9 hX hi6 hcs hS hk9
        · refine v_tabIn (t := 706) (off := 666) k ⟨by decide, by decide⟩ dL_law_40 (by decide) (by decide) rfl (by decide) ?_
          exact st_law_13 k kt hst9 hX hi6 hcs hS hk9
        · refine v_tabIn (t := 767) (off := 727) k ⟨by decide, by decide⟩ dL_law_40 (by decide) (by decide) rfl (by decide) ?_
          exact st_law_14 k kt hst9 hX hi6 hcs hS hk9
