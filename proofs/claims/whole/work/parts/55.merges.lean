theorem bd_some {C : Nat → Nat} {h o : Nat} (e : bdN C h = some o) : pb C (entN C (idx C h)) 0 ≠ 0 ∧ o = entN C (idx C h ^^^ 2 ^ (C 0 - pb C (entN C (idx C h)) 0)) ∧ pb C o 0 = pb C (entN C (idx C h)) 0 := by
  unfold bdN at e
  split at e
  · cases e
  · split at e
    · rename_i h1 h2
      cases e
      exact ⟨h1, rfl, h2⟩
    · cases e
theorem x_lt {C : Nat → Nat} {pg lg h : Nat} (hF : FULL C pg lg) (hh : h < 65536) (h0 : pb C (entN C (idx C h)) 0 ≠ 0) : idx C h ^^^ 2 ^ (C 0 - pb C (entN C (idx C h)) 0) < 2 ^ C 0 := by
  have hi := idx_lt (C := C) hh hF.1.1.2.2.2.1
  have e5 := (hF.2.1 _ hi).2.2.2.2
  exact Nat.xor_lt_two_pow hi (Nat.pow_lt_pow_right (by decide) (by omega))
theorem mgB_t {C : Nat → Nat} {h e : Nat} (hb : idx C h / 2 ^ (C 0 - e) % 2 ≠ 1) : mgB C h e = true := by
  unfold mgB
  rw [b_and, show idx C h / 2 ^ (C 0 - e) % 2 = 0 by omega, Nat.zero_mul]
  rfl
theorem mgB_f {C : Nat → Nat} {h e : Nat} (hb : idx C h / 2 ^ (C 0 - e) % 2 = 1) : mgB C h e = false := by
  unfold mgB
  have hp : 0 < 2 ^ (C 0 - e) := Nat.pow_pos (by decide)
  rw [b_and, hb, Nat.one_mul]
  exact beq_false_of_ne (by omega)
set_option maxHeartbeats 1000000 in
set_option maxRecDepth 20000 in
theorem z_X5_buddy {D : va_G} {cI cB cJ cZ : ClassId} {hm : Nat} {r : Nat → Nat} {th : Int} {pg lg : Nat} {wt al : Int} {tp an ch : Nat} {C : Nat → Nat} {Dr En : Nat → Nat} {Ib : Nat → Bool} {Bd Mn : Nat → Nat} {q : RQ} {I : Int} {h : Nat} (hF : FULL C pg lg) (hR : RM C lg Dr En Ib Bd Mn q) (hh : h < 65536) (hI : I = ((idx C h : Nat) : Int)) : ∀ l, Rd l yX5_buddy cX5_buddy 5 (some .int) ({ frames := 0, cells := 0, slots := 0, locals := 0 }) D (TY cI cB cJ cZ) [.ref hm, .int (iI I)] [oM hm r th pg lg wt al 0 (C 0) (pF (C 0)) tp an ch, aN cI (r 2) 65536 En, aN cI (r 5) 256 Bd] (fun v => v = some (.int (iI (fdI (bdN C h))))) := by
  intro l
  refine Rd_of (by decide) (Nat.le_of_ble_eq_true rfl) (fun x k hq => ?_)
  obtain ⟨w1, w2, w3, w4, w5, w6, w7⟩ := id hF.1.1
  have h14 := hF.1.2.2.2
  have h15 : 2 ^ C 0 ≤ 2 ^ 14 := Nat.pow_le_pow_right (by decide) h14
  have h15b : (2 : Nat) ^ 14 = 16384 := by decide
  have h16 : 0 < 2 ^ C 0 := Nat.pow_pos (by decide)
  have hpf := pF_le15 w4
  have hx := idx_lt (C := C) hh w4
  obtain ⟨e1, e2, e3, e4, e5⟩ := hF.2.1 _ hx
  have hRB := hR.rb hF hx
  have hEx := hR.2.1 _ hx
  subst hI
  have hbl := hR.2.2.2.2.2.2.1 (entN C (idx C h))
  have hBp : Bd (entN C (idx C h)) = pb C (entN C (idx C h)) 0 := hRB.1
  refine v_aload_n (n := 1) k dX5_buddy_0 rfl rfl ?_
  refine v_get (n := 4) k ciX5 0 10 (by decide) fl_X5_22 rfl rfl dX5_buddy_1 rfl ?_
  refine v_iload_n (n := 5) k dX5_buddy_4 rfl rfl ?_
  refine v_ialdN (n := 6) k 1 0 (idx C h) rfl rfl (by omega) (by omega) (by omega) dX5_buddy_5 rfl ?_
  rw [hEx]
  refine v_istore_n (n := 7) k dX5_buddy_6 rfl (by decide) rfl rfl ?_
  refine v_aload_n (n := 8) k dX5_buddy_7 rfl rfl ?_
  refine v_get (n := 11) k ciX5 0 13 (by decide) fl_X5_32 rfl rfl dX5_buddy_8 rfl ?_
  refine v_iload_n (n := 12) k dX5_buddy_11 rfl rfl ?_
  refine v_ialdN (n := 13) k 2 0 (entN C (idx C h)) rfl rfl (by omega) (by omega) (by omega) dX5_buddy_12 rfl ?_
  rw [hBp]
  refine v_istore_n (n := 14) k dX5_buddy_13 rfl (by decide) rfl rfl ?_
  refine v_iload_n (n := 15) k dX5_buddy_14 rfl rfl ?_
  refine v_if_ne (n := 18) (t := 20) k (⟨by omega, by omega⟩) dX5_buddy_15 (by decide) rfl (fun c_15 => ?_) (fun c_15 => ?_)
  · have hp2 : 2 ^ (C 0 - pb C (entN C (idx C h)) 0) ≤ 2 ^ C 0 := Nat.pow_le_pow_right (by decide) (by omega)
    have h0 : pb C (entN C (idx C h)) 0 ≠ 0 := by omega
    have hxl := x_lt hF hh h0
    have ho := hF.2.1 _ hxl
    have hRo := hR.rb hF hxl
    have hEo := hR.2.1 _ hxl
    have hBo := hRo.1
    have hb2 := w3 (entN C (idx C h ^^^ 2 ^ (C 0 - pb C (entN C (idx C h)) 0)) * 256 + 0)
    refine v_aload_n (n := 21) k dX5_buddy_20 rfl rfl ?_
    refine v_get (n := 24) k ciX5 0 10 (by decide) fl_X5_22 rfl rfl dX5_buddy_21 rfl ?_
    refine v_iload_n (n := 25) k dX5_buddy_24 rfl rfl ?_
    refine v_iconst (n := 26) k dX5_buddy_25 rfl ?_
    refine v_aload_n (n := 27) k dX5_buddy_26 rfl rfl ?_
    refine v_get (n := 30) k ciX5 0 7 (by decide) fl_X5_95 rfl rfl dX5_buddy_27 rfl ?_
    refine v_iload_n (n := 31) k dX5_buddy_30 rfl rfl ?_
    refine v_isub (n := 32) k dX5_buddy_31 rfl ?_
    refine v_ishl (n := 33) k (((2 ^ (C 0 - pb C (entN C (idx C h)) 0) : Nat) : Int)) (by have h9 := ax_shl (z := 1) (y := ((C 0 : Nat) : Int) - ((pb C (entN C (idx C h)) 0 : Nat) : Int)) (a := 1) (d := C 0 - pb C (entN C (idx C h)) 0) rfl (by omega) (by omega) (by omega); rw [Nat.one_mul] at h9; exact h9) dX5_buddy_32 rfl ?_
    refine v_ixor (n := 34) k (((idx C h ^^^ 2 ^ (C 0 - pb C (entN C (idx C h)) 0) : Nat) : Int)) (ax_xor _ _) dX5_buddy_33 rfl ?_
    refine v_ialdN (n := 35) k 1 0 (idx C h ^^^ 2 ^ (C 0 - pb C (entN C (idx C h)) 0)) rfl rfl (by omega) (by omega) (by omega) dX5_buddy_34 rfl ?_
    rw [hEo]
    refine v_istore (n := 37) k dX5_buddy_35 rfl (by decide) rfl rfl ?_
    refine v_aload_n (n := 38) k dX5_buddy_37 rfl rfl ?_
    refine v_get (n := 41) k ciX5 0 13 (by decide) fl_X5_32 rfl rfl dX5_buddy_38 rfl ?_
    refine v_iload (n := 43) k dX5_buddy_41 rfl rfl ?_
    refine v_ialdN (n := 44) k 2 0 (entN C (idx C h ^^^ 2 ^ (C 0 - pb C (entN C (idx C h)) 0))) rfl rfl (by omega) (by omega) (by omega) dX5_buddy_43 rfl ?_
    rw [hBo]
    refine v_iload_n (n := 45) k dX5_buddy_44 rfl rfl ?_
    refine v_icmp_ne (n := 48) (t := 53) k (⟨by omega, by have : pb C (entN C (idx C h ^^^ 2 ^ (C 0 - pb C (entN C (idx C h)) 0))) 0 < 256 := w3 _; omega⟩) (⟨by omega, by have : pb C (entN C (idx C h ^^^ 2 ^ (C 0 - pb C (entN C (idx C h)) 0))) 0 < 256 := w3 _; omega⟩) dX5_buddy_45 (by decide) rfl (fun c_45 => ?_) (fun c_45 => ?_)
    · refine v_iconst (n := 54) k dX5_buddy_53 rfl ?_
      refine v_iretR k hq ?_ dX5_buddy_54
      unfold bdN
      rw [if_neg h0, if_neg (by omega)]
      rfl
    · refine v_iload (n := 50) k dX5_buddy_48 rfl rfl ?_
      refine v_goto (t := 54) k dX5_buddy_50 (by decide) ?_
      refine v_iretR k hq ?_ dX5_buddy_54
      unfold bdN
      rw [if_neg h0, if_pos (by omega)]
      rfl
  · refine v_iconst (n := 19) k dX5_buddy_18 rfl ?_
    refine v_iretR k hq ?_ dX5_buddy_19
    unfold bdN
    rw [if_pos (by omega)]
    rfl
set_option maxHeartbeats 1000000 in
set_option maxRecDepth 20000 in
theorem lp_X5_merges1 {D : va_G} {cI cB cJ cZ : ClassId} {x : Kx} {hm : Nat} {r : Nat → Nat} {th : Int} {pg lg : Nat} {wt al : Int} {tp an ch : Nat} {C : Nat → Nat} {Cm Dr En Ot : Nat → Nat} {Ib : Nat → Bool} {Bd Mn : Nat → Nat} {q : RQ} {Ou Cg : Nat → Nat} {kp lf a b e : Nat} (k : Kf x cX5_merges 9 yX5_merges.cls (some .int) D (TY cI cB cJ cZ) ({ frames := 4, cells := 0, slots := 0, locals := 90 })) {A : Nat → Prop} (hF9 : FULL C pg lg) (hE9 : ∀ j, En j < 256) (hk9p : kp < 256) (hl9p : lf < 256) (hgo : ∀ i, i < 2 ^ C 0 → (En i = lf ↔ a ≤ i ∧ i < b)) (hk9 : Vw x 9 A D true 0 0 [oM hm r th pg lg wt al 0 (C 0) (pF (C 0)) tp an ch, aB cB (r 0) 65536 (Cm), aN cI (r 1) 256 (Dr), aN cI (r 2) 65536 (En), aN cI (r 3) 65536 (lo (fun i => if a ≤ i ∧ i < b then kp else En i) Ot (2 ^ C 0)), aZ cZ (r 4) 256 (Ib), aN cI (r 5) 256 (Bd), aN cI (r 6) 256 (Mn), aN cI (r 7) 23040 (q).1, aN cI (r 8) 23040 (q).2.1, aL cJ (r 9) 46080 (q).2.2.1, aL cJ (r 10) 92160 (q).2.2.2, aN cI (r 13) 256 (Ou), aN cI (r 14) 256 (Cg)] 141 [(0, .ref hm), (4, .int (iI ((e : Nat) : Int))), (6, .int (iI ((kp : Nat) : Int))), (7, .int (iI ((lf : Nat) : Int))), (8, .int (iI ((2 ^ C 0 : Nat) : Int)))] []) : ∀ (m : Nat) (i : Nat) (I : Int), 2 ^ C 0 < i + m → i ≤ 2 ^ C 0 → I = (i : Int) → Vw x 9 A D true 0 0 [oM hm r th pg lg wt al 0 (C 0) (pF (C 0)) tp an ch, aB cB (r 0) 65536 (Cm), aN cI (r 1) 256 (Dr), aN cI (r 2) 65536 (En), aN cI (r 3) 65536 (lo (fun i => if a ≤ i ∧ i < b then kp else En i) Ot i), aZ cZ (r 4) 256 (Ib), aN cI (r 5) 256 (Bd), aN cI (r 6) 256 (Mn), aN cI (r 7) 23040 (q).1, aN cI (r 8) 23040 (q).2.1, aL cJ (r 9) 46080 (q).2.2.1, aL cJ (r 10) 92160 (q).2.2.2, aN cI (r 13) 256 (Ou), aN cI (r 14) 256 (Cg)] 93 [(0, .ref hm), (4, .int (iI ((e : Nat) : Int))), (6, .int (iI ((kp : Nat) : Int))), (7, .int (iI ((lf : Nat) : Int))), (8, .int (iI I))] [] := by
  intro m
  induction m with
  | zero => intro i I hm9 hi e1; omega
  | succ m ih =>
    intro i I hm9 hi e1
    have hF := hF9
    obtain ⟨w1, w2, w3, w4, w5, w6, w7⟩ := id hF.1.1
    have h14 := hF.1.2.2.2
    have h15 : 2 ^ C 0 ≤ 2 ^ 14 := Nat.pow_le_pow_right (by decide) h14
    have h15b : (2 : Nat) ^ 14 = 16384 := by decide
    have h16 : 0 < 2 ^ C 0 := Nat.pow_pos (by decide)
    have hpf := pF_le15 w4
    refine v_iload (n := 95) k dX5_merges_93 rfl rfl ?_
    refine v_iconst (n := 96) k dX5_merges_95 rfl ?_
    refine v_aload_n (n := 97) k dX5_merges_96 rfl rfl ?_
    refine v_get (n := 100) k ciX5 0 7 (by decide) fl_X5_95 rfl rfl dX5_merges_97 rfl ?_
    refine v_ishl (n := 101) k (((2 ^ C 0 : Nat) : Int)) (by have h9 := ax_shl (a := 1) (d := C 0) rfl rfl (by omega) (by omega); rw [Nat.one_mul] at h9; exact h9) dX5_merges_100 rfl ?_
    refine v_icmp_ge (n := 104) (t := 141) k (⟨by omega, by omega⟩) (⟨by omega, by omega⟩) dX5_merges_101 (by decide) rfl (fun c_101 => ?_) (fun c_101 => ?_)
    · have e8 : i = 2 ^ C 0 := by omega
      rw [show I = ((2 ^ C 0 : Nat) : Int) by omega, e8]
      exact hk9
    · have he8 := hE9 i
      have hg9 := hgo i (by omega)
      refine v_aload_n (n := 105) k dX5_merges_104 rfl rfl ?_
      refine v_get (n := 108) k ciX5 0 11 (by decide) fl_X5_25 rfl rfl dX5_merges_105 rfl ?_
      refine v_iload (n := 110) k dX5_merges_108 rfl rfl ?_
      refine v_aload_n (n := 111) k dX5_merges_110 rfl rfl ?_
      refine v_get (n := 114) k ciX5 0 10 (by decide) fl_X5_22 rfl rfl dX5_merges_111 rfl ?_
      refine v_iload (n := 116) k dX5_merges_114 rfl rfl ?_
      refine v_ialdN (n := 117) k 3 0 (i) rfl rfl (by omega) (by omega) (by omega) dX5_merges_116 rfl ?_
      refine v_iload (n := 119) k dX5_merges_117 rfl rfl ?_
      refine v_icmp_ne (n := 122) (t := 127) k (⟨by omega, by omega⟩) (⟨by omega, by omega⟩) dX5_merges_119 (by decide) rfl (fun c_119 => ?_) (fun c_119 => ?_)
      · refine v_aload_n (n := 128) k dX5_merges_127 rfl rfl ?_
        refine v_get (n := 131) k ciX5 0 10 (by decide) fl_X5_22 rfl rfl dX5_merges_128 rfl ?_
        refine v_iload (n := 133) k dX5_merges_131 rfl rfl ?_
        refine v_ialdN (n := 134) k 3 0 (i) rfl rfl (by omega) (by omega) (by omega) dX5_merges_133 rfl ?_
        refine v_iastN (n := 135) k 4 0 (i) rfl rfl (by omega) (by omega) (by omega) (En i) (rfl) dX5_merges_134 rfl ?_
        rw [lo_s (f := fun i => if a ≤ i ∧ i < b then kp else En i) (b := En i) (by exact if_neg (fun z => by have := hg9.mpr z; omega))]
        refine v_iinc (n := 138) k dX5_merges_135 rfl (by decide) rfl rfl rfl ?_
        refine v_goto (t := 93) k dX5_merges_138 (by decide) ?_
        exact ih (i + 1) _ (by omega) (by omega) (by omega)
      · refine v_iload (n := 124) k dX5_merges_122 rfl rfl ?_
        refine v_goto (t := 134) k dX5_merges_124 (by decide) ?_
        refine v_iastN (n := 135) k 4 0 (i) rfl rfl (by omega) (by omega) (by omega) (kp) (rfl) dX5_merges_134 rfl ?_
        rw [lo_s (f := fun i => if a ≤ i ∧ i < b then kp else En i) (b := kp) (by exact if_pos (hg9.mp (by omega)))]
        refine v_iinc (n := 138) k dX5_merges_135 rfl (by decide) rfl rfl rfl ?_
        refine v_goto (t := 93) k dX5_merges_138 (by decide) ?_
        exact ih (i + 1) _ (by omega) (by omega) (by omega)
set_option maxHeartbeats 1000000 in
set_option maxRecDepth 20000 in
theorem lp_X5_merges2 {D : va_G} {cI cB cJ cZ : ClassId} {x : Kx} {hm : Nat} {r : Nat → Nat} {th : Int} {pg lg : Nat} {wt al : Int} {tp an ch : Nat} {C : Nat → Nat} {Cm Dr En Ot : Nat → Nat} {Ib : Nat → Bool} {Bd Mn : Nat → Nat} {q : RQ} {Ou Cg : Nat → Nat} {kp lf e : Nat} (k : Kf x cX5_merges 9 yX5_merges.cls (some .int) D (TY cI cB cJ cZ) ({ frames := 4, cells := 0, slots := 0, locals := 90 })) {A : Nat → Prop} (hF9 : FULL C pg lg) (hk9 : Vw x 9 A D true 0 0 [oM hm r th pg lg wt al 0 (C 0) (pF (C 0)) tp an ch, aB cB (r 0) 65536 (Cm), aN cI (r 1) 256 (Dr), aN cI (r 2) 65536 (lo Ot En (2 ^ C 0)), aN cI (r 3) 65536 (Ot), aZ cZ (r 4) 256 (Ib), aN cI (r 5) 256 (Bd), aN cI (r 6) 256 (Mn), aN cI (r 7) 23040 (q).1, aN cI (r 8) 23040 (q).2.1, aL cJ (r 9) 46080 (q).2.2.1, aL cJ (r 10) 92160 (q).2.2.2, aN cI (r 13) 256 (Ou), aN cI (r 14) 256 (Cg)] 205 [(0, .ref hm), (4, .int (iI ((e : Nat) : Int))), (6, .int (iI ((kp : Nat) : Int))), (7, .int (iI ((lf : Nat) : Int))), (8, .int (iI ((2 ^ C 0 : Nat) : Int)))] []) : ∀ (m : Nat) (i : Nat) (I : Int), 2 ^ C 0 < i + m → i ≤ 2 ^ C 0 → I = (i : Int) → Vw x 9 A D true 0 0 [oM hm r th pg lg wt al 0 (C 0) (pF (C 0)) tp an ch, aB cB (r 0) 65536 (Cm), aN cI (r 1) 256 (Dr), aN cI (r 2) 65536 (lo Ot En i), aN cI (r 3) 65536 (Ot), aZ cZ (r 4) 256 (Ib), aN cI (r 5) 256 (Bd), aN cI (r 6) 256 (Mn), aN cI (r 7) 23040 (q).1, aN cI (r 8) 23040 (q).2.1, aL cJ (r 9) 46080 (q).2.2.1, aL cJ (r 10) 92160 (q).2.2.2, aN cI (r 13) 256 (Ou), aN cI (r 14) 256 (Cg)] 174 [(0, .ref hm), (4, .int (iI ((e : Nat) : Int))), (6, .int (iI ((kp : Nat) : Int))), (7, .int (iI ((lf : Nat) : Int))), (8, .int (iI I))] [] := by
  intro m
  induction m with
  | zero => intro i I hm9 hi e1; omega
  | succ m ih =>
    intro i I hm9 hi e1
    have hF := hF9
    obtain ⟨w1, w2, w3, w4, w5, w6, w7⟩ := id hF.1.1
    have h14 := hF.1.2.2.2
    have h15 : 2 ^ C 0 ≤ 2 ^ 14 := Nat.pow_le_pow_right (by decide) h14
    have h15b : (2 : Nat) ^ 14 = 16384 := by decide
    have h16 : 0 < 2 ^ C 0 := Nat.pow_pos (by decide)
    have hpf := pF_le15 w4
    refine v_iload (n := 176) k dX5_merges_174 rfl rfl ?_
    refine v_iconst (n := 177) k dX5_merges_176 rfl ?_
    refine v_aload_n (n := 178) k dX5_merges_177 rfl rfl ?_
    refine v_get (n := 181) k ciX5 0 7 (by decide) fl_X5_95 rfl rfl dX5_merges_178 rfl ?_
    refine v_ishl (n := 182) k (((2 ^ C 0 : Nat) : Int)) (by have h9 := ax_shl (a := 1) (d := C 0) rfl rfl (by omega) (by omega); rw [Nat.one_mul] at h9; exact h9) dX5_merges_181 rfl ?_
    refine v_icmp_ge (n := 185) (t := 205) k (⟨by omega, by omega⟩) (⟨by omega, by omega⟩) dX5_merges_182 (by decide) rfl (fun c_182 => ?_) (fun c_182 => ?_)
    · have e8 : i = 2 ^ C 0 := by omega
      rw [show I = ((2 ^ C 0 : Nat) : Int) by omega, e8]
      exact hk9
    · refine v_aload_n (n := 186) k dX5_merges_185 rfl rfl ?_
      refine v_get (n := 189) k ciX5 0 10 (by decide) fl_X5_22 rfl rfl dX5_merges_186 rfl ?_
      refine v_iload (n := 191) k dX5_merges_189 rfl rfl ?_
      refine v_aload_n (n := 192) k dX5_merges_191 rfl rfl ?_
      refine v_get (n := 195) k ciX5 0 11 (by decide) fl_X5_25 rfl rfl dX5_merges_192 rfl ?_
      refine v_iload (n := 197) k dX5_merges_195 rfl rfl ?_
      refine v_ialdN (n := 198) k 4 0 (i) rfl rfl (by omega) (by omega) (by omega) dX5_merges_197 rfl ?_
      refine v_iastN (n := 199) k 3 0 (i) rfl rfl (by omega) (by omega) (by omega) (Ot i) (rfl) dX5_merges_198 rfl ?_
      rw [lo_s (f := Ot) rfl]
      refine v_iinc (n := 202) k dX5_merges_199 rfl (by decide) rfl rfl rfl ?_
      refine v_goto (t := 174) k dX5_merges_202 (by decide) ?_
      exact ih (i + 1) _ (by omega) (by omega) (by omega)
set_option maxHeartbeats 1000000 in
set_option maxRecDepth 20000 in
theorem lp_X5_merges3 {D : va_G} {cI cB cJ cZ : ClassId} {x : Kx} {hm : Nat} {r : Nat → Nat} {th : Int} {pg lg : Nat} {wt al : Int} {tp an ch : Nat} {C : Nat → Nat} {Cm Dr En Ot : Nat → Nat} {Ib : Nat → Bool} {Bd Mn0 : Nat → Nat} {q0 : RQ} {Ou Cg : Nat → Nat} {kp lf e : Nat} {Bd0 : Nat → Nat} (k : Kf x cX5_merges 9 yX5_merges.cls (some .int) D (TY cI cB cJ cZ) ({ frames := 4, cells := 0, slots := 0, locals := 90 })) {A : Nat → Prop} (hk9p : kp < 256) (hl9p : lf < 256) (hne : kp ≠ lf) (hn42 : pb C kp 1 + pb C lf 1 ≤ 42) (hL : RB C lf Bd0 Mn0 q0) (hk9 : ∀ (R : Int) (Mn : Nat → Nat) (q : RQ), MGI C kp lf Mn0 q0 (pb C lf 1) Mn q → Vw x 9 A D true 0 0 [oM hm r th pg lg wt al 0 (C 0) (pF (C 0)) tp an ch, aB cB (r 0) 65536 (Cm), aN cI (r 1) 256 (Dr), aN cI (r 2) 65536 (En), aN cI (r 3) 65536 (Ot), aZ cZ (r 4) 256 (Ib), aN cI (r 5) 256 (Bd), aN cI (r 6) 256 (Mn), aN cI (r 7) 23040 (q).1, aN cI (r 8) 23040 (q).2.1, aL cJ (r 9) 46080 (q).2.2.1, aL cJ (r 10) 92160 (q).2.2.2, aN cI (r 13) 256 (Ou), aN cI (r 14) 256 (Cg)] 262 [(0, .ref hm), (4, .int (iI ((e : Nat) : Int))), (6, .int (iI ((kp : Nat) : Int))), (7, .int (iI ((lf : Nat) : Int))), (8, .int (iI R))] []) : ∀ (m : Nat) (t : Nat) (R : Int) (Mn : Nat → Nat) (q : RQ), pb C lf 1 < t + m → t ≤ pb C lf 1 → R = (t : Int) → MGI C kp lf Mn0 q0 t Mn q → Vw x 9 A D true 0 0 [oM hm r th pg lg wt al 0 (C 0) (pF (C 0)) tp an ch, aB cB (r 0) 65536 (Cm), aN cI (r 1) 256 (Dr), aN cI (r 2) 65536 (En), aN cI (r 3) 65536 (Ot), aZ cZ (r 4) 256 (Ib), aN cI (r 5) 256 (Bd), aN cI (r 6) 256 (Mn), aN cI (r 7) 23040 (q).1, aN cI (r 8) 23040 (q).2.1, aL cJ (r 9) 46080 (q).2.2.1, aL cJ (r 10) 92160 (q).2.2.2, aN cI (r 13) 256 (Ou), aN cI (r 14) 256 (Cg)] 208 [(0, .ref hm), (4, .int (iI ((e : Nat) : Int))), (6, .int (iI ((kp : Nat) : Int))), (7, .int (iI ((lf : Nat) : Int))), (8, .int (iI R))] [] := by
  intro m
  induction m with
  | zero => intro t R Mn q hm9 ht e1 hI; omega
  | succ m ih =>
    intro t R Mn q hm9 ht e1 hI
    have hlk := hI.lk ht
    have hml : Mn lf = pb C lf 1 := (hI.2.2.1 lf (fun z => hne z.symm)).trans hL.2.1
    refine v_iload (n := 210) k dX5_merges_208 rfl rfl ?_
    refine v_aload_n (n := 211) k dX5_merges_210 rfl rfl ?_
    refine v_get (n := 214) k ciX5 0 14 (by decide) fl_X5_35 rfl rfl dX5_merges_211 rfl ?_
    refine v_iload (n := 216) k dX5_merges_214 rfl rfl ?_
    refine v_ialdN (n := 217) k 7 0 (lf) rfl rfl (by omega) (by omega) (by omega) dX5_merges_216 rfl ?_
    refine v_icmp_ge (n := 220) (t := 262) k (⟨by omega, by omega⟩) (⟨by omega, by omega⟩) dX5_merges_217 (by decide) rfl (fun c_217 => ?_) (fun c_217 => ?_)
    · have e8 : t = pb C lf 1 := by omega
      exact hk9 _ _ _ (e8 ▸ hI)
    · refine v_aload_n (n := 221) k dX5_merges_220 rfl rfl ?_
      refine v_bipush (n := 223) k dX5_merges_221 (by decide) rfl ?_
      refine v_iload (n := 225) k dX5_merges_223 rfl rfl ?_
      refine v_imul (n := 226) k dX5_merges_225 rfl ?_
      refine v_iload (n := 228) k dX5_merges_226 rfl rfl ?_
      refine v_iadd (n := 229) k dX5_merges_228 rfl ?_
      refine v_bipush (n := 231) k dX5_merges_229 (by decide) rfl ?_
      refine v_iload (n := 233) k dX5_merges_231 rfl rfl ?_
      refine v_imul (n := 234) k dX5_merges_233 rfl ?_
      refine v_aload_n (n := 235) k dX5_merges_234 rfl rfl ?_
      refine v_get (n := 238) k ciX5 0 14 (by decide) fl_X5_35 rfl rfl dX5_merges_235 rfl ?_
      refine v_iload (n := 240) k dX5_merges_238 rfl rfl ?_
      refine v_ialdN (n := 241) k 7 0 (kp) rfl rfl (by omega) (by omega) (by omega) dX5_merges_240 rfl ?_
      refine v_iadd (n := 242) k dX5_merges_241 rfl ?_
      refine v_upV (n := 245) k [0, 8, 9, 10, 11] 0 (z_X5_copyRecord (f := 90 * lf + t) (t := 90 * kp + Mn kp) (by omega) (by omega) (by omega) (by omega)) miX5_copyRecord ml_X5_150 (by decide) (by decide) rfl (by decide) rfl rfl rfl rfl (Nat.le_of_ble_eq_true rfl) ⟨Nat.zero_le _, Nat.zero_le _⟩ dX5_merges_242 rfl ?_
      rintro _ _ ⟨rfl, rfl⟩
      dsimp only [wput, List.set, Option.toList, List.nil_append, List.cons_append]
      refine v_aload_n (n := 246) k dX5_merges_245 rfl rfl ?_
      refine v_get (n := 249) k ciX5 0 14 (by decide) fl_X5_35 rfl rfl dX5_merges_246 rfl ?_
      refine v_iload (n := 251) k dX5_merges_249 rfl rfl ?_
      refine v_dup2 (n := 252) k rfl rfl dX5_merges_251 rfl ?_
      refine v_ialdN (n := 253) k 7 0 (kp) rfl rfl (by omega) (by omega) (by omega) dX5_merges_252 rfl ?_
      refine v_iconst (n := 254) k dX5_merges_253 rfl ?_
      refine v_iadd (n := 255) k dX5_merges_254 rfl ?_
      refine v_iastN (n := 256) k 7 0 (kp) rfl rfl (by omega) (by omega) (by omega) (Mn kp + 1) (by omega) dX5_merges_255 rfl ?_
      refine v_iinc (n := 259) k dX5_merges_256 rfl (by decide) rfl rfl rfl ?_
      refine v_goto (t := 208) k dX5_merges_259 (by decide) ?_
      exact ih (t + 1) _ _ _ (by omega) (by omega) (by omega) (hI.step hL (by omega) (by omega) hne)
set_option maxHeartbeats 1000000 in
set_option maxRecDepth 20000 in
theorem z_X5_merges {D : va_G} {cI cB cJ cZ : ClassId} {hm : Nat} {r : Nat → Nat} {th : Int} {pg lg : Nat} {wt al : Int} {tp an ch : Nat} {C : Nat → Nat} {Cm Dr En Ot : Nat → Nat} {Ib : Nat → Bool} {Bd Mn : Nat → Nat} {q : RQ} {Ou Cg : Nat → Nat} {I : Int} {h : Nat} (hF : FULL C pg lg) (hj : pb C 1 0 = 0) (hA : AGP pg Cm C) (hal : in32 al) (hGc : ∀ j, Cg j < 256) (hR : RM C lg Dr En Ib Bd Mn q) (hh : h < 65536) (hI : I = ((idx C h : Nat) : Int)) : ∀ l, Up l yX5_merges cX5_merges 9 (some .int) ({ frames := 4, cells := 0, slots := 0, locals := 90 }) D (TY cI cB cJ cZ) [.ref hm, .int (iI I)] [oM hm r th pg lg wt al 0 (C 0) (pF (C 0)) tp an ch, aB cB (r 0) 65536 (Cm), aN cI (r 1) 256 (Dr), aN cI (r 2) 65536 (En), aN cI (r 3) 65536 (Ot), aZ cZ (r 4) 256 (Ib), aN cI (r 5) 256 (Bd), aN cI (r 6) 256 (Mn), aN cI (r 7) 23040 (q).1, aN cI (r 8) 23040 (q).2.1, aL cJ (r 9) 46080 (q).2.2.1, aL cJ (r 10) 92160 (q).2.2.2, aN cI (r 13) 256 (Ou), aN cI (r 14) 256 (Cg)] (PST cI cB cJ cZ hm r th pg lg tp an (mrF (C, wt, al, 0) lg h)) := by
  intro l
  refine Up_of (by decide) (Nat.le_of_ble_eq_true rfl) (fun x k hq => ?_)
  obtain ⟨w1, w2, w3, w4, w5, w6, w7⟩ := id hF.1.1
  have h14 := hF.1.2.2.2
  have h15 : 2 ^ C 0 ≤ 2 ^ 14 := Nat.pow_le_pow_right (by decide) h14
  have h15b : (2 : Nat) ^ 14 = 16384 := by decide
  have h16 : 0 < 2 ^ C 0 := Nat.pow_pos (by decide)
  have hpf := pF_le15 w4
  have hx := idx_lt (C := C) hh w4
  obtain ⟨e1, e2, e3, e4, e5⟩ := hF.2.1 _ hx
  have hRB := hR.rb hF hx
  have hEx := hR.2.1 _ hx
  subst hI
  obtain ⟨p, hp⟩ : ∃ p, p = entN C (idx C h) := ⟨_, rfl⟩
  have hbs := fun {o : Nat} (hb : bdN C h = some o) => bd_some hb
  have hxl := fun (h0 : pb C (entN C (idx C h)) 0 ≠ 0) => x_lt hF hh h0
  have hbm := bd_mp C h
  rw [← hp] at e1 e2 e3 e4 e5 hRB hEx hbm
  have hm84 := hR.2.2.2.2.2.2.2.1
  have hQ := hR.2.2.2.2.2.2.2.2
  have hmp := hm84 p
  have hbp : btM q p (Mn p) = bL C p := hRB.bL e4
  have hb252 := e4.2.2
  refine v_aload_n (n := 1) k dX5_merges_0 rfl rfl ?_
  refine v_get (n := 4) k ciX5 0 10 (by decide) fl_X5_22 rfl rfl dX5_merges_1 rfl ?_
  refine v_iload_n (n := 5) k dX5_merges_4 rfl rfl ?_
  refine v_ialdN (n := 6) k 3 0 (idx C h) rfl rfl (by omega) (by omega) (by omega) dX5_merges_5 rfl ?_
  rw [hEx]
  refine v_istore_n (n := 7) k dX5_merges_6 rfl (by decide) rfl rfl ?_
  refine v_aload_n (n := 8) k dX5_merges_7 rfl rfl ?_
  refine v_iload_n (n := 9) k dX5_merges_8 rfl rfl ?_
  refine v_rdVi (n := 12) k [0, 3, 6] 0 (z_X5_buddy hF hR hh rfl) miX5_buddy ml_X5_199 (by decide) (by decide) rfl (by decide) rfl rfl rfl rfl (Nat.le_of_ble_eq_true rfl) ⟨Nat.zero_le _, Nat.zero_le _⟩ dX5_merges_9 rfl ?_
  have hfi : (∃ o, bdN C h = some o ∧ fdI (bdN C h) = ((o : Nat) : Int)) ∨ (bdN C h = none ∧ fdI (bdN C h) = -1) := by
    cases hq9 : bdN C h with
    | some z => exact Or.inl ⟨z, rfl, rfl⟩
    | none => exact Or.inr ⟨rfl, rfl⟩
  have hfb : in32 (fdI (bdN C h)) := by
    rcases hfi with ⟨z, z1, z2⟩ | ⟨z1, z2⟩
    · have z3 := (hbs z1).2.1
      have : z < 256 := by rw [z3]; exact w3 _
      rw [z2]; exact ⟨by omega, by omega⟩
    · rw [z2]; exact ⟨by decide, by decide⟩
  generalize fdI (bdN C h) = Y at hfi hfb ⊢
  refine v_istore_n (n := 13) k dX5_merges_12 rfl (by decide) rfl rfl ?_
  refine v_iload_n (n := 14) k dX5_merges_13 rfl rfl ?_
  refine v_iconst (n := 15) k dX5_merges_14 rfl ?_
  refine v_icmp_eq (n := 18) (t := 34) k (hfb) (⟨by decide, by decide⟩) dX5_merges_15 (by decide) rfl (fun c_15 => ?_) (fun c_15 => ?_)
  · have hm9 : mpN C h = none := by
      rcases hfi with ⟨z, z1, z2⟩ | ⟨z1, z2⟩
      · omega
      · rw [hbm, z1]
    refine v_iconst (n := 35) k dX5_merges_34 rfl ?_
    refine v_iretU k hq ?_ rfl dX5_merges_35
    refine PST_mk ⟨(C, wt, al, 0), -1, Cm, Dr, En, Ot, Ib, Bd, Mn, q, Ou, Cg, ch, ?_, rfl, ⟨hA, hal, hR, hGc⟩, rfl⟩
    exact mr_no hm9
  · have hY : ∃ o, bdN C h = some o ∧ Y = ((o : Nat) : Int) := by
      rcases hfi with h9 | ⟨z1, z2⟩
      · exact h9
      · exact absurd z2 c_15
    obtain ⟨o, hY1, rfl⟩ := hY
    clear hfi
    obtain ⟨o1, o2, o3⟩ := hbs hY1
    have ho := hF.2.1 _ (hxl o1)
    have hRo := hR.rb hF (hxl o1)
    rw [← o2] at ho hRo
    have hbo : btM q o (Mn o) = bL C o := hRo.bL ho.2.2.2.1
    have hbo2 := ho.2.2.2.1.2.2
    rw [hY1] at hbm
    dsimp only at hbm
    refine v_aload_n (n := 19) k dX5_merges_18 rfl rfl ?_
    refine v_iload_n (n := 20) k dX5_merges_19 rfl rfl ?_
    refine v_rdVi (n := 23) k [0, 7, 8, 9] 0 (z_X5_bytesOf (p := p) rfl (by omega) hmp hQ) miX5_bytesOf ml_X5_117 (by decide) (by decide) rfl (by decide) rfl rfl rfl rfl (Nat.le_of_ble_eq_true rfl) ⟨Nat.zero_le _, Nat.zero_le _⟩ dX5_merges_20 rfl ?_
    rw [hbp]
    refine v_aload_n (n := 24) k dX5_merges_23 rfl rfl ?_
    refine v_iload_n (n := 25) k dX5_merges_24 rfl rfl ?_
    refine v_rdVi (n := 28) k [0, 7, 8, 9] 0 (z_X5_bytesOf (p := o) rfl (by omega) (hm84 o) hQ) miX5_bytesOf ml_X5_117 (by decide) (by decide) rfl (by decide) rfl rfl rfl rfl (Nat.le_of_ble_eq_true rfl) ⟨Nat.zero_le _, Nat.zero_le _⟩ dX5_merges_25 rfl ?_
    rw [hbo]
    refine v_iadd (n := 29) k dX5_merges_28 rfl ?_
    refine v_bipush (n := 31) k dX5_merges_29 (by decide) rfl ?_
    refine v_icmp_le (n := 34) (t := 36) k (⟨by omega, by omega⟩) (⟨by omega, by omega⟩) dX5_merges_31 (by decide) rfl (fun c_31 => ?_) (fun c_31 => ?_)
    · have hm9 : mpN C h = some o := by rw [hbm, if_pos (by omega)]
      obtain ⟨kp, lf, a, b, e, hX⟩ := mg_x hF hh hm9
      obtain ⟨x1, x2, x3, x4, x5, x6, x7, x8, x9, -, x11, x12, x13, x14⟩ := id hX
      obtain ⟨g1, g2, g3, g4, g5⟩ := mg_w hF hX
      have hbe : Bd p = e := by rw [x1, ← hp]; exact hRB.1
      have hgo : ∀ i, i < 2 ^ C 0 → (En i = lf ↔ a ≤ i ∧ i < b) := fun i hi => by rw [hR.2.1 i hi]; exact x6 i hi
      have hdl : dpO a b ≤ 128 := by
        unfold dpO
        omega
      rw [← hp] at x2 x3
      refine v_aload_n (n := 37) k dX5_merges_36 rfl rfl ?_
      refine v_get (n := 40) k ciX5 0 13 (by decide) fl_X5_32 rfl rfl dX5_merges_37 rfl ?_
      refine v_iload_n (n := 41) k dX5_merges_40 rfl rfl ?_
      refine v_ialdN (n := 42) k 6 0 (p) rfl rfl (by omega) (by omega) (by omega) dX5_merges_41 rfl ?_
      rw [hbe]
      refine v_istore (n := 44) k dX5_merges_42 rfl (by decide) rfl rfl ?_
      refine v_iload_n (n := 45) k dX5_merges_44 rfl rfl ?_
      refine v_aload_n (n := 46) k dX5_merges_45 rfl rfl ?_
      refine v_get (n := 49) k ciX5 0 7 (by decide) fl_X5_95 rfl rfl dX5_merges_46 rfl ?_
      refine v_iload (n := 51) k dX5_merges_49 rfl rfl ?_
      refine v_isub (n := 52) k dX5_merges_51 rfl ?_
      refine v_ishr (n := 53) k (((idx C h / 2 ^ (C 0 - e) : Nat) : Int)) (ax_shr rfl (by omega) (by omega) (by omega)) dX5_merges_52 rfl ?_
      refine v_iconst (n := 54) k dX5_merges_53 rfl ?_
      refine v_iand (n := 55) k (((idx C h / 2 ^ (C 0 - e) % 2 : Nat) : Int)) (ax_m1 rfl) dX5_merges_54 rfl ?_
      refine v_iconst (n := 56) k dX5_merges_55 rfl ?_
      refine v_icmp_ne (n := 59) (t := 63) k (⟨by omega, by omega⟩) (⟨by omega, by omega⟩) dX5_merges_56 (by decide) rfl (fun c_56 => ?_) (fun c_56 => ?_)
      · refine v_iconst (n := 64) k dX5_merges_63 rfl ?_
        refine v_istore (n := 66) k dX5_merges_64 rfl (by decide) rfl rfl ?_
        refine v_iload (n := 68) k dX5_merges_66 rfl rfl ?_
        refine v_if_eq (n := 71) (t := 75) k (⟨by omega, by omega⟩) dX5_merges_68 (by decide) rfl (fun c_68 => ?_) (fun c_68 => ?_)
        · refine v_iload_n (n := 76) k dX5_merges_75 rfl rfl ?_
          refine v_istore (n := 78) k dX5_merges_76 rfl (by decide) rfl rfl ?_
          refine v_iload (n := 80) k dX5_merges_78 rfl rfl ?_
          refine v_if_eq (n := 83) (t := 87) k (⟨by omega, by omega⟩) dX5_merges_80 (by decide) rfl (fun c_80 => ?_) (fun c_80 => ?_)
          · refine v_iload_n (n := 88) k dX5_merges_87 rfl rfl ?_
            refine v_istore (n := 90) k dX5_merges_88 rfl (by decide) rfl rfl ?_
            rw [mgB_t (by omega), if_pos rfl] at x2 x3
            refine v_lvf [(0, .ref hm), (4, .int (iI ((e : Nat) : Int))), (6, .int (iI ((kp : Nat) : Int))), (7, .int (iI ((lf : Nat) : Int)))] ⟨rfl, rfl, by rw [x2]; rfl, by rw [x3]; rfl, trivial⟩ ?_
            refine v_iconst (n := 91) k dX5_merges_90 rfl ?_
            refine v_istore (n := 93) k dX5_merges_91 rfl (by decide) rfl rfl ?_
            have e0 := lo_0 (fun i => if a ≤ i ∧ i < b then kp else En i) Ot
            refine v_ws (ws' := [oM hm r th pg lg wt al 0 (C 0) (pF (C 0)) tp an ch, aB cB (r 0) 65536 (Cm), aN cI (r 1) 256 (Dr), aN cI (r 2) 65536 (En), aN cI (r 3) 65536 (lo (fun i => if a ≤ i ∧ i < b then kp else En i) Ot 0), aZ cZ (r 4) 256 (Ib), aN cI (r 5) 256 (Bd), aN cI (r 6) 256 (Mn), aN cI (r 7) 23040 (q).1, aN cI (r 8) 23040 (q).2.1, aL cJ (r 9) 46080 (q).2.2.1, aL cJ (r 10) 92160 (q).2.2.2, aN cI (r 13) 256 (Ou), aN cI (r 14) 256 (Cg)]) (by rw [e0]) ?_
            refine lp_X5_merges1 (kp := kp) (lf := lf) (a := a) (b := b) (e := e) k hF hR.2.2.2.2.2.1 (by omega) (by omega) hgo ?_ (2 ^ C 0 + 1) 0 _ (by omega) (by omega) rfl
            refine v_aload_n (n := 142) k dX5_merges_141 rfl rfl ?_
            refine v_get (n := 145) k ciX5 0 24 (by decide) fl_X5_62 rfl rfl dX5_merges_142 rfl ?_
            refine v_iconst (n := 146) k dX5_merges_145 rfl ?_
            refine v_iload (n := 148) k dX5_merges_146 rfl rfl ?_
            refine v_iastN (n := 149) k 13 0 (0) rfl rfl (by omega) (by omega) (by omega) (kp) (rfl) dX5_merges_148 rfl ?_
            refine v_aload_n (n := 150) k dX5_merges_149 rfl rfl ?_
            refine v_aload_n (n := 151) k dX5_merges_150 rfl rfl ?_
            refine v_iconst (n := 152) k dX5_merges_151 rfl ?_
            refine v_upV (n := 155) k [0, 2, 3, 4, 13] 0 (z_X5_unlike (n := 1) (a := a) (b := b) rfl (by omega) w4 rfl x8 x9 hR.2.2.2.2.2.1 (fun j hj => by
  rw [lo_at hj]
  show (if a ≤ j ∧ j < b then kp else En j) < 256
  split
  · omega
  · exact hR.2.2.2.2.2.1 j) (fun i hi => by
  rw [lo_at hi]
  show (if a ≤ i ∧ i < b then kp else En i) = En i ↔ _
  by_cases r9 : a ≤ i ∧ i < b
  · rw [if_pos r9]
    exact ⟨fun z => absurd (z.trans ((hgo i hi).mpr r9)) x7, fun z => absurd r9 z⟩
  · rw [if_neg r9]
    exact ⟨fun _ => r9, fun _ => rfl⟩) hR.2.2.2.2.1) miX5_unlike ml_X5_160 (by decide) (by decide) rfl (by decide) rfl rfl rfl rfl (Nat.le_of_ble_eq_true rfl) ⟨Nat.zero_le _, Nat.zero_le _⟩ dX5_merges_152 rfl ?_
            rintro _ _ ⟨rfl, rfl⟩
            dsimp only [wput, List.set, Option.toList, List.nil_append, List.cons_append]
            refine v_put (n := 158) k ciX5 0 25 (by decide) fl_X5_124 rfl rfl (rfl) (rfl) (Nat.le_of_ble_eq_true rfl) dX5_merges_155 rfl ?_
            refine v_ws (ws' := [oM hm r th pg lg wt al 0 (C 0) (pF (C 0)) tp an (1 + dpO a b), aB cB (r 0) 65536 (Cm), aN cI (r 1) 256 (Dr), aN cI (r 2) 65536 (En), aN cI (r 3) 65536 (lo (fun i => if a ≤ i ∧ i < b then kp else En i) Ot (2 ^ C 0)), aZ cZ (r 4) 256 (Ib), aN cI (r 5) 256 (Bd), aN cI (r 6) 256 (Mn), aN cI (r 7) 23040 (q).1, aN cI (r 8) 23040 (q).2.1, aL cJ (r 9) 46080 (q).2.2.1, aL cJ (r 10) 92160 (q).2.2.2, aN cI (r 13) 256 (Ou), aN cI (r 14) 256 (ulC (upN Cg 0 kp) Dr 1 a (dpO a b))]) (by rfl) ?_
            refine v_aload_n (n := 159) k dX5_merges_158 rfl rfl ?_
            refine v_get (n := 162) k ciX5 0 25 (by decide) fl_X5_124 rfl rfl dX5_merges_159 rfl ?_
            refine v_aload_n (n := 163) k dX5_merges_162 rfl rfl ?_
            refine v_get (n := 166) k ciX5 0 3 (by decide) fl_X5_72 rfl rfl dX5_merges_163 rfl ?_
            refine v_icmp_le (n := 169) (t := 171) k (⟨by omega, by omega⟩) (⟨by omega, by omega⟩) dX5_merges_166 (by decide) rfl (fun c_166 => ?_) (fun c_166 => ?_)
            · refine v_iconst (n := 172) k dX5_merges_171 rfl ?_
              refine v_istore (n := 174) k dX5_merges_172 rfl (by decide) rfl rfl ?_
              have e0 := lo_0 (lo (fun i => if a ≤ i ∧ i < b then kp else En i) Ot (2 ^ C 0)) En
              refine v_ws (ws' := [oM hm r th pg lg wt al 0 (C 0) (pF (C 0)) tp an (1 + dpO a b), aB cB (r 0) 65536 (Cm), aN cI (r 1) 256 (Dr), aN cI (r 2) 65536 (lo (lo (fun i => if a ≤ i ∧ i < b then kp else En i) Ot (2 ^ C 0)) En 0), aN cI (r 3) 65536 (lo (fun i => if a ≤ i ∧ i < b then kp else En i) Ot (2 ^ C 0)), aZ cZ (r 4) 256 (Ib), aN cI (r 5) 256 (Bd), aN cI (r 6) 256 (Mn), aN cI (r 7) 23040 (q).1, aN cI (r 8) 23040 (q).2.1, aL cJ (r 9) 46080 (q).2.2.1, aL cJ (r 10) 92160 (q).2.2.2, aN cI (r 13) 256 (Ou), aN cI (r 14) 256 (ulC (upN Cg 0 kp) Dr 1 a (dpO a b))]) (by rw [e0]) ?_
              refine lp_X5_merges2 (kp := kp) (lf := lf) (e := e) k hF ?_ (2 ^ C 0 + 1) 0 _ (by omega) (by omega) rfl
              refine v_iconst (n := 206) k dX5_merges_205 rfl ?_
              refine v_istore (n := 208) k dX5_merges_206 rfl (by decide) rfl rfl ?_
              have hRk := hR.2.2.2.1 kp (by omega) g3
              have hRl := hR.2.2.2.1 lf (by omega) g4
              refine lp_X5_merges3 (kp := kp) (lf := lf) (e := e) k (by omega) (by omega) x7 (by omega) hRl (fun R9 Mn9 q9 hI9 => ?_) (pb C lf 1 + 1) 0 _ Mn q (by omega) (by omega) rfl (MGI.new hRk hQ)
              refine v_aload_n (n := 263) k dX5_merges_262 rfl rfl ?_
              refine v_get (n := 266) k ciX5 0 12 (by decide) fl_X5_28 rfl rfl dX5_merges_263 rfl ?_
              refine v_iload (n := 268) k dX5_merges_266 rfl rfl ?_
              refine v_iconst (n := 269) k dX5_merges_268 rfl ?_
              refine v_zastN (n := 270) k 5 3 (lf) rfl rfl (by omega) (by omega) (by omega) (false) (rfl) dX5_merges_269 rfl ?_
              refine v_aload_n (n := 271) k dX5_merges_270 rfl rfl ?_
              refine v_get (n := 274) k ciX5 0 13 (by decide) fl_X5_32 rfl rfl dX5_merges_271 rfl ?_
              refine v_iload (n := 276) k dX5_merges_274 rfl rfl ?_
              refine v_iload (n := 278) k dX5_merges_276 rfl rfl ?_
              refine v_iconst (n := 279) k dX5_merges_278 rfl ?_
              refine v_isub (n := 280) k dX5_merges_279 rfl ?_
              refine v_iastN (n := 281) k 6 0 (kp) rfl rfl (by omega) (by omega) (by omega) (e - 1) (by omega) dX5_merges_280 rfl ?_
              have hlg : ¬ lg < 1 + dpO a b := by omega
              obtain ⟨-, hch9⟩ := x14 hlg
              have hEn : ∀ i, i < 2 ^ C 0 → (lo (lo (fun i => if a ≤ i ∧ i < b then kp else En i) Ot (2 ^ C 0)) En (2 ^ C 0)) i = if a ≤ i ∧ i < b then kp else entN C i := fun i hi => by
                rw [lo_at hi, lo_at hi]
                show (if a ≤ i ∧ i < b then kp else En i) = _
                rw [hR.2.1 i hi]
              have hE9 : ∀ j, (lo (lo (fun i => if a ≤ i ∧ i < b then kp else En i) Ot (2 ^ C 0)) En (2 ^ C 0)) j < 256 := lo_lt (fun j hj => by
                rw [lo_at hj]
                show (if a ≤ j ∧ j < b then kp else En j) < 256
                split
                · omega
                · exact hR.2.2.2.2.2.1 j) hR.2.2.2.2.2.1
              have hG9 : GB Dr (lo (lo (fun i => if a ≤ i ∧ i < b then kp else En i) Ot (2 ^ C 0)) En (2 ^ C 0)) (upN Bd kp (e - 1)) Mn9 q9 := ⟨hR.2.2.2.2.1, hE9, upN_lt hR.2.2.2.2.2.2.1 (by omega), hI9.mn84 (Nat.le_refl _) (by omega) hm84, hI9.1⟩
              have hC9 : ∀ j, (ulC (upN Cg 0 kp) Dr 1 a (dpO a b)) j < 256 := ulC_lt (upN_lt hGc (by omega)) hR.2.2.2.2.1 _ _ _
              have hT9 : TEL (C 0) (pF (C 0)) Dr (lo (lo (fun i => if a ≤ i ∧ i < b then kp else En i) Ot (2 ^ C 0)) En (2 ^ C 0)) (upN Bd kp (e - 1)) Mn9 q9 (ulC (upN Cg 0 kp) Dr 1 a (dpO a b)) (mgC C e kp lf a b) := mg_tel hF hX hlg hR hI9 hEn
              have hr9 := mg_rm hF hX hlg hR hI9 hEn hG9
              have hl9 : 1 + dpO a b = (mgC C e kp lf a b).length := by
                unfold mgC
                rw [List.length_cons, rtL_len]
                omega
              refine v_aload_n (n := 282) k dX5_merges_281 rfl rfl ?_
              refine v_upV (n := 285) k [0, 1, 2, 3, 5, 6, 7, 8, 9, 10, 11, 12, 13] 0 (z_X5_changed (chs := mgC C e kp lf a b) (C := C) (by omega) (by omega) w2 w7 hG9 hC9 hl9 hch9.1 hT9 hA hal (fun a9 h9 => by
  rcases hch9.run hF hj h9 with ⟨-, h1, h2⟩ | ⟨h1, -⟩
  · have e9 : a9.1 0 = C 0 := by
      rw [h2.hd (by decide)]
      exact rt_h0 hF (x14 hlg).1
    rw [e9]
    exact ⟨rfl, rfl, hr9.ag hch9.2.2.2 h2⟩
  · cases h1) (fun a9 h9 => by
  rcases hch9.run hF hj h9 with ⟨h1, -⟩ | ⟨-, h1⟩
  · cases h1
  · exact h1.2.2.2.ok h1.1)) miX5_changed ml_X5_156 (by decide) (by decide) rfl (by decide) rfl rfl rfl rfl (Nat.le_of_ble_eq_true rfl) ⟨Nat.zero_le _, Nat.zero_le _⟩ dX5_merges_282 rfl ?_
              rintro _ _ ⟨a9, s9, Cm9, Ou9, Dr9, En9, Ib8, Bd9, Mn8, q8, hst, rfl, hA9, hal9, hRM9, rfl⟩
              dsimp only [wput, List.set, Option.toList, List.nil_append, List.cons_append]
              refine v_iretU k hq ?_ rfl dX5_merges_285
              refine PST_mk ⟨a9, s9, Cm9, Dr9, En9, _, Ib8, Bd9, Mn8, q8, Ou9, _, _, ?_, rfl, ⟨hA9, hal9, hRM9, hC9⟩, rfl⟩
              exact mr_s (a := (C, wt, al, 0)) hm9 hX hlg hst
            · refine v_iconst (n := 170) k dX5_merges_169 rfl ?_
              refine v_iretU k hq ?_ rfl dX5_merges_170
              refine PST_mk ⟨(C, wt, al, 0), -1, Cm, Dr, En, _, Ib, Bd, Mn, q, Ou, _, _, ?_, rfl, ⟨hA, hal, hR, ulC_lt (upN_lt hGc (by omega)) hR.2.2.2.2.1 _ _ _⟩, rfl⟩
              exact mr_2 (a := (C, wt, al, 0)) hm9 hX (by omega)
          · exfalso; omega
        · exfalso; omega
      · refine v_iconst (n := 60) k dX5_merges_59 rfl ?_
        refine v_goto (t := 64) k dX5_merges_60 (by decide) ?_
        refine v_istore (n := 66) k dX5_merges_64 rfl (by decide) rfl rfl ?_
        refine v_iload (n := 68) k dX5_merges_66 rfl rfl ?_
        refine v_if_eq (n := 71) (t := 75) k (⟨by omega, by omega⟩) dX5_merges_68 (by decide) rfl (fun c_68 => ?_) (fun c_68 => ?_)
        · exfalso; omega
        · refine v_iload_n (n := 72) k dX5_merges_71 rfl rfl ?_
          refine v_goto (t := 76) k dX5_merges_72 (by decide) ?_
          refine v_istore (n := 78) k dX5_merges_76 rfl (by decide) rfl rfl ?_
          refine v_iload (n := 80) k dX5_merges_78 rfl rfl ?_
          refine v_if_eq (n := 83) (t := 87) k (⟨by omega, by omega⟩) dX5_merges_80 (by decide) rfl (fun c_80 => ?_) (fun c_80 => ?_)
          · exfalso; omega
          · refine v_iload_n (n := 84) k dX5_merges_83 rfl rfl ?_
            refine v_goto (t := 88) k dX5_merges_84 (by decide) ?_
            refine v_istore (n := 90) k dX5_merges_88 rfl (by decide) rfl rfl ?_
            rw [mgB_f (by omega), if_neg (by decide)] at x2 x3
            refine v_lvf [(0, .ref hm), (4, .int (iI ((e : Nat) : Int))), (6, .int (iI ((kp : Nat) : Int))), (7, .int (iI ((lf : Nat) : Int)))] ⟨rfl, rfl, by rw [x2]; rfl, by rw [x3]; rfl, trivial⟩ ?_
            refine v_iconst (n := 91) k dX5_merges_90 rfl ?_
            refine v_istore (n := 93) k dX5_merges_91 rfl (by decide) rfl rfl ?_
            have e0 := lo_0 (fun i => if a ≤ i ∧ i < b then kp else En i) Ot
            refine v_ws (ws' := [oM hm r th pg lg wt al 0 (C 0) (pF (C 0)) tp an ch, aB cB (r 0) 65536 (Cm), aN cI (r 1) 256 (Dr), aN cI (r 2) 65536 (En), aN cI (r 3) 65536 (lo (fun i => if a ≤ i ∧ i < b then kp else En i) Ot 0), aZ cZ (r 4) 256 (Ib), aN cI (r 5) 256 (Bd), aN cI (r 6) 256 (Mn), aN cI (r 7) 23040 (q).1, aN cI (r 8) 23040 (q).2.1, aL cJ (r 9) 46080 (q).2.2.1, aL cJ (r 10) 92160 (q).2.2.2, aN cI (r 13) 256 (Ou), aN cI (r 14) 256 (Cg)]) (by rw [e0]) ?_
            refine lp_X5_merges1 (kp := kp) (lf := lf) (a := a) (b := b) (e := e) k hF hR.2.2.2.2.2.1 (by omega) (by omega) hgo ?_ (2 ^ C 0 + 1) 0 _ (by omega) (by omega) rfl
            refine v_aload_n (n := 142) k dX5_merges_141 rfl rfl ?_
            refine v_get (n := 145) k ciX5 0 24 (by decide) fl_X5_62 rfl rfl dX5_merges_142 rfl ?_
            refine v_iconst (n := 146) k dX5_merges_145 rfl ?_
            refine v_iload (n := 148) k dX5_merges_146 rfl rfl ?_
            refine v_iastN (n := 149) k 13 0 (0) rfl rfl (by omega) (by omega) (by omega) (kp) (rfl) dX5_merges_148 rfl ?_
            refine v_aload_n (n := 150) k dX5_merges_149 rfl rfl ?_
            refine v_aload_n (n := 151) k dX5_merges_150 rfl rfl ?_
            refine v_iconst (n := 152) k dX5_merges_151 rfl ?_
            refine v_upV (n := 155) k [0, 2, 3, 4, 13] 0 (z_X5_unlike (n := 1) (a := a) (b := b) rfl (by omega) w4 rfl x8 x9 hR.2.2.2.2.2.1 (fun j hj => by
  rw [lo_at hj]
  show (if a ≤ j ∧ j < b then kp else En j) < 256
  split
  · omega
  · exact hR.2.2.2.2.2.1 j) (fun i hi => by
  rw [lo_at hi]
  show (if a ≤ i ∧ i < b then kp else En i) = En i ↔ _
  by_cases r9 : a ≤ i ∧ i < b
  · rw [if_pos r9]
    exact ⟨fun z => absurd (z.trans ((hgo i hi).mpr r9)) x7, fun z => absurd r9 z⟩
  · rw [if_neg r9]
    exact ⟨fun _ => r9, fun _ => rfl⟩) hR.2.2.2.2.1) miX5_unlike ml_X5_160 (by decide) (by decide) rfl (by decide) rfl rfl rfl rfl (Nat.le_of_ble_eq_true rfl) ⟨Nat.zero_le _, Nat.zero_le _⟩ dX5_merges_152 rfl ?_
            rintro _ _ ⟨rfl, rfl⟩
            dsimp only [wput, List.set, Option.toList, List.nil_append, List.cons_append]
            refine v_put (n := 158) k ciX5 0 25 (by decide) fl_X5_124 rfl rfl (rfl) (rfl) (Nat.le_of_ble_eq_true rfl) dX5_merges_155 rfl ?_
            refine v_ws (ws' := [oM hm r th pg lg wt al 0 (C 0) (pF (C 0)) tp an (1 + dpO a b), aB cB (r 0) 65536 (Cm), aN cI (r 1) 256 (Dr), aN cI (r 2) 65536 (En), aN cI (r 3) 65536 (lo (fun i => if a ≤ i ∧ i < b then kp else En i) Ot (2 ^ C 0)), aZ cZ (r 4) 256 (Ib), aN cI (r 5) 256 (Bd), aN cI (r 6) 256 (Mn), aN cI (r 7) 23040 (q).1, aN cI (r 8) 23040 (q).2.1, aL cJ (r 9) 46080 (q).2.2.1, aL cJ (r 10) 92160 (q).2.2.2, aN cI (r 13) 256 (Ou), aN cI (r 14) 256 (ulC (upN Cg 0 kp) Dr 1 a (dpO a b))]) (by rfl) ?_
            refine v_aload_n (n := 159) k dX5_merges_158 rfl rfl ?_
            refine v_get (n := 162) k ciX5 0 25 (by decide) fl_X5_124 rfl rfl dX5_merges_159 rfl ?_
            refine v_aload_n (n := 163) k dX5_merges_162 rfl rfl ?_
            refine v_get (n := 166) k ciX5 0 3 (by decide) fl_X5_72 rfl rfl dX5_merges_163 rfl ?_
            refine v_icmp_le (n := 169) (t := 171) k (⟨by omega, by omega⟩) (⟨by omega, by omega⟩) dX5_merges_166 (by decide) rfl (fun c_166 => ?_) (fun c_166 => ?_)
            · refine v_iconst (n := 172) k dX5_merges_171 rfl ?_
              refine v_istore (n := 174) k dX5_merges_172 rfl (by decide) rfl rfl ?_
              have e0 := lo_0 (lo (fun i => if a ≤ i ∧ i < b then kp else En i) Ot (2 ^ C 0)) En
              refine v_ws (ws' := [oM hm r th pg lg wt al 0 (C 0) (pF (C 0)) tp an (1 + dpO a b), aB cB (r 0) 65536 (Cm), aN cI (r 1) 256 (Dr), aN cI (r 2) 65536 (lo (lo (fun i => if a ≤ i ∧ i < b then kp else En i) Ot (2 ^ C 0)) En 0), aN cI (r 3) 65536 (lo (fun i => if a ≤ i ∧ i < b then kp else En i) Ot (2 ^ C 0)), aZ cZ (r 4) 256 (Ib), aN cI (r 5) 256 (Bd), aN cI (r 6) 256 (Mn), aN cI (r 7) 23040 (q).1, aN cI (r 8) 23040 (q).2.1, aL cJ (r 9) 46080 (q).2.2.1, aL cJ (r 10) 92160 (q).2.2.2, aN cI (r 13) 256 (Ou), aN cI (r 14) 256 (ulC (upN Cg 0 kp) Dr 1 a (dpO a b))]) (by rw [e0]) ?_
              refine lp_X5_merges2 (kp := kp) (lf := lf) (e := e) k hF ?_ (2 ^ C 0 + 1) 0 _ (by omega) (by omega) rfl
              refine v_iconst (n := 206) k dX5_merges_205 rfl ?_
              refine v_istore (n := 208) k dX5_merges_206 rfl (by decide) rfl rfl ?_
              have hRk := hR.2.2.2.1 kp (by omega) g3
              have hRl := hR.2.2.2.1 lf (by omega) g4
              refine lp_X5_merges3 (kp := kp) (lf := lf) (e := e) k (by omega) (by omega) x7 (by omega) hRl (fun R9 Mn9 q9 hI9 => ?_) (pb C lf 1 + 1) 0 _ Mn q (by omega) (by omega) rfl (MGI.new hRk hQ)
              refine v_aload_n (n := 263) k dX5_merges_262 rfl rfl ?_
              refine v_get (n := 266) k ciX5 0 12 (by decide) fl_X5_28 rfl rfl dX5_merges_263 rfl ?_
              refine v_iload (n := 268) k dX5_merges_266 rfl rfl ?_
              refine v_iconst (n := 269) k dX5_merges_268 rfl ?_
              refine v_zastN (n := 270) k 5 3 (lf) rfl rfl (by omega) (by omega) (by omega) (false) (rfl) dX5_merges_269 rfl ?_
              refine v_aload_n (n := 271) k dX5_merges_270 rfl rfl ?_
              refine v_get (n := 274) k ciX5 0 13 (by decide) fl_X5_32 rfl rfl dX5_merges_271 rfl ?_
              refine v_iload (n := 276) k dX5_merges_274 rfl rfl ?_
              refine v_iload (n := 278) k dX5_merges_276 rfl rfl ?_
              refine v_iconst (n := 279) k dX5_merges_278 rfl ?_
              refine v_isub (n := 280) k dX5_merges_279 rfl ?_
              refine v_iastN (n := 281) k 6 0 (kp) rfl rfl (by omega) (by omega) (by omega) (e - 1) (by omega) dX5_merges_280 rfl ?_
              have hlg : ¬ lg < 1 + dpO a b := by omega
              obtain ⟨-, hch9⟩ := x14 hlg
              have hEn : ∀ i, i < 2 ^ C 0 → (lo (lo (fun i => if a ≤ i ∧ i < b then kp else En i) Ot (2 ^ C 0)) En (2 ^ C 0)) i = if a ≤ i ∧ i < b then kp else entN C i := fun i hi => by
                rw [lo_at hi, lo_at hi]
                show (if a ≤ i ∧ i < b then kp else En i) = _
                rw [hR.2.1 i hi]
              have hE9 : ∀ j, (lo (lo (fun i => if a ≤ i ∧ i < b then kp else En i) Ot (2 ^ C 0)) En (2 ^ C 0)) j < 256 := lo_lt (fun j hj => by
                rw [lo_at hj]
                show (if a ≤ j ∧ j < b then kp else En j) < 256
                split
                · omega
                · exact hR.2.2.2.2.2.1 j) hR.2.2.2.2.2.1
              have hG9 : GB Dr (lo (lo (fun i => if a ≤ i ∧ i < b then kp else En i) Ot (2 ^ C 0)) En (2 ^ C 0)) (upN Bd kp (e - 1)) Mn9 q9 := ⟨hR.2.2.2.2.1, hE9, upN_lt hR.2.2.2.2.2.2.1 (by omega), hI9.mn84 (Nat.le_refl _) (by omega) hm84, hI9.1⟩
              have hC9 : ∀ j, (ulC (upN Cg 0 kp) Dr 1 a (dpO a b)) j < 256 := ulC_lt (upN_lt hGc (by omega)) hR.2.2.2.2.1 _ _ _
              have hT9 : TEL (C 0) (pF (C 0)) Dr (lo (lo (fun i => if a ≤ i ∧ i < b then kp else En i) Ot (2 ^ C 0)) En (2 ^ C 0)) (upN Bd kp (e - 1)) Mn9 q9 (ulC (upN Cg 0 kp) Dr 1 a (dpO a b)) (mgC C e kp lf a b) := mg_tel hF hX hlg hR hI9 hEn
              have hr9 := mg_rm hF hX hlg hR hI9 hEn hG9
              have hl9 : 1 + dpO a b = (mgC C e kp lf a b).length := by
                unfold mgC
                rw [List.length_cons, rtL_len]
                omega
              refine v_aload_n (n := 282) k dX5_merges_281 rfl rfl ?_
              refine v_upV (n := 285) k [0, 1, 2, 3, 5, 6, 7, 8, 9, 10, 11, 12, 13] 0 (z_X5_changed (chs := mgC C e kp lf a b) (C := C) (by omega) (by omega) w2 w7 hG9 hC9 hl9 hch9.1 hT9 hA hal (fun a9 h9 => by
  rcases hch9.run hF hj h9 with ⟨-, h1, h2⟩ | ⟨h1, -⟩
  · have e9 : a9.1 0 = C 0 := by
      rw [h2.hd (by decide)]
      exact rt_h0 hF (x14 hlg).1
    rw [e9]
    exact ⟨rfl, rfl, hr9.ag hch9.2.2.2 h2⟩
  · cases h1) (fun a9 h9 => by
  rcases hch9.run hF hj h9 with ⟨h1, -⟩ | ⟨-, h1⟩
  · cases h1
  · exact h1.2.2.2.ok h1.1)) miX5_changed ml_X5_156 (by decide) (by decide) rfl (by decide) rfl rfl rfl rfl (Nat.le_of_ble_eq_true rfl) ⟨Nat.zero_le _, Nat.zero_le _⟩ dX5_merges_282 rfl ?_
              rintro _ _ ⟨a9, s9, Cm9, Ou9, Dr9, En9, Ib8, Bd9, Mn8, q8, hst, rfl, hA9, hal9, hRM9, rfl⟩
              dsimp only [wput, List.set, Option.toList, List.nil_append, List.cons_append]
              refine v_iretU k hq ?_ rfl dX5_merges_285
              refine PST_mk ⟨a9, s9, Cm9, Dr9, En9, _, Ib8, Bd9, Mn8, q8, Ou9, _, _, ?_, rfl, ⟨hA9, hal9, hRM9, hC9⟩, rfl⟩
              exact mr_s (a := (C, wt, al, 0)) hm9 hX hlg hst
            · refine v_iconst (n := 170) k dX5_merges_169 rfl ?_
              refine v_iretU k hq ?_ rfl dX5_merges_170
              refine PST_mk ⟨(C, wt, al, 0), -1, Cm, Dr, En, _, Ib, Bd, Mn, q, Ou, _, _, ?_, rfl, ⟨hA, hal, hR, ulC_lt (upN_lt hGc (by omega)) hR.2.2.2.2.1 _ _ _⟩, rfl⟩
              exact mr_2 (a := (C, wt, al, 0)) hm9 hX (by omega)
    · have hm9 : mpN C h = none := by rw [hbm, if_neg (by omega)]
      refine v_iconst (n := 35) k dX5_merges_34 rfl ?_
      refine v_iretU k hq ?_ rfl dX5_merges_35
      refine PST_mk ⟨(C, wt, al, 0), -1, Cm, Dr, En, Ot, Ib, Bd, Mn, q, Ou, Cg, ch, ?_, rfl, ⟨hA, hal, hR, hGc⟩, rfl⟩
      exact mr_no hm9
