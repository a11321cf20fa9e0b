def hvF (a : DA) (pg lg : Nat) : Int × DA := if a.1 0 = 0 ∨ hbD a.1 pg lg (a.1 0) = true then (-1, a) else if lg < pF (a.1 0 - 1) + 1 then (-1, a) else stC (sChg a (rzC a.1 pg lg (a.1 0 - 1)))
theorem lo_ge {f g : Nat → Nat} {n j : Nat} (h : ¬ j < n) : lo f g n j = g j := if_neg h
set_option maxHeartbeats 1000000 in
set_option maxRecDepth 20000 in
theorem lp_X5_halves2 {D : va_G} {cI cB cJ cZ : ClassId} {x : Kx} {hm : Nat} {r : Nat → Nat} {th : Int} {pg lg : Nat} {wt al : Int} {tp an ch : Nat} {C : Nat → Nat} {Cm Dr En Ot : Nat → Nat} {Ib : Nat → Bool} {Bd Mn : Nat → Nat} {q : RQ} {Ou Cg : Nat → Nat} (k : Kf x cX5_halves 3 yX5_halves.cls (some .int) D (TY cI cB cJ cZ) ({ frames := 4, cells := 0, slots := 0, locals := 90 })) {A : Nat → Prop} (hF9 : FULL C pg lg) (hz9 : C 0 ≠ 0) (hk9 : Vw x 3 A D true 0 0 [oM hm r th pg lg wt al 0 (C 0 - 1) (pF (C 0)) tp an ch, aB cB (r 0) 65536 (Cm), aN cI (r 1) 256 (Dr), aN cI (r 2) 65536 (lo (fun j => En (2 * j)) En (2 ^ (C 0 - 1))), aN cI (r 3) 65536 (Ot), aZ cZ (r 4) 256 (Ib), aN cI (r 5) 256 (Bd), aN cI (r 6) 256 (Mn), aN cI (r 7) 23040 (q).1, aN cI (r 8) 23040 (q).2.1, aL cJ (r 9) 46080 (q).2.2.1, aL cJ (r 10) 92160 (q).2.2.2, aN cI (r 13) 256 (Ou), aN cI (r 14) 256 (Cg)] 120 [(0, .ref hm), (1, .int (iI ((pF (C 0 - 1) : Nat) : Int))), (2, .int (iI ((2 ^ (C 0 - 1) : Nat) : Int)))] []) : ∀ (m : Nat) (i : Nat) (I : Int), 2 ^ (C 0 - 1) < i + m → i ≤ 2 ^ (C 0 - 1) → I = (i : Int) → Vw x 3 A D true 0 0 [oM hm r th pg lg wt al 0 (C 0 - 1) (pF (C 0)) tp an ch, aB cB (r 0) 65536 (Cm), aN cI (r 1) 256 (Dr), aN cI (r 2) 65536 (lo (fun j => En (2 * j)) En i), aN cI (r 3) 65536 (Ot), aZ cZ (r 4) 256 (Ib), aN cI (r 5) 256 (Bd), aN cI (r 6) 256 (Mn), aN cI (r 7) 23040 (q).1, aN cI (r 8) 23040 (q).2.1, aL cJ (r 9) 46080 (q).2.2.1, aL cJ (r 10) 92160 (q).2.2.2, aN cI (r 13) 256 (Ou), aN cI (r 14) 256 (Cg)] 90 [(0, .ref hm), (1, .int (iI ((pF (C 0 - 1) : Nat) : Int))), (2, .int (iI I))] [] := by
  intro m
  induction m with
  | zero => intro i I hm9 hi e1; omega
  | succ m ih =>
    intro i I hm9 hi e1
    have hF := hF9
    obtain ⟨w1, w2, w3, w4, w5, w6, w7⟩ := id hF.1.1
    have h14 := hF.1.2.2.2
    have h15 : 2 ^ C 0 ≤ 2 ^ 14 := Nat.pow_le_pow_right (by decide) h14
    have h15b : (2 : Nat) ^ 14 = 16384 := by decide
    have h16 : 0 < 2 ^ C 0 := Nat.pow_pos (by decide)
    have hpf := pF_le15 w4
    have hph : 2 ^ C 0 = 2 * 2 ^ (C 0 - 1) := by
      rw [← Nat.pow_succ']
      congr 1
      omega
    have hpl : pF (C 0 - 1) ≤ pF (C 0) := by
      have := pF_s (C 0 - 1)
      rw [show C 0 - 1 + 1 = C 0 by omega] at this
      exact this
    have hpo : 0 < 2 ^ (C 0 - 1) := Nat.pow_pos (by decide)
    refine v_iload_n (n := 91) k dX5_halves_90 rfl rfl ?_
    refine v_iconst (n := 92) k dX5_halves_91 rfl ?_
    refine v_aload_n (n := 93) k dX5_halves_92 rfl rfl ?_
    refine v_get (n := 96) k ciX5 0 7 (by decide) fl_X5_95 rfl rfl dX5_halves_93 rfl ?_
    refine v_ishl (n := 97) k (((2 ^ (C 0 - 1) : Nat) : Int)) (by have h9 := ax_shl (a := 1) (d := C 0 - 1) rfl rfl (by omega) (by omega); rw [Nat.one_mul] at h9; exact h9) dX5_halves_96 rfl ?_
    refine v_icmp_ge (n := 100) (t := 120) k (⟨by omega, by omega⟩) (⟨by omega, by omega⟩) dX5_halves_97 (by decide) rfl (fun c_97 => ?_) (fun c_97 => ?_)
    · have e8 : i = 2 ^ (C 0 - 1) := by omega
      rw [show I = ((2 ^ (C 0 - 1) : Nat) : Int) by omega, e8]
      exact hk9
    · refine v_aload_n (n := 101) k dX5_halves_100 rfl rfl ?_
      refine v_get (n := 104) k ciX5 0 10 (by decide) fl_X5_22 rfl rfl dX5_halves_101 rfl ?_
      refine v_iload_n (n := 105) k dX5_halves_104 rfl rfl ?_
      refine v_aload_n (n := 106) k dX5_halves_105 rfl rfl ?_
      refine v_get (n := 109) k ciX5 0 10 (by decide) fl_X5_22 rfl rfl dX5_halves_106 rfl ?_
      refine v_iconst (n := 110) k dX5_halves_109 rfl ?_
      refine v_iload_n (n := 111) k dX5_halves_110 rfl rfl ?_
      refine v_imul (n := 112) k dX5_halves_111 rfl ?_
      refine v_ialdN (n := 113) k 3 0 (2 * i) rfl rfl (by omega) (by omega) (by omega) dX5_halves_112 rfl ?_
      refine v_iastN (n := 114) k 3 0 (i) rfl rfl (by omega) (by omega) (by omega) (En (2 * i)) (by rw [lo_ge (by omega)]) dX5_halves_113 rfl ?_
      rw [lo_s (f := fun j => En (2 * j)) rfl]
      refine v_iinc (n := 117) k dX5_halves_114 rfl (by decide) rfl rfl rfl ?_
      refine v_goto (t := 90) k dX5_halves_117 (by decide) ?_
      exact ih (i + 1) _ (by omega) (by omega) (by omega)
set_option maxHeartbeats 1000000 in
set_option maxRecDepth 20000 in
theorem lp_X5_halves3 {D : va_G} {cI cB cJ cZ : ClassId} {x : Kx} {hm : Nat} {r : Nat → Nat} {th : Int} {pg lg : Nat} {wt al : Int} {tp an ch : Nat} {C : Nat → Nat} {Cm Dr En Ot : Nat → Nat} {Ib : Nat → Bool} {Bd Mn : Nat → Nat} {q : RQ} {Ou Cg : Nat → Nat} (k : Kf x cX5_halves 3 yX5_halves.cls (some .int) D (TY cI cB cJ cZ) ({ frames := 4, cells := 0, slots := 0, locals := 90 })) {A : Nat → Prop} (hF9 : FULL C pg lg) (hz9 : C 0 ≠ 0) (hk9 : Vw x 3 A D true 0 0 [oM hm r th pg lg wt al 0 (C 0 - 1) (pF (C 0 - 1)) tp an ch, aB cB (r 0) 65536 (Cm), aN cI (r 1) 256 (Dr), aN cI (r 2) 65536 (En), aN cI (r 3) 65536 (Ot), aZ cZ (r 4) 256 (Ib), aN cI (r 5) 256 (Bd), aN cI (r 6) 256 (Mn), aN cI (r 7) 23040 (q).1, aN cI (r 8) 23040 (q).2.1, aL cJ (r 9) 46080 (q).2.2.1, aL cJ (r 10) 92160 (q).2.2.2, aN cI (r 13) 256 (Ou), aN cI (r 14) 256 (lo Dr Cg (pF (C 0 - 1)))] 150 [(0, .ref hm), (1, .int (iI ((pF (C 0 - 1) : Nat) : Int))), (2, .int (iI ((pF (C 0 - 1) : Nat) : Int)))] []) : ∀ (m : Nat) (i : Nat) (I : Int), pF (C 0 - 1) < i + m → i ≤ pF (C 0 - 1) → I = (i : Int) → Vw x 3 A D true 0 0 [oM hm r th pg lg wt al 0 (C 0 - 1) (pF (C 0 - 1)) tp an ch, aB cB (r 0) 65536 (Cm), aN cI (r 1) 256 (Dr), aN cI (r 2) 65536 (En), aN cI (r 3) 65536 (Ot), aZ cZ (r 4) 256 (Ib), aN cI (r 5) 256 (Bd), aN cI (r 6) 256 (Mn), aN cI (r 7) 23040 (q).1, aN cI (r 8) 23040 (q).2.1, aL cJ (r 9) 46080 (q).2.2.1, aL cJ (r 10) 92160 (q).2.2.2, aN cI (r 13) 256 (Ou), aN cI (r 14) 256 (lo Dr Cg i)] 127 [(0, .ref hm), (1, .int (iI ((pF (C 0 - 1) : Nat) : Int))), (2, .int (iI I))] [] := by
  intro m
  induction m with
  | zero => intro i I hm9 hi e1; omega
  | succ m ih =>
    intro i I hm9 hi e1
    have hF := hF9
    obtain ⟨w1, w2, w3, w4, w5, w6, w7⟩ := id hF.1.1
    have h14 := hF.1.2.2.2
    have h15 : 2 ^ C 0 ≤ 2 ^ 14 := Nat.pow_le_pow_right (by decide) h14
    have h15b : (2 : Nat) ^ 14 = 16384 := by decide
    have h16 : 0 < 2 ^ C 0 := Nat.pow_pos (by decide)
    have hpf := pF_le15 w4
    have hph : 2 ^ C 0 = 2 * 2 ^ (C 0 - 1) := by
      rw [← Nat.pow_succ']
      congr 1
      omega
    have hpl : pF (C 0 - 1) ≤ pF (C 0) := by
      have := pF_s (C 0 - 1)
      rw [show C 0 - 1 + 1 = C 0 by omega] at this
      exact this
    have hpo : 0 < 2 ^ (C 0 - 1) := Nat.pow_pos (by decide)
    refine v_iload_n (n := 128) k dX5_halves_127 rfl rfl ?_
    refine v_iload_n (n := 129) k dX5_halves_128 rfl rfl ?_
    refine v_icmp_ge (n := 132) (t := 150) k (⟨by omega, by omega⟩) (⟨by omega, by omega⟩) dX5_halves_129 (by decide) rfl (fun c_129 => ?_) (fun c_129 => ?_)
    · have e8 : i = pF (C 0 - 1) := by omega
      rw [show I = ((pF (C 0 - 1) : Nat) : Int) by omega, e8]
      exact hk9
    · refine v_aload_n (n := 133) k dX5_halves_132 rfl rfl ?_
      refine v_get (n := 136) k ciX5 0 24 (by decide) fl_X5_62 rfl rfl dX5_halves_133 rfl ?_
      refine v_iload_n (n := 137) k dX5_halves_136 rfl rfl ?_
      refine v_aload_n (n := 138) k dX5_halves_137 rfl rfl ?_
      refine v_get (n := 141) k ciX5 0 9 (by decide) fl_X5_18 rfl rfl dX5_halves_138 rfl ?_
      refine v_iload_n (n := 142) k dX5_halves_141 rfl rfl ?_
      refine v_ialdN (n := 143) k 2 0 (i) rfl rfl (by omega) (by omega) (by omega) dX5_halves_142 rfl ?_
      refine v_iastN (n := 144) k 13 0 (i) rfl rfl (by omega) (by omega) (by omega) (Dr i) (rfl) dX5_halves_143 rfl ?_
      rw [lo_s (f := Dr) rfl]
      refine v_iinc (n := 147) k dX5_halves_144 rfl (by decide) rfl rfl rfl ?_
      refine v_goto (t := 127) k dX5_halves_147 (by decide) ?_
      exact ih (i + 1) _ (by omega) (by omega) (by omega)
set_option maxHeartbeats 1000000 in
set_option maxRecDepth 20000 in
theorem lp_X5_halves1 {D : va_G} {cI cB cJ cZ : ClassId} {x : Kx} {hm : Nat} {r : Nat → Nat} {th : Int} {pg lg : Nat} {wt al : Int} {tp an ch : Nat} {C : Nat → Nat} {Cm Dr En Ot : Nat → Nat} {Ib : Nat → Bool} {Bd Mn : Nat → Nat} {q : RQ} {Ou Cg : Nat → Nat} (k : Kf x cX5_halves 3 yX5_halves.cls (some .int) D (TY cI cB cJ cZ) ({ frames := 4, cells := 0, slots := 0, locals := 90 })) (hq : isU x D [hm, r 0, r 1, r 2, r 3, r 4, r 5, r 6, r 7, r 8, r 9, r 10, r 13, r 14] (PST cI cB cJ cZ hm r th pg lg tp an (hvF (C, wt, al, 0) pg lg))) (hF : FULL C pg lg) (hj : pb C 1 0 = 0) (hA : AGP pg Cm C) (hal : in32 al) (hGc : ∀ j, Cg j < 256) (hR : RM C lg Dr En Ib Bd Mn q) (hz9 : C 0 ≠ 0) : ∀ (m : Nat) (i : Nat) (I : Int), pg < i + m → i ≤ pg → I = (i : Int) → (∀ p, p < i → (kdN C lg p == 5 && pb C p 0 == C 0) = false) → Vw x 3 (fun q => q ∈ [hm, r 0, r 1, r 2, r 3, r 4, r 5, r 6, r 7, r 8, r 9, r 10, r 13, r 14]) D true 0 0 [oM hm r th pg lg wt al 0 (C 0) (pF (C 0)) tp an ch, aB cB (r 0) 65536 (Cm), aN cI (r 1) 256 (Dr), aN cI (r 2) 65536 (En), aN cI (r 3) 65536 (Ot), aZ cZ (r 4) 256 (Ib), aN cI (r 5) 256 (Bd), aN cI (r 6) 256 (Mn), aN cI (r 7) 23040 (q).1, aN cI (r 8) 23040 (q).2.1, aL cJ (r 9) 46080 (q).2.2.1, aL cJ (r 10) 92160 (q).2.2.2, aN cI (r 13) 256 (Ou), aN cI (r 14) 256 (Cg)] 11 [(0, .ref hm), (1, .int (iI I))] [] := by
  intro m
  induction m with
  | zero => intro i I hm9 hi e1 e2; omega
  | succ m ih =>
    intro i I hm9 hi e1 e2
    obtain ⟨w1, w2, w3, w4, w5, w6, w7⟩ := id hF.1.1
    have h14 := hF.1.2.2.2
    have h15 : 2 ^ C 0 ≤ 2 ^ 14 := Nat.pow_le_pow_right (by decide) h14
    have h15b : (2 : Nat) ^ 14 = 16384 := by decide
    have h16 : 0 < 2 ^ C 0 := Nat.pow_pos (by decide)
    have hpf := pF_le15 w4
    have hph : 2 ^ C 0 = 2 * 2 ^ (C 0 - 1) := by
      rw [← Nat.pow_succ']
      congr 1
      omega
    have hpl : pF (C 0 - 1) ≤ pF (C 0) := by
      have := pF_s (C 0 - 1)
      rw [show C 0 - 1 + 1 = C 0 by omega] at this
      exact this
    have hpo : 0 < 2 ^ (C 0 - 1) := Nat.pow_pos (by decide)
    have hd1 : ((C 0 : Nat) : Int) - 1 = ((C 0 - 1 : Nat) : Int) := by omega
    have hbd9 := hR.2.2.2.2.2.2.1 i
    refine v_iload_n (n := 12) k dX5_halves_11 rfl rfl ?_
    refine v_aload_n (n := 13) k dX5_halves_12 rfl rfl ?_
    refine v_get (n := 16) k ciX5 0 2 (by decide) fl_X5_69 rfl rfl dX5_halves_13 rfl ?_
    refine v_icmp_ge (n := 19) (t := 49) k (⟨by omega, by omega⟩) (⟨by omega, by omega⟩) dX5_halves_16 (by decide) rfl (fun c_16 => ?_) (fun c_16 => ?_)
    · have hb9 : hbD C pg lg (C 0) = false := any_range_f (fun p hp => e2 p (by omega))
      refine v_iconst (n := 50) k dX5_halves_49 rfl ?_
      refine v_aload_n (n := 51) k dX5_halves_50 rfl rfl ?_
      refine v_get (n := 54) k ciX5 0 7 (by decide) fl_X5_95 rfl rfl dX5_halves_51 rfl ?_
      refine v_iconst (n := 55) k dX5_halves_54 rfl ?_
      refine v_isub (n := 56) k dX5_halves_55 rfl ?_
      rw [hd1]
      refine v_ishl (n := 57) k (((2 ^ (C 0 - 1) : Nat) : Int)) (by have h9 := ax_shl (a := 1) (d := C 0 - 1) rfl rfl (by omega) (by omega); rw [Nat.one_mul] at h9; exact h9) dX5_halves_56 rfl ?_
      refine v_sipush (n := 60) k dX5_halves_57 (by decide) rfl ?_
      refine v_iadd (n := 61) k dX5_halves_60 rfl ?_
      refine v_sipush (n := 64) k dX5_halves_61 (by decide) rfl ?_
      refine v_idiv (n := 65) k (((pF (C 0 - 1) : Nat) : Int)) (ax_ne0 (by omega) (by omega)) (by rw [← pF_div]; exact ax_div (by omega) rfl (by omega) (by omega) (by omega)) dX5_halves_64 rfl ?_
      refine v_istore_n (n := 66) k dX5_halves_65 rfl (by decide) rfl rfl ?_
      refine v_iload_n (n := 67) k dX5_halves_66 rfl rfl ?_
      refine v_iconst (n := 68) k dX5_halves_67 rfl ?_
      refine v_iadd (n := 69) k dX5_halves_68 rfl ?_
      refine v_aload_n (n := 70) k dX5_halves_69 rfl rfl ?_
      refine v_get (n := 73) k ciX5 0 3 (by decide) fl_X5_72 rfl rfl dX5_halves_70 rfl ?_
      refine v_icmp_le (n := 76) (t := 78) k (⟨by omega, by omega⟩) (⟨by omega, by omega⟩) dX5_halves_73 (by decide) rfl (fun c_73 => ?_) (fun c_73 => ?_)
      · refine v_aload_n (n := 79) k dX5_halves_78 rfl rfl ?_
        refine v_dup (n := 80) k rfl dX5_halves_79 rfl ?_
        refine v_get (n := 83) k ciX5 0 7 (by decide) fl_X5_95 rfl rfl dX5_halves_80 rfl ?_
        refine v_iconst (n := 84) k dX5_halves_83 rfl ?_
        refine v_isub (n := 85) k dX5_halves_84 rfl ?_
        rw [hd1]
        refine v_put (n := 88) k ciX5 0 7 (by decide) fl_X5_95 rfl rfl (rfl) (rfl) (Nat.le_of_ble_eq_true rfl) dX5_halves_85 rfl ?_
        refine v_ws (ws' := [oM hm r th pg lg wt al 0 (C 0 - 1) (pF (C 0)) tp an ch, aB cB (r 0) 65536 (Cm), aN cI (r 1) 256 (Dr), aN cI (r 2) 65536 (En), aN cI (r 3) 65536 (Ot), aZ cZ (r 4) 256 (Ib), aN cI (r 5) 256 (Bd), aN cI (r 6) 256 (Mn), aN cI (r 7) 23040 (q).1, aN cI (r 8) 23040 (q).2.1, aL cJ (r 9) 46080 (q).2.2.1, aL cJ (r 10) 92160 (q).2.2.2, aN cI (r 13) 256 (Ou), aN cI (r 14) 256 (Cg)]) (by rfl) ?_
        refine v_iconst (n := 89) k dX5_halves_88 rfl ?_
        refine v_istore_n (n := 90) k dX5_halves_89 rfl (by decide) rfl rfl ?_
        have e0 := lo_0 (fun j => En (2 * j)) En
        refine v_ws (ws' := [oM hm r th pg lg wt al 0 (C 0 - 1) (pF (C 0)) tp an ch, aB cB (r 0) 65536 (Cm), aN cI (r 1) 256 (Dr), aN cI (r 2) 65536 (lo (fun j => En (2 * j)) En 0), aN cI (r 3) 65536 (Ot), aZ cZ (r 4) 256 (Ib), aN cI (r 5) 256 (Bd), aN cI (r 6) 256 (Mn), aN cI (r 7) 23040 (q).1, aN cI (r 8) 23040 (q).2.1, aL cJ (r 9) 46080 (q).2.2.1, aL cJ (r 10) 92160 (q).2.2.2, aN cI (r 13) 256 (Ou), aN cI (r 14) 256 (Cg)]) (by rw [e0]) ?_
        refine lp_X5_halves2 k hF hz9 ?_ (2 ^ (C 0 - 1) + 1) 0 _ (by omega) (by omega) rfl
        refine v_aload_n (n := 121) k dX5_halves_120 rfl rfl ?_
        refine v_iload_n (n := 122) k dX5_halves_121 rfl rfl ?_
        refine v_put (n := 125) k ciX5 0 8 (by decide) fl_X5_98 rfl rfl (rfl) (rfl) (Nat.le_of_ble_eq_true rfl) dX5_halves_122 rfl ?_
        refine v_ws (ws' := [oM hm r th pg lg wt al 0 (C 0 - 1) (pF (C 0 - 1)) tp an ch, aB cB (r 0) 65536 (Cm), aN cI (r 1) 256 (Dr), aN cI (r 2) 65536 (lo (fun j => En (2 * j)) En (2 ^ (C 0 - 1))), aN cI (r 3) 65536 (Ot), aZ cZ (r 4) 256 (Ib), aN cI (r 5) 256 (Bd), aN cI (r 6) 256 (Mn), aN cI (r 7) 23040 (q).1, aN cI (r 8) 23040 (q).2.1, aL cJ (r 9) 46080 (q).2.2.1, aL cJ (r 10) 92160 (q).2.2.2, aN cI (r 13) 256 (Ou), aN cI (r 14) 256 (Cg)]) (by rfl) ?_
        refine v_iconst (n := 126) k dX5_halves_125 rfl ?_
        refine v_istore_n (n := 127) k dX5_halves_126 rfl (by decide) rfl rfl ?_
        have e0 := lo_0 Dr Cg
        refine v_ws (ws' := [oM hm r th pg lg wt al 0 (C 0 - 1) (pF (C 0 - 1)) tp an ch, aB cB (r 0) 65536 (Cm), aN cI (r 1) 256 (Dr), aN cI (r 2) 65536 (lo (fun j => En (2 * j)) En (2 ^ (C 0 - 1))), aN cI (r 3) 65536 (Ot), aZ cZ (r 4) 256 (Ib), aN cI (r 5) 256 (Bd), aN cI (r 6) 256 (Mn), aN cI (r 7) 23040 (q).1, aN cI (r 8) 23040 (q).2.1, aL cJ (r 9) 46080 (q).2.2.1, aL cJ (r 10) 92160 (q).2.2.2, aN cI (r 13) 256 (Ou), aN cI (r 14) 256 (lo Dr Cg 0)]) (by rw [e0]) ?_
        refine lp_X5_halves3 k hF hz9 ?_ (pF (C 0 - 1) + 1) 0 _ (by omega) (by omega) rfl
        refine v_aload_n (n := 151) k dX5_halves_150 rfl rfl ?_
        refine v_get (n := 154) k ciX5 0 24 (by decide) fl_X5_62 rfl rfl dX5_halves_151 rfl ?_
        refine v_iload_n (n := 155) k dX5_halves_154 rfl rfl ?_
        refine v_iconst (n := 156) k dX5_halves_155 rfl ?_
        refine v_iastN (n := 157) k 13 0 (pF (C 0 - 1)) rfl rfl (by omega) (by omega) (by omega) (0) (rfl) dX5_halves_156 rfl ?_
        refine v_aload_n (n := 158) k dX5_halves_157 rfl rfl ?_
        refine v_iload_n (n := 159) k dX5_halves_158 rfl rfl ?_
        refine v_iconst (n := 160) k dX5_halves_159 rfl ?_
        refine v_iadd (n := 161) k dX5_halves_160 rfl ?_
        refine v_put (n := 164) k ciX5 0 25 (by decide) fl_X5_124 rfl rfl (rfl) (rfl) (Nat.le_of_ble_eq_true rfl) dX5_halves_161 rfl ?_
        have hz : RZH C pg lg (C 0 - 1) := ⟨Or.inr ⟨by omega, hb9⟩, by omega, by omega⟩
        have hch9 := rz_chg hF hz
        have hDr : ∀ k, k < pF (C 0 - 1) → Dr k = plN C pg lg k := fun k hk => by rw [hR.1 k (by omega)]; unfold plN; rw [if_pos (by omega), pb0]
        have hEn : ∀ i, i < 2 ^ (C 0 - 1) → (lo (fun j => En (2 * j)) En (2 ^ (C 0 - 1))) i = eN C (C 0 - 1) i := fun i hi => by
          rw [lo_at hi]
          show En (2 * i) = _
          unfold eN
          rw [if_neg (by omega)]
          exact hR.2.1 _ (by omega)
        have hE9 : ∀ j, (lo (fun j => En (2 * j)) En (2 ^ (C 0 - 1))) j < 256 := lo_lt (fun j hj => hR.2.2.2.2.2.1 _) hR.2.2.2.2.2.1
        have hG9 : GB Dr (lo (fun j => En (2 * j)) En (2 ^ (C 0 - 1))) Bd Mn q := ⟨hR.2.2.2.2.1, hE9, hR.2.2.2.2.2.2⟩
        have hC9 : ∀ j, (upN (lo Dr Cg (pF (C 0 - 1))) (pF (C 0 - 1)) 0) j < 256 := upN_lt (lo_lt (fun j _ => hR.2.2.2.2.1 j) hGc) (by decide)
        have hT9 : TEL (C 0 - 1) (pF (C 0 - 1)) Dr (lo (fun j => En (2 * j)) En (2 ^ (C 0 - 1))) Bd Mn q (upN (lo Dr Cg (pF (C 0 - 1))) (pF (C 0 - 1)) 0) (rzC C pg lg (C 0 - 1)) := rz_tel hF hz hDr hEn (fun k hk => by rw [upN_at, if_neg (by omega)]; exact lo_at hk) (by exact if_pos rfl)
        have hr9 := rz_rm hF hz hR hDr hR.2.2.2.2.1 hEn hE9
        have hl9 : pF (C 0 - 1) + 1 = (rzC C pg lg (C 0 - 1)).length := by unfold rzC; rw [List.length_append, rzL_len]; rfl
        refine v_ws (ws' := [oM hm r th pg lg wt al 0 (C 0 - 1) (pF (C 0 - 1)) tp an (pF (C 0 - 1) + 1), aB cB (r 0) 65536 (Cm), aN cI (r 1) 256 (Dr), aN cI (r 2) 65536 (lo (fun j => En (2 * j)) En (2 ^ (C 0 - 1))), aN cI (r 3) 65536 (Ot), aZ cZ (r 4) 256 (Ib), aN cI (r 5) 256 (Bd), aN cI (r 6) 256 (Mn), aN cI (r 7) 23040 (q).1, aN cI (r 8) 23040 (q).2.1, aL cJ (r 9) 46080 (q).2.2.1, aL cJ (r 10) 92160 (q).2.2.2, aN cI (r 13) 256 (Ou), aN cI (r 14) 256 (upN (lo Dr Cg (pF (C 0 - 1))) (pF (C 0 - 1)) 0)]) (by rfl) ?_
        refine v_aload_n (n := 165) k dX5_halves_164 rfl rfl ?_
        refine v_upV (n := 168) k [0, 1, 2, 3, 5, 6, 7, 8, 9, 10, 11, 12, 13] 0 (z_X5_changed (chs := rzC C pg lg (C 0 - 1)) (C := C) (by omega) (by omega) w2 w7 hG9 hC9 hl9 hch9.1 hT9 hA hal (fun a9 h9 => by
  rcases hch9.run hF hj h9 with ⟨-, h1, h2⟩ | ⟨h1, -⟩
  · have e9 : a9.1 0 = C 0 - 1 := by
      rw [h2.hd (by decide), rz_hd hF hz (by decide)]
      rfl
    rw [e9]
    exact ⟨rfl, rfl, hr9.ag (rz_full hF hz) h2⟩
  · cases h1) (fun a9 h9 => by
  rcases hch9.run hF hj h9 with ⟨h1, -⟩ | ⟨-, h1⟩
  · cases h1
  · exact h1.2.2.2.ok h1.1)) miX5_changed ml_X5_156 (by decide) (by decide) rfl (by decide) rfl rfl rfl rfl (Nat.le_of_ble_eq_true rfl) ⟨Nat.zero_le _, Nat.zero_le _⟩ dX5_halves_165 rfl ?_
        rintro _ _ ⟨a9, s9, Cm9, Ou9, Dr9, En9, Ib9, Bd9, Mn9, q9, hst, rfl, hA9, hal9, hRM9, rfl⟩
        dsimp only [wput, List.set, Option.toList, List.nil_append, List.cons_append]
        refine v_iretU k hq ?_ rfl dX5_halves_168
        refine PST_mk ⟨a9, s9, Cm9, Dr9, En9, _, Ib9, Bd9, Mn9, q9, Ou9, _, _, ?_, rfl, ⟨hA9, hal9, hRM9, hC9⟩, rfl⟩
        unfold hvF
        rw [if_neg (by show ¬ (C 0 = 0 ∨ hbD C pg lg (C 0) = true); rw [hb9]; simp [hz9]), if_neg (by show ¬ lg < pF (C 0 - 1) + 1; omega), ← hst]
      · refine v_iconst (n := 77) k dX5_halves_76 rfl ?_
        refine v_iretU k hq ?_ rfl dX5_halves_77
        refine PST_mk ⟨(C, wt, al, 0), -1, Cm, Dr, En, Ot, Ib, Bd, Mn, q, Ou, Cg, ch, ?_, rfl, ⟨hA, hal, hR, hGc⟩, rfl⟩
        unfold hvF
        rw [if_neg (by show ¬ (C 0 = 0 ∨ hbD C pg lg (C 0) = true); rw [hb9]; simp [hz9]), if_pos (by show lg < pF (C 0 - 1) + 1; omega)]
    · have h8 := hR.2.2.1 i (by omega)
      refine v_aload_n (n := 20) k dX5_halves_19 rfl rfl ?_
      refine v_get (n := 23) k ciX5 0 12 (by decide) fl_X5_28 rfl rfl dX5_halves_20 rfl ?_
      refine v_iload_n (n := 24) k dX5_halves_23 rfl rfl ?_
      refine v_zaldN (n := 25) k 5 3 (i) rfl rfl (by omega) (by omega) (by omega) dX5_halves_24 rfl ?_
      refine v_if_eq (n := 28) (t := 43) k (bI_in _) dX5_halves_25 (by decide) rfl (fun c_25 => ?_) (fun c_25 => ?_)
      · refine v_iinc (n := 46) k dX5_halves_43 rfl (by decide) rfl rfl rfl ?_
        refine v_goto (t := 11) k dX5_halves_46 (by decide) ?_
        exact ih (i + 1) _ (by omega) (by omega) (by omega) (fun p hp => by
          rcases Nat.lt_or_ge p i with q9 | q9
          · exact e2 p q9
          · have e7 : p = i := by omega
            rw [e7]
            have h5 : ¬ kdN C lg i = 5 := by
              cases h9 : Ib i with
              | true => rw [bI_t h9] at c_25; exact absurd c_25 (by decide)
              | false => rw [h9] at h8; intro h; rw [h] at h8; exact absurd h8 (by decide)
            rw [beq_false_of_ne h5]
            rfl)
      · have h5 : kdN C lg i = 5 := by
          cases h9 : Ib i with
          | false => exact absurd (bI_f h9) c_25
          | true => rw [h9] at h8; exact beq_iff_eq.mp h8.symm
        have hmn := (hR.2.2.2.1 i (by omega) h5).1
        refine v_aload_n (n := 29) k dX5_halves_28 rfl rfl ?_
        refine v_get (n := 32) k ciX5 0 13 (by decide) fl_X5_32 rfl rfl dX5_halves_29 rfl ?_
        refine v_iload_n (n := 33) k dX5_halves_32 rfl rfl ?_
        refine v_ialdN (n := 34) k 6 0 (i) rfl rfl (by omega) (by omega) (by omega) dX5_halves_33 rfl ?_
        refine v_aload_n (n := 35) k dX5_halves_34 rfl rfl ?_
        refine v_get (n := 38) k ciX5 0 7 (by decide) fl_X5_95 rfl rfl dX5_halves_35 rfl ?_
        refine v_icmp_ne (n := 41) (t := 43) k (⟨by omega, by omega⟩) (⟨by omega, by omega⟩) dX5_halves_38 (by decide) rfl (fun c_38 => ?_) (fun c_38 => ?_)
        · refine v_iinc (n := 46) k dX5_halves_43 rfl (by decide) rfl rfl rfl ?_
          refine v_goto (t := 11) k dX5_halves_46 (by decide) ?_
          exact ih (i + 1) _ (by omega) (by omega) (by omega) (fun p hp => by
            rcases Nat.lt_or_ge p i with q9 | q9
            · exact e2 p q9
            · have e7 : p = i := by omega
              rw [e7]
              rw [beq_false_of_ne (show pb C i 0 ≠ C 0 by omega), Bool.and_false])
        · refine v_iconst (n := 42) k dX5_halves_41 rfl ?_
          refine v_iretU k hq ?_ rfl dX5_halves_42
          refine PST_mk ⟨(C, wt, al, 0), -1, Cm, Dr, En, Ot, Ib, Bd, Mn, q, Ou, Cg, ch, ?_, rfl, ⟨hA, hal, hR, hGc⟩, rfl⟩
          have hy9 : hbD C pg lg (C 0) = true := any_range (n := pg) (P := fun q => kdN C lg q == 5 && pb C q 0 == C 0) (i := i) (by omega) (by show (kdN C lg i == 5 && pb C i 0 == C 0) = true; rw [h5, show pb C i 0 = C 0 by omega]; simp)
          exact if_pos (Or.inr hy9)
set_option maxHeartbeats 1000000 in
set_option maxRecDepth 20000 in
theorem z_X5_halves {D : va_G} {cI cB cJ cZ : ClassId} {hm : Nat} {r : Nat → Nat} {th : Int} {pg lg : Nat} {wt al : Int} {tp an ch : Nat} {C : Nat → Nat} {Cm Dr En Ot : Nat → Nat} {Ib : Nat → Bool} {Bd Mn : Nat → Nat} {q : RQ} {Ou Cg : Nat → Nat} (hF : FULL C pg lg) (hj : pb C 1 0 = 0) (hA : AGP pg Cm C) (hal : in32 al) (hGc : ∀ j, Cg j < 256) (hR : RM C lg Dr En Ib Bd Mn q) : ∀ l, Up l yX5_halves cX5_halves 3 (some .int) ({ frames := 4, cells := 0, slots := 0, locals := 90 }) D (TY cI cB cJ cZ) [.ref hm] [oM hm r th pg lg wt al 0 (C 0) (pF (C 0)) tp an ch, aB cB (r 0) 65536 (Cm), aN cI (r 1) 256 (Dr), aN cI (r 2) 65536 (En), aN cI (r 3) 65536 (Ot), aZ cZ (r 4) 256 (Ib), aN cI (r 5) 256 (Bd), aN cI (r 6) 256 (Mn), aN cI (r 7) 23040 (q).1, aN cI (r 8) 23040 (q).2.1, aL cJ (r 9) 46080 (q).2.2.1, aL cJ (r 10) 92160 (q).2.2.2, aN cI (r 13) 256 (Ou), aN cI (r 14) 256 (Cg)] (PST cI cB cJ cZ hm r th pg lg tp an (hvF (C, wt, al, 0) pg lg)) := by
  intro l
  refine Up_of (by decide) (Nat.le_of_ble_eq_true rfl) (fun x k hq => ?_)
  obtain ⟨w1, w2, w3, w4, w5, w6, w7⟩ := id hF.1.1
  have h14 := hF.1.2.2.2
  have h15 : 2 ^ C 0 ≤ 2 ^ 14 := Nat.pow_le_pow_right (by decide) h14
  have h15b : (2 : Nat) ^ 14 = 16384 := by decide
  have h16 : 0 < 2 ^ C 0 := Nat.pow_pos (by decide)
  have hpf := pF_le15 w4
  refine v_aload_n (n := 1) k dX5_halves_0 rfl rfl ?_
  refine v_get (n := 4) k ciX5 0 7 (by decide) fl_X5_95 rfl rfl dX5_halves_1 rfl ?_
  refine v_if_ne (n := 7) (t := 9) k (⟨by omega, by omega⟩) dX5_halves_4 (by decide) rfl (fun c_4 => ?_) (fun c_4 => ?_)
  · refine v_iconst (n := 10) k dX5_halves_9 rfl ?_
    refine v_istore_n (n := 11) k dX5_halves_10 rfl (by decide) rfl rfl ?_
    exact lp_X5_halves1 k hq hF hj hA hal hGc hR (by omega) (pg + 1) 0 _ (by omega) (by omega) rfl (fun p hp => absurd hp (by omega))
  · refine v_iconst (n := 8) k dX5_halves_7 rfl ?_
    refine v_iretU k hq ?_ rfl dX5_halves_8
    refine PST_mk ⟨(C, wt, al, 0), -1, Cm, Dr, En, Ot, Ib, Bd, Mn, q, Ou, Cg, ch, ?_, rfl, ⟨hA, hal, hR, hGc⟩, rfl⟩
    unfold hvF
    rw [if_pos (Or.inl (by show C 0 = 0; omega))]
